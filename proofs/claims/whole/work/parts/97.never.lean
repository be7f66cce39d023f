/-- a method that dies never returns, whatever its invoker, if that is no native frame -/
theorem dz_never {l : Launch} {y : MethodName} {ws : List Cond} {rm : Room} {Pc : Array Value → State → Prop} (hM : dzM l y ws rm Pc) (p : Program) {e : Env} (ha : l.admits e) (hc : FairCas e.choices) (hk : FairClock e.choices) {s : State} {m : MethodId} {args : Array Value} {below : List Frame} (hf : s.frames = .invoking m args :: below) (happ : (headSpec ws rm).appliesLoose y e.platform s = true) (hP : Pc args s) (hb : ∀ g r, below ≠ .native g :: r) (n : Nat) (hw : ∀ k, k < n → Within (stepsAlone p.tables e k s) below) (v : Option Value) : ¬ Ended (stepsAlone p.tables e n s) below (.returned v) := by
  intro hend
  obtain ⟨t, ⟨n0, ht, hw0⟩, hC⟩ := hM p e ha hc hk s m args below hf happ hP
  have hD := Refuse.Cert.doomed hC e
  by_cases hlt : n < n0
  · exact absurd (hw0 n hlt) hend.not_within
  · obtain ⟨r, rfl⟩ : ∃ r, n = n0 + r := ⟨n - n0, by omega⟩
    rw [stepsAlone_add, ht] at hend
    refine (hD r (fun k hk => ?_)).not_returned hb v hend
    have := hw (n0 + k) (by omega)
    rwa [stepsAlone_add, ht] at this
theorem dnMet_pD {b : Bool} {d j : Nat} {M : x_M} {hp : List x_E} {avs : List Value} (hj : zM xZ j = some M) (h : pD b [] d j 0 (lv_args 0 avs) [] hp) (hlen : (lg_sl avs).length ≤ xn M) (l : Launch) (D : va_G) (cA : Nat → ClassId) : dnMet b l D cA d M hp avs := by
  obtain ⟨f, h⟩ := h
  exact dnMet_of (dn_ok b l D cA f) hj h hlen
