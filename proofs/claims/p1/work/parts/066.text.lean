theorem xTx_inv {Y : x_Y} {b w k : Nat} (h : xTx Y b w = some k) (hw : w < 2) : b = 1000000 + 2 * k + w ∧ k < yN Y := by
  unfold xTx at h
  split at h
  · rename_i hc
    cases h
    exact ⟨by omega, hc.2.2⟩
  · cases h
section XS2
variable {p : Program} {l : Launch} {e : Env} {R : Room} {s : State} {m : MethodId} {args : Array Value} {below : List Frame} {meth : Method} {c : Code} {H : Heap} {locs : List Loc} {cells slots : Nat} {Q : State → Prop}
set_option maxHeartbeats 4000000 in
theorem xs2_ok {Z : x_T} {Y : x_Y} {Ts : List Cond} {cc : ByteArray} {o : Nat} {i : Instr} {len pc pc' : Nat} {st st' : List Value} {ls : Array Slot} {ρ0 ρ : Nat → Nat} {A : Nat → Prop} (hx : p.tables.exec = Jvm.exec) (hb : c.code = cc) (hts : ∀ w ∈ Ts, w.before args s = true) (hown : s.vm.findClass (znm Z o) = some m.cls)
    (hyF : ∀ (o idx k : Nat), yF Y o idx = some k → (k = 0 → Cond.fieldLink (znm Z o) idx "java/lang/String" "value" "[B" ∈ Ts) ∧ (k = 1 → Cond.fieldLink (znm Z o) idx "java/lang/String" "coder" "B" ∈ Ts)) (hyG : ∀ (o idx : Nat) g, yG Y o idx = some g → Cond.fieldLink (znm Z o) idx g.2.1 g.2.2.1 g.2.2.2 ∈ Ts ∧ xok 0 g.1 = true)
    (hE : xEnv Z Y ρ0 A s s.heap) (hag : ∀ i, 1000000 ≤ i → ρ i = ρ0 i) (hS : va_S A s.heap H locs) (hdg : decode cc pc = .ok (i, len)) (h : xs2 Y o i len pc st = some (pc', st'))
    (kk : W p l e R s m args below meth c H locs cells slots Q (F0 m pc' ls (st'.map (xv ρ)))) : W p l e R s m args below meth c H locs cells slots Q (F0 m pc ls (st.map (xv ρ))) := by
  obtain ⟨hE1, hE2, hE3, -⟩ := hE
  have a1 : ∀ k : Nat, ρ0 (1000000 + 2 * k) = ρ (1000000 + 2 * k) := fun k => (hag _ (by omega)).symm
  have a2 : ∀ k : Nat, ρ0 (1000001 + 2 * k) = ρ (1000001 + 2 * k) := fun k => (hag _ (by omega)).symm
  have a3 : ∀ k : Nat, 1000000 + 2 * k + 1 = 1000001 + 2 * k := fun k => by omega
  unfold xs2 at h
  split at h
  · rename_i idx
    split at h
    · rename_i hlen
      subst hlen
      obtain ⟨k, hk, he⟩ := Option.map_eq_some_iff.mp h
      cases he
      obtain ⟨tx, hr⟩ := hE2 o idx k hk
      rw [a1] at hr
      exact va_ldcS hx hb hown hr hdg kk
    · cases h
  · rename_i idx
    split at h
    · rename_i hlen
      subst hlen
      obtain ⟨g, hg, he⟩ := Option.map_eq_some_iff.mp h
      cases he
      have e3 : xv ρ g.1 = xv ρ0 g.1 := xv_of (n := 0) (fun i hi => hag i (by omega)) (hyG o idx g hg).2
      have hz := hE3 o idx g hg
      rw [← e3] at hz
      exact va_gets hx hb hz hS hown (hts _ (hyG o idx g hg).1) (fun _ z => z) hdg kk
    · cases h
  · rename_i idx
    split at h
    · split at h
      · rename_i hlen
        subst hlen
        split at h
        · rename_i hk hf
          cases h
          obtain ⟨e0, hk2⟩ := xTx_inv hk (by omega)
          subst e0
          have hv : va_OF "java/lang/String" "value" "[B" (.ref (ρ0 (1000001 + 2 * _))) (ρ0 (1000000 + 2 * _)) A s s.heap := (hE1.1 _ hk2).2.2.1
          rw [a1, a2] at hv
          exact vk_getf hx hb hv hS hown (hts _ ((hyF o idx 0 hf).1 rfl)) (fun _ z => z) hdg kk
        · rename_i hk hf
          cases h
          obtain ⟨e0, hk2⟩ := xTx_inv hk (by omega)
          subst e0
          have hv : va_OF "java/lang/String" "coder" "B" (.int 0) (ρ0 (1000000 + 2 * _)) A s s.heap := (hE1.1 _ hk2).2.1
          rw [a1] at hv
          exact vk_getf hx hb hv hS hown (hts _ ((hyF o idx 1 hf).2 rfl)) (fun _ z => z) hdg kk
        · cases h
      · cases h
    · cases h
  · split at h
    · split at h
      · rename_i hk
        split at h
        · rename_i hc
          obtain ⟨rfl, hc⟩ := hc
          cases h
          obtain ⟨e0, hk2⟩ := xTx_inv hk (by omega)
          rw [a3] at e0
          subst e0
          have hv : va_T .byte (ρ0 (1000001 + 2 * _)) _ _ A s s.heap := (hE1.1 _ hk2).2.2.2
          rw [a2] at hv
          exact va_tb hx hb hv hS hc rfl hdg kk
        · cases h
      · cases h
    · cases h
  · split at h
    · split at h
      · rename_i hk
        split at h
        · rename_i hc
          subst hc
          cases h
          obtain ⟨e0, hk2⟩ := xTx_inv hk (by omega)
          rw [a3] at e0
          subst e0
          have hv : va_T .byte (ρ0 (1000001 + 2 * _)) _ _ A s s.heap := (hE1.1 _ hk2).2.2.2
          rw [a2] at hv
          exact va_tlen hx hb hv hS rfl hdg kk
        · cases h
      · cases h
    · cases h
  · cases h
end XS2
