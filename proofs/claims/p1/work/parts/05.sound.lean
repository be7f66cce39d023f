theorem xSplit_inv {n : Nat} {st As r : List Value} (h : xSplit n st = some (As, r)) : st = As.reverse ++ r ∧ As.length = n := by
  unfold xSplit at h
  split at h
  · rename_i hn
    cases h
    refine ⟨by rw [List.reverse_reverse, List.take_append_drop], by rw [List.length_reverse, List.length_take]; omega⟩
  · cases h
theorem xv_of {ρ ρ' : Nat → Nat} {n : Nat} (hag : ∀ i, i < n ∨ 1000000 ≤ i → ρ' i = ρ i) {v : Value} (h : xok n v = true) : xv ρ' v = xv ρ v := by
  cases v with
  | ref i =>
    simp only [xok, Bool.or_eq_true, decide_eq_true_eq] at h
    show Value.ref (ρ' i) = Value.ref (ρ i)
    rw [hag i h]
  | _ => rfl
theorem xv_ofs {ρ ρ' : Nat → Nat} {n : Nat} (hag : ∀ i, i < n ∨ 1000000 ≤ i → ρ' i = ρ i) {st : List Value} (h : st.all (xok n) = true) : st.map (xv ρ') = st.map (xv ρ) := by
  apply List.map_congr_left
  intro v hv
  exact xv_of hag (List.all_eq_true.mp h v hv)
theorem xq_ofs {ρ ρ' : Nat → Nat} {n : Nat} (hag : ∀ i, i < n ∨ 1000000 ≤ i → ρ' i = ρ i) {lv : List (Nat × Value)} (h : lv.all (fun q => xok n q.2) = true) : lv.map (xq ρ') = lv.map (xq ρ) := by
  apply List.map_congr_left
  intro q hq
  show (q.1, xv ρ' q.2) = (q.1, xv ρ q.2)
  rw [xv_of hag (List.all_eq_true.mp h q hq)]
theorem xe_of {ρ ρ' : Nat → Nat} {cA : Nat → ClassId} {n : Nat} (hag : ∀ i, i < n ∨ 1000000 ≤ i → ρ' i = ρ i) {x : x_E} (h : xokE n x = true) : xe ρ' cA x = xe ρ cA x := by
  cases x with
  | inl a => rfl
  | inr o =>
    obtain ⟨ci, fs⟩ := o
    show (Sum.inr (ci, fs.map (xv ρ')) : va_E) = Sum.inr (ci, fs.map (xv ρ))
    rw [xv_ofs hag h]
/-- the world, one cell more -/
theorem xw_push {ρ : Nat → Nat} {cA : Nat → ClassId} {hp : List x_E} {x : x_E} {q : Nat} (hal : hp.all (xokE hp.length) = true) (hlt : hp.length < 1000000) {y : va_E} (hy : ∀ ρ', xe ρ' cA x = y) : xw (fun j => if j = hp.length then q else ρ j) cA (hp ++ [x]) = xw ρ cA hp ++ [(q, y)] := by
  apply List.ext_getElem?
  intro j
  rw [xw_get]
  by_cases h : j < hp.length
  · rw [List.getElem?_append_left h, List.getElem?_append_left (by rw [xw_len]; exact h), xw_get]
    cases hj : hp[j]? with
    | none => rfl
    | some z =>
      have hz : xokE hp.length z = true := List.all_eq_true.mp hal z (List.mem_of_getElem? hj)
      simp only [Option.map_some]
      rw [if_neg (by omega), xe_of (ρ' := fun j => if j = hp.length then q else ρ j) (ρ := ρ) (n := hp.length) (fun i hi => by rw [if_neg (by omega)]) hz]
  · rw [List.getElem?_append_right (by omega), List.getElem?_append_right (by rw [xw_len]; omega), xw_len]
    by_cases e : j = hp.length
    · subst e
      simp [hy]
    · have : j - hp.length = (j - hp.length - 1) + 1 := by omega
      rw [this]
      simp
theorem xK0 {D : va_G} {cl : List vw_C} {cA : Nat → ClassId} {s : State} (hK : va_K D cl (x_tys cA) s) {t : Nat} {ty : FieldType} (ht : (x_tys cA)[t]? = some (cA t, ty)) {cB : ClassId} (hB : va_K D cl (x_tys cA ++ [(cB, ty)]) s) (hp : ∀ C, ty ≠ .object C) : cB = cA t := by
  have h1 := (hK.2 t _ ht).2
  have h2 := (hB.2 5 (cB, ty) rfl).2
  have e1 : s.vm.findClass ("[" ++ ty.toString) = some (cA t) := by
    cases ty with
    | object C => exact absurd rfl (hp C)
    | _ => exact h1
  have e2 : s.vm.findClass ("[" ++ ty.toString) = some cB := by
    cases ty with
    | object C => exact absurd rfl (hp C)
    | _ => exact h2
  exact Option.some.inj (e2.symm.trans e1)
section XC
variable {p : Program} {l : Launch} {e : Env} {R : Room} {s : State} {m : MethodId} {args : Array Value} {below : List Frame} {meth : Method} {c : Code} {H : Heap} {locs : List Loc} {cells slots : Nat} {Q : State → Prop}
variable {pc : Nat} {ls : Array Slot} {rest st0 : List Value} {a : Array Value} {A0 A1 : Nat → Prop} {H0 : Heap} {mc ms : Nat} {free : Addr → Prop}
theorem x_call {D : va_G} {cl : List vw_C} {cA : Nat → ClassId} {ρ : Nat → Nat} {n0 : Nat} {rv : Option Value} {hp' : List x_E} (hr : va_Run p l e R s m args below meth c H locs cells slots mc ms (F0 m pc ls st0) rest (xQc D cl cA ρ n0 rv hp' A1 a) free) (hS : va_S A0 H0 H locs) (hA : ∀ q, q < H.size → A1 q → A0 q) (hf : ∀ q, free q → A0 q)
    (kk : ∀ (ρ1 : Nat → Nat) (t : State) (H1 : Heap) (locs1 : List Loc), t.heap = H1 → s.vm.Alike t.vm → (∀ i, i < n0 ∨ 1000000 ≤ i → ρ1 i = ρ i) → va_P D cl (xw ρ1 cA hp') t.heap → va_K D cl (x_tys cA) t → va_D A1 (xw ρ1 cA hp') → va_S A0 H0 H1 locs1 → W p l e R s m args below meth c H1 locs1 (cells + mc) (slots + ms) Q (F0 m (pc + 3) ls ((rv.map (xv ρ1)).toList ++ rest))) : W p l e R s m args below meth c H locs cells slots Q (F0 m pc ls st0) := by
  intro T hT X
  obtain ⟨v, st₀, t, T', L, h0, X', hL, e1, e2, ⟨⟨ρ1, hv, hag, hP1, hK1, hD1⟩, hz, hk⟩, st⟩ := hr T hT X
  cases hv
  rw [h0] at hz hk
  obtain ⟨t2, a1, b1⟩ := kk ρ1 t T'.heap (locs ++ L) e1.symm (by rw [← e2]; exact X'.warmed.alike) hag hP1 hK1 hD1
    ⟨Nat.le_trans hS.1 (by rw [e1]; exact hz), fun q h1 h2 => by rw [e1, hk q (Nat.lt_of_lt_of_le h1 hS.1) (fun z => h2 (hA q (Nat.lt_of_lt_of_le h1 hS.1) z))]; exact hS.2.1 q h1 h2, fun q hq => by
      rcases List.mem_append.mp hq with h | h
      · exact hS.2.2 q h
      · exact hf _ (hL q h)⟩ T' rfl X'
  exact ⟨t2, st t2 a1, b1⟩
end XC
/-- the contract of a run -/
def xMet (Z : x_T) (Y : x_Y) (Ts : List Cond) (l : Launch) (D : va_G) (cA : Nat → ClassId) (d : Nat) (M : x_M) (hp : List x_E) (avs : List Value) (rv : Option Value) (hp' : List x_E) : Prop :=
  ∀ (ρ : Nat → Nat) (sz : Nat), Met l (xy M) (Cond.code (xy M) (xb M) (xn M) (xr M) :: Ts) (xrm d (xmc M) (xms M)) (xPc Z Y D (zcl Z) cA ρ hp avs sz) (xQc D (zcl Z) cA ρ hp.length rv hp' (va_A (xw ρ cA hp) sz)) (xmc M) (xms M) (va_A (xw ρ cA hp) sz)
/-- the walk of a run -/
def xWst (Z : x_T) (Y : x_Y) (Ts : List Cond) (l : Launch) (D : va_G) (cA : Nat → ClassId) (f : Nat) : Prop :=
  ∀ (d : Nat) (M : x_M) (j : Nat) (pc : Nat) (lv : List (Nat × Value)) (st : List Value) (hp : List x_E) (k n : Nat) (rv : Option Value) (hp' : List x_E), zM Z j = some M → brun Z Y f d M pc lv st hp k n = some (rv, hp') →
  ∀ (p : Program) (e : Env) (s : State) (m : MethodId) (args : Array Value) (below : List Frame) (meth : Method) (c : Code) (H : Heap) (locs : List Loc) (ls : Array Slot) (ρ0 ρ : Nat → Nat) (n0 : Nat) (A : Nat → Prop),
  p.tables.exec = Jvm.exec → c.code = xb M → c.maxLocals = xn M → meth.sig.returnType = xr M → meth.locks = false → meth.name = (xy M).name → (∀ w ∈ Ts, w.before args s = true) → s.vm.findClass (xy M).cls = some m.cls → va_K D (zcl Z) (x_tys cA) s → (∀ q, s.heap.size ≤ q → A q) →
  (va_P D (zcl Z) (xw ρ cA hp) H ∧ va_D A (xw ρ cA hp) ∧ va_S A s.heap H locs) → lv_has ls (xn M) (lv.map (xq ρ)) → (∀ i, i < n0 ∨ 1000000 ≤ i → ρ i = ρ0 i) → n0 ≤ hp.length → k ≤ xmc M → n ≤ xms M → xEnv Z Y ρ0 A s s.heap →
  W p l e (xrm d (xmc M) (xms M)) s m args below meth c H locs k n (MQ below (xQc D (zcl Z) cA ρ0 n0 rv hp' A) args s (xmc M) (xms M) A) (F0 m pc ls (st.map (xv ρ)))
set_option maxHeartbeats 4000000 in
set_option maxRecDepth 20000 in
theorem xMet_of {Z : x_T} {Y : x_Y} {Ts : List Cond} {l : Launch} {D : va_G} {cA : Nat → ClassId} {f : Nat} (hZ : xZok Z Y Ts) (hW : xWst Z Y Ts l D cA f) {d : Nat} {M : x_M} {j : Nat} {hp : List x_E} {avs : List Value} {rv : Option Value} {hp' : List x_E} (hj : zM Z j = some M) (h : brun Z Y f d M 0 (lv_args 0 avs) [] hp 0 0 = some (rv, hp')) (hlen : (lg_sl avs).length ≤ xn M) : xMet Z Y Ts l D cA d M hp avs rv hp' := by
  intro ρ sz
  obtain ⟨-, -, -, -, -, hM, -⟩ := hZ
  obtain ⟨hc1, hc2, hc3, hc4, hc5, hc6⟩ := hM j M hj
  refine Met.ofW (cc := xb M) (maxL := xn M) (ret := xr M) hc3 rfl ?_
  intro p e s m args below meth c s₁ B hml hv
  obtain ⟨rfl, hsz, hP, hK, hD0, hE⟩ := hv
  have hts0 := atoms_spec (ws := Cond.code (xy M) (xb M) (xn M) (xr M) :: Ts) B.pre
  have hown : s.vm.findClass (xy M).cls = some m.cls := findClass_of_methodNamed B.named
  subst hsz
  have hsl : ∀ vs : List Value, lg_sl (vs.map (xv ρ)) = (lg_sl vs).map (fun q => match q with | .val v => Slot.val (xv ρ v) | q => q) := by
    intro vs
    induction vs with
    | nil => rfl
    | cons v vs ih =>
      simp only [lg_sl, List.map_cons, List.flatMap_cons, List.map_append] at ih ⊢
      rw [ih, xv_cat]
      congr 1
      by_cases hc : v.category = 2
      · simp [hc]
      · simp [hc]
  have hargs : ∀ (vs : List Value) (i : Nat), lv_args i (vs.map (xv ρ)) = (lv_args i vs).map (xq ρ) := by
    intro vs
    induction vs with
    | nil => intro i; rfl
    | cons v vs ih =>
      intro i
      simp only [List.map_cons, lv_args, xv_cat]
      rw [ih]
      rfl
  have hl := lv_entry (avs.map (xv ρ)) (n := xn M) (by rw [hsl, List.length_map]; exact hlen)
  rw [hargs] at hl
  rw [lg_entry_eq]
  exact hW d M j 0 (lv_args 0 avs) [] hp 0 0 rv hp' hj h p e s m _ below meth c s.heap [] _ ρ ρ hp.length (va_A (xw ρ cA hp) s.heap.size) B.exec B.bytes hml B.returns B.notSynchronized (name_of_methodNamed B.named B.method).1 (fun w hw => hts0 w (List.mem_cons_of_mem _ hw)) hown hK (fun q h => Or.inr h) ⟨hP, hD0.self, va_S.rf⟩ hl (fun _ _ => rfl) (Nat.le_refl _) (Nat.zero_le _) (Nat.zero_le _) hE

theorem xEnv_go {Z : x_T} {Y : x_Y} (hG : ∀ (o idx : Nat) g, yG Y o idx = some g → xok 0 g.1 = true) {ρ0 ρ : Nat → Nat} {A A1 : Nat → Prop} {s U : State} {H : Heap} {locs : List Loc} (h : xEnv Z Y ρ0 A s s.heap) (hS : va_S A s.heap H locs) (hA : ∀ q, A1 q → A q) (hag : ∀ i, 1000000 ≤ i → ρ i = ρ0 i) (hW : s.WarmedH U.vm) (hU : U.heap = H) : xEnv Z Y ρ A1 U U.heap := by
  obtain ⟨h1, h2, h3, h4⟩ := h
  have e1 : (fun i => ρ (1000000 + 2 * i)) = (fun i => ρ0 (1000000 + 2 * i)) := funext fun i => hag _ (by omega)
  have e2 : (fun i => ρ (1000001 + 2 * i)) = (fun i => ρ0 (1000001 + 2 * i)) := funext fun i => hag _ (by omega)
  refine ⟨?_, ?_, ?_, fun q hq => (h4 q hq).warmM hW⟩
  · rw [e1, e2, hU]
    exact ((h1.kept hS.2.1).narrow hA).moved hW.alike
  · intro o idx i hi
    obtain ⟨tx, hr⟩ := h2 o idx i hi
    exact ⟨tx, by rw [hag _ (by omega)]; exact hr.warm hW⟩
  · intro o idx g hg
    have e3 : xv ρ g.1 = xv ρ0 g.1 := xv_of (n := 0) (fun i hi => hag i (by omega)) (hG o idx g hg)
    rw [e3, hU]
    exact (((h3 o idx g hg).kept hS.2.1).narrow hA).moved hW.alike
