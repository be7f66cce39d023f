theorem xall_zip {α : Type} {L : List α} {Q : α → Nat → Bool} (h : (L.zipIdx.all fun q => Q q.1 q.2) = true) {i : Nat} {a : α} (ha : L[i]? = some a) : Q a i = true :=
  List.all_eq_true.mp h (a, i) (List.mem_iff_getElem?.mpr ⟨i, by rw [List.getElem?_zipIdx, ha]; simp⟩)
theorem xMf_inv {j : Nat} {M : x_M} (h : xMf j = some M) : ∃ ix, xMi[j]? = some (ix, xo M, xa M, xmc M, xms M) ∧ xg ix = some (.code (xy M) (xb M) (xn M) (xr M)) := by
  unfold xMf at h
  split at h
  · cases h
  · rename_i hi
    split at h
    · rename_i hg
      cases h
      exact ⟨_, hi, hg⟩
    · cases h
set_option maxHeartbeats 4000000 in
theorem xZ_ok {fm : Value} (hfm : fm = .null ∨ fm = .ref 2000000) : xZok xZ (xY fm) xTs := by
  have hMM : ∀ j M, xMf j = some M → Cond.code (xy M) (xb M) (xn M) (xr M) ∈ xTs ∧ Cond.initialized (xy M).cls ∈ xTs ∧ plainName (xy M).cls = true ∧ (xy M).cls = xnmF (xo M) ∧ ((xy M).cls ≠ "java/lang/invoke/MethodHandle" ∧ (xy M).cls ≠ "java/lang/invoke/VarHandle" ∧ (parseMethodDescriptor (xy M).desc).map (fun d => d.parameters.length) = some (xa M)) ∧ xn M ≤ 45 := by
    intro j M h
    obtain ⟨ix, h1, h2⟩ := xMf_inv h
    have h3 := List.all_eq_true.mp zk_M _ (List.mem_of_getElem? h1)
    simp only [xMk, h2, Bool.and_eq_true, decide_eq_true_eq] at h3
    obtain ⟨⟨⟨⟨⟨⟨g1, g2⟩, g3⟩, g4⟩, g5⟩, g6⟩, g7⟩ := h3
    exact ⟨xtm h2 rfl, xis_mem g1, g2, g3, ⟨g4, g5, g6⟩, g7⟩
  refine ⟨?_, ?_, ?_, ?_, ?_, hMM, ?_, ?_, ?_, ⟨xis_mem zk_ob.1, xis_mem zk_ob.2⟩, ⟨xis_mem zk_arr.1, xis_mem zk_arr.2.1, xis_mem zk_arr.2.2.1, xis_mem zk_arr.2.2.2.1, xis_mem zk_arr.2.2.2.2⟩, fun w hw => (List.mem_filter.mp hw).2, ?_, ?_, ?_⟩
  · intro ci q hq
    have hw := xall_zip (Q := fun a i => xCw i a) zk_Cw hq
    have ht := List.all_eq_true.mp zk_Ct q (List.mem_of_getElem? hq)
    have hn := List.all_eq_true.mp zk_Nd q (List.mem_of_getElem? hq)
    have hw := of_decide_eq_true hw
    have hn := of_decide_eq_true hn
    refine ⟨fun w h => ?_, fun k hk => ?_, fun a ha b hb hab => ?_⟩
    · have h1 : some w ∈ (u_ws q.1 q.2.1 q.2.2).map some := List.mem_map.mpr ⟨w, h, rfl⟩
      rw [hw] at h1
      obtain ⟨i, -, hi⟩ := List.mem_map.mp h1
      refine xtm hi ?_
      obtain ⟨k, -, rfl⟩ := List.mem_map.mp h
      unfold u_lay
      split <;> rfl
    · have := List.all_eq_true.mp ht k (List.mem_range.mpr hk)
      unfold xty
      cases hp : parseFieldDescriptor (q.2.1 k).2.2.1 with
      | none => rw [hp] at this; cases this
      | some t => rfl
    · intro e
      have hla : a < ((List.range q.2.2).map fun k => (q.2.1 k).2.1).length := by simpa using ha
      have hlb : b < ((List.range q.2.2).map fun k => (q.2.1 k).2.1).length := by simpa using hb
      have hp := List.pairwise_iff_getElem.mp hn
      rcases Nat.lt_or_gt_of_ne hab with h | h
      · exact hp a b hla hlb h (by simpa using e)
      · exact hp b a hlb hla h (by simpa using e.symm)
  · intro o idx ci k h
    obtain ⟨⟨c1, k1, i1⟩, h1, h2⟩ := Option.map_eq_some_iff.mp h
    cases h2
    have h3 := xlo_all h1 zk_F
    unfold xFk at h3
    dsimp only at h3
    split at h3
    · cases h3
    · rename_i q hq
      simp only [Bool.and_eq_true, decide_eq_true_eq] at h3
      exact ⟨q, hq, h3.1.1, xis_mem h3.1.2, h3.2⟩
  · intro o idx v h
    obtain ⟨⟨c1, i1⟩, h1, h2⟩ := Option.map_eq_some_iff.mp h
    cases h2
    exact xis_mem (xlo_all h1 zk_Kc)
  · intro o idx v h
    obtain ⟨⟨c1, i1⟩, h1, h2⟩ := Option.map_eq_some_iff.mp h
    cases h2
    exact xis_mem (xlo_all h1 zk_Kl)
  · intro o idx ci h
    obtain ⟨⟨c1, i1, i2, i3⟩, h1, h2⟩ := Option.map_eq_some_iff.mp h
    cases h2
    have h3 := xlo_all h1 zk_C
    unfold xCk at h3
    dsimp only at h3
    split at h3
    · cases h3
    · rename_i q hq
      simp only [Bool.and_eq_true] at h3
      exact ⟨q, hq, xis_mem h3.1.1, xis_mem h3.1.2, xis_mem h3.2⟩
  · intro o idx j kd M h hM
    obtain ⟨⟨k1, j1, i1, i2, i3⟩, h1, h2⟩ := Option.map_eq_some_iff.mp h
    cases h2
    have h3 := xlo_all h1 zk_L
    have hM' : xMf j1 = some M := hM
    refine ⟨fun e => ?_, fun e => ?_, fun e => ?_, fun e => ?_, fun e => ?_⟩
    · subst e
      simp only [xLk, hM', Nat.beq, cond_false, Bool.and_eq_true] at h3
      exact ⟨xis_mem h3.1.1, xis_mem h3.1.2, xis_mem h3.2⟩
    · subst e
      simp only [xLk, hM', Nat.beq, cond_false, Bool.and_eq_true] at h3
      exact ⟨xis_mem h3.1, xis_mem h3.2⟩
    · subst e
      simp only [xLk, hM', Nat.beq, cond_false, Bool.and_eq_true, decide_eq_true_eq] at h3
      exact ⟨xis_mem h3.1.1.1, xis_mem h3.1.1.2, h3.1.2, h3.2⟩
    · subst e
      simp only [xLk, hM', Nat.beq, cond_false, Bool.and_eq_true, decide_eq_true_eq] at h3
      exact ⟨⟨_, h3.1.1.1⟩, xis_mem h3.1.1.2, h3.1.2, h3.2⟩
    · subst e
      simp only [xLk, hM', Nat.beq, cond_false, Bool.and_eq_true, decide_eq_true_eq] at h3
      exact ⟨xis_mem h3.1.1.1, xis_mem h3.1.1.2, xis_mem h3.1.2, h3.2⟩
  · intro o idx j kd h
    obtain ⟨⟨k1, j1, i1, i2, i3⟩, h1, h2⟩ := Option.map_eq_some_iff.mp h
    cases h2
    have h3 := xlo_all h1 zk_L
    refine ⟨fun e => ?_, fun e => ?_, fun e => ?_⟩
    · subst e
      simp only [xLk, Nat.beq, cond_false, cond_true, Bool.and_eq_true] at h3
      exact ⟨xis_mem h3.1.1.1, xis_mem h3.1.1.2, xis_mem h3.1.2, xis_mem h3.2⟩
    · subst e
      simp only [xLk, Nat.beq, cond_false, cond_true, Bool.and_eq_true] at h3
      exact ⟨xis_mem h3.1.1.1, xis_mem h3.1.1.2, xis_mem h3.1.2, xis_mem h3.2⟩
    · subst e
      simp only [xLk, Nat.beq, cond_false, cond_true, Bool.and_eq_true] at h3
      exact ⟨xis_mem h3.1.1.1, xis_mem h3.1.1.2, xis_mem h3.1.2, xis_mem h3.2⟩
  · intro o idx j h
    obtain ⟨⟨k1, j1, i1, i2, i3⟩, h1, h2⟩ := Option.map_eq_some_iff.mp h
    cases h2
    have h3 := xlo_all h1 zk_L
    simp only [xLk, Nat.beq, cond_true] at h3
    exact xis_mem h3
  · intro o q hq
    exact of_decide_eq_true (xall_zip (Q := fun a i => decide (a.1 = xnmF i)) zk_Nm hq)
  · intro o idx k h
    obtain ⟨⟨c1, i1⟩, h1, h2⟩ := Option.map_eq_some_iff.mp h
    cases h2
    have h3 := xlo_all h1 zk_yF
    refine ⟨fun e => ?_, fun e => ?_⟩
    · subst e
      exact xis_mem h3
    · subst e
      exact xis_mem h3
  · intro o idx g h
    obtain ⟨⟨g1, i1⟩, h1, h2⟩ := Option.map_eq_some_iff.mp h
    cases h2
    rcases hfm with rfl | rfl
    · have h3 := xlo_all h1 zk_yG0
      simp only [yGk, Bool.and_eq_true] at h3
      exact ⟨xis_mem h3.1, h3.2⟩
    · have h3 := xlo_all h1 zk_yG1
      simp only [yGk, Bool.and_eq_true] at h3
      exact ⟨xis_mem h3.1, h3.2⟩
