theorem e_some {n : Nat} {z : Nat × List (Nat × Value) × List Value × List x_E} : xK n n (some z) = some z := if_pos rfl
theorem e_map {n : Nat} {α : Type} {o : Option α} {t : α} {F : α → Nat × List (Nat × Value) × List Value × List x_E} (ht : o = some t) : xK n n (o.map F) = some (F t) := by
  rw [ht]
  exact if_pos rfl
theorem e_bm {n : Nat} {α β : Type} {o : Option α} {q : α} {t : β} {G : α → Option β} {F : α → β → Nat × List (Nat × Value) × List Value × List x_E} (hq : o = some q) (ht : G q = some t) : xK n n (o.bind fun q => (G q).map (F q)) = some (F q t) := by
  rw [hq]
  show xK n n ((G q).map (F q)) = _
  rw [ht]
  exact if_pos rfl
theorem e_bi {n : Nat} {α : Type} {o : Option α} {q : α} {c : Prop} {i : Decidable c} {F : α → Nat × List (Nat × Value) × List Value × List x_E} (hq : o = some q) (hc : c) : xK n n (o.bind fun q => @ite _ c i (some (F q)) none) = some (F q) := by
  rw [hq]
  show xK n n (@ite _ c i (some (F q)) none) = _
  rw [if_pos hc]
  exact if_pos rfl
section EX
variable {m : Nat} {lv lv' : List (Nat × Value)} {i : Nat}
theorem xLIv_ext {v : Value} (hr : lvR m lv lv') (h : xLIv i lv = some v) : xLIv i lv' = some v := by
  unfold xLIv at h ⊢
  split at h
  · rename_i x e
    rw [hr.2.1 _ _ e]
    exact h
  · cases h
theorem xLLv_ext {v : Value} (hr : lvR m lv lv') (h : xLLv i lv = some v) : xLLv i lv' = some v := by
  unfold xLLv at h ⊢
  split at h
  · rename_i x e
    rw [hr.2.1 _ _ e]
    exact h
  · cases h
theorem xLAv_ext {v : Value} (hr : lvR m lv lv') (h : xLAv i lv = some v) : xLAv i lv' = some v := by
  unfold xLAv at h ⊢
  split at h
  · rename_i x e
    rw [hr.2.1 _ _ e]
    exact h
  · rename_i e
    rw [hr.2.1 _ _ e]
    exact h
  · cases h
theorem xLIn_ext {x : Int32} (hr : lvR m lv lv') (h : xLIn i lv = some x) : xLIn i lv' = some x := by
  unfold xLIn at h ⊢
  split at h
  · rename_i x e
    rw [hr.2.1 _ _ e]
    exact h
  · cases h
end EX
set_option maxHeartbeats 4000000 in
set_option maxRecDepth 20000 in
theorem xs1_ext {cl : List vw_C} {ini : Bool} {nL : Nat} {fl : Nat → Option (Nat × Nat)} {kc : Nat → Option Int32} {kl : Nat → Option Int64} {i : Instr} {len pc : Nat} {lv lv' : List (Nat × Value)} {st : List Value} {hp : List x_E} {pc' : Nat} {lv1 : List (Nat × Value)} {st' : List Value} {hp' : List x_E} {m : Nat} (hr : lvR m lv lv') (h : xs1 cl ini nL fl kc kl i len pc lv st hp = some (pc', lv1, st', hp')) : ∃ lv1', xs1 cl ini nL fl kc kl i len pc lv' st hp = some (pc', lv1', st', hp') ∧ lvR m lv1 lv1' := by
  cases i with
  | iload i =>
    obtain ⟨rfl, h⟩ := xK_eq h
    obtain ⟨t, ht, he⟩ := Option.map_eq_some_iff.mp h
    cases he
    exact ⟨lv', e_map (xLIv_ext hr ht), hr⟩
  | iload_n i =>
    obtain ⟨rfl, h⟩ := xK_eq h
    obtain ⟨t, ht, he⟩ := Option.map_eq_some_iff.mp h
    cases he
    exact ⟨lv', e_map (xLIv_ext hr ht), hr⟩
  | lload i =>
    obtain ⟨rfl, h⟩ := xK_eq h
    obtain ⟨t, ht, he⟩ := Option.map_eq_some_iff.mp h
    cases he
    exact ⟨lv', e_map (xLLv_ext hr ht), hr⟩
  | lload_n i =>
    obtain ⟨rfl, h⟩ := xK_eq h
    obtain ⟨t, ht, he⟩ := Option.map_eq_some_iff.mp h
    cases he
    exact ⟨lv', e_map (xLLv_ext hr ht), hr⟩
  | aload i =>
    obtain ⟨rfl, h⟩ := xK_eq h
    obtain ⟨t, ht, he⟩ := Option.map_eq_some_iff.mp h
    cases he
    exact ⟨lv', e_map (xLAv_ext hr ht), hr⟩
  | aload_n i =>
    obtain ⟨rfl, h⟩ := xK_eq h
    obtain ⟨t, ht, he⟩ := Option.map_eq_some_iff.mp h
    cases he
    exact ⟨lv', e_map (xLAv_ext hr ht), hr⟩
  | istore i =>
    obtain ⟨rfl, h⟩ := xK_eq h
    obtain ⟨q, hq, h⟩ := Option.bind_eq_some_iff.mp h
    split at h
    · rename_i hc
      cases h
      exact ⟨_, e_bi hq hc, lvR_S1 hr⟩
    · cases h
  | istore_n i =>
    obtain ⟨rfl, h⟩ := xK_eq h
    obtain ⟨q, hq, h⟩ := Option.bind_eq_some_iff.mp h
    split at h
    · rename_i hc
      cases h
      exact ⟨_, e_bi hq hc, lvR_S1 hr⟩
    · cases h
  | astore i =>
    obtain ⟨rfl, h⟩ := xK_eq h
    obtain ⟨q, hq, h⟩ := Option.bind_eq_some_iff.mp h
    split at h
    · rename_i hc
      cases h
      exact ⟨_, e_bi hq hc, lvR_S1 hr⟩
    · cases h
  | astore_n i =>
    obtain ⟨rfl, h⟩ := xK_eq h
    obtain ⟨q, hq, h⟩ := Option.bind_eq_some_iff.mp h
    split at h
    · rename_i hc
      cases h
      exact ⟨_, e_bi hq hc, lvR_S1 hr⟩
    · cases h
  | lstore i =>
    obtain ⟨rfl, h⟩ := xK_eq h
    obtain ⟨q, hq, h⟩ := Option.bind_eq_some_iff.mp h
    split at h
    · rename_i hc
      cases h
      exact ⟨_, e_bi hq hc, lvR_S2 hr⟩
    · cases h
  | lstore_n i =>
    obtain ⟨rfl, h⟩ := xK_eq h
    obtain ⟨q, hq, h⟩ := Option.bind_eq_some_iff.mp h
    split at h
    · rename_i hc
      cases h
      exact ⟨_, e_bi hq hc, lvR_S2 hr⟩
    · cases h
  | iinc i n =>
    obtain ⟨rfl, h⟩ := xK_eq h
    obtain ⟨q, hq, h⟩ := Option.bind_eq_some_iff.mp h
    split at h
    · rename_i hc
      cases h
      exact ⟨_, e_bi (xLIn_ext hr hq) hc, lvR_S1 hr⟩
    · cases h
  | tableswitch d lo hi offs =>
    obtain ⟨q, hq, h⟩ := Option.bind_eq_some_iff.mp h
    obtain ⟨off, ho, h⟩ := Option.bind_eq_some_iff.mp h
    obtain ⟨t, ht, he⟩ := Option.map_eq_some_iff.mp h
    cases he
    refine ⟨lv', ?_, hr⟩
    show (Option.bind _ _) = _
    rw [hq, Option.bind_some, ho, Option.bind_some, ht]
    rfl
  | lookupswitch d ps =>
    dsimp only [xs1] at h ⊢
    split at h
    · rename_i hc
      obtain ⟨q, hq, h⟩ := Option.bind_eq_some_iff.mp h
      obtain ⟨t, ht, he⟩ := Option.map_eq_some_iff.mp h
      cases he
      refine ⟨lv', ?_, hr⟩
      rw [if_pos hc, hq, Option.bind_some, ht]
      rfl
    · cases h
  | if_icmp cn off =>
    obtain ⟨rfl, h⟩ := xK_eq h
    obtain ⟨q, hq, h⟩ := Option.bind_eq_some_iff.mp h
    obtain ⟨q2, hq2, h⟩ := Option.bind_eq_some_iff.mp h
    obtain ⟨t, ht, he⟩ := Option.map_eq_some_iff.mp h
    cases he
    refine ⟨lv', ?_, hr⟩
    show xK 3 3 (Option.bind _ _) = _
    rw [hq, Option.bind_some, hq2, Option.bind_some]
    exact e_map ht
  | _ => first
    | (cases h; done)
    | (obtain ⟨rfl, h⟩ := xK_eq h; cases h; exact ⟨lv', e_some, hr⟩)
    | (obtain ⟨rfl, h⟩ := xK_eq h; obtain ⟨t, ht, he⟩ := Option.map_eq_some_iff.mp h; cases he; exact ⟨lv', e_map ht, hr⟩)
    | (obtain ⟨rfl, h⟩ := xK_eq h; obtain ⟨q, hq, h⟩ := Option.bind_eq_some_iff.mp h; obtain ⟨t, ht, he⟩ := Option.map_eq_some_iff.mp h; cases he; exact ⟨lv', e_bm hq ht, hr⟩)
