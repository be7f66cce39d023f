/-! MORE LOCALS DO NO HARM: a run with some locals is one with more of them (their references within the cells). -/
def lvR (m : Nat) (lv lv' : List (Nat × Value)) : Prop := (lv.map Prod.fst).Nodup ∧ (∀ i v, xLd lv i = some v → xLd lv' i = some v) ∧ ∀ q ∈ lv', q ∈ lv ∨ xok m q.2 = true
theorem xLd_filter {p : Nat × Value → Bool} {i : Nat} {v : Value} : ∀ {lv : List (Nat × Value)}, xLd lv i = some v → p (i, v) = true → xLd (lv.filter p) i = some v := by
  intro lv
  induction lv with
  | nil => intro h _; cases h
  | cons x r ih =>
    intro h hp
    unfold xLd at h
    split at h
    · rename_i e
      obtain ⟨a, w⟩ := x
      cases h
      dsimp only at e
      subst e
      rw [List.filter_cons_of_pos hp]
      unfold xLd
      rw [if_pos rfl]
    · rename_i e
      rw [List.filter_cons]
      split
      · unfold xLd
        rw [if_neg e]
        exact ih h hp
      · exact ih h hp
theorem xLd_of_mem {i : Nat} {v : Value} : ∀ {lv : List (Nat × Value)}, (lv.map Prod.fst).Nodup → (i, v) ∈ lv → xLd lv i = some v := by
  intro lv
  induction lv with
  | nil => intro _ h; cases h
  | cons x r ih =>
    intro hn h
    rw [List.map_cons, List.nodup_cons] at hn
    unfold xLd
    rcases List.mem_cons.mp h with h | h
    · subst h
      rw [if_pos rfl]
    · have hne : x.1 ≠ i := by
        intro e
        apply hn.1
        rw [e]
        exact List.mem_map.mpr ⟨(i, v), h, rfl⟩
      rw [if_neg hne]
      exact ih hn.2 h
theorem nd_filter {p : Nat × Value → Bool} : ∀ {lv : List (Nat × Value)}, (lv.map Prod.fst).Nodup → ((lv.filter p).map Prod.fst).Nodup := by
  intro lv hn
  exact List.Nodup.sublist (List.Sublist.map Prod.fst List.filter_sublist) hn
theorem lvR_set {m i : Nat} {lv lv' : List (Nat × Value)} {v : Value} {p : Nat × Value → Bool} (hp : ∀ w, p (i, w) = false) (h : lvR m lv lv') : lvR m ((i, v) :: lv.filter p) ((i, v) :: lv'.filter p) := by
  obtain ⟨hn, hl, hm⟩ := h
  refine ⟨?_, ?_, ?_⟩
  · rw [List.map_cons, List.nodup_cons]
    refine ⟨?_, nd_filter hn⟩
    intro hi
    obtain ⟨⟨a, w⟩, hq, e⟩ := List.mem_map.mp hi
    dsimp only at e
    subst e
    rw [List.mem_filter, hp w] at hq
    exact absurd hq.2 (by decide)
  · intro k w hk
    unfold xLd at hk ⊢
    split at hk
    · rename_i e
      rw [if_pos e]
      exact hk
    · rename_i e
      rw [if_neg e]
      have hmem := xLd_mem hk
      rw [List.mem_filter] at hmem
      exact xLd_filter (hl k w (xLd_of_mem hn hmem.1)) hmem.2
  · intro q hq
    rcases List.mem_cons.mp hq with hq | hq
    · exact Or.inl (hq ▸ List.mem_cons_self)
    · rw [List.mem_filter] at hq
      rcases hm q hq.1 with h1 | h1
      · exact Or.inl (List.mem_cons_of_mem _ (List.mem_filter.mpr ⟨h1, hq.2⟩))
      · exact Or.inr h1
theorem lvR_S1 {m i : Nat} {lv lv' : List (Nat × Value)} {v : Value} (h : lvR m lv lv') : lvR m (xS1 lv i v) (xS1 lv' i v) := lvR_set (fun w => by simp) h
theorem lvR_S2 {m i : Nat} {lv lv' : List (Nat × Value)} {v : Value} (h : lvR m lv lv') : lvR m (xS2 lv i v) (xS2 lv' i v) := lvR_set (fun w => by simp) h
theorem xok_mono {m m' : Nat} (h : m ≤ m') {v : Value} (hv : xok m v = true) : xok m' v = true := by
  cases v with
  | ref i =>
    simp only [xok, Bool.or_eq_true, decide_eq_true_eq] at hv ⊢
    exact hv.imp_left (fun h1 => Nat.lt_of_lt_of_le h1 h)
  | _ => rfl
theorem lvR_mono {m m' : Nat} (h : m ≤ m') {lv lv' : List (Nat × Value)} (hr : lvR m lv lv') : lvR m' lv lv' := ⟨hr.1, hr.2.1, fun q hq => (hr.2.2 q hq).imp_right (xok_mono h)⟩
theorem lvR_all {m m' : Nat} (h : m ≤ m') {lv lv' : List (Nat × Value)} (hr : lvR m lv lv') (ha : lv.all (fun q => xok m' q.2) = true) : lv'.all (fun q => xok m' q.2) = true := by
  rw [List.all_eq_true] at ha ⊢
  intro q hq
  rcases hr.2.2 q hq with h1 | h1
  · exact ha q h1
  · exact xok_mono h h1
