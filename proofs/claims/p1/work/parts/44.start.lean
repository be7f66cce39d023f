theorem zip_all {α : Type} {l : List α} {r : List Nat} {P : α × Nat → Bool} (h : (l.zip r).all P = true) (hlen : l.length = r.length) {q : α} (hq : q ∈ l) : ∃ k, P (q, k) = true := by
  obtain ⟨i, hi⟩ := List.mem_iff_getElem?.mp hq
  have hlt : i < r.length := by rw [← hlen]; exact (List.getElem?_eq_some_iff.mp hi).1
  refine ⟨r[i], List.all_eq_true.mp h _ (List.mem_iff_getElem?.mpr ⟨i, ?_⟩)⟩
  rw [List.getElem?_zip_eq_some]
  exact ⟨hi, List.getElem?_eq_getElem hlt⟩
theorem xlo_mem {α : Type} {L : List (List (Nat × α))} {o idx : Nat} {v : α} (h : xlo L o idx = some v) : ∃ l ∈ L, (idx, v) ∈ l := by
  unfold xlo at h
  split at h
  · cases h
  · rename_i l hl
    exact ⟨l, List.mem_of_getElem? hl, xlk_mem h⟩
theorem vk_S_congr {N : Nat} {len : List Nat} {byt : List (List Int32)} {adK adV bdK bdV : Nat → Nat} {A : Nat → Prop} {U : State} {H : Heap} (hk : ∀ i, i < N → bdK i = adK i) (hv : ∀ i, i < N → bdV i = adV i) (h : vk_S N len byt adK adV A U H) : vk_S N len byt bdK bdV A U H := by
  refine ⟨fun i hi => ?_, fun i j hi hj e => h.2 i j hi hj ?_⟩
  · rw [hk i hi, hv i hi]
    exact h.1 i hi
  · rw [← hk i hi, ← hk j hj]
    exact e
theorem law_env {s : State} {args : Array Value} (hts : ∀ w ∈ lw_tbl, w.before args s = true) (hgv : (Jvm.Cond.and given_1 narrow_1).before args s = true) : ∃ (b : Bool) (ρ0 : Nat → Nat), xEnv xZ (xY (xfm b)) ρ0 (fun q => s.heap.size ≤ q) s s.heap := by
  have hs : ∀ c ∈ nfl, c.before args s = true := flat_of_before _ hgv
  have hA : ∀ a : Nat, a < s.heap.size → ¬ (fun q : Nat => s.heap.size ≤ q) a := fun a h => Nat.not_le.mpr h
  have ck : ∀ i, i < 14 → (nis (nQ i).2.2.1 (.exactly (nTm i) "java/lang/String") = true ∧ nis (nQ i).2.2.2.1 (.eq (.field (nTm i) "java/lang/String" "coder" "B") (.int 0)) = true ∧ nis (nQ i).2.2.2.2.1 (.arrayOf (nVal i) .byte) = true ∧ nis (nQ i).2.2.2.2.2.1 (.eq (.length (nVal i)) (.int (Int32.ofNat (xlen.getD i 0)))) = true ∧ xlen.getD i 0 < 1000) := by
    intro i hi
    have h := List.all_eq_true.mp nCk_ok i (List.mem_range.mpr hi)
    simp only [nCk, Bool.and_eq_true, decide_eq_true_eq] at h
    exact ⟨h.1.1.1.1, h.1.1.1.2, h.1.1.2, h.1.2, h.2⟩
  obtain ⟨adK, adV, hE, hT⟩ := vk_Sof (args := args) (s := s) (N := 14) (tm := nTm) (len := xlen) (byt := xbyt) (A := fun q => s.heap.size ≤ q) (fun i hi => by have := (ck i hi).2.2.2.2; omega) (fun i hi => hs _ (nis_mem (ck i hi).1)) (fun i hi => hs _ (nis_mem (ck i hi).2.1)) (fun i hi => hs _ (nis_mem (ck i hi).2.2.1)) (fun i hi => hs _ (nis_mem (ck i hi).2.2.2.1)) (fun i hi j hj => by
      have h := List.all_eq_true.mp nCe_ok i (List.mem_range.mpr hi)
      exact hs _ (nis_mem (List.all_eq_true.mp h j (List.mem_range.mpr hj)))) (fun i j hi hj hij => by
      have h := List.all_eq_true.mp nCn_ok i (List.mem_range.mpr hi)
      have h2 := List.all_eq_true.mp h j (List.mem_range.mpr hj)
      rw [Bool.or_eq_true] at h2
      rcases h2 with h2 | h2
      · exact absurd (Nat.eq_of_beq_eq_true h2) hij
      · split at h2
        · exact Or.inl (hs _ (nis_mem h2))
        · exact Or.inr (hs _ (nis_mem h2))) hA
  have hF := nFm_ok
  simp only [Bool.and_eq_true] at hF
  obtain ⟨v, hv, hvr⟩ := Cond.isRef_spec (hs _ (nis_mem hF.1.1))
  have hZf := va_Zof (A := fun q => s.heap.size ≤ q) (hts _ (nis2_mem hF.1.2)) (hts _ (nis2_mem hF.2)) hv hA
  have fin : ∀ (b : Bool) (ρ0 : Nat → Nat), (∀ i, i < 14 → ρ0 (1000000 + 2 * i) = adK i) → (∀ i, i < 14 → ρ0 (1000001 + 2 * i) = adV i) → xv ρ0 (xfm b) = v → xEnv xZ (xY (xfm b)) ρ0 (fun q => s.heap.size ≤ q) s s.heap := by
    intro b ρ0 h1 h2 h3
    refine ⟨vk_S_congr h1 h2 hE, ?_, ?_, ?_⟩
    · intro o idx i h
      obtain ⟨⟨k, ix⟩, hq, he⟩ := Option.map_eq_some_iff.mp h
      have he : k = i := he
      subst he
      have h4 := xlo_all hq nCl_ok
      simp only [nCl, Bool.and_eq_true, decide_eq_true_eq] at h4
      obtain ⟨⟨h5, h6⟩, h7⟩ := h4
      have h8 := List.all_eq_true.mp nCs_ok k (List.mem_range.mpr h5)
      refine ⟨nTx.getD k "", ?_⟩
      show vk_R (xnmF o) idx (nTx.getD k "") (ρ0 (1000000 + 2 * k)) s
      rw [h6, h7, h1 k h5]
      refine vk_R.of (A := args) ?_ (hT k h5)
      unfold nCs at h8
      split at h8
      · rename_i w hw
        rw [← of_decide_eq_true h8]
        exact hts _ (xsg_mem _ _ (List.mem_of_getElem? hw))
      · cases h8
    · intro o idx g h
      obtain ⟨⟨g1, ix⟩, hq, he⟩ := Option.map_eq_some_iff.mp h
      cases he
      obtain ⟨l, hl, hm⟩ := xlo_mem hq
      rcases nGf (xfm b) l hl _ hm with ⟨q, hq2, e⟩ | e
      · dsimp only at e
        subst e
        have h4 := List.all_eq_true.mp nSk_ok q hq2
        simp only [nSk, Bool.and_eq_true] at h4
        exact va_Zof (hts _ (nis2_mem h4.1.2)) (hts _ (nis2_mem h4.2)) (va_eqi (hs _ (nis_mem h4.1.1))) hA
      · dsimp only at e
        subst e
        show va_Z _ _ _ (xv ρ0 (xfm b)) _ s s.heap
        rw [h3]
        exact hZf
    · intro q hq
      have hq' : q ∈ xNw := hq
      obtain ⟨k, hk⟩ := zip_all nNw_ok rfl hq'
      exact va_Nw.of rfl (hts _ (nis2_mem hk))
  cases v with
  | null => exact ⟨false, fun i => if i % 2 = 0 then adK ((i - 1000000) / 2) else adV ((i - 1000001) / 2), fin _ _ (fun i hi => by
      rw [if_pos (by omega)]
      congr 1
      omega) (fun i hi => by
      rw [if_neg (by omega)]
      congr 1
      omega) rfl⟩
  | ref a => exact ⟨true, fun i => if i = 2000000 then a else if i % 2 = 0 then adK ((i - 1000000) / 2) else adV ((i - 1000001) / 2), fin _ _ (fun i hi => by
      rw [if_neg (by omega), if_pos (by omega)]
      congr 1
      omega) (fun i hi => by
      rw [if_neg (by omega), if_neg (by omega)]
      congr 1
      omega) rfl⟩
  | _ => cases hvr
theorem law_K {s : State} {args : Array Value} (hts : ∀ w ∈ lw_tbl, w.before args s = true) : ∃ (D : va_G) (cA : Nat → ClassId), va_K D xcl (x_tys cA) s := by
  have hZ := xZ_ok (fm := .null) (Or.inl rfl)
  have h1 : ∀ ci : Nat, ∃ z : ClassId × (Nat → Nat), ∀ q : vw_C, xcl[ci]? = some q → u_Kn s q.1 q.2.1 q.2.2 z.1 z.2 := by
    intro ci
    cases hq : xcl[ci]? with
    | none => exact ⟨(0, fun _ => 0), fun q h => by cases h⟩
    | some q =>
      obtain ⟨k, hk⟩ := zip_all nIn_ok rfl (List.mem_of_getElem? hq)
      obtain ⟨cc, iS, h⟩ := u_known (C := q.1) (T := q.2.1) (N := q.2.2) (n := q.2.2) hts (fun w hw => xTs_sub ((hZ.1 ci q hq).1 w hw)) (hts _ (nis2_mem hk))
      exact ⟨(cc, iS), fun q2 h2 => by cases h2; exact h⟩
  obtain ⟨z, hz⟩ := Classical.axiomOfChoice h1
  have h2 : ∀ ty : FieldType, Cond.arrayClass ty ∈ lw_tbl → (∀ C, ty ≠ .object C) → ∃ cB : ClassId, ArrOfT s cB ty ∧ va_RA s cB ty := by
    intro ty hty hno
    obtain ⟨cB, kB, comp, e1, e2, e3⟩ := Cond.arrayClass_spec (hts _ hty)
    refine ⟨cB, fun n z => ⟨fun k h => (by cases h), kB, e2, comp, e3⟩, ?_⟩
    cases ty with
    | object C => exact absurd rfl (hno C)
    | _ => exact e1
  have hArr := hZ.2.2.2.2.2.2.2.2.2.2.1
  obtain ⟨c0, k0⟩ := h2 .int (xTs_sub hArr.1) (fun C h => by cases h)
  obtain ⟨c1, k1⟩ := h2 .long (xTs_sub hArr.2.1) (fun C h => by cases h)
  obtain ⟨c2, k2⟩ := h2 .byte (xTs_sub hArr.2.2.1) (fun C h => by cases h)
  obtain ⟨c3, k3⟩ := h2 .char (xTs_sub hArr.2.2.2.1) (fun C h => by cases h)
  obtain ⟨c4, k4⟩ := h2 .boolean (xTs_sub hArr.2.2.2.2) (fun C h => by cases h)
  refine ⟨(fun i => (z i).1, fun i => (z i).2), fun t => if t = 0 then c0 else if t = 1 then c1 else if t = 2 then c2 else if t = 3 then c3 else c4, fun ci q hq => hz ci q hq, fun k q hq => ?_⟩
  match k, hq with
  | 0, hq => cases hq; exact k0
  | 1, hq => cases hq; exact k1
  | 2, hq => cases hq; exact k2
  | 3, hq => cases hq; exact k3
  | 4, hq => cases hq; exact k4
  | k + 5, hq => simp [x_tys] at hq
