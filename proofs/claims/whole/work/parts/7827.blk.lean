set_option maxRecDepth 100000 in
set_option maxHeartbeats 4000000 in
theorem bk_424_119 {b : Bool} {d : Nat} {e : Nat → x_E} {g : Nat → Int32} {q : Nat → Int64} {c : Nat → Nat → Int32} {l : Nat → Nat → Int64} : rr b e d 424 119 [] [] g q c l (some (.int (Int32.ofInt (0))), rH e g q c l) := by
  refine ⟨0 + 2, ?_⟩
  obtain ⟨y, cb, hj⟩ := mq_424
  rw [n_step (st' := [.int (Int32.ofInt (0))]) (pc' := 120) (lv' := []) (hp' := rH e g q c l) (i := .iconst 0) (len := 1) rfl hj rfl rfl rfl]
  exact n_ret rfl hj rfl rfl (x_ret rfl)
set_option maxRecDepth 100000 in
set_option maxHeartbeats 4000000 in
theorem bk_424_121 {b : Bool} {d : Nat} {x1 x2 x3 : Int32} {e : Nat → x_E} {g : Nat → Int32} {q : Nat → Int64} {c : Nat → Nat → Int32} {l : Nat → Nat → Int64} {R : Option Value × List x_E} (h : rr b e d 424 76 [(0, .ref 49), (1, .int x1), (2, .int x2), (3, .int (x3 + Int32.ofInt (1)))] [] g q c l R) : rr b e d 424 121 [(0, .ref 49), (1, .int x1), (2, .int x2), (3, .int x3)] [] g q c l R := by
  obtain ⟨f, h⟩ := h
  refine ⟨f + 2, ?_⟩
  obtain ⟨y, cb, hj⟩ := mq_424
  rw [n_step (st' := []) (pc' := 124) (lv' := [(3, .int (x3 + Int32.ofInt (1))), (0, .ref 49), (1, .int x1), (2, .int x2)]) (hp' := rH e g q c l) (i := .iinc 3 1) (len := 3) rfl hj rfl rfl rfl]
  rw [n_step (st' := []) (pc' := 76) (lv' := [(3, .int (x3 + Int32.ofInt (1))), (0, .ref 49), (1, .int x1), (2, .int x2)]) (hp' := rH e g q c l) (i := .goto (-48)) (len := 3) rfl hj rfl rfl rfl]
  exact nrun_ext f f _ _ R 424 76 [(0, .ref 49), (1, .int x1), (2, .int x2), (3, .int (x3 + Int32.ofInt (1)))] [(3, .int (x3 + Int32.ofInt (1))), (0, .ref 49), (1, .int x1), (2, .int x2)] [] _ 0 0 122 (Nat.le_refl _) (Nat.le_refl _) (Nat.le_of_ble_eq_true rfl) (lvR_mk [0, 1, 2, 3] [3, 0, 1, 2] rfl rfl (by decide) (by decide) (List.forall_mem_cons.mpr ⟨(List.mem_cons_of_mem _ List.mem_cons_self), (List.forall_mem_cons.mpr ⟨(List.mem_cons_of_mem _ (List.mem_cons_of_mem _ List.mem_cons_self)), (List.forall_mem_cons.mpr ⟨(List.mem_cons_of_mem _ (List.mem_cons_of_mem _ (List.mem_cons_of_mem _ List.mem_cons_self))), (List.forall_mem_cons.mpr ⟨List.mem_cons_self, (fun _ h => nomatch h)⟩)⟩)⟩)⟩) (List.forall_mem_cons.mpr ⟨Or.inl (List.mem_cons_of_mem _ (List.mem_cons_of_mem _ (List.mem_cons_of_mem _ List.mem_cons_self))), (List.forall_mem_cons.mpr ⟨Or.inl List.mem_cons_self, (List.forall_mem_cons.mpr ⟨Or.inl (List.mem_cons_of_mem _ List.mem_cons_self), (List.forall_mem_cons.mpr ⟨Or.inl (List.mem_cons_of_mem _ (List.mem_cons_of_mem _ List.mem_cons_self)), (fun _ h => nomatch h)⟩)⟩)⟩)⟩)) h
set_option maxRecDepth 100000 in
set_option maxHeartbeats 4000000 in
theorem bk_424_127 {b : Bool} {d : Nat} {e : Nat → x_E} {g : Nat → Int32} {q : Nat → Int64} {c : Nat → Nat → Int32} {l : Nat → Nat → Int64} : rr b e d 424 127 [] [] g q c l (some (.int (Int32.ofInt (1))), rH e g q c l) := by
  refine ⟨0 + 2, ?_⟩
  obtain ⟨y, cb, hj⟩ := mq_424
  rw [n_step (st' := [.int (Int32.ofInt (1))]) (pc' := 128) (lv' := []) (hp' := rH e g q c l) (i := .iconst 1) (len := 1) rfl hj rfl rfl rfl]
  exact n_ret rfl hj rfl rfl (x_ret rfl)
set_option maxRecDepth 100000 in
set_option maxHeartbeats 4000000 in
theorem bk_425_0 {b : Bool} {d : Nat} {e : Nat → x_E} {g : Nat → Int32} {q : Nat → Int64} {c : Nat → Nat → Int32} {l : Nat → Nat → Int64} {g' : Nat → Int32} {q' : Nat → Int64} {c' : Nat → Nat → Int32} {l' : Nat → Nat → Int64} {R : Option Value × List x_E} (hc : rr b e d 341 0 [(0, .ref 49)] [] g q c l (none, rH e g' q' c' l')) (h : rr b e (d + 1) 425 4 [(0, .ref 49)] [] g' q' c' l' R) : rr b e (d + 1) 425 0 [(0, .ref 49)] [] g q c l R := by
  obtain ⟨f1, hc⟩ := hc
  obtain ⟨f2, h⟩ := h
  obtain ⟨f, hf1, hf2⟩ : ∃ f, f1 ≤ f ∧ f2 ≤ f := ⟨max f1 f2, Nat.le_max_left _ _, Nat.le_max_right _ _⟩
  have hc := nrun_fuel f1 f _ _ _ _ _ _ _ _ _ hf1 hc
  have h := nrun_fuel f2 f _ _ _ _ _ _ _ _ _ hf2 h
  refine ⟨f + 2, ?_⟩
  obtain ⟨y, cb, hj⟩ := mq_425
  rw [n_step (st' := [.ref 49]) (pc' := 1) (lv' := [(0, .ref 49)]) (hp' := rH e g q c l) (i := .aload_n 0) (len := 1) rfl hj rfl rfl rfl]
  obtain ⟨y2, cb2, hj2⟩ := mq_341
  rw [n_call (f := f) (d := d) (ki := 0) (idx := 411) (j' := 341) (kd := 0) (M' := (y2, cb2, 1, none, 12, 0, 0, 0)) (avs := [.ref 49]) (r := []) (rv := none) (hp1 := rH e g' q' c' l') rfl hj rfl rfl rfl rfl (rq_n rfl rfl hj2 rfl rfl) rfl hc (Nat.le_of_ble_eq_true rfl)]
  exact h
set_option maxRecDepth 100000 in
set_option maxHeartbeats 4000000 in
theorem bk_425_4 {b : Bool} {d : Nat} {e : Nat → x_E} {g : Nat → Int32} {q : Nat → Int64} {c : Nat → Nat → Int32} {l : Nat → Nat → Int64} {g' : Nat → Int32} {q' : Nat → Int64} {c' : Nat → Nat → Int32} {l' : Nat → Nat → Int64} {v : Int32} {R : Option Value × List x_E} (hc : rr b e d 337 0 [(0, .ref 49)] [] g q c l (some (.int v), rH e g' q' c' l')) (h : rr b e (d + 1) 425 8 [(0, .ref 49)] [.int v] g' q' c' l' R) : rr b e (d + 1) 425 4 [(0, .ref 49)] [] g q c l R := by
  obtain ⟨f1, hc⟩ := hc
  obtain ⟨f2, h⟩ := h
  obtain ⟨f, hf1, hf2⟩ : ∃ f, f1 ≤ f ∧ f2 ≤ f := ⟨max f1 f2, Nat.le_max_left _ _, Nat.le_max_right _ _⟩
  have hc := nrun_fuel f1 f _ _ _ _ _ _ _ _ _ hf1 hc
  have h := nrun_fuel f2 f _ _ _ _ _ _ _ _ _ hf2 h
  refine ⟨f + 2, ?_⟩
  obtain ⟨y, cb, hj⟩ := mq_425
  rw [n_step (st' := [.ref 49]) (pc' := 5) (lv' := [(0, .ref 49)]) (hp' := rH e g q c l) (i := .aload_n 0) (len := 1) rfl hj rfl rfl rfl]
  obtain ⟨y2, cb2, hj2⟩ := mq_337
  rw [n_call (f := f) (d := d) (ki := 0) (idx := 337) (j' := 337) (kd := 0) (M' := (y2, cb2, 1, some .boolean, 12, 0, 0, 0)) (avs := [.ref 49]) (r := []) (rv := some (.int v)) (hp1 := rH e g' q' c' l') rfl hj rfl rfl rfl rfl (rq_n rfl rfl hj2 rfl rfl) rfl hc (Nat.le_of_ble_eq_true rfl)]
  exact h
set_option maxRecDepth 100000 in
set_option maxHeartbeats 4000000 in
theorem bk_425_8 {b : Bool} {d : Nat} {t0 : Int32} {e : Nat → x_E} {g : Nat → Int32} {q : Nat → Int64} {c : Nat → Nat → Int32} {l : Nat → Nat → Int64} {R : Option Value × List x_E} (h1 : xCn .eq t0 0 = true → rr b e d 425 12 [(0, .ref 49)] [] g q c l R) (h2 : ¬ xCn .eq t0 0 = true → rr b e d 425 11 [] [] g q c l R) : rr b e d 425 8 [(0, .ref 49)] [.int t0] g q c l R := by
  have key : ∀ f, nrun xZ (xY (xfm b)) xDT (f + 1) d 425 8 [(0, .ref 49)] [.int t0] (rH e g q c l) 0 0 = nrun xZ (xY (xfm b)) xDT f d 425 (if xCn .eq t0 0 = true then 12 else 11) [(0, .ref 49)] [] (rH e g q c l) 0 0 := by
    intro f
    obtain ⟨y, cb, hj⟩ := mq_425
    rw [n_step (st' := []) (pc' := (if xCn .eq t0 0 = true then 12 else 11)) (lv' := [(0, .ref 49)]) (hp' := rH e g q c l) (i := .ifCond .eq 4) (len := 3) rfl hj rfl rfl rfl]
  by_cases hc : xCn .eq t0 0 = true
  · obtain ⟨f, h⟩ := h1 hc
    refine ⟨f + 1, ?_⟩
    rw [key, if_pos hc]
    exact h
  · obtain ⟨f, h⟩ := h2 hc
    refine ⟨f + 1, ?_⟩
    rw [key, if_neg hc]
    exact nrun_ext f f _ _ R 425 11 [] [(0, .ref 49)] [] _ 0 0 122 (Nat.le_refl _) (Nat.le_refl _) (Nat.le_of_ble_eq_true rfl) (lvR_mk [] [0] rfl rfl (by decide) (by decide) (fun _ h => nomatch h) (List.forall_mem_cons.mpr ⟨Or.inr rfl, (fun _ h => nomatch h)⟩)) h
set_option maxRecDepth 100000 in
set_option maxHeartbeats 4000000 in
theorem bk_425_11 {b : Bool} {d : Nat} {e : Nat → x_E} {g : Nat → Int32} {q : Nat → Int64} {c : Nat → Nat → Int32} {l : Nat → Nat → Int64} : rr b e d 425 11 [] [] g q c l (none, rH e g q c l) := by
  refine ⟨0 + 1, ?_⟩
  obtain ⟨y, cb, hj⟩ := mq_425
  exact n_ret rfl hj rfl rfl rfl
set_option maxRecDepth 100000 in
set_option maxHeartbeats 4000000 in
theorem bk_425_12 {b : Bool} {d : Nat} {e : Nat → x_E} {g : Nat → Int32} {q : Nat → Int64} {c : Nat → Nat → Int32} {l : Nat → Nat → Int64} {g' : Nat → Int32} {q' : Nat → Int64} {c' : Nat → Nat → Int32} {l' : Nat → Nat → Int64} {R : Option Value × List x_E} (hc : rr b e d 343 0 [(0, .ref 49), (1, .int (Int8.ofInt (44)).toInt32)] [] g q c l (none, rH e g' q' c' l')) (h : rr b e (d + 1) 425 34 [(0, .ref 49), (1, .long (q 26)), (3, .int (g 27)), (4, .int (g 28))] [] g' q' c' l' R) : rr b e (d + 1) 425 12 [(0, .ref 49)] [] g q c l R := by
  obtain ⟨f1, hc⟩ := hc
  obtain ⟨f2, h⟩ := h
  obtain ⟨f, hf1, hf2⟩ : ∃ f, f1 ≤ f ∧ f2 ≤ f := ⟨max f1 f2, Nat.le_max_left _ _, Nat.le_max_right _ _⟩
  have hc := nrun_fuel f1 f _ _ _ _ _ _ _ _ _ hf1 hc
  have h := nrun_fuel f2 f _ _ _ _ _ _ _ _ _ hf2 h
  refine ⟨f + 12, ?_⟩
  obtain ⟨y, cb, hj⟩ := mq_425
  rw [n_step (st' := [.ref 49]) (pc' := 13) (lv' := [(0, .ref 49)]) (hp' := rH e g q c l) (i := .aload_n 0) (len := 1) rfl hj rfl rfl rfl]
  rw [n_get (st' := [.long (q 26)]) (pc' := 16) (lv' := [(0, .ref 49)]) (hp' := rH e g q c l) (i := .getfield 362) (len := 3) rfl hj rfl rfl rfl rfl]
  rw [n_step (st' := []) (pc' := 17) (lv' := [(1, .long (q 26)), (0, .ref 49)]) (hp' := rH e g q c l) (i := .lstore_n 1) (len := 1) rfl hj rfl rfl rfl]
  rw [n_step (st' := [.ref 49]) (pc' := 18) (lv' := [(1, .long (q 26)), (0, .ref 49)]) (hp' := rH e g q c l) (i := .aload_n 0) (len := 1) rfl hj rfl rfl rfl]
  rw [n_get (st' := [.int (g 27)]) (pc' := 21) (lv' := [(1, .long (q 26)), (0, .ref 49)]) (hp' := rH e g q c l) (i := .getfield 365) (len := 3) rfl hj rfl rfl rfl rfl]
  rw [n_step (st' := []) (pc' := 22) (lv' := [(3, .int (g 27)), (1, .long (q 26)), (0, .ref 49)]) (hp' := rH e g q c l) (i := .istore_n 3) (len := 1) rfl hj rfl rfl rfl]
  rw [n_step (st' := [.ref 49]) (pc' := 23) (lv' := [(3, .int (g 27)), (1, .long (q 26)), (0, .ref 49)]) (hp' := rH e g q c l) (i := .aload_n 0) (len := 1) rfl hj rfl rfl rfl]
  rw [n_get (st' := [.int (g 28)]) (pc' := 26) (lv' := [(3, .int (g 27)), (1, .long (q 26)), (0, .ref 49)]) (hp' := rH e g q c l) (i := .getfield 368) (len := 3) rfl hj rfl rfl rfl rfl]
  rw [n_step (st' := []) (pc' := 28) (lv' := [(4, .int (g 28)), (3, .int (g 27)), (1, .long (q 26)), (0, .ref 49)]) (hp' := rH e g q c l) (i := .istore 4) (len := 2) rfl hj rfl rfl rfl]
  rw [n_step (st' := [.ref 49]) (pc' := 29) (lv' := [(4, .int (g 28)), (3, .int (g 27)), (1, .long (q 26)), (0, .ref 49)]) (hp' := rH e g q c l) (i := .aload_n 0) (len := 1) rfl hj rfl rfl rfl]
  rw [n_step (st' := [.int (Int8.ofInt (44)).toInt32, .ref 49]) (pc' := 31) (lv' := [(4, .int (g 28)), (3, .int (g 27)), (1, .long (q 26)), (0, .ref 49)]) (hp' := rH e g q c l) (i := .bipush 44) (len := 2) rfl hj rfl rfl rfl]
  obtain ⟨y2, cb2, hj2⟩ := mq_343
  rw [n_call (f := f) (d := d) (ki := 0) (idx := 359) (j' := 343) (kd := 0) (M' := (y2, cb2, 2, none, 12, 1, 0, 0)) (avs := [.ref 49, .int (Int8.ofInt (44)).toInt32]) (r := []) (rv := none) (hp1 := rH e g' q' c' l') rfl hj rfl rfl rfl rfl (rq_n rfl rfl hj2 rfl rfl) rfl hc (Nat.le_of_ble_eq_true rfl)]
  exact nrun_ext f f _ _ R 425 34 [(0, .ref 49), (1, .long (q 26)), (3, .int (g 27)), (4, .int (g 28))] [(4, .int (g 28)), (3, .int (g 27)), (1, .long (q 26)), (0, .ref 49)] [] _ 0 0 122 (Nat.le_refl _) (Nat.le_refl _) (Nat.le_of_ble_eq_true rfl) (lvR_mk [0, 1, 3, 4] [4, 3, 1, 0] rfl rfl (by decide) (by decide) (List.forall_mem_cons.mpr ⟨(List.mem_cons_of_mem _ (List.mem_cons_of_mem _ (List.mem_cons_of_mem _ List.mem_cons_self))), (List.forall_mem_cons.mpr ⟨(List.mem_cons_of_mem _ (List.mem_cons_of_mem _ List.mem_cons_self)), (List.forall_mem_cons.mpr ⟨(List.mem_cons_of_mem _ List.mem_cons_self), (List.forall_mem_cons.mpr ⟨List.mem_cons_self, (fun _ h => nomatch h)⟩)⟩)⟩)⟩) (List.forall_mem_cons.mpr ⟨Or.inl (List.mem_cons_of_mem _ (List.mem_cons_of_mem _ (List.mem_cons_of_mem _ List.mem_cons_self))), (List.forall_mem_cons.mpr ⟨Or.inl (List.mem_cons_of_mem _ (List.mem_cons_of_mem _ List.mem_cons_self)), (List.forall_mem_cons.mpr ⟨Or.inl (List.mem_cons_of_mem _ List.mem_cons_self), (List.forall_mem_cons.mpr ⟨Or.inl List.mem_cons_self, (fun _ h => nomatch h)⟩)⟩)⟩)⟩)) h
set_option maxRecDepth 100000 in
set_option maxHeartbeats 4000000 in
theorem bk_425_34 {b : Bool} {d : Nat} {x3 x4 : Int32} {x1 : Int64} {e : Nat → x_E} {g : Nat → Int32} {q : Nat → Int64} {c : Nat → Nat → Int32} {l : Nat → Nat → Int64} {g' : Nat → Int32} {q' : Nat → Int64} {c' : Nat → Nat → Int32} {l' : Nat → Nat → Int64} {v : Int32} {R : Option Value × List x_E} (hc : rr b e d 426 0 [(0, .ref 49)] [] g q c l (some (.int v), rH e g' q' c' l')) (h : rr b e (d + 1) 425 38 [(0, .ref 49), (1, .long x1), (3, .int x3), (4, .int x4)] [.int v] g' q' c' l' R) : rr b e (d + 1) 425 34 [(0, .ref 49), (1, .long x1), (3, .int x3), (4, .int x4)] [] g q c l R := by
  obtain ⟨f1, hc⟩ := hc
  obtain ⟨f2, h⟩ := h
  obtain ⟨f, hf1, hf2⟩ : ∃ f, f1 ≤ f ∧ f2 ≤ f := ⟨max f1 f2, Nat.le_max_left _ _, Nat.le_max_right _ _⟩
  have hc := nrun_fuel f1 f _ _ _ _ _ _ _ _ _ hf1 hc
  have h := nrun_fuel f2 f _ _ _ _ _ _ _ _ _ hf2 h
  refine ⟨f + 2, ?_⟩
  obtain ⟨y, cb, hj⟩ := mq_425
  rw [n_step (st' := [.ref 49]) (pc' := 35) (lv' := [(0, .ref 49), (1, .long x1), (3, .int x3), (4, .int x4)]) (hp' := rH e g q c l) (i := .aload_n 0) (len := 1) rfl hj rfl rfl rfl]
  obtain ⟨y2, cb2, hj2⟩ := mq_426
  rw [n_call (f := f) (d := d) (ki := 0) (idx := 827) (j' := 426) (kd := 0) (M' := (y2, cb2, 2, some .int, 12, 0, 0, 0)) (avs := [.ref 49]) (r := []) (rv := some (.int v)) (hp1 := rH e g' q' c' l') rfl hj rfl rfl rfl rfl (rq_n rfl rfl hj2 rfl rfl) rfl hc (Nat.le_of_ble_eq_true rfl)]
  exact h
set_option maxRecDepth 100000 in
set_option maxHeartbeats 4000000 in
theorem bk_425_38 {b : Bool} {d : Nat} {t0 x3 x4 : Int32} {x1 : Int64} {e : Nat → x_E} {g : Nat → Int32} {q : Nat → Int64} {c : Nat → Nat → Int32} {l : Nat → Nat → Int64} {g' : Nat → Int32} {q' : Nat → Int64} {c' : Nat → Nat → Int32} {l' : Nat → Nat → Int64} {R : Option Value × List x_E} (hc : rr b e d 343 0 [(0, .ref 49), (1, .int (Int8.ofInt (44)).toInt32)] [] g q c l (none, rH e g' q' c' l')) (h : rr b e (d + 1) 425 46 [(0, .ref 49), (1, .long x1), (3, .int x3), (4, .int x4), (5, .int t0)] [] g' q' c' l' R) : rr b e (d + 1) 425 38 [(0, .ref 49), (1, .long x1), (3, .int x3), (4, .int x4)] [.int t0] g q c l R := by
  obtain ⟨f1, hc⟩ := hc
  obtain ⟨f2, h⟩ := h
  obtain ⟨f, hf1, hf2⟩ : ∃ f, f1 ≤ f ∧ f2 ≤ f := ⟨max f1 f2, Nat.le_max_left _ _, Nat.le_max_right _ _⟩
  have hc := nrun_fuel f1 f _ _ _ _ _ _ _ _ _ hf1 hc
  have h := nrun_fuel f2 f _ _ _ _ _ _ _ _ _ hf2 h
  refine ⟨f + 4, ?_⟩
  obtain ⟨y, cb, hj⟩ := mq_425
  rw [n_step (st' := []) (pc' := 40) (lv' := [(5, .int t0), (0, .ref 49), (1, .long x1), (3, .int x3), (4, .int x4)]) (hp' := rH e g q c l) (i := .istore 5) (len := 2) rfl hj rfl rfl rfl]
  rw [n_step (st' := [.ref 49]) (pc' := 41) (lv' := [(5, .int t0), (0, .ref 49), (1, .long x1), (3, .int x3), (4, .int x4)]) (hp' := rH e g q c l) (i := .aload_n 0) (len := 1) rfl hj rfl rfl rfl]
  rw [n_step (st' := [.int (Int8.ofInt (44)).toInt32, .ref 49]) (pc' := 43) (lv' := [(5, .int t0), (0, .ref 49), (1, .long x1), (3, .int x3), (4, .int x4)]) (hp' := rH e g q c l) (i := .bipush 44) (len := 2) rfl hj rfl rfl rfl]
  obtain ⟨y2, cb2, hj2⟩ := mq_343
  rw [n_call (f := f) (d := d) (ki := 0) (idx := 359) (j' := 343) (kd := 0) (M' := (y2, cb2, 2, none, 12, 1, 0, 0)) (avs := [.ref 49, .int (Int8.ofInt (44)).toInt32]) (r := []) (rv := none) (hp1 := rH e g' q' c' l') rfl hj rfl rfl rfl rfl (rq_n rfl rfl hj2 rfl rfl) rfl hc (Nat.le_of_ble_eq_true rfl)]
  exact nrun_ext f f _ _ R 425 46 [(0, .ref 49), (1, .long x1), (3, .int x3), (4, .int x4), (5, .int t0)] [(5, .int t0), (0, .ref 49), (1, .long x1), (3, .int x3), (4, .int x4)] [] _ 0 0 122 (Nat.le_refl _) (Nat.le_refl _) (Nat.le_of_ble_eq_true rfl) (lvR_mk [0, 1, 3, 4, 5] [5, 0, 1, 3, 4] rfl rfl (by decide) (by decide) (List.forall_mem_cons.mpr ⟨(List.mem_cons_of_mem _ List.mem_cons_self), (List.forall_mem_cons.mpr ⟨(List.mem_cons_of_mem _ (List.mem_cons_of_mem _ List.mem_cons_self)), (List.forall_mem_cons.mpr ⟨(List.mem_cons_of_mem _ (List.mem_cons_of_mem _ (List.mem_cons_of_mem _ List.mem_cons_self))), (List.forall_mem_cons.mpr ⟨(List.mem_cons_of_mem _ (List.mem_cons_of_mem _ (List.mem_cons_of_mem _ (List.mem_cons_of_mem _ List.mem_cons_self)))), (List.forall_mem_cons.mpr ⟨List.mem_cons_self, (fun _ h => nomatch h)⟩)⟩)⟩)⟩)⟩) (List.forall_mem_cons.mpr ⟨Or.inl (List.mem_cons_of_mem _ (List.mem_cons_of_mem _ (List.mem_cons_of_mem _ (List.mem_cons_of_mem _ List.mem_cons_self)))), (List.forall_mem_cons.mpr ⟨Or.inl List.mem_cons_self, (List.forall_mem_cons.mpr ⟨Or.inl (List.mem_cons_of_mem _ List.mem_cons_self), (List.forall_mem_cons.mpr ⟨Or.inl (List.mem_cons_of_mem _ (List.mem_cons_of_mem _ List.mem_cons_self)), (List.forall_mem_cons.mpr ⟨Or.inl (List.mem_cons_of_mem _ (List.mem_cons_of_mem _ (List.mem_cons_of_mem _ List.mem_cons_self))), (fun _ h => nomatch h)⟩)⟩)⟩)⟩)⟩)) h
set_option maxRecDepth 100000 in
set_option maxHeartbeats 4000000 in
theorem bk_425_46 {b : Bool} {d : Nat} {x3 x4 x5 : Int32} {x1 : Int64} {e : Nat → x_E} {g : Nat → Int32} {q : Nat → Int64} {c : Nat → Nat → Int32} {l : Nat → Nat → Int64} {g' : Nat → Int32} {q' : Nat → Int64} {c' : Nat → Nat → Int32} {l' : Nat → Nat → Int64} {v : Int32} {R : Option Value × List x_E} (hc : rr b e d 414 0 [(0, .ref 49)] [] g q c l (some (.int v), rH e g' q' c' l')) (h : rr b e (d + 1) 425 56 [(0, .ref 49), (1, .long x1), (3, .int x3), (4, .int x4), (5, .int x5), (6, .int (g 11))] [.int v] g' q' c' l' R) : rr b e (d + 1) 425 46 [(0, .ref 49), (1, .long x1), (3, .int x3), (4, .int x4), (5, .int x5)] [] g q c l R := by
  obtain ⟨f1, hc⟩ := hc
  obtain ⟨f2, h⟩ := h
  obtain ⟨f, hf1, hf2⟩ : ∃ f, f1 ≤ f ∧ f2 ≤ f := ⟨max f1 f2, Nat.le_max_left _ _, Nat.le_max_right _ _⟩
  have hc := nrun_fuel f1 f _ _ _ _ _ _ _ _ _ hf1 hc
  have h := nrun_fuel f2 f _ _ _ _ _ _ _ _ _ hf2 h
  refine ⟨f + 5, ?_⟩
  obtain ⟨y, cb, hj⟩ := mq_425
  rw [n_step (st' := [.ref 49]) (pc' := 47) (lv' := [(0, .ref 49), (1, .long x1), (3, .int x3), (4, .int x4), (5, .int x5)]) (hp' := rH e g q c l) (i := .aload_n 0) (len := 1) rfl hj rfl rfl rfl]
  rw [n_get (st' := [.int (g 11)]) (pc' := 50) (lv' := [(0, .ref 49), (1, .long x1), (3, .int x3), (4, .int x4), (5, .int x5)]) (hp' := rH e g q c l) (i := .getfield 257) (len := 3) rfl hj rfl rfl rfl rfl]
  rw [n_step (st' := []) (pc' := 52) (lv' := [(6, .int (g 11)), (0, .ref 49), (1, .long x1), (3, .int x3), (4, .int x4), (5, .int x5)]) (hp' := rH e g q c l) (i := .istore 6) (len := 2) rfl hj rfl rfl rfl]
  rw [n_step (st' := [.ref 49]) (pc' := 53) (lv' := [(6, .int (g 11)), (0, .ref 49), (1, .long x1), (3, .int x3), (4, .int x4), (5, .int x5)]) (hp' := rH e g q c l) (i := .aload_n 0) (len := 1) rfl hj rfl rfl rfl]
  obtain ⟨y2, cb2, hj2⟩ := mq_414
  rw [n_call (f := f) (d := d) (ki := 0) (idx := 809) (j' := 414) (kd := 0) (M' := (y2, cb2, 4, some .int, 12, 0, 0, 0)) (avs := [.ref 49]) (r := []) (rv := some (.int v)) (hp1 := rH e g' q' c' l') rfl hj rfl rfl rfl rfl (rq_n rfl rfl hj2 rfl rfl) rfl hc (Nat.le_of_ble_eq_true rfl)]
  exact nrun_ext f f _ _ R 425 56 [(0, .ref 49), (1, .long x1), (3, .int x3), (4, .int x4), (5, .int x5), (6, .int (g 11))] [(6, .int (g 11)), (0, .ref 49), (1, .long x1), (3, .int x3), (4, .int x4), (5, .int x5)] [.int v] _ 0 0 122 (Nat.le_refl _) (Nat.le_refl _) (Nat.le_of_ble_eq_true rfl) (lvR_mk [0, 1, 3, 4, 5, 6] [6, 0, 1, 3, 4, 5] rfl rfl (by decide) (by decide) (List.forall_mem_cons.mpr ⟨(List.mem_cons_of_mem _ List.mem_cons_self), (List.forall_mem_cons.mpr ⟨(List.mem_cons_of_mem _ (List.mem_cons_of_mem _ List.mem_cons_self)), (List.forall_mem_cons.mpr ⟨(List.mem_cons_of_mem _ (List.mem_cons_of_mem _ (List.mem_cons_of_mem _ List.mem_cons_self))), (List.forall_mem_cons.mpr ⟨(List.mem_cons_of_mem _ (List.mem_cons_of_mem _ (List.mem_cons_of_mem _ (List.mem_cons_of_mem _ List.mem_cons_self)))), (List.forall_mem_cons.mpr ⟨(List.mem_cons_of_mem _ (List.mem_cons_of_mem _ (List.mem_cons_of_mem _ (List.mem_cons_of_mem _ (List.mem_cons_of_mem _ List.mem_cons_self))))), (List.forall_mem_cons.mpr ⟨List.mem_cons_self, (fun _ h => nomatch h)⟩)⟩)⟩)⟩)⟩)⟩) (List.forall_mem_cons.mpr ⟨Or.inl (List.mem_cons_of_mem _ (List.mem_cons_of_mem _ (List.mem_cons_of_mem _ (List.mem_cons_of_mem _ (List.mem_cons_of_mem _ List.mem_cons_self))))), (List.forall_mem_cons.mpr ⟨Or.inl List.mem_cons_self, (List.forall_mem_cons.mpr ⟨Or.inl (List.mem_cons_of_mem _ List.mem_cons_self), (List.forall_mem_cons.mpr ⟨Or.inl (List.mem_cons_of_mem _ (List.mem_cons_of_mem _ List.mem_cons_self)), (List.forall_mem_cons.mpr ⟨Or.inl (List.mem_cons_of_mem _ (List.mem_cons_of_mem _ (List.mem_cons_of_mem _ List.mem_cons_self))), (List.forall_mem_cons.mpr ⟨Or.inl (List.mem_cons_of_mem _ (List.mem_cons_of_mem _ (List.mem_cons_of_mem _ (List.mem_cons_of_mem _ List.mem_cons_self)))), (fun _ h => nomatch h)⟩)⟩)⟩)⟩)⟩)⟩)) h
set_option maxRecDepth 100000 in
set_option maxHeartbeats 4000000 in
theorem bk_425_56 {b : Bool} {d : Nat} {t0 x3 x4 x5 x6 : Int32} {x1 : Int64} {e : Nat → x_E} {g : Nat → Int32} {q : Nat → Int64} {c : Nat → Nat → Int32} {l : Nat → Nat → Int64} {g' : Nat → Int32} {q' : Nat → Int64} {c' : Nat → Nat → Int32} {l' : Nat → Nat → Int64} {v : Int32} {R : Option Value × List x_E} (hc : rr b e d 337 0 [(0, .ref 49)] [] g q c l (some (.int v), rH e g' q' c' l')) (h : rr b e (d + 1) 425 62 [(0, .ref 49), (1, .long x1), (3, .int x3), (4, .int x4), (5, .int x5), (6, .int x6), (7, .int t0)] [.int v] g' q' c' l' R) : rr b e (d + 1) 425 56 [(0, .ref 49), (1, .long x1), (3, .int x3), (4, .int x4), (5, .int x5), (6, .int x6)] [.int t0] g q c l R := by
  obtain ⟨f1, hc⟩ := hc
  obtain ⟨f2, h⟩ := h
  obtain ⟨f, hf1, hf2⟩ : ∃ f, f1 ≤ f ∧ f2 ≤ f := ⟨max f1 f2, Nat.le_max_left _ _, Nat.le_max_right _ _⟩
  have hc := nrun_fuel f1 f _ _ _ _ _ _ _ _ _ hf1 hc
  have h := nrun_fuel f2 f _ _ _ _ _ _ _ _ _ hf2 h
  refine ⟨f + 3, ?_⟩
  obtain ⟨y, cb, hj⟩ := mq_425
  rw [n_step (st' := []) (pc' := 58) (lv' := [(7, .int t0), (0, .ref 49), (1, .long x1), (3, .int x3), (4, .int x4), (5, .int x5), (6, .int x6)]) (hp' := rH e g q c l) (i := .istore 7) (len := 2) rfl hj rfl rfl rfl]
  rw [n_step (st' := [.ref 49]) (pc' := 59) (lv' := [(7, .int t0), (0, .ref 49), (1, .long x1), (3, .int x3), (4, .int x4), (5, .int x5), (6, .int x6)]) (hp' := rH e g q c l) (i := .aload_n 0) (len := 1) rfl hj rfl rfl rfl]
  obtain ⟨y2, cb2, hj2⟩ := mq_337
  rw [n_call (f := f) (d := d) (ki := 0) (idx := 337) (j' := 337) (kd := 0) (M' := (y2, cb2, 1, some .boolean, 12, 0, 0, 0)) (avs := [.ref 49]) (r := []) (rv := some (.int v)) (hp1 := rH e g' q' c' l') rfl hj rfl rfl rfl rfl (rq_n rfl rfl hj2 rfl rfl) rfl hc (Nat.le_of_ble_eq_true rfl)]
  exact nrun_ext f f _ _ R 425 62 [(0, .ref 49), (1, .long x1), (3, .int x3), (4, .int x4), (5, .int x5), (6, .int x6), (7, .int t0)] [(7, .int t0), (0, .ref 49), (1, .long x1), (3, .int x3), (4, .int x4), (5, .int x5), (6, .int x6)] [.int v] _ 0 0 122 (Nat.le_refl _) (Nat.le_refl _) (Nat.le_of_ble_eq_true rfl) (lvR_mk [0, 1, 3, 4, 5, 6, 7] [7, 0, 1, 3, 4, 5, 6] rfl rfl (by decide) (by decide) (List.forall_mem_cons.mpr ⟨(List.mem_cons_of_mem _ List.mem_cons_self), (List.forall_mem_cons.mpr ⟨(List.mem_cons_of_mem _ (List.mem_cons_of_mem _ List.mem_cons_self)), (List.forall_mem_cons.mpr ⟨(List.mem_cons_of_mem _ (List.mem_cons_of_mem _ (List.mem_cons_of_mem _ List.mem_cons_self))), (List.forall_mem_cons.mpr ⟨(List.mem_cons_of_mem _ (List.mem_cons_of_mem _ (List.mem_cons_of_mem _ (List.mem_cons_of_mem _ List.mem_cons_self)))), (List.forall_mem_cons.mpr ⟨(List.mem_cons_of_mem _ (List.mem_cons_of_mem _ (List.mem_cons_of_mem _ (List.mem_cons_of_mem _ (List.mem_cons_of_mem _ List.mem_cons_self))))), (List.forall_mem_cons.mpr ⟨(List.mem_cons_of_mem _ (List.mem_cons_of_mem _ (List.mem_cons_of_mem _ (List.mem_cons_of_mem _ (List.mem_cons_of_mem _ (List.mem_cons_of_mem _ List.mem_cons_self)))))), (List.forall_mem_cons.mpr ⟨List.mem_cons_self, (fun _ h => nomatch h)⟩)⟩)⟩)⟩)⟩)⟩)⟩) (List.forall_mem_cons.mpr ⟨Or.inl (List.mem_cons_of_mem _ (List.mem_cons_of_mem _ (List.mem_cons_of_mem _ (List.mem_cons_of_mem _ (List.mem_cons_of_mem _ (List.mem_cons_of_mem _ List.mem_cons_self)))))), (List.forall_mem_cons.mpr ⟨Or.inl List.mem_cons_self, (List.forall_mem_cons.mpr ⟨Or.inl (List.mem_cons_of_mem _ List.mem_cons_self), (List.forall_mem_cons.mpr ⟨Or.inl (List.mem_cons_of_mem _ (List.mem_cons_of_mem _ List.mem_cons_self)), (List.forall_mem_cons.mpr ⟨Or.inl (List.mem_cons_of_mem _ (List.mem_cons_of_mem _ (List.mem_cons_of_mem _ List.mem_cons_self))), (List.forall_mem_cons.mpr ⟨Or.inl (List.mem_cons_of_mem _ (List.mem_cons_of_mem _ (List.mem_cons_of_mem _ (List.mem_cons_of_mem _ List.mem_cons_self)))), (List.forall_mem_cons.mpr ⟨Or.inl (List.mem_cons_of_mem _ (List.mem_cons_of_mem _ (List.mem_cons_of_mem _ (List.mem_cons_of_mem _ (List.mem_cons_of_mem _ List.mem_cons_self))))), (fun _ h => nomatch h)⟩)⟩)⟩)⟩)⟩)⟩)⟩)) h
set_option maxRecDepth 100000 in
set_option maxHeartbeats 4000000 in
theorem bk_425_62 {b : Bool} {d : Nat} {t0 x3 x4 x5 x6 x7 : Int32} {x1 : Int64} {e : Nat → x_E} {g : Nat → Int32} {q : Nat → Int64} {c : Nat → Nat → Int32} {l : Nat → Nat → Int64} {R : Option Value × List x_E} (h1 : xCn .eq t0 0 = true → rr b e d 425 66 [(0, .ref 49), (1, .long x1), (3, .int x3), (4, .int x4), (5, .int x5), (6, .int x6), (7, .int x7)] [] g q c l R) (h2 : ¬ xCn .eq t0 0 = true → rr b e d 425 65 [] [] g q c l R) : rr b e d 425 62 [(0, .ref 49), (1, .long x1), (3, .int x3), (4, .int x4), (5, .int x5), (6, .int x6), (7, .int x7)] [.int t0] g q c l R := by
  have key : ∀ f, nrun xZ (xY (xfm b)) xDT (f + 1) d 425 62 [(0, .ref 49), (1, .long x1), (3, .int x3), (4, .int x4), (5, .int x5), (6, .int x6), (7, .int x7)] [.int t0] (rH e g q c l) 0 0 = nrun xZ (xY (xfm b)) xDT f d 425 (if xCn .eq t0 0 = true then 66 else 65) [(0, .ref 49), (1, .long x1), (3, .int x3), (4, .int x4), (5, .int x5), (6, .int x6), (7, .int x7)] [] (rH e g q c l) 0 0 := by
    intro f
    obtain ⟨y, cb, hj⟩ := mq_425
    rw [n_step (st' := []) (pc' := (if xCn .eq t0 0 = true then 66 else 65)) (lv' := [(0, .ref 49), (1, .long x1), (3, .int x3), (4, .int x4), (5, .int x5), (6, .int x6), (7, .int x7)]) (hp' := rH e g q c l) (i := .ifCond .eq 4) (len := 3) rfl hj rfl rfl rfl]
  by_cases hc : xCn .eq t0 0 = true
  · obtain ⟨f, h⟩ := h1 hc
    refine ⟨f + 1, ?_⟩
    rw [key, if_pos hc]
    exact h
  · obtain ⟨f, h⟩ := h2 hc
    refine ⟨f + 1, ?_⟩
    rw [key, if_neg hc]
    exact nrun_ext f f _ _ R 425 65 [] [(0, .ref 49), (1, .long x1), (3, .int x3), (4, .int x4), (5, .int x5), (6, .int x6), (7, .int x7)] [] _ 0 0 122 (Nat.le_refl _) (Nat.le_refl _) (Nat.le_of_ble_eq_true rfl) (lvR_mk [] [0, 1, 3, 4, 5, 6, 7] rfl rfl (by decide) (by decide) (fun _ h => nomatch h) (List.forall_mem_cons.mpr ⟨Or.inr rfl, (List.forall_mem_cons.mpr ⟨Or.inr rfl, (List.forall_mem_cons.mpr ⟨Or.inr rfl, (List.forall_mem_cons.mpr ⟨Or.inr rfl, (List.forall_mem_cons.mpr ⟨Or.inr rfl, (List.forall_mem_cons.mpr ⟨Or.inr rfl, (List.forall_mem_cons.mpr ⟨Or.inr rfl, (fun _ h => nomatch h)⟩)⟩)⟩)⟩)⟩)⟩)⟩)) h
set_option maxRecDepth 100000 in
set_option maxHeartbeats 4000000 in
theorem bk_425_65 {b : Bool} {d : Nat} {e : Nat → x_E} {g : Nat → Int32} {q : Nat → Int64} {c : Nat → Nat → Int32} {l : Nat → Nat → Int64} : rr b e d 425 65 [] [] g q c l (none, rH e g q c l) := by
  refine ⟨0 + 1, ?_⟩
  obtain ⟨y, cb, hj⟩ := mq_425
  exact n_ret rfl hj rfl rfl rfl
set_option maxRecDepth 100000 in
set_option maxHeartbeats 4000000 in
theorem bk_425_66 {b : Bool} {d : Nat} {x3 x4 x5 x6 x7 : Int32} {x1 : Int64} {e : Nat → x_E} {g : Nat → Int32} {q : Nat → Int64} {c : Nat → Nat → Int32} {l : Nat → Nat → Int64} {R : Option Value × List x_E} (h : rr b e d 425 72 [(0, .ref 49), (1, .long x1), (3, .int x3), (4, .int x4), (5, .int x5), (6, .int x6), (7, .int x7), (8, .int (Int32.ofInt (0))), (9, .int (Int32.ofInt (0)))] [] g q c l R) : rr b e d 425 66 [(0, .ref 49), (1, .long x1), (3, .int x3), (4, .int x4), (5, .int x5), (6, .int x6), (7, .int x7)] [] g q c l R := by
  obtain ⟨f, h⟩ := h
  refine ⟨f + 4, ?_⟩
  obtain ⟨y, cb, hj⟩ := mq_425
  rw [n_step (st' := [.int (Int32.ofInt (0))]) (pc' := 67) (lv' := [(0, .ref 49), (1, .long x1), (3, .int x3), (4, .int x4), (5, .int x5), (6, .int x6), (7, .int x7)]) (hp' := rH e g q c l) (i := .iconst 0) (len := 1) rfl hj rfl rfl rfl]
  rw [n_step (st' := []) (pc' := 69) (lv' := [(8, .int (Int32.ofInt (0))), (0, .ref 49), (1, .long x1), (3, .int x3), (4, .int x4), (5, .int x5), (6, .int x6), (7, .int x7)]) (hp' := rH e g q c l) (i := .istore 8) (len := 2) rfl hj rfl rfl rfl]
  rw [n_step (st' := [.int (Int32.ofInt (0))]) (pc' := 70) (lv' := [(8, .int (Int32.ofInt (0))), (0, .ref 49), (1, .long x1), (3, .int x3), (4, .int x4), (5, .int x5), (6, .int x6), (7, .int x7)]) (hp' := rH e g q c l) (i := .iconst 0) (len := 1) rfl hj rfl rfl rfl]
  rw [n_step (st' := []) (pc' := 72) (lv' := [(9, .int (Int32.ofInt (0))), (8, .int (Int32.ofInt (0))), (0, .ref 49), (1, .long x1), (3, .int x3), (4, .int x4), (5, .int x5), (6, .int x6), (7, .int x7)]) (hp' := rH e g q c l) (i := .istore 9) (len := 2) rfl hj rfl rfl rfl]
  exact nrun_ext f f _ _ R 425 72 [(0, .ref 49), (1, .long x1), (3, .int x3), (4, .int x4), (5, .int x5), (6, .int x6), (7, .int x7), (8, .int (Int32.ofInt (0))), (9, .int (Int32.ofInt (0)))] [(9, .int (Int32.ofInt (0))), (8, .int (Int32.ofInt (0))), (0, .ref 49), (1, .long x1), (3, .int x3), (4, .int x4), (5, .int x5), (6, .int x6), (7, .int x7)] [] _ 0 0 122 (Nat.le_refl _) (Nat.le_refl _) (Nat.le_of_ble_eq_true rfl) (lvR_mk [0, 1, 3, 4, 5, 6, 7, 8, 9] [9, 8, 0, 1, 3, 4, 5, 6, 7] rfl rfl (by decide) (by decide) (List.forall_mem_cons.mpr ⟨(List.mem_cons_of_mem _ (List.mem_cons_of_mem _ List.mem_cons_self)), (List.forall_mem_cons.mpr ⟨(List.mem_cons_of_mem _ (List.mem_cons_of_mem _ (List.mem_cons_of_mem _ List.mem_cons_self))), (List.forall_mem_cons.mpr ⟨(List.mem_cons_of_mem _ (List.mem_cons_of_mem _ (List.mem_cons_of_mem _ (List.mem_cons_of_mem _ List.mem_cons_self)))), (List.forall_mem_cons.mpr ⟨(List.mem_cons_of_mem _ (List.mem_cons_of_mem _ (List.mem_cons_of_mem _ (List.mem_cons_of_mem _ (List.mem_cons_of_mem _ List.mem_cons_self))))), (List.forall_mem_cons.mpr ⟨(List.mem_cons_of_mem _ (List.mem_cons_of_mem _ (List.mem_cons_of_mem _ (List.mem_cons_of_mem _ (List.mem_cons_of_mem _ (List.mem_cons_of_mem _ List.mem_cons_self)))))), (List.forall_mem_cons.mpr ⟨(List.mem_cons_of_mem _ (List.mem_cons_of_mem _ (List.mem_cons_of_mem _ (List.mem_cons_of_mem _ (List.mem_cons_of_mem _ (List.mem_cons_of_mem _ (List.mem_cons_of_mem _ List.mem_cons_self))))))), (List.forall_mem_cons.mpr ⟨(List.mem_cons_of_mem _ (List.mem_cons_of_mem _ (List.mem_cons_of_mem _ (List.mem_cons_of_mem _ (List.mem_cons_of_mem _ (List.mem_cons_of_mem _ (List.mem_cons_of_mem _ (List.mem_cons_of_mem _ List.mem_cons_self)))))))), (List.forall_mem_cons.mpr ⟨(List.mem_cons_of_mem _ List.mem_cons_self), (List.forall_mem_cons.mpr ⟨List.mem_cons_self, (fun _ h => nomatch h)⟩)⟩)⟩)⟩)⟩)⟩)⟩)⟩)⟩) (List.forall_mem_cons.mpr ⟨Or.inl (List.mem_cons_of_mem _ (List.mem_cons_of_mem _ (List.mem_cons_of_mem _ (List.mem_cons_of_mem _ (List.mem_cons_of_mem _ (List.mem_cons_of_mem _ (List.mem_cons_of_mem _ (List.mem_cons_of_mem _ List.mem_cons_self)))))))), (List.forall_mem_cons.mpr ⟨Or.inl (List.mem_cons_of_mem _ (List.mem_cons_of_mem _ (List.mem_cons_of_mem _ (List.mem_cons_of_mem _ (List.mem_cons_of_mem _ (List.mem_cons_of_mem _ (List.mem_cons_of_mem _ List.mem_cons_self))))))), (List.forall_mem_cons.mpr ⟨Or.inl List.mem_cons_self, (List.forall_mem_cons.mpr ⟨Or.inl (List.mem_cons_of_mem _ List.mem_cons_self), (List.forall_mem_cons.mpr ⟨Or.inl (List.mem_cons_of_mem _ (List.mem_cons_of_mem _ List.mem_cons_self)), (List.forall_mem_cons.mpr ⟨Or.inl (List.mem_cons_of_mem _ (List.mem_cons_of_mem _ (List.mem_cons_of_mem _ List.mem_cons_self))), (List.forall_mem_cons.mpr ⟨Or.inl (List.mem_cons_of_mem _ (List.mem_cons_of_mem _ (List.mem_cons_of_mem _ (List.mem_cons_of_mem _ List.mem_cons_self)))), (List.forall_mem_cons.mpr ⟨Or.inl (List.mem_cons_of_mem _ (List.mem_cons_of_mem _ (List.mem_cons_of_mem _ (List.mem_cons_of_mem _ (List.mem_cons_of_mem _ List.mem_cons_self))))), (List.forall_mem_cons.mpr ⟨Or.inl (List.mem_cons_of_mem _ (List.mem_cons_of_mem _ (List.mem_cons_of_mem _ (List.mem_cons_of_mem _ (List.mem_cons_of_mem _ (List.mem_cons_of_mem _ List.mem_cons_self)))))), (fun _ h => nomatch h)⟩)⟩)⟩)⟩)⟩)⟩)⟩)⟩)⟩)) h
set_option maxRecDepth 100000 in
set_option maxHeartbeats 4000000 in
theorem bk_425_72 {b : Bool} {d : Nat} {x3 x4 x5 x6 x7 x8 x9 : Int32} {x1 : Int64} {e : Nat → x_E} {g : Nat → Int32} {q : Nat → Int64} {c : Nat → Nat → Int32} {l : Nat → Nat → Int64} {R : Option Value × List x_E} (h1 : xCn .ge x9 ((g 96)) = true → rr b e d 425 122 [(0, .ref 49), (1, .long x1), (3, .int x3), (4, .int x4), (5, .int x5), (6, .int x6), (7, .int x7), (8, .int x8)] [] g q c l R) (h2 : ¬ xCn .ge x9 ((g 96)) = true → rr b e d 425 81 [(0, .ref 49), (1, .long x1), (3, .int x3), (4, .int x4), (5, .int x5), (6, .int x6), (7, .int x7), (8, .int x8), (9, .int x9)] [] g q c l R) : rr b e d 425 72 [(0, .ref 49), (1, .long x1), (3, .int x3), (4, .int x4), (5, .int x5), (6, .int x6), (7, .int x7), (8, .int x8), (9, .int x9)] [] g q c l R := by
  have key : ∀ f, nrun xZ (xY (xfm b)) xDT (f + 4) d 425 72 [(0, .ref 49), (1, .long x1), (3, .int x3), (4, .int x4), (5, .int x5), (6, .int x6), (7, .int x7), (8, .int x8), (9, .int x9)] [] (rH e g q c l) 0 0 = nrun xZ (xY (xfm b)) xDT f d 425 (if xCn .ge x9 ((g 96)) = true then 122 else 81) [(0, .ref 49), (1, .long x1), (3, .int x3), (4, .int x4), (5, .int x5), (6, .int x6), (7, .int x7), (8, .int x8), (9, .int x9)] [] (rH e g q c l) 0 0 := by
    intro f
    obtain ⟨y, cb, hj⟩ := mq_425
    rw [n_step (st' := [.int x9]) (pc' := 74) (lv' := [(0, .ref 49), (1, .long x1), (3, .int x3), (4, .int x4), (5, .int x5), (6, .int x6), (7, .int x7), (8, .int x8), (9, .int x9)]) (hp' := rH e g q c l) (i := .iload 9) (len := 2) rfl hj rfl rfl rfl]
    rw [n_step (st' := [.ref 49, .int x9]) (pc' := 75) (lv' := [(0, .ref 49), (1, .long x1), (3, .int x3), (4, .int x4), (5, .int x5), (6, .int x6), (7, .int x7), (8, .int x8), (9, .int x9)]) (hp' := rH e g q c l) (i := .aload_n 0) (len := 1) rfl hj rfl rfl rfl]
    rw [n_get (st' := [.int (g 96), .int x9]) (pc' := 78) (lv' := [(0, .ref 49), (1, .long x1), (3, .int x3), (4, .int x4), (5, .int x5), (6, .int x6), (7, .int x7), (8, .int x8), (9, .int x9)]) (hp' := rH e g q c l) (i := .getfield 685) (len := 3) rfl hj rfl rfl rfl rfl]
    rw [n_step (st' := []) (pc' := (if xCn .ge x9 ((g 96)) = true then 122 else 81)) (lv' := [(0, .ref 49), (1, .long x1), (3, .int x3), (4, .int x4), (5, .int x5), (6, .int x6), (7, .int x7), (8, .int x8), (9, .int x9)]) (hp' := rH e g q c l) (i := .if_icmp .ge 44) (len := 3) rfl hj rfl rfl rfl]
  by_cases hc : xCn .ge x9 ((g 96)) = true
  · obtain ⟨f, h⟩ := h1 hc
    refine ⟨f + 4, ?_⟩
    rw [key, if_pos hc]
    exact nrun_ext f f _ _ R 425 122 [(0, .ref 49), (1, .long x1), (3, .int x3), (4, .int x4), (5, .int x5), (6, .int x6), (7, .int x7), (8, .int x8)] [(0, .ref 49), (1, .long x1), (3, .int x3), (4, .int x4), (5, .int x5), (6, .int x6), (7, .int x7), (8, .int x8), (9, .int x9)] [] _ 0 0 122 (Nat.le_refl _) (Nat.le_refl _) (Nat.le_of_ble_eq_true rfl) (lvR_mk [0, 1, 3, 4, 5, 6, 7, 8] [0, 1, 3, 4, 5, 6, 7, 8, 9] rfl rfl (by decide) (by decide) (List.forall_mem_cons.mpr ⟨List.mem_cons_self, (List.forall_mem_cons.mpr ⟨(List.mem_cons_of_mem _ List.mem_cons_self), (List.forall_mem_cons.mpr ⟨(List.mem_cons_of_mem _ (List.mem_cons_of_mem _ List.mem_cons_self)), (List.forall_mem_cons.mpr ⟨(List.mem_cons_of_mem _ (List.mem_cons_of_mem _ (List.mem_cons_of_mem _ List.mem_cons_self))), (List.forall_mem_cons.mpr ⟨(List.mem_cons_of_mem _ (List.mem_cons_of_mem _ (List.mem_cons_of_mem _ (List.mem_cons_of_mem _ List.mem_cons_self)))), (List.forall_mem_cons.mpr ⟨(List.mem_cons_of_mem _ (List.mem_cons_of_mem _ (List.mem_cons_of_mem _ (List.mem_cons_of_mem _ (List.mem_cons_of_mem _ List.mem_cons_self))))), (List.forall_mem_cons.mpr ⟨(List.mem_cons_of_mem _ (List.mem_cons_of_mem _ (List.mem_cons_of_mem _ (List.mem_cons_of_mem _ (List.mem_cons_of_mem _ (List.mem_cons_of_mem _ List.mem_cons_self)))))), (List.forall_mem_cons.mpr ⟨(List.mem_cons_of_mem _ (List.mem_cons_of_mem _ (List.mem_cons_of_mem _ (List.mem_cons_of_mem _ (List.mem_cons_of_mem _ (List.mem_cons_of_mem _ (List.mem_cons_of_mem _ List.mem_cons_self))))))), (fun _ h => nomatch h)⟩)⟩)⟩)⟩)⟩)⟩)⟩)⟩) (List.forall_mem_cons.mpr ⟨Or.inl List.mem_cons_self, (List.forall_mem_cons.mpr ⟨Or.inl (List.mem_cons_of_mem _ List.mem_cons_self), (List.forall_mem_cons.mpr ⟨Or.inl (List.mem_cons_of_mem _ (List.mem_cons_of_mem _ List.mem_cons_self)), (List.forall_mem_cons.mpr ⟨Or.inl (List.mem_cons_of_mem _ (List.mem_cons_of_mem _ (List.mem_cons_of_mem _ List.mem_cons_self))), (List.forall_mem_cons.mpr ⟨Or.inl (List.mem_cons_of_mem _ (List.mem_cons_of_mem _ (List.mem_cons_of_mem _ (List.mem_cons_of_mem _ List.mem_cons_self)))), (List.forall_mem_cons.mpr ⟨Or.inl (List.mem_cons_of_mem _ (List.mem_cons_of_mem _ (List.mem_cons_of_mem _ (List.mem_cons_of_mem _ (List.mem_cons_of_mem _ List.mem_cons_self))))), (List.forall_mem_cons.mpr ⟨Or.inl (List.mem_cons_of_mem _ (List.mem_cons_of_mem _ (List.mem_cons_of_mem _ (List.mem_cons_of_mem _ (List.mem_cons_of_mem _ (List.mem_cons_of_mem _ List.mem_cons_self)))))), (List.forall_mem_cons.mpr ⟨Or.inl (List.mem_cons_of_mem _ (List.mem_cons_of_mem _ (List.mem_cons_of_mem _ (List.mem_cons_of_mem _ (List.mem_cons_of_mem _ (List.mem_cons_of_mem _ (List.mem_cons_of_mem _ List.mem_cons_self))))))), (List.forall_mem_cons.mpr ⟨Or.inr rfl, (fun _ h => nomatch h)⟩)⟩)⟩)⟩)⟩)⟩)⟩)⟩)⟩)) h
  · obtain ⟨f, h⟩ := h2 hc
    refine ⟨f + 4, ?_⟩
    rw [key, if_neg hc]
    exact h
set_option maxRecDepth 100000 in
set_option maxHeartbeats 4000000 in
theorem bk_425_81 {b : Bool} {d : Nat} {x3 x4 x5 x6 x7 x8 x9 : Int32} {x1 : Int64} {e : Nat → x_E} {g : Nat → Int32} {q : Nat → Int64} {c : Nat → Nat → Int32} {l : Nat → Nat → Int64} {R : Option Value × List x_E} (h1 : xCn .ne x8 0 = true → rr b e d 425 109 [(0, .ref 49), (1, .long x1), (3, .int x3), (4, .int x4), (5, .int x5), (6, .int x6), (7, .int x7), (9, .int x9)] [] g q c l R) (h2 : ¬ xCn .ne x8 0 = true → rr b e d 425 86 [(0, .ref 49), (1, .long x1), (3, .int x3), (4, .int x4), (5, .int x5), (6, .int x6), (7, .int x7), (9, .int x9)] [] g q c l R) : rr b e d 425 81 [(0, .ref 49), (1, .long x1), (3, .int x3), (4, .int x4), (5, .int x5), (6, .int x6), (7, .int x7), (8, .int x8), (9, .int x9)] [] g q c l R := by
  have key : ∀ f, nrun xZ (xY (xfm b)) xDT (f + 2) d 425 81 [(0, .ref 49), (1, .long x1), (3, .int x3), (4, .int x4), (5, .int x5), (6, .int x6), (7, .int x7), (8, .int x8), (9, .int x9)] [] (rH e g q c l) 0 0 = nrun xZ (xY (xfm b)) xDT f d 425 (if xCn .ne x8 0 = true then 109 else 86) [(0, .ref 49), (1, .long x1), (3, .int x3), (4, .int x4), (5, .int x5), (6, .int x6), (7, .int x7), (8, .int x8), (9, .int x9)] [] (rH e g q c l) 0 0 := by
    intro f
    obtain ⟨y, cb, hj⟩ := mq_425
    rw [n_step (st' := [.int x8]) (pc' := 83) (lv' := [(0, .ref 49), (1, .long x1), (3, .int x3), (4, .int x4), (5, .int x5), (6, .int x6), (7, .int x7), (8, .int x8), (9, .int x9)]) (hp' := rH e g q c l) (i := .iload 8) (len := 2) rfl hj rfl rfl rfl]
    rw [n_step (st' := []) (pc' := (if xCn .ne x8 0 = true then 109 else 86)) (lv' := [(0, .ref 49), (1, .long x1), (3, .int x3), (4, .int x4), (5, .int x5), (6, .int x6), (7, .int x7), (8, .int x8), (9, .int x9)]) (hp' := rH e g q c l) (i := .ifCond .ne 26) (len := 3) rfl hj rfl rfl rfl]
  by_cases hc : xCn .ne x8 0 = true
  · obtain ⟨f, h⟩ := h1 hc
    refine ⟨f + 2, ?_⟩
    rw [key, if_pos hc]
    exact nrun_ext f f _ _ R 425 109 [(0, .ref 49), (1, .long x1), (3, .int x3), (4, .int x4), (5, .int x5), (6, .int x6), (7, .int x7), (9, .int x9)] [(0, .ref 49), (1, .long x1), (3, .int x3), (4, .int x4), (5, .int x5), (6, .int x6), (7, .int x7), (8, .int x8), (9, .int x9)] [] _ 0 0 122 (Nat.le_refl _) (Nat.le_refl _) (Nat.le_of_ble_eq_true rfl) (lvR_mk [0, 1, 3, 4, 5, 6, 7, 9] [0, 1, 3, 4, 5, 6, 7, 8, 9] rfl rfl (by decide) (by decide) (List.forall_mem_cons.mpr ⟨List.mem_cons_self, (List.forall_mem_cons.mpr ⟨(List.mem_cons_of_mem _ List.mem_cons_self), (List.forall_mem_cons.mpr ⟨(List.mem_cons_of_mem _ (List.mem_cons_of_mem _ List.mem_cons_self)), (List.forall_mem_cons.mpr ⟨(List.mem_cons_of_mem _ (List.mem_cons_of_mem _ (List.mem_cons_of_mem _ List.mem_cons_self))), (List.forall_mem_cons.mpr ⟨(List.mem_cons_of_mem _ (List.mem_cons_of_mem _ (List.mem_cons_of_mem _ (List.mem_cons_of_mem _ List.mem_cons_self)))), (List.forall_mem_cons.mpr ⟨(List.mem_cons_of_mem _ (List.mem_cons_of_mem _ (List.mem_cons_of_mem _ (List.mem_cons_of_mem _ (List.mem_cons_of_mem _ List.mem_cons_self))))), (List.forall_mem_cons.mpr ⟨(List.mem_cons_of_mem _ (List.mem_cons_of_mem _ (List.mem_cons_of_mem _ (List.mem_cons_of_mem _ (List.mem_cons_of_mem _ (List.mem_cons_of_mem _ List.mem_cons_self)))))), (List.forall_mem_cons.mpr ⟨(List.mem_cons_of_mem _ (List.mem_cons_of_mem _ (List.mem_cons_of_mem _ (List.mem_cons_of_mem _ (List.mem_cons_of_mem _ (List.mem_cons_of_mem _ (List.mem_cons_of_mem _ (List.mem_cons_of_mem _ List.mem_cons_self)))))))), (fun _ h => nomatch h)⟩)⟩)⟩)⟩)⟩)⟩)⟩)⟩) (List.forall_mem_cons.mpr ⟨Or.inl List.mem_cons_self, (List.forall_mem_cons.mpr ⟨Or.inl (List.mem_cons_of_mem _ List.mem_cons_self), (List.forall_mem_cons.mpr ⟨Or.inl (List.mem_cons_of_mem _ (List.mem_cons_of_mem _ List.mem_cons_self)), (List.forall_mem_cons.mpr ⟨Or.inl (List.mem_cons_of_mem _ (List.mem_cons_of_mem _ (List.mem_cons_of_mem _ List.mem_cons_self))), (List.forall_mem_cons.mpr ⟨Or.inl (List.mem_cons_of_mem _ (List.mem_cons_of_mem _ (List.mem_cons_of_mem _ (List.mem_cons_of_mem _ List.mem_cons_self)))), (List.forall_mem_cons.mpr ⟨Or.inl (List.mem_cons_of_mem _ (List.mem_cons_of_mem _ (List.mem_cons_of_mem _ (List.mem_cons_of_mem _ (List.mem_cons_of_mem _ List.mem_cons_self))))), (List.forall_mem_cons.mpr ⟨Or.inl (List.mem_cons_of_mem _ (List.mem_cons_of_mem _ (List.mem_cons_of_mem _ (List.mem_cons_of_mem _ (List.mem_cons_of_mem _ (List.mem_cons_of_mem _ List.mem_cons_self)))))), (List.forall_mem_cons.mpr ⟨Or.inr rfl, (List.forall_mem_cons.mpr ⟨Or.inl (List.mem_cons_of_mem _ (List.mem_cons_of_mem _ (List.mem_cons_of_mem _ (List.mem_cons_of_mem _ (List.mem_cons_of_mem _ (List.mem_cons_of_mem _ (List.mem_cons_of_mem _ List.mem_cons_self))))))), (fun _ h => nomatch h)⟩)⟩)⟩)⟩)⟩)⟩)⟩)⟩)⟩)) h
  · obtain ⟨f, h⟩ := h2 hc
    refine ⟨f + 2, ?_⟩
    rw [key, if_neg hc]
    exact nrun_ext f f _ _ R 425 86 [(0, .ref 49), (1, .long x1), (3, .int x3), (4, .int x4), (5, .int x5), (6, .int x6), (7, .int x7), (9, .int x9)] [(0, .ref 49), (1, .long x1), (3, .int x3), (4, .int x4), (5, .int x5), (6, .int x6), (7, .int x7), (8, .int x8), (9, .int x9)] [] _ 0 0 122 (Nat.le_refl _) (Nat.le_refl _) (Nat.le_of_ble_eq_true rfl) (lvR_mk [0, 1, 3, 4, 5, 6, 7, 9] [0, 1, 3, 4, 5, 6, 7, 8, 9] rfl rfl (by decide) (by decide) (List.forall_mem_cons.mpr ⟨List.mem_cons_self, (List.forall_mem_cons.mpr ⟨(List.mem_cons_of_mem _ List.mem_cons_self), (List.forall_mem_cons.mpr ⟨(List.mem_cons_of_mem _ (List.mem_cons_of_mem _ List.mem_cons_self)), (List.forall_mem_cons.mpr ⟨(List.mem_cons_of_mem _ (List.mem_cons_of_mem _ (List.mem_cons_of_mem _ List.mem_cons_self))), (List.forall_mem_cons.mpr ⟨(List.mem_cons_of_mem _ (List.mem_cons_of_mem _ (List.mem_cons_of_mem _ (List.mem_cons_of_mem _ List.mem_cons_self)))), (List.forall_mem_cons.mpr ⟨(List.mem_cons_of_mem _ (List.mem_cons_of_mem _ (List.mem_cons_of_mem _ (List.mem_cons_of_mem _ (List.mem_cons_of_mem _ List.mem_cons_self))))), (List.forall_mem_cons.mpr ⟨(List.mem_cons_of_mem _ (List.mem_cons_of_mem _ (List.mem_cons_of_mem _ (List.mem_cons_of_mem _ (List.mem_cons_of_mem _ (List.mem_cons_of_mem _ List.mem_cons_self)))))), (List.forall_mem_cons.mpr ⟨(List.mem_cons_of_mem _ (List.mem_cons_of_mem _ (List.mem_cons_of_mem _ (List.mem_cons_of_mem _ (List.mem_cons_of_mem _ (List.mem_cons_of_mem _ (List.mem_cons_of_mem _ (List.mem_cons_of_mem _ List.mem_cons_self)))))))), (fun _ h => nomatch h)⟩)⟩)⟩)⟩)⟩)⟩)⟩)⟩) (List.forall_mem_cons.mpr ⟨Or.inl List.mem_cons_self, (List.forall_mem_cons.mpr ⟨Or.inl (List.mem_cons_of_mem _ List.mem_cons_self), (List.forall_mem_cons.mpr ⟨Or.inl (List.mem_cons_of_mem _ (List.mem_cons_of_mem _ List.mem_cons_self)), (List.forall_mem_cons.mpr ⟨Or.inl (List.mem_cons_of_mem _ (List.mem_cons_of_mem _ (List.mem_cons_of_mem _ List.mem_cons_self))), (List.forall_mem_cons.mpr ⟨Or.inl (List.mem_cons_of_mem _ (List.mem_cons_of_mem _ (List.mem_cons_of_mem _ (List.mem_cons_of_mem _ List.mem_cons_self)))), (List.forall_mem_cons.mpr ⟨Or.inl (List.mem_cons_of_mem _ (List.mem_cons_of_mem _ (List.mem_cons_of_mem _ (List.mem_cons_of_mem _ (List.mem_cons_of_mem _ List.mem_cons_self))))), (List.forall_mem_cons.mpr ⟨Or.inl (List.mem_cons_of_mem _ (List.mem_cons_of_mem _ (List.mem_cons_of_mem _ (List.mem_cons_of_mem _ (List.mem_cons_of_mem _ (List.mem_cons_of_mem _ List.mem_cons_self)))))), (List.forall_mem_cons.mpr ⟨Or.inr rfl, (List.forall_mem_cons.mpr ⟨Or.inl (List.mem_cons_of_mem _ (List.mem_cons_of_mem _ (List.mem_cons_of_mem _ (List.mem_cons_of_mem _ (List.mem_cons_of_mem _ (List.mem_cons_of_mem _ (List.mem_cons_of_mem _ List.mem_cons_self))))))), (fun _ h => nomatch h)⟩)⟩)⟩)⟩)⟩)⟩)⟩)⟩)⟩)) h
set_option maxRecDepth 100000 in
set_option maxHeartbeats 4000000 in
theorem bk_425_86 {b : Bool} {d : Nat} {x3 x4 x5 x6 x7 x9 : Int32} {x1 : Int64} {e : Nat → x_E} {g : Nat → Int32} {q : Nat → Int64} {c : Nat → Nat → Int32} {l : Nat → Nat → Int64} {R : Option Value × List x_E} (hz0 : ¬ (x9 < 0 ∨ 1400 ≤ (x9).toNatClampNeg)) (h1 : xCn .ne ((lg_cmp ((l 93 (x9).toNatClampNeg)) x1)) 0 = true → rr b e d 425 113 [(0, .ref 49), (1, .long x1), (3, .int x3), (4, .int x4), (5, .int x5), (6, .int x6), (7, .int x7), (9, .int x9)] [] g q c l R) (h2 : ¬ xCn .ne ((lg_cmp ((l 93 (x9).toNatClampNeg)) x1)) 0 = true → rr b e d 425 98 [(0, .ref 49), (1, .long x1), (3, .int x3), (4, .int x4), (5, .int x5), (6, .int x6), (7, .int x7), (9, .int x9)] [] g q c l R) : rr b e d 425 86 [(0, .ref 49), (1, .long x1), (3, .int x3), (4, .int x4), (5, .int x5), (6, .int x6), (7, .int x7), (9, .int x9)] [] g q c l R := by
  have key : ∀ f, nrun xZ (xY (xfm b)) xDT (f + 7) d 425 86 [(0, .ref 49), (1, .long x1), (3, .int x3), (4, .int x4), (5, .int x5), (6, .int x6), (7, .int x7), (9, .int x9)] [] (rH e g q c l) 0 0 = nrun xZ (xY (xfm b)) xDT f d 425 (if xCn .ne ((lg_cmp ((l 93 (x9).toNatClampNeg)) x1)) 0 = true then 113 else 98) [(0, .ref 49), (1, .long x1), (3, .int x3), (4, .int x4), (5, .int x5), (6, .int x6), (7, .int x7), (9, .int x9)] [] (rH e g q c l) 0 0 := by
    intro f
    obtain ⟨y, cb, hj⟩ := mq_425
    rw [n_step (st' := [.ref 49]) (pc' := 87) (lv' := [(0, .ref 49), (1, .long x1), (3, .int x3), (4, .int x4), (5, .int x5), (6, .int x6), (7, .int x7), (9, .int x9)]) (hp' := rH e g q c l) (i := .aload_n 0) (len := 1) rfl hj rfl rfl rfl]
    rw [n_get (st' := [.ref 93]) (pc' := 90) (lv' := [(0, .ref 49), (1, .long x1), (3, .int x3), (4, .int x4), (5, .int x5), (6, .int x6), (7, .int x7), (9, .int x9)]) (hp' := rH e g q c l) (i := .getfield 150) (len := 3) rfl hj rfl rfl rfl rfl]
    rw [n_step (st' := [.int x9, .ref 93]) (pc' := 92) (lv' := [(0, .ref 49), (1, .long x1), (3, .int x3), (4, .int x4), (5, .int x5), (6, .int x6), (7, .int x7), (9, .int x9)]) (hp' := rH e g q c l) (i := .iload 9) (len := 2) rfl hj rfl rfl rfl]
    rw [n_lal (st' := [.long (l 93 (x9).toNatClampNeg)]) rfl hj (all_93 hz0)]
    rw [n_step (st' := [.long x1, .long (l 93 (x9).toNatClampNeg)]) (pc' := 94) (lv' := [(0, .ref 49), (1, .long x1), (3, .int x3), (4, .int x4), (5, .int x5), (6, .int x6), (7, .int x7), (9, .int x9)]) (hp' := rH e g q c l) (i := .lload_n 1) (len := 1) rfl hj rfl rfl rfl]
    rw [n_step (st' := [.int (lg_cmp ((l 93 (x9).toNatClampNeg)) x1)]) (pc' := 95) (lv' := [(0, .ref 49), (1, .long x1), (3, .int x3), (4, .int x4), (5, .int x5), (6, .int x6), (7, .int x7), (9, .int x9)]) (hp' := rH e g q c l) (i := .lcmp) (len := 1) rfl hj rfl rfl rfl]
    rw [n_step (st' := []) (pc' := (if xCn .ne ((lg_cmp ((l 93 (x9).toNatClampNeg)) x1)) 0 = true then 113 else 98)) (lv' := [(0, .ref 49), (1, .long x1), (3, .int x3), (4, .int x4), (5, .int x5), (6, .int x6), (7, .int x7), (9, .int x9)]) (hp' := rH e g q c l) (i := .ifCond .ne 18) (len := 3) rfl hj rfl rfl rfl]
  by_cases hc : xCn .ne ((lg_cmp ((l 93 (x9).toNatClampNeg)) x1)) 0 = true
  · obtain ⟨f, h⟩ := h1 hc
    refine ⟨f + 7, ?_⟩
    rw [key, if_pos hc]
    exact h
  · obtain ⟨f, h⟩ := h2 hc
    refine ⟨f + 7, ?_⟩
    rw [key, if_neg hc]
    exact h
set_option maxRecDepth 100000 in
set_option maxHeartbeats 4000000 in
theorem bk_425_98 {b : Bool} {d : Nat} {x3 x4 x5 x6 x7 x9 : Int32} {x1 : Int64} {e : Nat → x_E} {g : Nat → Int32} {q : Nat → Int64} {c : Nat → Nat → Int32} {l : Nat → Nat → Int64} {R : Option Value × List x_E} (hz0 : ¬ (x9 < 0 ∨ 1400 ≤ (x9).toNatClampNeg)) (h1 : xCn .ne ((c 94 (x9).toNatClampNeg)) x3 = true → rr b e d 425 113 [(0, .ref 49), (1, .long x1), (3, .int x3), (4, .int x4), (5, .int x5), (6, .int x6), (7, .int x7), (9, .int x9)] [] g q c l R) (h2 : ¬ xCn .ne ((c 94 (x9).toNatClampNeg)) x3 = true → rr b e d 425 109 [(0, .ref 49), (1, .long x1), (3, .int x3), (4, .int x4), (5, .int x5), (6, .int x6), (7, .int x7), (9, .int x9)] [] g q c l R) : rr b e d 425 98 [(0, .ref 49), (1, .long x1), (3, .int x3), (4, .int x4), (5, .int x5), (6, .int x6), (7, .int x7), (9, .int x9)] [] g q c l R := by
  have key : ∀ f, nrun xZ (xY (xfm b)) xDT (f + 6) d 425 98 [(0, .ref 49), (1, .long x1), (3, .int x3), (4, .int x4), (5, .int x5), (6, .int x6), (7, .int x7), (9, .int x9)] [] (rH e g q c l) 0 0 = nrun xZ (xY (xfm b)) xDT f d 425 (if xCn .ne ((c 94 (x9).toNatClampNeg)) x3 = true then 113 else 109) [(0, .ref 49), (1, .long x1), (3, .int x3), (4, .int x4), (5, .int x5), (6, .int x6), (7, .int x7), (9, .int x9)] [] (rH e g q c l) 0 0 := by
    intro f
    obtain ⟨y, cb, hj⟩ := mq_425
    rw [n_step (st' := [.ref 49]) (pc' := 99) (lv' := [(0, .ref 49), (1, .long x1), (3, .int x3), (4, .int x4), (5, .int x5), (6, .int x6), (7, .int x7), (9, .int x9)]) (hp' := rH e g q c l) (i := .aload_n 0) (len := 1) rfl hj rfl rfl rfl]
    rw [n_get (st' := [.ref 94]) (pc' := 102) (lv' := [(0, .ref 49), (1, .long x1), (3, .int x3), (4, .int x4), (5, .int x5), (6, .int x6), (7, .int x7), (9, .int x9)]) (hp' := rH e g q c l) (i := .getfield 153) (len := 3) rfl hj rfl rfl rfl rfl]
    rw [n_step (st' := [.int x9, .ref 94]) (pc' := 104) (lv' := [(0, .ref 49), (1, .long x1), (3, .int x3), (4, .int x4), (5, .int x5), (6, .int x6), (7, .int x7), (9, .int x9)]) (hp' := rH e g q c l) (i := .iload 9) (len := 2) rfl hj rfl rfl rfl]
    rw [n_ial (st' := [.int (c 94 (x9).toNatClampNeg)]) rfl hj (ald_94 hz0)]
    rw [n_step (st' := [.int x3, .int (c 94 (x9).toNatClampNeg)]) (pc' := 106) (lv' := [(0, .ref 49), (1, .long x1), (3, .int x3), (4, .int x4), (5, .int x5), (6, .int x6), (7, .int x7), (9, .int x9)]) (hp' := rH e g q c l) (i := .iload_n 3) (len := 1) rfl hj rfl rfl rfl]
    rw [n_step (st' := []) (pc' := (if xCn .ne ((c 94 (x9).toNatClampNeg)) x3 = true then 113 else 109)) (lv' := [(0, .ref 49), (1, .long x1), (3, .int x3), (4, .int x4), (5, .int x5), (6, .int x6), (7, .int x7), (9, .int x9)]) (hp' := rH e g q c l) (i := .if_icmp .ne 7) (len := 3) rfl hj rfl rfl rfl]
  by_cases hc : xCn .ne ((c 94 (x9).toNatClampNeg)) x3 = true
  · obtain ⟨f, h⟩ := h1 hc
    refine ⟨f + 6, ?_⟩
    rw [key, if_pos hc]
    exact h
  · obtain ⟨f, h⟩ := h2 hc
    refine ⟨f + 6, ?_⟩
    rw [key, if_neg hc]
    exact h
set_option maxRecDepth 100000 in
set_option maxHeartbeats 4000000 in
theorem bk_425_109 {b : Bool} {d : Nat} {x3 x4 x5 x6 x7 x9 : Int32} {x1 : Int64} {e : Nat → x_E} {g : Nat → Int32} {q : Nat → Int64} {c : Nat → Nat → Int32} {l : Nat → Nat → Int64} {R : Option Value × List x_E} (h : rr b e d 425 114 [(0, .ref 49), (1, .long x1), (3, .int x3), (4, .int x4), (5, .int x5), (6, .int x6), (7, .int x7), (9, .int x9)] [.int (Int32.ofInt (1))] g q c l R) : rr b e d 425 109 [(0, .ref 49), (1, .long x1), (3, .int x3), (4, .int x4), (5, .int x5), (6, .int x6), (7, .int x7), (9, .int x9)] [] g q c l R := by
  obtain ⟨f, h⟩ := h
  refine ⟨f + 2, ?_⟩
  obtain ⟨y, cb, hj⟩ := mq_425
  rw [n_step (st' := [.int (Int32.ofInt (1))]) (pc' := 110) (lv' := [(0, .ref 49), (1, .long x1), (3, .int x3), (4, .int x4), (5, .int x5), (6, .int x6), (7, .int x7), (9, .int x9)]) (hp' := rH e g q c l) (i := .iconst 1) (len := 1) rfl hj rfl rfl rfl]
  rw [n_step (st' := [.int (Int32.ofInt (1))]) (pc' := 114) (lv' := [(0, .ref 49), (1, .long x1), (3, .int x3), (4, .int x4), (5, .int x5), (6, .int x6), (7, .int x7), (9, .int x9)]) (hp' := rH e g q c l) (i := .goto 4) (len := 3) rfl hj rfl rfl rfl]
  exact h
set_option maxRecDepth 100000 in
set_option maxHeartbeats 4000000 in
theorem bk_425_113 {b : Bool} {d : Nat} {x3 x4 x5 x6 x7 x9 : Int32} {x1 : Int64} {e : Nat → x_E} {g : Nat → Int32} {q : Nat → Int64} {c : Nat → Nat → Int32} {l : Nat → Nat → Int64} {R : Option Value × List x_E} (h : rr b e d 425 114 [(0, .ref 49), (1, .long x1), (3, .int x3), (4, .int x4), (5, .int x5), (6, .int x6), (7, .int x7), (9, .int x9)] [.int (Int32.ofInt (0))] g q c l R) : rr b e d 425 113 [(0, .ref 49), (1, .long x1), (3, .int x3), (4, .int x4), (5, .int x5), (6, .int x6), (7, .int x7), (9, .int x9)] [] g q c l R := by
  obtain ⟨f, h⟩ := h
  refine ⟨f + 1, ?_⟩
  obtain ⟨y, cb, hj⟩ := mq_425
  rw [n_step (st' := [.int (Int32.ofInt (0))]) (pc' := 114) (lv' := [(0, .ref 49), (1, .long x1), (3, .int x3), (4, .int x4), (5, .int x5), (6, .int x6), (7, .int x7), (9, .int x9)]) (hp' := rH e g q c l) (i := .iconst 0) (len := 1) rfl hj rfl rfl rfl]
  exact h
set_option maxRecDepth 100000 in
set_option maxHeartbeats 4000000 in
theorem bk_425_114 {b : Bool} {d : Nat} {t0 x3 x4 x5 x6 x7 x9 : Int32} {x1 : Int64} {e : Nat → x_E} {g : Nat → Int32} {q : Nat → Int64} {c : Nat → Nat → Int32} {l : Nat → Nat → Int64} {R : Option Value × List x_E} (h : rr b e d 425 72 [(0, .ref 49), (1, .long x1), (3, .int x3), (4, .int x4), (5, .int x5), (6, .int x6), (7, .int x7), (8, .int t0), (9, .int (x9 + Int32.ofInt (1)))] [] g q c l R) : rr b e d 425 114 [(0, .ref 49), (1, .long x1), (3, .int x3), (4, .int x4), (5, .int x5), (6, .int x6), (7, .int x7), (9, .int x9)] [.int t0] g q c l R := by
  obtain ⟨f, h⟩ := h
  refine ⟨f + 3, ?_⟩
  obtain ⟨y, cb, hj⟩ := mq_425
  rw [n_step (st' := []) (pc' := 116) (lv' := [(8, .int t0), (0, .ref 49), (1, .long x1), (3, .int x3), (4, .int x4), (5, .int x5), (6, .int x6), (7, .int x7), (9, .int x9)]) (hp' := rH e g q c l) (i := .istore 8) (len := 2) rfl hj rfl rfl rfl]
  rw [n_step (st' := []) (pc' := 119) (lv' := [(9, .int (x9 + Int32.ofInt (1))), (8, .int t0), (0, .ref 49), (1, .long x1), (3, .int x3), (4, .int x4), (5, .int x5), (6, .int x6), (7, .int x7)]) (hp' := rH e g q c l) (i := .iinc 9 1) (len := 3) rfl hj rfl rfl rfl]
  rw [n_step (st' := []) (pc' := 72) (lv' := [(9, .int (x9 + Int32.ofInt (1))), (8, .int t0), (0, .ref 49), (1, .long x1), (3, .int x3), (4, .int x4), (5, .int x5), (6, .int x6), (7, .int x7)]) (hp' := rH e g q c l) (i := .goto (-47)) (len := 3) rfl hj rfl rfl rfl]
  exact nrun_ext f f _ _ R 425 72 [(0, .ref 49), (1, .long x1), (3, .int x3), (4, .int x4), (5, .int x5), (6, .int x6), (7, .int x7), (8, .int t0), (9, .int (x9 + Int32.ofInt (1)))] [(9, .int (x9 + Int32.ofInt (1))), (8, .int t0), (0, .ref 49), (1, .long x1), (3, .int x3), (4, .int x4), (5, .int x5), (6, .int x6), (7, .int x7)] [] _ 0 0 122 (Nat.le_refl _) (Nat.le_refl _) (Nat.le_of_ble_eq_true rfl) (lvR_mk [0, 1, 3, 4, 5, 6, 7, 8, 9] [9, 8, 0, 1, 3, 4, 5, 6, 7] rfl rfl (by decide) (by decide) (List.forall_mem_cons.mpr ⟨(List.mem_cons_of_mem _ (List.mem_cons_of_mem _ List.mem_cons_self)), (List.forall_mem_cons.mpr ⟨(List.mem_cons_of_mem _ (List.mem_cons_of_mem _ (List.mem_cons_of_mem _ List.mem_cons_self))), (List.forall_mem_cons.mpr ⟨(List.mem_cons_of_mem _ (List.mem_cons_of_mem _ (List.mem_cons_of_mem _ (List.mem_cons_of_mem _ List.mem_cons_self)))), (List.forall_mem_cons.mpr ⟨(List.mem_cons_of_mem _ (List.mem_cons_of_mem _ (List.mem_cons_of_mem _ (List.mem_cons_of_mem _ (List.mem_cons_of_mem _ List.mem_cons_self))))), (List.forall_mem_cons.mpr ⟨(List.mem_cons_of_mem _ (List.mem_cons_of_mem _ (List.mem_cons_of_mem _ (List.mem_cons_of_mem _ (List.mem_cons_of_mem _ (List.mem_cons_of_mem _ List.mem_cons_self)))))), (List.forall_mem_cons.mpr ⟨(List.mem_cons_of_mem _ (List.mem_cons_of_mem _ (List.mem_cons_of_mem _ (List.mem_cons_of_mem _ (List.mem_cons_of_mem _ (List.mem_cons_of_mem _ (List.mem_cons_of_mem _ List.mem_cons_self))))))), (List.forall_mem_cons.mpr ⟨(List.mem_cons_of_mem _ (List.mem_cons_of_mem _ (List.mem_cons_of_mem _ (List.mem_cons_of_mem _ (List.mem_cons_of_mem _ (List.mem_cons_of_mem _ (List.mem_cons_of_mem _ (List.mem_cons_of_mem _ List.mem_cons_self)))))))), (List.forall_mem_cons.mpr ⟨(List.mem_cons_of_mem _ List.mem_cons_self), (List.forall_mem_cons.mpr ⟨List.mem_cons_self, (fun _ h => nomatch h)⟩)⟩)⟩)⟩)⟩)⟩)⟩)⟩)⟩) (List.forall_mem_cons.mpr ⟨Or.inl (List.mem_cons_of_mem _ (List.mem_cons_of_mem _ (List.mem_cons_of_mem _ (List.mem_cons_of_mem _ (List.mem_cons_of_mem _ (List.mem_cons_of_mem _ (List.mem_cons_of_mem _ (List.mem_cons_of_mem _ List.mem_cons_self)))))))), (List.forall_mem_cons.mpr ⟨Or.inl (List.mem_cons_of_mem _ (List.mem_cons_of_mem _ (List.mem_cons_of_mem _ (List.mem_cons_of_mem _ (List.mem_cons_of_mem _ (List.mem_cons_of_mem _ (List.mem_cons_of_mem _ List.mem_cons_self))))))), (List.forall_mem_cons.mpr ⟨Or.inl List.mem_cons_self, (List.forall_mem_cons.mpr ⟨Or.inl (List.mem_cons_of_mem _ List.mem_cons_self), (List.forall_mem_cons.mpr ⟨Or.inl (List.mem_cons_of_mem _ (List.mem_cons_of_mem _ List.mem_cons_self)), (List.forall_mem_cons.mpr ⟨Or.inl (List.mem_cons_of_mem _ (List.mem_cons_of_mem _ (List.mem_cons_of_mem _ List.mem_cons_self))), (List.forall_mem_cons.mpr ⟨Or.inl (List.mem_cons_of_mem _ (List.mem_cons_of_mem _ (List.mem_cons_of_mem _ (List.mem_cons_of_mem _ List.mem_cons_self)))), (List.forall_mem_cons.mpr ⟨Or.inl (List.mem_cons_of_mem _ (List.mem_cons_of_mem _ (List.mem_cons_of_mem _ (List.mem_cons_of_mem _ (List.mem_cons_of_mem _ List.mem_cons_self))))), (List.forall_mem_cons.mpr ⟨Or.inl (List.mem_cons_of_mem _ (List.mem_cons_of_mem _ (List.mem_cons_of_mem _ (List.mem_cons_of_mem _ (List.mem_cons_of_mem _ (List.mem_cons_of_mem _ List.mem_cons_self)))))), (fun _ h => nomatch h)⟩)⟩)⟩)⟩)⟩)⟩)⟩)⟩)⟩)) h
set_option maxRecDepth 100000 in
set_option maxHeartbeats 4000000 in
theorem bk_425_122 {b : Bool} {d : Nat} {x3 x4 x5 x6 x7 x8 : Int32} {x1 : Int64} {e : Nat → x_E} {g : Nat → Int32} {q : Nat → Int64} {c : Nat → Nat → Int32} {l : Nat → Nat → Int64} {R : Option Value × List x_E} (h1 : xCn .eq x8 0 = true → rr b e d 425 134 [(0, .ref 49), (1, .long x1), (3, .int x3), (5, .int x5), (6, .int x6), (7, .int x7)] [] g q c l R) (h2 : ¬ xCn .eq x8 0 = true → rr b e d 425 127 [(0, .ref 49), (1, .long x1), (3, .int x3), (4, .int x4), (5, .int x5), (6, .int x6), (7, .int x7)] [] g q c l R) : rr b e d 425 122 [(0, .ref 49), (1, .long x1), (3, .int x3), (4, .int x4), (5, .int x5), (6, .int x6), (7, .int x7), (8, .int x8)] [] g q c l R := by
  have key : ∀ f, nrun xZ (xY (xfm b)) xDT (f + 2) d 425 122 [(0, .ref 49), (1, .long x1), (3, .int x3), (4, .int x4), (5, .int x5), (6, .int x6), (7, .int x7), (8, .int x8)] [] (rH e g q c l) 0 0 = nrun xZ (xY (xfm b)) xDT f d 425 (if xCn .eq x8 0 = true then 134 else 127) [(0, .ref 49), (1, .long x1), (3, .int x3), (4, .int x4), (5, .int x5), (6, .int x6), (7, .int x7), (8, .int x8)] [] (rH e g q c l) 0 0 := by
    intro f
    obtain ⟨y, cb, hj⟩ := mq_425
    rw [n_step (st' := [.int x8]) (pc' := 124) (lv' := [(0, .ref 49), (1, .long x1), (3, .int x3), (4, .int x4), (5, .int x5), (6, .int x6), (7, .int x7), (8, .int x8)]) (hp' := rH e g q c l) (i := .iload 8) (len := 2) rfl hj rfl rfl rfl]
    rw [n_step (st' := []) (pc' := (if xCn .eq x8 0 = true then 134 else 127)) (lv' := [(0, .ref 49), (1, .long x1), (3, .int x3), (4, .int x4), (5, .int x5), (6, .int x6), (7, .int x7), (8, .int x8)]) (hp' := rH e g q c l) (i := .ifCond .eq 10) (len := 3) rfl hj rfl rfl rfl]
  by_cases hc : xCn .eq x8 0 = true
  · obtain ⟨f, h⟩ := h1 hc
    refine ⟨f + 2, ?_⟩
    rw [key, if_pos hc]
    exact nrun_ext f f _ _ R 425 134 [(0, .ref 49), (1, .long x1), (3, .int x3), (5, .int x5), (6, .int x6), (7, .int x7)] [(0, .ref 49), (1, .long x1), (3, .int x3), (4, .int x4), (5, .int x5), (6, .int x6), (7, .int x7), (8, .int x8)] [] _ 0 0 122 (Nat.le_refl _) (Nat.le_refl _) (Nat.le_of_ble_eq_true rfl) (lvR_mk [0, 1, 3, 5, 6, 7] [0, 1, 3, 4, 5, 6, 7, 8] rfl rfl (by decide) (by decide) (List.forall_mem_cons.mpr ⟨List.mem_cons_self, (List.forall_mem_cons.mpr ⟨(List.mem_cons_of_mem _ List.mem_cons_self), (List.forall_mem_cons.mpr ⟨(List.mem_cons_of_mem _ (List.mem_cons_of_mem _ List.mem_cons_self)), (List.forall_mem_cons.mpr ⟨(List.mem_cons_of_mem _ (List.mem_cons_of_mem _ (List.mem_cons_of_mem _ (List.mem_cons_of_mem _ List.mem_cons_self)))), (List.forall_mem_cons.mpr ⟨(List.mem_cons_of_mem _ (List.mem_cons_of_mem _ (List.mem_cons_of_mem _ (List.mem_cons_of_mem _ (List.mem_cons_of_mem _ List.mem_cons_self))))), (List.forall_mem_cons.mpr ⟨(List.mem_cons_of_mem _ (List.mem_cons_of_mem _ (List.mem_cons_of_mem _ (List.mem_cons_of_mem _ (List.mem_cons_of_mem _ (List.mem_cons_of_mem _ List.mem_cons_self)))))), (fun _ h => nomatch h)⟩)⟩)⟩)⟩)⟩)⟩) (List.forall_mem_cons.mpr ⟨Or.inl List.mem_cons_self, (List.forall_mem_cons.mpr ⟨Or.inl (List.mem_cons_of_mem _ List.mem_cons_self), (List.forall_mem_cons.mpr ⟨Or.inl (List.mem_cons_of_mem _ (List.mem_cons_of_mem _ List.mem_cons_self)), (List.forall_mem_cons.mpr ⟨Or.inr rfl, (List.forall_mem_cons.mpr ⟨Or.inl (List.mem_cons_of_mem _ (List.mem_cons_of_mem _ (List.mem_cons_of_mem _ List.mem_cons_self))), (List.forall_mem_cons.mpr ⟨Or.inl (List.mem_cons_of_mem _ (List.mem_cons_of_mem _ (List.mem_cons_of_mem _ (List.mem_cons_of_mem _ List.mem_cons_self)))), (List.forall_mem_cons.mpr ⟨Or.inl (List.mem_cons_of_mem _ (List.mem_cons_of_mem _ (List.mem_cons_of_mem _ (List.mem_cons_of_mem _ (List.mem_cons_of_mem _ List.mem_cons_self))))), (List.forall_mem_cons.mpr ⟨Or.inr rfl, (fun _ h => nomatch h)⟩)⟩)⟩)⟩)⟩)⟩)⟩)⟩)) h
  · obtain ⟨f, h⟩ := h2 hc
    refine ⟨f + 2, ?_⟩
    rw [key, if_neg hc]
    exact nrun_ext f f _ _ R 425 127 [(0, .ref 49), (1, .long x1), (3, .int x3), (4, .int x4), (5, .int x5), (6, .int x6), (7, .int x7)] [(0, .ref 49), (1, .long x1), (3, .int x3), (4, .int x4), (5, .int x5), (6, .int x6), (7, .int x7), (8, .int x8)] [] _ 0 0 122 (Nat.le_refl _) (Nat.le_refl _) (Nat.le_of_ble_eq_true rfl) (lvR_mk [0, 1, 3, 4, 5, 6, 7] [0, 1, 3, 4, 5, 6, 7, 8] rfl rfl (by decide) (by decide) (List.forall_mem_cons.mpr ⟨List.mem_cons_self, (List.forall_mem_cons.mpr ⟨(List.mem_cons_of_mem _ List.mem_cons_self), (List.forall_mem_cons.mpr ⟨(List.mem_cons_of_mem _ (List.mem_cons_of_mem _ List.mem_cons_self)), (List.forall_mem_cons.mpr ⟨(List.mem_cons_of_mem _ (List.mem_cons_of_mem _ (List.mem_cons_of_mem _ List.mem_cons_self))), (List.forall_mem_cons.mpr ⟨(List.mem_cons_of_mem _ (List.mem_cons_of_mem _ (List.mem_cons_of_mem _ (List.mem_cons_of_mem _ List.mem_cons_self)))), (List.forall_mem_cons.mpr ⟨(List.mem_cons_of_mem _ (List.mem_cons_of_mem _ (List.mem_cons_of_mem _ (List.mem_cons_of_mem _ (List.mem_cons_of_mem _ List.mem_cons_self))))), (List.forall_mem_cons.mpr ⟨(List.mem_cons_of_mem _ (List.mem_cons_of_mem _ (List.mem_cons_of_mem _ (List.mem_cons_of_mem _ (List.mem_cons_of_mem _ (List.mem_cons_of_mem _ List.mem_cons_self)))))), (fun _ h => nomatch h)⟩)⟩)⟩)⟩)⟩)⟩)⟩) (List.forall_mem_cons.mpr ⟨Or.inl List.mem_cons_self, (List.forall_mem_cons.mpr ⟨Or.inl (List.mem_cons_of_mem _ List.mem_cons_self), (List.forall_mem_cons.mpr ⟨Or.inl (List.mem_cons_of_mem _ (List.mem_cons_of_mem _ List.mem_cons_self)), (List.forall_mem_cons.mpr ⟨Or.inl (List.mem_cons_of_mem _ (List.mem_cons_of_mem _ (List.mem_cons_of_mem _ List.mem_cons_self))), (List.forall_mem_cons.mpr ⟨Or.inl (List.mem_cons_of_mem _ (List.mem_cons_of_mem _ (List.mem_cons_of_mem _ (List.mem_cons_of_mem _ List.mem_cons_self)))), (List.forall_mem_cons.mpr ⟨Or.inl (List.mem_cons_of_mem _ (List.mem_cons_of_mem _ (List.mem_cons_of_mem _ (List.mem_cons_of_mem _ (List.mem_cons_of_mem _ List.mem_cons_self))))), (List.forall_mem_cons.mpr ⟨Or.inl (List.mem_cons_of_mem _ (List.mem_cons_of_mem _ (List.mem_cons_of_mem _ (List.mem_cons_of_mem _ (List.mem_cons_of_mem _ (List.mem_cons_of_mem _ List.mem_cons_self)))))), (List.forall_mem_cons.mpr ⟨Or.inr rfl, (fun _ h => nomatch h)⟩)⟩)⟩)⟩)⟩)⟩)⟩)⟩)) h
set_option maxRecDepth 100000 in
set_option maxHeartbeats 4000000 in
theorem bk_425_127 {b : Bool} {d : Nat} {x3 x4 x5 x6 x7 : Int32} {x1 : Int64} {e : Nat → x_E} {g : Nat → Int32} {q : Nat → Int64} {c : Nat → Nat → Int32} {l : Nat → Nat → Int64} {g' : Nat → Int32} {q' : Nat → Int64} {c' : Nat → Nat → Int32} {l' : Nat → Nat → Int64} {R : Option Value × List x_E} (hc : rr b e d 349 0 [(0, .ref 49), (1, .int (Int32.ofInt (3))), (2, .int x4)] [] g q c l (none, rH e g' q' c' l')) (h : rr b e (d + 1) 425 134 [(0, .ref 49), (1, .long x1), (3, .int x3), (5, .int x5), (6, .int x6), (7, .int x7)] [] g' q' c' l' R) : rr b e (d + 1) 425 127 [(0, .ref 49), (1, .long x1), (3, .int x3), (4, .int x4), (5, .int x5), (6, .int x6), (7, .int x7)] [] g q c l R := by
  obtain ⟨f1, hc⟩ := hc
  obtain ⟨f2, h⟩ := h
  obtain ⟨f, hf1, hf2⟩ : ∃ f, f1 ≤ f ∧ f2 ≤ f := ⟨max f1 f2, Nat.le_max_left _ _, Nat.le_max_right _ _⟩
  have hc := nrun_fuel f1 f _ _ _ _ _ _ _ _ _ hf1 hc
  have h := nrun_fuel f2 f _ _ _ _ _ _ _ _ _ hf2 h
  refine ⟨f + 4, ?_⟩
  obtain ⟨y, cb, hj⟩ := mq_425
  rw [n_step (st' := [.ref 49]) (pc' := 128) (lv' := [(0, .ref 49), (1, .long x1), (3, .int x3), (4, .int x4), (5, .int x5), (6, .int x6), (7, .int x7)]) (hp' := rH e g q c l) (i := .aload_n 0) (len := 1) rfl hj rfl rfl rfl]
  rw [n_step (st' := [.int (Int32.ofInt (3)), .ref 49]) (pc' := 129) (lv' := [(0, .ref 49), (1, .long x1), (3, .int x3), (4, .int x4), (5, .int x5), (6, .int x6), (7, .int x7)]) (hp' := rH e g q c l) (i := .iconst 3) (len := 1) rfl hj rfl rfl rfl]
  rw [n_step (st' := [.int x4, .int (Int32.ofInt (3)), .ref 49]) (pc' := 131) (lv' := [(0, .ref 49), (1, .long x1), (3, .int x3), (4, .int x4), (5, .int x5), (6, .int x6), (7, .int x7)]) (hp' := rH e g q c l) (i := .iload 4) (len := 2) rfl hj rfl rfl rfl]
  obtain ⟨y2, cb2, hj2⟩ := mq_349
  rw [n_call (f := f) (d := d) (ki := 0) (idx := 427) (j' := 349) (kd := 0) (M' := (y2, cb2, 3, none, 12, 2, 0, 0)) (avs := [.ref 49, .int (Int32.ofInt (3)), .int x4]) (r := []) (rv := none) (hp1 := rH e g' q' c' l') rfl hj rfl rfl rfl rfl (rq_n rfl rfl hj2 rfl rfl) rfl hc (Nat.le_of_ble_eq_true rfl)]
  exact nrun_ext f f _ _ R 425 134 [(0, .ref 49), (1, .long x1), (3, .int x3), (5, .int x5), (6, .int x6), (7, .int x7)] [(0, .ref 49), (1, .long x1), (3, .int x3), (4, .int x4), (5, .int x5), (6, .int x6), (7, .int x7)] [] _ 0 0 122 (Nat.le_refl _) (Nat.le_refl _) (Nat.le_of_ble_eq_true rfl) (lvR_mk [0, 1, 3, 5, 6, 7] [0, 1, 3, 4, 5, 6, 7] rfl rfl (by decide) (by decide) (List.forall_mem_cons.mpr ⟨List.mem_cons_self, (List.forall_mem_cons.mpr ⟨(List.mem_cons_of_mem _ List.mem_cons_self), (List.forall_mem_cons.mpr ⟨(List.mem_cons_of_mem _ (List.mem_cons_of_mem _ List.mem_cons_self)), (List.forall_mem_cons.mpr ⟨(List.mem_cons_of_mem _ (List.mem_cons_of_mem _ (List.mem_cons_of_mem _ (List.mem_cons_of_mem _ List.mem_cons_self)))), (List.forall_mem_cons.mpr ⟨(List.mem_cons_of_mem _ (List.mem_cons_of_mem _ (List.mem_cons_of_mem _ (List.mem_cons_of_mem _ (List.mem_cons_of_mem _ List.mem_cons_self))))), (List.forall_mem_cons.mpr ⟨(List.mem_cons_of_mem _ (List.mem_cons_of_mem _ (List.mem_cons_of_mem _ (List.mem_cons_of_mem _ (List.mem_cons_of_mem _ (List.mem_cons_of_mem _ List.mem_cons_self)))))), (fun _ h => nomatch h)⟩)⟩)⟩)⟩)⟩)⟩) (List.forall_mem_cons.mpr ⟨Or.inl List.mem_cons_self, (List.forall_mem_cons.mpr ⟨Or.inl (List.mem_cons_of_mem _ List.mem_cons_self), (List.forall_mem_cons.mpr ⟨Or.inl (List.mem_cons_of_mem _ (List.mem_cons_of_mem _ List.mem_cons_self)), (List.forall_mem_cons.mpr ⟨Or.inr rfl, (List.forall_mem_cons.mpr ⟨Or.inl (List.mem_cons_of_mem _ (List.mem_cons_of_mem _ (List.mem_cons_of_mem _ List.mem_cons_self))), (List.forall_mem_cons.mpr ⟨Or.inl (List.mem_cons_of_mem _ (List.mem_cons_of_mem _ (List.mem_cons_of_mem _ (List.mem_cons_of_mem _ List.mem_cons_self)))), (List.forall_mem_cons.mpr ⟨Or.inl (List.mem_cons_of_mem _ (List.mem_cons_of_mem _ (List.mem_cons_of_mem _ (List.mem_cons_of_mem _ (List.mem_cons_of_mem _ List.mem_cons_self))))), (fun _ h => nomatch h)⟩)⟩)⟩)⟩)⟩)⟩)⟩)) h
set_option maxRecDepth 100000 in
set_option maxHeartbeats 4000000 in
theorem bk_425_134 {b : Bool} {d : Nat} {x3 x5 x6 x7 : Int32} {x1 : Int64} {e : Nat → x_E} {g : Nat → Int32} {q : Nat → Int64} {c : Nat → Nat → Int32} {l : Nat → Nat → Int64} {g' : Nat → Int32} {q' : Nat → Int64} {c' : Nat → Nat → Int32} {l' : Nat → Nat → Int64} {R : Option Value × List x_E} (hc : rr b e d 404 0 [(0, .ref 49), (1, .long x1), (3, .int x3), (4, .int (g 94))] [] (upd g 94 (((g 94) + (Int32.ofInt (1))))) q c l (none, rH e g' q' c' l')) (h : rr b e (d + 1) 425 158 [(0, .ref 49), (5, .int x5), (6, .int x6), (7, .int x7), (9, .int (g 94))] [] g' q' c' l' R) : rr b e (d + 1) 425 134 [(0, .ref 49), (1, .long x1), (3, .int x3), (5, .int x5), (6, .int x6), (7, .int x7)] [] g q c l R := by
  obtain ⟨f1, hc⟩ := hc
  obtain ⟨f2, h⟩ := h
  obtain ⟨f, hf1, hf2⟩ : ∃ f, f1 ≤ f ∧ f2 ≤ f := ⟨max f1 f2, Nat.le_max_left _ _, Nat.le_max_right _ _⟩
  have hc := nrun_fuel f1 f _ _ _ _ _ _ _ _ _ hf1 hc
  have h := nrun_fuel f2 f _ _ _ _ _ _ _ _ _ hf2 h
  refine ⟨f + 14, ?_⟩
  obtain ⟨y, cb, hj⟩ := mq_425
  rw [n_step (st' := [.ref 49]) (pc' := 135) (lv' := [(0, .ref 49), (1, .long x1), (3, .int x3), (5, .int x5), (6, .int x6), (7, .int x7)]) (hp' := rH e g q c l) (i := .aload_n 0) (len := 1) rfl hj rfl rfl rfl]
  rw [n_get (st' := [.int (g 94)]) (pc' := 138) (lv' := [(0, .ref 49), (1, .long x1), (3, .int x3), (5, .int x5), (6, .int x6), (7, .int x7)]) (hp' := rH e g q c l) (i := .getfield 697) (len := 3) rfl hj rfl rfl rfl rfl]
  rw [n_step (st' := []) (pc' := 140) (lv' := [(9, .int (g 94)), (0, .ref 49), (1, .long x1), (3, .int x3), (5, .int x5), (6, .int x6), (7, .int x7)]) (hp' := rH e g q c l) (i := .istore 9) (len := 2) rfl hj rfl rfl rfl]
  rw [n_step (st' := [.ref 49]) (pc' := 141) (lv' := [(9, .int (g 94)), (0, .ref 49), (1, .long x1), (3, .int x3), (5, .int x5), (6, .int x6), (7, .int x7)]) (hp' := rH e g q c l) (i := .aload_n 0) (len := 1) rfl hj rfl rfl rfl]
  rw [n_step (st' := [.ref 49, .ref 49]) (pc' := 142) (lv' := [(9, .int (g 94)), (0, .ref 49), (1, .long x1), (3, .int x3), (5, .int x5), (6, .int x6), (7, .int x7)]) (hp' := rH e g q c l) (i := .aload_n 0) (len := 1) rfl hj rfl rfl rfl]
  rw [n_get (st' := [.int (g 94), .ref 49]) (pc' := 145) (lv' := [(9, .int (g 94)), (0, .ref 49), (1, .long x1), (3, .int x3), (5, .int x5), (6, .int x6), (7, .int x7)]) (hp' := rH e g q c l) (i := .getfield 697) (len := 3) rfl hj rfl rfl rfl rfl]
  rw [n_step (st' := [.int (Int32.ofInt (1)), .int (g 94), .ref 49]) (pc' := 146) (lv' := [(9, .int (g 94)), (0, .ref 49), (1, .long x1), (3, .int x3), (5, .int x5), (6, .int x6), (7, .int x7)]) (hp' := rH e g q c l) (i := .iconst 1) (len := 1) rfl hj rfl rfl rfl]
  rw [n_step (st' := [.int ((g 94) + (Int32.ofInt (1))), .ref 49]) (pc' := 147) (lv' := [(9, .int (g 94)), (0, .ref 49), (1, .long x1), (3, .int x3), (5, .int x5), (6, .int x6), (7, .int x7)]) (hp' := rH e g q c l) (i := .iadd) (len := 1) rfl hj rfl rfl rfl]
  rw [n_put (st' := []) (hp' := rH e (upd g 94 (((g 94) + (Int32.ofInt (1))))) q c l) rfl hj pf_94]
  rw [n_step (st' := [.ref 49]) (pc' := 151) (lv' := [(9, .int (g 94)), (0, .ref 49), (1, .long x1), (3, .int x3), (5, .int x5), (6, .int x6), (7, .int x7)]) (hp' := rH e (upd g 94 (((g 94) + (Int32.ofInt (1))))) q c l) (i := .aload_n 0) (len := 1) rfl hj rfl rfl rfl]
  rw [n_step (st' := [.long x1, .ref 49]) (pc' := 152) (lv' := [(9, .int (g 94)), (0, .ref 49), (1, .long x1), (3, .int x3), (5, .int x5), (6, .int x6), (7, .int x7)]) (hp' := rH e (upd g 94 (((g 94) + (Int32.ofInt (1))))) q c l) (i := .lload_n 1) (len := 1) rfl hj rfl rfl rfl]
  rw [n_step (st' := [.int x3, .long x1, .ref 49]) (pc' := 153) (lv' := [(9, .int (g 94)), (0, .ref 49), (1, .long x1), (3, .int x3), (5, .int x5), (6, .int x6), (7, .int x7)]) (hp' := rH e (upd g 94 (((g 94) + (Int32.ofInt (1))))) q c l) (i := .iload_n 3) (len := 1) rfl hj rfl rfl rfl]
  rw [n_step (st' := [.int (g 94), .int x3, .long x1, .ref 49]) (pc' := 155) (lv' := [(9, .int (g 94)), (0, .ref 49), (1, .long x1), (3, .int x3), (5, .int x5), (6, .int x6), (7, .int x7)]) (hp' := rH e (upd g 94 (((g 94) + (Int32.ofInt (1))))) q c l) (i := .iload 9) (len := 2) rfl hj rfl rfl rfl]
  obtain ⟨y2, cb2, hj2⟩ := mq_404
  rw [n_call (f := f) (d := d) (ki := 0) (idx := 706) (j' := 404) (kd := 0) (M' := (y2, cb2, 5, none, 12, 3, 0, 0)) (avs := [.ref 49, .long x1, .int x3, .int (g 94)]) (r := []) (rv := none) (hp1 := rH e g' q' c' l') rfl hj rfl rfl rfl rfl (rq_n rfl rfl hj2 rfl rfl) rfl hc (Nat.le_of_ble_eq_true rfl)]
  exact nrun_ext f f _ _ R 425 158 [(0, .ref 49), (5, .int x5), (6, .int x6), (7, .int x7), (9, .int (g 94))] [(9, .int (g 94)), (0, .ref 49), (1, .long x1), (3, .int x3), (5, .int x5), (6, .int x6), (7, .int x7)] [] _ 0 0 122 (Nat.le_refl _) (Nat.le_refl _) (Nat.le_of_ble_eq_true rfl) (lvR_mk [0, 5, 6, 7, 9] [9, 0, 1, 3, 5, 6, 7] rfl rfl (by decide) (by decide) (List.forall_mem_cons.mpr ⟨(List.mem_cons_of_mem _ List.mem_cons_self), (List.forall_mem_cons.mpr ⟨(List.mem_cons_of_mem _ (List.mem_cons_of_mem _ (List.mem_cons_of_mem _ (List.mem_cons_of_mem _ List.mem_cons_self)))), (List.forall_mem_cons.mpr ⟨(List.mem_cons_of_mem _ (List.mem_cons_of_mem _ (List.mem_cons_of_mem _ (List.mem_cons_of_mem _ (List.mem_cons_of_mem _ List.mem_cons_self))))), (List.forall_mem_cons.mpr ⟨(List.mem_cons_of_mem _ (List.mem_cons_of_mem _ (List.mem_cons_of_mem _ (List.mem_cons_of_mem _ (List.mem_cons_of_mem _ (List.mem_cons_of_mem _ List.mem_cons_self)))))), (List.forall_mem_cons.mpr ⟨List.mem_cons_self, (fun _ h => nomatch h)⟩)⟩)⟩)⟩)⟩) (List.forall_mem_cons.mpr ⟨Or.inl (List.mem_cons_of_mem _ (List.mem_cons_of_mem _ (List.mem_cons_of_mem _ (List.mem_cons_of_mem _ List.mem_cons_self)))), (List.forall_mem_cons.mpr ⟨Or.inl List.mem_cons_self, (List.forall_mem_cons.mpr ⟨Or.inr rfl, (List.forall_mem_cons.mpr ⟨Or.inr rfl, (List.forall_mem_cons.mpr ⟨Or.inl (List.mem_cons_of_mem _ List.mem_cons_self), (List.forall_mem_cons.mpr ⟨Or.inl (List.mem_cons_of_mem _ (List.mem_cons_of_mem _ List.mem_cons_self)), (List.forall_mem_cons.mpr ⟨Or.inl (List.mem_cons_of_mem _ (List.mem_cons_of_mem _ (List.mem_cons_of_mem _ List.mem_cons_self))), (fun _ h => nomatch h)⟩)⟩)⟩)⟩)⟩)⟩)⟩)) h
set_option maxRecDepth 100000 in
set_option maxHeartbeats 4000000 in
theorem bk_425_158 {b : Bool} {d : Nat} {x5 x6 x7 x9 : Int32} {e : Nat → x_E} {g : Nat → Int32} {q : Nat → Int64} {c : Nat → Nat → Int32} {l : Nat → Nat → Int64} {R : Option Value × List x_E} (h1 : xCn .eq x7 ((Int32.ofInt (-1))) = true → rr b e d 425 185 [(0, .ref 49), (5, .int x5), (7, .int x7), (9, .int x9), (10, .int (Int32.ofInt (-1)))] [] g q c l R) (h2 : ¬ xCn .eq x7 ((Int32.ofInt (-1))) = true → rr b e d 425 167 [(0, .ref 49), (5, .int x5), (6, .int x6), (7, .int x7), (9, .int x9), (10, .int (Int32.ofInt (-1)))] [] g q c l R) : rr b e d 425 158 [(0, .ref 49), (5, .int x5), (6, .int x6), (7, .int x7), (9, .int x9)] [] g q c l R := by
  have key : ∀ f, nrun xZ (xY (xfm b)) xDT (f + 5) d 425 158 [(0, .ref 49), (5, .int x5), (6, .int x6), (7, .int x7), (9, .int x9)] [] (rH e g q c l) 0 0 = nrun xZ (xY (xfm b)) xDT f d 425 (if xCn .eq x7 ((Int32.ofInt (-1))) = true then 185 else 167) [(10, .int (Int32.ofInt (-1))), (0, .ref 49), (5, .int x5), (6, .int x6), (7, .int x7), (9, .int x9)] [] (rH e g q c l) 0 0 := by
    intro f
    obtain ⟨y, cb, hj⟩ := mq_425
    rw [n_step (st' := [.int (Int32.ofInt (-1))]) (pc' := 159) (lv' := [(0, .ref 49), (5, .int x5), (6, .int x6), (7, .int x7), (9, .int x9)]) (hp' := rH e g q c l) (i := .iconst (-1)) (len := 1) rfl hj rfl rfl rfl]
    rw [n_step (st' := []) (pc' := 161) (lv' := [(10, .int (Int32.ofInt (-1))), (0, .ref 49), (5, .int x5), (6, .int x6), (7, .int x7), (9, .int x9)]) (hp' := rH e g q c l) (i := .istore 10) (len := 2) rfl hj rfl rfl rfl]
    rw [n_step (st' := [.int x7]) (pc' := 163) (lv' := [(10, .int (Int32.ofInt (-1))), (0, .ref 49), (5, .int x5), (6, .int x6), (7, .int x7), (9, .int x9)]) (hp' := rH e g q c l) (i := .iload 7) (len := 2) rfl hj rfl rfl rfl]
    rw [n_step (st' := [.int (Int32.ofInt (-1)), .int x7]) (pc' := 164) (lv' := [(10, .int (Int32.ofInt (-1))), (0, .ref 49), (5, .int x5), (6, .int x6), (7, .int x7), (9, .int x9)]) (hp' := rH e g q c l) (i := .iconst (-1)) (len := 1) rfl hj rfl rfl rfl]
    rw [n_step (st' := []) (pc' := (if xCn .eq x7 ((Int32.ofInt (-1))) = true then 185 else 167)) (lv' := [(10, .int (Int32.ofInt (-1))), (0, .ref 49), (5, .int x5), (6, .int x6), (7, .int x7), (9, .int x9)]) (hp' := rH e g q c l) (i := .if_icmp .eq 21) (len := 3) rfl hj rfl rfl rfl]
  by_cases hc : xCn .eq x7 ((Int32.ofInt (-1))) = true
  · obtain ⟨f, h⟩ := h1 hc
    refine ⟨f + 5, ?_⟩
    rw [key, if_pos hc]
    exact nrun_ext f f _ _ R 425 185 [(0, .ref 49), (5, .int x5), (7, .int x7), (9, .int x9), (10, .int (Int32.ofInt (-1)))] [(10, .int (Int32.ofInt (-1))), (0, .ref 49), (5, .int x5), (6, .int x6), (7, .int x7), (9, .int x9)] [] _ 0 0 122 (Nat.le_refl _) (Nat.le_refl _) (Nat.le_of_ble_eq_true rfl) (lvR_mk [0, 5, 7, 9, 10] [10, 0, 5, 6, 7, 9] rfl rfl (by decide) (by decide) (List.forall_mem_cons.mpr ⟨(List.mem_cons_of_mem _ List.mem_cons_self), (List.forall_mem_cons.mpr ⟨(List.mem_cons_of_mem _ (List.mem_cons_of_mem _ List.mem_cons_self)), (List.forall_mem_cons.mpr ⟨(List.mem_cons_of_mem _ (List.mem_cons_of_mem _ (List.mem_cons_of_mem _ (List.mem_cons_of_mem _ List.mem_cons_self)))), (List.forall_mem_cons.mpr ⟨(List.mem_cons_of_mem _ (List.mem_cons_of_mem _ (List.mem_cons_of_mem _ (List.mem_cons_of_mem _ (List.mem_cons_of_mem _ List.mem_cons_self))))), (List.forall_mem_cons.mpr ⟨List.mem_cons_self, (fun _ h => nomatch h)⟩)⟩)⟩)⟩)⟩) (List.forall_mem_cons.mpr ⟨Or.inl (List.mem_cons_of_mem _ (List.mem_cons_of_mem _ (List.mem_cons_of_mem _ (List.mem_cons_of_mem _ List.mem_cons_self)))), (List.forall_mem_cons.mpr ⟨Or.inl List.mem_cons_self, (List.forall_mem_cons.mpr ⟨Or.inl (List.mem_cons_of_mem _ List.mem_cons_self), (List.forall_mem_cons.mpr ⟨Or.inr rfl, (List.forall_mem_cons.mpr ⟨Or.inl (List.mem_cons_of_mem _ (List.mem_cons_of_mem _ List.mem_cons_self)), (List.forall_mem_cons.mpr ⟨Or.inl (List.mem_cons_of_mem _ (List.mem_cons_of_mem _ (List.mem_cons_of_mem _ List.mem_cons_self))), (fun _ h => nomatch h)⟩)⟩)⟩)⟩)⟩)⟩)) h
  · obtain ⟨f, h⟩ := h2 hc
    refine ⟨f + 5, ?_⟩
    rw [key, if_neg hc]
    exact nrun_ext f f _ _ R 425 167 [(0, .ref 49), (5, .int x5), (6, .int x6), (7, .int x7), (9, .int x9), (10, .int (Int32.ofInt (-1)))] [(10, .int (Int32.ofInt (-1))), (0, .ref 49), (5, .int x5), (6, .int x6), (7, .int x7), (9, .int x9)] [] _ 0 0 122 (Nat.le_refl _) (Nat.le_refl _) (Nat.le_of_ble_eq_true rfl) (lvR_mk [0, 5, 6, 7, 9, 10] [10, 0, 5, 6, 7, 9] rfl rfl (by decide) (by decide) (List.forall_mem_cons.mpr ⟨(List.mem_cons_of_mem _ List.mem_cons_self), (List.forall_mem_cons.mpr ⟨(List.mem_cons_of_mem _ (List.mem_cons_of_mem _ List.mem_cons_self)), (List.forall_mem_cons.mpr ⟨(List.mem_cons_of_mem _ (List.mem_cons_of_mem _ (List.mem_cons_of_mem _ List.mem_cons_self))), (List.forall_mem_cons.mpr ⟨(List.mem_cons_of_mem _ (List.mem_cons_of_mem _ (List.mem_cons_of_mem _ (List.mem_cons_of_mem _ List.mem_cons_self)))), (List.forall_mem_cons.mpr ⟨(List.mem_cons_of_mem _ (List.mem_cons_of_mem _ (List.mem_cons_of_mem _ (List.mem_cons_of_mem _ (List.mem_cons_of_mem _ List.mem_cons_self))))), (List.forall_mem_cons.mpr ⟨List.mem_cons_self, (fun _ h => nomatch h)⟩)⟩)⟩)⟩)⟩)⟩) (List.forall_mem_cons.mpr ⟨Or.inl (List.mem_cons_of_mem _ (List.mem_cons_of_mem _ (List.mem_cons_of_mem _ (List.mem_cons_of_mem _ (List.mem_cons_of_mem _ List.mem_cons_self))))), (List.forall_mem_cons.mpr ⟨Or.inl List.mem_cons_self, (List.forall_mem_cons.mpr ⟨Or.inl (List.mem_cons_of_mem _ List.mem_cons_self), (List.forall_mem_cons.mpr ⟨Or.inl (List.mem_cons_of_mem _ (List.mem_cons_of_mem _ List.mem_cons_self)), (List.forall_mem_cons.mpr ⟨Or.inl (List.mem_cons_of_mem _ (List.mem_cons_of_mem _ (List.mem_cons_of_mem _ List.mem_cons_self))), (List.forall_mem_cons.mpr ⟨Or.inl (List.mem_cons_of_mem _ (List.mem_cons_of_mem _ (List.mem_cons_of_mem _ (List.mem_cons_of_mem _ List.mem_cons_self)))), (fun _ h => nomatch h)⟩)⟩)⟩)⟩)⟩)⟩)) h
set_option maxRecDepth 100000 in
set_option maxHeartbeats 4000000 in
theorem bk_425_167 {b : Bool} {d : Nat} {x10 x5 x6 x7 x9 : Int32} {e : Nat → x_E} {g : Nat → Int32} {q : Nat → Int64} {c : Nat → Nat → Int32} {l : Nat → Nat → Int64} {R : Option Value × List x_E} (hz0 : ¬ (x7 < 0 ∨ 66000 ≤ (x7).toNatClampNeg)) (h1 : xCn .eq ((c 86 (x7).toNatClampNeg)) ((Int32.ofInt (4))) = true → rr b e d 425 185 [(0, .ref 49), (5, .int x5), (7, .int x7), (9, .int x9), (10, .int x10)] [] g q c l R) (h2 : ¬ xCn .eq ((c 86 (x7).toNatClampNeg)) ((Int32.ofInt (4))) = true → rr b e d 425 178 [(0, .ref 49), (5, .int x5), (6, .int x6), (7, .int x7), (9, .int x9), (10, .int x10)] [] g q c l R) : rr b e d 425 167 [(0, .ref 49), (5, .int x5), (6, .int x6), (7, .int x7), (9, .int x9), (10, .int x10)] [] g q c l R := by
  have key : ∀ f, nrun xZ (xY (xfm b)) xDT (f + 6) d 425 167 [(0, .ref 49), (5, .int x5), (6, .int x6), (7, .int x7), (9, .int x9), (10, .int x10)] [] (rH e g q c l) 0 0 = nrun xZ (xY (xfm b)) xDT f d 425 (if xCn .eq ((c 86 (x7).toNatClampNeg)) ((Int32.ofInt (4))) = true then 185 else 178) [(0, .ref 49), (5, .int x5), (6, .int x6), (7, .int x7), (9, .int x9), (10, .int x10)] [] (rH e g q c l) 0 0 := by
    intro f
    obtain ⟨y, cb, hj⟩ := mq_425
    rw [n_step (st' := [.ref 49]) (pc' := 168) (lv' := [(0, .ref 49), (5, .int x5), (6, .int x6), (7, .int x7), (9, .int x9), (10, .int x10)]) (hp' := rH e g q c l) (i := .aload_n 0) (len := 1) rfl hj rfl rfl rfl]
    rw [n_get (st' := [.ref 86]) (pc' := 171) (lv' := [(0, .ref 49), (5, .int x5), (6, .int x6), (7, .int x7), (9, .int x9), (10, .int x10)]) (hp' := rH e g q c l) (i := .getfield 128) (len := 3) rfl hj rfl rfl rfl rfl]
    rw [n_step (st' := [.int x7, .ref 86]) (pc' := 173) (lv' := [(0, .ref 49), (5, .int x5), (6, .int x6), (7, .int x7), (9, .int x9), (10, .int x10)]) (hp' := rH e g q c l) (i := .iload 7) (len := 2) rfl hj rfl rfl rfl]
    rw [n_ial (st' := [.int (c 86 (x7).toNatClampNeg)]) rfl hj (ald_86 hz0)]
    rw [n_step (st' := [.int (Int32.ofInt (4)), .int (c 86 (x7).toNatClampNeg)]) (pc' := 175) (lv' := [(0, .ref 49), (5, .int x5), (6, .int x6), (7, .int x7), (9, .int x9), (10, .int x10)]) (hp' := rH e g q c l) (i := .iconst 4) (len := 1) rfl hj rfl rfl rfl]
    rw [n_step (st' := []) (pc' := (if xCn .eq ((c 86 (x7).toNatClampNeg)) ((Int32.ofInt (4))) = true then 185 else 178)) (lv' := [(0, .ref 49), (5, .int x5), (6, .int x6), (7, .int x7), (9, .int x9), (10, .int x10)]) (hp' := rH e g q c l) (i := .if_icmp .eq 10) (len := 3) rfl hj rfl rfl rfl]
  by_cases hc : xCn .eq ((c 86 (x7).toNatClampNeg)) ((Int32.ofInt (4))) = true
  · obtain ⟨f, h⟩ := h1 hc
    refine ⟨f + 6, ?_⟩
    rw [key, if_pos hc]
    exact nrun_ext f f _ _ R 425 185 [(0, .ref 49), (5, .int x5), (7, .int x7), (9, .int x9), (10, .int x10)] [(0, .ref 49), (5, .int x5), (6, .int x6), (7, .int x7), (9, .int x9), (10, .int x10)] [] _ 0 0 122 (Nat.le_refl _) (Nat.le_refl _) (Nat.le_of_ble_eq_true rfl) (lvR_mk [0, 5, 7, 9, 10] [0, 5, 6, 7, 9, 10] rfl rfl (by decide) (by decide) (List.forall_mem_cons.mpr ⟨List.mem_cons_self, (List.forall_mem_cons.mpr ⟨(List.mem_cons_of_mem _ List.mem_cons_self), (List.forall_mem_cons.mpr ⟨(List.mem_cons_of_mem _ (List.mem_cons_of_mem _ (List.mem_cons_of_mem _ List.mem_cons_self))), (List.forall_mem_cons.mpr ⟨(List.mem_cons_of_mem _ (List.mem_cons_of_mem _ (List.mem_cons_of_mem _ (List.mem_cons_of_mem _ List.mem_cons_self)))), (List.forall_mem_cons.mpr ⟨(List.mem_cons_of_mem _ (List.mem_cons_of_mem _ (List.mem_cons_of_mem _ (List.mem_cons_of_mem _ (List.mem_cons_of_mem _ List.mem_cons_self))))), (fun _ h => nomatch h)⟩)⟩)⟩)⟩)⟩) (List.forall_mem_cons.mpr ⟨Or.inl List.mem_cons_self, (List.forall_mem_cons.mpr ⟨Or.inl (List.mem_cons_of_mem _ List.mem_cons_self), (List.forall_mem_cons.mpr ⟨Or.inr rfl, (List.forall_mem_cons.mpr ⟨Or.inl (List.mem_cons_of_mem _ (List.mem_cons_of_mem _ List.mem_cons_self)), (List.forall_mem_cons.mpr ⟨Or.inl (List.mem_cons_of_mem _ (List.mem_cons_of_mem _ (List.mem_cons_of_mem _ List.mem_cons_self))), (List.forall_mem_cons.mpr ⟨Or.inl (List.mem_cons_of_mem _ (List.mem_cons_of_mem _ (List.mem_cons_of_mem _ (List.mem_cons_of_mem _ List.mem_cons_self)))), (fun _ h => nomatch h)⟩)⟩)⟩)⟩)⟩)⟩)) h
  · obtain ⟨f, h⟩ := h2 hc
    refine ⟨f + 6, ?_⟩
    rw [key, if_neg hc]
    exact h
set_option maxRecDepth 100000 in
set_option maxHeartbeats 4000000 in
theorem bk_425_178 {b : Bool} {d : Nat} {x10 x5 x6 x7 x9 : Int32} {e : Nat → x_E} {g : Nat → Int32} {q : Nat → Int64} {c : Nat → Nat → Int32} {l : Nat → Nat → Int64} {g' : Nat → Int32} {q' : Nat → Int64} {c' : Nat → Nat → Int32} {l' : Nat → Nat → Int64} {R : Option Value × List x_E} (hc : rr b e d 349 0 [(0, .ref 49), (1, .int (Int32.ofInt (5))), (2, .int x6)] [] g q c l (none, rH e g' q' c' l')) (h : rr b e (d + 1) 425 185 [(0, .ref 49), (5, .int x5), (7, .int x7), (9, .int x9), (10, .int x10)] [] g' q' c' l' R) : rr b e (d + 1) 425 178 [(0, .ref 49), (5, .int x5), (6, .int x6), (7, .int x7), (9, .int x9), (10, .int x10)] [] g q c l R := by
  obtain ⟨f1, hc⟩ := hc
  obtain ⟨f2, h⟩ := h
  obtain ⟨f, hf1, hf2⟩ : ∃ f, f1 ≤ f ∧ f2 ≤ f := ⟨max f1 f2, Nat.le_max_left _ _, Nat.le_max_right _ _⟩
  have hc := nrun_fuel f1 f _ _ _ _ _ _ _ _ _ hf1 hc
  have h := nrun_fuel f2 f _ _ _ _ _ _ _ _ _ hf2 h
  refine ⟨f + 4, ?_⟩
  obtain ⟨y, cb, hj⟩ := mq_425
  rw [n_step (st' := [.ref 49]) (pc' := 179) (lv' := [(0, .ref 49), (5, .int x5), (6, .int x6), (7, .int x7), (9, .int x9), (10, .int x10)]) (hp' := rH e g q c l) (i := .aload_n 0) (len := 1) rfl hj rfl rfl rfl]
  rw [n_step (st' := [.int (Int32.ofInt (5)), .ref 49]) (pc' := 180) (lv' := [(0, .ref 49), (5, .int x5), (6, .int x6), (7, .int x7), (9, .int x9), (10, .int x10)]) (hp' := rH e g q c l) (i := .iconst 5) (len := 1) rfl hj rfl rfl rfl]
  rw [n_step (st' := [.int x6, .int (Int32.ofInt (5)), .ref 49]) (pc' := 182) (lv' := [(0, .ref 49), (5, .int x5), (6, .int x6), (7, .int x7), (9, .int x9), (10, .int x10)]) (hp' := rH e g q c l) (i := .iload 6) (len := 2) rfl hj rfl rfl rfl]
  obtain ⟨y2, cb2, hj2⟩ := mq_349
  rw [n_call (f := f) (d := d) (ki := 0) (idx := 427) (j' := 349) (kd := 0) (M' := (y2, cb2, 3, none, 12, 2, 0, 0)) (avs := [.ref 49, .int (Int32.ofInt (5)), .int x6]) (r := []) (rv := none) (hp1 := rH e g' q' c' l') rfl hj rfl rfl rfl rfl (rq_n rfl rfl hj2 rfl rfl) rfl hc (Nat.le_of_ble_eq_true rfl)]
  exact nrun_ext f f _ _ R 425 185 [(0, .ref 49), (5, .int x5), (7, .int x7), (9, .int x9), (10, .int x10)] [(0, .ref 49), (5, .int x5), (6, .int x6), (7, .int x7), (9, .int x9), (10, .int x10)] [] _ 0 0 122 (Nat.le_refl _) (Nat.le_refl _) (Nat.le_of_ble_eq_true rfl) (lvR_mk [0, 5, 7, 9, 10] [0, 5, 6, 7, 9, 10] rfl rfl (by decide) (by decide) (List.forall_mem_cons.mpr ⟨List.mem_cons_self, (List.forall_mem_cons.mpr ⟨(List.mem_cons_of_mem _ List.mem_cons_self), (List.forall_mem_cons.mpr ⟨(List.mem_cons_of_mem _ (List.mem_cons_of_mem _ (List.mem_cons_of_mem _ List.mem_cons_self))), (List.forall_mem_cons.mpr ⟨(List.mem_cons_of_mem _ (List.mem_cons_of_mem _ (List.mem_cons_of_mem _ (List.mem_cons_of_mem _ List.mem_cons_self)))), (List.forall_mem_cons.mpr ⟨(List.mem_cons_of_mem _ (List.mem_cons_of_mem _ (List.mem_cons_of_mem _ (List.mem_cons_of_mem _ (List.mem_cons_of_mem _ List.mem_cons_self))))), (fun _ h => nomatch h)⟩)⟩)⟩)⟩)⟩) (List.forall_mem_cons.mpr ⟨Or.inl List.mem_cons_self, (List.forall_mem_cons.mpr ⟨Or.inl (List.mem_cons_of_mem _ List.mem_cons_self), (List.forall_mem_cons.mpr ⟨Or.inr rfl, (List.forall_mem_cons.mpr ⟨Or.inl (List.mem_cons_of_mem _ (List.mem_cons_of_mem _ List.mem_cons_self)), (List.forall_mem_cons.mpr ⟨Or.inl (List.mem_cons_of_mem _ (List.mem_cons_of_mem _ (List.mem_cons_of_mem _ List.mem_cons_self))), (List.forall_mem_cons.mpr ⟨Or.inl (List.mem_cons_of_mem _ (List.mem_cons_of_mem _ (List.mem_cons_of_mem _ (List.mem_cons_of_mem _ List.mem_cons_self)))), (fun _ h => nomatch h)⟩)⟩)⟩)⟩)⟩)⟩)) h
set_option maxRecDepth 100000 in
set_option maxHeartbeats 4000000 in
theorem bk_425_185 {b : Bool} {d : Nat} {x10 x5 x7 x9 : Int32} {e : Nat → x_E} {g : Nat → Int32} {q : Nat → Int64} {c : Nat → Nat → Int32} {l : Nat → Nat → Int64} {R : Option Value × List x_E} (h1 : xCn .eq ((g 134)) 0 = true → rr b e d 425 243 [(0, .ref 49), (5, .int x5), (10, .int x10)] [] g q c l R) (h2 : ¬ xCn .eq ((g 134)) 0 = true → rr b e d 425 192 [(0, .ref 49), (5, .int x5), (7, .int x7), (9, .int x9), (10, .int x10)] [] g q c l R) : rr b e d 425 185 [(0, .ref 49), (5, .int x5), (7, .int x7), (9, .int x9), (10, .int x10)] [] g q c l R := by
  have key : ∀ f, nrun xZ (xY (xfm b)) xDT (f + 3) d 425 185 [(0, .ref 49), (5, .int x5), (7, .int x7), (9, .int x9), (10, .int x10)] [] (rH e g q c l) 0 0 = nrun xZ (xY (xfm b)) xDT f d 425 (if xCn .eq ((g 134)) 0 = true then 243 else 192) [(0, .ref 49), (5, .int x5), (7, .int x7), (9, .int x9), (10, .int x10)] [] (rH e g q c l) 0 0 := by
    intro f
    obtain ⟨y, cb, hj⟩ := mq_425
    rw [n_step (st' := [.ref 49]) (pc' := 186) (lv' := [(0, .ref 49), (5, .int x5), (7, .int x7), (9, .int x9), (10, .int x10)]) (hp' := rH e g q c l) (i := .aload_n 0) (len := 1) rfl hj rfl rfl rfl]
    rw [n_get (st' := [.int (g 134)]) (pc' := 189) (lv' := [(0, .ref 49), (5, .int x5), (7, .int x7), (9, .int x9), (10, .int x10)]) (hp' := rH e g q c l) (i := .getfield 754) (len := 3) rfl hj rfl rfl rfl rfl]
    rw [n_step (st' := []) (pc' := (if xCn .eq ((g 134)) 0 = true then 243 else 192)) (lv' := [(0, .ref 49), (5, .int x5), (7, .int x7), (9, .int x9), (10, .int x10)]) (hp' := rH e g q c l) (i := .ifCond .eq 54) (len := 3) rfl hj rfl rfl rfl]
  by_cases hc : xCn .eq ((g 134)) 0 = true
  · obtain ⟨f, h⟩ := h1 hc
    refine ⟨f + 3, ?_⟩
    rw [key, if_pos hc]
    exact nrun_ext f f _ _ R 425 243 [(0, .ref 49), (5, .int x5), (10, .int x10)] [(0, .ref 49), (5, .int x5), (7, .int x7), (9, .int x9), (10, .int x10)] [] _ 0 0 122 (Nat.le_refl _) (Nat.le_refl _) (Nat.le_of_ble_eq_true rfl) (lvR_mk [0, 5, 10] [0, 5, 7, 9, 10] rfl rfl (by decide) (by decide) (List.forall_mem_cons.mpr ⟨List.mem_cons_self, (List.forall_mem_cons.mpr ⟨(List.mem_cons_of_mem _ List.mem_cons_self), (List.forall_mem_cons.mpr ⟨(List.mem_cons_of_mem _ (List.mem_cons_of_mem _ (List.mem_cons_of_mem _ (List.mem_cons_of_mem _ List.mem_cons_self)))), (fun _ h => nomatch h)⟩)⟩)⟩) (List.forall_mem_cons.mpr ⟨Or.inl List.mem_cons_self, (List.forall_mem_cons.mpr ⟨Or.inl (List.mem_cons_of_mem _ List.mem_cons_self), (List.forall_mem_cons.mpr ⟨Or.inr rfl, (List.forall_mem_cons.mpr ⟨Or.inr rfl, (List.forall_mem_cons.mpr ⟨Or.inl (List.mem_cons_of_mem _ (List.mem_cons_of_mem _ List.mem_cons_self)), (fun _ h => nomatch h)⟩)⟩)⟩)⟩)⟩)) h
  · obtain ⟨f, h⟩ := h2 hc
    refine ⟨f + 3, ?_⟩
    rw [key, if_neg hc]
    exact h
set_option maxRecDepth 100000 in
set_option maxHeartbeats 4000000 in
theorem bk_425_192 {b : Bool} {d : Nat} {x10 x5 x7 x9 : Int32} {e : Nat → x_E} {g : Nat → Int32} {q : Nat → Int64} {c : Nat → Nat → Int32} {l : Nat → Nat → Int64} {R : Option Value × List x_E} (h1 : xCn .eq x7 ((Int32.ofInt (-1))) = true → rr b e d 425 243 [(0, .ref 49), (5, .int x5), (10, .int x10)] [] g q c l R) (h2 : ¬ xCn .eq x7 ((Int32.ofInt (-1))) = true → rr b e d 425 198 [(0, .ref 49), (5, .int x5), (7, .int x7), (9, .int x9), (10, .int x10)] [] g q c l R) : rr b e d 425 192 [(0, .ref 49), (5, .int x5), (7, .int x7), (9, .int x9), (10, .int x10)] [] g q c l R := by
  have key : ∀ f, nrun xZ (xY (xfm b)) xDT (f + 3) d 425 192 [(0, .ref 49), (5, .int x5), (7, .int x7), (9, .int x9), (10, .int x10)] [] (rH e g q c l) 0 0 = nrun xZ (xY (xfm b)) xDT f d 425 (if xCn .eq x7 ((Int32.ofInt (-1))) = true then 243 else 198) [(0, .ref 49), (5, .int x5), (7, .int x7), (9, .int x9), (10, .int x10)] [] (rH e g q c l) 0 0 := by
    intro f
    obtain ⟨y, cb, hj⟩ := mq_425
    rw [n_step (st' := [.int x7]) (pc' := 194) (lv' := [(0, .ref 49), (5, .int x5), (7, .int x7), (9, .int x9), (10, .int x10)]) (hp' := rH e g q c l) (i := .iload 7) (len := 2) rfl hj rfl rfl rfl]
    rw [n_step (st' := [.int (Int32.ofInt (-1)), .int x7]) (pc' := 195) (lv' := [(0, .ref 49), (5, .int x5), (7, .int x7), (9, .int x9), (10, .int x10)]) (hp' := rH e g q c l) (i := .iconst (-1)) (len := 1) rfl hj rfl rfl rfl]
    rw [n_step (st' := []) (pc' := (if xCn .eq x7 ((Int32.ofInt (-1))) = true then 243 else 198)) (lv' := [(0, .ref 49), (5, .int x5), (7, .int x7), (9, .int x9), (10, .int x10)]) (hp' := rH e g q c l) (i := .if_icmp .eq 48) (len := 3) rfl hj rfl rfl rfl]
  by_cases hc : xCn .eq x7 ((Int32.ofInt (-1))) = true
  · obtain ⟨f, h⟩ := h1 hc
    refine ⟨f + 3, ?_⟩
    rw [key, if_pos hc]
    exact nrun_ext f f _ _ R 425 243 [(0, .ref 49), (5, .int x5), (10, .int x10)] [(0, .ref 49), (5, .int x5), (7, .int x7), (9, .int x9), (10, .int x10)] [] _ 0 0 122 (Nat.le_refl _) (Nat.le_refl _) (Nat.le_of_ble_eq_true rfl) (lvR_mk [0, 5, 10] [0, 5, 7, 9, 10] rfl rfl (by decide) (by decide) (List.forall_mem_cons.mpr ⟨List.mem_cons_self, (List.forall_mem_cons.mpr ⟨(List.mem_cons_of_mem _ List.mem_cons_self), (List.forall_mem_cons.mpr ⟨(List.mem_cons_of_mem _ (List.mem_cons_of_mem _ (List.mem_cons_of_mem _ (List.mem_cons_of_mem _ List.mem_cons_self)))), (fun _ h => nomatch h)⟩)⟩)⟩) (List.forall_mem_cons.mpr ⟨Or.inl List.mem_cons_self, (List.forall_mem_cons.mpr ⟨Or.inl (List.mem_cons_of_mem _ List.mem_cons_self), (List.forall_mem_cons.mpr ⟨Or.inr rfl, (List.forall_mem_cons.mpr ⟨Or.inr rfl, (List.forall_mem_cons.mpr ⟨Or.inl (List.mem_cons_of_mem _ (List.mem_cons_of_mem _ List.mem_cons_self)), (fun _ h => nomatch h)⟩)⟩)⟩)⟩)⟩)) h
  · obtain ⟨f, h⟩ := h2 hc
    refine ⟨f + 3, ?_⟩
    rw [key, if_neg hc]
    exact h
set_option maxRecDepth 100000 in
set_option maxHeartbeats 4000000 in
theorem bk_425_198 {b : Bool} {d : Nat} {x10 x5 x7 x9 : Int32} {e : Nat → x_E} {g : Nat → Int32} {q : Nat → Int64} {c : Nat → Nat → Int32} {l : Nat → Nat → Int64} {R : Option Value × List x_E} (hz0 : ¬ (x7 < 0 ∨ 66000 ≤ (x7).toNatClampNeg)) (h1 : xCn .ne ((c 86 (x7).toNatClampNeg)) ((Int32.ofInt (4))) = true → rr b e d 425 243 [(0, .ref 49), (5, .int x5), (10, .int x10)] [] g q c l R) (h2 : ¬ xCn .ne ((c 86 (x7).toNatClampNeg)) ((Int32.ofInt (4))) = true → rr b e d 425 209 [(0, .ref 49), (5, .int x5), (7, .int x7), (9, .int x9)] [] g q c l R) : rr b e d 425 198 [(0, .ref 49), (5, .int x5), (7, .int x7), (9, .int x9), (10, .int x10)] [] g q c l R := by
  have key : ∀ f, nrun xZ (xY (xfm b)) xDT (f + 6) d 425 198 [(0, .ref 49), (5, .int x5), (7, .int x7), (9, .int x9), (10, .int x10)] [] (rH e g q c l) 0 0 = nrun xZ (xY (xfm b)) xDT f d 425 (if xCn .ne ((c 86 (x7).toNatClampNeg)) ((Int32.ofInt (4))) = true then 243 else 209) [(0, .ref 49), (5, .int x5), (7, .int x7), (9, .int x9), (10, .int x10)] [] (rH e g q c l) 0 0 := by
    intro f
    obtain ⟨y, cb, hj⟩ := mq_425
    rw [n_step (st' := [.ref 49]) (pc' := 199) (lv' := [(0, .ref 49), (5, .int x5), (7, .int x7), (9, .int x9), (10, .int x10)]) (hp' := rH e g q c l) (i := .aload_n 0) (len := 1) rfl hj rfl rfl rfl]
    rw [n_get (st' := [.ref 86]) (pc' := 202) (lv' := [(0, .ref 49), (5, .int x5), (7, .int x7), (9, .int x9), (10, .int x10)]) (hp' := rH e g q c l) (i := .getfield 128) (len := 3) rfl hj rfl rfl rfl rfl]
    rw [n_step (st' := [.int x7, .ref 86]) (pc' := 204) (lv' := [(0, .ref 49), (5, .int x5), (7, .int x7), (9, .int x9), (10, .int x10)]) (hp' := rH e g q c l) (i := .iload 7) (len := 2) rfl hj rfl rfl rfl]
    rw [n_ial (st' := [.int (c 86 (x7).toNatClampNeg)]) rfl hj (ald_86 hz0)]
    rw [n_step (st' := [.int (Int32.ofInt (4)), .int (c 86 (x7).toNatClampNeg)]) (pc' := 206) (lv' := [(0, .ref 49), (5, .int x5), (7, .int x7), (9, .int x9), (10, .int x10)]) (hp' := rH e g q c l) (i := .iconst 4) (len := 1) rfl hj rfl rfl rfl]
    rw [n_step (st' := []) (pc' := (if xCn .ne ((c 86 (x7).toNatClampNeg)) ((Int32.ofInt (4))) = true then 243 else 209)) (lv' := [(0, .ref 49), (5, .int x5), (7, .int x7), (9, .int x9), (10, .int x10)]) (hp' := rH e g q c l) (i := .if_icmp .ne 37) (len := 3) rfl hj rfl rfl rfl]
  by_cases hc : xCn .ne ((c 86 (x7).toNatClampNeg)) ((Int32.ofInt (4))) = true
  · obtain ⟨f, h⟩ := h1 hc
    refine ⟨f + 6, ?_⟩
    rw [key, if_pos hc]
    exact nrun_ext f f _ _ R 425 243 [(0, .ref 49), (5, .int x5), (10, .int x10)] [(0, .ref 49), (5, .int x5), (7, .int x7), (9, .int x9), (10, .int x10)] [] _ 0 0 122 (Nat.le_refl _) (Nat.le_refl _) (Nat.le_of_ble_eq_true rfl) (lvR_mk [0, 5, 10] [0, 5, 7, 9, 10] rfl rfl (by decide) (by decide) (List.forall_mem_cons.mpr ⟨List.mem_cons_self, (List.forall_mem_cons.mpr ⟨(List.mem_cons_of_mem _ List.mem_cons_self), (List.forall_mem_cons.mpr ⟨(List.mem_cons_of_mem _ (List.mem_cons_of_mem _ (List.mem_cons_of_mem _ (List.mem_cons_of_mem _ List.mem_cons_self)))), (fun _ h => nomatch h)⟩)⟩)⟩) (List.forall_mem_cons.mpr ⟨Or.inl List.mem_cons_self, (List.forall_mem_cons.mpr ⟨Or.inl (List.mem_cons_of_mem _ List.mem_cons_self), (List.forall_mem_cons.mpr ⟨Or.inr rfl, (List.forall_mem_cons.mpr ⟨Or.inr rfl, (List.forall_mem_cons.mpr ⟨Or.inl (List.mem_cons_of_mem _ (List.mem_cons_of_mem _ List.mem_cons_self)), (fun _ h => nomatch h)⟩)⟩)⟩)⟩)⟩)) h
  · obtain ⟨f, h⟩ := h2 hc
    refine ⟨f + 6, ?_⟩
    rw [key, if_neg hc]
    exact nrun_ext f f _ _ R 425 209 [(0, .ref 49), (5, .int x5), (7, .int x7), (9, .int x9)] [(0, .ref 49), (5, .int x5), (7, .int x7), (9, .int x9), (10, .int x10)] [] _ 0 0 122 (Nat.le_refl _) (Nat.le_refl _) (Nat.le_of_ble_eq_true rfl) (lvR_mk [0, 5, 7, 9] [0, 5, 7, 9, 10] rfl rfl (by decide) (by decide) (List.forall_mem_cons.mpr ⟨List.mem_cons_self, (List.forall_mem_cons.mpr ⟨(List.mem_cons_of_mem _ List.mem_cons_self), (List.forall_mem_cons.mpr ⟨(List.mem_cons_of_mem _ (List.mem_cons_of_mem _ List.mem_cons_self)), (List.forall_mem_cons.mpr ⟨(List.mem_cons_of_mem _ (List.mem_cons_of_mem _ (List.mem_cons_of_mem _ List.mem_cons_self))), (fun _ h => nomatch h)⟩)⟩)⟩)⟩) (List.forall_mem_cons.mpr ⟨Or.inl List.mem_cons_self, (List.forall_mem_cons.mpr ⟨Or.inl (List.mem_cons_of_mem _ List.mem_cons_self), (List.forall_mem_cons.mpr ⟨Or.inl (List.mem_cons_of_mem _ (List.mem_cons_of_mem _ List.mem_cons_self)), (List.forall_mem_cons.mpr ⟨Or.inl (List.mem_cons_of_mem _ (List.mem_cons_of_mem _ (List.mem_cons_of_mem _ List.mem_cons_self))), (List.forall_mem_cons.mpr ⟨Or.inr rfl, (fun _ h => nomatch h)⟩)⟩)⟩)⟩)⟩)) h
set_option maxRecDepth 100000 in
set_option maxHeartbeats 4000000 in
theorem bk_425_209 {b : Bool} {d : Nat} {x5 x7 x9 : Int32} {e : Nat → x_E} {g : Nat → Int32} {q : Nat → Int64} {c : Nat → Nat → Int32} {l : Nat → Nat → Int64} {g' : Nat → Int32} {q' : Nat → Int64} {c' : Nat → Nat → Int32} {l' : Nat → Nat → Int64} {v : Int32} {R : Option Value × List x_E} (hz0 : ¬ (x7 < 0 ∨ 66000 ≤ (x7).toNatClampNeg)) (hz1 : ¬ ((c 89 (x7).toNatClampNeg) < 0 ∨ 80000 ≤ ((c 89 (x7).toNatClampNeg)).toNatClampNeg)) (hz2 : ¬ (x7 < 0 ∨ 66000 ≤ (x7).toNatClampNeg)) (hc : rr b e d 399 0 [(0, .ref 49), (1, .int (Int32.ofInt (1))), (2, .int x9), (3, .int (Int32.ofInt (0))), (4, .int (Int32.ofInt (0)))] [] g q c l (some (.int v), rH e g' q' c' l')) (h : rr b e (d + 1) 425 238 [(0, .ref 49), (5, .int x5)] [.int v, .int (c 87 (x7).toNatClampNeg), .int (c 92 ((c 89 (x7).toNatClampNeg)).toNatClampNeg), .ref 49] g' q' c' l' R) : rr b e (d + 1) 425 209 [(0, .ref 49), (5, .int x5), (7, .int x7), (9, .int x9)] [] g q c l R := by
  obtain ⟨f1, hc⟩ := hc
  obtain ⟨f2, h⟩ := h
  obtain ⟨f, hf1, hf2⟩ : ∃ f, f1 ≤ f ∧ f2 ≤ f := ⟨max f1 f2, Nat.le_max_left _ _, Nat.le_max_right _ _⟩
  have hc := nrun_fuel f1 f _ _ _ _ _ _ _ _ _ hf1 hc
  have h := nrun_fuel f2 f _ _ _ _ _ _ _ _ _ hf2 h
  refine ⟨f + 18, ?_⟩
  obtain ⟨y, cb, hj⟩ := mq_425
  rw [n_step (st' := [.ref 49]) (pc' := 210) (lv' := [(0, .ref 49), (5, .int x5), (7, .int x7), (9, .int x9)]) (hp' := rH e g q c l) (i := .aload_n 0) (len := 1) rfl hj rfl rfl rfl]
  rw [n_step (st' := [.ref 49, .ref 49]) (pc' := 211) (lv' := [(0, .ref 49), (5, .int x5), (7, .int x7), (9, .int x9)]) (hp' := rH e g q c l) (i := .aload_n 0) (len := 1) rfl hj rfl rfl rfl]
  rw [n_get (st' := [.ref 92, .ref 49]) (pc' := 214) (lv' := [(0, .ref 49), (5, .int x5), (7, .int x7), (9, .int x9)]) (hp' := rH e g q c l) (i := .getfield 147) (len := 3) rfl hj rfl rfl rfl rfl]
  rw [n_step (st' := [.ref 49, .ref 92, .ref 49]) (pc' := 215) (lv' := [(0, .ref 49), (5, .int x5), (7, .int x7), (9, .int x9)]) (hp' := rH e g q c l) (i := .aload_n 0) (len := 1) rfl hj rfl rfl rfl]
  rw [n_get (st' := [.ref 89, .ref 92, .ref 49]) (pc' := 218) (lv' := [(0, .ref 49), (5, .int x5), (7, .int x7), (9, .int x9)]) (hp' := rH e g q c l) (i := .getfield 137) (len := 3) rfl hj rfl rfl rfl rfl]
  rw [n_step (st' := [.int x7, .ref 89, .ref 92, .ref 49]) (pc' := 220) (lv' := [(0, .ref 49), (5, .int x5), (7, .int x7), (9, .int x9)]) (hp' := rH e g q c l) (i := .iload 7) (len := 2) rfl hj rfl rfl rfl]
  rw [n_ial (st' := [.int (c 89 (x7).toNatClampNeg), .ref 92, .ref 49]) rfl hj (ald_89 hz0)]
  rw [n_ial (st' := [.int (c 92 ((c 89 (x7).toNatClampNeg)).toNatClampNeg), .ref 49]) rfl hj (ald_92 hz1)]
  rw [n_step (st' := [.ref 49, .int (c 92 ((c 89 (x7).toNatClampNeg)).toNatClampNeg), .ref 49]) (pc' := 223) (lv' := [(0, .ref 49), (5, .int x5), (7, .int x7), (9, .int x9)]) (hp' := rH e g q c l) (i := .aload_n 0) (len := 1) rfl hj rfl rfl rfl]
  rw [n_get (st' := [.ref 87, .int (c 92 ((c 89 (x7).toNatClampNeg)).toNatClampNeg), .ref 49]) (pc' := 226) (lv' := [(0, .ref 49), (5, .int x5), (7, .int x7), (9, .int x9)]) (hp' := rH e g q c l) (i := .getfield 131) (len := 3) rfl hj rfl rfl rfl rfl]
  rw [n_step (st' := [.int x7, .ref 87, .int (c 92 ((c 89 (x7).toNatClampNeg)).toNatClampNeg), .ref 49]) (pc' := 228) (lv' := [(0, .ref 49), (5, .int x5), (7, .int x7), (9, .int x9)]) (hp' := rH e g q c l) (i := .iload 7) (len := 2) rfl hj rfl rfl rfl]
  rw [n_ial (st' := [.int (c 87 (x7).toNatClampNeg), .int (c 92 ((c 89 (x7).toNatClampNeg)).toNatClampNeg), .ref 49]) rfl hj (ald_87 hz2)]
  rw [n_step (st' := [.ref 49, .int (c 87 (x7).toNatClampNeg), .int (c 92 ((c 89 (x7).toNatClampNeg)).toNatClampNeg), .ref 49]) (pc' := 230) (lv' := [(0, .ref 49), (5, .int x5), (7, .int x7), (9, .int x9)]) (hp' := rH e g q c l) (i := .aload_n 0) (len := 1) rfl hj rfl rfl rfl]
  rw [n_step (st' := [.int (Int32.ofInt (1)), .ref 49, .int (c 87 (x7).toNatClampNeg), .int (c 92 ((c 89 (x7).toNatClampNeg)).toNatClampNeg), .ref 49]) (pc' := 231) (lv' := [(0, .ref 49), (5, .int x5), (7, .int x7), (9, .int x9)]) (hp' := rH e g q c l) (i := .iconst 1) (len := 1) rfl hj rfl rfl rfl]
  rw [n_step (st' := [.int x9, .int (Int32.ofInt (1)), .ref 49, .int (c 87 (x7).toNatClampNeg), .int (c 92 ((c 89 (x7).toNatClampNeg)).toNatClampNeg), .ref 49]) (pc' := 233) (lv' := [(0, .ref 49), (5, .int x5), (7, .int x7), (9, .int x9)]) (hp' := rH e g q c l) (i := .iload 9) (len := 2) rfl hj rfl rfl rfl]
  rw [n_step (st' := [.int (Int32.ofInt (0)), .int x9, .int (Int32.ofInt (1)), .ref 49, .int (c 87 (x7).toNatClampNeg), .int (c 92 ((c 89 (x7).toNatClampNeg)).toNatClampNeg), .ref 49]) (pc' := 234) (lv' := [(0, .ref 49), (5, .int x5), (7, .int x7), (9, .int x9)]) (hp' := rH e g q c l) (i := .iconst 0) (len := 1) rfl hj rfl rfl rfl]
  rw [n_step (st' := [.int (Int32.ofInt (0)), .int (Int32.ofInt (0)), .int x9, .int (Int32.ofInt (1)), .ref 49, .int (c 87 (x7).toNatClampNeg), .int (c 92 ((c 89 (x7).toNatClampNeg)).toNatClampNeg), .ref 49]) (pc' := 235) (lv' := [(0, .ref 49), (5, .int x5), (7, .int x7), (9, .int x9)]) (hp' := rH e g q c l) (i := .iconst 0) (len := 1) rfl hj rfl rfl rfl]
  obtain ⟨y2, cb2, hj2⟩ := mq_399
  rw [n_call (f := f) (d := d) (ki := 0) (idx := 712) (j' := 399) (kd := 0) (M' := (y2, cb2, 5, some .int, 12, 4, 0, 0)) (avs := [.ref 49, .int (Int32.ofInt (1)), .int x9, .int (Int32.ofInt (0)), .int (Int32.ofInt (0))]) (r := [.int (c 87 (x7).toNatClampNeg), .int (c 92 ((c 89 (x7).toNatClampNeg)).toNatClampNeg), .ref 49]) (rv := some (.int v)) (hp1 := rH e g' q' c' l') rfl hj rfl rfl rfl rfl (rq_n rfl rfl hj2 rfl rfl) rfl hc (Nat.le_of_ble_eq_true rfl)]
  exact nrun_ext f f _ _ R 425 238 [(0, .ref 49), (5, .int x5)] [(0, .ref 49), (5, .int x5), (7, .int x7), (9, .int x9)] [.int v, .int (c 87 (x7).toNatClampNeg), .int (c 92 ((c 89 (x7).toNatClampNeg)).toNatClampNeg), .ref 49] _ 0 0 122 (Nat.le_refl _) (Nat.le_refl _) (Nat.le_of_ble_eq_true rfl) (lvR_mk [0, 5] [0, 5, 7, 9] rfl rfl (by decide) (by decide) (List.forall_mem_cons.mpr ⟨List.mem_cons_self, (List.forall_mem_cons.mpr ⟨(List.mem_cons_of_mem _ List.mem_cons_self), (fun _ h => nomatch h)⟩)⟩) (List.forall_mem_cons.mpr ⟨Or.inl List.mem_cons_self, (List.forall_mem_cons.mpr ⟨Or.inl (List.mem_cons_of_mem _ List.mem_cons_self), (List.forall_mem_cons.mpr ⟨Or.inr rfl, (List.forall_mem_cons.mpr ⟨Or.inr rfl, (fun _ h => nomatch h)⟩)⟩)⟩)⟩)) h
set_option maxRecDepth 100000 in
set_option maxHeartbeats 4000000 in
theorem bk_425_238 {b : Bool} {d : Nat} {t0 t1 t2 x5 : Int32} {e : Nat → x_E} {g : Nat → Int32} {q : Nat → Int64} {c : Nat → Nat → Int32} {l : Nat → Nat → Int64} {g' : Nat → Int32} {q' : Nat → Int64} {c' : Nat → Nat → Int32} {l' : Nat → Nat → Int64} {v : Int32} {R : Option Value × List x_E} (hc : rr b e d 418 0 [(0, .ref 49), (1, .int t2), (2, .int t1), (3, .int t0)] [] g q c l (some (.int v), rH e g' q' c' l')) (h : rr b e (d + 1) 425 241 [(0, .ref 49), (5, .int x5)] [.int v] g' q' c' l' R) : rr b e (d + 1) 425 238 [(0, .ref 49), (5, .int x5)] [.int t0, .int t1, .int t2, .ref 49] g q c l R := by
  obtain ⟨f1, hc⟩ := hc
  obtain ⟨f2, h⟩ := h
  obtain ⟨f, hf1, hf2⟩ : ∃ f, f1 ≤ f ∧ f2 ≤ f := ⟨max f1 f2, Nat.le_max_left _ _, Nat.le_max_right _ _⟩
  have hc := nrun_fuel f1 f _ _ _ _ _ _ _ _ _ hf1 hc
  have h := nrun_fuel f2 f _ _ _ _ _ _ _ _ _ hf2 h
  refine ⟨f + 1, ?_⟩
  obtain ⟨y, cb, hj⟩ := mq_425
  obtain ⟨y2, cb2, hj2⟩ := mq_418
  rw [n_call (f := f) (d := d) (ki := 0) (idx := 794) (j' := 418) (kd := 0) (M' := (y2, cb2, 9, some .int, 12, 3, 0, 0)) (avs := [.ref 49, .int t2, .int t1, .int t0]) (r := []) (rv := some (.int v)) (hp1 := rH e g' q' c' l') rfl hj rfl rfl rfl rfl (rq_n rfl rfl hj2 rfl rfl) rfl hc (Nat.le_of_ble_eq_true rfl)]
  exact h
set_option maxRecDepth 100000 in
set_option maxHeartbeats 4000000 in
theorem bk_425_241 {b : Bool} {d : Nat} {t0 x5 : Int32} {e : Nat → x_E} {g : Nat → Int32} {q : Nat → Int64} {c : Nat → Nat → Int32} {l : Nat → Nat → Int64} {R : Option Value × List x_E} (h : rr b e d 425 243 [(0, .ref 49), (5, .int x5), (10, .int t0)] [] g q c l R) : rr b e d 425 241 [(0, .ref 49), (5, .int x5)] [.int t0] g q c l R := by
  obtain ⟨f, h⟩ := h
  refine ⟨f + 1, ?_⟩
  obtain ⟨y, cb, hj⟩ := mq_425
  rw [n_step (st' := []) (pc' := 243) (lv' := [(10, .int t0), (0, .ref 49), (5, .int x5)]) (hp' := rH e g q c l) (i := .istore 10) (len := 2) rfl hj rfl rfl rfl]
  exact nrun_ext f f _ _ R 425 243 [(0, .ref 49), (5, .int x5), (10, .int t0)] [(10, .int t0), (0, .ref 49), (5, .int x5)] [] _ 0 0 122 (Nat.le_refl _) (Nat.le_refl _) (Nat.le_of_ble_eq_true rfl) (lvR_mk [0, 5, 10] [10, 0, 5] rfl rfl (by decide) (by decide) (List.forall_mem_cons.mpr ⟨(List.mem_cons_of_mem _ List.mem_cons_self), (List.forall_mem_cons.mpr ⟨(List.mem_cons_of_mem _ (List.mem_cons_of_mem _ List.mem_cons_self)), (List.forall_mem_cons.mpr ⟨List.mem_cons_self, (fun _ h => nomatch h)⟩)⟩)⟩) (List.forall_mem_cons.mpr ⟨Or.inl (List.mem_cons_of_mem _ (List.mem_cons_of_mem _ List.mem_cons_self)), (List.forall_mem_cons.mpr ⟨Or.inl List.mem_cons_self, (List.forall_mem_cons.mpr ⟨Or.inl (List.mem_cons_of_mem _ List.mem_cons_self), (fun _ h => nomatch h)⟩)⟩)⟩)) h
set_option maxRecDepth 100000 in
set_option maxHeartbeats 4000000 in
theorem bk_425_243 {b : Bool} {d : Nat} {x10 x5 : Int32} {e : Nat → x_E} {g : Nat → Int32} {q : Nat → Int64} {c : Nat → Nat → Int32} {l : Nat → Nat → Int64} {g' : Nat → Int32} {q' : Nat → Int64} {c' : Nat → Nat → Int32} {l' : Nat → Nat → Int64} {R : Option Value × List x_E} (hc : rr b e d 413 0 [(0, .ref 49), (1, .int (Int8.ofInt (13)).toInt32), (2, .int x5), (3, .int (Int32.ofInt (0))), (4, .int (Int32.ofInt (0)))] [] g q c l (none, rH e g' q' c' l')) (h : rr b e (d + 1) 425 253 [(0, .ref 49), (5, .int x5), (10, .int x10)] [] g' q' c' l' R) : rr b e (d + 1) 425 243 [(0, .ref 49), (5, .int x5), (10, .int x10)] [] g q c l R := by
  obtain ⟨f1, hc⟩ := hc
  obtain ⟨f2, h⟩ := h
  obtain ⟨f, hf1, hf2⟩ : ∃ f, f1 ≤ f ∧ f2 ≤ f := ⟨max f1 f2, Nat.le_max_left _ _, Nat.le_max_right _ _⟩
  have hc := nrun_fuel f1 f _ _ _ _ _ _ _ _ _ hf1 hc
  have h := nrun_fuel f2 f _ _ _ _ _ _ _ _ _ hf2 h
  refine ⟨f + 6, ?_⟩
  obtain ⟨y, cb, hj⟩ := mq_425
  rw [n_step (st' := [.ref 49]) (pc' := 244) (lv' := [(0, .ref 49), (5, .int x5), (10, .int x10)]) (hp' := rH e g q c l) (i := .aload_n 0) (len := 1) rfl hj rfl rfl rfl]
  rw [n_step (st' := [.int (Int8.ofInt (13)).toInt32, .ref 49]) (pc' := 246) (lv' := [(0, .ref 49), (5, .int x5), (10, .int x10)]) (hp' := rH e g q c l) (i := .bipush 13) (len := 2) rfl hj rfl rfl rfl]
  rw [n_step (st' := [.int x5, .int (Int8.ofInt (13)).toInt32, .ref 49]) (pc' := 248) (lv' := [(0, .ref 49), (5, .int x5), (10, .int x10)]) (hp' := rH e g q c l) (i := .iload 5) (len := 2) rfl hj rfl rfl rfl]
  rw [n_step (st' := [.int (Int32.ofInt (0)), .int x5, .int (Int8.ofInt (13)).toInt32, .ref 49]) (pc' := 249) (lv' := [(0, .ref 49), (5, .int x5), (10, .int x10)]) (hp' := rH e g q c l) (i := .iconst 0) (len := 1) rfl hj rfl rfl rfl]
  rw [n_step (st' := [.int (Int32.ofInt (0)), .int (Int32.ofInt (0)), .int x5, .int (Int8.ofInt (13)).toInt32, .ref 49]) (pc' := 250) (lv' := [(0, .ref 49), (5, .int x5), (10, .int x10)]) (hp' := rH e g q c l) (i := .iconst 0) (len := 1) rfl hj rfl rfl rfl]
  obtain ⟨y2, cb2, hj2⟩ := mq_413
  rw [n_call (f := f) (d := d) (ki := 0) (idx := 815) (j' := 413) (kd := 0) (M' := (y2, cb2, 5, none, 12, 4, 0, 0)) (avs := [.ref 49, .int (Int8.ofInt (13)).toInt32, .int x5, .int (Int32.ofInt (0)), .int (Int32.ofInt (0))]) (r := []) (rv := none) (hp1 := rH e g' q' c' l') rfl hj rfl rfl rfl rfl (rq_n rfl rfl hj2 rfl rfl) rfl hc (Nat.le_of_ble_eq_true rfl)]
  exact h
set_option maxRecDepth 100000 in
set_option maxHeartbeats 4000000 in
theorem bk_425_253 {b : Bool} {d : Nat} {x10 x5 : Int32} {e : Nat → x_E} {g : Nat → Int32} {q : Nat → Int64} {c : Nat → Nat → Int32} {l : Nat → Nat → Int64} (hz0 : ¬ (x5 < 0 ∨ 16 ≤ (x5).toNatClampNeg)) : rr b e d 425 253 [(0, .ref 49), (5, .int x5), (10, .int x10)] [] g q c l (none, rH e g q (updA c 118 (upd (c 118) (x5).toNatClampNeg x10)) l) := by
  refine ⟨0 + 6, ?_⟩
  obtain ⟨y, cb, hj⟩ := mq_425
  rw [n_step (st' := [.ref 49]) (pc' := 254) (lv' := [(0, .ref 49), (5, .int x5), (10, .int x10)]) (hp' := rH e g q c l) (i := .aload_n 0) (len := 1) rfl hj rfl rfl rfl]
  rw [n_get (st' := [.ref 118]) (pc' := 257) (lv' := [(0, .ref 49), (5, .int x5), (10, .int x10)]) (hp' := rH e g q c l) (i := .getfield 225) (len := 3) rfl hj rfl rfl rfl rfl]
  rw [n_step (st' := [.int x5, .ref 118]) (pc' := 259) (lv' := [(0, .ref 49), (5, .int x5), (10, .int x10)]) (hp' := rH e g q c l) (i := .iload 5) (len := 2) rfl hj rfl rfl rfl]
  rw [n_step (st' := [.int x10, .int x5, .ref 118]) (pc' := 261) (lv' := [(0, .ref 49), (5, .int x5), (10, .int x10)]) (hp' := rH e g q c l) (i := .iload 10) (len := 2) rfl hj rfl rfl rfl]
  rw [n_ias (st' := []) (hp' := rH e g q (updA c 118 (upd (c 118) (x5).toNatClampNeg x10)) l) rfl hj (ast_118 hz0)]
  exact n_ret rfl hj rfl rfl rfl
set_option maxRecDepth 100000 in
set_option maxHeartbeats 4000000 in
theorem bk_426_0 {b : Bool} {d : Nat} {e : Nat → x_E} {g : Nat → Int32} {q : Nat → Int64} {c : Nat → Nat → Int32} {l : Nat → Nat → Int64} {g' : Nat → Int32} {q' : Nat → Int64} {c' : Nat → Nat → Int32} {l' : Nat → Nat → Int64} {v : Int32} {R : Option Value × List x_E} (hc : rr b e d 337 0 [(0, .ref 49)] [] (upd g 137 ((g 11))) q c l (some (.int v), rH e g' q' c' l')) (h : rr b e (d + 1) 426 17 [(0, .ref 49), (1, .int ((upd g 137 ((g 11))) 13))] [.int v] g' q' c' l' R) : rr b e (d + 1) 426 0 [(0, .ref 49)] [] g q c l R := by
  obtain ⟨f1, hc⟩ := hc
  obtain ⟨f2, h⟩ := h
  obtain ⟨f, hf1, hf2⟩ : ∃ f, f1 ≤ f ∧ f2 ≤ f := ⟨max f1 f2, Nat.le_max_left _ _, Nat.le_max_right _ _⟩
  have hc := nrun_fuel f1 f _ _ _ _ _ _ _ _ _ hf1 hc
  have h := nrun_fuel f2 f _ _ _ _ _ _ _ _ _ hf2 h
  refine ⟨f + 9, ?_⟩
  obtain ⟨y, cb, hj⟩ := mq_426
  rw [n_step (st' := [.ref 49]) (pc' := 1) (lv' := [(0, .ref 49)]) (hp' := rH e g q c l) (i := .aload_n 0) (len := 1) rfl hj rfl rfl rfl]
  rw [n_step (st' := [.ref 49, .ref 49]) (pc' := 2) (lv' := [(0, .ref 49)]) (hp' := rH e g q c l) (i := .aload_n 0) (len := 1) rfl hj rfl rfl rfl]
  rw [n_get (st' := [.int (g 11), .ref 49]) (pc' := 5) (lv' := [(0, .ref 49)]) (hp' := rH e g q c l) (i := .getfield 257) (len := 3) rfl hj rfl rfl rfl rfl]
  rw [n_put (st' := []) (hp' := rH e (upd g 137 ((g 11))) q c l) rfl hj pf_137]
  rw [n_step (st' := [.ref 49]) (pc' := 9) (lv' := [(0, .ref 49)]) (hp' := rH e (upd g 137 ((g 11))) q c l) (i := .aload_n 0) (len := 1) rfl hj rfl rfl rfl]
  rw [n_get (st' := [.int ((upd g 137 ((g 11))) 13)]) (pc' := 12) (lv' := [(0, .ref 49)]) (hp' := rH e (upd g 137 ((g 11))) q c l) (i := .getfield 270) (len := 3) rfl hj rfl rfl rfl rfl]
  rw [n_step (st' := []) (pc' := 13) (lv' := [(1, .int ((upd g 137 ((g 11))) 13)), (0, .ref 49)]) (hp' := rH e (upd g 137 ((g 11))) q c l) (i := .istore_n 1) (len := 1) rfl hj rfl rfl rfl]
  rw [n_step (st' := [.ref 49]) (pc' := 14) (lv' := [(1, .int ((upd g 137 ((g 11))) 13)), (0, .ref 49)]) (hp' := rH e (upd g 137 ((g 11))) q c l) (i := .aload_n 0) (len := 1) rfl hj rfl rfl rfl]
  obtain ⟨y2, cb2, hj2⟩ := mq_337
  rw [n_call (f := f) (d := d) (ki := 0) (idx := 337) (j' := 337) (kd := 0) (M' := (y2, cb2, 1, some .boolean, 12, 0, 0, 0)) (avs := [.ref 49]) (r := []) (rv := some (.int v)) (hp1 := rH e g' q' c' l') rfl hj rfl rfl rfl rfl (rq_n rfl rfl hj2 rfl rfl) rfl hc (Nat.le_of_ble_eq_true rfl)]
  exact nrun_ext f f _ _ R 426 17 [(0, .ref 49), (1, .int ((upd g 137 ((g 11))) 13))] [(1, .int ((upd g 137 ((g 11))) 13)), (0, .ref 49)] [.int v] _ 0 0 122 (Nat.le_refl _) (Nat.le_refl _) (Nat.le_of_ble_eq_true rfl) (lvR_mk [0, 1] [1, 0] rfl rfl (by decide) (by decide) (List.forall_mem_cons.mpr ⟨(List.mem_cons_of_mem _ List.mem_cons_self), (List.forall_mem_cons.mpr ⟨List.mem_cons_self, (fun _ h => nomatch h)⟩)⟩) (List.forall_mem_cons.mpr ⟨Or.inl (List.mem_cons_of_mem _ List.mem_cons_self), (List.forall_mem_cons.mpr ⟨Or.inl List.mem_cons_self, (fun _ h => nomatch h)⟩)⟩)) h
set_option maxRecDepth 100000 in
set_option maxHeartbeats 4000000 in
theorem bk_426_17 {b : Bool} {d : Nat} {t0 x1 : Int32} {e : Nat → x_E} {g : Nat → Int32} {q : Nat → Int64} {c : Nat → Nat → Int32} {l : Nat → Nat → Int64} {R : Option Value × List x_E} (h1 : xCn .eq t0 0 = true → rr b e d 426 22 [(0, .ref 49), (1, .int x1)] [] g q c l R) (h2 : ¬ xCn .eq t0 0 = true → rr b e d 426 20 [] [] g q c l R) : rr b e d 426 17 [(0, .ref 49), (1, .int x1)] [.int t0] g q c l R := by
  have key : ∀ f, nrun xZ (xY (xfm b)) xDT (f + 1) d 426 17 [(0, .ref 49), (1, .int x1)] [.int t0] (rH e g q c l) 0 0 = nrun xZ (xY (xfm b)) xDT f d 426 (if xCn .eq t0 0 = true then 22 else 20) [(0, .ref 49), (1, .int x1)] [] (rH e g q c l) 0 0 := by
    intro f
    obtain ⟨y, cb, hj⟩ := mq_426
    rw [n_step (st' := []) (pc' := (if xCn .eq t0 0 = true then 22 else 20)) (lv' := [(0, .ref 49), (1, .int x1)]) (hp' := rH e g q c l) (i := .ifCond .eq 5) (len := 3) rfl hj rfl rfl rfl]
  by_cases hc : xCn .eq t0 0 = true
  · obtain ⟨f, h⟩ := h1 hc
    refine ⟨f + 1, ?_⟩
    rw [key, if_pos hc]
    exact h
  · obtain ⟨f, h⟩ := h2 hc
    refine ⟨f + 1, ?_⟩
    rw [key, if_neg hc]
    exact nrun_ext f f _ _ R 426 20 [] [(0, .ref 49), (1, .int x1)] [] _ 0 0 122 (Nat.le_refl _) (Nat.le_refl _) (Nat.le_of_ble_eq_true rfl) (lvR_mk [] [0, 1] rfl rfl (by decide) (by decide) (fun _ h => nomatch h) (List.forall_mem_cons.mpr ⟨Or.inr rfl, (List.forall_mem_cons.mpr ⟨Or.inr rfl, (fun _ h => nomatch h)⟩)⟩)) h
set_option maxRecDepth 100000 in
set_option maxHeartbeats 4000000 in
theorem bk_426_20 {b : Bool} {d : Nat} {e : Nat → x_E} {g : Nat → Int32} {q : Nat → Int64} {c : Nat → Nat → Int32} {l : Nat → Nat → Int64} : rr b e d 426 20 [] [] g q c l (some (.int (Int32.ofInt (0))), rH e g q c l) := by
  refine ⟨0 + 2, ?_⟩
  obtain ⟨y, cb, hj⟩ := mq_426
  rw [n_step (st' := [.int (Int32.ofInt (0))]) (pc' := 21) (lv' := []) (hp' := rH e g q c l) (i := .iconst 0) (len := 1) rfl hj rfl rfl rfl]
  exact n_ret rfl hj rfl rfl (x_ret rfl)
set_option maxRecDepth 100000 in
set_option maxHeartbeats 4000000 in
theorem bk_426_22 {b : Bool} {d : Nat} {x1 : Int32} {e : Nat → x_E} {g : Nat → Int32} {q : Nat → Int64} {c : Nat → Nat → Int32} {l : Nat → Nat → Int64} {R : Option Value × List x_E} (h1 : xCn .eq ((g 10)) ((Int32.ofInt (5))) = true → rr b e d 426 37 [(0, .ref 49), (1, .int x1)] [] g q c l R) (h2 : ¬ xCn .eq ((g 10)) ((Int32.ofInt (5))) = true → rr b e d 426 30 [(0, .ref 49), (1, .int x1)] [] g q c l R) : rr b e d 426 22 [(0, .ref 49), (1, .int x1)] [] g q c l R := by
  have key : ∀ f, nrun xZ (xY (xfm b)) xDT (f + 4) d 426 22 [(0, .ref 49), (1, .int x1)] [] (rH e g q c l) 0 0 = nrun xZ (xY (xfm b)) xDT f d 426 (if xCn .eq ((g 10)) ((Int32.ofInt (5))) = true then 37 else 30) [(0, .ref 49), (1, .int x1)] [] (rH e g q c l) 0 0 := by
    intro f
    obtain ⟨y, cb, hj⟩ := mq_426
    rw [n_step (st' := [.ref 49]) (pc' := 23) (lv' := [(0, .ref 49), (1, .int x1)]) (hp' := rH e g q c l) (i := .aload_n 0) (len := 1) rfl hj rfl rfl rfl]
    rw [n_get (st' := [.int (g 10)]) (pc' := 26) (lv' := [(0, .ref 49), (1, .int x1)]) (hp' := rH e g q c l) (i := .getfield 273) (len := 3) rfl hj rfl rfl rfl rfl]
    rw [n_step (st' := [.int (Int32.ofInt (5)), .int (g 10)]) (pc' := 27) (lv' := [(0, .ref 49), (1, .int x1)]) (hp' := rH e g q c l) (i := .iconst 5) (len := 1) rfl hj rfl rfl rfl]
    rw [n_step (st' := []) (pc' := (if xCn .eq ((g 10)) ((Int32.ofInt (5))) = true then 37 else 30)) (lv' := [(0, .ref 49), (1, .int x1)]) (hp' := rH e g q c l) (i := .if_icmp .eq 10) (len := 3) rfl hj rfl rfl rfl]
  by_cases hc : xCn .eq ((g 10)) ((Int32.ofInt (5))) = true
  · obtain ⟨f, h⟩ := h1 hc
    refine ⟨f + 4, ?_⟩
    rw [key, if_pos hc]
    exact h
  · obtain ⟨f, h⟩ := h2 hc
    refine ⟨f + 4, ?_⟩
    rw [key, if_neg hc]
    exact h
set_option maxRecDepth 100000 in
set_option maxHeartbeats 4000000 in
theorem bk_426_30 {b : Bool} {d : Nat} {x1 : Int32} {e : Nat → x_E} {g : Nat → Int32} {q : Nat → Int64} {c : Nat → Nat → Int32} {l : Nat → Nat → Int64} {g' : Nat → Int32} {q' : Nat → Int64} {c' : Nat → Nat → Int32} {l' : Nat → Nat → Int64} {R : Option Value × List x_E} (hc : rr b e d 342 0 [(0, .ref 49)] [] g q c l (none, rH e g' q' c' l')) (h : rr b e (d + 1) 426 34 [(1, .int x1)] [] g' q' c' l' R) : rr b e (d + 1) 426 30 [(0, .ref 49), (1, .int x1)] [] g q c l R := by
  obtain ⟨f1, hc⟩ := hc
  obtain ⟨f2, h⟩ := h
  obtain ⟨f, hf1, hf2⟩ : ∃ f, f1 ≤ f ∧ f2 ≤ f := ⟨max f1 f2, Nat.le_max_left _ _, Nat.le_max_right _ _⟩
  have hc := nrun_fuel f1 f _ _ _ _ _ _ _ _ _ hf1 hc
  have h := nrun_fuel f2 f _ _ _ _ _ _ _ _ _ hf2 h
  refine ⟨f + 2, ?_⟩
  obtain ⟨y, cb, hj⟩ := mq_426
  rw [n_step (st' := [.ref 49]) (pc' := 31) (lv' := [(0, .ref 49), (1, .int x1)]) (hp' := rH e g q c l) (i := .aload_n 0) (len := 1) rfl hj rfl rfl rfl]
  obtain ⟨y2, cb2, hj2⟩ := mq_342
  rw [n_call (f := f) (d := d) (ki := 0) (idx := 347) (j' := 342) (kd := 0) (M' := (y2, cb2, 1, none, 12, 0, 0, 0)) (avs := [.ref 49]) (r := []) (rv := none) (hp1 := rH e g' q' c' l') rfl hj rfl rfl rfl rfl (rq_n rfl rfl hj2 rfl rfl) rfl hc (Nat.le_of_ble_eq_true rfl)]
  exact nrun_ext f f _ _ R 426 34 [(1, .int x1)] [(0, .ref 49), (1, .int x1)] [] _ 0 0 122 (Nat.le_refl _) (Nat.le_refl _) (Nat.le_of_ble_eq_true rfl) (lvR_mk [1] [0, 1] rfl rfl (by decide) (by decide) (List.forall_mem_cons.mpr ⟨(List.mem_cons_of_mem _ List.mem_cons_self), (fun _ h => nomatch h)⟩) (List.forall_mem_cons.mpr ⟨Or.inr rfl, (List.forall_mem_cons.mpr ⟨Or.inl List.mem_cons_self, (fun _ h => nomatch h)⟩)⟩)) h
set_option maxRecDepth 100000 in
set_option maxHeartbeats 4000000 in
theorem bk_426_34 {b : Bool} {d : Nat} {x1 : Int32} {e : Nat → x_E} {g : Nat → Int32} {q : Nat → Int64} {c : Nat → Nat → Int32} {l : Nat → Nat → Int64} {R : Option Value × List x_E} (h : rr b e d 426 41 [(1, .int x1)] [] g q c l R) : rr b e d 426 34 [(1, .int x1)] [] g q c l R := by
  obtain ⟨f, h⟩ := h
  refine ⟨f + 1, ?_⟩
  obtain ⟨y, cb, hj⟩ := mq_426
  rw [n_step (st' := []) (pc' := 41) (lv' := [(1, .int x1)]) (hp' := rH e g q c l) (i := .goto 7) (len := 3) rfl hj rfl rfl rfl]
  exact h
set_option maxRecDepth 100000 in
set_option maxHeartbeats 4000000 in
theorem bk_426_37 {b : Bool} {d : Nat} {x1 : Int32} {e : Nat → x_E} {g : Nat → Int32} {q : Nat → Int64} {c : Nat → Nat → Int32} {l : Nat → Nat → Int64} {g' : Nat → Int32} {q' : Nat → Int64} {c' : Nat → Nat → Int32} {l' : Nat → Nat → Int64} {R : Option Value × List x_E} (hc : rr b e d 322 0 [(0, .ref 49)] [] g q c l (none, rH e g' q' c' l')) (h : rr b e (d + 1) 426 41 [(1, .int x1)] [] g' q' c' l' R) : rr b e (d + 1) 426 37 [(0, .ref 49), (1, .int x1)] [] g q c l R := by
  obtain ⟨f1, hc⟩ := hc
  obtain ⟨f2, h⟩ := h
  obtain ⟨f, hf1, hf2⟩ : ∃ f, f1 ≤ f ∧ f2 ≤ f := ⟨max f1 f2, Nat.le_max_left _ _, Nat.le_max_right _ _⟩
  have hc := nrun_fuel f1 f _ _ _ _ _ _ _ _ _ hf1 hc
  have h := nrun_fuel f2 f _ _ _ _ _ _ _ _ _ hf2 h
  refine ⟨f + 2, ?_⟩
  obtain ⟨y, cb, hj⟩ := mq_426
  rw [n_step (st' := [.ref 49]) (pc' := 38) (lv' := [(0, .ref 49), (1, .int x1)]) (hp' := rH e g q c l) (i := .aload_n 0) (len := 1) rfl hj rfl rfl rfl]
  obtain ⟨y2, cb2, hj2⟩ := mq_322
  rw [n_call (f := f) (d := d) (ki := 0) (idx := 344) (j' := 322) (kd := 0) (M' := (y2, cb2, 2, none, 12, 0, 0, 0)) (avs := [.ref 49]) (r := []) (rv := none) (hp1 := rH e g' q' c' l') rfl hj rfl rfl rfl rfl (rq_n rfl rfl hj2 rfl rfl) rfl hc (Nat.le_of_ble_eq_true rfl)]
  exact nrun_ext f f _ _ R 426 41 [(1, .int x1)] [(0, .ref 49), (1, .int x1)] [] _ 0 0 122 (Nat.le_refl _) (Nat.le_refl _) (Nat.le_of_ble_eq_true rfl) (lvR_mk [1] [0, 1] rfl rfl (by decide) (by decide) (List.forall_mem_cons.mpr ⟨(List.mem_cons_of_mem _ List.mem_cons_self), (fun _ h => nomatch h)⟩) (List.forall_mem_cons.mpr ⟨Or.inr rfl, (List.forall_mem_cons.mpr ⟨Or.inl List.mem_cons_self, (fun _ h => nomatch h)⟩)⟩)) h
set_option maxRecDepth 100000 in
set_option maxHeartbeats 4000000 in
theorem bk_426_41 {b : Bool} {d : Nat} {x1 : Int32} {e : Nat → x_E} {g : Nat → Int32} {q : Nat → Int64} {c : Nat → Nat → Int32} {l : Nat → Nat → Int64} : rr b e d 426 41 [(1, .int x1)] [] g q c l (some (.int x1), rH e g q c l) := by
  refine ⟨0 + 2, ?_⟩
  obtain ⟨y, cb, hj⟩ := mq_426
  rw [n_step (st' := [.int x1]) (pc' := 42) (lv' := [(1, .int x1)]) (hp' := rH e g q c l) (i := .iload_n 1) (len := 1) rfl hj rfl rfl rfl]
  exact n_ret rfl hj rfl rfl (x_ret rfl)
set_option maxRecDepth 100000 in
set_option maxHeartbeats 4000000 in
theorem bk_427_0 {b : Bool} {d : Nat} {x1 : Int32} {e : Nat → x_E} {g : Nat → Int32} {q : Nat → Int64} {c : Nat → Nat → Int32} {l : Nat → Nat → Int64} {g' : Nat → Int32} {q' : Nat → Int64} {c' : Nat → Nat → Int32} {l' : Nat → Nat → Int64} {v : Int32} {R : Option Value × List x_E} (hc : rr b e d 426 0 [(0, .ref 49)] [] g q c l (some (.int v), rH e g' q' c' l')) (h : rr b e (d + 1) 427 4 [(0, .ref 49), (1, .int x1)] [.int v] g' q' c' l' R) : rr b e (d + 1) 427 0 [(0, .ref 49), (1, .int x1)] [] g q c l R := by
  obtain ⟨f1, hc⟩ := hc
  obtain ⟨f2, h⟩ := h
  obtain ⟨f, hf1, hf2⟩ : ∃ f, f1 ≤ f ∧ f2 ≤ f := ⟨max f1 f2, Nat.le_max_left _ _, Nat.le_max_right _ _⟩
  have hc := nrun_fuel f1 f _ _ _ _ _ _ _ _ _ hf1 hc
  have h := nrun_fuel f2 f _ _ _ _ _ _ _ _ _ hf2 h
  refine ⟨f + 2, ?_⟩
  obtain ⟨y, cb, hj⟩ := mq_427
  rw [n_step (st' := [.ref 49]) (pc' := 1) (lv' := [(0, .ref 49), (1, .int x1)]) (hp' := rH e g q c l) (i := .aload_n 0) (len := 1) rfl hj rfl rfl rfl]
  obtain ⟨y2, cb2, hj2⟩ := mq_426
  rw [n_call (f := f) (d := d) (ki := 0) (idx := 827) (j' := 426) (kd := 0) (M' := (y2, cb2, 2, some .int, 12, 0, 0, 0)) (avs := [.ref 49]) (r := []) (rv := some (.int v)) (hp1 := rH e g' q' c' l') rfl hj rfl rfl rfl rfl (rq_n rfl rfl hj2 rfl rfl) rfl hc (Nat.le_of_ble_eq_true rfl)]
  exact h
set_option maxRecDepth 100000 in
set_option maxHeartbeats 4000000 in
theorem bk_427_4 {b : Bool} {d : Nat} {t0 x1 : Int32} {e : Nat → x_E} {g : Nat → Int32} {q : Nat → Int64} {c : Nat → Nat → Int32} {l : Nat → Nat → Int64} {R : Option Value × List x_E} (h1 : xCn .ne x1 ((Int8.ofInt (10)).toInt32) = true → rr b e d 427 23 [(0, .ref 49), (1, .int x1), (2, .int t0), (3, .int (g 137))] [] g q c l R) (h2 : ¬ xCn .ne x1 ((Int8.ofInt (10)).toInt32) = true → rr b e d 427 16 [(0, .ref 49), (2, .int t0), (3, .int (g 137))] [] g q c l R) : rr b e d 427 4 [(0, .ref 49), (1, .int x1)] [.int t0] g q c l R := by
  have key : ∀ f, nrun xZ (xY (xfm b)) xDT (f + 7) d 427 4 [(0, .ref 49), (1, .int x1)] [.int t0] (rH e g q c l) 0 0 = nrun xZ (xY (xfm b)) xDT f d 427 (if xCn .ne x1 ((Int8.ofInt (10)).toInt32) = true then 23 else 16) [(3, .int (g 137)), (2, .int t0), (0, .ref 49), (1, .int x1)] [] (rH e g q c l) 0 0 := by
    intro f
    obtain ⟨y, cb, hj⟩ := mq_427
    rw [n_step (st' := []) (pc' := 5) (lv' := [(2, .int t0), (0, .ref 49), (1, .int x1)]) (hp' := rH e g q c l) (i := .istore_n 2) (len := 1) rfl hj rfl rfl rfl]
    rw [n_step (st' := [.ref 49]) (pc' := 6) (lv' := [(2, .int t0), (0, .ref 49), (1, .int x1)]) (hp' := rH e g q c l) (i := .aload_n 0) (len := 1) rfl hj rfl rfl rfl]
    rw [n_get (st' := [.int (g 137)]) (pc' := 9) (lv' := [(2, .int t0), (0, .ref 49), (1, .int x1)]) (hp' := rH e g q c l) (i := .getfield 785) (len := 3) rfl hj rfl rfl rfl rfl]
    rw [n_step (st' := []) (pc' := 10) (lv' := [(3, .int (g 137)), (2, .int t0), (0, .ref 49), (1, .int x1)]) (hp' := rH e g q c l) (i := .istore_n 3) (len := 1) rfl hj rfl rfl rfl]
    rw [n_step (st' := [.int x1]) (pc' := 11) (lv' := [(3, .int (g 137)), (2, .int t0), (0, .ref 49), (1, .int x1)]) (hp' := rH e g q c l) (i := .iload_n 1) (len := 1) rfl hj rfl rfl rfl]
    rw [n_step (st' := [.int (Int8.ofInt (10)).toInt32, .int x1]) (pc' := 13) (lv' := [(3, .int (g 137)), (2, .int t0), (0, .ref 49), (1, .int x1)]) (hp' := rH e g q c l) (i := .bipush 10) (len := 2) rfl hj rfl rfl rfl]
    rw [n_step (st' := []) (pc' := (if xCn .ne x1 ((Int8.ofInt (10)).toInt32) = true then 23 else 16)) (lv' := [(3, .int (g 137)), (2, .int t0), (0, .ref 49), (1, .int x1)]) (hp' := rH e g q c l) (i := .if_icmp .ne 10) (len := 3) rfl hj rfl rfl rfl]
  by_cases hc : xCn .ne x1 ((Int8.ofInt (10)).toInt32) = true
  · obtain ⟨f, h⟩ := h1 hc
    refine ⟨f + 7, ?_⟩
    rw [key, if_pos hc]
    exact nrun_ext f f _ _ R 427 23 [(0, .ref 49), (1, .int x1), (2, .int t0), (3, .int (g 137))] [(3, .int (g 137)), (2, .int t0), (0, .ref 49), (1, .int x1)] [] _ 0 0 122 (Nat.le_refl _) (Nat.le_refl _) (Nat.le_of_ble_eq_true rfl) (lvR_mk [0, 1, 2, 3] [3, 2, 0, 1] rfl rfl (by decide) (by decide) (List.forall_mem_cons.mpr ⟨(List.mem_cons_of_mem _ (List.mem_cons_of_mem _ List.mem_cons_self)), (List.forall_mem_cons.mpr ⟨(List.mem_cons_of_mem _ (List.mem_cons_of_mem _ (List.mem_cons_of_mem _ List.mem_cons_self))), (List.forall_mem_cons.mpr ⟨(List.mem_cons_of_mem _ List.mem_cons_self), (List.forall_mem_cons.mpr ⟨List.mem_cons_self, (fun _ h => nomatch h)⟩)⟩)⟩)⟩) (List.forall_mem_cons.mpr ⟨Or.inl (List.mem_cons_of_mem _ (List.mem_cons_of_mem _ (List.mem_cons_of_mem _ List.mem_cons_self))), (List.forall_mem_cons.mpr ⟨Or.inl (List.mem_cons_of_mem _ (List.mem_cons_of_mem _ List.mem_cons_self)), (List.forall_mem_cons.mpr ⟨Or.inl List.mem_cons_self, (List.forall_mem_cons.mpr ⟨Or.inl (List.mem_cons_of_mem _ List.mem_cons_self), (fun _ h => nomatch h)⟩)⟩)⟩)⟩)) h
  · obtain ⟨f, h⟩ := h2 hc
    refine ⟨f + 7, ?_⟩
    rw [key, if_neg hc]
    exact nrun_ext f f _ _ R 427 16 [(0, .ref 49), (2, .int t0), (3, .int (g 137))] [(3, .int (g 137)), (2, .int t0), (0, .ref 49), (1, .int x1)] [] _ 0 0 122 (Nat.le_refl _) (Nat.le_refl _) (Nat.le_of_ble_eq_true rfl) (lvR_mk [0, 2, 3] [3, 2, 0, 1] rfl rfl (by decide) (by decide) (List.forall_mem_cons.mpr ⟨(List.mem_cons_of_mem _ (List.mem_cons_of_mem _ List.mem_cons_self)), (List.forall_mem_cons.mpr ⟨(List.mem_cons_of_mem _ List.mem_cons_self), (List.forall_mem_cons.mpr ⟨List.mem_cons_self, (fun _ h => nomatch h)⟩)⟩)⟩) (List.forall_mem_cons.mpr ⟨Or.inl (List.mem_cons_of_mem _ (List.mem_cons_of_mem _ List.mem_cons_self)), (List.forall_mem_cons.mpr ⟨Or.inl (List.mem_cons_of_mem _ List.mem_cons_self), (List.forall_mem_cons.mpr ⟨Or.inl List.mem_cons_self, (List.forall_mem_cons.mpr ⟨Or.inr rfl, (fun _ h => nomatch h)⟩)⟩)⟩)⟩)) h
set_option maxRecDepth 100000 in
set_option maxHeartbeats 4000000 in
theorem bk_427_16 {b : Bool} {d : Nat} {x2 x3 : Int32} {e : Nat → x_E} {g : Nat → Int32} {q : Nat → Int64} {c : Nat → Nat → Int32} {l : Nat → Nat → Int64} {g' : Nat → Int32} {q' : Nat → Int64} {c' : Nat → Nat → Int32} {l' : Nat → Nat → Int64} {R : Option Value × List x_E} (hc : rr b e d 428 0 [(0, .ref 49), (1, .int x2), (2, .int x3)] [] g q c l (none, rH e g' q' c' l')) (h : rr b e (d + 1) 427 22 [] [] g' q' c' l' R) : rr b e (d + 1) 427 16 [(0, .ref 49), (2, .int x2), (3, .int x3)] [] g q c l R := by
  obtain ⟨f1, hc⟩ := hc
  obtain ⟨f2, h⟩ := h
  obtain ⟨f, hf1, hf2⟩ : ∃ f, f1 ≤ f ∧ f2 ≤ f := ⟨max f1 f2, Nat.le_max_left _ _, Nat.le_max_right _ _⟩
  have hc := nrun_fuel f1 f _ _ _ _ _ _ _ _ _ hf1 hc
  have h := nrun_fuel f2 f _ _ _ _ _ _ _ _ _ hf2 h
  refine ⟨f + 4, ?_⟩
  obtain ⟨y, cb, hj⟩ := mq_427
  rw [n_step (st' := [.ref 49]) (pc' := 17) (lv' := [(0, .ref 49), (2, .int x2), (3, .int x3)]) (hp' := rH e g q c l) (i := .aload_n 0) (len := 1) rfl hj rfl rfl rfl]
  rw [n_step (st' := [.int x2, .ref 49]) (pc' := 18) (lv' := [(0, .ref 49), (2, .int x2), (3, .int x3)]) (hp' := rH e g q c l) (i := .iload_n 2) (len := 1) rfl hj rfl rfl rfl]
  rw [n_step (st' := [.int x3, .int x2, .ref 49]) (pc' := 19) (lv' := [(0, .ref 49), (2, .int x2), (3, .int x3)]) (hp' := rH e g q c l) (i := .iload_n 3) (len := 1) rfl hj rfl rfl rfl]
  obtain ⟨y2, cb2, hj2⟩ := mq_428
  rw [n_call (f := f) (d := d) (ki := 0) (idx := 830) (j' := 428) (kd := 0) (M' := (y2, cb2, 10, none, 12, 2, 0, 0)) (avs := [.ref 49, .int x2, .int x3]) (r := []) (rv := none) (hp1 := rH e g' q' c' l') rfl hj rfl rfl rfl rfl (rq_n rfl rfl hj2 rfl rfl) rfl hc (Nat.le_of_ble_eq_true rfl)]
  exact nrun_ext f f _ _ R 427 22 [] [(0, .ref 49), (2, .int x2), (3, .int x3)] [] _ 0 0 122 (Nat.le_refl _) (Nat.le_refl _) (Nat.le_of_ble_eq_true rfl) (lvR_mk [] [0, 2, 3] rfl rfl (by decide) (by decide) (fun _ h => nomatch h) (List.forall_mem_cons.mpr ⟨Or.inr rfl, (List.forall_mem_cons.mpr ⟨Or.inr rfl, (List.forall_mem_cons.mpr ⟨Or.inr rfl, (fun _ h => nomatch h)⟩)⟩)⟩)) h
