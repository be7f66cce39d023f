set_option maxRecDepth 100000 in
set_option maxHeartbeats 4000000 in
theorem bk_364_2 {b : Bool} {d : Nat} {x1 x2 : Int32} {e : Nat → x_E} {g : Nat → Int32} {q : Nat → Int64} {c : Nat → Nat → Int32} {l : Nat → Nat → Int64} {R : Option Value × List x_E} (hz0 : ¬ (x1 < 0 ∨ 1300 ≤ (x1).toNatClampNeg)) (h1 : xCn .ge x2 ((c 57 (x1).toNatClampNeg)) = true → rr b e d 364 35 [] [] g q c l R) (h2 : ¬ xCn .ge x2 ((c 57 (x1).toNatClampNeg)) = true → rr b e d 364 12 [(0, .ref 49), (1, .int x1), (2, .int x2)] [] g q c l R) : rr b e d 364 2 [(0, .ref 49), (1, .int x1), (2, .int x2)] [] g q c l R := by
  have key : ∀ f, nrun xZ (xY (xfm b)) xDT (f + 6) d 364 2 [(0, .ref 49), (1, .int x1), (2, .int x2)] [] (rH e g q c l) 0 0 = nrun xZ (xY (xfm b)) xDT f d 364 (if xCn .ge x2 ((c 57 (x1).toNatClampNeg)) = true then 35 else 12) [(0, .ref 49), (1, .int x1), (2, .int x2)] [] (rH e g q c l) 0 0 := by
    intro f
    obtain ⟨y, cb, hj⟩ := mq_364
    rw [n_step (st' := [.int x2]) (pc' := 3) (lv' := [(0, .ref 49), (1, .int x1), (2, .int x2)]) (hp' := rH e g q c l) (i := .iload_n 2) (len := 1) rfl hj rfl rfl rfl]
    rw [n_step (st' := [.ref 49, .int x2]) (pc' := 4) (lv' := [(0, .ref 49), (1, .int x1), (2, .int x2)]) (hp' := rH e g q c l) (i := .aload_n 0) (len := 1) rfl hj rfl rfl rfl]
    rw [n_get (st' := [.ref 57, .int x2]) (pc' := 7) (lv' := [(0, .ref 49), (1, .int x1), (2, .int x2)]) (hp' := rH e g q c l) (i := .getfield 37) (len := 3) rfl hj rfl rfl rfl rfl]
    rw [n_step (st' := [.int x1, .ref 57, .int x2]) (pc' := 8) (lv' := [(0, .ref 49), (1, .int x1), (2, .int x2)]) (hp' := rH e g q c l) (i := .iload_n 1) (len := 1) rfl hj rfl rfl rfl]
    rw [n_ial (st' := [.int (c 57 (x1).toNatClampNeg), .int x2]) rfl hj (ald_57 hz0)]
    rw [n_step (st' := []) (pc' := (if xCn .ge x2 ((c 57 (x1).toNatClampNeg)) = true then 35 else 12)) (lv' := [(0, .ref 49), (1, .int x1), (2, .int x2)]) (hp' := rH e g q c l) (i := .if_icmp .ge 26) (len := 3) rfl hj rfl rfl rfl]
  by_cases hc : xCn .ge x2 ((c 57 (x1).toNatClampNeg)) = true
  · obtain ⟨f, h⟩ := h1 hc
    refine ⟨f + 6, ?_⟩
    rw [key, if_pos hc]
    exact nrun_ext f f _ _ R 364 35 [] [(0, .ref 49), (1, .int x1), (2, .int x2)] [] _ 0 0 122 (Nat.le_refl _) (Nat.le_refl _) (Nat.le_of_ble_eq_true rfl) (lvR_mk [] [0, 1, 2] rfl rfl (by decide) (by decide) (fun _ h => nomatch h) (List.forall_mem_cons.mpr ⟨Or.inr rfl, (List.forall_mem_cons.mpr ⟨Or.inr rfl, (List.forall_mem_cons.mpr ⟨Or.inr rfl, (fun _ h => nomatch h)⟩)⟩)⟩)) h
  · obtain ⟨f, h⟩ := h2 hc
    refine ⟨f + 6, ?_⟩
    rw [key, if_neg hc]
    exact h
set_option maxRecDepth 100000 in
set_option maxHeartbeats 4000000 in
theorem bk_364_12 {b : Bool} {d : Nat} {x1 x2 : Int32} {e : Nat → x_E} {g : Nat → Int32} {q : Nat → Int64} {c : Nat → Nat → Int32} {l : Nat → Nat → Int64} {g' : Nat → Int32} {q' : Nat → Int64} {c' : Nat → Nat → Int32} {l' : Nat → Nat → Int64} {R : Option Value × List x_E} (hz0 : ¬ (x1 < 0 ∨ 1300 ≤ (x1).toNatClampNeg)) (hz1 : ¬ (((c 56 (x1).toNatClampNeg) + x2) < 0 ∨ 66000 ≤ (((c 56 (x1).toNatClampNeg) + x2)).toNatClampNeg)) (hc : rr b e d 334 0 [(0, .ref 49), (1, .int (c 55 (((c 56 (x1).toNatClampNeg) + x2)).toNatClampNeg))] [] g q c l (none, rH e g' q' c' l')) (h : rr b e (d + 1) 364 29 [(0, .ref 49), (1, .int x1), (2, .int x2)] [] g' q' c' l' R) : rr b e (d + 1) 364 12 [(0, .ref 49), (1, .int x1), (2, .int x2)] [] g q c l R := by
  obtain ⟨f1, hc⟩ := hc
  obtain ⟨f2, h⟩ := h
  obtain ⟨f, hf1, hf2⟩ : ∃ f, f1 ≤ f ∧ f2 ≤ f := ⟨max f1 f2, Nat.le_max_left _ _, Nat.le_max_right _ _⟩
  have hc := nrun_fuel f1 f _ _ _ _ _ _ _ _ _ hf1 hc
  have h := nrun_fuel f2 f _ _ _ _ _ _ _ _ _ hf2 h
  refine ⟨f + 11, ?_⟩
  obtain ⟨y, cb, hj⟩ := mq_364
  rw [n_step (st' := [.ref 49]) (pc' := 13) (lv' := [(0, .ref 49), (1, .int x1), (2, .int x2)]) (hp' := rH e g q c l) (i := .aload_n 0) (len := 1) rfl hj rfl rfl rfl]
  rw [n_step (st' := [.ref 49, .ref 49]) (pc' := 14) (lv' := [(0, .ref 49), (1, .int x1), (2, .int x2)]) (hp' := rH e g q c l) (i := .aload_n 0) (len := 1) rfl hj rfl rfl rfl]
  rw [n_get (st' := [.ref 55, .ref 49]) (pc' := 17) (lv' := [(0, .ref 49), (1, .int x1), (2, .int x2)]) (hp' := rH e g q c l) (i := .getfield 31) (len := 3) rfl hj rfl rfl rfl rfl]
  rw [n_step (st' := [.ref 49, .ref 55, .ref 49]) (pc' := 18) (lv' := [(0, .ref 49), (1, .int x1), (2, .int x2)]) (hp' := rH e g q c l) (i := .aload_n 0) (len := 1) rfl hj rfl rfl rfl]
  rw [n_get (st' := [.ref 56, .ref 55, .ref 49]) (pc' := 21) (lv' := [(0, .ref 49), (1, .int x1), (2, .int x2)]) (hp' := rH e g q c l) (i := .getfield 34) (len := 3) rfl hj rfl rfl rfl rfl]
  rw [n_step (st' := [.int x1, .ref 56, .ref 55, .ref 49]) (pc' := 22) (lv' := [(0, .ref 49), (1, .int x1), (2, .int x2)]) (hp' := rH e g q c l) (i := .iload_n 1) (len := 1) rfl hj rfl rfl rfl]
  rw [n_ial (st' := [.int (c 56 (x1).toNatClampNeg), .ref 55, .ref 49]) rfl hj (ald_56 hz0)]
  rw [n_step (st' := [.int x2, .int (c 56 (x1).toNatClampNeg), .ref 55, .ref 49]) (pc' := 24) (lv' := [(0, .ref 49), (1, .int x1), (2, .int x2)]) (hp' := rH e g q c l) (i := .iload_n 2) (len := 1) rfl hj rfl rfl rfl]
  rw [n_step (st' := [.int ((c 56 (x1).toNatClampNeg) + x2), .ref 55, .ref 49]) (pc' := 25) (lv' := [(0, .ref 49), (1, .int x1), (2, .int x2)]) (hp' := rH e g q c l) (i := .iadd) (len := 1) rfl hj rfl rfl rfl]
  rw [n_ial (st' := [.int (c 55 (((c 56 (x1).toNatClampNeg) + x2)).toNatClampNeg), .ref 49]) rfl hj (ald_55 hz1)]
  obtain ⟨y2, cb2, hj2⟩ := mq_334
  rw [n_call (f := f) (d := d) (ki := 0) (idx := 377) (j' := 334) (kd := 0) (M' := (y2, cb2, 2, none, 12, 1, 0, 0)) (avs := [.ref 49, .int (c 55 (((c 56 (x1).toNatClampNeg) + x2)).toNatClampNeg)]) (r := []) (rv := none) (hp1 := rH e g' q' c' l') rfl hj rfl rfl rfl rfl (rq_n rfl rfl hj2 rfl rfl) rfl hc (Nat.le_of_ble_eq_true rfl)]
  exact h
set_option maxRecDepth 100000 in
set_option maxHeartbeats 4000000 in
theorem bk_364_29 {b : Bool} {d : Nat} {x1 x2 : Int32} {e : Nat → x_E} {g : Nat → Int32} {q : Nat → Int64} {c : Nat → Nat → Int32} {l : Nat → Nat → Int64} {R : Option Value × List x_E} (h : rr b e d 364 2 [(0, .ref 49), (1, .int x1), (2, .int (x2 + Int32.ofInt (1)))] [] g q c l R) : rr b e d 364 29 [(0, .ref 49), (1, .int x1), (2, .int x2)] [] g q c l R := by
  obtain ⟨f, h⟩ := h
  refine ⟨f + 2, ?_⟩
  obtain ⟨y, cb, hj⟩ := mq_364
  rw [n_step (st' := []) (pc' := 32) (lv' := [(2, .int (x2 + Int32.ofInt (1))), (0, .ref 49), (1, .int x1)]) (hp' := rH e g q c l) (i := .iinc 2 1) (len := 3) rfl hj rfl rfl rfl]
  rw [n_step (st' := []) (pc' := 2) (lv' := [(2, .int (x2 + Int32.ofInt (1))), (0, .ref 49), (1, .int x1)]) (hp' := rH e g q c l) (i := .goto (-30)) (len := 3) rfl hj rfl rfl rfl]
  exact nrun_ext f f _ _ R 364 2 [(0, .ref 49), (1, .int x1), (2, .int (x2 + Int32.ofInt (1)))] [(2, .int (x2 + Int32.ofInt (1))), (0, .ref 49), (1, .int x1)] [] _ 0 0 122 (Nat.le_refl _) (Nat.le_refl _) (Nat.le_of_ble_eq_true rfl) (lvR_mk [0, 1, 2] [2, 0, 1] rfl rfl (by decide) (by decide) (List.forall_mem_cons.mpr ⟨(List.mem_cons_of_mem _ List.mem_cons_self), (List.forall_mem_cons.mpr ⟨(List.mem_cons_of_mem _ (List.mem_cons_of_mem _ List.mem_cons_self)), (List.forall_mem_cons.mpr ⟨List.mem_cons_self, (fun _ h => nomatch h)⟩)⟩)⟩) (List.forall_mem_cons.mpr ⟨Or.inl (List.mem_cons_of_mem _ (List.mem_cons_of_mem _ List.mem_cons_self)), (List.forall_mem_cons.mpr ⟨Or.inl List.mem_cons_self, (List.forall_mem_cons.mpr ⟨Or.inl (List.mem_cons_of_mem _ List.mem_cons_self), (fun _ h => nomatch h)⟩)⟩)⟩)) h
set_option maxRecDepth 100000 in
set_option maxHeartbeats 4000000 in
theorem bk_364_35 {b : Bool} {d : Nat} {e : Nat → x_E} {g : Nat → Int32} {q : Nat → Int64} {c : Nat → Nat → Int32} {l : Nat → Nat → Int64} : rr b e d 364 35 [] [] g q c l (none, rH e g q c l) := by
  refine ⟨0 + 1, ?_⟩
  obtain ⟨y, cb, hj⟩ := mq_364
  exact n_ret rfl hj rfl rfl rfl
set_option maxRecDepth 100000 in
set_option maxHeartbeats 4000000 in
theorem bk_365_0 {b : Bool} {d : Nat} {e : Nat → x_E} {g : Nat → Int32} {q : Nat → Int64} {c : Nat → Nat → Int32} {l : Nat → Nat → Int64} {g' : Nat → Int32} {q' : Nat → Int64} {c' : Nat → Nat → Int32} {l' : Nat → Nat → Int64} {R : Option Value × List x_E} (hc : rr b e d 340 0 [(0, .ref 49)] [] g q c l (none, rH e g' q' c' l')) (h : rr b e (d + 1) 365 9 [(0, .ref 49), (1, .int (g 11))] [] g' q' c' l' R) : rr b e (d + 1) 365 0 [(0, .ref 49)] [] g q c l R := by
  obtain ⟨f1, hc⟩ := hc
  obtain ⟨f2, h⟩ := h
  obtain ⟨f, hf1, hf2⟩ : ∃ f, f1 ≤ f ∧ f2 ≤ f := ⟨max f1 f2, Nat.le_max_left _ _, Nat.le_max_right _ _⟩
  have hc := nrun_fuel f1 f _ _ _ _ _ _ _ _ _ hf1 hc
  have h := nrun_fuel f2 f _ _ _ _ _ _ _ _ _ hf2 h
  refine ⟨f + 5, ?_⟩
  obtain ⟨y, cb, hj⟩ := mq_365
  rw [n_step (st' := [.ref 49]) (pc' := 1) (lv' := [(0, .ref 49)]) (hp' := rH e g q c l) (i := .aload_n 0) (len := 1) rfl hj rfl rfl rfl]
  rw [n_get (st' := [.int (g 11)]) (pc' := 4) (lv' := [(0, .ref 49)]) (hp' := rH e g q c l) (i := .getfield 257) (len := 3) rfl hj rfl rfl rfl rfl]
  rw [n_step (st' := []) (pc' := 5) (lv' := [(1, .int (g 11)), (0, .ref 49)]) (hp' := rH e g q c l) (i := .istore_n 1) (len := 1) rfl hj rfl rfl rfl]
  rw [n_step (st' := [.ref 49]) (pc' := 6) (lv' := [(1, .int (g 11)), (0, .ref 49)]) (hp' := rH e g q c l) (i := .aload_n 0) (len := 1) rfl hj rfl rfl rfl]
  obtain ⟨y2, cb2, hj2⟩ := mq_340
  rw [n_call (f := f) (d := d) (ki := 0) (idx := 356) (j' := 340) (kd := 0) (M' := (y2, cb2, 1, none, 12, 0, 0, 0)) (avs := [.ref 49]) (r := []) (rv := none) (hp1 := rH e g' q' c' l') rfl hj rfl rfl rfl rfl (rq_n rfl rfl hj2 rfl rfl) rfl hc (Nat.le_of_ble_eq_true rfl)]
  exact nrun_ext f f _ _ R 365 9 [(0, .ref 49), (1, .int (g 11))] [(1, .int (g 11)), (0, .ref 49)] [] _ 0 0 122 (Nat.le_refl _) (Nat.le_refl _) (Nat.le_of_ble_eq_true rfl) (lvR_mk [0, 1] [1, 0] rfl rfl (by decide) (by decide) (List.forall_mem_cons.mpr ⟨(List.mem_cons_of_mem _ List.mem_cons_self), (List.forall_mem_cons.mpr ⟨List.mem_cons_self, (fun _ h => nomatch h)⟩)⟩) (List.forall_mem_cons.mpr ⟨Or.inl (List.mem_cons_of_mem _ List.mem_cons_self), (List.forall_mem_cons.mpr ⟨Or.inl List.mem_cons_self, (fun _ h => nomatch h)⟩)⟩)) h
set_option maxRecDepth 100000 in
set_option maxHeartbeats 4000000 in
theorem bk_365_9 {b : Bool} {d : Nat} {x1 : Int32} {e : Nat → x_E} {g : Nat → Int32} {q : Nat → Int64} {c : Nat → Nat → Int32} {l : Nat → Nat → Int64} {g' : Nat → Int32} {q' : Nat → Int64} {c' : Nat → Nat → Int32} {l' : Nat → Nat → Int64} {R : Option Value × List x_E} (hc : rr b e d 341 0 [(0, .ref 49)] [] g q c l (none, rH e g' q' c' l')) (h : rr b e (d + 1) 365 13 [(0, .ref 49), (1, .int x1)] [] g' q' c' l' R) : rr b e (d + 1) 365 9 [(0, .ref 49), (1, .int x1)] [] g q c l R := by
  obtain ⟨f1, hc⟩ := hc
  obtain ⟨f2, h⟩ := h
  obtain ⟨f, hf1, hf2⟩ : ∃ f, f1 ≤ f ∧ f2 ≤ f := ⟨max f1 f2, Nat.le_max_left _ _, Nat.le_max_right _ _⟩
  have hc := nrun_fuel f1 f _ _ _ _ _ _ _ _ _ hf1 hc
  have h := nrun_fuel f2 f _ _ _ _ _ _ _ _ _ hf2 h
  refine ⟨f + 2, ?_⟩
  obtain ⟨y, cb, hj⟩ := mq_365
  rw [n_step (st' := [.ref 49]) (pc' := 10) (lv' := [(0, .ref 49), (1, .int x1)]) (hp' := rH e g q c l) (i := .aload_n 0) (len := 1) rfl hj rfl rfl rfl]
  obtain ⟨y2, cb2, hj2⟩ := mq_341
  rw [n_call (f := f) (d := d) (ki := 0) (idx := 411) (j' := 341) (kd := 0) (M' := (y2, cb2, 1, none, 12, 0, 0, 0)) (avs := [.ref 49]) (r := []) (rv := none) (hp1 := rH e g' q' c' l') rfl hj rfl rfl rfl rfl (rq_n rfl rfl hj2 rfl rfl) rfl hc (Nat.le_of_ble_eq_true rfl)]
  exact h
set_option maxRecDepth 100000 in
set_option maxHeartbeats 4000000 in
theorem bk_365_13 {b : Bool} {d : Nat} {x1 : Int32} {e : Nat → x_E} {g : Nat → Int32} {q : Nat → Int64} {c : Nat → Nat → Int32} {l : Nat → Nat → Int64} {g' : Nat → Int32} {q' : Nat → Int64} {c' : Nat → Nat → Int32} {l' : Nat → Nat → Int64} {R : Option Value × List x_E} (hc : rr b e d 366 0 [(0, .ref 49), (1, .int (Int8.ofInt (40)).toInt32)] [] g q c l (none, rH e g' q' c' l')) (h : rr b e (d + 1) 365 30 [(0, .ref 49), (1, .int x1), (2, .long (q 26)), (4, .int (g 27))] [] g' q' c' l' R) : rr b e (d + 1) 365 13 [(0, .ref 49), (1, .int x1)] [] g q c l R := by
  obtain ⟨f1, hc⟩ := hc
  obtain ⟨f2, h⟩ := h
  obtain ⟨f, hf1, hf2⟩ : ∃ f, f1 ≤ f ∧ f2 ≤ f := ⟨max f1 f2, Nat.le_max_left _ _, Nat.le_max_right _ _⟩
  have hc := nrun_fuel f1 f _ _ _ _ _ _ _ _ _ hf1 hc
  have h := nrun_fuel f2 f _ _ _ _ _ _ _ _ _ hf2 h
  refine ⟨f + 9, ?_⟩
  obtain ⟨y, cb, hj⟩ := mq_365
  rw [n_step (st' := [.ref 49]) (pc' := 14) (lv' := [(0, .ref 49), (1, .int x1)]) (hp' := rH e g q c l) (i := .aload_n 0) (len := 1) rfl hj rfl rfl rfl]
  rw [n_get (st' := [.long (q 26)]) (pc' := 17) (lv' := [(0, .ref 49), (1, .int x1)]) (hp' := rH e g q c l) (i := .getfield 362) (len := 3) rfl hj rfl rfl rfl rfl]
  rw [n_step (st' := []) (pc' := 18) (lv' := [(2, .long (q 26)), (0, .ref 49), (1, .int x1)]) (hp' := rH e g q c l) (i := .lstore_n 2) (len := 1) rfl hj rfl rfl rfl]
  rw [n_step (st' := [.ref 49]) (pc' := 19) (lv' := [(2, .long (q 26)), (0, .ref 49), (1, .int x1)]) (hp' := rH e g q c l) (i := .aload_n 0) (len := 1) rfl hj rfl rfl rfl]
  rw [n_get (st' := [.int (g 27)]) (pc' := 22) (lv' := [(2, .long (q 26)), (0, .ref 49), (1, .int x1)]) (hp' := rH e g q c l) (i := .getfield 365) (len := 3) rfl hj rfl rfl rfl rfl]
  rw [n_step (st' := []) (pc' := 24) (lv' := [(4, .int (g 27)), (2, .long (q 26)), (0, .ref 49), (1, .int x1)]) (hp' := rH e g q c l) (i := .istore 4) (len := 2) rfl hj rfl rfl rfl]
  rw [n_step (st' := [.ref 49]) (pc' := 25) (lv' := [(4, .int (g 27)), (2, .long (q 26)), (0, .ref 49), (1, .int x1)]) (hp' := rH e g q c l) (i := .aload_n 0) (len := 1) rfl hj rfl rfl rfl]
  rw [n_step (st' := [.int (Int8.ofInt (40)).toInt32, .ref 49]) (pc' := 27) (lv' := [(4, .int (g 27)), (2, .long (q 26)), (0, .ref 49), (1, .int x1)]) (hp' := rH e g q c l) (i := .bipush 40) (len := 2) rfl hj rfl rfl rfl]
  obtain ⟨y2, cb2, hj2⟩ := mq_366
  rw [n_call (f := f) (d := d) (ki := 0) (idx := 483) (j' := 366) (kd := 0) (M' := (y2, cb2, 2, none, 12, 1, 0, 0)) (avs := [.ref 49, .int (Int8.ofInt (40)).toInt32]) (r := []) (rv := none) (hp1 := rH e g' q' c' l') rfl hj rfl rfl rfl rfl (rq_n rfl rfl hj2 rfl rfl) rfl hc (Nat.le_of_ble_eq_true rfl)]
  exact nrun_ext f f _ _ R 365 30 [(0, .ref 49), (1, .int x1), (2, .long (q 26)), (4, .int (g 27))] [(4, .int (g 27)), (2, .long (q 26)), (0, .ref 49), (1, .int x1)] [] _ 0 0 122 (Nat.le_refl _) (Nat.le_refl _) (Nat.le_of_ble_eq_true rfl) (lvR_mk [0, 1, 2, 4] [4, 2, 0, 1] rfl rfl (by decide) (by decide) (List.forall_mem_cons.mpr ⟨(List.mem_cons_of_mem _ (List.mem_cons_of_mem _ List.mem_cons_self)), (List.forall_mem_cons.mpr ⟨(List.mem_cons_of_mem _ (List.mem_cons_of_mem _ (List.mem_cons_of_mem _ List.mem_cons_self))), (List.forall_mem_cons.mpr ⟨(List.mem_cons_of_mem _ List.mem_cons_self), (List.forall_mem_cons.mpr ⟨List.mem_cons_self, (fun _ h => nomatch h)⟩)⟩)⟩)⟩) (List.forall_mem_cons.mpr ⟨Or.inl (List.mem_cons_of_mem _ (List.mem_cons_of_mem _ (List.mem_cons_of_mem _ List.mem_cons_self))), (List.forall_mem_cons.mpr ⟨Or.inl (List.mem_cons_of_mem _ (List.mem_cons_of_mem _ List.mem_cons_self)), (List.forall_mem_cons.mpr ⟨Or.inl List.mem_cons_self, (List.forall_mem_cons.mpr ⟨Or.inl (List.mem_cons_of_mem _ List.mem_cons_self), (fun _ h => nomatch h)⟩)⟩)⟩)⟩)) h
set_option maxRecDepth 100000 in
set_option maxHeartbeats 4000000 in
theorem bk_365_30 {b : Bool} {d : Nat} {x1 x4 : Int32} {x2 : Int64} {e : Nat → x_E} {g : Nat → Int32} {q : Nat → Int64} {c : Nat → Nat → Int32} {l : Nat → Nat → Int64} {g' : Nat → Int32} {q' : Nat → Int64} {c' : Nat → Nat → Int32} {l' : Nat → Nat → Int64} {R : Option Value × List x_E} (hc : rr b e d 341 0 [(0, .ref 49)] [] g q c l (none, rH e g' q' c' l')) (h : rr b e (d + 1) 365 34 [(0, .ref 49), (1, .int x1), (2, .long x2), (4, .int x4)] [] g' q' c' l' R) : rr b e (d + 1) 365 30 [(0, .ref 49), (1, .int x1), (2, .long x2), (4, .int x4)] [] g q c l R := by
  obtain ⟨f1, hc⟩ := hc
  obtain ⟨f2, h⟩ := h
  obtain ⟨f, hf1, hf2⟩ : ∃ f, f1 ≤ f ∧ f2 ≤ f := ⟨max f1 f2, Nat.le_max_left _ _, Nat.le_max_right _ _⟩
  have hc := nrun_fuel f1 f _ _ _ _ _ _ _ _ _ hf1 hc
  have h := nrun_fuel f2 f _ _ _ _ _ _ _ _ _ hf2 h
  refine ⟨f + 2, ?_⟩
  obtain ⟨y, cb, hj⟩ := mq_365
  rw [n_step (st' := [.ref 49]) (pc' := 31) (lv' := [(0, .ref 49), (1, .int x1), (2, .long x2), (4, .int x4)]) (hp' := rH e g q c l) (i := .aload_n 0) (len := 1) rfl hj rfl rfl rfl]
  obtain ⟨y2, cb2, hj2⟩ := mq_341
  rw [n_call (f := f) (d := d) (ki := 0) (idx := 411) (j' := 341) (kd := 0) (M' := (y2, cb2, 1, none, 12, 0, 0, 0)) (avs := [.ref 49]) (r := []) (rv := none) (hp1 := rH e g' q' c' l') rfl hj rfl rfl rfl rfl (rq_n rfl rfl hj2 rfl rfl) rfl hc (Nat.le_of_ble_eq_true rfl)]
  exact h
set_option maxRecDepth 100000 in
set_option maxHeartbeats 4000000 in
theorem bk_365_34 {b : Bool} {d : Nat} {x1 x4 : Int32} {x2 : Int64} {e : Nat → x_E} {g : Nat → Int32} {q : Nat → Int64} {c : Nat → Nat → Int32} {l : Nat → Nat → Int64} {g' : Nat → Int32} {q' : Nat → Int64} {c' : Nat → Nat → Int32} {l' : Nat → Nat → Int64} {R : Option Value × List x_E} (hc : rr b e d 343 0 [(0, .ref 49), (1, .int (Int8.ofInt (58)).toInt32)] [] g q c l (none, rH e g' q' c' l')) (h : rr b e (d + 1) 365 52 [(0, .ref 49), (1, .int x1), (2, .long x2), (4, .int x4), (5, .long (q 26)), (7, .int (g 27))] [] g' q' c' l' R) : rr b e (d + 1) 365 34 [(0, .ref 49), (1, .int x1), (2, .long x2), (4, .int x4)] [] g q c l R := by
  obtain ⟨f1, hc⟩ := hc
  obtain ⟨f2, h⟩ := h
  obtain ⟨f, hf1, hf2⟩ : ∃ f, f1 ≤ f ∧ f2 ≤ f := ⟨max f1 f2, Nat.le_max_left _ _, Nat.le_max_right _ _⟩
  have hc := nrun_fuel f1 f _ _ _ _ _ _ _ _ _ hf1 hc
  have h := nrun_fuel f2 f _ _ _ _ _ _ _ _ _ hf2 h
  refine ⟨f + 9, ?_⟩
  obtain ⟨y, cb, hj⟩ := mq_365
  rw [n_step (st' := [.ref 49]) (pc' := 35) (lv' := [(0, .ref 49), (1, .int x1), (2, .long x2), (4, .int x4)]) (hp' := rH e g q c l) (i := .aload_n 0) (len := 1) rfl hj rfl rfl rfl]
  rw [n_get (st' := [.long (q 26)]) (pc' := 38) (lv' := [(0, .ref 49), (1, .int x1), (2, .long x2), (4, .int x4)]) (hp' := rH e g q c l) (i := .getfield 362) (len := 3) rfl hj rfl rfl rfl rfl]
  rw [n_step (st' := []) (pc' := 40) (lv' := [(5, .long (q 26)), (0, .ref 49), (1, .int x1), (2, .long x2), (4, .int x4)]) (hp' := rH e g q c l) (i := .lstore 5) (len := 2) rfl hj rfl rfl rfl]
  rw [n_step (st' := [.ref 49]) (pc' := 41) (lv' := [(5, .long (q 26)), (0, .ref 49), (1, .int x1), (2, .long x2), (4, .int x4)]) (hp' := rH e g q c l) (i := .aload_n 0) (len := 1) rfl hj rfl rfl rfl]
  rw [n_get (st' := [.int (g 27)]) (pc' := 44) (lv' := [(5, .long (q 26)), (0, .ref 49), (1, .int x1), (2, .long x2), (4, .int x4)]) (hp' := rH e g q c l) (i := .getfield 365) (len := 3) rfl hj rfl rfl rfl rfl]
  rw [n_step (st' := []) (pc' := 46) (lv' := [(7, .int (g 27)), (5, .long (q 26)), (0, .ref 49), (1, .int x1), (2, .long x2), (4, .int x4)]) (hp' := rH e g q c l) (i := .istore 7) (len := 2) rfl hj rfl rfl rfl]
  rw [n_step (st' := [.ref 49]) (pc' := 47) (lv' := [(7, .int (g 27)), (5, .long (q 26)), (0, .ref 49), (1, .int x1), (2, .long x2), (4, .int x4)]) (hp' := rH e g q c l) (i := .aload_n 0) (len := 1) rfl hj rfl rfl rfl]
  rw [n_step (st' := [.int (Int8.ofInt (58)).toInt32, .ref 49]) (pc' := 49) (lv' := [(7, .int (g 27)), (5, .long (q 26)), (0, .ref 49), (1, .int x1), (2, .long x2), (4, .int x4)]) (hp' := rH e g q c l) (i := .bipush 58) (len := 2) rfl hj rfl rfl rfl]
  obtain ⟨y2, cb2, hj2⟩ := mq_343
  rw [n_call (f := f) (d := d) (ki := 0) (idx := 359) (j' := 343) (kd := 0) (M' := (y2, cb2, 2, none, 12, 1, 0, 0)) (avs := [.ref 49, .int (Int8.ofInt (58)).toInt32]) (r := []) (rv := none) (hp1 := rH e g' q' c' l') rfl hj rfl rfl rfl rfl (rq_n rfl rfl hj2 rfl rfl) rfl hc (Nat.le_of_ble_eq_true rfl)]
  exact nrun_ext f f _ _ R 365 52 [(0, .ref 49), (1, .int x1), (2, .long x2), (4, .int x4), (5, .long (q 26)), (7, .int (g 27))] [(7, .int (g 27)), (5, .long (q 26)), (0, .ref 49), (1, .int x1), (2, .long x2), (4, .int x4)] [] _ 0 0 122 (Nat.le_refl _) (Nat.le_refl _) (Nat.le_of_ble_eq_true rfl) (lvR_mk [0, 1, 2, 4, 5, 7] [7, 5, 0, 1, 2, 4] rfl rfl (by decide) (by decide) (List.forall_mem_cons.mpr ⟨(List.mem_cons_of_mem _ (List.mem_cons_of_mem _ List.mem_cons_self)), (List.forall_mem_cons.mpr ⟨(List.mem_cons_of_mem _ (List.mem_cons_of_mem _ (List.mem_cons_of_mem _ List.mem_cons_self))), (List.forall_mem_cons.mpr ⟨(List.mem_cons_of_mem _ (List.mem_cons_of_mem _ (List.mem_cons_of_mem _ (List.mem_cons_of_mem _ List.mem_cons_self)))), (List.forall_mem_cons.mpr ⟨(List.mem_cons_of_mem _ (List.mem_cons_of_mem _ (List.mem_cons_of_mem _ (List.mem_cons_of_mem _ (List.mem_cons_of_mem _ List.mem_cons_self))))), (List.forall_mem_cons.mpr ⟨(List.mem_cons_of_mem _ List.mem_cons_self), (List.forall_mem_cons.mpr ⟨List.mem_cons_self, (fun _ h => nomatch h)⟩)⟩)⟩)⟩)⟩)⟩) (List.forall_mem_cons.mpr ⟨Or.inl (List.mem_cons_of_mem _ (List.mem_cons_of_mem _ (List.mem_cons_of_mem _ (List.mem_cons_of_mem _ (List.mem_cons_of_mem _ List.mem_cons_self))))), (List.forall_mem_cons.mpr ⟨Or.inl (List.mem_cons_of_mem _ (List.mem_cons_of_mem _ (List.mem_cons_of_mem _ (List.mem_cons_of_mem _ List.mem_cons_self)))), (List.forall_mem_cons.mpr ⟨Or.inl List.mem_cons_self, (List.forall_mem_cons.mpr ⟨Or.inl (List.mem_cons_of_mem _ List.mem_cons_self), (List.forall_mem_cons.mpr ⟨Or.inl (List.mem_cons_of_mem _ (List.mem_cons_of_mem _ List.mem_cons_self)), (List.forall_mem_cons.mpr ⟨Or.inl (List.mem_cons_of_mem _ (List.mem_cons_of_mem _ (List.mem_cons_of_mem _ List.mem_cons_self))), (fun _ h => nomatch h)⟩)⟩)⟩)⟩)⟩)⟩)) h
set_option maxRecDepth 100000 in
set_option maxHeartbeats 4000000 in
theorem bk_365_52 {b : Bool} {d : Nat} {x1 x4 x7 : Int32} {x2 x5 : Int64} {e : Nat → x_E} {g : Nat → Int32} {q : Nat → Int64} {c : Nat → Nat → Int32} {l : Nat → Nat → Int64} {g' : Nat → Int32} {q' : Nat → Int64} {c' : Nat → Nat → Int32} {l' : Nat → Nat → Int64} {v : Int32} {R : Option Value × List x_E} (hc : rr b e d 345 0 [(0, .ref 49)] [] g q c l (some (.int v), rH e g' q' c' l')) (h : rr b e (d + 1) 365 56 [(0, .ref 49), (1, .int x1), (2, .long x2), (4, .int x4), (5, .long x5), (7, .int x7)] [.int v] g' q' c' l' R) : rr b e (d + 1) 365 52 [(0, .ref 49), (1, .int x1), (2, .long x2), (4, .int x4), (5, .long x5), (7, .int x7)] [] g q c l R := by
  obtain ⟨f1, hc⟩ := hc
  obtain ⟨f2, h⟩ := h
  obtain ⟨f, hf1, hf2⟩ : ∃ f, f1 ≤ f ∧ f2 ≤ f := ⟨max f1 f2, Nat.le_max_left _ _, Nat.le_max_right _ _⟩
  have hc := nrun_fuel f1 f _ _ _ _ _ _ _ _ _ hf1 hc
  have h := nrun_fuel f2 f _ _ _ _ _ _ _ _ _ hf2 h
  refine ⟨f + 2, ?_⟩
  obtain ⟨y, cb, hj⟩ := mq_365
  rw [n_step (st' := [.ref 49]) (pc' := 53) (lv' := [(0, .ref 49), (1, .int x1), (2, .long x2), (4, .int x4), (5, .long x5), (7, .int x7)]) (hp' := rH e g q c l) (i := .aload_n 0) (len := 1) rfl hj rfl rfl rfl]
  obtain ⟨y2, cb2, hj2⟩ := mq_345
  rw [n_call (f := f) (d := d) (ki := 0) (idx := 460) (j' := 345) (kd := 0) (M' := (y2, cb2, 2, some .int, 12, 0, 0, 0)) (avs := [.ref 49]) (r := []) (rv := some (.int v)) (hp1 := rH e g' q' c' l') rfl hj rfl rfl rfl rfl (rq_n rfl rfl hj2 rfl rfl) rfl hc (Nat.le_of_ble_eq_true rfl)]
  exact h
set_option maxRecDepth 100000 in
set_option maxHeartbeats 4000000 in
theorem bk_365_56 {b : Bool} {d : Nat} {t0 x1 x4 x7 : Int32} {x2 x5 : Int64} {e : Nat → x_E} {g : Nat → Int32} {q : Nat → Int64} {c : Nat → Nat → Int32} {l : Nat → Nat → Int64} {g' : Nat → Int32} {q' : Nat → Int64} {c' : Nat → Nat → Int32} {l' : Nat → Nat → Int64} {R : Option Value × List x_E} (hc : rr b e d 353 0 [(0, .ref 49), (1, .int (Int8.ofInt (41)).toInt32)] [] g q c l (none, rH e g' q' c' l')) (h : rr b e (d + 1) 365 64 [(0, .ref 49), (1, .int x1), (2, .long x2), (4, .int x4), (5, .long x5), (7, .int x7), (8, .int t0)] [] g' q' c' l' R) : rr b e (d + 1) 365 56 [(0, .ref 49), (1, .int x1), (2, .long x2), (4, .int x4), (5, .long x5), (7, .int x7)] [.int t0] g q c l R := by
  obtain ⟨f1, hc⟩ := hc
  obtain ⟨f2, h⟩ := h
  obtain ⟨f, hf1, hf2⟩ : ∃ f, f1 ≤ f ∧ f2 ≤ f := ⟨max f1 f2, Nat.le_max_left _ _, Nat.le_max_right _ _⟩
  have hc := nrun_fuel f1 f _ _ _ _ _ _ _ _ _ hf1 hc
  have h := nrun_fuel f2 f _ _ _ _ _ _ _ _ _ hf2 h
  refine ⟨f + 4, ?_⟩
  obtain ⟨y, cb, hj⟩ := mq_365
  rw [n_step (st' := []) (pc' := 58) (lv' := [(8, .int t0), (0, .ref 49), (1, .int x1), (2, .long x2), (4, .int x4), (5, .long x5), (7, .int x7)]) (hp' := rH e g q c l) (i := .istore 8) (len := 2) rfl hj rfl rfl rfl]
  rw [n_step (st' := [.ref 49]) (pc' := 59) (lv' := [(8, .int t0), (0, .ref 49), (1, .int x1), (2, .long x2), (4, .int x4), (5, .long x5), (7, .int x7)]) (hp' := rH e g q c l) (i := .aload_n 0) (len := 1) rfl hj rfl rfl rfl]
  rw [n_step (st' := [.int (Int8.ofInt (41)).toInt32, .ref 49]) (pc' := 61) (lv' := [(8, .int t0), (0, .ref 49), (1, .int x1), (2, .long x2), (4, .int x4), (5, .long x5), (7, .int x7)]) (hp' := rH e g q c l) (i := .bipush 41) (len := 2) rfl hj rfl rfl rfl]
  obtain ⟨y2, cb2, hj2⟩ := mq_353
  rw [n_call (f := f) (d := d) (ki := 0) (idx := 424) (j' := 353) (kd := 0) (M' := (y2, cb2, 2, none, 12, 1, 0, 0)) (avs := [.ref 49, .int (Int8.ofInt (41)).toInt32]) (r := []) (rv := none) (hp1 := rH e g' q' c' l') rfl hj rfl rfl rfl rfl (rq_n rfl rfl hj2 rfl rfl) rfl hc (Nat.le_of_ble_eq_true rfl)]
  exact nrun_ext f f _ _ R 365 64 [(0, .ref 49), (1, .int x1), (2, .long x2), (4, .int x4), (5, .long x5), (7, .int x7), (8, .int t0)] [(8, .int t0), (0, .ref 49), (1, .int x1), (2, .long x2), (4, .int x4), (5, .long x5), (7, .int x7)] [] _ 0 0 122 (Nat.le_refl _) (Nat.le_refl _) (Nat.le_of_ble_eq_true rfl) (lvR_mk [0, 1, 2, 4, 5, 7, 8] [8, 0, 1, 2, 4, 5, 7] rfl rfl (by decide) (by decide) (List.forall_mem_cons.mpr ⟨(List.mem_cons_of_mem _ List.mem_cons_self), (List.forall_mem_cons.mpr ⟨(List.mem_cons_of_mem _ (List.mem_cons_of_mem _ List.mem_cons_self)), (List.forall_mem_cons.mpr ⟨(List.mem_cons_of_mem _ (List.mem_cons_of_mem _ (List.mem_cons_of_mem _ List.mem_cons_self))), (List.forall_mem_cons.mpr ⟨(List.mem_cons_of_mem _ (List.mem_cons_of_mem _ (List.mem_cons_of_mem _ (List.mem_cons_of_mem _ List.mem_cons_self)))), (List.forall_mem_cons.mpr ⟨(List.mem_cons_of_mem _ (List.mem_cons_of_mem _ (List.mem_cons_of_mem _ (List.mem_cons_of_mem _ (List.mem_cons_of_mem _ List.mem_cons_self))))), (List.forall_mem_cons.mpr ⟨(List.mem_cons_of_mem _ (List.mem_cons_of_mem _ (List.mem_cons_of_mem _ (List.mem_cons_of_mem _ (List.mem_cons_of_mem _ (List.mem_cons_of_mem _ List.mem_cons_self)))))), (List.forall_mem_cons.mpr ⟨List.mem_cons_self, (fun _ h => nomatch h)⟩)⟩)⟩)⟩)⟩)⟩)⟩) (List.forall_mem_cons.mpr ⟨Or.inl (List.mem_cons_of_mem _ (List.mem_cons_of_mem _ (List.mem_cons_of_mem _ (List.mem_cons_of_mem _ (List.mem_cons_of_mem _ (List.mem_cons_of_mem _ List.mem_cons_self)))))), (List.forall_mem_cons.mpr ⟨Or.inl List.mem_cons_self, (List.forall_mem_cons.mpr ⟨Or.inl (List.mem_cons_of_mem _ List.mem_cons_self), (List.forall_mem_cons.mpr ⟨Or.inl (List.mem_cons_of_mem _ (List.mem_cons_of_mem _ List.mem_cons_self)), (List.forall_mem_cons.mpr ⟨Or.inl (List.mem_cons_of_mem _ (List.mem_cons_of_mem _ (List.mem_cons_of_mem _ List.mem_cons_self))), (List.forall_mem_cons.mpr ⟨Or.inl (List.mem_cons_of_mem _ (List.mem_cons_of_mem _ (List.mem_cons_of_mem _ (List.mem_cons_of_mem _ List.mem_cons_self)))), (List.forall_mem_cons.mpr ⟨Or.inl (List.mem_cons_of_mem _ (List.mem_cons_of_mem _ (List.mem_cons_of_mem _ (List.mem_cons_of_mem _ (List.mem_cons_of_mem _ List.mem_cons_self))))), (fun _ h => nomatch h)⟩)⟩)⟩)⟩)⟩)⟩)⟩)) h
set_option maxRecDepth 100000 in
set_option maxHeartbeats 4000000 in
theorem bk_365_64 {b : Bool} {d : Nat} {x1 x4 x7 x8 : Int32} {x2 x5 : Int64} {e : Nat → x_E} {g : Nat → Int32} {q : Nat → Int64} {c : Nat → Nat → Int32} {l : Nat → Nat → Int64} {g' : Nat → Int32} {q' : Nat → Int64} {c' : Nat → Nat → Int32} {l' : Nat → Nat → Int64} {R : Option Value × List x_E} (hc : rr b e d 343 0 [(0, .ref 49), (1, .int (Int8.ofInt (58)).toInt32)] [] g q c l (none, rH e g' q' c' l')) (h : rr b e (d + 1) 365 70 [(0, .ref 49), (1, .int x1), (2, .long x2), (4, .int x4), (5, .long x5), (7, .int x7), (8, .int x8)] [] g' q' c' l' R) : rr b e (d + 1) 365 64 [(0, .ref 49), (1, .int x1), (2, .long x2), (4, .int x4), (5, .long x5), (7, .int x7), (8, .int x8)] [] g q c l R := by
  obtain ⟨f1, hc⟩ := hc
  obtain ⟨f2, h⟩ := h
  obtain ⟨f, hf1, hf2⟩ : ∃ f, f1 ≤ f ∧ f2 ≤ f := ⟨max f1 f2, Nat.le_max_left _ _, Nat.le_max_right _ _⟩
  have hc := nrun_fuel f1 f _ _ _ _ _ _ _ _ _ hf1 hc
  have h := nrun_fuel f2 f _ _ _ _ _ _ _ _ _ hf2 h
  refine ⟨f + 3, ?_⟩
  obtain ⟨y, cb, hj⟩ := mq_365
  rw [n_step (st' := [.ref 49]) (pc' := 65) (lv' := [(0, .ref 49), (1, .int x1), (2, .long x2), (4, .int x4), (5, .long x5), (7, .int x7), (8, .int x8)]) (hp' := rH e g q c l) (i := .aload_n 0) (len := 1) rfl hj rfl rfl rfl]
  rw [n_step (st' := [.int (Int8.ofInt (58)).toInt32, .ref 49]) (pc' := 67) (lv' := [(0, .ref 49), (1, .int x1), (2, .long x2), (4, .int x4), (5, .long x5), (7, .int x7), (8, .int x8)]) (hp' := rH e g q c l) (i := .bipush 58) (len := 2) rfl hj rfl rfl rfl]
  obtain ⟨y2, cb2, hj2⟩ := mq_343
  rw [n_call (f := f) (d := d) (ki := 0) (idx := 359) (j' := 343) (kd := 0) (M' := (y2, cb2, 2, none, 12, 1, 0, 0)) (avs := [.ref 49, .int (Int8.ofInt (58)).toInt32]) (r := []) (rv := none) (hp1 := rH e g' q' c' l') rfl hj rfl rfl rfl rfl (rq_n rfl rfl hj2 rfl rfl) rfl hc (Nat.le_of_ble_eq_true rfl)]
  exact h
set_option maxRecDepth 100000 in
set_option maxHeartbeats 4000000 in
theorem bk_365_70 {b : Bool} {d : Nat} {x1 x4 x7 x8 : Int32} {x2 x5 : Int64} {e : Nat → x_E} {g : Nat → Int32} {q : Nat → Int64} {c : Nat → Nat → Int32} {l : Nat → Nat → Int64} {g' : Nat → Int32} {q' : Nat → Int64} {c' : Nat → Nat → Int32} {l' : Nat → Nat → Int64} {v : Int32} {R : Option Value × List x_E} (hc : rr b e d 345 0 [(0, .ref 49)] [] g q c l (some (.int v), rH e g' q' c' l')) (h : rr b e (d + 1) 365 74 [(0, .ref 49), (1, .int x1), (2, .long x2), (4, .int x4), (5, .long x5), (7, .int x7), (8, .int x8)] [.int v] g' q' c' l' R) : rr b e (d + 1) 365 70 [(0, .ref 49), (1, .int x1), (2, .long x2), (4, .int x4), (5, .long x5), (7, .int x7), (8, .int x8)] [] g q c l R := by
  obtain ⟨f1, hc⟩ := hc
  obtain ⟨f2, h⟩ := h
  obtain ⟨f, hf1, hf2⟩ : ∃ f, f1 ≤ f ∧ f2 ≤ f := ⟨max f1 f2, Nat.le_max_left _ _, Nat.le_max_right _ _⟩
  have hc := nrun_fuel f1 f _ _ _ _ _ _ _ _ _ hf1 hc
  have h := nrun_fuel f2 f _ _ _ _ _ _ _ _ _ hf2 h
  refine ⟨f + 2, ?_⟩
  obtain ⟨y, cb, hj⟩ := mq_365
  rw [n_step (st' := [.ref 49]) (pc' := 71) (lv' := [(0, .ref 49), (1, .int x1), (2, .long x2), (4, .int x4), (5, .long x5), (7, .int x7), (8, .int x8)]) (hp' := rH e g q c l) (i := .aload_n 0) (len := 1) rfl hj rfl rfl rfl]
  obtain ⟨y2, cb2, hj2⟩ := mq_345
  rw [n_call (f := f) (d := d) (ki := 0) (idx := 460) (j' := 345) (kd := 0) (M' := (y2, cb2, 2, some .int, 12, 0, 0, 0)) (avs := [.ref 49]) (r := []) (rv := some (.int v)) (hp1 := rH e g' q' c' l') rfl hj rfl rfl rfl rfl (rq_n rfl rfl hj2 rfl rfl) rfl hc (Nat.le_of_ble_eq_true rfl)]
  exact h
set_option maxRecDepth 100000 in
set_option maxHeartbeats 4000000 in
theorem bk_365_74 {b : Bool} {d : Nat} {t0 x1 x4 x7 x8 : Int32} {x2 x5 : Int64} {e : Nat → x_E} {g : Nat → Int32} {q : Nat → Int64} {c : Nat → Nat → Int32} {l : Nat → Nat → Int64} {g' : Nat → Int32} {q' : Nat → Int64} {c' : Nat → Nat → Int32} {l' : Nat → Nat → Int64} {R : Option Value × List x_E} (hc : rr b e d 343 0 [(0, .ref 49), (1, .int (Int8.ofInt (46)).toInt32)] [] g q c l (none, rH e g' q' c' l')) (h : rr b e (d + 1) 365 82 [(0, .ref 49), (1, .int x1), (2, .long x2), (4, .int x4), (5, .long x5), (7, .int x7), (8, .int x8), (9, .int t0)] [] g' q' c' l' R) : rr b e (d + 1) 365 74 [(0, .ref 49), (1, .int x1), (2, .long x2), (4, .int x4), (5, .long x5), (7, .int x7), (8, .int x8)] [.int t0] g q c l R := by
  obtain ⟨f1, hc⟩ := hc
  obtain ⟨f2, h⟩ := h
  obtain ⟨f, hf1, hf2⟩ : ∃ f, f1 ≤ f ∧ f2 ≤ f := ⟨max f1 f2, Nat.le_max_left _ _, Nat.le_max_right _ _⟩
  have hc := nrun_fuel f1 f _ _ _ _ _ _ _ _ _ hf1 hc
  have h := nrun_fuel f2 f _ _ _ _ _ _ _ _ _ hf2 h
  refine ⟨f + 4, ?_⟩
  obtain ⟨y, cb, hj⟩ := mq_365
  rw [n_step (st' := []) (pc' := 76) (lv' := [(9, .int t0), (0, .ref 49), (1, .int x1), (2, .long x2), (4, .int x4), (5, .long x5), (7, .int x7), (8, .int x8)]) (hp' := rH e g q c l) (i := .istore 9) (len := 2) rfl hj rfl rfl rfl]
  rw [n_step (st' := [.ref 49]) (pc' := 77) (lv' := [(9, .int t0), (0, .ref 49), (1, .int x1), (2, .long x2), (4, .int x4), (5, .long x5), (7, .int x7), (8, .int x8)]) (hp' := rH e g q c l) (i := .aload_n 0) (len := 1) rfl hj rfl rfl rfl]
  rw [n_step (st' := [.int (Int8.ofInt (46)).toInt32, .ref 49]) (pc' := 79) (lv' := [(9, .int t0), (0, .ref 49), (1, .int x1), (2, .long x2), (4, .int x4), (5, .long x5), (7, .int x7), (8, .int x8)]) (hp' := rH e g q c l) (i := .bipush 46) (len := 2) rfl hj rfl rfl rfl]
  obtain ⟨y2, cb2, hj2⟩ := mq_343
  rw [n_call (f := f) (d := d) (ki := 0) (idx := 359) (j' := 343) (kd := 0) (M' := (y2, cb2, 2, none, 12, 1, 0, 0)) (avs := [.ref 49, .int (Int8.ofInt (46)).toInt32]) (r := []) (rv := none) (hp1 := rH e g' q' c' l') rfl hj rfl rfl rfl rfl (rq_n rfl rfl hj2 rfl rfl) rfl hc (Nat.le_of_ble_eq_true rfl)]
  exact nrun_ext f f _ _ R 365 82 [(0, .ref 49), (1, .int x1), (2, .long x2), (4, .int x4), (5, .long x5), (7, .int x7), (8, .int x8), (9, .int t0)] [(9, .int t0), (0, .ref 49), (1, .int x1), (2, .long x2), (4, .int x4), (5, .long x5), (7, .int x7), (8, .int x8)] [] _ 0 0 122 (Nat.le_refl _) (Nat.le_refl _) (Nat.le_of_ble_eq_true rfl) (lvR_mk [0, 1, 2, 4, 5, 7, 8, 9] [9, 0, 1, 2, 4, 5, 7, 8] rfl rfl (by decide) (by decide) (List.forall_mem_cons.mpr ⟨(List.mem_cons_of_mem _ List.mem_cons_self), (List.forall_mem_cons.mpr ⟨(List.mem_cons_of_mem _ (List.mem_cons_of_mem _ List.mem_cons_self)), (List.forall_mem_cons.mpr ⟨(List.mem_cons_of_mem _ (List.mem_cons_of_mem _ (List.mem_cons_of_mem _ List.mem_cons_self))), (List.forall_mem_cons.mpr ⟨(List.mem_cons_of_mem _ (List.mem_cons_of_mem _ (List.mem_cons_of_mem _ (List.mem_cons_of_mem _ List.mem_cons_self)))), (List.forall_mem_cons.mpr ⟨(List.mem_cons_of_mem _ (List.mem_cons_of_mem _ (List.mem_cons_of_mem _ (List.mem_cons_of_mem _ (List.mem_cons_of_mem _ List.mem_cons_self))))), (List.forall_mem_cons.mpr ⟨(List.mem_cons_of_mem _ (List.mem_cons_of_mem _ (List.mem_cons_of_mem _ (List.mem_cons_of_mem _ (List.mem_cons_of_mem _ (List.mem_cons_of_mem _ List.mem_cons_self)))))), (List.forall_mem_cons.mpr ⟨(List.mem_cons_of_mem _ (List.mem_cons_of_mem _ (List.mem_cons_of_mem _ (List.mem_cons_of_mem _ (List.mem_cons_of_mem _ (List.mem_cons_of_mem _ (List.mem_cons_of_mem _ List.mem_cons_self))))))), (List.forall_mem_cons.mpr ⟨List.mem_cons_self, (fun _ h => nomatch h)⟩)⟩)⟩)⟩)⟩)⟩)⟩)⟩) (List.forall_mem_cons.mpr ⟨Or.inl (List.mem_cons_of_mem _ (List.mem_cons_of_mem _ (List.mem_cons_of_mem _ (List.mem_cons_of_mem _ (List.mem_cons_of_mem _ (List.mem_cons_of_mem _ (List.mem_cons_of_mem _ List.mem_cons_self))))))), (List.forall_mem_cons.mpr ⟨Or.inl List.mem_cons_self, (List.forall_mem_cons.mpr ⟨Or.inl (List.mem_cons_of_mem _ List.mem_cons_self), (List.forall_mem_cons.mpr ⟨Or.inl (List.mem_cons_of_mem _ (List.mem_cons_of_mem _ List.mem_cons_self)), (List.forall_mem_cons.mpr ⟨Or.inl (List.mem_cons_of_mem _ (List.mem_cons_of_mem _ (List.mem_cons_of_mem _ List.mem_cons_self))), (List.forall_mem_cons.mpr ⟨Or.inl (List.mem_cons_of_mem _ (List.mem_cons_of_mem _ (List.mem_cons_of_mem _ (List.mem_cons_of_mem _ List.mem_cons_self)))), (List.forall_mem_cons.mpr ⟨Or.inl (List.mem_cons_of_mem _ (List.mem_cons_of_mem _ (List.mem_cons_of_mem _ (List.mem_cons_of_mem _ (List.mem_cons_of_mem _ List.mem_cons_self))))), (List.forall_mem_cons.mpr ⟨Or.inl (List.mem_cons_of_mem _ (List.mem_cons_of_mem _ (List.mem_cons_of_mem _ (List.mem_cons_of_mem _ (List.mem_cons_of_mem _ (List.mem_cons_of_mem _ List.mem_cons_self)))))), (fun _ h => nomatch h)⟩)⟩)⟩)⟩)⟩)⟩)⟩)⟩)) h
set_option maxRecDepth 100000 in
set_option maxHeartbeats 4000000 in
theorem bk_365_82 {b : Bool} {d : Nat} {x1 x4 x7 x8 x9 : Int32} {x2 x5 : Int64} {e : Nat → x_E} {g : Nat → Int32} {q : Nat → Int64} {c : Nat → Nat → Int32} {l : Nat → Nat → Int64} {g' : Nat → Int32} {q' : Nat → Int64} {c' : Nat → Nat → Int32} {l' : Nat → Nat → Int64} {v : Int32} {R : Option Value × List x_E} (hc : rr b e d 354 0 [(0, .ref 49), (1, .int (Int32.ofInt (2)))] [] g q c l (some (.int v), rH e g' q' c' l')) (h : rr b e (d + 1) 365 87 [(0, .ref 49), (1, .int x1), (2, .long x2), (4, .int x4), (5, .long x5), (7, .int x7), (8, .int x8), (9, .int x9)] [.int v] g' q' c' l' R) : rr b e (d + 1) 365 82 [(0, .ref 49), (1, .int x1), (2, .long x2), (4, .int x4), (5, .long x5), (7, .int x7), (8, .int x8), (9, .int x9)] [] g q c l R := by
  obtain ⟨f1, hc⟩ := hc
  obtain ⟨f2, h⟩ := h
  obtain ⟨f, hf1, hf2⟩ : ∃ f, f1 ≤ f ∧ f2 ≤ f := ⟨max f1 f2, Nat.le_max_left _ _, Nat.le_max_right _ _⟩
  have hc := nrun_fuel f1 f _ _ _ _ _ _ _ _ _ hf1 hc
  have h := nrun_fuel f2 f _ _ _ _ _ _ _ _ _ hf2 h
  refine ⟨f + 3, ?_⟩
  obtain ⟨y, cb, hj⟩ := mq_365
  rw [n_step (st' := [.ref 49]) (pc' := 83) (lv' := [(0, .ref 49), (1, .int x1), (2, .long x2), (4, .int x4), (5, .long x5), (7, .int x7), (8, .int x8), (9, .int x9)]) (hp' := rH e g q c l) (i := .aload_n 0) (len := 1) rfl hj rfl rfl rfl]
  rw [n_step (st' := [.int (Int32.ofInt (2)), .ref 49]) (pc' := 84) (lv' := [(0, .ref 49), (1, .int x1), (2, .long x2), (4, .int x4), (5, .long x5), (7, .int x7), (8, .int x8), (9, .int x9)]) (hp' := rH e g q c l) (i := .iconst 2) (len := 1) rfl hj rfl rfl rfl]
  obtain ⟨y2, cb2, hj2⟩ := mq_354
  rw [n_call (f := f) (d := d) (ki := 0) (idx := 463) (j' := 354) (kd := 0) (M' := (y2, cb2, 4, some .int, 12, 1, 0, 0)) (avs := [.ref 49, .int (Int32.ofInt (2))]) (r := []) (rv := some (.int v)) (hp1 := rH e g' q' c' l') rfl hj rfl rfl rfl rfl (rq_n rfl rfl hj2 rfl rfl) rfl hc (Nat.le_of_ble_eq_true rfl)]
  exact h
set_option maxRecDepth 100000 in
set_option maxHeartbeats 4000000 in
theorem bk_365_87 {b : Bool} {d : Nat} {t0 x1 x4 x7 x8 x9 : Int32} {x2 x5 : Int64} {e : Nat → x_E} {g : Nat → Int32} {q : Nat → Int64} {c : Nat → Nat → Int32} {l : Nat → Nat → Int64} {R : Option Value × List x_E} (h1 : xCn .lt x8 0 = true → rr b e d 365 103 [(0, .ref 49), (1, .int x1), (5, .long x5), (7, .int x7), (8, .int x8), (9, .int x9), (10, .int t0)] [.int x4, .long x2, .ref 49] g q c l R) (h2 : ¬ xCn .lt x8 0 = true → rr b e d 365 98 [(0, .ref 49), (1, .int x1), (5, .long x5), (7, .int x7), (8, .int x8), (9, .int x9), (10, .int t0)] [.int x4, .long x2, .ref 49] g q c l R) : rr b e d 365 87 [(0, .ref 49), (1, .int x1), (2, .long x2), (4, .int x4), (5, .long x5), (7, .int x7), (8, .int x8), (9, .int x9)] [.int t0] g q c l R := by
  have key : ∀ f, nrun xZ (xY (xfm b)) xDT (f + 6) d 365 87 [(0, .ref 49), (1, .int x1), (2, .long x2), (4, .int x4), (5, .long x5), (7, .int x7), (8, .int x8), (9, .int x9)] [.int t0] (rH e g q c l) 0 0 = nrun xZ (xY (xfm b)) xDT f d 365 (if xCn .lt x8 0 = true then 103 else 98) [(10, .int t0), (0, .ref 49), (1, .int x1), (2, .long x2), (4, .int x4), (5, .long x5), (7, .int x7), (8, .int x8), (9, .int x9)] [.int x4, .long x2, .ref 49] (rH e g q c l) 0 0 := by
    intro f
    obtain ⟨y, cb, hj⟩ := mq_365
    rw [n_step (st' := []) (pc' := 89) (lv' := [(10, .int t0), (0, .ref 49), (1, .int x1), (2, .long x2), (4, .int x4), (5, .long x5), (7, .int x7), (8, .int x8), (9, .int x9)]) (hp' := rH e g q c l) (i := .istore 10) (len := 2) rfl hj rfl rfl rfl]
    rw [n_step (st' := [.ref 49]) (pc' := 90) (lv' := [(10, .int t0), (0, .ref 49), (1, .int x1), (2, .long x2), (4, .int x4), (5, .long x5), (7, .int x7), (8, .int x8), (9, .int x9)]) (hp' := rH e g q c l) (i := .aload_n 0) (len := 1) rfl hj rfl rfl rfl]
    rw [n_step (st' := [.long x2, .ref 49]) (pc' := 91) (lv' := [(10, .int t0), (0, .ref 49), (1, .int x1), (2, .long x2), (4, .int x4), (5, .long x5), (7, .int x7), (8, .int x8), (9, .int x9)]) (hp' := rH e g q c l) (i := .lload_n 2) (len := 1) rfl hj rfl rfl rfl]
    rw [n_step (st' := [.int x4, .long x2, .ref 49]) (pc' := 93) (lv' := [(10, .int t0), (0, .ref 49), (1, .int x1), (2, .long x2), (4, .int x4), (5, .long x5), (7, .int x7), (8, .int x8), (9, .int x9)]) (hp' := rH e g q c l) (i := .iload 4) (len := 2) rfl hj rfl rfl rfl]
    rw [n_step (st' := [.int x8, .int x4, .long x2, .ref 49]) (pc' := 95) (lv' := [(10, .int t0), (0, .ref 49), (1, .int x1), (2, .long x2), (4, .int x4), (5, .long x5), (7, .int x7), (8, .int x8), (9, .int x9)]) (hp' := rH e g q c l) (i := .iload 8) (len := 2) rfl hj rfl rfl rfl]
    rw [n_step (st' := [.int x4, .long x2, .ref 49]) (pc' := (if xCn .lt x8 0 = true then 103 else 98)) (lv' := [(10, .int t0), (0, .ref 49), (1, .int x1), (2, .long x2), (4, .int x4), (5, .long x5), (7, .int x7), (8, .int x8), (9, .int x9)]) (hp' := rH e g q c l) (i := .ifCond .lt 8) (len := 3) rfl hj rfl rfl rfl]
  by_cases hc : xCn .lt x8 0 = true
  · obtain ⟨f, h⟩ := h1 hc
    refine ⟨f + 6, ?_⟩
    rw [key, if_pos hc]
    exact nrun_ext f f _ _ R 365 103 [(0, .ref 49), (1, .int x1), (5, .long x5), (7, .int x7), (8, .int x8), (9, .int x9), (10, .int t0)] [(10, .int t0), (0, .ref 49), (1, .int x1), (2, .long x2), (4, .int x4), (5, .long x5), (7, .int x7), (8, .int x8), (9, .int x9)] [.int x4, .long x2, .ref 49] _ 0 0 122 (Nat.le_refl _) (Nat.le_refl _) (Nat.le_of_ble_eq_true rfl) (lvR_mk [0, 1, 5, 7, 8, 9, 10] [10, 0, 1, 2, 4, 5, 7, 8, 9] rfl rfl (by decide) (by decide) (List.forall_mem_cons.mpr ⟨(List.mem_cons_of_mem _ List.mem_cons_self), (List.forall_mem_cons.mpr ⟨(List.mem_cons_of_mem _ (List.mem_cons_of_mem _ List.mem_cons_self)), (List.forall_mem_cons.mpr ⟨(List.mem_cons_of_mem _ (List.mem_cons_of_mem _ (List.mem_cons_of_mem _ (List.mem_cons_of_mem _ (List.mem_cons_of_mem _ List.mem_cons_self))))), (List.forall_mem_cons.mpr ⟨(List.mem_cons_of_mem _ (List.mem_cons_of_mem _ (List.mem_cons_of_mem _ (List.mem_cons_of_mem _ (List.mem_cons_of_mem _ (List.mem_cons_of_mem _ List.mem_cons_self)))))), (List.forall_mem_cons.mpr ⟨(List.mem_cons_of_mem _ (List.mem_cons_of_mem _ (List.mem_cons_of_mem _ (List.mem_cons_of_mem _ (List.mem_cons_of_mem _ (List.mem_cons_of_mem _ (List.mem_cons_of_mem _ List.mem_cons_self))))))), (List.forall_mem_cons.mpr ⟨(List.mem_cons_of_mem _ (List.mem_cons_of_mem _ (List.mem_cons_of_mem _ (List.mem_cons_of_mem _ (List.mem_cons_of_mem _ (List.mem_cons_of_mem _ (List.mem_cons_of_mem _ (List.mem_cons_of_mem _ List.mem_cons_self)))))))), (List.forall_mem_cons.mpr ⟨List.mem_cons_self, (fun _ h => nomatch h)⟩)⟩)⟩)⟩)⟩)⟩)⟩) (List.forall_mem_cons.mpr ⟨Or.inl (List.mem_cons_of_mem _ (List.mem_cons_of_mem _ (List.mem_cons_of_mem _ (List.mem_cons_of_mem _ (List.mem_cons_of_mem _ (List.mem_cons_of_mem _ List.mem_cons_self)))))), (List.forall_mem_cons.mpr ⟨Or.inl List.mem_cons_self, (List.forall_mem_cons.mpr ⟨Or.inl (List.mem_cons_of_mem _ List.mem_cons_self), (List.forall_mem_cons.mpr ⟨Or.inr rfl, (List.forall_mem_cons.mpr ⟨Or.inr rfl, (List.forall_mem_cons.mpr ⟨Or.inl (List.mem_cons_of_mem _ (List.mem_cons_of_mem _ List.mem_cons_self)), (List.forall_mem_cons.mpr ⟨Or.inl (List.mem_cons_of_mem _ (List.mem_cons_of_mem _ (List.mem_cons_of_mem _ List.mem_cons_self))), (List.forall_mem_cons.mpr ⟨Or.inl (List.mem_cons_of_mem _ (List.mem_cons_of_mem _ (List.mem_cons_of_mem _ (List.mem_cons_of_mem _ List.mem_cons_self)))), (List.forall_mem_cons.mpr ⟨Or.inl (List.mem_cons_of_mem _ (List.mem_cons_of_mem _ (List.mem_cons_of_mem _ (List.mem_cons_of_mem _ (List.mem_cons_of_mem _ List.mem_cons_self))))), (fun _ h => nomatch h)⟩)⟩)⟩)⟩)⟩)⟩)⟩)⟩)⟩)) h
  · obtain ⟨f, h⟩ := h2 hc
    refine ⟨f + 6, ?_⟩
    rw [key, if_neg hc]
    exact nrun_ext f f _ _ R 365 98 [(0, .ref 49), (1, .int x1), (5, .long x5), (7, .int x7), (8, .int x8), (9, .int x9), (10, .int t0)] [(10, .int t0), (0, .ref 49), (1, .int x1), (2, .long x2), (4, .int x4), (5, .long x5), (7, .int x7), (8, .int x8), (9, .int x9)] [.int x4, .long x2, .ref 49] _ 0 0 122 (Nat.le_refl _) (Nat.le_refl _) (Nat.le_of_ble_eq_true rfl) (lvR_mk [0, 1, 5, 7, 8, 9, 10] [10, 0, 1, 2, 4, 5, 7, 8, 9] rfl rfl (by decide) (by decide) (List.forall_mem_cons.mpr ⟨(List.mem_cons_of_mem _ List.mem_cons_self), (List.forall_mem_cons.mpr ⟨(List.mem_cons_of_mem _ (List.mem_cons_of_mem _ List.mem_cons_self)), (List.forall_mem_cons.mpr ⟨(List.mem_cons_of_mem _ (List.mem_cons_of_mem _ (List.mem_cons_of_mem _ (List.mem_cons_of_mem _ (List.mem_cons_of_mem _ List.mem_cons_self))))), (List.forall_mem_cons.mpr ⟨(List.mem_cons_of_mem _ (List.mem_cons_of_mem _ (List.mem_cons_of_mem _ (List.mem_cons_of_mem _ (List.mem_cons_of_mem _ (List.mem_cons_of_mem _ List.mem_cons_self)))))), (List.forall_mem_cons.mpr ⟨(List.mem_cons_of_mem _ (List.mem_cons_of_mem _ (List.mem_cons_of_mem _ (List.mem_cons_of_mem _ (List.mem_cons_of_mem _ (List.mem_cons_of_mem _ (List.mem_cons_of_mem _ List.mem_cons_self))))))), (List.forall_mem_cons.mpr ⟨(List.mem_cons_of_mem _ (List.mem_cons_of_mem _ (List.mem_cons_of_mem _ (List.mem_cons_of_mem _ (List.mem_cons_of_mem _ (List.mem_cons_of_mem _ (List.mem_cons_of_mem _ (List.mem_cons_of_mem _ List.mem_cons_self)))))))), (List.forall_mem_cons.mpr ⟨List.mem_cons_self, (fun _ h => nomatch h)⟩)⟩)⟩)⟩)⟩)⟩)⟩) (List.forall_mem_cons.mpr ⟨Or.inl (List.mem_cons_of_mem _ (List.mem_cons_of_mem _ (List.mem_cons_of_mem _ (List.mem_cons_of_mem _ (List.mem_cons_of_mem _ (List.mem_cons_of_mem _ List.mem_cons_self)))))), (List.forall_mem_cons.mpr ⟨Or.inl List.mem_cons_self, (List.forall_mem_cons.mpr ⟨Or.inl (List.mem_cons_of_mem _ List.mem_cons_self), (List.forall_mem_cons.mpr ⟨Or.inr rfl, (List.forall_mem_cons.mpr ⟨Or.inr rfl, (List.forall_mem_cons.mpr ⟨Or.inl (List.mem_cons_of_mem _ (List.mem_cons_of_mem _ List.mem_cons_self)), (List.forall_mem_cons.mpr ⟨Or.inl (List.mem_cons_of_mem _ (List.mem_cons_of_mem _ (List.mem_cons_of_mem _ List.mem_cons_self))), (List.forall_mem_cons.mpr ⟨Or.inl (List.mem_cons_of_mem _ (List.mem_cons_of_mem _ (List.mem_cons_of_mem _ (List.mem_cons_of_mem _ List.mem_cons_self)))), (List.forall_mem_cons.mpr ⟨Or.inl (List.mem_cons_of_mem _ (List.mem_cons_of_mem _ (List.mem_cons_of_mem _ (List.mem_cons_of_mem _ (List.mem_cons_of_mem _ List.mem_cons_self))))), (fun _ h => nomatch h)⟩)⟩)⟩)⟩)⟩)⟩)⟩)⟩)⟩)) h
set_option maxRecDepth 100000 in
set_option maxHeartbeats 4000000 in
theorem bk_365_98 {b : Bool} {d : Nat} {t0 x1 x10 x7 x8 x9 : Int32} {t1 x5 : Int64} {e : Nat → x_E} {g : Nat → Int32} {q : Nat → Int64} {c : Nat → Nat → Int32} {l : Nat → Nat → Int64} {R : Option Value × List x_E} (h1 : xCn .ge x9 0 = true → rr b e d 365 107 [(0, .ref 49), (1, .int x1), (5, .long x5), (7, .int x7), (8, .int x8), (9, .int x9), (10, .int x10)] [.int t0, .long t1, .ref 49] g q c l R) (h2 : ¬ xCn .ge x9 0 = true → rr b e d 365 103 [(0, .ref 49), (1, .int x1), (5, .long x5), (7, .int x7), (8, .int x8), (9, .int x9), (10, .int x10)] [.int t0, .long t1, .ref 49] g q c l R) : rr b e d 365 98 [(0, .ref 49), (1, .int x1), (5, .long x5), (7, .int x7), (8, .int x8), (9, .int x9), (10, .int x10)] [.int t0, .long t1, .ref 49] g q c l R := by
  have key : ∀ f, nrun xZ (xY (xfm b)) xDT (f + 2) d 365 98 [(0, .ref 49), (1, .int x1), (5, .long x5), (7, .int x7), (8, .int x8), (9, .int x9), (10, .int x10)] [.int t0, .long t1, .ref 49] (rH e g q c l) 0 0 = nrun xZ (xY (xfm b)) xDT f d 365 (if xCn .ge x9 0 = true then 107 else 103) [(0, .ref 49), (1, .int x1), (5, .long x5), (7, .int x7), (8, .int x8), (9, .int x9), (10, .int x10)] [.int t0, .long t1, .ref 49] (rH e g q c l) 0 0 := by
    intro f
    obtain ⟨y, cb, hj⟩ := mq_365
    rw [n_step (st' := [.int x9, .int t0, .long t1, .ref 49]) (pc' := 100) (lv' := [(0, .ref 49), (1, .int x1), (5, .long x5), (7, .int x7), (8, .int x8), (9, .int x9), (10, .int x10)]) (hp' := rH e g q c l) (i := .iload 9) (len := 2) rfl hj rfl rfl rfl]
    rw [n_step (st' := [.int t0, .long t1, .ref 49]) (pc' := (if xCn .ge x9 0 = true then 107 else 103)) (lv' := [(0, .ref 49), (1, .int x1), (5, .long x5), (7, .int x7), (8, .int x8), (9, .int x9), (10, .int x10)]) (hp' := rH e g q c l) (i := .ifCond .ge 7) (len := 3) rfl hj rfl rfl rfl]
  by_cases hc : xCn .ge x9 0 = true
  · obtain ⟨f, h⟩ := h1 hc
    refine ⟨f + 2, ?_⟩
    rw [key, if_pos hc]
    exact h
  · obtain ⟨f, h⟩ := h2 hc
    refine ⟨f + 2, ?_⟩
    rw [key, if_neg hc]
    exact h
set_option maxRecDepth 100000 in
set_option maxHeartbeats 4000000 in
theorem bk_365_103 {b : Bool} {d : Nat} {t0 x1 x10 x7 x8 x9 : Int32} {t1 x5 : Int64} {e : Nat → x_E} {g : Nat → Int32} {q : Nat → Int64} {c : Nat → Nat → Int32} {l : Nat → Nat → Int64} {R : Option Value × List x_E} (h : rr b e d 365 115 [(0, .ref 49), (1, .int x1), (5, .long x5), (7, .int x7), (8, .int x8), (9, .int x9), (10, .int x10)] [.int (Int32.ofInt (-1)), .int t0, .long t1, .ref 49] g q c l R) : rr b e d 365 103 [(0, .ref 49), (1, .int x1), (5, .long x5), (7, .int x7), (8, .int x8), (9, .int x9), (10, .int x10)] [.int t0, .long t1, .ref 49] g q c l R := by
  obtain ⟨f, h⟩ := h
  refine ⟨f + 2, ?_⟩
  obtain ⟨y, cb, hj⟩ := mq_365
  rw [n_step (st' := [.int (Int32.ofInt (-1)), .int t0, .long t1, .ref 49]) (pc' := 104) (lv' := [(0, .ref 49), (1, .int x1), (5, .long x5), (7, .int x7), (8, .int x8), (9, .int x9), (10, .int x10)]) (hp' := rH e g q c l) (i := .iconst (-1)) (len := 1) rfl hj rfl rfl rfl]
  rw [n_step (st' := [.int (Int32.ofInt (-1)), .int t0, .long t1, .ref 49]) (pc' := 115) (lv' := [(0, .ref 49), (1, .int x1), (5, .long x5), (7, .int x7), (8, .int x8), (9, .int x9), (10, .int x10)]) (hp' := rH e g q c l) (i := .goto 11) (len := 3) rfl hj rfl rfl rfl]
  exact h
set_option maxRecDepth 100000 in
set_option maxHeartbeats 4000000 in
theorem bk_365_107 {b : Bool} {d : Nat} {t0 x1 x10 x7 x8 x9 : Int32} {t1 x5 : Int64} {e : Nat → x_E} {g : Nat → Int32} {q : Nat → Int64} {c : Nat → Nat → Int32} {l : Nat → Nat → Int64} {g' : Nat → Int32} {q' : Nat → Int64} {c' : Nat → Nat → Int32} {l' : Nat → Nat → Int64} {v : Int32} {R : Option Value × List x_E} (hc : rr b e d 363 0 [(0, .ref 49), (1, .int x8), (2, .int x9)] [] g q c l (some (.int v), rH e g' q' c' l')) (h : rr b e (d + 1) 365 115 [(0, .ref 49), (1, .int x1), (5, .long x5), (7, .int x7), (8, .int x8), (9, .int x9), (10, .int x10)] [.int v, .int t0, .long t1, .ref 49] g' q' c' l' R) : rr b e (d + 1) 365 107 [(0, .ref 49), (1, .int x1), (5, .long x5), (7, .int x7), (8, .int x8), (9, .int x9), (10, .int x10)] [.int t0, .long t1, .ref 49] g q c l R := by
  obtain ⟨f1, hc⟩ := hc
  obtain ⟨f2, h⟩ := h
  obtain ⟨f, hf1, hf2⟩ : ∃ f, f1 ≤ f ∧ f2 ≤ f := ⟨max f1 f2, Nat.le_max_left _ _, Nat.le_max_right _ _⟩
  have hc := nrun_fuel f1 f _ _ _ _ _ _ _ _ _ hf1 hc
  have h := nrun_fuel f2 f _ _ _ _ _ _ _ _ _ hf2 h
  refine ⟨f + 4, ?_⟩
  obtain ⟨y, cb, hj⟩ := mq_365
  rw [n_step (st' := [.ref 49, .int t0, .long t1, .ref 49]) (pc' := 108) (lv' := [(0, .ref 49), (1, .int x1), (5, .long x5), (7, .int x7), (8, .int x8), (9, .int x9), (10, .int x10)]) (hp' := rH e g q c l) (i := .aload_n 0) (len := 1) rfl hj rfl rfl rfl]
  rw [n_step (st' := [.int x8, .ref 49, .int t0, .long t1, .ref 49]) (pc' := 110) (lv' := [(0, .ref 49), (1, .int x1), (5, .long x5), (7, .int x7), (8, .int x8), (9, .int x9), (10, .int x10)]) (hp' := rH e g q c l) (i := .iload 8) (len := 2) rfl hj rfl rfl rfl]
  rw [n_step (st' := [.int x9, .int x8, .ref 49, .int t0, .long t1, .ref 49]) (pc' := 112) (lv' := [(0, .ref 49), (1, .int x1), (5, .long x5), (7, .int x7), (8, .int x8), (9, .int x9), (10, .int x10)]) (hp' := rH e g q c l) (i := .iload 9) (len := 2) rfl hj rfl rfl rfl]
  obtain ⟨y2, cb2, hj2⟩ := mq_363
  rw [n_call (f := f) (d := d) (ki := 0) (idx := 479) (j' := 363) (kd := 0) (M' := (y2, cb2, 4, some .int, 12, 2, 0, 0)) (avs := [.ref 49, .int x8, .int x9]) (r := [.int t0, .long t1, .ref 49]) (rv := some (.int v)) (hp1 := rH e g' q' c' l') rfl hj rfl rfl rfl rfl (rq_n rfl rfl hj2 rfl rfl) rfl hc (Nat.le_of_ble_eq_true rfl)]
  exact h
set_option maxRecDepth 100000 in
set_option maxHeartbeats 4000000 in
theorem bk_365_115 {b : Bool} {d : Nat} {t0 t1 x1 x10 x7 x8 x9 : Int32} {t2 x5 : Int64} {e : Nat → x_E} {g : Nat → Int32} {q : Nat → Int64} {c : Nat → Nat → Int32} {l : Nat → Nat → Int64} {g' : Nat → Int32} {q' : Nat → Int64} {c' : Nat → Nat → Int32} {l' : Nat → Nat → Int64} {R : Option Value × List x_E} (hc : rr b e d 356 0 [(0, .ref 49), (1, .long t2), (3, .int t1), (4, .int t0)] [] g q c l (none, rH e g' q' c' l')) (h : rr b e (d + 1) 365 118 [(0, .ref 49), (1, .int x1), (5, .long x5), (7, .int x7), (8, .int x8), (9, .int x9), (10, .int x10)] [] g' q' c' l' R) : rr b e (d + 1) 365 115 [(0, .ref 49), (1, .int x1), (5, .long x5), (7, .int x7), (8, .int x8), (9, .int x9), (10, .int x10)] [.int t0, .int t1, .long t2, .ref 49] g q c l R := by
  obtain ⟨f1, hc⟩ := hc
  obtain ⟨f2, h⟩ := h
  obtain ⟨f, hf1, hf2⟩ : ∃ f, f1 ≤ f ∧ f2 ≤ f := ⟨max f1 f2, Nat.le_max_left _ _, Nat.le_max_right _ _⟩
  have hc := nrun_fuel f1 f _ _ _ _ _ _ _ _ _ hf1 hc
  have h := nrun_fuel f2 f _ _ _ _ _ _ _ _ _ hf2 h
  refine ⟨f + 1, ?_⟩
  obtain ⟨y, cb, hj⟩ := mq_365
  obtain ⟨y2, cb2, hj2⟩ := mq_356
  rw [n_call (f := f) (d := d) (ki := 0) (idx := 466) (j' := 356) (kd := 0) (M' := (y2, cb2, 5, none, 12, 3, 0, 0)) (avs := [.ref 49, .long t2, .int t1, .int t0]) (r := []) (rv := none) (hp1 := rH e g' q' c' l') rfl hj rfl rfl rfl rfl (rq_n rfl rfl hj2 rfl rfl) rfl hc (Nat.le_of_ble_eq_true rfl)]
  exact h
set_option maxRecDepth 100000 in
set_option maxHeartbeats 4000000 in
theorem bk_365_118 {b : Bool} {d : Nat} {x1 x10 x7 x8 x9 : Int32} {x5 : Int64} {e : Nat → x_E} {g : Nat → Int32} {q : Nat → Int64} {c : Nat → Nat → Int32} {l : Nat → Nat → Int64} {g' : Nat → Int32} {q' : Nat → Int64} {c' : Nat → Nat → Int32} {l' : Nat → Nat → Int64} {R : Option Value × List x_E} (hc : rr b e d 356 0 [(0, .ref 49), (1, .long x5), (3, .int x7), (4, .int x8)] [] g q c l (none, rH e g' q' c' l')) (h : rr b e (d + 1) 365 128 [(0, .ref 49), (1, .int x1), (8, .int x8), (9, .int x9), (10, .int x10)] [] g' q' c' l' R) : rr b e (d + 1) 365 118 [(0, .ref 49), (1, .int x1), (5, .long x5), (7, .int x7), (8, .int x8), (9, .int x9), (10, .int x10)] [] g q c l R := by
  obtain ⟨f1, hc⟩ := hc
  obtain ⟨f2, h⟩ := h
  obtain ⟨f, hf1, hf2⟩ : ∃ f, f1 ≤ f ∧ f2 ≤ f := ⟨max f1 f2, Nat.le_max_left _ _, Nat.le_max_right _ _⟩
  have hc := nrun_fuel f1 f _ _ _ _ _ _ _ _ _ hf1 hc
  have h := nrun_fuel f2 f _ _ _ _ _ _ _ _ _ hf2 h
  refine ⟨f + 5, ?_⟩
  obtain ⟨y, cb, hj⟩ := mq_365
  rw [n_step (st' := [.ref 49]) (pc' := 119) (lv' := [(0, .ref 49), (1, .int x1), (5, .long x5), (7, .int x7), (8, .int x8), (9, .int x9), (10, .int x10)]) (hp' := rH e g q c l) (i := .aload_n 0) (len := 1) rfl hj rfl rfl rfl]
  rw [n_step (st' := [.long x5, .ref 49]) (pc' := 121) (lv' := [(0, .ref 49), (1, .int x1), (5, .long x5), (7, .int x7), (8, .int x8), (9, .int x9), (10, .int x10)]) (hp' := rH e g q c l) (i := .lload 5) (len := 2) rfl hj rfl rfl rfl]
  rw [n_step (st' := [.int x7, .long x5, .ref 49]) (pc' := 123) (lv' := [(0, .ref 49), (1, .int x1), (5, .long x5), (7, .int x7), (8, .int x8), (9, .int x9), (10, .int x10)]) (hp' := rH e g q c l) (i := .iload 7) (len := 2) rfl hj rfl rfl rfl]
  rw [n_step (st' := [.int x8, .int x7, .long x5, .ref 49]) (pc' := 125) (lv' := [(0, .ref 49), (1, .int x1), (5, .long x5), (7, .int x7), (8, .int x8), (9, .int x9), (10, .int x10)]) (hp' := rH e g q c l) (i := .iload 8) (len := 2) rfl hj rfl rfl rfl]
  obtain ⟨y2, cb2, hj2⟩ := mq_356
  rw [n_call (f := f) (d := d) (ki := 0) (idx := 466) (j' := 356) (kd := 0) (M' := (y2, cb2, 5, none, 12, 3, 0, 0)) (avs := [.ref 49, .long x5, .int x7, .int x8]) (r := []) (rv := none) (hp1 := rH e g' q' c' l') rfl hj rfl rfl rfl rfl (rq_n rfl rfl hj2 rfl rfl) rfl hc (Nat.le_of_ble_eq_true rfl)]
  exact nrun_ext f f _ _ R 365 128 [(0, .ref 49), (1, .int x1), (8, .int x8), (9, .int x9), (10, .int x10)] [(0, .ref 49), (1, .int x1), (5, .long x5), (7, .int x7), (8, .int x8), (9, .int x9), (10, .int x10)] [] _ 0 0 122 (Nat.le_refl _) (Nat.le_refl _) (Nat.le_of_ble_eq_true rfl) (lvR_mk [0, 1, 8, 9, 10] [0, 1, 5, 7, 8, 9, 10] rfl rfl (by decide) (by decide) (List.forall_mem_cons.mpr ⟨List.mem_cons_self, (List.forall_mem_cons.mpr ⟨(List.mem_cons_of_mem _ List.mem_cons_self), (List.forall_mem_cons.mpr ⟨(List.mem_cons_of_mem _ (List.mem_cons_of_mem _ (List.mem_cons_of_mem _ (List.mem_cons_of_mem _ List.mem_cons_self)))), (List.forall_mem_cons.mpr ⟨(List.mem_cons_of_mem _ (List.mem_cons_of_mem _ (List.mem_cons_of_mem _ (List.mem_cons_of_mem _ (List.mem_cons_of_mem _ List.mem_cons_self))))), (List.forall_mem_cons.mpr ⟨(List.mem_cons_of_mem _ (List.mem_cons_of_mem _ (List.mem_cons_of_mem _ (List.mem_cons_of_mem _ (List.mem_cons_of_mem _ (List.mem_cons_of_mem _ List.mem_cons_self)))))), (fun _ h => nomatch h)⟩)⟩)⟩)⟩)⟩) (List.forall_mem_cons.mpr ⟨Or.inl List.mem_cons_self, (List.forall_mem_cons.mpr ⟨Or.inl (List.mem_cons_of_mem _ List.mem_cons_self), (List.forall_mem_cons.mpr ⟨Or.inr rfl, (List.forall_mem_cons.mpr ⟨Or.inr rfl, (List.forall_mem_cons.mpr ⟨Or.inl (List.mem_cons_of_mem _ (List.mem_cons_of_mem _ List.mem_cons_self)), (List.forall_mem_cons.mpr ⟨Or.inl (List.mem_cons_of_mem _ (List.mem_cons_of_mem _ (List.mem_cons_of_mem _ List.mem_cons_self))), (List.forall_mem_cons.mpr ⟨Or.inl (List.mem_cons_of_mem _ (List.mem_cons_of_mem _ (List.mem_cons_of_mem _ (List.mem_cons_of_mem _ List.mem_cons_self)))), (fun _ h => nomatch h)⟩)⟩)⟩)⟩)⟩)⟩)⟩)) h
set_option maxRecDepth 100000 in
set_option maxHeartbeats 4000000 in
theorem bk_365_128 {b : Bool} {d : Nat} {x1 x10 x8 x9 : Int32} {e : Nat → x_E} {g : Nat → Int32} {q : Nat → Int64} {c : Nat → Nat → Int32} {l : Nat → Nat → Int64} {g' : Nat → Int32} {q' : Nat → Int64} {c' : Nat → Nat → Int32} {l' : Nat → Nat → Int64} {v : Int32} {R : Option Value × List x_E} (hc : rr b e d 336 0 [(0, .ref 49)] [] g q c l (some (.int v), rH e g' q' c' l')) (h : rr b e (d + 1) 365 138 [(0, .ref 49), (1, .int x1), (8, .int x8), (9, .int x9), (10, .int x10), (11, .int (g 11))] [.int v] g' q' c' l' R) : rr b e (d + 1) 365 128 [(0, .ref 49), (1, .int x1), (8, .int x8), (9, .int x9), (10, .int x10)] [] g q c l R := by
  obtain ⟨f1, hc⟩ := hc
  obtain ⟨f2, h⟩ := h
  obtain ⟨f, hf1, hf2⟩ : ∃ f, f1 ≤ f ∧ f2 ≤ f := ⟨max f1 f2, Nat.le_max_left _ _, Nat.le_max_right _ _⟩
  have hc := nrun_fuel f1 f _ _ _ _ _ _ _ _ _ hf1 hc
  have h := nrun_fuel f2 f _ _ _ _ _ _ _ _ _ hf2 h
  refine ⟨f + 5, ?_⟩
  obtain ⟨y, cb, hj⟩ := mq_365
  rw [n_step (st' := [.ref 49]) (pc' := 129) (lv' := [(0, .ref 49), (1, .int x1), (8, .int x8), (9, .int x9), (10, .int x10)]) (hp' := rH e g q c l) (i := .aload_n 0) (len := 1) rfl hj rfl rfl rfl]
  rw [n_get (st' := [.int (g 11)]) (pc' := 132) (lv' := [(0, .ref 49), (1, .int x1), (8, .int x8), (9, .int x9), (10, .int x10)]) (hp' := rH e g q c l) (i := .getfield 257) (len := 3) rfl hj rfl rfl rfl rfl]
  rw [n_step (st' := []) (pc' := 134) (lv' := [(11, .int (g 11)), (0, .ref 49), (1, .int x1), (8, .int x8), (9, .int x9), (10, .int x10)]) (hp' := rH e g q c l) (i := .istore 11) (len := 2) rfl hj rfl rfl rfl]
  rw [n_step (st' := [.ref 49]) (pc' := 135) (lv' := [(11, .int (g 11)), (0, .ref 49), (1, .int x1), (8, .int x8), (9, .int x9), (10, .int x10)]) (hp' := rH e g q c l) (i := .aload_n 0) (len := 1) rfl hj rfl rfl rfl]
  obtain ⟨y2, cb2, hj2⟩ := mq_336
  rw [n_call (f := f) (d := d) (ki := 0) (idx := 469) (j' := 336) (kd := 0) (M' := (y2, cb2, 1, some .int, 12, 0, 0, 0)) (avs := [.ref 49]) (r := []) (rv := some (.int v)) (hp1 := rH e g' q' c' l') rfl hj rfl rfl rfl rfl (rq_n rfl rfl hj2 rfl rfl) rfl hc (Nat.le_of_ble_eq_true rfl)]
  exact nrun_ext f f _ _ R 365 138 [(0, .ref 49), (1, .int x1), (8, .int x8), (9, .int x9), (10, .int x10), (11, .int (g 11))] [(11, .int (g 11)), (0, .ref 49), (1, .int x1), (8, .int x8), (9, .int x9), (10, .int x10)] [.int v] _ 0 0 122 (Nat.le_refl _) (Nat.le_refl _) (Nat.le_of_ble_eq_true rfl) (lvR_mk [0, 1, 8, 9, 10, 11] [11, 0, 1, 8, 9, 10] rfl rfl (by decide) (by decide) (List.forall_mem_cons.mpr ⟨(List.mem_cons_of_mem _ List.mem_cons_self), (List.forall_mem_cons.mpr ⟨(List.mem_cons_of_mem _ (List.mem_cons_of_mem _ List.mem_cons_self)), (List.forall_mem_cons.mpr ⟨(List.mem_cons_of_mem _ (List.mem_cons_of_mem _ (List.mem_cons_of_mem _ List.mem_cons_self))), (List.forall_mem_cons.mpr ⟨(List.mem_cons_of_mem _ (List.mem_cons_of_mem _ (List.mem_cons_of_mem _ (List.mem_cons_of_mem _ List.mem_cons_self)))), (List.forall_mem_cons.mpr ⟨(List.mem_cons_of_mem _ (List.mem_cons_of_mem _ (List.mem_cons_of_mem _ (List.mem_cons_of_mem _ (List.mem_cons_of_mem _ List.mem_cons_self))))), (List.forall_mem_cons.mpr ⟨List.mem_cons_self, (fun _ h => nomatch h)⟩)⟩)⟩)⟩)⟩)⟩) (List.forall_mem_cons.mpr ⟨Or.inl (List.mem_cons_of_mem _ (List.mem_cons_of_mem _ (List.mem_cons_of_mem _ (List.mem_cons_of_mem _ (List.mem_cons_of_mem _ List.mem_cons_self))))), (List.forall_mem_cons.mpr ⟨Or.inl List.mem_cons_self, (List.forall_mem_cons.mpr ⟨Or.inl (List.mem_cons_of_mem _ List.mem_cons_self), (List.forall_mem_cons.mpr ⟨Or.inl (List.mem_cons_of_mem _ (List.mem_cons_of_mem _ List.mem_cons_self)), (List.forall_mem_cons.mpr ⟨Or.inl (List.mem_cons_of_mem _ (List.mem_cons_of_mem _ (List.mem_cons_of_mem _ List.mem_cons_self))), (List.forall_mem_cons.mpr ⟨Or.inl (List.mem_cons_of_mem _ (List.mem_cons_of_mem _ (List.mem_cons_of_mem _ (List.mem_cons_of_mem _ List.mem_cons_self)))), (fun _ h => nomatch h)⟩)⟩)⟩)⟩)⟩)⟩)) h
set_option maxRecDepth 100000 in
set_option maxHeartbeats 4000000 in
theorem bk_365_138 {b : Bool} {d : Nat} {t0 x1 x10 x11 x8 x9 : Int32} {e : Nat → x_E} {g : Nat → Int32} {q : Nat → Int64} {c : Nat → Nat → Int32} {l : Nat → Nat → Int64} {g' : Nat → Int32} {q' : Nat → Int64} {c' : Nat → Nat → Int32} {l' : Nat → Nat → Int64} {R : Option Value × List x_E} (hc : rr b e d 357 0 [(0, .ref 49), (1, .int x10)] [] g q c l (none, rH e g' q' c' l')) (h : rr b e (d + 1) 365 146 [(0, .ref 49), (1, .int x1), (8, .int x8), (9, .int x9), (11, .int x11), (12, .int t0)] [] g' q' c' l' R) : rr b e (d + 1) 365 138 [(0, .ref 49), (1, .int x1), (8, .int x8), (9, .int x9), (10, .int x10), (11, .int x11)] [.int t0] g q c l R := by
  obtain ⟨f1, hc⟩ := hc
  obtain ⟨f2, h⟩ := h
  obtain ⟨f, hf1, hf2⟩ : ∃ f, f1 ≤ f ∧ f2 ≤ f := ⟨max f1 f2, Nat.le_max_left _ _, Nat.le_max_right _ _⟩
  have hc := nrun_fuel f1 f _ _ _ _ _ _ _ _ _ hf1 hc
  have h := nrun_fuel f2 f _ _ _ _ _ _ _ _ _ hf2 h
  refine ⟨f + 4, ?_⟩
  obtain ⟨y, cb, hj⟩ := mq_365
  rw [n_step (st' := []) (pc' := 140) (lv' := [(12, .int t0), (0, .ref 49), (1, .int x1), (8, .int x8), (9, .int x9), (10, .int x10), (11, .int x11)]) (hp' := rH e g q c l) (i := .istore 12) (len := 2) rfl hj rfl rfl rfl]
  rw [n_step (st' := [.ref 49]) (pc' := 141) (lv' := [(12, .int t0), (0, .ref 49), (1, .int x1), (8, .int x8), (9, .int x9), (10, .int x10), (11, .int x11)]) (hp' := rH e g q c l) (i := .aload_n 0) (len := 1) rfl hj rfl rfl rfl]
  rw [n_step (st' := [.int x10, .ref 49]) (pc' := 143) (lv' := [(12, .int t0), (0, .ref 49), (1, .int x1), (8, .int x8), (9, .int x9), (10, .int x10), (11, .int x11)]) (hp' := rH e g q c l) (i := .iload 10) (len := 2) rfl hj rfl rfl rfl]
  obtain ⟨y2, cb2, hj2⟩ := mq_357
  rw [n_call (f := f) (d := d) (ki := 0) (idx := 472) (j' := 357) (kd := 0) (M' := (y2, cb2, 8, none, 12, 1, 0, 0)) (avs := [.ref 49, .int x10]) (r := []) (rv := none) (hp1 := rH e g' q' c' l') rfl hj rfl rfl rfl rfl (rq_n rfl rfl hj2 rfl rfl) rfl hc (Nat.le_of_ble_eq_true rfl)]
  exact nrun_ext f f _ _ R 365 146 [(0, .ref 49), (1, .int x1), (8, .int x8), (9, .int x9), (11, .int x11), (12, .int t0)] [(12, .int t0), (0, .ref 49), (1, .int x1), (8, .int x8), (9, .int x9), (10, .int x10), (11, .int x11)] [] _ 0 0 122 (Nat.le_refl _) (Nat.le_refl _) (Nat.le_of_ble_eq_true rfl) (lvR_mk [0, 1, 8, 9, 11, 12] [12, 0, 1, 8, 9, 10, 11] rfl rfl (by decide) (by decide) (List.forall_mem_cons.mpr ⟨(List.mem_cons_of_mem _ List.mem_cons_self), (List.forall_mem_cons.mpr ⟨(List.mem_cons_of_mem _ (List.mem_cons_of_mem _ List.mem_cons_self)), (List.forall_mem_cons.mpr ⟨(List.mem_cons_of_mem _ (List.mem_cons_of_mem _ (List.mem_cons_of_mem _ List.mem_cons_self))), (List.forall_mem_cons.mpr ⟨(List.mem_cons_of_mem _ (List.mem_cons_of_mem _ (List.mem_cons_of_mem _ (List.mem_cons_of_mem _ List.mem_cons_self)))), (List.forall_mem_cons.mpr ⟨(List.mem_cons_of_mem _ (List.mem_cons_of_mem _ (List.mem_cons_of_mem _ (List.mem_cons_of_mem _ (List.mem_cons_of_mem _ (List.mem_cons_of_mem _ List.mem_cons_self)))))), (List.forall_mem_cons.mpr ⟨List.mem_cons_self, (fun _ h => nomatch h)⟩)⟩)⟩)⟩)⟩)⟩) (List.forall_mem_cons.mpr ⟨Or.inl (List.mem_cons_of_mem _ (List.mem_cons_of_mem _ (List.mem_cons_of_mem _ (List.mem_cons_of_mem _ (List.mem_cons_of_mem _ List.mem_cons_self))))), (List.forall_mem_cons.mpr ⟨Or.inl List.mem_cons_self, (List.forall_mem_cons.mpr ⟨Or.inl (List.mem_cons_of_mem _ List.mem_cons_self), (List.forall_mem_cons.mpr ⟨Or.inl (List.mem_cons_of_mem _ (List.mem_cons_of_mem _ List.mem_cons_self)), (List.forall_mem_cons.mpr ⟨Or.inl (List.mem_cons_of_mem _ (List.mem_cons_of_mem _ (List.mem_cons_of_mem _ List.mem_cons_self))), (List.forall_mem_cons.mpr ⟨Or.inr rfl, (List.forall_mem_cons.mpr ⟨Or.inl (List.mem_cons_of_mem _ (List.mem_cons_of_mem _ (List.mem_cons_of_mem _ (List.mem_cons_of_mem _ List.mem_cons_self)))), (fun _ h => nomatch h)⟩)⟩)⟩)⟩)⟩)⟩)⟩)) h
set_option maxRecDepth 100000 in
set_option maxHeartbeats 4000000 in
theorem bk_365_146 {b : Bool} {d : Nat} {x1 x11 x12 x8 x9 : Int32} {e : Nat → x_E} {g : Nat → Int32} {q : Nat → Int64} {c : Nat → Nat → Int32} {l : Nat → Nat → Int64} {g' : Nat → Int32} {q' : Nat → Int64} {c' : Nat → Nat → Int32} {l' : Nat → Nat → Int64} {R : Option Value × List x_E} (hc : rr b e d 351 0 [(0, .ref 49)] [] (upd g 56 (((g 56) - (Int32.ofInt (2))))) q c l (none, rH e g' q' c' l')) (h : rr b e (d + 1) 365 160 [(0, .ref 49), (1, .int x1), (8, .int x8), (9, .int x9), (11, .int x11), (12, .int x12)] [] g' q' c' l' R) : rr b e (d + 1) 365 146 [(0, .ref 49), (1, .int x1), (8, .int x8), (9, .int x9), (11, .int x11), (12, .int x12)] [] g q c l R := by
  obtain ⟨f1, hc⟩ := hc
  obtain ⟨f2, h⟩ := h
  obtain ⟨f, hf1, hf2⟩ : ∃ f, f1 ≤ f ∧ f2 ≤ f := ⟨max f1 f2, Nat.le_max_left _ _, Nat.le_max_right _ _⟩
  have hc := nrun_fuel f1 f _ _ _ _ _ _ _ _ _ hf1 hc
  have h := nrun_fuel f2 f _ _ _ _ _ _ _ _ _ hf2 h
  refine ⟨f + 8, ?_⟩
  obtain ⟨y, cb, hj⟩ := mq_365
  rw [n_step (st' := [.ref 49]) (pc' := 147) (lv' := [(0, .ref 49), (1, .int x1), (8, .int x8), (9, .int x9), (11, .int x11), (12, .int x12)]) (hp' := rH e g q c l) (i := .aload_n 0) (len := 1) rfl hj rfl rfl rfl]
  rw [n_step (st' := [.ref 49, .ref 49]) (pc' := 148) (lv' := [(0, .ref 49), (1, .int x1), (8, .int x8), (9, .int x9), (11, .int x11), (12, .int x12)]) (hp' := rH e g q c l) (i := .aload_n 0) (len := 1) rfl hj rfl rfl rfl]
  rw [n_get (st' := [.int (g 56), .ref 49]) (pc' := 151) (lv' := [(0, .ref 49), (1, .int x1), (8, .int x8), (9, .int x9), (11, .int x11), (12, .int x12)]) (hp' := rH e g q c l) (i := .getfield 436) (len := 3) rfl hj rfl rfl rfl rfl]
  rw [n_step (st' := [.int (Int32.ofInt (2)), .int (g 56), .ref 49]) (pc' := 152) (lv' := [(0, .ref 49), (1, .int x1), (8, .int x8), (9, .int x9), (11, .int x11), (12, .int x12)]) (hp' := rH e g q c l) (i := .iconst 2) (len := 1) rfl hj rfl rfl rfl]
  rw [n_step (st' := [.int ((g 56) - (Int32.ofInt (2))), .ref 49]) (pc' := 153) (lv' := [(0, .ref 49), (1, .int x1), (8, .int x8), (9, .int x9), (11, .int x11), (12, .int x12)]) (hp' := rH e g q c l) (i := .isub) (len := 1) rfl hj rfl rfl rfl]
  rw [n_put (st' := []) (hp' := rH e (upd g 56 (((g 56) - (Int32.ofInt (2))))) q c l) rfl hj pf_56]
  rw [n_step (st' := [.ref 49]) (pc' := 157) (lv' := [(0, .ref 49), (1, .int x1), (8, .int x8), (9, .int x9), (11, .int x11), (12, .int x12)]) (hp' := rH e (upd g 56 (((g 56) - (Int32.ofInt (2))))) q c l) (i := .aload_n 0) (len := 1) rfl hj rfl rfl rfl]
  obtain ⟨y2, cb2, hj2⟩ := mq_351
  rw [n_call (f := f) (d := d) (ki := 0) (idx := 405) (j' := 351) (kd := 0) (M' := (y2, cb2, 1, none, 12, 0, 0, 0)) (avs := [.ref 49]) (r := []) (rv := none) (hp1 := rH e g' q' c' l') rfl hj rfl rfl rfl rfl (rq_n rfl rfl hj2 rfl rfl) rfl hc (Nat.le_of_ble_eq_true rfl)]
  exact h
set_option maxRecDepth 100000 in
set_option maxHeartbeats 4000000 in
theorem bk_365_160 {b : Bool} {d : Nat} {x1 x11 x12 x8 x9 : Int32} {e : Nat → x_E} {g : Nat → Int32} {q : Nat → Int64} {c : Nat → Nat → Int32} {l : Nat → Nat → Int64} {R : Option Value × List x_E} (h1 : xCn .lt x12 0 = true → rr b e d 365 174 [(0, .ref 49), (1, .int x1), (8, .int x8), (9, .int x9), (11, .int x11), (12, .int x12)] [] g q c l R) (h2 : ¬ xCn .lt x12 0 = true → rr b e d 365 165 [(0, .ref 49), (1, .int x1), (8, .int x8), (9, .int x9), (11, .int x11), (12, .int x12)] [] g q c l R) : rr b e d 365 160 [(0, .ref 49), (1, .int x1), (8, .int x8), (9, .int x9), (11, .int x11), (12, .int x12)] [] g q c l R := by
  have key : ∀ f, nrun xZ (xY (xfm b)) xDT (f + 2) d 365 160 [(0, .ref 49), (1, .int x1), (8, .int x8), (9, .int x9), (11, .int x11), (12, .int x12)] [] (rH e g q c l) 0 0 = nrun xZ (xY (xfm b)) xDT f d 365 (if xCn .lt x12 0 = true then 174 else 165) [(0, .ref 49), (1, .int x1), (8, .int x8), (9, .int x9), (11, .int x11), (12, .int x12)] [] (rH e g q c l) 0 0 := by
    intro f
    obtain ⟨y, cb, hj⟩ := mq_365
    rw [n_step (st' := [.int x12]) (pc' := 162) (lv' := [(0, .ref 49), (1, .int x1), (8, .int x8), (9, .int x9), (11, .int x11), (12, .int x12)]) (hp' := rH e g q c l) (i := .iload 12) (len := 2) rfl hj rfl rfl rfl]
    rw [n_step (st' := []) (pc' := (if xCn .lt x12 0 = true then 174 else 165)) (lv' := [(0, .ref 49), (1, .int x1), (8, .int x8), (9, .int x9), (11, .int x11), (12, .int x12)]) (hp' := rH e g q c l) (i := .ifCond .lt 12) (len := 3) rfl hj rfl rfl rfl]
  by_cases hc : xCn .lt x12 0 = true
  · obtain ⟨f, h⟩ := h1 hc
    refine ⟨f + 2, ?_⟩
    rw [key, if_pos hc]
    exact h
  · obtain ⟨f, h⟩ := h2 hc
    refine ⟨f + 2, ?_⟩
    rw [key, if_neg hc]
    exact h
set_option maxRecDepth 100000 in
set_option maxHeartbeats 4000000 in
theorem bk_365_165 {b : Bool} {d : Nat} {x1 x11 x12 x8 x9 : Int32} {e : Nat → x_E} {g : Nat → Int32} {q : Nat → Int64} {c : Nat → Nat → Int32} {l : Nat → Nat → Int64} {R : Option Value × List x_E} (h1 : xCn .lt x9 0 = true → rr b e d 365 174 [(0, .ref 49), (1, .int x1), (8, .int x8), (9, .int x9), (11, .int x11), (12, .int x12)] [] g q c l R) (h2 : ¬ xCn .lt x9 0 = true → rr b e d 365 170 [(0, .ref 49), (1, .int x1), (8, .int x8), (9, .int x9), (11, .int x11), (12, .int x12)] [] g q c l R) : rr b e d 365 165 [(0, .ref 49), (1, .int x1), (8, .int x8), (9, .int x9), (11, .int x11), (12, .int x12)] [] g q c l R := by
  have key : ∀ f, nrun xZ (xY (xfm b)) xDT (f + 2) d 365 165 [(0, .ref 49), (1, .int x1), (8, .int x8), (9, .int x9), (11, .int x11), (12, .int x12)] [] (rH e g q c l) 0 0 = nrun xZ (xY (xfm b)) xDT f d 365 (if xCn .lt x9 0 = true then 174 else 170) [(0, .ref 49), (1, .int x1), (8, .int x8), (9, .int x9), (11, .int x11), (12, .int x12)] [] (rH e g q c l) 0 0 := by
    intro f
    obtain ⟨y, cb, hj⟩ := mq_365
    rw [n_step (st' := [.int x9]) (pc' := 167) (lv' := [(0, .ref 49), (1, .int x1), (8, .int x8), (9, .int x9), (11, .int x11), (12, .int x12)]) (hp' := rH e g q c l) (i := .iload 9) (len := 2) rfl hj rfl rfl rfl]
    rw [n_step (st' := []) (pc' := (if xCn .lt x9 0 = true then 174 else 170)) (lv' := [(0, .ref 49), (1, .int x1), (8, .int x8), (9, .int x9), (11, .int x11), (12, .int x12)]) (hp' := rH e g q c l) (i := .ifCond .lt 7) (len := 3) rfl hj rfl rfl rfl]
  by_cases hc : xCn .lt x9 0 = true
  · obtain ⟨f, h⟩ := h1 hc
    refine ⟨f + 2, ?_⟩
    rw [key, if_pos hc]
    exact h
  · obtain ⟨f, h⟩ := h2 hc
    refine ⟨f + 2, ?_⟩
    rw [key, if_neg hc]
    exact h
set_option maxRecDepth 100000 in
set_option maxHeartbeats 4000000 in
theorem bk_365_170 {b : Bool} {d : Nat} {x1 x11 x12 x8 x9 : Int32} {e : Nat → x_E} {g : Nat → Int32} {q : Nat → Int64} {c : Nat → Nat → Int32} {l : Nat → Nat → Int64} {R : Option Value × List x_E} (h : rr b e d 365 175 [(0, .ref 49), (1, .int x1), (8, .int x8), (9, .int x9), (11, .int x11), (12, .int x12)] [.int (Int32.ofInt (1))] g q c l R) : rr b e d 365 170 [(0, .ref 49), (1, .int x1), (8, .int x8), (9, .int x9), (11, .int x11), (12, .int x12)] [] g q c l R := by
  obtain ⟨f, h⟩ := h
  refine ⟨f + 2, ?_⟩
  obtain ⟨y, cb, hj⟩ := mq_365
  rw [n_step (st' := [.int (Int32.ofInt (1))]) (pc' := 171) (lv' := [(0, .ref 49), (1, .int x1), (8, .int x8), (9, .int x9), (11, .int x11), (12, .int x12)]) (hp' := rH e g q c l) (i := .iconst 1) (len := 1) rfl hj rfl rfl rfl]
  rw [n_step (st' := [.int (Int32.ofInt (1))]) (pc' := 175) (lv' := [(0, .ref 49), (1, .int x1), (8, .int x8), (9, .int x9), (11, .int x11), (12, .int x12)]) (hp' := rH e g q c l) (i := .goto 4) (len := 3) rfl hj rfl rfl rfl]
  exact h
set_option maxRecDepth 100000 in
set_option maxHeartbeats 4000000 in
theorem bk_365_174 {b : Bool} {d : Nat} {x1 x11 x12 x8 x9 : Int32} {e : Nat → x_E} {g : Nat → Int32} {q : Nat → Int64} {c : Nat → Nat → Int32} {l : Nat → Nat → Int64} {R : Option Value × List x_E} (h : rr b e d 365 175 [(0, .ref 49), (1, .int x1), (8, .int x8), (9, .int x9), (11, .int x11), (12, .int x12)] [.int (Int32.ofInt (0))] g q c l R) : rr b e d 365 174 [(0, .ref 49), (1, .int x1), (8, .int x8), (9, .int x9), (11, .int x11), (12, .int x12)] [] g q c l R := by
  obtain ⟨f, h⟩ := h
  refine ⟨f + 1, ?_⟩
  obtain ⟨y, cb, hj⟩ := mq_365
  rw [n_step (st' := [.int (Int32.ofInt (0))]) (pc' := 175) (lv' := [(0, .ref 49), (1, .int x1), (8, .int x8), (9, .int x9), (11, .int x11), (12, .int x12)]) (hp' := rH e g q c l) (i := .iconst 0) (len := 1) rfl hj rfl rfl rfl]
  exact h
set_option maxRecDepth 100000 in
set_option maxHeartbeats 4000000 in
theorem bk_365_175 {b : Bool} {d : Nat} {t0 x1 x11 x12 x8 x9 : Int32} {e : Nat → x_E} {g : Nat → Int32} {q : Nat → Int64} {c : Nat → Nat → Int32} {l : Nat → Nat → Int64} {R : Option Value × List x_E} (h1 : xCn .eq t0 0 = true → rr b e d 365 203 [(0, .ref 49), (1, .int x1), (8, .int x8), (9, .int x9), (13, .int t0)] [] g q c l R) (h2 : ¬ xCn .eq t0 0 = true → rr b e d 365 182 [(0, .ref 49), (1, .int x1), (8, .int x8), (9, .int x9), (11, .int x11), (12, .int x12), (13, .int t0)] [] g q c l R) : rr b e d 365 175 [(0, .ref 49), (1, .int x1), (8, .int x8), (9, .int x9), (11, .int x11), (12, .int x12)] [.int t0] g q c l R := by
  have key : ∀ f, nrun xZ (xY (xfm b)) xDT (f + 3) d 365 175 [(0, .ref 49), (1, .int x1), (8, .int x8), (9, .int x9), (11, .int x11), (12, .int x12)] [.int t0] (rH e g q c l) 0 0 = nrun xZ (xY (xfm b)) xDT f d 365 (if xCn .eq t0 0 = true then 203 else 182) [(13, .int t0), (0, .ref 49), (1, .int x1), (8, .int x8), (9, .int x9), (11, .int x11), (12, .int x12)] [] (rH e g q c l) 0 0 := by
    intro f
    obtain ⟨y, cb, hj⟩ := mq_365
    rw [n_step (st' := []) (pc' := 177) (lv' := [(13, .int t0), (0, .ref 49), (1, .int x1), (8, .int x8), (9, .int x9), (11, .int x11), (12, .int x12)]) (hp' := rH e g q c l) (i := .istore 13) (len := 2) rfl hj rfl rfl rfl]
    rw [n_step (st' := [.int t0]) (pc' := 179) (lv' := [(13, .int t0), (0, .ref 49), (1, .int x1), (8, .int x8), (9, .int x9), (11, .int x11), (12, .int x12)]) (hp' := rH e g q c l) (i := .iload 13) (len := 2) rfl hj rfl rfl rfl]
    rw [n_step (st' := []) (pc' := (if xCn .eq t0 0 = true then 203 else 182)) (lv' := [(13, .int t0), (0, .ref 49), (1, .int x1), (8, .int x8), (9, .int x9), (11, .int x11), (12, .int x12)]) (hp' := rH e g q c l) (i := .ifCond .eq 24) (len := 3) rfl hj rfl rfl rfl]
  by_cases hc : xCn .eq t0 0 = true
  · obtain ⟨f, h⟩ := h1 hc
    refine ⟨f + 3, ?_⟩
    rw [key, if_pos hc]
    exact nrun_ext f f _ _ R 365 203 [(0, .ref 49), (1, .int x1), (8, .int x8), (9, .int x9), (13, .int t0)] [(13, .int t0), (0, .ref 49), (1, .int x1), (8, .int x8), (9, .int x9), (11, .int x11), (12, .int x12)] [] _ 0 0 122 (Nat.le_refl _) (Nat.le_refl _) (Nat.le_of_ble_eq_true rfl) (lvR_mk [0, 1, 8, 9, 13] [13, 0, 1, 8, 9, 11, 12] rfl rfl (by decide) (by decide) (List.forall_mem_cons.mpr ⟨(List.mem_cons_of_mem _ List.mem_cons_self), (List.forall_mem_cons.mpr ⟨(List.mem_cons_of_mem _ (List.mem_cons_of_mem _ List.mem_cons_self)), (List.forall_mem_cons.mpr ⟨(List.mem_cons_of_mem _ (List.mem_cons_of_mem _ (List.mem_cons_of_mem _ List.mem_cons_self))), (List.forall_mem_cons.mpr ⟨(List.mem_cons_of_mem _ (List.mem_cons_of_mem _ (List.mem_cons_of_mem _ (List.mem_cons_of_mem _ List.mem_cons_self)))), (List.forall_mem_cons.mpr ⟨List.mem_cons_self, (fun _ h => nomatch h)⟩)⟩)⟩)⟩)⟩) (List.forall_mem_cons.mpr ⟨Or.inl (List.mem_cons_of_mem _ (List.mem_cons_of_mem _ (List.mem_cons_of_mem _ (List.mem_cons_of_mem _ List.mem_cons_self)))), (List.forall_mem_cons.mpr ⟨Or.inl List.mem_cons_self, (List.forall_mem_cons.mpr ⟨Or.inl (List.mem_cons_of_mem _ List.mem_cons_self), (List.forall_mem_cons.mpr ⟨Or.inl (List.mem_cons_of_mem _ (List.mem_cons_of_mem _ List.mem_cons_self)), (List.forall_mem_cons.mpr ⟨Or.inl (List.mem_cons_of_mem _ (List.mem_cons_of_mem _ (List.mem_cons_of_mem _ List.mem_cons_self))), (List.forall_mem_cons.mpr ⟨Or.inr rfl, (List.forall_mem_cons.mpr ⟨Or.inr rfl, (fun _ h => nomatch h)⟩)⟩)⟩)⟩)⟩)⟩)⟩)) h
  · obtain ⟨f, h⟩ := h2 hc
    refine ⟨f + 3, ?_⟩
    rw [key, if_neg hc]
    exact nrun_ext f f _ _ R 365 182 [(0, .ref 49), (1, .int x1), (8, .int x8), (9, .int x9), (11, .int x11), (12, .int x12), (13, .int t0)] [(13, .int t0), (0, .ref 49), (1, .int x1), (8, .int x8), (9, .int x9), (11, .int x11), (12, .int x12)] [] _ 0 0 122 (Nat.le_refl _) (Nat.le_refl _) (Nat.le_of_ble_eq_true rfl) (lvR_mk [0, 1, 8, 9, 11, 12, 13] [13, 0, 1, 8, 9, 11, 12] rfl rfl (by decide) (by decide) (List.forall_mem_cons.mpr ⟨(List.mem_cons_of_mem _ List.mem_cons_self), (List.forall_mem_cons.mpr ⟨(List.mem_cons_of_mem _ (List.mem_cons_of_mem _ List.mem_cons_self)), (List.forall_mem_cons.mpr ⟨(List.mem_cons_of_mem _ (List.mem_cons_of_mem _ (List.mem_cons_of_mem _ List.mem_cons_self))), (List.forall_mem_cons.mpr ⟨(List.mem_cons_of_mem _ (List.mem_cons_of_mem _ (List.mem_cons_of_mem _ (List.mem_cons_of_mem _ List.mem_cons_self)))), (List.forall_mem_cons.mpr ⟨(List.mem_cons_of_mem _ (List.mem_cons_of_mem _ (List.mem_cons_of_mem _ (List.mem_cons_of_mem _ (List.mem_cons_of_mem _ List.mem_cons_self))))), (List.forall_mem_cons.mpr ⟨(List.mem_cons_of_mem _ (List.mem_cons_of_mem _ (List.mem_cons_of_mem _ (List.mem_cons_of_mem _ (List.mem_cons_of_mem _ (List.mem_cons_of_mem _ List.mem_cons_self)))))), (List.forall_mem_cons.mpr ⟨List.mem_cons_self, (fun _ h => nomatch h)⟩)⟩)⟩)⟩)⟩)⟩)⟩) (List.forall_mem_cons.mpr ⟨Or.inl (List.mem_cons_of_mem _ (List.mem_cons_of_mem _ (List.mem_cons_of_mem _ (List.mem_cons_of_mem _ (List.mem_cons_of_mem _ (List.mem_cons_of_mem _ List.mem_cons_self)))))), (List.forall_mem_cons.mpr ⟨Or.inl List.mem_cons_self, (List.forall_mem_cons.mpr ⟨Or.inl (List.mem_cons_of_mem _ List.mem_cons_self), (List.forall_mem_cons.mpr ⟨Or.inl (List.mem_cons_of_mem _ (List.mem_cons_of_mem _ List.mem_cons_self)), (List.forall_mem_cons.mpr ⟨Or.inl (List.mem_cons_of_mem _ (List.mem_cons_of_mem _ (List.mem_cons_of_mem _ List.mem_cons_self))), (List.forall_mem_cons.mpr ⟨Or.inl (List.mem_cons_of_mem _ (List.mem_cons_of_mem _ (List.mem_cons_of_mem _ (List.mem_cons_of_mem _ List.mem_cons_self)))), (List.forall_mem_cons.mpr ⟨Or.inl (List.mem_cons_of_mem _ (List.mem_cons_of_mem _ (List.mem_cons_of_mem _ (List.mem_cons_of_mem _ (List.mem_cons_of_mem _ List.mem_cons_self))))), (fun _ h => nomatch h)⟩)⟩)⟩)⟩)⟩)⟩)⟩)) h
set_option maxRecDepth 100000 in
set_option maxHeartbeats 4000000 in
theorem bk_365_182 {b : Bool} {d : Nat} {x1 x11 x12 x13 x8 x9 : Int32} {e : Nat → x_E} {g : Nat → Int32} {q : Nat → Int64} {c : Nat → Nat → Int32} {l : Nat → Nat → Int64} {g' : Nat → Int32} {q' : Nat → Int64} {c' : Nat → Nat → Int32} {l' : Nat → Nat → Int64} {v : Int32} {R : Option Value × List x_E} (hc : rr b e d 367 0 [(0, .ref 49), (1, .int x12), (2, .int x9)] [] g q c l (some (.int v), rH e g' q' c' l')) (h : rr b e (d + 1) 365 190 [(0, .ref 49), (1, .int x1), (8, .int x8), (9, .int x9), (11, .int x11), (13, .int x13)] [.int v] g' q' c' l' R) : rr b e (d + 1) 365 182 [(0, .ref 49), (1, .int x1), (8, .int x8), (9, .int x9), (11, .int x11), (12, .int x12), (13, .int x13)] [] g q c l R := by
  obtain ⟨f1, hc⟩ := hc
  obtain ⟨f2, h⟩ := h
  obtain ⟨f, hf1, hf2⟩ : ∃ f, f1 ≤ f ∧ f2 ≤ f := ⟨max f1 f2, Nat.le_max_left _ _, Nat.le_max_right _ _⟩
  have hc := nrun_fuel f1 f _ _ _ _ _ _ _ _ _ hf1 hc
  have h := nrun_fuel f2 f _ _ _ _ _ _ _ _ _ hf2 h
  refine ⟨f + 4, ?_⟩
  obtain ⟨y, cb, hj⟩ := mq_365
  rw [n_step (st' := [.ref 49]) (pc' := 183) (lv' := [(0, .ref 49), (1, .int x1), (8, .int x8), (9, .int x9), (11, .int x11), (12, .int x12), (13, .int x13)]) (hp' := rH e g q c l) (i := .aload_n 0) (len := 1) rfl hj rfl rfl rfl]
  rw [n_step (st' := [.int x12, .ref 49]) (pc' := 185) (lv' := [(0, .ref 49), (1, .int x1), (8, .int x8), (9, .int x9), (11, .int x11), (12, .int x12), (13, .int x13)]) (hp' := rH e g q c l) (i := .iload 12) (len := 2) rfl hj rfl rfl rfl]
  rw [n_step (st' := [.int x9, .int x12, .ref 49]) (pc' := 187) (lv' := [(0, .ref 49), (1, .int x1), (8, .int x8), (9, .int x9), (11, .int x11), (12, .int x12), (13, .int x13)]) (hp' := rH e g q c l) (i := .iload 9) (len := 2) rfl hj rfl rfl rfl]
  obtain ⟨y2, cb2, hj2⟩ := mq_367
  rw [n_call (f := f) (d := d) (ki := 0) (idx := 486) (j' := 367) (kd := 0) (M' := (y2, cb2, 4, some .boolean, 12, 2, 0, 0)) (avs := [.ref 49, .int x12, .int x9]) (r := []) (rv := some (.int v)) (hp1 := rH e g' q' c' l') rfl hj rfl rfl rfl rfl (rq_n rfl rfl hj2 rfl rfl) rfl hc (Nat.le_of_ble_eq_true rfl)]
  exact nrun_ext f f _ _ R 365 190 [(0, .ref 49), (1, .int x1), (8, .int x8), (9, .int x9), (11, .int x11), (13, .int x13)] [(0, .ref 49), (1, .int x1), (8, .int x8), (9, .int x9), (11, .int x11), (12, .int x12), (13, .int x13)] [.int v] _ 0 0 122 (Nat.le_refl _) (Nat.le_refl _) (Nat.le_of_ble_eq_true rfl) (lvR_mk [0, 1, 8, 9, 11, 13] [0, 1, 8, 9, 11, 12, 13] rfl rfl (by decide) (by decide) (List.forall_mem_cons.mpr ⟨List.mem_cons_self, (List.forall_mem_cons.mpr ⟨(List.mem_cons_of_mem _ List.mem_cons_self), (List.forall_mem_cons.mpr ⟨(List.mem_cons_of_mem _ (List.mem_cons_of_mem _ List.mem_cons_self)), (List.forall_mem_cons.mpr ⟨(List.mem_cons_of_mem _ (List.mem_cons_of_mem _ (List.mem_cons_of_mem _ List.mem_cons_self))), (List.forall_mem_cons.mpr ⟨(List.mem_cons_of_mem _ (List.mem_cons_of_mem _ (List.mem_cons_of_mem _ (List.mem_cons_of_mem _ List.mem_cons_self)))), (List.forall_mem_cons.mpr ⟨(List.mem_cons_of_mem _ (List.mem_cons_of_mem _ (List.mem_cons_of_mem _ (List.mem_cons_of_mem _ (List.mem_cons_of_mem _ (List.mem_cons_of_mem _ List.mem_cons_self)))))), (fun _ h => nomatch h)⟩)⟩)⟩)⟩)⟩)⟩) (List.forall_mem_cons.mpr ⟨Or.inl List.mem_cons_self, (List.forall_mem_cons.mpr ⟨Or.inl (List.mem_cons_of_mem _ List.mem_cons_self), (List.forall_mem_cons.mpr ⟨Or.inl (List.mem_cons_of_mem _ (List.mem_cons_of_mem _ List.mem_cons_self)), (List.forall_mem_cons.mpr ⟨Or.inl (List.mem_cons_of_mem _ (List.mem_cons_of_mem _ (List.mem_cons_of_mem _ List.mem_cons_self))), (List.forall_mem_cons.mpr ⟨Or.inl (List.mem_cons_of_mem _ (List.mem_cons_of_mem _ (List.mem_cons_of_mem _ (List.mem_cons_of_mem _ List.mem_cons_self)))), (List.forall_mem_cons.mpr ⟨Or.inr rfl, (List.forall_mem_cons.mpr ⟨Or.inl (List.mem_cons_of_mem _ (List.mem_cons_of_mem _ (List.mem_cons_of_mem _ (List.mem_cons_of_mem _ (List.mem_cons_of_mem _ List.mem_cons_self))))), (fun _ h => nomatch h)⟩)⟩)⟩)⟩)⟩)⟩)⟩)) h
set_option maxRecDepth 100000 in
set_option maxHeartbeats 4000000 in
theorem bk_365_190 {b : Bool} {d : Nat} {t0 x1 x11 x13 x8 x9 : Int32} {e : Nat → x_E} {g : Nat → Int32} {q : Nat → Int64} {c : Nat → Nat → Int32} {l : Nat → Nat → Int64} {R : Option Value × List x_E} (h1 : xCn .ne t0 0 = true → rr b e d 365 203 [(0, .ref 49), (1, .int x1), (8, .int x8), (9, .int x9), (13, .int x13)] [] g q c l R) (h2 : ¬ xCn .ne t0 0 = true → rr b e d 365 193 [(0, .ref 49), (1, .int x1), (8, .int x8), (9, .int x9), (11, .int x11)] [] g q c l R) : rr b e d 365 190 [(0, .ref 49), (1, .int x1), (8, .int x8), (9, .int x9), (11, .int x11), (13, .int x13)] [.int t0] g q c l R := by
  have key : ∀ f, nrun xZ (xY (xfm b)) xDT (f + 1) d 365 190 [(0, .ref 49), (1, .int x1), (8, .int x8), (9, .int x9), (11, .int x11), (13, .int x13)] [.int t0] (rH e g q c l) 0 0 = nrun xZ (xY (xfm b)) xDT f d 365 (if xCn .ne t0 0 = true then 203 else 193) [(0, .ref 49), (1, .int x1), (8, .int x8), (9, .int x9), (11, .int x11), (13, .int x13)] [] (rH e g q c l) 0 0 := by
    intro f
    obtain ⟨y, cb, hj⟩ := mq_365
    rw [n_step (st' := []) (pc' := (if xCn .ne t0 0 = true then 203 else 193)) (lv' := [(0, .ref 49), (1, .int x1), (8, .int x8), (9, .int x9), (11, .int x11), (13, .int x13)]) (hp' := rH e g q c l) (i := .ifCond .ne 13) (len := 3) rfl hj rfl rfl rfl]
  by_cases hc : xCn .ne t0 0 = true
  · obtain ⟨f, h⟩ := h1 hc
    refine ⟨f + 1, ?_⟩
    rw [key, if_pos hc]
    exact nrun_ext f f _ _ R 365 203 [(0, .ref 49), (1, .int x1), (8, .int x8), (9, .int x9), (13, .int x13)] [(0, .ref 49), (1, .int x1), (8, .int x8), (9, .int x9), (11, .int x11), (13, .int x13)] [] _ 0 0 122 (Nat.le_refl _) (Nat.le_refl _) (Nat.le_of_ble_eq_true rfl) (lvR_mk [0, 1, 8, 9, 13] [0, 1, 8, 9, 11, 13] rfl rfl (by decide) (by decide) (List.forall_mem_cons.mpr ⟨List.mem_cons_self, (List.forall_mem_cons.mpr ⟨(List.mem_cons_of_mem _ List.mem_cons_self), (List.forall_mem_cons.mpr ⟨(List.mem_cons_of_mem _ (List.mem_cons_of_mem _ List.mem_cons_self)), (List.forall_mem_cons.mpr ⟨(List.mem_cons_of_mem _ (List.mem_cons_of_mem _ (List.mem_cons_of_mem _ List.mem_cons_self))), (List.forall_mem_cons.mpr ⟨(List.mem_cons_of_mem _ (List.mem_cons_of_mem _ (List.mem_cons_of_mem _ (List.mem_cons_of_mem _ (List.mem_cons_of_mem _ List.mem_cons_self))))), (fun _ h => nomatch h)⟩)⟩)⟩)⟩)⟩) (List.forall_mem_cons.mpr ⟨Or.inl List.mem_cons_self, (List.forall_mem_cons.mpr ⟨Or.inl (List.mem_cons_of_mem _ List.mem_cons_self), (List.forall_mem_cons.mpr ⟨Or.inl (List.mem_cons_of_mem _ (List.mem_cons_of_mem _ List.mem_cons_self)), (List.forall_mem_cons.mpr ⟨Or.inl (List.mem_cons_of_mem _ (List.mem_cons_of_mem _ (List.mem_cons_of_mem _ List.mem_cons_self))), (List.forall_mem_cons.mpr ⟨Or.inr rfl, (List.forall_mem_cons.mpr ⟨Or.inl (List.mem_cons_of_mem _ (List.mem_cons_of_mem _ (List.mem_cons_of_mem _ (List.mem_cons_of_mem _ List.mem_cons_self)))), (fun _ h => nomatch h)⟩)⟩)⟩)⟩)⟩)⟩)) h
  · obtain ⟨f, h⟩ := h2 hc
    refine ⟨f + 1, ?_⟩
    rw [key, if_neg hc]
    exact nrun_ext f f _ _ R 365 193 [(0, .ref 49), (1, .int x1), (8, .int x8), (9, .int x9), (11, .int x11)] [(0, .ref 49), (1, .int x1), (8, .int x8), (9, .int x9), (11, .int x11), (13, .int x13)] [] _ 0 0 122 (Nat.le_refl _) (Nat.le_refl _) (Nat.le_of_ble_eq_true rfl) (lvR_mk [0, 1, 8, 9, 11] [0, 1, 8, 9, 11, 13] rfl rfl (by decide) (by decide) (List.forall_mem_cons.mpr ⟨List.mem_cons_self, (List.forall_mem_cons.mpr ⟨(List.mem_cons_of_mem _ List.mem_cons_self), (List.forall_mem_cons.mpr ⟨(List.mem_cons_of_mem _ (List.mem_cons_of_mem _ List.mem_cons_self)), (List.forall_mem_cons.mpr ⟨(List.mem_cons_of_mem _ (List.mem_cons_of_mem _ (List.mem_cons_of_mem _ List.mem_cons_self))), (List.forall_mem_cons.mpr ⟨(List.mem_cons_of_mem _ (List.mem_cons_of_mem _ (List.mem_cons_of_mem _ (List.mem_cons_of_mem _ List.mem_cons_self)))), (fun _ h => nomatch h)⟩)⟩)⟩)⟩)⟩) (List.forall_mem_cons.mpr ⟨Or.inl List.mem_cons_self, (List.forall_mem_cons.mpr ⟨Or.inl (List.mem_cons_of_mem _ List.mem_cons_self), (List.forall_mem_cons.mpr ⟨Or.inl (List.mem_cons_of_mem _ (List.mem_cons_of_mem _ List.mem_cons_self)), (List.forall_mem_cons.mpr ⟨Or.inl (List.mem_cons_of_mem _ (List.mem_cons_of_mem _ (List.mem_cons_of_mem _ List.mem_cons_self))), (List.forall_mem_cons.mpr ⟨Or.inl (List.mem_cons_of_mem _ (List.mem_cons_of_mem _ (List.mem_cons_of_mem _ (List.mem_cons_of_mem _ List.mem_cons_self)))), (List.forall_mem_cons.mpr ⟨Or.inr rfl, (fun _ h => nomatch h)⟩)⟩)⟩)⟩)⟩)⟩)) h
set_option maxRecDepth 100000 in
set_option maxHeartbeats 4000000 in
theorem bk_365_193 {b : Bool} {d : Nat} {x1 x11 x8 x9 : Int32} {e : Nat → x_E} {g : Nat → Int32} {q : Nat → Int64} {c : Nat → Nat → Int32} {l : Nat → Nat → Int64} {g' : Nat → Int32} {q' : Nat → Int64} {c' : Nat → Nat → Int32} {l' : Nat → Nat → Int64} {R : Option Value × List x_E} (hc : rr b e d 349 0 [(0, .ref 49), (1, .int (Int32.ofInt (4))), (2, .int x11)] [] g q c l (none, rH e g' q' c' l')) (h : rr b e (d + 1) 365 200 [(0, .ref 49), (1, .int x1), (8, .int x8), (9, .int x9)] [] g' q' c' l' R) : rr b e (d + 1) 365 193 [(0, .ref 49), (1, .int x1), (8, .int x8), (9, .int x9), (11, .int x11)] [] g q c l R := by
  obtain ⟨f1, hc⟩ := hc
  obtain ⟨f2, h⟩ := h
  obtain ⟨f, hf1, hf2⟩ : ∃ f, f1 ≤ f ∧ f2 ≤ f := ⟨max f1 f2, Nat.le_max_left _ _, Nat.le_max_right _ _⟩
  have hc := nrun_fuel f1 f _ _ _ _ _ _ _ _ _ hf1 hc
  have h := nrun_fuel f2 f _ _ _ _ _ _ _ _ _ hf2 h
  refine ⟨f + 4, ?_⟩
  obtain ⟨y, cb, hj⟩ := mq_365
  rw [n_step (st' := [.ref 49]) (pc' := 194) (lv' := [(0, .ref 49), (1, .int x1), (8, .int x8), (9, .int x9), (11, .int x11)]) (hp' := rH e g q c l) (i := .aload_n 0) (len := 1) rfl hj rfl rfl rfl]
  rw [n_step (st' := [.int (Int32.ofInt (4)), .ref 49]) (pc' := 195) (lv' := [(0, .ref 49), (1, .int x1), (8, .int x8), (9, .int x9), (11, .int x11)]) (hp' := rH e g q c l) (i := .iconst 4) (len := 1) rfl hj rfl rfl rfl]
  rw [n_step (st' := [.int x11, .int (Int32.ofInt (4)), .ref 49]) (pc' := 197) (lv' := [(0, .ref 49), (1, .int x1), (8, .int x8), (9, .int x9), (11, .int x11)]) (hp' := rH e g q c l) (i := .iload 11) (len := 2) rfl hj rfl rfl rfl]
  obtain ⟨y2, cb2, hj2⟩ := mq_349
  rw [n_call (f := f) (d := d) (ki := 0) (idx := 427) (j' := 349) (kd := 0) (M' := (y2, cb2, 3, none, 12, 2, 0, 0)) (avs := [.ref 49, .int (Int32.ofInt (4)), .int x11]) (r := []) (rv := none) (hp1 := rH e g' q' c' l') rfl hj rfl rfl rfl rfl (rq_n rfl rfl hj2 rfl rfl) rfl hc (Nat.le_of_ble_eq_true rfl)]
  exact nrun_ext f f _ _ R 365 200 [(0, .ref 49), (1, .int x1), (8, .int x8), (9, .int x9)] [(0, .ref 49), (1, .int x1), (8, .int x8), (9, .int x9), (11, .int x11)] [] _ 0 0 122 (Nat.le_refl _) (Nat.le_refl _) (Nat.le_of_ble_eq_true rfl) (lvR_mk [0, 1, 8, 9] [0, 1, 8, 9, 11] rfl rfl (by decide) (by decide) (List.forall_mem_cons.mpr ⟨List.mem_cons_self, (List.forall_mem_cons.mpr ⟨(List.mem_cons_of_mem _ List.mem_cons_self), (List.forall_mem_cons.mpr ⟨(List.mem_cons_of_mem _ (List.mem_cons_of_mem _ List.mem_cons_self)), (List.forall_mem_cons.mpr ⟨(List.mem_cons_of_mem _ (List.mem_cons_of_mem _ (List.mem_cons_of_mem _ List.mem_cons_self))), (fun _ h => nomatch h)⟩)⟩)⟩)⟩) (List.forall_mem_cons.mpr ⟨Or.inl List.mem_cons_self, (List.forall_mem_cons.mpr ⟨Or.inl (List.mem_cons_of_mem _ List.mem_cons_self), (List.forall_mem_cons.mpr ⟨Or.inl (List.mem_cons_of_mem _ (List.mem_cons_of_mem _ List.mem_cons_self)), (List.forall_mem_cons.mpr ⟨Or.inl (List.mem_cons_of_mem _ (List.mem_cons_of_mem _ (List.mem_cons_of_mem _ List.mem_cons_self))), (List.forall_mem_cons.mpr ⟨Or.inr rfl, (fun _ h => nomatch h)⟩)⟩)⟩)⟩)⟩)) h
set_option maxRecDepth 100000 in
set_option maxHeartbeats 4000000 in
theorem bk_365_200 {b : Bool} {d : Nat} {x1 x8 x9 : Int32} {e : Nat → x_E} {g : Nat → Int32} {q : Nat → Int64} {c : Nat → Nat → Int32} {l : Nat → Nat → Int64} {R : Option Value × List x_E} (h : rr b e d 365 203 [(0, .ref 49), (1, .int x1), (8, .int x8), (9, .int x9), (13, .int (Int32.ofInt (0)))] [] g q c l R) : rr b e d 365 200 [(0, .ref 49), (1, .int x1), (8, .int x8), (9, .int x9)] [] g q c l R := by
  obtain ⟨f, h⟩ := h
  refine ⟨f + 2, ?_⟩
  obtain ⟨y, cb, hj⟩ := mq_365
  rw [n_step (st' := [.int (Int32.ofInt (0))]) (pc' := 201) (lv' := [(0, .ref 49), (1, .int x1), (8, .int x8), (9, .int x9)]) (hp' := rH e g q c l) (i := .iconst 0) (len := 1) rfl hj rfl rfl rfl]
  rw [n_step (st' := []) (pc' := 203) (lv' := [(13, .int (Int32.ofInt (0))), (0, .ref 49), (1, .int x1), (8, .int x8), (9, .int x9)]) (hp' := rH e g q c l) (i := .istore 13) (len := 2) rfl hj rfl rfl rfl]
  exact nrun_ext f f _ _ R 365 203 [(0, .ref 49), (1, .int x1), (8, .int x8), (9, .int x9), (13, .int (Int32.ofInt (0)))] [(13, .int (Int32.ofInt (0))), (0, .ref 49), (1, .int x1), (8, .int x8), (9, .int x9)] [] _ 0 0 122 (Nat.le_refl _) (Nat.le_refl _) (Nat.le_of_ble_eq_true rfl) (lvR_mk [0, 1, 8, 9, 13] [13, 0, 1, 8, 9] rfl rfl (by decide) (by decide) (List.forall_mem_cons.mpr ⟨(List.mem_cons_of_mem _ List.mem_cons_self), (List.forall_mem_cons.mpr ⟨(List.mem_cons_of_mem _ (List.mem_cons_of_mem _ List.mem_cons_self)), (List.forall_mem_cons.mpr ⟨(List.mem_cons_of_mem _ (List.mem_cons_of_mem _ (List.mem_cons_of_mem _ List.mem_cons_self))), (List.forall_mem_cons.mpr ⟨(List.mem_cons_of_mem _ (List.mem_cons_of_mem _ (List.mem_cons_of_mem _ (List.mem_cons_of_mem _ List.mem_cons_self)))), (List.forall_mem_cons.mpr ⟨List.mem_cons_self, (fun _ h => nomatch h)⟩)⟩)⟩)⟩)⟩) (List.forall_mem_cons.mpr ⟨Or.inl (List.mem_cons_of_mem _ (List.mem_cons_of_mem _ (List.mem_cons_of_mem _ (List.mem_cons_of_mem _ List.mem_cons_self)))), (List.forall_mem_cons.mpr ⟨Or.inl List.mem_cons_self, (List.forall_mem_cons.mpr ⟨Or.inl (List.mem_cons_of_mem _ List.mem_cons_self), (List.forall_mem_cons.mpr ⟨Or.inl (List.mem_cons_of_mem _ (List.mem_cons_of_mem _ List.mem_cons_self)), (List.forall_mem_cons.mpr ⟨Or.inl (List.mem_cons_of_mem _ (List.mem_cons_of_mem _ (List.mem_cons_of_mem _ List.mem_cons_self))), (fun _ h => nomatch h)⟩)⟩)⟩)⟩)⟩)) h
set_option maxRecDepth 100000 in
set_option maxHeartbeats 4000000 in
theorem bk_365_203 {b : Bool} {d : Nat} {x1 x13 x8 x9 : Int32} {e : Nat → x_E} {g : Nat → Int32} {q : Nat → Int64} {c : Nat → Nat → Int32} {l : Nat → Nat → Int64} {R : Option Value × List x_E} (h1 : xCn .eq x13 0 = true → rr b e d 365 220 [] [] g q c l R) (h2 : ¬ xCn .eq x13 0 = true → rr b e d 365 208 [(0, .ref 49), (1, .int x1), (8, .int x8), (9, .int x9)] [] g q c l R) : rr b e d 365 203 [(0, .ref 49), (1, .int x1), (8, .int x8), (9, .int x9), (13, .int x13)] [] g q c l R := by
  have key : ∀ f, nrun xZ (xY (xfm b)) xDT (f + 2) d 365 203 [(0, .ref 49), (1, .int x1), (8, .int x8), (9, .int x9), (13, .int x13)] [] (rH e g q c l) 0 0 = nrun xZ (xY (xfm b)) xDT f d 365 (if xCn .eq x13 0 = true then 220 else 208) [(0, .ref 49), (1, .int x1), (8, .int x8), (9, .int x9), (13, .int x13)] [] (rH e g q c l) 0 0 := by
    intro f
    obtain ⟨y, cb, hj⟩ := mq_365
    rw [n_step (st' := [.int x13]) (pc' := 205) (lv' := [(0, .ref 49), (1, .int x1), (8, .int x8), (9, .int x9), (13, .int x13)]) (hp' := rH e g q c l) (i := .iload 13) (len := 2) rfl hj rfl rfl rfl]
    rw [n_step (st' := []) (pc' := (if xCn .eq x13 0 = true then 220 else 208)) (lv' := [(0, .ref 49), (1, .int x1), (8, .int x8), (9, .int x9), (13, .int x13)]) (hp' := rH e g q c l) (i := .ifCond .eq 15) (len := 3) rfl hj rfl rfl rfl]
  by_cases hc : xCn .eq x13 0 = true
  · obtain ⟨f, h⟩ := h1 hc
    refine ⟨f + 2, ?_⟩
    rw [key, if_pos hc]
    exact nrun_ext f f _ _ R 365 220 [] [(0, .ref 49), (1, .int x1), (8, .int x8), (9, .int x9), (13, .int x13)] [] _ 0 0 122 (Nat.le_refl _) (Nat.le_refl _) (Nat.le_of_ble_eq_true rfl) (lvR_mk [] [0, 1, 8, 9, 13] rfl rfl (by decide) (by decide) (fun _ h => nomatch h) (List.forall_mem_cons.mpr ⟨Or.inr rfl, (List.forall_mem_cons.mpr ⟨Or.inr rfl, (List.forall_mem_cons.mpr ⟨Or.inr rfl, (List.forall_mem_cons.mpr ⟨Or.inr rfl, (List.forall_mem_cons.mpr ⟨Or.inr rfl, (fun _ h => nomatch h)⟩)⟩)⟩)⟩)⟩)) h
  · obtain ⟨f, h⟩ := h2 hc
    refine ⟨f + 2, ?_⟩
    rw [key, if_neg hc]
    exact nrun_ext f f _ _ R 365 208 [(0, .ref 49), (1, .int x1), (8, .int x8), (9, .int x9)] [(0, .ref 49), (1, .int x1), (8, .int x8), (9, .int x9), (13, .int x13)] [] _ 0 0 122 (Nat.le_refl _) (Nat.le_refl _) (Nat.le_of_ble_eq_true rfl) (lvR_mk [0, 1, 8, 9] [0, 1, 8, 9, 13] rfl rfl (by decide) (by decide) (List.forall_mem_cons.mpr ⟨List.mem_cons_self, (List.forall_mem_cons.mpr ⟨(List.mem_cons_of_mem _ List.mem_cons_self), (List.forall_mem_cons.mpr ⟨(List.mem_cons_of_mem _ (List.mem_cons_of_mem _ List.mem_cons_self)), (List.forall_mem_cons.mpr ⟨(List.mem_cons_of_mem _ (List.mem_cons_of_mem _ (List.mem_cons_of_mem _ List.mem_cons_self))), (fun _ h => nomatch h)⟩)⟩)⟩)⟩) (List.forall_mem_cons.mpr ⟨Or.inl List.mem_cons_self, (List.forall_mem_cons.mpr ⟨Or.inl (List.mem_cons_of_mem _ List.mem_cons_self), (List.forall_mem_cons.mpr ⟨Or.inl (List.mem_cons_of_mem _ (List.mem_cons_of_mem _ List.mem_cons_self)), (List.forall_mem_cons.mpr ⟨Or.inl (List.mem_cons_of_mem _ (List.mem_cons_of_mem _ (List.mem_cons_of_mem _ List.mem_cons_self))), (List.forall_mem_cons.mpr ⟨Or.inr rfl, (fun _ h => nomatch h)⟩)⟩)⟩)⟩)⟩)) h
set_option maxRecDepth 100000 in
set_option maxHeartbeats 4000000 in
theorem bk_365_208 {b : Bool} {d : Nat} {x1 x8 x9 : Int32} {e : Nat → x_E} {g : Nat → Int32} {q : Nat → Int64} {c : Nat → Nat → Int32} {l : Nat → Nat → Int64} {g' : Nat → Int32} {q' : Nat → Int64} {c' : Nat → Nat → Int32} {l' : Nat → Nat → Int64} {v : Int32} {R : Option Value × List x_E} (hc : rr b e d 362 0 [(0, .ref 49), (1, .int x8), (2, .int x9), (3, .int x1)] [] g q c l (some (.int v), rH e g' q' c' l')) (h : rr b e (d + 1) 365 217 [] [.int v] g' q' c' l' R) : rr b e (d + 1) 365 208 [(0, .ref 49), (1, .int x1), (8, .int x8), (9, .int x9)] [] g q c l R := by
  obtain ⟨f1, hc⟩ := hc
  obtain ⟨f2, h⟩ := h
  obtain ⟨f, hf1, hf2⟩ : ∃ f, f1 ≤ f ∧ f2 ≤ f := ⟨max f1 f2, Nat.le_max_left _ _, Nat.le_max_right _ _⟩
  have hc := nrun_fuel f1 f _ _ _ _ _ _ _ _ _ hf1 hc
  have h := nrun_fuel f2 f _ _ _ _ _ _ _ _ _ hf2 h
  refine ⟨f + 5, ?_⟩
  obtain ⟨y, cb, hj⟩ := mq_365
  rw [n_step (st' := [.ref 49]) (pc' := 209) (lv' := [(0, .ref 49), (1, .int x1), (8, .int x8), (9, .int x9)]) (hp' := rH e g q c l) (i := .aload_n 0) (len := 1) rfl hj rfl rfl rfl]
  rw [n_step (st' := [.int x8, .ref 49]) (pc' := 211) (lv' := [(0, .ref 49), (1, .int x1), (8, .int x8), (9, .int x9)]) (hp' := rH e g q c l) (i := .iload 8) (len := 2) rfl hj rfl rfl rfl]
  rw [n_step (st' := [.int x9, .int x8, .ref 49]) (pc' := 213) (lv' := [(0, .ref 49), (1, .int x1), (8, .int x8), (9, .int x9)]) (hp' := rH e g q c l) (i := .iload 9) (len := 2) rfl hj rfl rfl rfl]
  rw [n_step (st' := [.int x1, .int x9, .int x8, .ref 49]) (pc' := 214) (lv' := [(0, .ref 49), (1, .int x1), (8, .int x8), (9, .int x9)]) (hp' := rH e g q c l) (i := .iload_n 1) (len := 1) rfl hj rfl rfl rfl]
  obtain ⟨y2, cb2, hj2⟩ := mq_362
  rw [n_call (f := f) (d := d) (ki := 0) (idx := 475) (j' := 362) (kd := 0) (M' := (y2, cb2, 4, some .int, 12, 3, 0, 0)) (avs := [.ref 49, .int x8, .int x9, .int x1]) (r := []) (rv := some (.int v)) (hp1 := rH e g' q' c' l') rfl hj rfl rfl rfl rfl (rq_n rfl rfl hj2 rfl rfl) rfl hc (Nat.le_of_ble_eq_true rfl)]
  exact nrun_ext f f _ _ R 365 217 [] [(0, .ref 49), (1, .int x1), (8, .int x8), (9, .int x9)] [.int v] _ 0 0 122 (Nat.le_refl _) (Nat.le_refl _) (Nat.le_of_ble_eq_true rfl) (lvR_mk [] [0, 1, 8, 9] rfl rfl (by decide) (by decide) (fun _ h => nomatch h) (List.forall_mem_cons.mpr ⟨Or.inr rfl, (List.forall_mem_cons.mpr ⟨Or.inr rfl, (List.forall_mem_cons.mpr ⟨Or.inr rfl, (List.forall_mem_cons.mpr ⟨Or.inr rfl, (fun _ h => nomatch h)⟩)⟩)⟩)⟩)) h
set_option maxRecDepth 100000 in
set_option maxHeartbeats 4000000 in
theorem bk_365_217 {b : Bool} {d : Nat} {t0 : Int32} {e : Nat → x_E} {g : Nat → Int32} {q : Nat → Int64} {c : Nat → Nat → Int32} {l : Nat → Nat → Int64} {R : Option Value × List x_E} (h : rr b e d 365 221 [] [.int t0] g q c l R) : rr b e d 365 217 [] [.int t0] g q c l R := by
  obtain ⟨f, h⟩ := h
  refine ⟨f + 1, ?_⟩
  obtain ⟨y, cb, hj⟩ := mq_365
  rw [n_step (st' := [.int t0]) (pc' := 221) (lv' := []) (hp' := rH e g q c l) (i := .goto 4) (len := 3) rfl hj rfl rfl rfl]
  exact h
set_option maxRecDepth 100000 in
set_option maxHeartbeats 4000000 in
theorem bk_365_220 {b : Bool} {d : Nat} {e : Nat → x_E} {g : Nat → Int32} {q : Nat → Int64} {c : Nat → Nat → Int32} {l : Nat → Nat → Int64} {R : Option Value × List x_E} (h : rr b e d 365 221 [] [.int (Int32.ofInt (-1))] g q c l R) : rr b e d 365 220 [] [] g q c l R := by
  obtain ⟨f, h⟩ := h
  refine ⟨f + 1, ?_⟩
  obtain ⟨y, cb, hj⟩ := mq_365
  rw [n_step (st' := [.int (Int32.ofInt (-1))]) (pc' := 221) (lv' := []) (hp' := rH e g q c l) (i := .iconst (-1)) (len := 1) rfl hj rfl rfl rfl]
  exact h
set_option maxRecDepth 100000 in
set_option maxHeartbeats 4000000 in
theorem bk_365_221 {b : Bool} {d : Nat} {t0 : Int32} {e : Nat → x_E} {g : Nat → Int32} {q : Nat → Int64} {c : Nat → Nat → Int32} {l : Nat → Nat → Int64} : rr b e d 365 221 [] [.int t0] g q c l (some (.int t0), rH e g q c l) := by
  refine ⟨0 + 1, ?_⟩
  obtain ⟨y, cb, hj⟩ := mq_365
  exact n_ret rfl hj rfl rfl (x_ret rfl)
set_option maxRecDepth 100000 in
set_option maxHeartbeats 4000000 in
theorem bk_366_0 {b : Bool} {d : Nat} {x1 : Int32} {e : Nat → x_E} {g : Nat → Int32} {q : Nat → Int64} {c : Nat → Nat → Int32} {l : Nat → Nat → Int64} {g' : Nat → Int32} {q' : Nat → Int64} {c' : Nat → Nat → Int32} {l' : Nat → Nat → Int64} {v : Int32} {R : Option Value × List x_E} (hc : rr b e d 337 0 [(0, .ref 49)] [] g q c l (some (.int v), rH e g' q' c' l')) (h : rr b e (d + 1) 366 4 [(0, .ref 49), (1, .int x1)] [.int v] g' q' c' l' R) : rr b e (d + 1) 366 0 [(0, .ref 49), (1, .int x1)] [] g q c l R := by
  obtain ⟨f1, hc⟩ := hc
  obtain ⟨f2, h⟩ := h
  obtain ⟨f, hf1, hf2⟩ : ∃ f, f1 ≤ f ∧ f2 ≤ f := ⟨max f1 f2, Nat.le_max_left _ _, Nat.le_max_right _ _⟩
  have hc := nrun_fuel f1 f _ _ _ _ _ _ _ _ _ hf1 hc
  have h := nrun_fuel f2 f _ _ _ _ _ _ _ _ _ hf2 h
  refine ⟨f + 2, ?_⟩
  obtain ⟨y, cb, hj⟩ := mq_366
  rw [n_step (st' := [.ref 49]) (pc' := 1) (lv' := [(0, .ref 49), (1, .int x1)]) (hp' := rH e g q c l) (i := .aload_n 0) (len := 1) rfl hj rfl rfl rfl]
  obtain ⟨y2, cb2, hj2⟩ := mq_337
  rw [n_call (f := f) (d := d) (ki := 0) (idx := 337) (j' := 337) (kd := 0) (M' := (y2, cb2, 1, some .boolean, 12, 0, 0, 0)) (avs := [.ref 49]) (r := []) (rv := some (.int v)) (hp1 := rH e g' q' c' l') rfl hj rfl rfl rfl rfl (rq_n rfl rfl hj2 rfl rfl) rfl hc (Nat.le_of_ble_eq_true rfl)]
  exact h
set_option maxRecDepth 100000 in
set_option maxHeartbeats 4000000 in
theorem bk_366_4 {b : Bool} {d : Nat} {t0 x1 : Int32} {e : Nat → x_E} {g : Nat → Int32} {q : Nat → Int64} {c : Nat → Nat → Int32} {l : Nat → Nat → Int64} {R : Option Value × List x_E} (h1 : xCn .eq t0 0 = true → rr b e d 366 8 [(0, .ref 49), (1, .int x1)] [] g q c l R) (h2 : ¬ xCn .eq t0 0 = true → rr b e d 366 7 [] [] g q c l R) : rr b e d 366 4 [(0, .ref 49), (1, .int x1)] [.int t0] g q c l R := by
  have key : ∀ f, nrun xZ (xY (xfm b)) xDT (f + 1) d 366 4 [(0, .ref 49), (1, .int x1)] [.int t0] (rH e g q c l) 0 0 = nrun xZ (xY (xfm b)) xDT f d 366 (if xCn .eq t0 0 = true then 8 else 7) [(0, .ref 49), (1, .int x1)] [] (rH e g q c l) 0 0 := by
    intro f
    obtain ⟨y, cb, hj⟩ := mq_366
    rw [n_step (st' := []) (pc' := (if xCn .eq t0 0 = true then 8 else 7)) (lv' := [(0, .ref 49), (1, .int x1)]) (hp' := rH e g q c l) (i := .ifCond .eq 4) (len := 3) rfl hj rfl rfl rfl]
  by_cases hc : xCn .eq t0 0 = true
  · obtain ⟨f, h⟩ := h1 hc
    refine ⟨f + 1, ?_⟩
    rw [key, if_pos hc]
    exact h
  · obtain ⟨f, h⟩ := h2 hc
    refine ⟨f + 1, ?_⟩
    rw [key, if_neg hc]
    exact nrun_ext f f _ _ R 366 7 [] [(0, .ref 49), (1, .int x1)] [] _ 0 0 122 (Nat.le_refl _) (Nat.le_refl _) (Nat.le_of_ble_eq_true rfl) (lvR_mk [] [0, 1] rfl rfl (by decide) (by decide) (fun _ h => nomatch h) (List.forall_mem_cons.mpr ⟨Or.inr rfl, (List.forall_mem_cons.mpr ⟨Or.inr rfl, (fun _ h => nomatch h)⟩)⟩)) h
set_option maxRecDepth 100000 in
set_option maxHeartbeats 4000000 in
theorem bk_366_7 {b : Bool} {d : Nat} {e : Nat → x_E} {g : Nat → Int32} {q : Nat → Int64} {c : Nat → Nat → Int32} {l : Nat → Nat → Int64} : rr b e d 366 7 [] [] g q c l (none, rH e g q c l) := by
  refine ⟨0 + 1, ?_⟩
  obtain ⟨y, cb, hj⟩ := mq_366
  exact n_ret rfl hj rfl rfl rfl
set_option maxRecDepth 100000 in
set_option maxHeartbeats 4000000 in
theorem bk_366_8 {b : Bool} {d : Nat} {x1 : Int32} {e : Nat → x_E} {g : Nat → Int32} {q : Nat → Int64} {c : Nat → Nat → Int32} {l : Nat → Nat → Int64} {g' : Nat → Int32} {q' : Nat → Int64} {c' : Nat → Nat → Int32} {l' : Nat → Nat → Int64} {v : Int32} {R : Option Value × List x_E} (hc : rr b e d 344 0 [(0, .ref 49), (1, .int x1)] [] g q c l (some (.int v), rH e g' q' c' l')) (h : rr b e (d + 1) 366 13 [(0, .ref 49)] [.int v] g' q' c' l' R) : rr b e (d + 1) 366 8 [(0, .ref 49), (1, .int x1)] [] g q c l R := by
  obtain ⟨f1, hc⟩ := hc
  obtain ⟨f2, h⟩ := h
  obtain ⟨f, hf1, hf2⟩ : ∃ f, f1 ≤ f ∧ f2 ≤ f := ⟨max f1 f2, Nat.le_max_left _ _, Nat.le_max_right _ _⟩
  have hc := nrun_fuel f1 f _ _ _ _ _ _ _ _ _ hf1 hc
  have h := nrun_fuel f2 f _ _ _ _ _ _ _ _ _ hf2 h
  refine ⟨f + 3, ?_⟩
  obtain ⟨y, cb, hj⟩ := mq_366
  rw [n_step (st' := [.ref 49]) (pc' := 9) (lv' := [(0, .ref 49), (1, .int x1)]) (hp' := rH e g q c l) (i := .aload_n 0) (len := 1) rfl hj rfl rfl rfl]
  rw [n_step (st' := [.int x1, .ref 49]) (pc' := 10) (lv' := [(0, .ref 49), (1, .int x1)]) (hp' := rH e g q c l) (i := .iload_n 1) (len := 1) rfl hj rfl rfl rfl]
  obtain ⟨y2, cb2, hj2⟩ := mq_344
  rw [n_call (f := f) (d := d) (ki := 0) (idx := 341) (j' := 344) (kd := 0) (M' := (y2, cb2, 2, some .boolean, 12, 1, 0, 0)) (avs := [.ref 49, .int x1]) (r := []) (rv := some (.int v)) (hp1 := rH e g' q' c' l') rfl hj rfl rfl rfl rfl (rq_n rfl rfl hj2 rfl rfl) rfl hc (Nat.le_of_ble_eq_true rfl)]
  exact nrun_ext f f _ _ R 366 13 [(0, .ref 49)] [(0, .ref 49), (1, .int x1)] [.int v] _ 0 0 122 (Nat.le_refl _) (Nat.le_refl _) (Nat.le_of_ble_eq_true rfl) (lvR_mk [0] [0, 1] rfl rfl (by decide) (by decide) (List.forall_mem_cons.mpr ⟨List.mem_cons_self, (fun _ h => nomatch h)⟩) (List.forall_mem_cons.mpr ⟨Or.inl List.mem_cons_self, (List.forall_mem_cons.mpr ⟨Or.inr rfl, (fun _ h => nomatch h)⟩)⟩)) h
set_option maxRecDepth 100000 in
set_option maxHeartbeats 4000000 in
theorem bk_366_13 {b : Bool} {d : Nat} {t0 : Int32} {e : Nat → x_E} {g : Nat → Int32} {q : Nat → Int64} {c : Nat → Nat → Int32} {l : Nat → Nat → Int64} {R : Option Value × List x_E} (h1 : xCn .eq t0 0 = true → rr b e d 366 23 [(0, .ref 49)] [] g q c l R) (h2 : ¬ xCn .eq t0 0 = true → rr b e d 366 16 [(0, .ref 49)] [] g q c l R) : rr b e d 366 13 [(0, .ref 49)] [.int t0] g q c l R := by
  have key : ∀ f, nrun xZ (xY (xfm b)) xDT (f + 1) d 366 13 [(0, .ref 49)] [.int t0] (rH e g q c l) 0 0 = nrun xZ (xY (xfm b)) xDT f d 366 (if xCn .eq t0 0 = true then 23 else 16) [(0, .ref 49)] [] (rH e g q c l) 0 0 := by
    intro f
    obtain ⟨y, cb, hj⟩ := mq_366
    rw [n_step (st' := []) (pc' := (if xCn .eq t0 0 = true then 23 else 16)) (lv' := [(0, .ref 49)]) (hp' := rH e g q c l) (i := .ifCond .eq 10) (len := 3) rfl hj rfl rfl rfl]
  by_cases hc : xCn .eq t0 0 = true
  · obtain ⟨f, h⟩ := h1 hc
    refine ⟨f + 1, ?_⟩
    rw [key, if_pos hc]
    exact h
  · obtain ⟨f, h⟩ := h2 hc
    refine ⟨f + 1, ?_⟩
    rw [key, if_neg hc]
    exact h
set_option maxRecDepth 100000 in
set_option maxHeartbeats 4000000 in
theorem bk_366_16 {b : Bool} {d : Nat} {e : Nat → x_E} {g : Nat → Int32} {q : Nat → Int64} {c : Nat → Nat → Int32} {l : Nat → Nat → Int64} {g' : Nat → Int32} {q' : Nat → Int64} {c' : Nat → Nat → Int32} {l' : Nat → Nat → Int64} {R : Option Value × List x_E} (hc : rr b e d 340 0 [(0, .ref 49)] [] g q c l (none, rH e g' q' c' l')) (h : rr b e (d + 1) 366 20 [] [] g' q' c' l' R) : rr b e (d + 1) 366 16 [(0, .ref 49)] [] g q c l R := by
  obtain ⟨f1, hc⟩ := hc
  obtain ⟨f2, h⟩ := h
  obtain ⟨f, hf1, hf2⟩ : ∃ f, f1 ≤ f ∧ f2 ≤ f := ⟨max f1 f2, Nat.le_max_left _ _, Nat.le_max_right _ _⟩
  have hc := nrun_fuel f1 f _ _ _ _ _ _ _ _ _ hf1 hc
  have h := nrun_fuel f2 f _ _ _ _ _ _ _ _ _ hf2 h
  refine ⟨f + 2, ?_⟩
  obtain ⟨y, cb, hj⟩ := mq_366
  rw [n_step (st' := [.ref 49]) (pc' := 17) (lv' := [(0, .ref 49)]) (hp' := rH e g q c l) (i := .aload_n 0) (len := 1) rfl hj rfl rfl rfl]
  obtain ⟨y2, cb2, hj2⟩ := mq_340
  rw [n_call (f := f) (d := d) (ki := 0) (idx := 356) (j' := 340) (kd := 0) (M' := (y2, cb2, 1, none, 12, 0, 0, 0)) (avs := [.ref 49]) (r := []) (rv := none) (hp1 := rH e g' q' c' l') rfl hj rfl rfl rfl rfl (rq_n rfl rfl hj2 rfl rfl) rfl hc (Nat.le_of_ble_eq_true rfl)]
  exact nrun_ext f f _ _ R 366 20 [] [(0, .ref 49)] [] _ 0 0 122 (Nat.le_refl _) (Nat.le_refl _) (Nat.le_of_ble_eq_true rfl) (lvR_mk [] [0] rfl rfl (by decide) (by decide) (fun _ h => nomatch h) (List.forall_mem_cons.mpr ⟨Or.inr rfl, (fun _ h => nomatch h)⟩)) h
set_option maxRecDepth 100000 in
set_option maxHeartbeats 4000000 in
theorem bk_366_20 {b : Bool} {d : Nat} {e : Nat → x_E} {g : Nat → Int32} {q : Nat → Int64} {c : Nat → Nat → Int32} {l : Nat → Nat → Int64} {R : Option Value × List x_E} (h : rr b e d 366 27 [] [] g q c l R) : rr b e d 366 20 [] [] g q c l R := by
  obtain ⟨f, h⟩ := h
  refine ⟨f + 1, ?_⟩
  obtain ⟨y, cb, hj⟩ := mq_366
  rw [n_step (st' := []) (pc' := 27) (lv' := []) (hp' := rH e g q c l) (i := .goto 7) (len := 3) rfl hj rfl rfl rfl]
  exact h
set_option maxRecDepth 100000 in
set_option maxHeartbeats 4000000 in
theorem bk_366_23 {b : Bool} {d : Nat} {e : Nat → x_E} {g : Nat → Int32} {q : Nat → Int64} {c : Nat → Nat → Int32} {l : Nat → Nat → Int64} {g' : Nat → Int32} {q' : Nat → Int64} {c' : Nat → Nat → Int32} {l' : Nat → Nat → Int64} {R : Option Value × List x_E} (hc : rr b e d 342 0 [(0, .ref 49)] [] g q c l (none, rH e g' q' c' l')) (h : rr b e (d + 1) 366 27 [] [] g' q' c' l' R) : rr b e (d + 1) 366 23 [(0, .ref 49)] [] g q c l R := by
  obtain ⟨f1, hc⟩ := hc
  obtain ⟨f2, h⟩ := h
  obtain ⟨f, hf1, hf2⟩ : ∃ f, f1 ≤ f ∧ f2 ≤ f := ⟨max f1 f2, Nat.le_max_left _ _, Nat.le_max_right _ _⟩
  have hc := nrun_fuel f1 f _ _ _ _ _ _ _ _ _ hf1 hc
  have h := nrun_fuel f2 f _ _ _ _ _ _ _ _ _ hf2 h
  refine ⟨f + 2, ?_⟩
  obtain ⟨y, cb, hj⟩ := mq_366
  rw [n_step (st' := [.ref 49]) (pc' := 24) (lv' := [(0, .ref 49)]) (hp' := rH e g q c l) (i := .aload_n 0) (len := 1) rfl hj rfl rfl rfl]
  obtain ⟨y2, cb2, hj2⟩ := mq_342
  rw [n_call (f := f) (d := d) (ki := 0) (idx := 347) (j' := 342) (kd := 0) (M' := (y2, cb2, 1, none, 12, 0, 0, 0)) (avs := [.ref 49]) (r := []) (rv := none) (hp1 := rH e g' q' c' l') rfl hj rfl rfl rfl rfl (rq_n rfl rfl hj2 rfl rfl) rfl hc (Nat.le_of_ble_eq_true rfl)]
  exact nrun_ext f f _ _ R 366 27 [] [(0, .ref 49)] [] _ 0 0 122 (Nat.le_refl _) (Nat.le_refl _) (Nat.le_of_ble_eq_true rfl) (lvR_mk [] [0] rfl rfl (by decide) (by decide) (fun _ h => nomatch h) (List.forall_mem_cons.mpr ⟨Or.inr rfl, (fun _ h => nomatch h)⟩)) h
set_option maxRecDepth 100000 in
set_option maxHeartbeats 4000000 in
theorem bk_366_27 {b : Bool} {d : Nat} {e : Nat → x_E} {g : Nat → Int32} {q : Nat → Int64} {c : Nat → Nat → Int32} {l : Nat → Nat → Int64} : rr b e d 366 27 [] [] g q c l (none, rH e g q c l) := by
  refine ⟨0 + 1, ?_⟩
  obtain ⟨y, cb, hj⟩ := mq_366
  exact n_ret rfl hj rfl rfl rfl
set_option maxRecDepth 100000 in
set_option maxHeartbeats 4000000 in
theorem bk_367_0 {b : Bool} {d : Nat} {x1 x2 : Int32} {e : Nat → x_E} {g : Nat → Int32} {q : Nat → Int64} {c : Nat → Nat → Int32} {l : Nat → Nat → Int64} {R : Option Value × List x_E} (hz0 : ¬ (x1 < 0 ∨ 1300 ≤ (x1).toNatClampNeg)) (hz1 : ¬ (x2 < 0 ∨ 1300 ≤ (x2).toNatClampNeg)) (h1 : xCn .eq ((c 57 (x1).toNatClampNeg)) ((c 57 (x2).toNatClampNeg)) = true → rr b e d 367 17 [(0, .ref 49), (1, .int x1), (2, .int x2)] [] g q c l R) (h2 : ¬ xCn .eq ((c 57 (x1).toNatClampNeg)) ((c 57 (x2).toNatClampNeg)) = true → rr b e d 367 15 [] [] g q c l R) : rr b e d 367 0 [(0, .ref 49), (1, .int x1), (2, .int x2)] [] g q c l R := by
  have key : ∀ f, nrun xZ (xY (xfm b)) xDT (f + 9) d 367 0 [(0, .ref 49), (1, .int x1), (2, .int x2)] [] (rH e g q c l) 0 0 = nrun xZ (xY (xfm b)) xDT f d 367 (if xCn .eq ((c 57 (x1).toNatClampNeg)) ((c 57 (x2).toNatClampNeg)) = true then 17 else 15) [(0, .ref 49), (1, .int x1), (2, .int x2)] [] (rH e g q c l) 0 0 := by
    intro f
    obtain ⟨y, cb, hj⟩ := mq_367
    rw [n_step (st' := [.ref 49]) (pc' := 1) (lv' := [(0, .ref 49), (1, .int x1), (2, .int x2)]) (hp' := rH e g q c l) (i := .aload_n 0) (len := 1) rfl hj rfl rfl rfl]
    rw [n_get (st' := [.ref 57]) (pc' := 4) (lv' := [(0, .ref 49), (1, .int x1), (2, .int x2)]) (hp' := rH e g q c l) (i := .getfield 37) (len := 3) rfl hj rfl rfl rfl rfl]
    rw [n_step (st' := [.int x1, .ref 57]) (pc' := 5) (lv' := [(0, .ref 49), (1, .int x1), (2, .int x2)]) (hp' := rH e g q c l) (i := .iload_n 1) (len := 1) rfl hj rfl rfl rfl]
    rw [n_ial (st' := [.int (c 57 (x1).toNatClampNeg)]) rfl hj (ald_57 hz0)]
    rw [n_step (st' := [.ref 49, .int (c 57 (x1).toNatClampNeg)]) (pc' := 7) (lv' := [(0, .ref 49), (1, .int x1), (2, .int x2)]) (hp' := rH e g q c l) (i := .aload_n 0) (len := 1) rfl hj rfl rfl rfl]
    rw [n_get (st' := [.ref 57, .int (c 57 (x1).toNatClampNeg)]) (pc' := 10) (lv' := [(0, .ref 49), (1, .int x1), (2, .int x2)]) (hp' := rH e g q c l) (i := .getfield 37) (len := 3) rfl hj rfl rfl rfl rfl]
    rw [n_step (st' := [.int x2, .ref 57, .int (c 57 (x1).toNatClampNeg)]) (pc' := 11) (lv' := [(0, .ref 49), (1, .int x1), (2, .int x2)]) (hp' := rH e g q c l) (i := .iload_n 2) (len := 1) rfl hj rfl rfl rfl]
    rw [n_ial (st' := [.int (c 57 (x2).toNatClampNeg), .int (c 57 (x1).toNatClampNeg)]) rfl hj (ald_57 hz1)]
    rw [n_step (st' := []) (pc' := (if xCn .eq ((c 57 (x1).toNatClampNeg)) ((c 57 (x2).toNatClampNeg)) = true then 17 else 15)) (lv' := [(0, .ref 49), (1, .int x1), (2, .int x2)]) (hp' := rH e g q c l) (i := .if_icmp .eq 5) (len := 3) rfl hj rfl rfl rfl]
  by_cases hc : xCn .eq ((c 57 (x1).toNatClampNeg)) ((c 57 (x2).toNatClampNeg)) = true
  · obtain ⟨f, h⟩ := h1 hc
    refine ⟨f + 9, ?_⟩
    rw [key, if_pos hc]
    exact h
  · obtain ⟨f, h⟩ := h2 hc
    refine ⟨f + 9, ?_⟩
    rw [key, if_neg hc]
    exact nrun_ext f f _ _ R 367 15 [] [(0, .ref 49), (1, .int x1), (2, .int x2)] [] _ 0 0 122 (Nat.le_refl _) (Nat.le_refl _) (Nat.le_of_ble_eq_true rfl) (lvR_mk [] [0, 1, 2] rfl rfl (by decide) (by decide) (fun _ h => nomatch h) (List.forall_mem_cons.mpr ⟨Or.inr rfl, (List.forall_mem_cons.mpr ⟨Or.inr rfl, (List.forall_mem_cons.mpr ⟨Or.inr rfl, (fun _ h => nomatch h)⟩)⟩)⟩)) h
set_option maxRecDepth 100000 in
set_option maxHeartbeats 4000000 in
theorem bk_367_15 {b : Bool} {d : Nat} {e : Nat → x_E} {g : Nat → Int32} {q : Nat → Int64} {c : Nat → Nat → Int32} {l : Nat → Nat → Int64} : rr b e d 367 15 [] [] g q c l (some (.int (Int32.ofInt (0))), rH e g q c l) := by
  refine ⟨0 + 2, ?_⟩
  obtain ⟨y, cb, hj⟩ := mq_367
  rw [n_step (st' := [.int (Int32.ofInt (0))]) (pc' := 16) (lv' := []) (hp' := rH e g q c l) (i := .iconst 0) (len := 1) rfl hj rfl rfl rfl]
  exact n_ret rfl hj rfl rfl (x_ret rfl)
set_option maxRecDepth 100000 in
set_option maxHeartbeats 4000000 in
theorem bk_367_17 {b : Bool} {d : Nat} {x1 x2 : Int32} {e : Nat → x_E} {g : Nat → Int32} {q : Nat → Int64} {c : Nat → Nat → Int32} {l : Nat → Nat → Int64} {R : Option Value × List x_E} (h : rr b e d 367 19 [(0, .ref 49), (1, .int x1), (2, .int x2), (3, .int (Int32.ofInt (0)))] [] g q c l R) : rr b e d 367 17 [(0, .ref 49), (1, .int x1), (2, .int x2)] [] g q c l R := by
  obtain ⟨f, h⟩ := h
  refine ⟨f + 2, ?_⟩
  obtain ⟨y, cb, hj⟩ := mq_367
  rw [n_step (st' := [.int (Int32.ofInt (0))]) (pc' := 18) (lv' := [(0, .ref 49), (1, .int x1), (2, .int x2)]) (hp' := rH e g q c l) (i := .iconst 0) (len := 1) rfl hj rfl rfl rfl]
  rw [n_step (st' := []) (pc' := 19) (lv' := [(3, .int (Int32.ofInt (0))), (0, .ref 49), (1, .int x1), (2, .int x2)]) (hp' := rH e g q c l) (i := .istore_n 3) (len := 1) rfl hj rfl rfl rfl]
  exact nrun_ext f f _ _ R 367 19 [(0, .ref 49), (1, .int x1), (2, .int x2), (3, .int (Int32.ofInt (0)))] [(3, .int (Int32.ofInt (0))), (0, .ref 49), (1, .int x1), (2, .int x2)] [] _ 0 0 122 (Nat.le_refl _) (Nat.le_refl _) (Nat.le_of_ble_eq_true rfl) (lvR_mk [0, 1, 2, 3] [3, 0, 1, 2] rfl rfl (by decide) (by decide) (List.forall_mem_cons.mpr ⟨(List.mem_cons_of_mem _ List.mem_cons_self), (List.forall_mem_cons.mpr ⟨(List.mem_cons_of_mem _ (List.mem_cons_of_mem _ List.mem_cons_self)), (List.forall_mem_cons.mpr ⟨(List.mem_cons_of_mem _ (List.mem_cons_of_mem _ (List.mem_cons_of_mem _ List.mem_cons_self))), (List.forall_mem_cons.mpr ⟨List.mem_cons_self, (fun _ h => nomatch h)⟩)⟩)⟩)⟩) (List.forall_mem_cons.mpr ⟨Or.inl (List.mem_cons_of_mem _ (List.mem_cons_of_mem _ (List.mem_cons_of_mem _ List.mem_cons_self))), (List.forall_mem_cons.mpr ⟨Or.inl List.mem_cons_self, (List.forall_mem_cons.mpr ⟨Or.inl (List.mem_cons_of_mem _ List.mem_cons_self), (List.forall_mem_cons.mpr ⟨Or.inl (List.mem_cons_of_mem _ (List.mem_cons_of_mem _ List.mem_cons_self)), (fun _ h => nomatch h)⟩)⟩)⟩)⟩)) h
set_option maxRecDepth 100000 in
set_option maxHeartbeats 4000000 in
theorem bk_367_19 {b : Bool} {d : Nat} {x1 x2 x3 : Int32} {e : Nat → x_E} {g : Nat → Int32} {q : Nat → Int64} {c : Nat → Nat → Int32} {l : Nat → Nat → Int64} {R : Option Value × List x_E} (hz0 : ¬ (x1 < 0 ∨ 1300 ≤ (x1).toNatClampNeg)) (h1 : xCn .ge x3 ((c 57 (x1).toNatClampNeg)) = true → rr b e d 367 66 [] [] g q c l R) (h2 : ¬ xCn .ge x3 ((c 57 (x1).toNatClampNeg)) = true → rr b e d 367 29 [(0, .ref 49), (1, .int x1), (2, .int x2), (3, .int x3)] [] g q c l R) : rr b e d 367 19 [(0, .ref 49), (1, .int x1), (2, .int x2), (3, .int x3)] [] g q c l R := by
  have key : ∀ f, nrun xZ (xY (xfm b)) xDT (f + 6) d 367 19 [(0, .ref 49), (1, .int x1), (2, .int x2), (3, .int x3)] [] (rH e g q c l) 0 0 = nrun xZ (xY (xfm b)) xDT f d 367 (if xCn .ge x3 ((c 57 (x1).toNatClampNeg)) = true then 66 else 29) [(0, .ref 49), (1, .int x1), (2, .int x2), (3, .int x3)] [] (rH e g q c l) 0 0 := by
    intro f
    obtain ⟨y, cb, hj⟩ := mq_367
    rw [n_step (st' := [.int x3]) (pc' := 20) (lv' := [(0, .ref 49), (1, .int x1), (2, .int x2), (3, .int x3)]) (hp' := rH e g q c l) (i := .iload_n 3) (len := 1) rfl hj rfl rfl rfl]
    rw [n_step (st' := [.ref 49, .int x3]) (pc' := 21) (lv' := [(0, .ref 49), (1, .int x1), (2, .int x2), (3, .int x3)]) (hp' := rH e g q c l) (i := .aload_n 0) (len := 1) rfl hj rfl rfl rfl]
    rw [n_get (st' := [.ref 57, .int x3]) (pc' := 24) (lv' := [(0, .ref 49), (1, .int x1), (2, .int x2), (3, .int x3)]) (hp' := rH e g q c l) (i := .getfield 37) (len := 3) rfl hj rfl rfl rfl rfl]
    rw [n_step (st' := [.int x1, .ref 57, .int x3]) (pc' := 25) (lv' := [(0, .ref 49), (1, .int x1), (2, .int x2), (3, .int x3)]) (hp' := rH e g q c l) (i := .iload_n 1) (len := 1) rfl hj rfl rfl rfl]
    rw [n_ial (st' := [.int (c 57 (x1).toNatClampNeg), .int x3]) rfl hj (ald_57 hz0)]
    rw [n_step (st' := []) (pc' := (if xCn .ge x3 ((c 57 (x1).toNatClampNeg)) = true then 66 else 29)) (lv' := [(0, .ref 49), (1, .int x1), (2, .int x2), (3, .int x3)]) (hp' := rH e g q c l) (i := .if_icmp .ge 40) (len := 3) rfl hj rfl rfl rfl]
  by_cases hc : xCn .ge x3 ((c 57 (x1).toNatClampNeg)) = true
  · obtain ⟨f, h⟩ := h1 hc
    refine ⟨f + 6, ?_⟩
    rw [key, if_pos hc]
    exact nrun_ext f f _ _ R 367 66 [] [(0, .ref 49), (1, .int x1), (2, .int x2), (3, .int x3)] [] _ 0 0 122 (Nat.le_refl _) (Nat.le_refl _) (Nat.le_of_ble_eq_true rfl) (lvR_mk [] [0, 1, 2, 3] rfl rfl (by decide) (by decide) (fun _ h => nomatch h) (List.forall_mem_cons.mpr ⟨Or.inr rfl, (List.forall_mem_cons.mpr ⟨Or.inr rfl, (List.forall_mem_cons.mpr ⟨Or.inr rfl, (List.forall_mem_cons.mpr ⟨Or.inr rfl, (fun _ h => nomatch h)⟩)⟩)⟩)⟩)) h
  · obtain ⟨f, h⟩ := h2 hc
    refine ⟨f + 6, ?_⟩
    rw [key, if_neg hc]
    exact h
set_option maxRecDepth 100000 in
set_option maxHeartbeats 4000000 in
theorem bk_367_29 {b : Bool} {d : Nat} {x1 x2 x3 : Int32} {e : Nat → x_E} {g : Nat → Int32} {q : Nat → Int64} {c : Nat → Nat → Int32} {l : Nat → Nat → Int64} {R : Option Value × List x_E} (hz0 : ¬ (x1 < 0 ∨ 1300 ≤ (x1).toNatClampNeg)) (hz1 : ¬ (((c 56 (x1).toNatClampNeg) + x3) < 0 ∨ 66000 ≤ (((c 56 (x1).toNatClampNeg) + x3)).toNatClampNeg)) (hz2 : ¬ (x2 < 0 ∨ 1300 ≤ (x2).toNatClampNeg)) (hz3 : ¬ (((c 56 (x2).toNatClampNeg) + x3) < 0 ∨ 66000 ≤ (((c 56 (x2).toNatClampNeg) + x3)).toNatClampNeg)) (h1 : xCn .eq ((c 55 (((c 56 (x1).toNatClampNeg) + x3)).toNatClampNeg)) ((c 55 (((c 56 (x2).toNatClampNeg) + x3)).toNatClampNeg)) = true → rr b e d 367 60 [(0, .ref 49), (1, .int x1), (2, .int x2), (3, .int x3)] [] g q c l R) (h2 : ¬ xCn .eq ((c 55 (((c 56 (x1).toNatClampNeg) + x3)).toNatClampNeg)) ((c 55 (((c 56 (x2).toNatClampNeg) + x3)).toNatClampNeg)) = true → rr b e d 367 58 [] [] g q c l R) : rr b e d 367 29 [(0, .ref 49), (1, .int x1), (2, .int x2), (3, .int x3)] [] g q c l R := by
  have key : ∀ f, nrun xZ (xY (xfm b)) xDT (f + 19) d 367 29 [(0, .ref 49), (1, .int x1), (2, .int x2), (3, .int x3)] [] (rH e g q c l) 0 0 = nrun xZ (xY (xfm b)) xDT f d 367 (if xCn .eq ((c 55 (((c 56 (x1).toNatClampNeg) + x3)).toNatClampNeg)) ((c 55 (((c 56 (x2).toNatClampNeg) + x3)).toNatClampNeg)) = true then 60 else 58) [(0, .ref 49), (1, .int x1), (2, .int x2), (3, .int x3)] [] (rH e g q c l) 0 0 := by
    intro f
    obtain ⟨y, cb, hj⟩ := mq_367
    rw [n_step (st' := [.ref 49]) (pc' := 30) (lv' := [(0, .ref 49), (1, .int x1), (2, .int x2), (3, .int x3)]) (hp' := rH e g q c l) (i := .aload_n 0) (len := 1) rfl hj rfl rfl rfl]
    rw [n_get (st' := [.ref 55]) (pc' := 33) (lv' := [(0, .ref 49), (1, .int x1), (2, .int x2), (3, .int x3)]) (hp' := rH e g q c l) (i := .getfield 31) (len := 3) rfl hj rfl rfl rfl rfl]
    rw [n_step (st' := [.ref 49, .ref 55]) (pc' := 34) (lv' := [(0, .ref 49), (1, .int x1), (2, .int x2), (3, .int x3)]) (hp' := rH e g q c l) (i := .aload_n 0) (len := 1) rfl hj rfl rfl rfl]
    rw [n_get (st' := [.ref 56, .ref 55]) (pc' := 37) (lv' := [(0, .ref 49), (1, .int x1), (2, .int x2), (3, .int x3)]) (hp' := rH e g q c l) (i := .getfield 34) (len := 3) rfl hj rfl rfl rfl rfl]
    rw [n_step (st' := [.int x1, .ref 56, .ref 55]) (pc' := 38) (lv' := [(0, .ref 49), (1, .int x1), (2, .int x2), (3, .int x3)]) (hp' := rH e g q c l) (i := .iload_n 1) (len := 1) rfl hj rfl rfl rfl]
    rw [n_ial (st' := [.int (c 56 (x1).toNatClampNeg), .ref 55]) rfl hj (ald_56 hz0)]
    rw [n_step (st' := [.int x3, .int (c 56 (x1).toNatClampNeg), .ref 55]) (pc' := 40) (lv' := [(0, .ref 49), (1, .int x1), (2, .int x2), (3, .int x3)]) (hp' := rH e g q c l) (i := .iload_n 3) (len := 1) rfl hj rfl rfl rfl]
    rw [n_step (st' := [.int ((c 56 (x1).toNatClampNeg) + x3), .ref 55]) (pc' := 41) (lv' := [(0, .ref 49), (1, .int x1), (2, .int x2), (3, .int x3)]) (hp' := rH e g q c l) (i := .iadd) (len := 1) rfl hj rfl rfl rfl]
    rw [n_ial (st' := [.int (c 55 (((c 56 (x1).toNatClampNeg) + x3)).toNatClampNeg)]) rfl hj (ald_55 hz1)]
    rw [n_step (st' := [.ref 49, .int (c 55 (((c 56 (x1).toNatClampNeg) + x3)).toNatClampNeg)]) (pc' := 43) (lv' := [(0, .ref 49), (1, .int x1), (2, .int x2), (3, .int x3)]) (hp' := rH e g q c l) (i := .aload_n 0) (len := 1) rfl hj rfl rfl rfl]
    rw [n_get (st' := [.ref 55, .int (c 55 (((c 56 (x1).toNatClampNeg) + x3)).toNatClampNeg)]) (pc' := 46) (lv' := [(0, .ref 49), (1, .int x1), (2, .int x2), (3, .int x3)]) (hp' := rH e g q c l) (i := .getfield 31) (len := 3) rfl hj rfl rfl rfl rfl]
    rw [n_step (st' := [.ref 49, .ref 55, .int (c 55 (((c 56 (x1).toNatClampNeg) + x3)).toNatClampNeg)]) (pc' := 47) (lv' := [(0, .ref 49), (1, .int x1), (2, .int x2), (3, .int x3)]) (hp' := rH e g q c l) (i := .aload_n 0) (len := 1) rfl hj rfl rfl rfl]
    rw [n_get (st' := [.ref 56, .ref 55, .int (c 55 (((c 56 (x1).toNatClampNeg) + x3)).toNatClampNeg)]) (pc' := 50) (lv' := [(0, .ref 49), (1, .int x1), (2, .int x2), (3, .int x3)]) (hp' := rH e g q c l) (i := .getfield 34) (len := 3) rfl hj rfl rfl rfl rfl]
    rw [n_step (st' := [.int x2, .ref 56, .ref 55, .int (c 55 (((c 56 (x1).toNatClampNeg) + x3)).toNatClampNeg)]) (pc' := 51) (lv' := [(0, .ref 49), (1, .int x1), (2, .int x2), (3, .int x3)]) (hp' := rH e g q c l) (i := .iload_n 2) (len := 1) rfl hj rfl rfl rfl]
    rw [n_ial (st' := [.int (c 56 (x2).toNatClampNeg), .ref 55, .int (c 55 (((c 56 (x1).toNatClampNeg) + x3)).toNatClampNeg)]) rfl hj (ald_56 hz2)]
    rw [n_step (st' := [.int x3, .int (c 56 (x2).toNatClampNeg), .ref 55, .int (c 55 (((c 56 (x1).toNatClampNeg) + x3)).toNatClampNeg)]) (pc' := 53) (lv' := [(0, .ref 49), (1, .int x1), (2, .int x2), (3, .int x3)]) (hp' := rH e g q c l) (i := .iload_n 3) (len := 1) rfl hj rfl rfl rfl]
    rw [n_step (st' := [.int ((c 56 (x2).toNatClampNeg) + x3), .ref 55, .int (c 55 (((c 56 (x1).toNatClampNeg) + x3)).toNatClampNeg)]) (pc' := 54) (lv' := [(0, .ref 49), (1, .int x1), (2, .int x2), (3, .int x3)]) (hp' := rH e g q c l) (i := .iadd) (len := 1) rfl hj rfl rfl rfl]
    rw [n_ial (st' := [.int (c 55 (((c 56 (x2).toNatClampNeg) + x3)).toNatClampNeg), .int (c 55 (((c 56 (x1).toNatClampNeg) + x3)).toNatClampNeg)]) rfl hj (ald_55 hz3)]
    rw [n_step (st' := []) (pc' := (if xCn .eq ((c 55 (((c 56 (x1).toNatClampNeg) + x3)).toNatClampNeg)) ((c 55 (((c 56 (x2).toNatClampNeg) + x3)).toNatClampNeg)) = true then 60 else 58)) (lv' := [(0, .ref 49), (1, .int x1), (2, .int x2), (3, .int x3)]) (hp' := rH e g q c l) (i := .if_icmp .eq 5) (len := 3) rfl hj rfl rfl rfl]
  by_cases hc : xCn .eq ((c 55 (((c 56 (x1).toNatClampNeg) + x3)).toNatClampNeg)) ((c 55 (((c 56 (x2).toNatClampNeg) + x3)).toNatClampNeg)) = true
  · obtain ⟨f, h⟩ := h1 hc
    refine ⟨f + 19, ?_⟩
    rw [key, if_pos hc]
    exact h
  · obtain ⟨f, h⟩ := h2 hc
    refine ⟨f + 19, ?_⟩
    rw [key, if_neg hc]
    exact nrun_ext f f _ _ R 367 58 [] [(0, .ref 49), (1, .int x1), (2, .int x2), (3, .int x3)] [] _ 0 0 122 (Nat.le_refl _) (Nat.le_refl _) (Nat.le_of_ble_eq_true rfl) (lvR_mk [] [0, 1, 2, 3] rfl rfl (by decide) (by decide) (fun _ h => nomatch h) (List.forall_mem_cons.mpr ⟨Or.inr rfl, (List.forall_mem_cons.mpr ⟨Or.inr rfl, (List.forall_mem_cons.mpr ⟨Or.inr rfl, (List.forall_mem_cons.mpr ⟨Or.inr rfl, (fun _ h => nomatch h)⟩)⟩)⟩)⟩)) h
set_option maxRecDepth 100000 in
set_option maxHeartbeats 4000000 in
theorem bk_367_58 {b : Bool} {d : Nat} {e : Nat → x_E} {g : Nat → Int32} {q : Nat → Int64} {c : Nat → Nat → Int32} {l : Nat → Nat → Int64} : rr b e d 367 58 [] [] g q c l (some (.int (Int32.ofInt (0))), rH e g q c l) := by
  refine ⟨0 + 2, ?_⟩
  obtain ⟨y, cb, hj⟩ := mq_367
  rw [n_step (st' := [.int (Int32.ofInt (0))]) (pc' := 59) (lv' := []) (hp' := rH e g q c l) (i := .iconst 0) (len := 1) rfl hj rfl rfl rfl]
  exact n_ret rfl hj rfl rfl (x_ret rfl)
set_option maxRecDepth 100000 in
set_option maxHeartbeats 4000000 in
theorem bk_367_60 {b : Bool} {d : Nat} {x1 x2 x3 : Int32} {e : Nat → x_E} {g : Nat → Int32} {q : Nat → Int64} {c : Nat → Nat → Int32} {l : Nat → Nat → Int64} {R : Option Value × List x_E} (h : rr b e d 367 19 [(0, .ref 49), (1, .int x1), (2, .int x2), (3, .int (x3 + Int32.ofInt (1)))] [] g q c l R) : rr b e d 367 60 [(0, .ref 49), (1, .int x1), (2, .int x2), (3, .int x3)] [] g q c l R := by
  obtain ⟨f, h⟩ := h
  refine ⟨f + 2, ?_⟩
  obtain ⟨y, cb, hj⟩ := mq_367
  rw [n_step (st' := []) (pc' := 63) (lv' := [(3, .int (x3 + Int32.ofInt (1))), (0, .ref 49), (1, .int x1), (2, .int x2)]) (hp' := rH e g q c l) (i := .iinc 3 1) (len := 3) rfl hj rfl rfl rfl]
  rw [n_step (st' := []) (pc' := 19) (lv' := [(3, .int (x3 + Int32.ofInt (1))), (0, .ref 49), (1, .int x1), (2, .int x2)]) (hp' := rH e g q c l) (i := .goto (-44)) (len := 3) rfl hj rfl rfl rfl]
  exact nrun_ext f f _ _ R 367 19 [(0, .ref 49), (1, .int x1), (2, .int x2), (3, .int (x3 + Int32.ofInt (1)))] [(3, .int (x3 + Int32.ofInt (1))), (0, .ref 49), (1, .int x1), (2, .int x2)] [] _ 0 0 122 (Nat.le_refl _) (Nat.le_refl _) (Nat.le_of_ble_eq_true rfl) (lvR_mk [0, 1, 2, 3] [3, 0, 1, 2] rfl rfl (by decide) (by decide) (List.forall_mem_cons.mpr ⟨(List.mem_cons_of_mem _ List.mem_cons_self), (List.forall_mem_cons.mpr ⟨(List.mem_cons_of_mem _ (List.mem_cons_of_mem _ List.mem_cons_self)), (List.forall_mem_cons.mpr ⟨(List.mem_cons_of_mem _ (List.mem_cons_of_mem _ (List.mem_cons_of_mem _ List.mem_cons_self))), (List.forall_mem_cons.mpr ⟨List.mem_cons_self, (fun _ h => nomatch h)⟩)⟩)⟩)⟩) (List.forall_mem_cons.mpr ⟨Or.inl (List.mem_cons_of_mem _ (List.mem_cons_of_mem _ (List.mem_cons_of_mem _ List.mem_cons_self))), (List.forall_mem_cons.mpr ⟨Or.inl List.mem_cons_self, (List.forall_mem_cons.mpr ⟨Or.inl (List.mem_cons_of_mem _ List.mem_cons_self), (List.forall_mem_cons.mpr ⟨Or.inl (List.mem_cons_of_mem _ (List.mem_cons_of_mem _ List.mem_cons_self)), (fun _ h => nomatch h)⟩)⟩)⟩)⟩)) h
set_option maxRecDepth 100000 in
set_option maxHeartbeats 4000000 in
theorem bk_367_66 {b : Bool} {d : Nat} {e : Nat → x_E} {g : Nat → Int32} {q : Nat → Int64} {c : Nat → Nat → Int32} {l : Nat → Nat → Int64} : rr b e d 367 66 [] [] g q c l (some (.int (Int32.ofInt (1))), rH e g q c l) := by
  refine ⟨0 + 2, ?_⟩
  obtain ⟨y, cb, hj⟩ := mq_367
  rw [n_step (st' := [.int (Int32.ofInt (1))]) (pc' := 67) (lv' := []) (hp' := rH e g q c l) (i := .iconst 1) (len := 1) rfl hj rfl rfl rfl]
  exact n_ret rfl hj rfl rfl (x_ret rfl)
set_option maxRecDepth 100000 in
set_option maxHeartbeats 4000000 in
theorem bk_368_0 {b : Bool} {d : Nat} {e : Nat → x_E} {g : Nat → Int32} {q : Nat → Int64} {c : Nat → Nat → Int32} {l : Nat → Nat → Int64} {g' : Nat → Int32} {q' : Nat → Int64} {c' : Nat → Nat → Int32} {l' : Nat → Nat → Int64} {R : Option Value × List x_E} (hc : rr b e d 340 0 [(0, .ref 49)] [] g q c l (none, rH e g' q' c' l')) (h : rr b e (d + 1) 368 9 [(0, .ref 49), (1, .int (g 11))] [] g' q' c' l' R) : rr b e (d + 1) 368 0 [(0, .ref 49)] [] g q c l R := by
  obtain ⟨f1, hc⟩ := hc
  obtain ⟨f2, h⟩ := h
  obtain ⟨f, hf1, hf2⟩ : ∃ f, f1 ≤ f ∧ f2 ≤ f := ⟨max f1 f2, Nat.le_max_left _ _, Nat.le_max_right _ _⟩
  have hc := nrun_fuel f1 f _ _ _ _ _ _ _ _ _ hf1 hc
  have h := nrun_fuel f2 f _ _ _ _ _ _ _ _ _ hf2 h
  refine ⟨f + 5, ?_⟩
  obtain ⟨y, cb, hj⟩ := mq_368
  rw [n_step (st' := [.ref 49]) (pc' := 1) (lv' := [(0, .ref 49)]) (hp' := rH e g q c l) (i := .aload_n 0) (len := 1) rfl hj rfl rfl rfl]
  rw [n_get (st' := [.int (g 11)]) (pc' := 4) (lv' := [(0, .ref 49)]) (hp' := rH e g q c l) (i := .getfield 257) (len := 3) rfl hj rfl rfl rfl rfl]
  rw [n_step (st' := []) (pc' := 5) (lv' := [(1, .int (g 11)), (0, .ref 49)]) (hp' := rH e g q c l) (i := .istore_n 1) (len := 1) rfl hj rfl rfl rfl]
  rw [n_step (st' := [.ref 49]) (pc' := 6) (lv' := [(1, .int (g 11)), (0, .ref 49)]) (hp' := rH e g q c l) (i := .aload_n 0) (len := 1) rfl hj rfl rfl rfl]
  obtain ⟨y2, cb2, hj2⟩ := mq_340
  rw [n_call (f := f) (d := d) (ki := 0) (idx := 356) (j' := 340) (kd := 0) (M' := (y2, cb2, 1, none, 12, 0, 0, 0)) (avs := [.ref 49]) (r := []) (rv := none) (hp1 := rH e g' q' c' l') rfl hj rfl rfl rfl rfl (rq_n rfl rfl hj2 rfl rfl) rfl hc (Nat.le_of_ble_eq_true rfl)]
  exact nrun_ext f f _ _ R 368 9 [(0, .ref 49), (1, .int (g 11))] [(1, .int (g 11)), (0, .ref 49)] [] _ 0 0 122 (Nat.le_refl _) (Nat.le_refl _) (Nat.le_of_ble_eq_true rfl) (lvR_mk [0, 1] [1, 0] rfl rfl (by decide) (by decide) (List.forall_mem_cons.mpr ⟨(List.mem_cons_of_mem _ List.mem_cons_self), (List.forall_mem_cons.mpr ⟨List.mem_cons_self, (fun _ h => nomatch h)⟩)⟩) (List.forall_mem_cons.mpr ⟨Or.inl (List.mem_cons_of_mem _ List.mem_cons_self), (List.forall_mem_cons.mpr ⟨Or.inl List.mem_cons_self, (fun _ h => nomatch h)⟩)⟩)) h
