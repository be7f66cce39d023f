set_option maxRecDepth 100000 in
set_option maxHeartbeats 4000000 in
theorem bk_389_133 {b : Bool} {d : Nat} {t0 : Int32} {e : Nat → x_E} {g : Nat → Int32} {q : Nat → Int64} {c : Nat → Nat → Int32} {l : Nat → Nat → Int64} : rr b e d 389 133 [] [.int t0] g q c l (some (.int t0), rH e g q c l) := by
  refine ⟨0 + 1, ?_⟩
  obtain ⟨y, cb, hj⟩ := mq_389
  exact n_ret rfl hj rfl rfl (x_ret rfl)
set_option maxRecDepth 100000 in
set_option maxHeartbeats 4000000 in
theorem bk_390_0 {b : Bool} {d : Nat} {e : Nat → x_E} {g : Nat → Int32} {q : Nat → Int64} {c : Nat → Nat → Int32} {l : Nat → Nat → Int64} {R : Option Value × List x_E} (h1 : xCn .ne ((g 19)) 0 = true → rr b e d 390 30 [(0, .ref 49)] [] g q c l R) (h2 : ¬ xCn .ne ((g 19)) 0 = true → rr b e d 390 7 [(0, .ref 49)] [] g q c l R) : rr b e d 390 0 [(0, .ref 49)] [] g q c l R := by
  have key : ∀ f, nrun xZ (xY (xfm b)) xDT (f + 3) d 390 0 [(0, .ref 49)] [] (rH e g q c l) 0 0 = nrun xZ (xY (xfm b)) xDT f d 390 (if xCn .ne ((g 19)) 0 = true then 30 else 7) [(0, .ref 49)] [] (rH e g q c l) 0 0 := by
    intro f
    obtain ⟨y, cb, hj⟩ := mq_390
    rw [n_step (st' := [.ref 49]) (pc' := 1) (lv' := [(0, .ref 49)]) (hp' := rH e g q c l) (i := .aload_n 0) (len := 1) rfl hj rfl rfl rfl]
    rw [n_get (st' := [.int (g 19)]) (pc' := 4) (lv' := [(0, .ref 49)]) (hp' := rH e g q c l) (i := .getfield 319) (len := 3) rfl hj rfl rfl rfl rfl]
    rw [n_step (st' := []) (pc' := (if xCn .ne ((g 19)) 0 = true then 30 else 7)) (lv' := [(0, .ref 49)]) (hp' := rH e g q c l) (i := .ifCond .ne 26) (len := 3) rfl hj rfl rfl rfl]
  by_cases hc : xCn .ne ((g 19)) 0 = true
  · obtain ⟨f, h⟩ := h1 hc
    refine ⟨f + 3, ?_⟩
    rw [key, if_pos hc]
    exact h
  · obtain ⟨f, h⟩ := h2 hc
    refine ⟨f + 3, ?_⟩
    rw [key, if_neg hc]
    exact h
set_option maxRecDepth 100000 in
set_option maxHeartbeats 4000000 in
theorem bk_390_7 {b : Bool} {d : Nat} {e : Nat → x_E} {g : Nat → Int32} {q : Nat → Int64} {c : Nat → Nat → Int32} {l : Nat → Nat → Int64} {R : Option Value × List x_E} (h1 : xCn .eq ((g 21)) 0 = true → rr b e d 390 30 [(0, .ref 49)] [] g q c l R) (h2 : ¬ xCn .eq ((g 21)) 0 = true → rr b e d 390 14 [(0, .ref 49)] [] g q c l R) : rr b e d 390 7 [(0, .ref 49)] [] g q c l R := by
  have key : ∀ f, nrun xZ (xY (xfm b)) xDT (f + 3) d 390 7 [(0, .ref 49)] [] (rH e g q c l) 0 0 = nrun xZ (xY (xfm b)) xDT f d 390 (if xCn .eq ((g 21)) 0 = true then 30 else 14) [(0, .ref 49)] [] (rH e g q c l) 0 0 := by
    intro f
    obtain ⟨y, cb, hj⟩ := mq_390
    rw [n_step (st' := [.ref 49]) (pc' := 8) (lv' := [(0, .ref 49)]) (hp' := rH e g q c l) (i := .aload_n 0) (len := 1) rfl hj rfl rfl rfl]
    rw [n_get (st' := [.int (g 21)]) (pc' := 11) (lv' := [(0, .ref 49)]) (hp' := rH e g q c l) (i := .getfield 331) (len := 3) rfl hj rfl rfl rfl rfl]
    rw [n_step (st' := []) (pc' := (if xCn .eq ((g 21)) 0 = true then 30 else 14)) (lv' := [(0, .ref 49)]) (hp' := rH e g q c l) (i := .ifCond .eq 19) (len := 3) rfl hj rfl rfl rfl]
  by_cases hc : xCn .eq ((g 21)) 0 = true
  · obtain ⟨f, h⟩ := h1 hc
    refine ⟨f + 3, ?_⟩
    rw [key, if_pos hc]
    exact h
  · obtain ⟨f, h⟩ := h2 hc
    refine ⟨f + 3, ?_⟩
    rw [key, if_neg hc]
    exact h
set_option maxRecDepth 100000 in
set_option maxHeartbeats 4000000 in
theorem bk_390_14 {b : Bool} {d : Nat} {e : Nat → x_E} {g : Nat → Int32} {q : Nat → Int64} {c : Nat → Nat → Int32} {l : Nat → Nat → Int64} {R : Option Value × List x_E} (h : rr b e d 390 30 [(0, .ref 49)] [] (upd (upd g 19 ((g 21))) 20 (((upd g 19 ((g 21))) 22))) q c l R) : rr b e d 390 14 [(0, .ref 49)] [] g q c l R := by
  obtain ⟨f, h⟩ := h
  refine ⟨f + 8, ?_⟩
  obtain ⟨y, cb, hj⟩ := mq_390
  rw [n_step (st' := [.ref 49]) (pc' := 15) (lv' := [(0, .ref 49)]) (hp' := rH e g q c l) (i := .aload_n 0) (len := 1) rfl hj rfl rfl rfl]
  rw [n_step (st' := [.ref 49, .ref 49]) (pc' := 16) (lv' := [(0, .ref 49)]) (hp' := rH e g q c l) (i := .aload_n 0) (len := 1) rfl hj rfl rfl rfl]
  rw [n_get (st' := [.int (g 21), .ref 49]) (pc' := 19) (lv' := [(0, .ref 49)]) (hp' := rH e g q c l) (i := .getfield 331) (len := 3) rfl hj rfl rfl rfl rfl]
  rw [n_put (st' := []) (hp' := rH e (upd g 19 ((g 21))) q c l) rfl hj pf_19]
  rw [n_step (st' := [.ref 49]) (pc' := 23) (lv' := [(0, .ref 49)]) (hp' := rH e (upd g 19 ((g 21))) q c l) (i := .aload_n 0) (len := 1) rfl hj rfl rfl rfl]
  rw [n_step (st' := [.ref 49, .ref 49]) (pc' := 24) (lv' := [(0, .ref 49)]) (hp' := rH e (upd g 19 ((g 21))) q c l) (i := .aload_n 0) (len := 1) rfl hj rfl rfl rfl]
  rw [n_get (st' := [.int ((upd g 19 ((g 21))) 22), .ref 49]) (pc' := 27) (lv' := [(0, .ref 49)]) (hp' := rH e (upd g 19 ((g 21))) q c l) (i := .getfield 334) (len := 3) rfl hj rfl rfl rfl rfl]
  rw [n_put (st' := []) (hp' := rH e (upd (upd g 19 ((g 21))) 20 (((upd g 19 ((g 21))) 22))) q c l) rfl hj pf_20]
  exact h
set_option maxRecDepth 100000 in
set_option maxHeartbeats 4000000 in
theorem bk_390_30 {b : Bool} {d : Nat} {e : Nat → x_E} {g : Nat → Int32} {q : Nat → Int64} {c : Nat → Nat → Int32} {l : Nat → Nat → Int64} {R : Option Value × List x_E} (h1 : xCn .ne ((g 19)) 0 = true → rr b e d 390 42 [(0, .ref 49)] [.ref 49] g q c l R) (h2 : ¬ xCn .ne ((g 19)) 0 = true → rr b e d 390 38 [(0, .ref 49)] [.ref 49] g q c l R) : rr b e d 390 30 [(0, .ref 49)] [] g q c l R := by
  have key : ∀ f, nrun xZ (xY (xfm b)) xDT (f + 4) d 390 30 [(0, .ref 49)] [] (rH e g q c l) 0 0 = nrun xZ (xY (xfm b)) xDT f d 390 (if xCn .ne ((g 19)) 0 = true then 42 else 38) [(0, .ref 49)] [.ref 49] (rH e g q c l) 0 0 := by
    intro f
    obtain ⟨y, cb, hj⟩ := mq_390
    rw [n_step (st' := [.ref 49]) (pc' := 31) (lv' := [(0, .ref 49)]) (hp' := rH e g q c l) (i := .aload_n 0) (len := 1) rfl hj rfl rfl rfl]
    rw [n_step (st' := [.ref 49, .ref 49]) (pc' := 32) (lv' := [(0, .ref 49)]) (hp' := rH e g q c l) (i := .aload_n 0) (len := 1) rfl hj rfl rfl rfl]
    rw [n_get (st' := [.int (g 19), .ref 49]) (pc' := 35) (lv' := [(0, .ref 49)]) (hp' := rH e g q c l) (i := .getfield 319) (len := 3) rfl hj rfl rfl rfl rfl]
    rw [n_step (st' := [.ref 49]) (pc' := (if xCn .ne ((g 19)) 0 = true then 42 else 38)) (lv' := [(0, .ref 49)]) (hp' := rH e g q c l) (i := .ifCond .ne 7) (len := 3) rfl hj rfl rfl rfl]
  by_cases hc : xCn .ne ((g 19)) 0 = true
  · obtain ⟨f, h⟩ := h1 hc
    refine ⟨f + 4, ?_⟩
    rw [key, if_pos hc]
    exact h
  · obtain ⟨f, h⟩ := h2 hc
    refine ⟨f + 4, ?_⟩
    rw [key, if_neg hc]
    exact h
set_option maxRecDepth 100000 in
set_option maxHeartbeats 4000000 in
theorem bk_390_38 {b : Bool} {d : Nat} {e : Nat → x_E} {g : Nat → Int32} {q : Nat → Int64} {c : Nat → Nat → Int32} {l : Nat → Nat → Int64} {R : Option Value × List x_E} (h : rr b e d 390 46 [(0, .ref 49)] [.int (Int32.ofInt (-1)), .ref 49] g q c l R) : rr b e d 390 38 [(0, .ref 49)] [.ref 49] g q c l R := by
  obtain ⟨f, h⟩ := h
  refine ⟨f + 2, ?_⟩
  obtain ⟨y, cb, hj⟩ := mq_390
  rw [n_step (st' := [.int (Int32.ofInt (-1)), .ref 49]) (pc' := 39) (lv' := [(0, .ref 49)]) (hp' := rH e g q c l) (i := .iconst (-1)) (len := 1) rfl hj rfl rfl rfl]
  rw [n_step (st' := [.int (Int32.ofInt (-1)), .ref 49]) (pc' := 46) (lv' := [(0, .ref 49)]) (hp' := rH e g q c l) (i := .goto 7) (len := 3) rfl hj rfl rfl rfl]
  exact h
set_option maxRecDepth 100000 in
set_option maxHeartbeats 4000000 in
theorem bk_390_42 {b : Bool} {d : Nat} {e : Nat → x_E} {g : Nat → Int32} {q : Nat → Int64} {c : Nat → Nat → Int32} {l : Nat → Nat → Int64} {R : Option Value × List x_E} (h : rr b e d 390 46 [(0, .ref 49)] [.int (g 20), .ref 49] g q c l R) : rr b e d 390 42 [(0, .ref 49)] [.ref 49] g q c l R := by
  obtain ⟨f, h⟩ := h
  refine ⟨f + 2, ?_⟩
  obtain ⟨y, cb, hj⟩ := mq_390
  rw [n_step (st' := [.ref 49, .ref 49]) (pc' := 43) (lv' := [(0, .ref 49)]) (hp' := rH e g q c l) (i := .aload_n 0) (len := 1) rfl hj rfl rfl rfl]
  rw [n_get (st' := [.int (g 20), .ref 49]) (pc' := 46) (lv' := [(0, .ref 49)]) (hp' := rH e g q c l) (i := .getfield 322) (len := 3) rfl hj rfl rfl rfl rfl]
  exact h
set_option maxRecDepth 100000 in
set_option maxHeartbeats 4000000 in
theorem bk_390_46 {b : Bool} {d : Nat} {t0 : Int32} {e : Nat → x_E} {g : Nat → Int32} {q : Nat → Int64} {c : Nat → Nat → Int32} {l : Nat → Nat → Int64} : rr b e d 390 46 [(0, .ref 49)] [.int t0, .ref 49] g q c l (some (.int ((upd g 4 t0) 19)), rH e (upd g 4 t0) q c l) := by
  refine ⟨0 + 4, ?_⟩
  obtain ⟨y, cb, hj⟩ := mq_390
  rw [n_put (st' := []) (hp' := rH e (upd g 4 t0) q c l) rfl hj pf_4]
  rw [n_step (st' := [.ref 49]) (pc' := 50) (lv' := [(0, .ref 49)]) (hp' := rH e (upd g 4 t0) q c l) (i := .aload_n 0) (len := 1) rfl hj rfl rfl rfl]
  rw [n_get (st' := [.int ((upd g 4 t0) 19)]) (pc' := 53) (lv' := [(0, .ref 49)]) (hp' := rH e (upd g 4 t0) q c l) (i := .getfield 319) (len := 3) rfl hj rfl rfl rfl rfl]
  exact n_ret rfl hj rfl rfl (x_ret rfl)
set_option maxRecDepth 100000 in
set_option maxHeartbeats 4000000 in
theorem bk_391_0 {b : Bool} {d : Nat} {x1 : Int32} {e : Nat → x_E} {g : Nat → Int32} {q : Nat → Int64} {c : Nat → Nat → Int32} {l : Nat → Nat → Int64} {R : Option Value × List x_E} (h1 : xCn .ne ((g 5)) ((Int32.ofInt (1))) = true → rr b e d 391 12 [] [] g q c l R) (h2 : ¬ xCn .ne ((g 5)) ((Int32.ofInt (1))) = true → rr b e d 391 8 [(0, .ref 49), (1, .int x1)] [] g q c l R) : rr b e d 391 0 [(0, .ref 49), (1, .int x1)] [] g q c l R := by
  have key : ∀ f, nrun xZ (xY (xfm b)) xDT (f + 4) d 391 0 [(0, .ref 49), (1, .int x1)] [] (rH e g q c l) 0 0 = nrun xZ (xY (xfm b)) xDT f d 391 (if xCn .ne ((g 5)) ((Int32.ofInt (1))) = true then 12 else 8) [(0, .ref 49), (1, .int x1)] [] (rH e g q c l) 0 0 := by
    intro f
    obtain ⟨y, cb, hj⟩ := mq_391
    rw [n_step (st' := [.ref 49]) (pc' := 1) (lv' := [(0, .ref 49), (1, .int x1)]) (hp' := rH e g q c l) (i := .aload_n 0) (len := 1) rfl hj rfl rfl rfl]
    rw [n_get (st' := [.int (g 5)]) (pc' := 4) (lv' := [(0, .ref 49), (1, .int x1)]) (hp' := rH e g q c l) (i := .getfield 575) (len := 3) rfl hj rfl rfl rfl rfl]
    rw [n_step (st' := [.int (Int32.ofInt (1)), .int (g 5)]) (pc' := 5) (lv' := [(0, .ref 49), (1, .int x1)]) (hp' := rH e g q c l) (i := .iconst 1) (len := 1) rfl hj rfl rfl rfl]
    rw [n_step (st' := []) (pc' := (if xCn .ne ((g 5)) ((Int32.ofInt (1))) = true then 12 else 8)) (lv' := [(0, .ref 49), (1, .int x1)]) (hp' := rH e g q c l) (i := .if_icmp .ne 7) (len := 3) rfl hj rfl rfl rfl]
  by_cases hc : xCn .ne ((g 5)) ((Int32.ofInt (1))) = true
  · obtain ⟨f, h⟩ := h1 hc
    refine ⟨f + 4, ?_⟩
    rw [key, if_pos hc]
    exact nrun_ext f f _ _ R 391 12 [] [(0, .ref 49), (1, .int x1)] [] _ 0 0 122 (Nat.le_refl _) (Nat.le_refl _) (Nat.le_of_ble_eq_true rfl) (lvR_mk [] [0, 1] rfl rfl (by decide) (by decide) (fun _ h => nomatch h) (List.forall_mem_cons.mpr ⟨Or.inr rfl, (List.forall_mem_cons.mpr ⟨Or.inr rfl, (fun _ h => nomatch h)⟩)⟩)) h
  · obtain ⟨f, h⟩ := h2 hc
    refine ⟨f + 4, ?_⟩
    rw [key, if_neg hc]
    exact h
set_option maxRecDepth 100000 in
set_option maxHeartbeats 4000000 in
theorem bk_391_8 {b : Bool} {d : Nat} {x1 : Int32} {e : Nat → x_E} {g : Nat → Int32} {q : Nat → Int64} {c : Nat → Nat → Int32} {l : Nat → Nat → Int64} {R : Option Value × List x_E} (h1 : xCn .ge x1 0 = true → rr b e d 391 14 [(0, .ref 49), (1, .int x1)] [] g q c l R) (h2 : ¬ xCn .ge x1 0 = true → rr b e d 391 12 [] [] g q c l R) : rr b e d 391 8 [(0, .ref 49), (1, .int x1)] [] g q c l R := by
  have key : ∀ f, nrun xZ (xY (xfm b)) xDT (f + 2) d 391 8 [(0, .ref 49), (1, .int x1)] [] (rH e g q c l) 0 0 = nrun xZ (xY (xfm b)) xDT f d 391 (if xCn .ge x1 0 = true then 14 else 12) [(0, .ref 49), (1, .int x1)] [] (rH e g q c l) 0 0 := by
    intro f
    obtain ⟨y, cb, hj⟩ := mq_391
    rw [n_step (st' := [.int x1]) (pc' := 9) (lv' := [(0, .ref 49), (1, .int x1)]) (hp' := rH e g q c l) (i := .iload_n 1) (len := 1) rfl hj rfl rfl rfl]
    rw [n_step (st' := []) (pc' := (if xCn .ge x1 0 = true then 14 else 12)) (lv' := [(0, .ref 49), (1, .int x1)]) (hp' := rH e g q c l) (i := .ifCond .ge 5) (len := 3) rfl hj rfl rfl rfl]
  by_cases hc : xCn .ge x1 0 = true
  · obtain ⟨f, h⟩ := h1 hc
    refine ⟨f + 2, ?_⟩
    rw [key, if_pos hc]
    exact h
  · obtain ⟨f, h⟩ := h2 hc
    refine ⟨f + 2, ?_⟩
    rw [key, if_neg hc]
    exact nrun_ext f f _ _ R 391 12 [] [(0, .ref 49), (1, .int x1)] [] _ 0 0 122 (Nat.le_refl _) (Nat.le_refl _) (Nat.le_of_ble_eq_true rfl) (lvR_mk [] [0, 1] rfl rfl (by decide) (by decide) (fun _ h => nomatch h) (List.forall_mem_cons.mpr ⟨Or.inr rfl, (List.forall_mem_cons.mpr ⟨Or.inr rfl, (fun _ h => nomatch h)⟩)⟩)) h
set_option maxRecDepth 100000 in
set_option maxHeartbeats 4000000 in
theorem bk_391_12 {b : Bool} {d : Nat} {e : Nat → x_E} {g : Nat → Int32} {q : Nat → Int64} {c : Nat → Nat → Int32} {l : Nat → Nat → Int64} : rr b e d 391 12 [] [] g q c l (some (.int (Int32.ofInt (-1))), rH e g q c l) := by
  refine ⟨0 + 2, ?_⟩
  obtain ⟨y, cb, hj⟩ := mq_391
  rw [n_step (st' := [.int (Int32.ofInt (-1))]) (pc' := 13) (lv' := []) (hp' := rH e g q c l) (i := .iconst (-1)) (len := 1) rfl hj rfl rfl rfl]
  exact n_ret rfl hj rfl rfl (x_ret rfl)
set_option maxRecDepth 100000 in
set_option maxHeartbeats 4000000 in
theorem bk_391_14 {b : Bool} {d : Nat} {x1 : Int32} {e : Nat → x_E} {g : Nat → Int32} {q : Nat → Int64} {c : Nat → Nat → Int32} {l : Nat → Nat → Int64} {g' : Nat → Int32} {q' : Nat → Int64} {c' : Nat → Nat → Int32} {l' : Nat → Nat → Int64} {R : Option Value × List x_E} (hz0 : ¬ ((g 63) < 0 ∨ 1300 ≤ ((g 63)).toNatClampNeg)) (hc : rr b e d 392 0 [(0, .ref 49), (1, .int (c 56 ((g 63)).toNatClampNeg))] [] g q c l (none, rH e g' q' c' l')) (h : rr b e (d + 1) 391 27 [(0, .ref 49), (1, .int x1)] [] g' q' c' l' R) : rr b e (d + 1) 391 14 [(0, .ref 49), (1, .int x1)] [] g q c l R := by
  obtain ⟨f1, hc⟩ := hc
  obtain ⟨f2, h⟩ := h
  obtain ⟨f, hf1, hf2⟩ : ∃ f, f1 ≤ f ∧ f2 ≤ f := ⟨max f1 f2, Nat.le_max_left _ _, Nat.le_max_right _ _⟩
  have hc := nrun_fuel f1 f _ _ _ _ _ _ _ _ _ hf1 hc
  have h := nrun_fuel f2 f _ _ _ _ _ _ _ _ _ hf2 h
  refine ⟨f + 7, ?_⟩
  obtain ⟨y, cb, hj⟩ := mq_391
  rw [n_step (st' := [.ref 49]) (pc' := 15) (lv' := [(0, .ref 49), (1, .int x1)]) (hp' := rH e g q c l) (i := .aload_n 0) (len := 1) rfl hj rfl rfl rfl]
  rw [n_step (st' := [.ref 49, .ref 49]) (pc' := 16) (lv' := [(0, .ref 49), (1, .int x1)]) (hp' := rH e g q c l) (i := .aload_n 0) (len := 1) rfl hj rfl rfl rfl]
  rw [n_get (st' := [.ref 56, .ref 49]) (pc' := 19) (lv' := [(0, .ref 49), (1, .int x1)]) (hp' := rH e g q c l) (i := .getfield 34) (len := 3) rfl hj rfl rfl rfl rfl]
  rw [n_step (st' := [.ref 49, .ref 56, .ref 49]) (pc' := 20) (lv' := [(0, .ref 49), (1, .int x1)]) (hp' := rH e g q c l) (i := .aload_n 0) (len := 1) rfl hj rfl rfl rfl]
  rw [n_get (st' := [.int (g 63), .ref 56, .ref 49]) (pc' := 23) (lv' := [(0, .ref 49), (1, .int x1)]) (hp' := rH e g q c l) (i := .getfield 590) (len := 3) rfl hj rfl rfl rfl rfl]
  rw [n_ial (st' := [.int (c 56 ((g 63)).toNatClampNeg), .ref 49]) rfl hj (ald_56 hz0)]
  obtain ⟨y2, cb2, hj2⟩ := mq_392
  rw [n_call (f := f) (d := d) (ki := 0) (idx := 676) (j' := 392) (kd := 0) (M' := (y2, cb2, 3, none, 12, 1, 0, 0)) (avs := [.ref 49, .int (c 56 ((g 63)).toNatClampNeg)]) (r := []) (rv := none) (hp1 := rH e g' q' c' l') rfl hj rfl rfl rfl rfl (rq_n rfl rfl hj2 rfl rfl) rfl hc (Nat.le_of_ble_eq_true rfl)]
  exact h
set_option maxRecDepth 100000 in
set_option maxHeartbeats 4000000 in
theorem bk_391_27 {b : Bool} {d : Nat} {x1 : Int32} {e : Nat → x_E} {g : Nat → Int32} {q : Nat → Int64} {c : Nat → Nat → Int32} {l : Nat → Nat → Int64} {R : Option Value × List x_E} (h1 : xCn .ge x1 ((g 79)) = true → rr b e d 391 44 [] [] g q c l R) (h2 : ¬ xCn .ge x1 ((g 79)) = true → rr b e d 391 35 [(0, .ref 49), (1, .int x1)] [] g q c l R) : rr b e d 391 27 [(0, .ref 49), (1, .int x1)] [] g q c l R := by
  have key : ∀ f, nrun xZ (xY (xfm b)) xDT (f + 4) d 391 27 [(0, .ref 49), (1, .int x1)] [] (rH e g q c l) 0 0 = nrun xZ (xY (xfm b)) xDT f d 391 (if xCn .ge x1 ((g 79)) = true then 44 else 35) [(0, .ref 49), (1, .int x1)] [] (rH e g q c l) 0 0 := by
    intro f
    obtain ⟨y, cb, hj⟩ := mq_391
    rw [n_step (st' := [.int x1]) (pc' := 28) (lv' := [(0, .ref 49), (1, .int x1)]) (hp' := rH e g q c l) (i := .iload_n 1) (len := 1) rfl hj rfl rfl rfl]
    rw [n_step (st' := [.ref 49, .int x1]) (pc' := 29) (lv' := [(0, .ref 49), (1, .int x1)]) (hp' := rH e g q c l) (i := .aload_n 0) (len := 1) rfl hj rfl rfl rfl]
    rw [n_get (st' := [.int (g 79), .int x1]) (pc' := 32) (lv' := [(0, .ref 49), (1, .int x1)]) (hp' := rH e g q c l) (i := .getfield 654) (len := 3) rfl hj rfl rfl rfl rfl]
    rw [n_step (st' := []) (pc' := (if xCn .ge x1 ((g 79)) = true then 44 else 35)) (lv' := [(0, .ref 49), (1, .int x1)]) (hp' := rH e g q c l) (i := .if_icmp .ge 12) (len := 3) rfl hj rfl rfl rfl]
  by_cases hc : xCn .ge x1 ((g 79)) = true
  · obtain ⟨f, h⟩ := h1 hc
    refine ⟨f + 4, ?_⟩
    rw [key, if_pos hc]
    exact nrun_ext f f _ _ R 391 44 [] [(0, .ref 49), (1, .int x1)] [] _ 0 0 122 (Nat.le_refl _) (Nat.le_refl _) (Nat.le_of_ble_eq_true rfl) (lvR_mk [] [0, 1] rfl rfl (by decide) (by decide) (fun _ h => nomatch h) (List.forall_mem_cons.mpr ⟨Or.inr rfl, (List.forall_mem_cons.mpr ⟨Or.inr rfl, (fun _ h => nomatch h)⟩)⟩)) h
  · obtain ⟨f, h⟩ := h2 hc
    refine ⟨f + 4, ?_⟩
    rw [key, if_neg hc]
    exact h
set_option maxRecDepth 100000 in
set_option maxHeartbeats 4000000 in
theorem bk_391_35 {b : Bool} {d : Nat} {x1 : Int32} {e : Nat → x_E} {g : Nat → Int32} {q : Nat → Int64} {c : Nat → Nat → Int32} {l : Nat → Nat → Int64} {R : Option Value × List x_E} (hz0 : ¬ (x1 < 0 ∨ 4000 ≤ (x1).toNatClampNeg)) (h : rr b e d 391 45 [] [.int (c 81 (x1).toNatClampNeg)] g q c l R) : rr b e d 391 35 [(0, .ref 49), (1, .int x1)] [] g q c l R := by
  obtain ⟨f, h⟩ := h
  refine ⟨f + 5, ?_⟩
  obtain ⟨y, cb, hj⟩ := mq_391
  rw [n_step (st' := [.ref 49]) (pc' := 36) (lv' := [(0, .ref 49), (1, .int x1)]) (hp' := rH e g q c l) (i := .aload_n 0) (len := 1) rfl hj rfl rfl rfl]
  rw [n_get (st' := [.ref 81]) (pc' := 39) (lv' := [(0, .ref 49), (1, .int x1)]) (hp' := rH e g q c l) (i := .getfield 113) (len := 3) rfl hj rfl rfl rfl rfl]
  rw [n_step (st' := [.int x1, .ref 81]) (pc' := 40) (lv' := [(0, .ref 49), (1, .int x1)]) (hp' := rH e g q c l) (i := .iload_n 1) (len := 1) rfl hj rfl rfl rfl]
  rw [n_ial (st' := [.int (c 81 (x1).toNatClampNeg)]) rfl hj (ald_81 hz0)]
  rw [n_step (st' := [.int (c 81 (x1).toNatClampNeg)]) (pc' := 45) (lv' := [(0, .ref 49), (1, .int x1)]) (hp' := rH e g q c l) (i := .goto 4) (len := 3) rfl hj rfl rfl rfl]
  exact nrun_ext f f _ _ R 391 45 [] [(0, .ref 49), (1, .int x1)] [.int (c 81 (x1).toNatClampNeg)] _ 0 0 122 (Nat.le_refl _) (Nat.le_refl _) (Nat.le_of_ble_eq_true rfl) (lvR_mk [] [0, 1] rfl rfl (by decide) (by decide) (fun _ h => nomatch h) (List.forall_mem_cons.mpr ⟨Or.inr rfl, (List.forall_mem_cons.mpr ⟨Or.inr rfl, (fun _ h => nomatch h)⟩)⟩)) h
set_option maxRecDepth 100000 in
set_option maxHeartbeats 4000000 in
theorem bk_391_44 {b : Bool} {d : Nat} {e : Nat → x_E} {g : Nat → Int32} {q : Nat → Int64} {c : Nat → Nat → Int32} {l : Nat → Nat → Int64} {R : Option Value × List x_E} (h : rr b e d 391 45 [] [.int (Int32.ofInt (-1))] g q c l R) : rr b e d 391 44 [] [] g q c l R := by
  obtain ⟨f, h⟩ := h
  refine ⟨f + 1, ?_⟩
  obtain ⟨y, cb, hj⟩ := mq_391
  rw [n_step (st' := [.int (Int32.ofInt (-1))]) (pc' := 45) (lv' := []) (hp' := rH e g q c l) (i := .iconst (-1)) (len := 1) rfl hj rfl rfl rfl]
  exact h
set_option maxRecDepth 100000 in
set_option maxHeartbeats 4000000 in
theorem bk_391_45 {b : Bool} {d : Nat} {t0 : Int32} {e : Nat → x_E} {g : Nat → Int32} {q : Nat → Int64} {c : Nat → Nat → Int32} {l : Nat → Nat → Int64} : rr b e d 391 45 [] [.int t0] g q c l (some (.int t0), rH e g q c l) := by
  refine ⟨0 + 1, ?_⟩
  obtain ⟨y, cb, hj⟩ := mq_391
  exact n_ret rfl hj rfl rfl (x_ret rfl)
set_option maxRecDepth 100000 in
set_option maxHeartbeats 4000000 in
theorem bk_392_0 {b : Bool} {d : Nat} {x1 : Int32} {e : Nat → x_E} {g : Nat → Int32} {q : Nat → Int64} {c : Nat → Nat → Int32} {l : Nat → Nat → Int64} {g' : Nat → Int32} {q' : Nat → Int64} {c' : Nat → Nat → Int32} {l' : Nat → Nat → Int64} {R : Option Value × List x_E} (hc : rr b e d 393 0 [(0, .ref 49), (1, .int x1), (2, .int (Int32.ofInt (0))), (3, .int (Int32.ofInt (0)))] [] (upd (upd g 79 ((Int32.ofInt (0)))) 83 ((Int32.ofInt (0)))) q c l (none, rH e g' q' c' l')) (h : rr b e (d + 1) 392 17 [(0, .ref 49)] [] g' q' c' l' R) : rr b e (d + 1) 392 0 [(0, .ref 49), (1, .int x1)] [] g q c l R := by
  obtain ⟨f1, hc⟩ := hc
  obtain ⟨f2, h⟩ := h
  obtain ⟨f, hf1, hf2⟩ : ∃ f, f1 ≤ f ∧ f2 ≤ f := ⟨max f1 f2, Nat.le_max_left _ _, Nat.le_max_right _ _⟩
  have hc := nrun_fuel f1 f _ _ _ _ _ _ _ _ _ hf1 hc
  have h := nrun_fuel f2 f _ _ _ _ _ _ _ _ _ hf2 h
  refine ⟨f + 11, ?_⟩
  obtain ⟨y, cb, hj⟩ := mq_392
  rw [n_step (st' := [.ref 49]) (pc' := 1) (lv' := [(0, .ref 49), (1, .int x1)]) (hp' := rH e g q c l) (i := .aload_n 0) (len := 1) rfl hj rfl rfl rfl]
  rw [n_step (st' := [.int (Int32.ofInt (0)), .ref 49]) (pc' := 2) (lv' := [(0, .ref 49), (1, .int x1)]) (hp' := rH e g q c l) (i := .iconst 0) (len := 1) rfl hj rfl rfl rfl]
  rw [n_put (st' := []) (hp' := rH e (upd g 79 ((Int32.ofInt (0)))) q c l) rfl hj pf_79]
  rw [n_step (st' := [.ref 49]) (pc' := 6) (lv' := [(0, .ref 49), (1, .int x1)]) (hp' := rH e (upd g 79 ((Int32.ofInt (0)))) q c l) (i := .aload_n 0) (len := 1) rfl hj rfl rfl rfl]
  rw [n_step (st' := [.int (Int32.ofInt (0)), .ref 49]) (pc' := 7) (lv' := [(0, .ref 49), (1, .int x1)]) (hp' := rH e (upd g 79 ((Int32.ofInt (0)))) q c l) (i := .iconst 0) (len := 1) rfl hj rfl rfl rfl]
  rw [n_put (st' := []) (hp' := rH e (upd (upd g 79 ((Int32.ofInt (0)))) 83 ((Int32.ofInt (0)))) q c l) rfl hj pf_83]
  rw [n_step (st' := [.ref 49]) (pc' := 11) (lv' := [(0, .ref 49), (1, .int x1)]) (hp' := rH e (upd (upd g 79 ((Int32.ofInt (0)))) 83 ((Int32.ofInt (0)))) q c l) (i := .aload_n 0) (len := 1) rfl hj rfl rfl rfl]
  rw [n_step (st' := [.int x1, .ref 49]) (pc' := 12) (lv' := [(0, .ref 49), (1, .int x1)]) (hp' := rH e (upd (upd g 79 ((Int32.ofInt (0)))) 83 ((Int32.ofInt (0)))) q c l) (i := .iload_n 1) (len := 1) rfl hj rfl rfl rfl]
  rw [n_step (st' := [.int (Int32.ofInt (0)), .int x1, .ref 49]) (pc' := 13) (lv' := [(0, .ref 49), (1, .int x1)]) (hp' := rH e (upd (upd g 79 ((Int32.ofInt (0)))) 83 ((Int32.ofInt (0)))) q c l) (i := .iconst 0) (len := 1) rfl hj rfl rfl rfl]
  rw [n_step (st' := [.int (Int32.ofInt (0)), .int (Int32.ofInt (0)), .int x1, .ref 49]) (pc' := 14) (lv' := [(0, .ref 49), (1, .int x1)]) (hp' := rH e (upd (upd g 79 ((Int32.ofInt (0)))) 83 ((Int32.ofInt (0)))) q c l) (i := .iconst 0) (len := 1) rfl hj rfl rfl rfl]
  obtain ⟨y2, cb2, hj2⟩ := mq_393
  rw [n_call (f := f) (d := d) (ki := 0) (idx := 660) (j' := 393) (kd := 0) (M' := (y2, cb2, 4, none, 12, 3, 0, 0)) (avs := [.ref 49, .int x1, .int (Int32.ofInt (0)), .int (Int32.ofInt (0))]) (r := []) (rv := none) (hp1 := rH e g' q' c' l') rfl hj rfl rfl rfl rfl (rq_n rfl rfl hj2 rfl rfl) rfl hc (Nat.le_of_ble_eq_true rfl)]
  exact nrun_ext f f _ _ R 392 17 [(0, .ref 49)] [(0, .ref 49), (1, .int x1)] [] _ 0 0 122 (Nat.le_refl _) (Nat.le_refl _) (Nat.le_of_ble_eq_true rfl) (lvR_mk [0] [0, 1] rfl rfl (by decide) (by decide) (List.forall_mem_cons.mpr ⟨List.mem_cons_self, (fun _ h => nomatch h)⟩) (List.forall_mem_cons.mpr ⟨Or.inl List.mem_cons_self, (List.forall_mem_cons.mpr ⟨Or.inr rfl, (fun _ h => nomatch h)⟩)⟩)) h
set_option maxRecDepth 100000 in
set_option maxHeartbeats 4000000 in
theorem bk_392_17 {b : Bool} {d : Nat} {e : Nat → x_E} {g : Nat → Int32} {q : Nat → Int64} {c : Nat → Nat → Int32} {l : Nat → Nat → Int64} {R : Option Value × List x_E} (h1 : xCn .le ((g 83)) 0 = true → rr b e d 392 83 [] [] g q c l R) (h2 : ¬ xCn .le ((g 83)) 0 = true → rr b e d 392 24 [(0, .ref 49)] [] g q c l R) : rr b e d 392 17 [(0, .ref 49)] [] g q c l R := by
  have key : ∀ f, nrun xZ (xY (xfm b)) xDT (f + 3) d 392 17 [(0, .ref 49)] [] (rH e g q c l) 0 0 = nrun xZ (xY (xfm b)) xDT f d 392 (if xCn .le ((g 83)) 0 = true then 83 else 24) [(0, .ref 49)] [] (rH e g q c l) 0 0 := by
    intro f
    obtain ⟨y, cb, hj⟩ := mq_392
    rw [n_step (st' := [.ref 49]) (pc' := 18) (lv' := [(0, .ref 49)]) (hp' := rH e g q c l) (i := .aload_n 0) (len := 1) rfl hj rfl rfl rfl]
    rw [n_get (st' := [.int (g 83)]) (pc' := 21) (lv' := [(0, .ref 49)]) (hp' := rH e g q c l) (i := .getfield 657) (len := 3) rfl hj rfl rfl rfl rfl]
    rw [n_step (st' := []) (pc' := (if xCn .le ((g 83)) 0 = true then 83 else 24)) (lv' := [(0, .ref 49)]) (hp' := rH e g q c l) (i := .ifCond .le 62) (len := 3) rfl hj rfl rfl rfl]
  by_cases hc : xCn .le ((g 83)) 0 = true
  · obtain ⟨f, h⟩ := h1 hc
    refine ⟨f + 3, ?_⟩
    rw [key, if_pos hc]
    exact nrun_ext f f _ _ R 392 83 [] [(0, .ref 49)] [] _ 0 0 122 (Nat.le_refl _) (Nat.le_refl _) (Nat.le_of_ble_eq_true rfl) (lvR_mk [] [0] rfl rfl (by decide) (by decide) (fun _ h => nomatch h) (List.forall_mem_cons.mpr ⟨Or.inr rfl, (fun _ h => nomatch h)⟩)) h
  · obtain ⟨f, h⟩ := h2 hc
    refine ⟨f + 3, ?_⟩
    rw [key, if_neg hc]
    exact h
set_option maxRecDepth 100000 in
set_option maxHeartbeats 4000000 in
theorem bk_392_24 {b : Bool} {d : Nat} {e : Nat → x_E} {g : Nat → Int32} {q : Nat → Int64} {c : Nat → Nat → Int32} {l : Nat → Nat → Int64} {R : Option Value × List x_E} (hz0 : ¬ (((upd g 83 (((g 83) - (Int32.ofInt (1))))) 83) < 0 ∨ 1000 ≤ (((upd g 83 (((g 83) - (Int32.ofInt (1))))) 83)).toNatClampNeg)) (h1 : xCn .ge ((c 82 (((upd g 83 (((g 83) - (Int32.ofInt (1))))) 83)).toNatClampNeg)) 0 = true → rr b e d 392 57 [(0, .ref 49), (2, .int (c 82 (((upd g 83 (((g 83) - (Int32.ofInt (1))))) 83)).toNatClampNeg))] [] (upd g 83 (((g 83) - (Int32.ofInt (1))))) q c l R) (h2 : ¬ xCn .ge ((c 82 (((upd g 83 (((g 83) - (Int32.ofInt (1))))) 83)).toNatClampNeg)) 0 = true → rr b e d 392 48 [(0, .ref 49), (2, .int (c 82 (((upd g 83 (((g 83) - (Int32.ofInt (1))))) 83)).toNatClampNeg))] [] (upd g 83 (((g 83) - (Int32.ofInt (1))))) q c l R) : rr b e d 392 24 [(0, .ref 49)] [] g q c l R := by
  have key : ∀ f, nrun xZ (xY (xfm b)) xDT (f + 14) d 392 24 [(0, .ref 49)] [] (rH e g q c l) 0 0 = nrun xZ (xY (xfm b)) xDT f d 392 (if xCn .ge ((c 82 (((upd g 83 (((g 83) - (Int32.ofInt (1))))) 83)).toNatClampNeg)) 0 = true then 57 else 48) [(2, .int (c 82 (((upd g 83 (((g 83) - (Int32.ofInt (1))))) 83)).toNatClampNeg)), (0, .ref 49)] [] (rH e (upd g 83 (((g 83) - (Int32.ofInt (1))))) q c l) 0 0 := by
    intro f
    obtain ⟨y, cb, hj⟩ := mq_392
    rw [n_step (st' := [.ref 49]) (pc' := 25) (lv' := [(0, .ref 49)]) (hp' := rH e g q c l) (i := .aload_n 0) (len := 1) rfl hj rfl rfl rfl]
    rw [n_step (st' := [.ref 49, .ref 49]) (pc' := 26) (lv' := [(0, .ref 49)]) (hp' := rH e g q c l) (i := .aload_n 0) (len := 1) rfl hj rfl rfl rfl]
    rw [n_get (st' := [.int (g 83), .ref 49]) (pc' := 29) (lv' := [(0, .ref 49)]) (hp' := rH e g q c l) (i := .getfield 657) (len := 3) rfl hj rfl rfl rfl rfl]
    rw [n_step (st' := [.int (Int32.ofInt (1)), .int (g 83), .ref 49]) (pc' := 30) (lv' := [(0, .ref 49)]) (hp' := rH e g q c l) (i := .iconst 1) (len := 1) rfl hj rfl rfl rfl]
    rw [n_step (st' := [.int ((g 83) - (Int32.ofInt (1))), .ref 49]) (pc' := 31) (lv' := [(0, .ref 49)]) (hp' := rH e g q c l) (i := .isub) (len := 1) rfl hj rfl rfl rfl]
    rw [n_put (st' := []) (hp' := rH e (upd g 83 (((g 83) - (Int32.ofInt (1))))) q c l) rfl hj pf_83]
    rw [n_step (st' := [.ref 49]) (pc' := 35) (lv' := [(0, .ref 49)]) (hp' := rH e (upd g 83 (((g 83) - (Int32.ofInt (1))))) q c l) (i := .aload_n 0) (len := 1) rfl hj rfl rfl rfl]
    rw [n_get (st' := [.ref 82]) (pc' := 38) (lv' := [(0, .ref 49)]) (hp' := rH e (upd g 83 (((g 83) - (Int32.ofInt (1))))) q c l) (i := .getfield 116) (len := 3) rfl hj rfl rfl rfl rfl]
    rw [n_step (st' := [.ref 49, .ref 82]) (pc' := 39) (lv' := [(0, .ref 49)]) (hp' := rH e (upd g 83 (((g 83) - (Int32.ofInt (1))))) q c l) (i := .aload_n 0) (len := 1) rfl hj rfl rfl rfl]
    rw [n_get (st' := [.int ((upd g 83 (((g 83) - (Int32.ofInt (1))))) 83), .ref 82]) (pc' := 42) (lv' := [(0, .ref 49)]) (hp' := rH e (upd g 83 (((g 83) - (Int32.ofInt (1))))) q c l) (i := .getfield 657) (len := 3) rfl hj rfl rfl rfl rfl]
    rw [n_ial (st' := [.int (c 82 (((upd g 83 (((g 83) - (Int32.ofInt (1))))) 83)).toNatClampNeg)]) rfl hj (ald_82 hz0)]
    rw [n_step (st' := []) (pc' := 44) (lv' := [(2, .int (c 82 (((upd g 83 (((g 83) - (Int32.ofInt (1))))) 83)).toNatClampNeg)), (0, .ref 49)]) (hp' := rH e (upd g 83 (((g 83) - (Int32.ofInt (1))))) q c l) (i := .istore_n 2) (len := 1) rfl hj rfl rfl rfl]
    rw [n_step (st' := [.int (c 82 (((upd g 83 (((g 83) - (Int32.ofInt (1))))) 83)).toNatClampNeg)]) (pc' := 45) (lv' := [(2, .int (c 82 (((upd g 83 (((g 83) - (Int32.ofInt (1))))) 83)).toNatClampNeg)), (0, .ref 49)]) (hp' := rH e (upd g 83 (((g 83) - (Int32.ofInt (1))))) q c l) (i := .iload_n 2) (len := 1) rfl hj rfl rfl rfl]
    rw [n_step (st' := []) (pc' := (if xCn .ge ((c 82 (((upd g 83 (((g 83) - (Int32.ofInt (1))))) 83)).toNatClampNeg)) 0 = true then 57 else 48)) (lv' := [(2, .int (c 82 (((upd g 83 (((g 83) - (Int32.ofInt (1))))) 83)).toNatClampNeg)), (0, .ref 49)]) (hp' := rH e (upd g 83 (((g 83) - (Int32.ofInt (1))))) q c l) (i := .ifCond .ge 12) (len := 3) rfl hj rfl rfl rfl]
  by_cases hc : xCn .ge ((c 82 (((upd g 83 (((g 83) - (Int32.ofInt (1))))) 83)).toNatClampNeg)) 0 = true
  · obtain ⟨f, h⟩ := h1 hc
    refine ⟨f + 14, ?_⟩
    rw [key, if_pos hc]
    exact nrun_ext f f _ _ R 392 57 [(0, .ref 49), (2, .int (c 82 (((upd g 83 (((g 83) - (Int32.ofInt (1))))) 83)).toNatClampNeg))] [(2, .int (c 82 (((upd g 83 (((g 83) - (Int32.ofInt (1))))) 83)).toNatClampNeg)), (0, .ref 49)] [] _ 0 0 122 (Nat.le_refl _) (Nat.le_refl _) (Nat.le_of_ble_eq_true rfl) (lvR_mk [0, 2] [2, 0] rfl rfl (by decide) (by decide) (List.forall_mem_cons.mpr ⟨(List.mem_cons_of_mem _ List.mem_cons_self), (List.forall_mem_cons.mpr ⟨List.mem_cons_self, (fun _ h => nomatch h)⟩)⟩) (List.forall_mem_cons.mpr ⟨Or.inl (List.mem_cons_of_mem _ List.mem_cons_self), (List.forall_mem_cons.mpr ⟨Or.inl List.mem_cons_self, (fun _ h => nomatch h)⟩)⟩)) h
  · obtain ⟨f, h⟩ := h2 hc
    refine ⟨f + 14, ?_⟩
    rw [key, if_neg hc]
    exact nrun_ext f f _ _ R 392 48 [(0, .ref 49), (2, .int (c 82 (((upd g 83 (((g 83) - (Int32.ofInt (1))))) 83)).toNatClampNeg))] [(2, .int (c 82 (((upd g 83 (((g 83) - (Int32.ofInt (1))))) 83)).toNatClampNeg)), (0, .ref 49)] [] _ 0 0 122 (Nat.le_refl _) (Nat.le_refl _) (Nat.le_of_ble_eq_true rfl) (lvR_mk [0, 2] [2, 0] rfl rfl (by decide) (by decide) (List.forall_mem_cons.mpr ⟨(List.mem_cons_of_mem _ List.mem_cons_self), (List.forall_mem_cons.mpr ⟨List.mem_cons_self, (fun _ h => nomatch h)⟩)⟩) (List.forall_mem_cons.mpr ⟨Or.inl (List.mem_cons_of_mem _ List.mem_cons_self), (List.forall_mem_cons.mpr ⟨Or.inl List.mem_cons_self, (fun _ h => nomatch h)⟩)⟩)) h
set_option maxRecDepth 100000 in
set_option maxHeartbeats 4000000 in
theorem bk_392_48 {b : Bool} {d : Nat} {x2 : Int32} {e : Nat → x_E} {g : Nat → Int32} {q : Nat → Int64} {c : Nat → Nat → Int32} {l : Nat → Nat → Int64} {g' : Nat → Int32} {q' : Nat → Int64} {c' : Nat → Nat → Int32} {l' : Nat → Nat → Int64} {R : Option Value × List x_E} (hc : rr b e d 394 0 [(0, .ref 49), (1, .int (-x2))] [] g q c l (none, rH e g' q' c' l')) (h : rr b e (d + 1) 392 54 [(0, .ref 49)] [] g' q' c' l' R) : rr b e (d + 1) 392 48 [(0, .ref 49), (2, .int x2)] [] g q c l R := by
  obtain ⟨f1, hc⟩ := hc
  obtain ⟨f2, h⟩ := h
  obtain ⟨f, hf1, hf2⟩ : ∃ f, f1 ≤ f ∧ f2 ≤ f := ⟨max f1 f2, Nat.le_max_left _ _, Nat.le_max_right _ _⟩
  have hc := nrun_fuel f1 f _ _ _ _ _ _ _ _ _ hf1 hc
  have h := nrun_fuel f2 f _ _ _ _ _ _ _ _ _ hf2 h
  refine ⟨f + 4, ?_⟩
  obtain ⟨y, cb, hj⟩ := mq_392
  rw [n_step (st' := [.ref 49]) (pc' := 49) (lv' := [(0, .ref 49), (2, .int x2)]) (hp' := rH e g q c l) (i := .aload_n 0) (len := 1) rfl hj rfl rfl rfl]
  rw [n_step (st' := [.int x2, .ref 49]) (pc' := 50) (lv' := [(0, .ref 49), (2, .int x2)]) (hp' := rH e g q c l) (i := .iload_n 2) (len := 1) rfl hj rfl rfl rfl]
  rw [n_step (st' := [.int (-x2), .ref 49]) (pc' := 51) (lv' := [(0, .ref 49), (2, .int x2)]) (hp' := rH e g q c l) (i := .ineg) (len := 1) rfl hj rfl rfl rfl]
  obtain ⟨y2, cb2, hj2⟩ := mq_394
  rw [n_call (f := f) (d := d) (ki := 0) (idx := 664) (j' := 394) (kd := 0) (M' := (y2, cb2, 2, none, 12, 1, 0, 0)) (avs := [.ref 49, .int (-x2)]) (r := []) (rv := none) (hp1 := rH e g' q' c' l') rfl hj rfl rfl rfl rfl (rq_n rfl rfl hj2 rfl rfl) rfl hc (Nat.le_of_ble_eq_true rfl)]
  exact nrun_ext f f _ _ R 392 54 [(0, .ref 49)] [(0, .ref 49), (2, .int x2)] [] _ 0 0 122 (Nat.le_refl _) (Nat.le_refl _) (Nat.le_of_ble_eq_true rfl) (lvR_mk [0] [0, 2] rfl rfl (by decide) (by decide) (List.forall_mem_cons.mpr ⟨List.mem_cons_self, (fun _ h => nomatch h)⟩) (List.forall_mem_cons.mpr ⟨Or.inl List.mem_cons_self, (List.forall_mem_cons.mpr ⟨Or.inr rfl, (fun _ h => nomatch h)⟩)⟩)) h
set_option maxRecDepth 100000 in
set_option maxHeartbeats 4000000 in
theorem bk_392_54 {b : Bool} {d : Nat} {e : Nat → x_E} {g : Nat → Int32} {q : Nat → Int64} {c : Nat → Nat → Int32} {l : Nat → Nat → Int64} {R : Option Value × List x_E} (h : rr b e d 392 80 [(0, .ref 49)] [] g q c l R) : rr b e d 392 54 [(0, .ref 49)] [] g q c l R := by
  obtain ⟨f, h⟩ := h
  refine ⟨f + 1, ?_⟩
  obtain ⟨y, cb, hj⟩ := mq_392
  rw [n_step (st' := []) (pc' := 80) (lv' := [(0, .ref 49)]) (hp' := rH e g q c l) (i := .goto 26) (len := 3) rfl hj rfl rfl rfl]
  exact h
set_option maxRecDepth 100000 in
set_option maxHeartbeats 4000000 in
theorem bk_392_57 {b : Bool} {d : Nat} {x2 : Int32} {e : Nat → x_E} {g : Nat → Int32} {q : Nat → Int64} {c : Nat → Nat → Int32} {l : Nat → Nat → Int64} {g' : Nat → Int32} {q' : Nat → Int64} {c' : Nat → Nat → Int32} {l' : Nat → Nat → Int64} {R : Option Value × List x_E} (hz0 : ¬ ((g 83) < 0 ∨ 1000 ≤ ((g 83)).toNatClampNeg)) (hz1 : ¬ ((g 83) < 0 ∨ 1000 ≤ ((g 83)).toNatClampNeg)) (hc : rr b e d 395 0 [(0, .ref 49), (1, .int x2), (2, .int (c 83 ((g 83)).toNatClampNeg)), (3, .int (c 84 ((g 83)).toNatClampNeg))] [] g q c l (none, rH e g' q' c' l')) (h : rr b e (d + 1) 392 80 [(0, .ref 49)] [] g' q' c' l' R) : rr b e (d + 1) 392 57 [(0, .ref 49), (2, .int x2)] [] g q c l R := by
  obtain ⟨f1, hc⟩ := hc
  obtain ⟨f2, h⟩ := h
  obtain ⟨f, hf1, hf2⟩ : ∃ f, f1 ≤ f ∧ f2 ≤ f := ⟨max f1 f2, Nat.le_max_left _ _, Nat.le_max_right _ _⟩
  have hc := nrun_fuel f1 f _ _ _ _ _ _ _ _ _ hf1 hc
  have h := nrun_fuel f2 f _ _ _ _ _ _ _ _ _ hf2 h
  refine ⟨f + 13, ?_⟩
  obtain ⟨y, cb, hj⟩ := mq_392
  rw [n_step (st' := [.ref 49]) (pc' := 58) (lv' := [(0, .ref 49), (2, .int x2)]) (hp' := rH e g q c l) (i := .aload_n 0) (len := 1) rfl hj rfl rfl rfl]
  rw [n_step (st' := [.int x2, .ref 49]) (pc' := 59) (lv' := [(0, .ref 49), (2, .int x2)]) (hp' := rH e g q c l) (i := .iload_n 2) (len := 1) rfl hj rfl rfl rfl]
  rw [n_step (st' := [.ref 49, .int x2, .ref 49]) (pc' := 60) (lv' := [(0, .ref 49), (2, .int x2)]) (hp' := rH e g q c l) (i := .aload_n 0) (len := 1) rfl hj rfl rfl rfl]
  rw [n_get (st' := [.ref 83, .int x2, .ref 49]) (pc' := 63) (lv' := [(0, .ref 49), (2, .int x2)]) (hp' := rH e g q c l) (i := .getfield 119) (len := 3) rfl hj rfl rfl rfl rfl]
  rw [n_step (st' := [.ref 49, .ref 83, .int x2, .ref 49]) (pc' := 64) (lv' := [(0, .ref 49), (2, .int x2)]) (hp' := rH e g q c l) (i := .aload_n 0) (len := 1) rfl hj rfl rfl rfl]
  rw [n_get (st' := [.int (g 83), .ref 83, .int x2, .ref 49]) (pc' := 67) (lv' := [(0, .ref 49), (2, .int x2)]) (hp' := rH e g q c l) (i := .getfield 657) (len := 3) rfl hj rfl rfl rfl rfl]
  rw [n_ial (st' := [.int (c 83 ((g 83)).toNatClampNeg), .int x2, .ref 49]) rfl hj (ald_83 hz0)]
  rw [n_step (st' := [.ref 49, .int (c 83 ((g 83)).toNatClampNeg), .int x2, .ref 49]) (pc' := 69) (lv' := [(0, .ref 49), (2, .int x2)]) (hp' := rH e g q c l) (i := .aload_n 0) (len := 1) rfl hj rfl rfl rfl]
  rw [n_get (st' := [.ref 84, .int (c 83 ((g 83)).toNatClampNeg), .int x2, .ref 49]) (pc' := 72) (lv' := [(0, .ref 49), (2, .int x2)]) (hp' := rH e g q c l) (i := .getfield 122) (len := 3) rfl hj rfl rfl rfl rfl]
  rw [n_step (st' := [.ref 49, .ref 84, .int (c 83 ((g 83)).toNatClampNeg), .int x2, .ref 49]) (pc' := 73) (lv' := [(0, .ref 49), (2, .int x2)]) (hp' := rH e g q c l) (i := .aload_n 0) (len := 1) rfl hj rfl rfl rfl]
  rw [n_get (st' := [.int (g 83), .ref 84, .int (c 83 ((g 83)).toNatClampNeg), .int x2, .ref 49]) (pc' := 76) (lv' := [(0, .ref 49), (2, .int x2)]) (hp' := rH e g q c l) (i := .getfield 657) (len := 3) rfl hj rfl rfl rfl rfl]
  rw [n_bal (st' := [.int (c 84 ((g 83)).toNatClampNeg), .int (c 83 ((g 83)).toNatClampNeg), .int x2, .ref 49]) rfl hj rfl rfl (ald_84 hz1)]
  obtain ⟨y2, cb2, hj2⟩ := mq_395
  rw [n_call (f := f) (d := d) (ki := 0) (idx := 667) (j' := 395) (kd := 0) (M' := (y2, cb2, 6, none, 12, 3, 0, 0)) (avs := [.ref 49, .int x2, .int (c 83 ((g 83)).toNatClampNeg), .int (c 84 ((g 83)).toNatClampNeg)]) (r := []) (rv := none) (hp1 := rH e g' q' c' l') rfl hj rfl rfl rfl rfl (rq_n rfl rfl hj2 rfl rfl) rfl hc (Nat.le_of_ble_eq_true rfl)]
  exact nrun_ext f f _ _ R 392 80 [(0, .ref 49)] [(0, .ref 49), (2, .int x2)] [] _ 0 0 122 (Nat.le_refl _) (Nat.le_refl _) (Nat.le_of_ble_eq_true rfl) (lvR_mk [0] [0, 2] rfl rfl (by decide) (by decide) (List.forall_mem_cons.mpr ⟨List.mem_cons_self, (fun _ h => nomatch h)⟩) (List.forall_mem_cons.mpr ⟨Or.inl List.mem_cons_self, (List.forall_mem_cons.mpr ⟨Or.inr rfl, (fun _ h => nomatch h)⟩)⟩)) h
set_option maxRecDepth 100000 in
set_option maxHeartbeats 4000000 in
theorem bk_392_80 {b : Bool} {d : Nat} {e : Nat → x_E} {g : Nat → Int32} {q : Nat → Int64} {c : Nat → Nat → Int32} {l : Nat → Nat → Int64} {R : Option Value × List x_E} (h : rr b e d 392 17 [(0, .ref 49)] [] g q c l R) : rr b e d 392 80 [(0, .ref 49)] [] g q c l R := by
  obtain ⟨f, h⟩ := h
  refine ⟨f + 1, ?_⟩
  obtain ⟨y, cb, hj⟩ := mq_392
  rw [n_step (st' := []) (pc' := 17) (lv' := [(0, .ref 49)]) (hp' := rH e g q c l) (i := .goto (-63)) (len := 3) rfl hj rfl rfl rfl]
  exact h
set_option maxRecDepth 100000 in
set_option maxHeartbeats 4000000 in
theorem bk_392_83 {b : Bool} {d : Nat} {e : Nat → x_E} {g : Nat → Int32} {q : Nat → Int64} {c : Nat → Nat → Int32} {l : Nat → Nat → Int64} : rr b e d 392 83 [] [] g q c l (none, rH e g q c l) := by
  refine ⟨0 + 1, ?_⟩
  obtain ⟨y, cb, hj⟩ := mq_392
  exact n_ret rfl hj rfl rfl rfl
set_option maxRecDepth 100000 in
set_option maxHeartbeats 4000000 in
theorem bk_393_0 {b : Bool} {d : Nat} {x1 x2 x3 : Int32} {e : Nat → x_E} {g : Nat → Int32} {q : Nat → Int64} {c : Nat → Nat → Int32} {l : Nat → Nat → Int64} (hz0 : ¬ ((g 83) < 0 ∨ 1000 ≤ ((g 83)).toNatClampNeg)) (hz1 : ¬ ((g 83) < 0 ∨ 1000 ≤ ((g 83)).toNatClampNeg)) (hz2 : ¬ ((g 83) < 0 ∨ 1000 ≤ ((g 83)).toNatClampNeg)) : rr b e d 393 0 [(0, .ref 49), (1, .int x1), (2, .int x2), (3, .int x3)] [] g q c l (none, rH e (upd g 83 (((g 83) + (Int32.ofInt (1))))) q (updA (updA (updA c 82 (upd (c 82) ((g 83)).toNatClampNeg x1)) 83 (upd ((updA c 82 (upd (c 82) ((g 83)).toNatClampNeg x1)) 83) ((g 83)).toNatClampNeg x2)) 84 (upd ((updA (updA c 82 (upd (c 82) ((g 83)).toNatClampNeg x1)) 83 (upd ((updA c 82 (upd (c 82) ((g 83)).toNatClampNeg x1)) 83) ((g 83)).toNatClampNeg x2)) 84) ((g 83)).toNatClampNeg (vp_nar .boolean x3))) l) := by
  refine ⟨0 + 25, ?_⟩
  obtain ⟨y, cb, hj⟩ := mq_393
  rw [n_step (st' := [.ref 49]) (pc' := 1) (lv' := [(0, .ref 49), (1, .int x1), (2, .int x2), (3, .int x3)]) (hp' := rH e g q c l) (i := .aload_n 0) (len := 1) rfl hj rfl rfl rfl]
  rw [n_get (st' := [.ref 82]) (pc' := 4) (lv' := [(0, .ref 49), (1, .int x1), (2, .int x2), (3, .int x3)]) (hp' := rH e g q c l) (i := .getfield 116) (len := 3) rfl hj rfl rfl rfl rfl]
  rw [n_step (st' := [.ref 49, .ref 82]) (pc' := 5) (lv' := [(0, .ref 49), (1, .int x1), (2, .int x2), (3, .int x3)]) (hp' := rH e g q c l) (i := .aload_n 0) (len := 1) rfl hj rfl rfl rfl]
  rw [n_get (st' := [.int (g 83), .ref 82]) (pc' := 8) (lv' := [(0, .ref 49), (1, .int x1), (2, .int x2), (3, .int x3)]) (hp' := rH e g q c l) (i := .getfield 657) (len := 3) rfl hj rfl rfl rfl rfl]
  rw [n_step (st' := [.int x1, .int (g 83), .ref 82]) (pc' := 9) (lv' := [(0, .ref 49), (1, .int x1), (2, .int x2), (3, .int x3)]) (hp' := rH e g q c l) (i := .iload_n 1) (len := 1) rfl hj rfl rfl rfl]
  rw [n_ias (st' := []) (hp' := rH e g q (updA c 82 (upd (c 82) ((g 83)).toNatClampNeg x1)) l) rfl hj (ast_82 hz0)]
  rw [n_step (st' := [.ref 49]) (pc' := 11) (lv' := [(0, .ref 49), (1, .int x1), (2, .int x2), (3, .int x3)]) (hp' := rH e g q (updA c 82 (upd (c 82) ((g 83)).toNatClampNeg x1)) l) (i := .aload_n 0) (len := 1) rfl hj rfl rfl rfl]
  rw [n_get (st' := [.ref 83]) (pc' := 14) (lv' := [(0, .ref 49), (1, .int x1), (2, .int x2), (3, .int x3)]) (hp' := rH e g q (updA c 82 (upd (c 82) ((g 83)).toNatClampNeg x1)) l) (i := .getfield 119) (len := 3) rfl hj rfl rfl rfl rfl]
  rw [n_step (st' := [.ref 49, .ref 83]) (pc' := 15) (lv' := [(0, .ref 49), (1, .int x1), (2, .int x2), (3, .int x3)]) (hp' := rH e g q (updA c 82 (upd (c 82) ((g 83)).toNatClampNeg x1)) l) (i := .aload_n 0) (len := 1) rfl hj rfl rfl rfl]
  rw [n_get (st' := [.int (g 83), .ref 83]) (pc' := 18) (lv' := [(0, .ref 49), (1, .int x1), (2, .int x2), (3, .int x3)]) (hp' := rH e g q (updA c 82 (upd (c 82) ((g 83)).toNatClampNeg x1)) l) (i := .getfield 657) (len := 3) rfl hj rfl rfl rfl rfl]
  rw [n_step (st' := [.int x2, .int (g 83), .ref 83]) (pc' := 19) (lv' := [(0, .ref 49), (1, .int x1), (2, .int x2), (3, .int x3)]) (hp' := rH e g q (updA c 82 (upd (c 82) ((g 83)).toNatClampNeg x1)) l) (i := .iload_n 2) (len := 1) rfl hj rfl rfl rfl]
  rw [n_ias (st' := []) (hp' := rH e g q (updA (updA c 82 (upd (c 82) ((g 83)).toNatClampNeg x1)) 83 (upd ((updA c 82 (upd (c 82) ((g 83)).toNatClampNeg x1)) 83) ((g 83)).toNatClampNeg x2)) l) rfl hj (ast_83 hz1)]
  rw [n_step (st' := [.ref 49]) (pc' := 21) (lv' := [(0, .ref 49), (1, .int x1), (2, .int x2), (3, .int x3)]) (hp' := rH e g q (updA (updA c 82 (upd (c 82) ((g 83)).toNatClampNeg x1)) 83 (upd ((updA c 82 (upd (c 82) ((g 83)).toNatClampNeg x1)) 83) ((g 83)).toNatClampNeg x2)) l) (i := .aload_n 0) (len := 1) rfl hj rfl rfl rfl]
  rw [n_get (st' := [.ref 84]) (pc' := 24) (lv' := [(0, .ref 49), (1, .int x1), (2, .int x2), (3, .int x3)]) (hp' := rH e g q (updA (updA c 82 (upd (c 82) ((g 83)).toNatClampNeg x1)) 83 (upd ((updA c 82 (upd (c 82) ((g 83)).toNatClampNeg x1)) 83) ((g 83)).toNatClampNeg x2)) l) (i := .getfield 122) (len := 3) rfl hj rfl rfl rfl rfl]
  rw [n_step (st' := [.ref 49, .ref 84]) (pc' := 25) (lv' := [(0, .ref 49), (1, .int x1), (2, .int x2), (3, .int x3)]) (hp' := rH e g q (updA (updA c 82 (upd (c 82) ((g 83)).toNatClampNeg x1)) 83 (upd ((updA c 82 (upd (c 82) ((g 83)).toNatClampNeg x1)) 83) ((g 83)).toNatClampNeg x2)) l) (i := .aload_n 0) (len := 1) rfl hj rfl rfl rfl]
  rw [n_get (st' := [.int (g 83), .ref 84]) (pc' := 28) (lv' := [(0, .ref 49), (1, .int x1), (2, .int x2), (3, .int x3)]) (hp' := rH e g q (updA (updA c 82 (upd (c 82) ((g 83)).toNatClampNeg x1)) 83 (upd ((updA c 82 (upd (c 82) ((g 83)).toNatClampNeg x1)) 83) ((g 83)).toNatClampNeg x2)) l) (i := .getfield 657) (len := 3) rfl hj rfl rfl rfl rfl]
  rw [n_step (st' := [.int x3, .int (g 83), .ref 84]) (pc' := 29) (lv' := [(0, .ref 49), (1, .int x1), (2, .int x2), (3, .int x3)]) (hp' := rH e g q (updA (updA c 82 (upd (c 82) ((g 83)).toNatClampNeg x1)) 83 (upd ((updA c 82 (upd (c 82) ((g 83)).toNatClampNeg x1)) 83) ((g 83)).toNatClampNeg x2)) l) (i := .iload_n 3) (len := 1) rfl hj rfl rfl rfl]
  rw [n_bas (st' := []) (hp' := rH e g q (updA (updA (updA c 82 (upd (c 82) ((g 83)).toNatClampNeg x1)) 83 (upd ((updA c 82 (upd (c 82) ((g 83)).toNatClampNeg x1)) 83) ((g 83)).toNatClampNeg x2)) 84 (upd ((updA (updA c 82 (upd (c 82) ((g 83)).toNatClampNeg x1)) 83 (upd ((updA c 82 (upd (c 82) ((g 83)).toNatClampNeg x1)) 83) ((g 83)).toNatClampNeg x2)) 84) ((g 83)).toNatClampNeg (vp_nar .boolean x3))) l) rfl hj (asz_84 hz2)]
  rw [n_step (st' := [.ref 49]) (pc' := 31) (lv' := [(0, .ref 49), (1, .int x1), (2, .int x2), (3, .int x3)]) (hp' := rH e g q (updA (updA (updA c 82 (upd (c 82) ((g 83)).toNatClampNeg x1)) 83 (upd ((updA c 82 (upd (c 82) ((g 83)).toNatClampNeg x1)) 83) ((g 83)).toNatClampNeg x2)) 84 (upd ((updA (updA c 82 (upd (c 82) ((g 83)).toNatClampNeg x1)) 83 (upd ((updA c 82 (upd (c 82) ((g 83)).toNatClampNeg x1)) 83) ((g 83)).toNatClampNeg x2)) 84) ((g 83)).toNatClampNeg (vp_nar .boolean x3))) l) (i := .aload_n 0) (len := 1) rfl hj rfl rfl rfl]
  rw [n_step (st' := [.ref 49, .ref 49]) (pc' := 32) (lv' := [(0, .ref 49), (1, .int x1), (2, .int x2), (3, .int x3)]) (hp' := rH e g q (updA (updA (updA c 82 (upd (c 82) ((g 83)).toNatClampNeg x1)) 83 (upd ((updA c 82 (upd (c 82) ((g 83)).toNatClampNeg x1)) 83) ((g 83)).toNatClampNeg x2)) 84 (upd ((updA (updA c 82 (upd (c 82) ((g 83)).toNatClampNeg x1)) 83 (upd ((updA c 82 (upd (c 82) ((g 83)).toNatClampNeg x1)) 83) ((g 83)).toNatClampNeg x2)) 84) ((g 83)).toNatClampNeg (vp_nar .boolean x3))) l) (i := .aload_n 0) (len := 1) rfl hj rfl rfl rfl]
  rw [n_get (st' := [.int (g 83), .ref 49]) (pc' := 35) (lv' := [(0, .ref 49), (1, .int x1), (2, .int x2), (3, .int x3)]) (hp' := rH e g q (updA (updA (updA c 82 (upd (c 82) ((g 83)).toNatClampNeg x1)) 83 (upd ((updA c 82 (upd (c 82) ((g 83)).toNatClampNeg x1)) 83) ((g 83)).toNatClampNeg x2)) 84 (upd ((updA (updA c 82 (upd (c 82) ((g 83)).toNatClampNeg x1)) 83 (upd ((updA c 82 (upd (c 82) ((g 83)).toNatClampNeg x1)) 83) ((g 83)).toNatClampNeg x2)) 84) ((g 83)).toNatClampNeg (vp_nar .boolean x3))) l) (i := .getfield 657) (len := 3) rfl hj rfl rfl rfl rfl]
  rw [n_step (st' := [.int (Int32.ofInt (1)), .int (g 83), .ref 49]) (pc' := 36) (lv' := [(0, .ref 49), (1, .int x1), (2, .int x2), (3, .int x3)]) (hp' := rH e g q (updA (updA (updA c 82 (upd (c 82) ((g 83)).toNatClampNeg x1)) 83 (upd ((updA c 82 (upd (c 82) ((g 83)).toNatClampNeg x1)) 83) ((g 83)).toNatClampNeg x2)) 84 (upd ((updA (updA c 82 (upd (c 82) ((g 83)).toNatClampNeg x1)) 83 (upd ((updA c 82 (upd (c 82) ((g 83)).toNatClampNeg x1)) 83) ((g 83)).toNatClampNeg x2)) 84) ((g 83)).toNatClampNeg (vp_nar .boolean x3))) l) (i := .iconst 1) (len := 1) rfl hj rfl rfl rfl]
  rw [n_step (st' := [.int ((g 83) + (Int32.ofInt (1))), .ref 49]) (pc' := 37) (lv' := [(0, .ref 49), (1, .int x1), (2, .int x2), (3, .int x3)]) (hp' := rH e g q (updA (updA (updA c 82 (upd (c 82) ((g 83)).toNatClampNeg x1)) 83 (upd ((updA c 82 (upd (c 82) ((g 83)).toNatClampNeg x1)) 83) ((g 83)).toNatClampNeg x2)) 84 (upd ((updA (updA c 82 (upd (c 82) ((g 83)).toNatClampNeg x1)) 83 (upd ((updA c 82 (upd (c 82) ((g 83)).toNatClampNeg x1)) 83) ((g 83)).toNatClampNeg x2)) 84) ((g 83)).toNatClampNeg (vp_nar .boolean x3))) l) (i := .iadd) (len := 1) rfl hj rfl rfl rfl]
  rw [n_put (st' := []) (hp' := rH e (upd g 83 (((g 83) + (Int32.ofInt (1))))) q (updA (updA (updA c 82 (upd (c 82) ((g 83)).toNatClampNeg x1)) 83 (upd ((updA c 82 (upd (c 82) ((g 83)).toNatClampNeg x1)) 83) ((g 83)).toNatClampNeg x2)) 84 (upd ((updA (updA c 82 (upd (c 82) ((g 83)).toNatClampNeg x1)) 83 (upd ((updA c 82 (upd (c 82) ((g 83)).toNatClampNeg x1)) 83) ((g 83)).toNatClampNeg x2)) 84) ((g 83)).toNatClampNeg (vp_nar .boolean x3))) l) rfl hj pf_83]
  exact n_ret rfl hj rfl rfl rfl
set_option maxRecDepth 100000 in
set_option maxHeartbeats 4000000 in
theorem bk_394_0 {b : Bool} {d : Nat} {x1 : Int32} {e : Nat → x_E} {g : Nat → Int32} {q : Nat → Int64} {c : Nat → Nat → Int32} {l : Nat → Nat → Int64} (hz0 : ¬ ((g 79) < 0 ∨ 4000 ≤ ((g 79)).toNatClampNeg)) : rr b e d 394 0 [(0, .ref 49), (1, .int x1)] [] g q c l (none, rH e (upd g 79 (((g 79) + (Int32.ofInt (1))))) q (updA c 81 (upd (c 81) ((g 79)).toNatClampNeg x1)) l) := by
  refine ⟨0 + 13, ?_⟩
  obtain ⟨y, cb, hj⟩ := mq_394
  rw [n_step (st' := [.ref 49]) (pc' := 1) (lv' := [(0, .ref 49), (1, .int x1)]) (hp' := rH e g q c l) (i := .aload_n 0) (len := 1) rfl hj rfl rfl rfl]
  rw [n_get (st' := [.ref 81]) (pc' := 4) (lv' := [(0, .ref 49), (1, .int x1)]) (hp' := rH e g q c l) (i := .getfield 113) (len := 3) rfl hj rfl rfl rfl rfl]
  rw [n_step (st' := [.ref 49, .ref 81]) (pc' := 5) (lv' := [(0, .ref 49), (1, .int x1)]) (hp' := rH e g q c l) (i := .aload_n 0) (len := 1) rfl hj rfl rfl rfl]
  rw [n_get (st' := [.int (g 79), .ref 81]) (pc' := 8) (lv' := [(0, .ref 49), (1, .int x1)]) (hp' := rH e g q c l) (i := .getfield 654) (len := 3) rfl hj rfl rfl rfl rfl]
  rw [n_step (st' := [.int x1, .int (g 79), .ref 81]) (pc' := 9) (lv' := [(0, .ref 49), (1, .int x1)]) (hp' := rH e g q c l) (i := .iload_n 1) (len := 1) rfl hj rfl rfl rfl]
  rw [n_ias (st' := []) (hp' := rH e g q (updA c 81 (upd (c 81) ((g 79)).toNatClampNeg x1)) l) rfl hj (ast_81 hz0)]
  rw [n_step (st' := [.ref 49]) (pc' := 11) (lv' := [(0, .ref 49), (1, .int x1)]) (hp' := rH e g q (updA c 81 (upd (c 81) ((g 79)).toNatClampNeg x1)) l) (i := .aload_n 0) (len := 1) rfl hj rfl rfl rfl]
  rw [n_step (st' := [.ref 49, .ref 49]) (pc' := 12) (lv' := [(0, .ref 49), (1, .int x1)]) (hp' := rH e g q (updA c 81 (upd (c 81) ((g 79)).toNatClampNeg x1)) l) (i := .aload_n 0) (len := 1) rfl hj rfl rfl rfl]
  rw [n_get (st' := [.int (g 79), .ref 49]) (pc' := 15) (lv' := [(0, .ref 49), (1, .int x1)]) (hp' := rH e g q (updA c 81 (upd (c 81) ((g 79)).toNatClampNeg x1)) l) (i := .getfield 654) (len := 3) rfl hj rfl rfl rfl rfl]
  rw [n_step (st' := [.int (Int32.ofInt (1)), .int (g 79), .ref 49]) (pc' := 16) (lv' := [(0, .ref 49), (1, .int x1)]) (hp' := rH e g q (updA c 81 (upd (c 81) ((g 79)).toNatClampNeg x1)) l) (i := .iconst 1) (len := 1) rfl hj rfl rfl rfl]
  rw [n_step (st' := [.int ((g 79) + (Int32.ofInt (1))), .ref 49]) (pc' := 17) (lv' := [(0, .ref 49), (1, .int x1)]) (hp' := rH e g q (updA c 81 (upd (c 81) ((g 79)).toNatClampNeg x1)) l) (i := .iadd) (len := 1) rfl hj rfl rfl rfl]
  rw [n_put (st' := []) (hp' := rH e (upd g 79 (((g 79) + (Int32.ofInt (1))))) q (updA c 81 (upd (c 81) ((g 79)).toNatClampNeg x1)) l) rfl hj pf_79]
  exact n_ret rfl hj rfl rfl rfl
set_option maxRecDepth 100000 in
set_option maxHeartbeats 4000000 in
theorem bk_395_0 {b : Bool} {d : Nat} {x1 x2 x3 : Int32} {e : Nat → x_E} {g : Nat → Int32} {q : Nat → Int64} {c : Nat → Nat → Int32} {l : Nat → Nat → Int64} {R : Option Value × List x_E} (hz0 : ¬ (x1 < 0 ∨ 66000 ≤ (x1).toNatClampNeg)) (h1 : xCn .eq x3 0 = true → rr b e d 395 28 [(0, .ref 49), (1, .int x1), (2, .int x2), (4, .int (c 55 (x1).toNatClampNeg))] [] g q c l R) (h2 : ¬ xCn .eq x3 0 = true → rr b e d 395 12 [(0, .ref 49), (1, .int x1), (2, .int x2), (4, .int (c 55 (x1).toNatClampNeg))] [] g q c l R) : rr b e d 395 0 [(0, .ref 49), (1, .int x1), (2, .int x2), (3, .int x3)] [] g q c l R := by
  have key : ∀ f, nrun xZ (xY (xfm b)) xDT (f + 7) d 395 0 [(0, .ref 49), (1, .int x1), (2, .int x2), (3, .int x3)] [] (rH e g q c l) 0 0 = nrun xZ (xY (xfm b)) xDT f d 395 (if xCn .eq x3 0 = true then 28 else 12) [(4, .int (c 55 (x1).toNatClampNeg)), (0, .ref 49), (1, .int x1), (2, .int x2), (3, .int x3)] [] (rH e g q c l) 0 0 := by
    intro f
    obtain ⟨y, cb, hj⟩ := mq_395
    rw [n_step (st' := [.ref 49]) (pc' := 1) (lv' := [(0, .ref 49), (1, .int x1), (2, .int x2), (3, .int x3)]) (hp' := rH e g q c l) (i := .aload_n 0) (len := 1) rfl hj rfl rfl rfl]
    rw [n_get (st' := [.ref 55]) (pc' := 4) (lv' := [(0, .ref 49), (1, .int x1), (2, .int x2), (3, .int x3)]) (hp' := rH e g q c l) (i := .getfield 31) (len := 3) rfl hj rfl rfl rfl rfl]
    rw [n_step (st' := [.int x1, .ref 55]) (pc' := 5) (lv' := [(0, .ref 49), (1, .int x1), (2, .int x2), (3, .int x3)]) (hp' := rH e g q c l) (i := .iload_n 1) (len := 1) rfl hj rfl rfl rfl]
    rw [n_ial (st' := [.int (c 55 (x1).toNatClampNeg)]) rfl hj (ald_55 hz0)]
    rw [n_step (st' := []) (pc' := 8) (lv' := [(4, .int (c 55 (x1).toNatClampNeg)), (0, .ref 49), (1, .int x1), (2, .int x2), (3, .int x3)]) (hp' := rH e g q c l) (i := .istore 4) (len := 2) rfl hj rfl rfl rfl]
    rw [n_step (st' := [.int x3]) (pc' := 9) (lv' := [(4, .int (c 55 (x1).toNatClampNeg)), (0, .ref 49), (1, .int x1), (2, .int x2), (3, .int x3)]) (hp' := rH e g q c l) (i := .iload_n 3) (len := 1) rfl hj rfl rfl rfl]
    rw [n_step (st' := []) (pc' := (if xCn .eq x3 0 = true then 28 else 12)) (lv' := [(4, .int (c 55 (x1).toNatClampNeg)), (0, .ref 49), (1, .int x1), (2, .int x2), (3, .int x3)]) (hp' := rH e g q c l) (i := .ifCond .eq 19) (len := 3) rfl hj rfl rfl rfl]
  by_cases hc : xCn .eq x3 0 = true
  · obtain ⟨f, h⟩ := h1 hc
    refine ⟨f + 7, ?_⟩
    rw [key, if_pos hc]
    exact nrun_ext f f _ _ R 395 28 [(0, .ref 49), (1, .int x1), (2, .int x2), (4, .int (c 55 (x1).toNatClampNeg))] [(4, .int (c 55 (x1).toNatClampNeg)), (0, .ref 49), (1, .int x1), (2, .int x2), (3, .int x3)] [] _ 0 0 122 (Nat.le_refl _) (Nat.le_refl _) (Nat.le_of_ble_eq_true rfl) (lvR_mk [0, 1, 2, 4] [4, 0, 1, 2, 3] rfl rfl (by decide) (by decide) (List.forall_mem_cons.mpr ⟨(List.mem_cons_of_mem _ List.mem_cons_self), (List.forall_mem_cons.mpr ⟨(List.mem_cons_of_mem _ (List.mem_cons_of_mem _ List.mem_cons_self)), (List.forall_mem_cons.mpr ⟨(List.mem_cons_of_mem _ (List.mem_cons_of_mem _ (List.mem_cons_of_mem _ List.mem_cons_self))), (List.forall_mem_cons.mpr ⟨List.mem_cons_self, (fun _ h => nomatch h)⟩)⟩)⟩)⟩) (List.forall_mem_cons.mpr ⟨Or.inl (List.mem_cons_of_mem _ (List.mem_cons_of_mem _ (List.mem_cons_of_mem _ List.mem_cons_self))), (List.forall_mem_cons.mpr ⟨Or.inl List.mem_cons_self, (List.forall_mem_cons.mpr ⟨Or.inl (List.mem_cons_of_mem _ List.mem_cons_self), (List.forall_mem_cons.mpr ⟨Or.inl (List.mem_cons_of_mem _ (List.mem_cons_of_mem _ List.mem_cons_self)), (List.forall_mem_cons.mpr ⟨Or.inr rfl, (fun _ h => nomatch h)⟩)⟩)⟩)⟩)⟩)) h
  · obtain ⟨f, h⟩ := h2 hc
    refine ⟨f + 7, ?_⟩
    rw [key, if_neg hc]
    exact nrun_ext f f _ _ R 395 12 [(0, .ref 49), (1, .int x1), (2, .int x2), (4, .int (c 55 (x1).toNatClampNeg))] [(4, .int (c 55 (x1).toNatClampNeg)), (0, .ref 49), (1, .int x1), (2, .int x2), (3, .int x3)] [] _ 0 0 122 (Nat.le_refl _) (Nat.le_refl _) (Nat.le_of_ble_eq_true rfl) (lvR_mk [0, 1, 2, 4] [4, 0, 1, 2, 3] rfl rfl (by decide) (by decide) (List.forall_mem_cons.mpr ⟨(List.mem_cons_of_mem _ List.mem_cons_self), (List.forall_mem_cons.mpr ⟨(List.mem_cons_of_mem _ (List.mem_cons_of_mem _ List.mem_cons_self)), (List.forall_mem_cons.mpr ⟨(List.mem_cons_of_mem _ (List.mem_cons_of_mem _ (List.mem_cons_of_mem _ List.mem_cons_self))), (List.forall_mem_cons.mpr ⟨List.mem_cons_self, (fun _ h => nomatch h)⟩)⟩)⟩)⟩) (List.forall_mem_cons.mpr ⟨Or.inl (List.mem_cons_of_mem _ (List.mem_cons_of_mem _ (List.mem_cons_of_mem _ List.mem_cons_self))), (List.forall_mem_cons.mpr ⟨Or.inl List.mem_cons_self, (List.forall_mem_cons.mpr ⟨Or.inl (List.mem_cons_of_mem _ List.mem_cons_self), (List.forall_mem_cons.mpr ⟨Or.inl (List.mem_cons_of_mem _ (List.mem_cons_of_mem _ List.mem_cons_self)), (List.forall_mem_cons.mpr ⟨Or.inr rfl, (fun _ h => nomatch h)⟩)⟩)⟩)⟩)⟩)) h
set_option maxRecDepth 100000 in
set_option maxHeartbeats 4000000 in
theorem bk_395_12 {b : Bool} {d : Nat} {x1 x2 x4 : Int32} {e : Nat → x_E} {g : Nat → Int32} {q : Nat → Int64} {c : Nat → Nat → Int32} {l : Nat → Nat → Int64} {R : Option Value × List x_E} (h1 : xCn .eq x4 ((Int32.ofInt (1))) = true → rr b e d 395 24 [(0, .ref 49), (1, .int x1), (2, .int x2), (4, .int x4)] [] g q c l R) (h2 : ¬ xCn .eq x4 ((Int32.ofInt (1))) = true → rr b e d 395 18 [(0, .ref 49), (1, .int x1), (2, .int x2), (4, .int x4)] [] g q c l R) : rr b e d 395 12 [(0, .ref 49), (1, .int x1), (2, .int x2), (4, .int x4)] [] g q c l R := by
  have key : ∀ f, nrun xZ (xY (xfm b)) xDT (f + 3) d 395 12 [(0, .ref 49), (1, .int x1), (2, .int x2), (4, .int x4)] [] (rH e g q c l) 0 0 = nrun xZ (xY (xfm b)) xDT f d 395 (if xCn .eq x4 ((Int32.ofInt (1))) = true then 24 else 18) [(0, .ref 49), (1, .int x1), (2, .int x2), (4, .int x4)] [] (rH e g q c l) 0 0 := by
    intro f
    obtain ⟨y, cb, hj⟩ := mq_395
    rw [n_step (st' := [.int x4]) (pc' := 14) (lv' := [(0, .ref 49), (1, .int x1), (2, .int x2), (4, .int x4)]) (hp' := rH e g q c l) (i := .iload 4) (len := 2) rfl hj rfl rfl rfl]
    rw [n_step (st' := [.int (Int32.ofInt (1)), .int x4]) (pc' := 15) (lv' := [(0, .ref 49), (1, .int x1), (2, .int x2), (4, .int x4)]) (hp' := rH e g q c l) (i := .iconst 1) (len := 1) rfl hj rfl rfl rfl]
    rw [n_step (st' := []) (pc' := (if xCn .eq x4 ((Int32.ofInt (1))) = true then 24 else 18)) (lv' := [(0, .ref 49), (1, .int x1), (2, .int x2), (4, .int x4)]) (hp' := rH e g q c l) (i := .if_icmp .eq 9) (len := 3) rfl hj rfl rfl rfl]
  by_cases hc : xCn .eq x4 ((Int32.ofInt (1))) = true
  · obtain ⟨f, h⟩ := h1 hc
    refine ⟨f + 3, ?_⟩
    rw [key, if_pos hc]
    exact h
  · obtain ⟨f, h⟩ := h2 hc
    refine ⟨f + 3, ?_⟩
    rw [key, if_neg hc]
    exact h
set_option maxRecDepth 100000 in
set_option maxHeartbeats 4000000 in
theorem bk_395_18 {b : Bool} {d : Nat} {x1 x2 x4 : Int32} {e : Nat → x_E} {g : Nat → Int32} {q : Nat → Int64} {c : Nat → Nat → Int32} {l : Nat → Nat → Int64} {R : Option Value × List x_E} (h1 : xCn .ne x4 ((Int32.ofInt (2))) = true → rr b e d 395 28 [(0, .ref 49), (1, .int x1), (2, .int x2), (4, .int x4)] [] g q c l R) (h2 : ¬ xCn .ne x4 ((Int32.ofInt (2))) = true → rr b e d 395 24 [(0, .ref 49), (1, .int x1), (2, .int x2), (4, .int x4)] [] g q c l R) : rr b e d 395 18 [(0, .ref 49), (1, .int x1), (2, .int x2), (4, .int x4)] [] g q c l R := by
  have key : ∀ f, nrun xZ (xY (xfm b)) xDT (f + 3) d 395 18 [(0, .ref 49), (1, .int x1), (2, .int x2), (4, .int x4)] [] (rH e g q c l) 0 0 = nrun xZ (xY (xfm b)) xDT f d 395 (if xCn .ne x4 ((Int32.ofInt (2))) = true then 28 else 24) [(0, .ref 49), (1, .int x1), (2, .int x2), (4, .int x4)] [] (rH e g q c l) 0 0 := by
    intro f
    obtain ⟨y, cb, hj⟩ := mq_395
    rw [n_step (st' := [.int x4]) (pc' := 20) (lv' := [(0, .ref 49), (1, .int x1), (2, .int x2), (4, .int x4)]) (hp' := rH e g q c l) (i := .iload 4) (len := 2) rfl hj rfl rfl rfl]
    rw [n_step (st' := [.int (Int32.ofInt (2)), .int x4]) (pc' := 21) (lv' := [(0, .ref 49), (1, .int x1), (2, .int x2), (4, .int x4)]) (hp' := rH e g q c l) (i := .iconst 2) (len := 1) rfl hj rfl rfl rfl]
    rw [n_step (st' := []) (pc' := (if xCn .ne x4 ((Int32.ofInt (2))) = true then 28 else 24)) (lv' := [(0, .ref 49), (1, .int x1), (2, .int x2), (4, .int x4)]) (hp' := rH e g q c l) (i := .if_icmp .ne 7) (len := 3) rfl hj rfl rfl rfl]
  by_cases hc : xCn .ne x4 ((Int32.ofInt (2))) = true
  · obtain ⟨f, h⟩ := h1 hc
    refine ⟨f + 3, ?_⟩
    rw [key, if_pos hc]
    exact h
  · obtain ⟨f, h⟩ := h2 hc
    refine ⟨f + 3, ?_⟩
    rw [key, if_neg hc]
    exact h
set_option maxRecDepth 100000 in
set_option maxHeartbeats 4000000 in
theorem bk_395_24 {b : Bool} {d : Nat} {x1 x2 x4 : Int32} {e : Nat → x_E} {g : Nat → Int32} {q : Nat → Int64} {c : Nat → Nat → Int32} {l : Nat → Nat → Int64} {R : Option Value × List x_E} (h : rr b e d 395 29 [(0, .ref 49), (1, .int x1), (2, .int x2), (4, .int x4)] [.int (Int32.ofInt (1))] g q c l R) : rr b e d 395 24 [(0, .ref 49), (1, .int x1), (2, .int x2), (4, .int x4)] [] g q c l R := by
  obtain ⟨f, h⟩ := h
  refine ⟨f + 2, ?_⟩
  obtain ⟨y, cb, hj⟩ := mq_395
  rw [n_step (st' := [.int (Int32.ofInt (1))]) (pc' := 25) (lv' := [(0, .ref 49), (1, .int x1), (2, .int x2), (4, .int x4)]) (hp' := rH e g q c l) (i := .iconst 1) (len := 1) rfl hj rfl rfl rfl]
  rw [n_step (st' := [.int (Int32.ofInt (1))]) (pc' := 29) (lv' := [(0, .ref 49), (1, .int x1), (2, .int x2), (4, .int x4)]) (hp' := rH e g q c l) (i := .goto 4) (len := 3) rfl hj rfl rfl rfl]
  exact h
set_option maxRecDepth 100000 in
set_option maxHeartbeats 4000000 in
theorem bk_395_28 {b : Bool} {d : Nat} {x1 x2 x4 : Int32} {e : Nat → x_E} {g : Nat → Int32} {q : Nat → Int64} {c : Nat → Nat → Int32} {l : Nat → Nat → Int64} {R : Option Value × List x_E} (h : rr b e d 395 29 [(0, .ref 49), (1, .int x1), (2, .int x2), (4, .int x4)] [.int (Int32.ofInt (0))] g q c l R) : rr b e d 395 28 [(0, .ref 49), (1, .int x1), (2, .int x2), (4, .int x4)] [] g q c l R := by
  obtain ⟨f, h⟩ := h
  refine ⟨f + 1, ?_⟩
  obtain ⟨y, cb, hj⟩ := mq_395
  rw [n_step (st' := [.int (Int32.ofInt (0))]) (pc' := 29) (lv' := [(0, .ref 49), (1, .int x1), (2, .int x2), (4, .int x4)]) (hp' := rH e g q c l) (i := .iconst 0) (len := 1) rfl hj rfl rfl rfl]
  exact h
set_option maxRecDepth 100000 in
set_option maxHeartbeats 4000000 in
theorem bk_395_29 {b : Bool} {d : Nat} {t0 x1 x2 x4 : Int32} {e : Nat → x_E} {g : Nat → Int32} {q : Nat → Int64} {c : Nat → Nat → Int32} {l : Nat → Nat → Int64} {R : Option Value × List x_E} (h1 : xCn .eq t0 0 = true → rr b e d 395 50 [(0, .ref 49), (1, .int x1), (2, .int x2), (4, .int x4)] [] g q c l R) (h2 : ¬ xCn .eq t0 0 = true → rr b e d 395 36 [(0, .ref 49), (1, .int x1), (2, .int x2), (4, .int x4)] [] g q c l R) : rr b e d 395 29 [(0, .ref 49), (1, .int x1), (2, .int x2), (4, .int x4)] [.int t0] g q c l R := by
  have key : ∀ f, nrun xZ (xY (xfm b)) xDT (f + 3) d 395 29 [(0, .ref 49), (1, .int x1), (2, .int x2), (4, .int x4)] [.int t0] (rH e g q c l) 0 0 = nrun xZ (xY (xfm b)) xDT f d 395 (if xCn .eq t0 0 = true then 50 else 36) [(5, .int t0), (0, .ref 49), (1, .int x1), (2, .int x2), (4, .int x4)] [] (rH e g q c l) 0 0 := by
    intro f
    obtain ⟨y, cb, hj⟩ := mq_395
    rw [n_step (st' := []) (pc' := 31) (lv' := [(5, .int t0), (0, .ref 49), (1, .int x1), (2, .int x2), (4, .int x4)]) (hp' := rH e g q c l) (i := .istore 5) (len := 2) rfl hj rfl rfl rfl]
    rw [n_step (st' := [.int t0]) (pc' := 33) (lv' := [(5, .int t0), (0, .ref 49), (1, .int x1), (2, .int x2), (4, .int x4)]) (hp' := rH e g q c l) (i := .iload 5) (len := 2) rfl hj rfl rfl rfl]
    rw [n_step (st' := []) (pc' := (if xCn .eq t0 0 = true then 50 else 36)) (lv' := [(5, .int t0), (0, .ref 49), (1, .int x1), (2, .int x2), (4, .int x4)]) (hp' := rH e g q c l) (i := .ifCond .eq 17) (len := 3) rfl hj rfl rfl rfl]
  by_cases hc : xCn .eq t0 0 = true
  · obtain ⟨f, h⟩ := h1 hc
    refine ⟨f + 3, ?_⟩
    rw [key, if_pos hc]
    exact nrun_ext f f _ _ R 395 50 [(0, .ref 49), (1, .int x1), (2, .int x2), (4, .int x4)] [(5, .int t0), (0, .ref 49), (1, .int x1), (2, .int x2), (4, .int x4)] [] _ 0 0 122 (Nat.le_refl _) (Nat.le_refl _) (Nat.le_of_ble_eq_true rfl) (lvR_mk [0, 1, 2, 4] [5, 0, 1, 2, 4] rfl rfl (by decide) (by decide) (List.forall_mem_cons.mpr ⟨(List.mem_cons_of_mem _ List.mem_cons_self), (List.forall_mem_cons.mpr ⟨(List.mem_cons_of_mem _ (List.mem_cons_of_mem _ List.mem_cons_self)), (List.forall_mem_cons.mpr ⟨(List.mem_cons_of_mem _ (List.mem_cons_of_mem _ (List.mem_cons_of_mem _ List.mem_cons_self))), (List.forall_mem_cons.mpr ⟨(List.mem_cons_of_mem _ (List.mem_cons_of_mem _ (List.mem_cons_of_mem _ (List.mem_cons_of_mem _ List.mem_cons_self)))), (fun _ h => nomatch h)⟩)⟩)⟩)⟩) (List.forall_mem_cons.mpr ⟨Or.inr rfl, (List.forall_mem_cons.mpr ⟨Or.inl List.mem_cons_self, (List.forall_mem_cons.mpr ⟨Or.inl (List.mem_cons_of_mem _ List.mem_cons_self), (List.forall_mem_cons.mpr ⟨Or.inl (List.mem_cons_of_mem _ (List.mem_cons_of_mem _ List.mem_cons_self)), (List.forall_mem_cons.mpr ⟨Or.inl (List.mem_cons_of_mem _ (List.mem_cons_of_mem _ (List.mem_cons_of_mem _ List.mem_cons_self))), (fun _ h => nomatch h)⟩)⟩)⟩)⟩)⟩)) h
  · obtain ⟨f, h⟩ := h2 hc
    refine ⟨f + 3, ?_⟩
    rw [key, if_neg hc]
    exact nrun_ext f f _ _ R 395 36 [(0, .ref 49), (1, .int x1), (2, .int x2), (4, .int x4)] [(5, .int t0), (0, .ref 49), (1, .int x1), (2, .int x2), (4, .int x4)] [] _ 0 0 122 (Nat.le_refl _) (Nat.le_refl _) (Nat.le_of_ble_eq_true rfl) (lvR_mk [0, 1, 2, 4] [5, 0, 1, 2, 4] rfl rfl (by decide) (by decide) (List.forall_mem_cons.mpr ⟨(List.mem_cons_of_mem _ List.mem_cons_self), (List.forall_mem_cons.mpr ⟨(List.mem_cons_of_mem _ (List.mem_cons_of_mem _ List.mem_cons_self)), (List.forall_mem_cons.mpr ⟨(List.mem_cons_of_mem _ (List.mem_cons_of_mem _ (List.mem_cons_of_mem _ List.mem_cons_self))), (List.forall_mem_cons.mpr ⟨(List.mem_cons_of_mem _ (List.mem_cons_of_mem _ (List.mem_cons_of_mem _ (List.mem_cons_of_mem _ List.mem_cons_self)))), (fun _ h => nomatch h)⟩)⟩)⟩)⟩) (List.forall_mem_cons.mpr ⟨Or.inr rfl, (List.forall_mem_cons.mpr ⟨Or.inl List.mem_cons_self, (List.forall_mem_cons.mpr ⟨Or.inl (List.mem_cons_of_mem _ List.mem_cons_self), (List.forall_mem_cons.mpr ⟨Or.inl (List.mem_cons_of_mem _ (List.mem_cons_of_mem _ List.mem_cons_self)), (List.forall_mem_cons.mpr ⟨Or.inl (List.mem_cons_of_mem _ (List.mem_cons_of_mem _ (List.mem_cons_of_mem _ List.mem_cons_self))), (fun _ h => nomatch h)⟩)⟩)⟩)⟩)⟩)) h
set_option maxRecDepth 100000 in
set_option maxHeartbeats 4000000 in
theorem bk_395_36 {b : Bool} {d : Nat} {x1 x2 x4 : Int32} {e : Nat → x_E} {g : Nat → Int32} {q : Nat → Int64} {c : Nat → Nat → Int32} {l : Nat → Nat → Int64} {g' : Nat → Int32} {q' : Nat → Int64} {c' : Nat → Nat → Int32} {l' : Nat → Nat → Int64} {R : Option Value × List x_E} (hc : rr b e d 394 0 [(0, .ref 49), (1, .int (Int8.ofInt (40)).toInt32)] [] g q c l (none, rH e g' q' c' l')) (h : rr b e (d + 1) 395 42 [(0, .ref 49), (1, .int x1), (2, .int x2), (4, .int x4)] [] g' q' c' l' R) : rr b e (d + 1) 395 36 [(0, .ref 49), (1, .int x1), (2, .int x2), (4, .int x4)] [] g q c l R := by
  obtain ⟨f1, hc⟩ := hc
  obtain ⟨f2, h⟩ := h
  obtain ⟨f, hf1, hf2⟩ : ∃ f, f1 ≤ f ∧ f2 ≤ f := ⟨max f1 f2, Nat.le_max_left _ _, Nat.le_max_right _ _⟩
  have hc := nrun_fuel f1 f _ _ _ _ _ _ _ _ _ hf1 hc
  have h := nrun_fuel f2 f _ _ _ _ _ _ _ _ _ hf2 h
  refine ⟨f + 3, ?_⟩
  obtain ⟨y, cb, hj⟩ := mq_395
  rw [n_step (st' := [.ref 49]) (pc' := 37) (lv' := [(0, .ref 49), (1, .int x1), (2, .int x2), (4, .int x4)]) (hp' := rH e g q c l) (i := .aload_n 0) (len := 1) rfl hj rfl rfl rfl]
  rw [n_step (st' := [.int (Int8.ofInt (40)).toInt32, .ref 49]) (pc' := 39) (lv' := [(0, .ref 49), (1, .int x1), (2, .int x2), (4, .int x4)]) (hp' := rH e g q c l) (i := .bipush 40) (len := 2) rfl hj rfl rfl rfl]
  obtain ⟨y2, cb2, hj2⟩ := mq_394
  rw [n_call (f := f) (d := d) (ki := 0) (idx := 664) (j' := 394) (kd := 0) (M' := (y2, cb2, 2, none, 12, 1, 0, 0)) (avs := [.ref 49, .int (Int8.ofInt (40)).toInt32]) (r := []) (rv := none) (hp1 := rH e g' q' c' l') rfl hj rfl rfl rfl rfl (rq_n rfl rfl hj2 rfl rfl) rfl hc (Nat.le_of_ble_eq_true rfl)]
  exact h
set_option maxRecDepth 100000 in
set_option maxHeartbeats 4000000 in
theorem bk_395_42 {b : Bool} {d : Nat} {x1 x2 x4 : Int32} {e : Nat → x_E} {g : Nat → Int32} {q : Nat → Int64} {c : Nat → Nat → Int32} {l : Nat → Nat → Int64} {g' : Nat → Int32} {q' : Nat → Int64} {c' : Nat → Nat → Int32} {l' : Nat → Nat → Int64} {R : Option Value × List x_E} (hc : rr b e d 393 0 [(0, .ref 49), (1, .int (Int8.ofInt (-41)).toInt32), (2, .int (Int32.ofInt (0))), (3, .int (Int32.ofInt (0)))] [] g q c l (none, rH e g' q' c' l')) (h : rr b e (d + 1) 395 50 [(0, .ref 49), (1, .int x1), (2, .int x2), (4, .int x4)] [] g' q' c' l' R) : rr b e (d + 1) 395 42 [(0, .ref 49), (1, .int x1), (2, .int x2), (4, .int x4)] [] g q c l R := by
  obtain ⟨f1, hc⟩ := hc
  obtain ⟨f2, h⟩ := h
  obtain ⟨f, hf1, hf2⟩ : ∃ f, f1 ≤ f ∧ f2 ≤ f := ⟨max f1 f2, Nat.le_max_left _ _, Nat.le_max_right _ _⟩
  have hc := nrun_fuel f1 f _ _ _ _ _ _ _ _ _ hf1 hc
  have h := nrun_fuel f2 f _ _ _ _ _ _ _ _ _ hf2 h
  refine ⟨f + 5, ?_⟩
  obtain ⟨y, cb, hj⟩ := mq_395
  rw [n_step (st' := [.ref 49]) (pc' := 43) (lv' := [(0, .ref 49), (1, .int x1), (2, .int x2), (4, .int x4)]) (hp' := rH e g q c l) (i := .aload_n 0) (len := 1) rfl hj rfl rfl rfl]
  rw [n_step (st' := [.int (Int8.ofInt (-41)).toInt32, .ref 49]) (pc' := 45) (lv' := [(0, .ref 49), (1, .int x1), (2, .int x2), (4, .int x4)]) (hp' := rH e g q c l) (i := .bipush (-41)) (len := 2) rfl hj rfl rfl rfl]
  rw [n_step (st' := [.int (Int32.ofInt (0)), .int (Int8.ofInt (-41)).toInt32, .ref 49]) (pc' := 46) (lv' := [(0, .ref 49), (1, .int x1), (2, .int x2), (4, .int x4)]) (hp' := rH e g q c l) (i := .iconst 0) (len := 1) rfl hj rfl rfl rfl]
  rw [n_step (st' := [.int (Int32.ofInt (0)), .int (Int32.ofInt (0)), .int (Int8.ofInt (-41)).toInt32, .ref 49]) (pc' := 47) (lv' := [(0, .ref 49), (1, .int x1), (2, .int x2), (4, .int x4)]) (hp' := rH e g q c l) (i := .iconst 0) (len := 1) rfl hj rfl rfl rfl]
  obtain ⟨y2, cb2, hj2⟩ := mq_393
  rw [n_call (f := f) (d := d) (ki := 0) (idx := 660) (j' := 393) (kd := 0) (M' := (y2, cb2, 4, none, 12, 3, 0, 0)) (avs := [.ref 49, .int (Int8.ofInt (-41)).toInt32, .int (Int32.ofInt (0)), .int (Int32.ofInt (0))]) (r := []) (rv := none) (hp1 := rH e g' q' c' l') rfl hj rfl rfl rfl rfl (rq_n rfl rfl hj2 rfl rfl) rfl hc (Nat.le_of_ble_eq_true rfl)]
  exact h
set_option maxRecDepth 100000 in
set_option maxHeartbeats 4000000 in
theorem bk_395_50 {b : Bool} {d : Nat} {x1 x2 x4 : Int32} {e : Nat → x_E} {g : Nat → Int32} {q : Nat → Int64} {c : Nat → Nat → Int32} {l : Nat → Nat → Int64} {R : Option Value × List x_E} (h1 : xCn .ne x4 0 = true → rr b e d 395 76 [(0, .ref 49), (1, .int x1), (2, .int x2), (4, .int x4)] [] g q c l R) (h2 : ¬ xCn .ne x4 0 = true → rr b e d 395 55 [(0, .ref 49)] [] g q c l R) : rr b e d 395 50 [(0, .ref 49), (1, .int x1), (2, .int x2), (4, .int x4)] [] g q c l R := by
  have key : ∀ f, nrun xZ (xY (xfm b)) xDT (f + 2) d 395 50 [(0, .ref 49), (1, .int x1), (2, .int x2), (4, .int x4)] [] (rH e g q c l) 0 0 = nrun xZ (xY (xfm b)) xDT f d 395 (if xCn .ne x4 0 = true then 76 else 55) [(0, .ref 49), (1, .int x1), (2, .int x2), (4, .int x4)] [] (rH e g q c l) 0 0 := by
    intro f
    obtain ⟨y, cb, hj⟩ := mq_395
    rw [n_step (st' := [.int x4]) (pc' := 52) (lv' := [(0, .ref 49), (1, .int x1), (2, .int x2), (4, .int x4)]) (hp' := rH e g q c l) (i := .iload 4) (len := 2) rfl hj rfl rfl rfl]
    rw [n_step (st' := []) (pc' := (if xCn .ne x4 0 = true then 76 else 55)) (lv' := [(0, .ref 49), (1, .int x1), (2, .int x2), (4, .int x4)]) (hp' := rH e g q c l) (i := .ifCond .ne 24) (len := 3) rfl hj rfl rfl rfl]
  by_cases hc : xCn .ne x4 0 = true
  · obtain ⟨f, h⟩ := h1 hc
    refine ⟨f + 2, ?_⟩
    rw [key, if_pos hc]
    exact h
  · obtain ⟨f, h⟩ := h2 hc
    refine ⟨f + 2, ?_⟩
    rw [key, if_neg hc]
    exact nrun_ext f f _ _ R 395 55 [(0, .ref 49)] [(0, .ref 49), (1, .int x1), (2, .int x2), (4, .int x4)] [] _ 0 0 122 (Nat.le_refl _) (Nat.le_refl _) (Nat.le_of_ble_eq_true rfl) (lvR_mk [0] [0, 1, 2, 4] rfl rfl (by decide) (by decide) (List.forall_mem_cons.mpr ⟨List.mem_cons_self, (fun _ h => nomatch h)⟩) (List.forall_mem_cons.mpr ⟨Or.inl List.mem_cons_self, (List.forall_mem_cons.mpr ⟨Or.inr rfl, (List.forall_mem_cons.mpr ⟨Or.inr rfl, (List.forall_mem_cons.mpr ⟨Or.inr rfl, (fun _ h => nomatch h)⟩)⟩)⟩)⟩)) h
set_option maxRecDepth 100000 in
set_option maxHeartbeats 4000000 in
theorem bk_395_55 {b : Bool} {d : Nat} {e : Nat → x_E} {g : Nat → Int32} {q : Nat → Int64} {c : Nat → Nat → Int32} {l : Nat → Nat → Int64} {g' : Nat → Int32} {q' : Nat → Int64} {c' : Nat → Nat → Int32} {l' : Nat → Nat → Int64} {R : Option Value × List x_E} (hc : rr b e d 394 0 [(0, .ref 49), (1, .int (Int8.ofInt (105)).toInt32)] [] g q c l (none, rH e g' q' c' l')) (h : rr b e (d + 1) 395 61 [(0, .ref 49)] [] g' q' c' l' R) : rr b e (d + 1) 395 55 [(0, .ref 49)] [] g q c l R := by
  obtain ⟨f1, hc⟩ := hc
  obtain ⟨f2, h⟩ := h
  obtain ⟨f, hf1, hf2⟩ : ∃ f, f1 ≤ f ∧ f2 ≤ f := ⟨max f1 f2, Nat.le_max_left _ _, Nat.le_max_right _ _⟩
  have hc := nrun_fuel f1 f _ _ _ _ _ _ _ _ _ hf1 hc
  have h := nrun_fuel f2 f _ _ _ _ _ _ _ _ _ hf2 h
  refine ⟨f + 3, ?_⟩
  obtain ⟨y, cb, hj⟩ := mq_395
  rw [n_step (st' := [.ref 49]) (pc' := 56) (lv' := [(0, .ref 49)]) (hp' := rH e g q c l) (i := .aload_n 0) (len := 1) rfl hj rfl rfl rfl]
  rw [n_step (st' := [.int (Int8.ofInt (105)).toInt32, .ref 49]) (pc' := 58) (lv' := [(0, .ref 49)]) (hp' := rH e g q c l) (i := .bipush 105) (len := 2) rfl hj rfl rfl rfl]
  obtain ⟨y2, cb2, hj2⟩ := mq_394
  rw [n_call (f := f) (d := d) (ki := 0) (idx := 664) (j' := 394) (kd := 0) (M' := (y2, cb2, 2, none, 12, 1, 0, 0)) (avs := [.ref 49, .int (Int8.ofInt (105)).toInt32]) (r := []) (rv := none) (hp1 := rH e g' q' c' l') rfl hj rfl rfl rfl rfl (rq_n rfl rfl hj2 rfl rfl) rfl hc (Nat.le_of_ble_eq_true rfl)]
  exact h
set_option maxRecDepth 100000 in
set_option maxHeartbeats 4000000 in
theorem bk_395_61 {b : Bool} {d : Nat} {e : Nat → x_E} {g : Nat → Int32} {q : Nat → Int64} {c : Nat → Nat → Int32} {l : Nat → Nat → Int64} {g' : Nat → Int32} {q' : Nat → Int64} {c' : Nat → Nat → Int32} {l' : Nat → Nat → Int64} {R : Option Value × List x_E} (hc : rr b e d 394 0 [(0, .ref 49), (1, .int (Int8.ofInt (110)).toInt32)] [] g q c l (none, rH e g' q' c' l')) (h : rr b e (d + 1) 395 67 [(0, .ref 49)] [] g' q' c' l' R) : rr b e (d + 1) 395 61 [(0, .ref 49)] [] g q c l R := by
  obtain ⟨f1, hc⟩ := hc
  obtain ⟨f2, h⟩ := h
  obtain ⟨f, hf1, hf2⟩ : ∃ f, f1 ≤ f ∧ f2 ≤ f := ⟨max f1 f2, Nat.le_max_left _ _, Nat.le_max_right _ _⟩
  have hc := nrun_fuel f1 f _ _ _ _ _ _ _ _ _ hf1 hc
  have h := nrun_fuel f2 f _ _ _ _ _ _ _ _ _ hf2 h
  refine ⟨f + 3, ?_⟩
  obtain ⟨y, cb, hj⟩ := mq_395
  rw [n_step (st' := [.ref 49]) (pc' := 62) (lv' := [(0, .ref 49)]) (hp' := rH e g q c l) (i := .aload_n 0) (len := 1) rfl hj rfl rfl rfl]
  rw [n_step (st' := [.int (Int8.ofInt (110)).toInt32, .ref 49]) (pc' := 64) (lv' := [(0, .ref 49)]) (hp' := rH e g q c l) (i := .bipush 110) (len := 2) rfl hj rfl rfl rfl]
  obtain ⟨y2, cb2, hj2⟩ := mq_394
  rw [n_call (f := f) (d := d) (ki := 0) (idx := 664) (j' := 394) (kd := 0) (M' := (y2, cb2, 2, none, 12, 1, 0, 0)) (avs := [.ref 49, .int (Int8.ofInt (110)).toInt32]) (r := []) (rv := none) (hp1 := rH e g' q' c' l') rfl hj rfl rfl rfl rfl (rq_n rfl rfl hj2 rfl rfl) rfl hc (Nat.le_of_ble_eq_true rfl)]
  exact h
set_option maxRecDepth 100000 in
set_option maxHeartbeats 4000000 in
theorem bk_395_67 {b : Bool} {d : Nat} {e : Nat → x_E} {g : Nat → Int32} {q : Nat → Int64} {c : Nat → Nat → Int32} {l : Nat → Nat → Int64} {g' : Nat → Int32} {q' : Nat → Int64} {c' : Nat → Nat → Int32} {l' : Nat → Nat → Int64} {R : Option Value × List x_E} (hc : rr b e d 394 0 [(0, .ref 49), (1, .int (Int8.ofInt (116)).toInt32)] [] g q c l (none, rH e g' q' c' l')) (h : rr b e (d + 1) 395 73 [] [] g' q' c' l' R) : rr b e (d + 1) 395 67 [(0, .ref 49)] [] g q c l R := by
  obtain ⟨f1, hc⟩ := hc
  obtain ⟨f2, h⟩ := h
  obtain ⟨f, hf1, hf2⟩ : ∃ f, f1 ≤ f ∧ f2 ≤ f := ⟨max f1 f2, Nat.le_max_left _ _, Nat.le_max_right _ _⟩
  have hc := nrun_fuel f1 f _ _ _ _ _ _ _ _ _ hf1 hc
  have h := nrun_fuel f2 f _ _ _ _ _ _ _ _ _ hf2 h
  refine ⟨f + 3, ?_⟩
  obtain ⟨y, cb, hj⟩ := mq_395
  rw [n_step (st' := [.ref 49]) (pc' := 68) (lv' := [(0, .ref 49)]) (hp' := rH e g q c l) (i := .aload_n 0) (len := 1) rfl hj rfl rfl rfl]
  rw [n_step (st' := [.int (Int8.ofInt (116)).toInt32, .ref 49]) (pc' := 70) (lv' := [(0, .ref 49)]) (hp' := rH e g q c l) (i := .bipush 116) (len := 2) rfl hj rfl rfl rfl]
  obtain ⟨y2, cb2, hj2⟩ := mq_394
  rw [n_call (f := f) (d := d) (ki := 0) (idx := 664) (j' := 394) (kd := 0) (M' := (y2, cb2, 2, none, 12, 1, 0, 0)) (avs := [.ref 49, .int (Int8.ofInt (116)).toInt32]) (r := []) (rv := none) (hp1 := rH e g' q' c' l') rfl hj rfl rfl rfl rfl (rq_n rfl rfl hj2 rfl rfl) rfl hc (Nat.le_of_ble_eq_true rfl)]
  exact nrun_ext f f _ _ R 395 73 [] [(0, .ref 49)] [] _ 0 0 122 (Nat.le_refl _) (Nat.le_refl _) (Nat.le_of_ble_eq_true rfl) (lvR_mk [] [0] rfl rfl (by decide) (by decide) (fun _ h => nomatch h) (List.forall_mem_cons.mpr ⟨Or.inr rfl, (fun _ h => nomatch h)⟩)) h
set_option maxRecDepth 100000 in
set_option maxHeartbeats 4000000 in
theorem bk_395_73 {b : Bool} {d : Nat} {e : Nat → x_E} {g : Nat → Int32} {q : Nat → Int64} {c : Nat → Nat → Int32} {l : Nat → Nat → Int64} {R : Option Value × List x_E} (h : rr b e d 395 212 [] [] g q c l R) : rr b e d 395 73 [] [] g q c l R := by
  obtain ⟨f, h⟩ := h
  refine ⟨f + 1, ?_⟩
  obtain ⟨y, cb, hj⟩ := mq_395
  rw [n_step (st' := []) (pc' := 212) (lv' := []) (hp' := rH e g q c l) (i := .goto 139) (len := 3) rfl hj rfl rfl rfl]
  exact h
set_option maxRecDepth 100000 in
set_option maxHeartbeats 4000000 in
theorem bk_395_76 {b : Bool} {d : Nat} {x1 x2 x4 : Int32} {e : Nat → x_E} {g : Nat → Int32} {q : Nat → Int64} {c : Nat → Nat → Int32} {l : Nat → Nat → Int64} {R : Option Value × List x_E} (h1 : xCn .ne x4 ((Int32.ofInt (1))) = true → rr b e d 395 123 [(0, .ref 49), (1, .int x1), (2, .int x2), (4, .int x4)] [] g q c l R) (h2 : ¬ xCn .ne x4 ((Int32.ofInt (1))) = true → rr b e d 395 82 [(0, .ref 49), (1, .int x1), (2, .int x2)] [] g q c l R) : rr b e d 395 76 [(0, .ref 49), (1, .int x1), (2, .int x2), (4, .int x4)] [] g q c l R := by
  have key : ∀ f, nrun xZ (xY (xfm b)) xDT (f + 3) d 395 76 [(0, .ref 49), (1, .int x1), (2, .int x2), (4, .int x4)] [] (rH e g q c l) 0 0 = nrun xZ (xY (xfm b)) xDT f d 395 (if xCn .ne x4 ((Int32.ofInt (1))) = true then 123 else 82) [(0, .ref 49), (1, .int x1), (2, .int x2), (4, .int x4)] [] (rH e g q c l) 0 0 := by
    intro f
    obtain ⟨y, cb, hj⟩ := mq_395
    rw [n_step (st' := [.int x4]) (pc' := 78) (lv' := [(0, .ref 49), (1, .int x1), (2, .int x2), (4, .int x4)]) (hp' := rH e g q c l) (i := .iload 4) (len := 2) rfl hj rfl rfl rfl]
    rw [n_step (st' := [.int (Int32.ofInt (1)), .int x4]) (pc' := 79) (lv' := [(0, .ref 49), (1, .int x1), (2, .int x2), (4, .int x4)]) (hp' := rH e g q c l) (i := .iconst 1) (len := 1) rfl hj rfl rfl rfl]
    rw [n_step (st' := []) (pc' := (if xCn .ne x4 ((Int32.ofInt (1))) = true then 123 else 82)) (lv' := [(0, .ref 49), (1, .int x1), (2, .int x2), (4, .int x4)]) (hp' := rH e g q c l) (i := .if_icmp .ne 44) (len := 3) rfl hj rfl rfl rfl]
  by_cases hc : xCn .ne x4 ((Int32.ofInt (1))) = true
  · obtain ⟨f, h⟩ := h1 hc
    refine ⟨f + 3, ?_⟩
    rw [key, if_pos hc]
    exact h
  · obtain ⟨f, h⟩ := h2 hc
    refine ⟨f + 3, ?_⟩
    rw [key, if_neg hc]
    exact nrun_ext f f _ _ R 395 82 [(0, .ref 49), (1, .int x1), (2, .int x2)] [(0, .ref 49), (1, .int x1), (2, .int x2), (4, .int x4)] [] _ 0 0 122 (Nat.le_refl _) (Nat.le_refl _) (Nat.le_of_ble_eq_true rfl) (lvR_mk [0, 1, 2] [0, 1, 2, 4] rfl rfl (by decide) (by decide) (List.forall_mem_cons.mpr ⟨List.mem_cons_self, (List.forall_mem_cons.mpr ⟨(List.mem_cons_of_mem _ List.mem_cons_self), (List.forall_mem_cons.mpr ⟨(List.mem_cons_of_mem _ (List.mem_cons_of_mem _ List.mem_cons_self)), (fun _ h => nomatch h)⟩)⟩)⟩) (List.forall_mem_cons.mpr ⟨Or.inl List.mem_cons_self, (List.forall_mem_cons.mpr ⟨Or.inl (List.mem_cons_of_mem _ List.mem_cons_self), (List.forall_mem_cons.mpr ⟨Or.inl (List.mem_cons_of_mem _ (List.mem_cons_of_mem _ List.mem_cons_self)), (List.forall_mem_cons.mpr ⟨Or.inr rfl, (fun _ h => nomatch h)⟩)⟩)⟩)⟩)) h
set_option maxRecDepth 100000 in
set_option maxHeartbeats 4000000 in
theorem bk_395_82 {b : Bool} {d : Nat} {x1 x2 : Int32} {e : Nat → x_E} {g : Nat → Int32} {q : Nat → Int64} {c : Nat → Nat → Int32} {l : Nat → Nat → Int64} {g' : Nat → Int32} {q' : Nat → Int64} {c' : Nat → Nat → Int32} {l' : Nat → Nat → Int64} {v : Int32} {R : Option Value × List x_E} (hc : rr b e d 370 0 [(0, .ref 49), (1, .int (x1 + (Int32.ofInt (1))))] [] g q c l (some (.int v), rH e g' q' c' l')) (h : rr b e (d + 1) 395 90 [(0, .ref 49), (1, .int x1), (2, .int x2)] [.int v, .ref 49] g' q' c' l' R) : rr b e (d + 1) 395 82 [(0, .ref 49), (1, .int x1), (2, .int x2)] [] g q c l R := by
  obtain ⟨f1, hc⟩ := hc
  obtain ⟨f2, h⟩ := h
  obtain ⟨f, hf1, hf2⟩ : ∃ f, f1 ≤ f ∧ f2 ≤ f := ⟨max f1 f2, Nat.le_max_left _ _, Nat.le_max_right _ _⟩
  have hc := nrun_fuel f1 f _ _ _ _ _ _ _ _ _ hf1 hc
  have h := nrun_fuel f2 f _ _ _ _ _ _ _ _ _ hf2 h
  refine ⟨f + 6, ?_⟩
  obtain ⟨y, cb, hj⟩ := mq_395
  rw [n_step (st' := [.ref 49]) (pc' := 83) (lv' := [(0, .ref 49), (1, .int x1), (2, .int x2)]) (hp' := rH e g q c l) (i := .aload_n 0) (len := 1) rfl hj rfl rfl rfl]
  rw [n_step (st' := [.ref 49, .ref 49]) (pc' := 84) (lv' := [(0, .ref 49), (1, .int x1), (2, .int x2)]) (hp' := rH e g q c l) (i := .aload_n 0) (len := 1) rfl hj rfl rfl rfl]
  rw [n_step (st' := [.int x1, .ref 49, .ref 49]) (pc' := 85) (lv' := [(0, .ref 49), (1, .int x1), (2, .int x2)]) (hp' := rH e g q c l) (i := .iload_n 1) (len := 1) rfl hj rfl rfl rfl]
  rw [n_step (st' := [.int (Int32.ofInt (1)), .int x1, .ref 49, .ref 49]) (pc' := 86) (lv' := [(0, .ref 49), (1, .int x1), (2, .int x2)]) (hp' := rH e g q c l) (i := .iconst 1) (len := 1) rfl hj rfl rfl rfl]
  rw [n_step (st' := [.int (x1 + (Int32.ofInt (1))), .ref 49, .ref 49]) (pc' := 87) (lv' := [(0, .ref 49), (1, .int x1), (2, .int x2)]) (hp' := rH e g q c l) (i := .iadd) (len := 1) rfl hj rfl rfl rfl]
  obtain ⟨y2, cb2, hj2⟩ := mq_370
  rw [n_call (f := f) (d := d) (ki := 0) (idx := 390) (j' := 370) (kd := 0) (M' := (y2, cb2, 5, some .int, 12, 1, 0, 0)) (avs := [.ref 49, .int (x1 + (Int32.ofInt (1)))]) (r := [.ref 49]) (rv := some (.int v)) (hp1 := rH e g' q' c' l') rfl hj rfl rfl rfl rfl (rq_n rfl rfl hj2 rfl rfl) rfl hc (Nat.le_of_ble_eq_true rfl)]
  exact h
set_option maxRecDepth 100000 in
set_option maxHeartbeats 4000000 in
theorem bk_395_90 {b : Bool} {d : Nat} {t0 x1 x2 : Int32} {e : Nat → x_E} {g : Nat → Int32} {q : Nat → Int64} {c : Nat → Nat → Int32} {l : Nat → Nat → Int64} {g' : Nat → Int32} {q' : Nat → Int64} {c' : Nat → Nat → Int32} {l' : Nat → Nat → Int64} {R : Option Value × List x_E} (hc : rr b e d 393 0 [(0, .ref 49), (1, .int t0), (2, .int x2), (3, .int (Int32.ofInt (0)))] [] g q c l (none, rH e g' q' c' l')) (h : rr b e (d + 1) 395 95 [(0, .ref 49), (1, .int x1), (2, .int x2)] [] g' q' c' l' R) : rr b e (d + 1) 395 90 [(0, .ref 49), (1, .int x1), (2, .int x2)] [.int t0, .ref 49] g q c l R := by
  obtain ⟨f1, hc⟩ := hc
  obtain ⟨f2, h⟩ := h
  obtain ⟨f, hf1, hf2⟩ : ∃ f, f1 ≤ f ∧ f2 ≤ f := ⟨max f1 f2, Nat.le_max_left _ _, Nat.le_max_right _ _⟩
  have hc := nrun_fuel f1 f _ _ _ _ _ _ _ _ _ hf1 hc
  have h := nrun_fuel f2 f _ _ _ _ _ _ _ _ _ hf2 h
  refine ⟨f + 3, ?_⟩
  obtain ⟨y, cb, hj⟩ := mq_395
  rw [n_step (st' := [.int x2, .int t0, .ref 49]) (pc' := 91) (lv' := [(0, .ref 49), (1, .int x1), (2, .int x2)]) (hp' := rH e g q c l) (i := .iload_n 2) (len := 1) rfl hj rfl rfl rfl]
  rw [n_step (st' := [.int (Int32.ofInt (0)), .int x2, .int t0, .ref 49]) (pc' := 92) (lv' := [(0, .ref 49), (1, .int x1), (2, .int x2)]) (hp' := rH e g q c l) (i := .iconst 0) (len := 1) rfl hj rfl rfl rfl]
  obtain ⟨y2, cb2, hj2⟩ := mq_393
  rw [n_call (f := f) (d := d) (ki := 0) (idx := 660) (j' := 393) (kd := 0) (M' := (y2, cb2, 4, none, 12, 3, 0, 0)) (avs := [.ref 49, .int t0, .int x2, .int (Int32.ofInt (0))]) (r := []) (rv := none) (hp1 := rH e g' q' c' l') rfl hj rfl rfl rfl rfl (rq_n rfl rfl hj2 rfl rfl) rfl hc (Nat.le_of_ble_eq_true rfl)]
  exact h
set_option maxRecDepth 100000 in
set_option maxHeartbeats 4000000 in
theorem bk_395_95 {b : Bool} {d : Nat} {x1 x2 : Int32} {e : Nat → x_E} {g : Nat → Int32} {q : Nat → Int64} {c : Nat → Nat → Int32} {l : Nat → Nat → Int64} {g' : Nat → Int32} {q' : Nat → Int64} {c' : Nat → Nat → Int32} {l' : Nat → Nat → Int64} {R : Option Value × List x_E} (hc : rr b e d 393 0 [(0, .ref 49), (1, .int (Int8.ofInt (-62)).toInt32), (2, .int (Int32.ofInt (0))), (3, .int (Int32.ofInt (0)))] [] g q c l (none, rH e g' q' c' l')) (h : rr b e (d + 1) 395 103 [(0, .ref 49), (1, .int x1), (2, .int x2)] [] g' q' c' l' R) : rr b e (d + 1) 395 95 [(0, .ref 49), (1, .int x1), (2, .int x2)] [] g q c l R := by
  obtain ⟨f1, hc⟩ := hc
  obtain ⟨f2, h⟩ := h
  obtain ⟨f, hf1, hf2⟩ : ∃ f, f1 ≤ f ∧ f2 ≤ f := ⟨max f1 f2, Nat.le_max_left _ _, Nat.le_max_right _ _⟩
  have hc := nrun_fuel f1 f _ _ _ _ _ _ _ _ _ hf1 hc
  have h := nrun_fuel f2 f _ _ _ _ _ _ _ _ _ hf2 h
  refine ⟨f + 5, ?_⟩
  obtain ⟨y, cb, hj⟩ := mq_395
  rw [n_step (st' := [.ref 49]) (pc' := 96) (lv' := [(0, .ref 49), (1, .int x1), (2, .int x2)]) (hp' := rH e g q c l) (i := .aload_n 0) (len := 1) rfl hj rfl rfl rfl]
  rw [n_step (st' := [.int (Int8.ofInt (-62)).toInt32, .ref 49]) (pc' := 98) (lv' := [(0, .ref 49), (1, .int x1), (2, .int x2)]) (hp' := rH e g q c l) (i := .bipush (-62)) (len := 2) rfl hj rfl rfl rfl]
  rw [n_step (st' := [.int (Int32.ofInt (0)), .int (Int8.ofInt (-62)).toInt32, .ref 49]) (pc' := 99) (lv' := [(0, .ref 49), (1, .int x1), (2, .int x2)]) (hp' := rH e g q c l) (i := .iconst 0) (len := 1) rfl hj rfl rfl rfl]
  rw [n_step (st' := [.int (Int32.ofInt (0)), .int (Int32.ofInt (0)), .int (Int8.ofInt (-62)).toInt32, .ref 49]) (pc' := 100) (lv' := [(0, .ref 49), (1, .int x1), (2, .int x2)]) (hp' := rH e g q c l) (i := .iconst 0) (len := 1) rfl hj rfl rfl rfl]
  obtain ⟨y2, cb2, hj2⟩ := mq_393
  rw [n_call (f := f) (d := d) (ki := 0) (idx := 660) (j' := 393) (kd := 0) (M' := (y2, cb2, 4, none, 12, 3, 0, 0)) (avs := [.ref 49, .int (Int8.ofInt (-62)).toInt32, .int (Int32.ofInt (0)), .int (Int32.ofInt (0))]) (r := []) (rv := none) (hp1 := rH e g' q' c' l') rfl hj rfl rfl rfl rfl (rq_n rfl rfl hj2 rfl rfl) rfl hc (Nat.le_of_ble_eq_true rfl)]
  exact h
set_option maxRecDepth 100000 in
set_option maxHeartbeats 4000000 in
theorem bk_395_103 {b : Bool} {d : Nat} {x1 x2 : Int32} {e : Nat → x_E} {g : Nat → Int32} {q : Nat → Int64} {c : Nat → Nat → Int32} {l : Nat → Nat → Int64} {g' : Nat → Int32} {q' : Nat → Int64} {c' : Nat → Nat → Int32} {l' : Nat → Nat → Int64} {R : Option Value × List x_E} (hc : rr b e d 393 0 [(0, .ref 49), (1, .int (Int8.ofInt (-45)).toInt32), (2, .int (Int32.ofInt (0))), (3, .int (Int32.ofInt (0)))] [] g q c l (none, rH e g' q' c' l')) (h : rr b e (d + 1) 395 111 [(0, .ref 49), (1, .int x1), (2, .int x2)] [] g' q' c' l' R) : rr b e (d + 1) 395 103 [(0, .ref 49), (1, .int x1), (2, .int x2)] [] g q c l R := by
  obtain ⟨f1, hc⟩ := hc
  obtain ⟨f2, h⟩ := h
  obtain ⟨f, hf1, hf2⟩ : ∃ f, f1 ≤ f ∧ f2 ≤ f := ⟨max f1 f2, Nat.le_max_left _ _, Nat.le_max_right _ _⟩
  have hc := nrun_fuel f1 f _ _ _ _ _ _ _ _ _ hf1 hc
  have h := nrun_fuel f2 f _ _ _ _ _ _ _ _ _ hf2 h
  refine ⟨f + 5, ?_⟩
  obtain ⟨y, cb, hj⟩ := mq_395
  rw [n_step (st' := [.ref 49]) (pc' := 104) (lv' := [(0, .ref 49), (1, .int x1), (2, .int x2)]) (hp' := rH e g q c l) (i := .aload_n 0) (len := 1) rfl hj rfl rfl rfl]
  rw [n_step (st' := [.int (Int8.ofInt (-45)).toInt32, .ref 49]) (pc' := 106) (lv' := [(0, .ref 49), (1, .int x1), (2, .int x2)]) (hp' := rH e g q c l) (i := .bipush (-45)) (len := 2) rfl hj rfl rfl rfl]
  rw [n_step (st' := [.int (Int32.ofInt (0)), .int (Int8.ofInt (-45)).toInt32, .ref 49]) (pc' := 107) (lv' := [(0, .ref 49), (1, .int x1), (2, .int x2)]) (hp' := rH e g q c l) (i := .iconst 0) (len := 1) rfl hj rfl rfl rfl]
  rw [n_step (st' := [.int (Int32.ofInt (0)), .int (Int32.ofInt (0)), .int (Int8.ofInt (-45)).toInt32, .ref 49]) (pc' := 108) (lv' := [(0, .ref 49), (1, .int x1), (2, .int x2)]) (hp' := rH e g q c l) (i := .iconst 0) (len := 1) rfl hj rfl rfl rfl]
  obtain ⟨y2, cb2, hj2⟩ := mq_393
  rw [n_call (f := f) (d := d) (ki := 0) (idx := 660) (j' := 393) (kd := 0) (M' := (y2, cb2, 4, none, 12, 3, 0, 0)) (avs := [.ref 49, .int (Int8.ofInt (-45)).toInt32, .int (Int32.ofInt (0)), .int (Int32.ofInt (0))]) (r := []) (rv := none) (hp1 := rH e g' q' c' l') rfl hj rfl rfl rfl rfl (rq_n rfl rfl hj2 rfl rfl) rfl hc (Nat.le_of_ble_eq_true rfl)]
  exact h
set_option maxRecDepth 100000 in
set_option maxHeartbeats 4000000 in
theorem bk_395_111 {b : Bool} {d : Nat} {x1 x2 : Int32} {e : Nat → x_E} {g : Nat → Int32} {q : Nat → Int64} {c : Nat → Nat → Int32} {l : Nat → Nat → Int64} {g' : Nat → Int32} {q' : Nat → Int64} {c' : Nat → Nat → Int32} {l' : Nat → Nat → Int64} {R : Option Value × List x_E} (hc : rr b e d 393 0 [(0, .ref 49), (1, .int (x1 + (Int32.ofInt (1)))), (2, .int x2), (3, .int (Int32.ofInt (1)))] [] g q c l (none, rH e g' q' c' l')) (h : rr b e (d + 1) 395 120 [] [] g' q' c' l' R) : rr b e (d + 1) 395 111 [(0, .ref 49), (1, .int x1), (2, .int x2)] [] g q c l R := by
  obtain ⟨f1, hc⟩ := hc
  obtain ⟨f2, h⟩ := h
  obtain ⟨f, hf1, hf2⟩ : ∃ f, f1 ≤ f ∧ f2 ≤ f := ⟨max f1 f2, Nat.le_max_left _ _, Nat.le_max_right _ _⟩
  have hc := nrun_fuel f1 f _ _ _ _ _ _ _ _ _ hf1 hc
  have h := nrun_fuel f2 f _ _ _ _ _ _ _ _ _ hf2 h
  refine ⟨f + 7, ?_⟩
  obtain ⟨y, cb, hj⟩ := mq_395
  rw [n_step (st' := [.ref 49]) (pc' := 112) (lv' := [(0, .ref 49), (1, .int x1), (2, .int x2)]) (hp' := rH e g q c l) (i := .aload_n 0) (len := 1) rfl hj rfl rfl rfl]
  rw [n_step (st' := [.int x1, .ref 49]) (pc' := 113) (lv' := [(0, .ref 49), (1, .int x1), (2, .int x2)]) (hp' := rH e g q c l) (i := .iload_n 1) (len := 1) rfl hj rfl rfl rfl]
  rw [n_step (st' := [.int (Int32.ofInt (1)), .int x1, .ref 49]) (pc' := 114) (lv' := [(0, .ref 49), (1, .int x1), (2, .int x2)]) (hp' := rH e g q c l) (i := .iconst 1) (len := 1) rfl hj rfl rfl rfl]
  rw [n_step (st' := [.int (x1 + (Int32.ofInt (1))), .ref 49]) (pc' := 115) (lv' := [(0, .ref 49), (1, .int x1), (2, .int x2)]) (hp' := rH e g q c l) (i := .iadd) (len := 1) rfl hj rfl rfl rfl]
  rw [n_step (st' := [.int x2, .int (x1 + (Int32.ofInt (1))), .ref 49]) (pc' := 116) (lv' := [(0, .ref 49), (1, .int x1), (2, .int x2)]) (hp' := rH e g q c l) (i := .iload_n 2) (len := 1) rfl hj rfl rfl rfl]
  rw [n_step (st' := [.int (Int32.ofInt (1)), .int x2, .int (x1 + (Int32.ofInt (1))), .ref 49]) (pc' := 117) (lv' := [(0, .ref 49), (1, .int x1), (2, .int x2)]) (hp' := rH e g q c l) (i := .iconst 1) (len := 1) rfl hj rfl rfl rfl]
  obtain ⟨y2, cb2, hj2⟩ := mq_393
  rw [n_call (f := f) (d := d) (ki := 0) (idx := 660) (j' := 393) (kd := 0) (M' := (y2, cb2, 4, none, 12, 3, 0, 0)) (avs := [.ref 49, .int (x1 + (Int32.ofInt (1))), .int x2, .int (Int32.ofInt (1))]) (r := []) (rv := none) (hp1 := rH e g' q' c' l') rfl hj rfl rfl rfl rfl (rq_n rfl rfl hj2 rfl rfl) rfl hc (Nat.le_of_ble_eq_true rfl)]
  exact nrun_ext f f _ _ R 395 120 [] [(0, .ref 49), (1, .int x1), (2, .int x2)] [] _ 0 0 122 (Nat.le_refl _) (Nat.le_refl _) (Nat.le_of_ble_eq_true rfl) (lvR_mk [] [0, 1, 2] rfl rfl (by decide) (by decide) (fun _ h => nomatch h) (List.forall_mem_cons.mpr ⟨Or.inr rfl, (List.forall_mem_cons.mpr ⟨Or.inr rfl, (List.forall_mem_cons.mpr ⟨Or.inr rfl, (fun _ h => nomatch h)⟩)⟩)⟩)) h
set_option maxRecDepth 100000 in
set_option maxHeartbeats 4000000 in
theorem bk_395_120 {b : Bool} {d : Nat} {e : Nat → x_E} {g : Nat → Int32} {q : Nat → Int64} {c : Nat → Nat → Int32} {l : Nat → Nat → Int64} {R : Option Value × List x_E} (h : rr b e d 395 212 [] [] g q c l R) : rr b e d 395 120 [] [] g q c l R := by
  obtain ⟨f, h⟩ := h
  refine ⟨f + 1, ?_⟩
  obtain ⟨y, cb, hj⟩ := mq_395
  rw [n_step (st' := []) (pc' := 212) (lv' := []) (hp' := rH e g q c l) (i := .goto 92) (len := 3) rfl hj rfl rfl rfl]
  exact h
set_option maxRecDepth 100000 in
set_option maxHeartbeats 4000000 in
theorem bk_395_123 {b : Bool} {d : Nat} {x1 x2 x4 : Int32} {e : Nat → x_E} {g : Nat → Int32} {q : Nat → Int64} {c : Nat → Nat → Int32} {l : Nat → Nat → Int64} {R : Option Value × List x_E} (h1 : xCn .ne x4 ((Int32.ofInt (2))) = true → rr b e d 395 178 [(0, .ref 49), (1, .int x1), (2, .int x2), (4, .int x4)] [] g q c l R) (h2 : ¬ xCn .ne x4 ((Int32.ofInt (2))) = true → rr b e d 395 129 [(0, .ref 49), (1, .int x1), (2, .int x2)] [] g q c l R) : rr b e d 395 123 [(0, .ref 49), (1, .int x1), (2, .int x2), (4, .int x4)] [] g q c l R := by
  have key : ∀ f, nrun xZ (xY (xfm b)) xDT (f + 3) d 395 123 [(0, .ref 49), (1, .int x1), (2, .int x2), (4, .int x4)] [] (rH e g q c l) 0 0 = nrun xZ (xY (xfm b)) xDT f d 395 (if xCn .ne x4 ((Int32.ofInt (2))) = true then 178 else 129) [(0, .ref 49), (1, .int x1), (2, .int x2), (4, .int x4)] [] (rH e g q c l) 0 0 := by
    intro f
    obtain ⟨y, cb, hj⟩ := mq_395
    rw [n_step (st' := [.int x4]) (pc' := 125) (lv' := [(0, .ref 49), (1, .int x1), (2, .int x2), (4, .int x4)]) (hp' := rH e g q c l) (i := .iload 4) (len := 2) rfl hj rfl rfl rfl]
    rw [n_step (st' := [.int (Int32.ofInt (2)), .int x4]) (pc' := 126) (lv' := [(0, .ref 49), (1, .int x1), (2, .int x2), (4, .int x4)]) (hp' := rH e g q c l) (i := .iconst 2) (len := 1) rfl hj rfl rfl rfl]
    rw [n_step (st' := []) (pc' := (if xCn .ne x4 ((Int32.ofInt (2))) = true then 178 else 129)) (lv' := [(0, .ref 49), (1, .int x1), (2, .int x2), (4, .int x4)]) (hp' := rH e g q c l) (i := .if_icmp .ne 52) (len := 3) rfl hj rfl rfl rfl]
  by_cases hc : xCn .ne x4 ((Int32.ofInt (2))) = true
  · obtain ⟨f, h⟩ := h1 hc
    refine ⟨f + 3, ?_⟩
    rw [key, if_pos hc]
    exact h
  · obtain ⟨f, h⟩ := h2 hc
    refine ⟨f + 3, ?_⟩
    rw [key, if_neg hc]
    exact nrun_ext f f _ _ R 395 129 [(0, .ref 49), (1, .int x1), (2, .int x2)] [(0, .ref 49), (1, .int x1), (2, .int x2), (4, .int x4)] [] _ 0 0 122 (Nat.le_refl _) (Nat.le_refl _) (Nat.le_of_ble_eq_true rfl) (lvR_mk [0, 1, 2] [0, 1, 2, 4] rfl rfl (by decide) (by decide) (List.forall_mem_cons.mpr ⟨List.mem_cons_self, (List.forall_mem_cons.mpr ⟨(List.mem_cons_of_mem _ List.mem_cons_self), (List.forall_mem_cons.mpr ⟨(List.mem_cons_of_mem _ (List.mem_cons_of_mem _ List.mem_cons_self)), (fun _ h => nomatch h)⟩)⟩)⟩) (List.forall_mem_cons.mpr ⟨Or.inl List.mem_cons_self, (List.forall_mem_cons.mpr ⟨Or.inl (List.mem_cons_of_mem _ List.mem_cons_self), (List.forall_mem_cons.mpr ⟨Or.inl (List.mem_cons_of_mem _ (List.mem_cons_of_mem _ List.mem_cons_self)), (List.forall_mem_cons.mpr ⟨Or.inr rfl, (fun _ h => nomatch h)⟩)⟩)⟩)⟩)) h
set_option maxRecDepth 100000 in
set_option maxHeartbeats 4000000 in
theorem bk_395_129 {b : Bool} {d : Nat} {x1 x2 : Int32} {e : Nat → x_E} {g : Nat → Int32} {q : Nat → Int64} {c : Nat → Nat → Int32} {l : Nat → Nat → Int64} {g' : Nat → Int32} {q' : Nat → Int64} {c' : Nat → Nat → Int32} {l' : Nat → Nat → Int64} {R : Option Value × List x_E} (hc : rr b e d 394 0 [(0, .ref 49), (1, .int (Int8.ofInt (97)).toInt32)] [] g q c l (none, rH e g' q' c' l')) (h : rr b e (d + 1) 395 135 [(0, .ref 49), (1, .int x1), (2, .int x2)] [] g' q' c' l' R) : rr b e (d + 1) 395 129 [(0, .ref 49), (1, .int x1), (2, .int x2)] [] g q c l R := by
  obtain ⟨f1, hc⟩ := hc
  obtain ⟨f2, h⟩ := h
  obtain ⟨f, hf1, hf2⟩ : ∃ f, f1 ≤ f ∧ f2 ≤ f := ⟨max f1 f2, Nat.le_max_left _ _, Nat.le_max_right _ _⟩
  have hc := nrun_fuel f1 f _ _ _ _ _ _ _ _ _ hf1 hc
  have h := nrun_fuel f2 f _ _ _ _ _ _ _ _ _ hf2 h
  refine ⟨f + 3, ?_⟩
  obtain ⟨y, cb, hj⟩ := mq_395
  rw [n_step (st' := [.ref 49]) (pc' := 130) (lv' := [(0, .ref 49), (1, .int x1), (2, .int x2)]) (hp' := rH e g q c l) (i := .aload_n 0) (len := 1) rfl hj rfl rfl rfl]
  rw [n_step (st' := [.int (Int8.ofInt (97)).toInt32, .ref 49]) (pc' := 132) (lv' := [(0, .ref 49), (1, .int x1), (2, .int x2)]) (hp' := rH e g q c l) (i := .bipush 97) (len := 2) rfl hj rfl rfl rfl]
  obtain ⟨y2, cb2, hj2⟩ := mq_394
  rw [n_call (f := f) (d := d) (ki := 0) (idx := 664) (j' := 394) (kd := 0) (M' := (y2, cb2, 2, none, 12, 1, 0, 0)) (avs := [.ref 49, .int (Int8.ofInt (97)).toInt32]) (r := []) (rv := none) (hp1 := rH e g' q' c' l') rfl hj rfl rfl rfl rfl (rq_n rfl rfl hj2 rfl rfl) rfl hc (Nat.le_of_ble_eq_true rfl)]
  exact h
set_option maxRecDepth 100000 in
set_option maxHeartbeats 4000000 in
theorem bk_395_135 {b : Bool} {d : Nat} {x1 x2 : Int32} {e : Nat → x_E} {g : Nat → Int32} {q : Nat → Int64} {c : Nat → Nat → Int32} {l : Nat → Nat → Int64} {g' : Nat → Int32} {q' : Nat → Int64} {c' : Nat → Nat → Int32} {l' : Nat → Nat → Int64} {R : Option Value × List x_E} (hc : rr b e d 394 0 [(0, .ref 49), (1, .int (Int8.ofInt (108)).toInt32)] [] g q c l (none, rH e g' q' c' l')) (h : rr b e (d + 1) 395 141 [(0, .ref 49), (1, .int x1), (2, .int x2)] [] g' q' c' l' R) : rr b e (d + 1) 395 135 [(0, .ref 49), (1, .int x1), (2, .int x2)] [] g q c l R := by
  obtain ⟨f1, hc⟩ := hc
  obtain ⟨f2, h⟩ := h
  obtain ⟨f, hf1, hf2⟩ : ∃ f, f1 ≤ f ∧ f2 ≤ f := ⟨max f1 f2, Nat.le_max_left _ _, Nat.le_max_right _ _⟩
  have hc := nrun_fuel f1 f _ _ _ _ _ _ _ _ _ hf1 hc
  have h := nrun_fuel f2 f _ _ _ _ _ _ _ _ _ hf2 h
  refine ⟨f + 3, ?_⟩
  obtain ⟨y, cb, hj⟩ := mq_395
  rw [n_step (st' := [.ref 49]) (pc' := 136) (lv' := [(0, .ref 49), (1, .int x1), (2, .int x2)]) (hp' := rH e g q c l) (i := .aload_n 0) (len := 1) rfl hj rfl rfl rfl]
  rw [n_step (st' := [.int (Int8.ofInt (108)).toInt32, .ref 49]) (pc' := 138) (lv' := [(0, .ref 49), (1, .int x1), (2, .int x2)]) (hp' := rH e g q c l) (i := .bipush 108) (len := 2) rfl hj rfl rfl rfl]
  obtain ⟨y2, cb2, hj2⟩ := mq_394
  rw [n_call (f := f) (d := d) (ki := 0) (idx := 664) (j' := 394) (kd := 0) (M' := (y2, cb2, 2, none, 12, 1, 0, 0)) (avs := [.ref 49, .int (Int8.ofInt (108)).toInt32]) (r := []) (rv := none) (hp1 := rH e g' q' c' l') rfl hj rfl rfl rfl rfl (rq_n rfl rfl hj2 rfl rfl) rfl hc (Nat.le_of_ble_eq_true rfl)]
  exact h
set_option maxRecDepth 100000 in
set_option maxHeartbeats 4000000 in
theorem bk_395_141 {b : Bool} {d : Nat} {x1 x2 : Int32} {e : Nat → x_E} {g : Nat → Int32} {q : Nat → Int64} {c : Nat → Nat → Int32} {l : Nat → Nat → Int64} {g' : Nat → Int32} {q' : Nat → Int64} {c' : Nat → Nat → Int32} {l' : Nat → Nat → Int64} {R : Option Value × List x_E} (hc : rr b e d 394 0 [(0, .ref 49), (1, .int (Int8.ofInt (108)).toInt32)] [] g q c l (none, rH e g' q' c' l')) (h : rr b e (d + 1) 395 147 [(0, .ref 49), (1, .int x1), (2, .int x2)] [] g' q' c' l' R) : rr b e (d + 1) 395 141 [(0, .ref 49), (1, .int x1), (2, .int x2)] [] g q c l R := by
  obtain ⟨f1, hc⟩ := hc
  obtain ⟨f2, h⟩ := h
  obtain ⟨f, hf1, hf2⟩ : ∃ f, f1 ≤ f ∧ f2 ≤ f := ⟨max f1 f2, Nat.le_max_left _ _, Nat.le_max_right _ _⟩
  have hc := nrun_fuel f1 f _ _ _ _ _ _ _ _ _ hf1 hc
  have h := nrun_fuel f2 f _ _ _ _ _ _ _ _ _ hf2 h
  refine ⟨f + 3, ?_⟩
  obtain ⟨y, cb, hj⟩ := mq_395
  rw [n_step (st' := [.ref 49]) (pc' := 142) (lv' := [(0, .ref 49), (1, .int x1), (2, .int x2)]) (hp' := rH e g q c l) (i := .aload_n 0) (len := 1) rfl hj rfl rfl rfl]
  rw [n_step (st' := [.int (Int8.ofInt (108)).toInt32, .ref 49]) (pc' := 144) (lv' := [(0, .ref 49), (1, .int x1), (2, .int x2)]) (hp' := rH e g q c l) (i := .bipush 108) (len := 2) rfl hj rfl rfl rfl]
  obtain ⟨y2, cb2, hj2⟩ := mq_394
  rw [n_call (f := f) (d := d) (ki := 0) (idx := 664) (j' := 394) (kd := 0) (M' := (y2, cb2, 2, none, 12, 1, 0, 0)) (avs := [.ref 49, .int (Int8.ofInt (108)).toInt32]) (r := []) (rv := none) (hp1 := rH e g' q' c' l') rfl hj rfl rfl rfl rfl (rq_n rfl rfl hj2 rfl rfl) rfl hc (Nat.le_of_ble_eq_true rfl)]
  exact h
set_option maxRecDepth 100000 in
set_option maxHeartbeats 4000000 in
theorem bk_395_147 {b : Bool} {d : Nat} {x1 x2 : Int32} {e : Nat → x_E} {g : Nat → Int32} {q : Nat → Int64} {c : Nat → Nat → Int32} {l : Nat → Nat → Int64} {g' : Nat → Int32} {q' : Nat → Int64} {c' : Nat → Nat → Int32} {l' : Nat → Nat → Int64} {R : Option Value × List x_E} (hc : rr b e d 394 0 [(0, .ref 49), (1, .int (Int8.ofInt (32)).toInt32)] [] g q c l (none, rH e g' q' c' l')) (h : rr b e (d + 1) 395 153 [(0, .ref 49), (1, .int x1), (2, .int x2)] [] g' q' c' l' R) : rr b e (d + 1) 395 147 [(0, .ref 49), (1, .int x1), (2, .int x2)] [] g q c l R := by
  obtain ⟨f1, hc⟩ := hc
  obtain ⟨f2, h⟩ := h
  obtain ⟨f, hf1, hf2⟩ : ∃ f, f1 ≤ f ∧ f2 ≤ f := ⟨max f1 f2, Nat.le_max_left _ _, Nat.le_max_right _ _⟩
  have hc := nrun_fuel f1 f _ _ _ _ _ _ _ _ _ hf1 hc
  have h := nrun_fuel f2 f _ _ _ _ _ _ _ _ _ hf2 h
  refine ⟨f + 3, ?_⟩
  obtain ⟨y, cb, hj⟩ := mq_395
  rw [n_step (st' := [.ref 49]) (pc' := 148) (lv' := [(0, .ref 49), (1, .int x1), (2, .int x2)]) (hp' := rH e g q c l) (i := .aload_n 0) (len := 1) rfl hj rfl rfl rfl]
  rw [n_step (st' := [.int (Int8.ofInt (32)).toInt32, .ref 49]) (pc' := 150) (lv' := [(0, .ref 49), (1, .int x1), (2, .int x2)]) (hp' := rH e g q c l) (i := .bipush 32) (len := 2) rfl hj rfl rfl rfl]
  obtain ⟨y2, cb2, hj2⟩ := mq_394
  rw [n_call (f := f) (d := d) (ki := 0) (idx := 664) (j' := 394) (kd := 0) (M' := (y2, cb2, 2, none, 12, 1, 0, 0)) (avs := [.ref 49, .int (Int8.ofInt (32)).toInt32]) (r := []) (rv := none) (hp1 := rH e g' q' c' l') rfl hj rfl rfl rfl rfl (rq_n rfl rfl hj2 rfl rfl) rfl hc (Nat.le_of_ble_eq_true rfl)]
  exact h
set_option maxRecDepth 100000 in
set_option maxHeartbeats 4000000 in
theorem bk_395_153 {b : Bool} {d : Nat} {x1 x2 : Int32} {e : Nat → x_E} {g : Nat → Int32} {q : Nat → Int64} {c : Nat → Nat → Int32} {l : Nat → Nat → Int64} {g' : Nat → Int32} {q' : Nat → Int64} {c' : Nat → Nat → Int32} {l' : Nat → Nat → Int64} {R : Option Value × List x_E} (hc : rr b e d 396 0 [(0, .ref 49), (1, .int x2)] [] g q c l (none, rH e g' q' c' l')) (h : rr b e (d + 1) 395 158 [(0, .ref 49), (1, .int x1), (2, .int x2)] [] g' q' c' l' R) : rr b e (d + 1) 395 153 [(0, .ref 49), (1, .int x1), (2, .int x2)] [] g q c l R := by
  obtain ⟨f1, hc⟩ := hc
  obtain ⟨f2, h⟩ := h
  obtain ⟨f, hf1, hf2⟩ : ∃ f, f1 ≤ f ∧ f2 ≤ f := ⟨max f1 f2, Nat.le_max_left _ _, Nat.le_max_right _ _⟩
  have hc := nrun_fuel f1 f _ _ _ _ _ _ _ _ _ hf1 hc
  have h := nrun_fuel f2 f _ _ _ _ _ _ _ _ _ hf2 h
  refine ⟨f + 3, ?_⟩
  obtain ⟨y, cb, hj⟩ := mq_395
  rw [n_step (st' := [.ref 49]) (pc' := 154) (lv' := [(0, .ref 49), (1, .int x1), (2, .int x2)]) (hp' := rH e g q c l) (i := .aload_n 0) (len := 1) rfl hj rfl rfl rfl]
  rw [n_step (st' := [.int x2, .ref 49]) (pc' := 155) (lv' := [(0, .ref 49), (1, .int x1), (2, .int x2)]) (hp' := rH e g q c l) (i := .iload_n 2) (len := 1) rfl hj rfl rfl rfl]
  obtain ⟨y2, cb2, hj2⟩ := mq_396
  rw [n_call (f := f) (d := d) (ki := 0) (idx := 670) (j' := 396) (kd := 0) (M' := (y2, cb2, 3, none, 12, 1, 0, 0)) (avs := [.ref 49, .int x2]) (r := []) (rv := none) (hp1 := rH e g' q' c' l') rfl hj rfl rfl rfl rfl (rq_n rfl rfl hj2 rfl rfl) rfl hc (Nat.le_of_ble_eq_true rfl)]
  exact h
set_option maxRecDepth 100000 in
set_option maxHeartbeats 4000000 in
theorem bk_395_158 {b : Bool} {d : Nat} {x1 x2 : Int32} {e : Nat → x_E} {g : Nat → Int32} {q : Nat → Int64} {c : Nat → Nat → Int32} {l : Nat → Nat → Int64} {g' : Nat → Int32} {q' : Nat → Int64} {c' : Nat → Nat → Int32} {l' : Nat → Nat → Int64} {R : Option Value × List x_E} (hc : rr b e d 394 0 [(0, .ref 49), (1, .int (Int8.ofInt (46)).toInt32)] [] g q c l (none, rH e g' q' c' l')) (h : rr b e (d + 1) 395 164 [(0, .ref 49), (1, .int x1), (2, .int x2)] [] g' q' c' l' R) : rr b e (d + 1) 395 158 [(0, .ref 49), (1, .int x1), (2, .int x2)] [] g q c l R := by
  obtain ⟨f1, hc⟩ := hc
  obtain ⟨f2, h⟩ := h
  obtain ⟨f, hf1, hf2⟩ : ∃ f, f1 ≤ f ∧ f2 ≤ f := ⟨max f1 f2, Nat.le_max_left _ _, Nat.le_max_right _ _⟩
  have hc := nrun_fuel f1 f _ _ _ _ _ _ _ _ _ hf1 hc
  have h := nrun_fuel f2 f _ _ _ _ _ _ _ _ _ hf2 h
  refine ⟨f + 3, ?_⟩
  obtain ⟨y, cb, hj⟩ := mq_395
  rw [n_step (st' := [.ref 49]) (pc' := 159) (lv' := [(0, .ref 49), (1, .int x1), (2, .int x2)]) (hp' := rH e g q c l) (i := .aload_n 0) (len := 1) rfl hj rfl rfl rfl]
  rw [n_step (st' := [.int (Int8.ofInt (46)).toInt32, .ref 49]) (pc' := 161) (lv' := [(0, .ref 49), (1, .int x1), (2, .int x2)]) (hp' := rH e g q c l) (i := .bipush 46) (len := 2) rfl hj rfl rfl rfl]
  obtain ⟨y2, cb2, hj2⟩ := mq_394
  rw [n_call (f := f) (d := d) (ki := 0) (idx := 664) (j' := 394) (kd := 0) (M' := (y2, cb2, 2, none, 12, 1, 0, 0)) (avs := [.ref 49, .int (Int8.ofInt (46)).toInt32]) (r := []) (rv := none) (hp1 := rH e g' q' c' l') rfl hj rfl rfl rfl rfl (rq_n rfl rfl hj2 rfl rfl) rfl hc (Nat.le_of_ble_eq_true rfl)]
  exact h
set_option maxRecDepth 100000 in
set_option maxHeartbeats 4000000 in
theorem bk_395_164 {b : Bool} {d : Nat} {x1 x2 : Int32} {e : Nat → x_E} {g : Nat → Int32} {q : Nat → Int64} {c : Nat → Nat → Int32} {l : Nat → Nat → Int64} {g' : Nat → Int32} {q' : Nat → Int64} {c' : Nat → Nat → Int32} {l' : Nat → Nat → Int64} {R : Option Value × List x_E} (hc : rr b e d 393 0 [(0, .ref 49), (1, .int (x1 + (Int32.ofInt (1)))), (2, .int (x2 + (Int32.ofInt (1)))), (3, .int (Int32.ofInt (0)))] [] g q c l (none, rH e g' q' c' l')) (h : rr b e (d + 1) 395 175 [] [] g' q' c' l' R) : rr b e (d + 1) 395 164 [(0, .ref 49), (1, .int x1), (2, .int x2)] [] g q c l R := by
  obtain ⟨f1, hc⟩ := hc
  obtain ⟨f2, h⟩ := h
  obtain ⟨f, hf1, hf2⟩ : ∃ f, f1 ≤ f ∧ f2 ≤ f := ⟨max f1 f2, Nat.le_max_left _ _, Nat.le_max_right _ _⟩
  have hc := nrun_fuel f1 f _ _ _ _ _ _ _ _ _ hf1 hc
  have h := nrun_fuel f2 f _ _ _ _ _ _ _ _ _ hf2 h
  refine ⟨f + 9, ?_⟩
  obtain ⟨y, cb, hj⟩ := mq_395
  rw [n_step (st' := [.ref 49]) (pc' := 165) (lv' := [(0, .ref 49), (1, .int x1), (2, .int x2)]) (hp' := rH e g q c l) (i := .aload_n 0) (len := 1) rfl hj rfl rfl rfl]
  rw [n_step (st' := [.int x1, .ref 49]) (pc' := 166) (lv' := [(0, .ref 49), (1, .int x1), (2, .int x2)]) (hp' := rH e g q c l) (i := .iload_n 1) (len := 1) rfl hj rfl rfl rfl]
  rw [n_step (st' := [.int (Int32.ofInt (1)), .int x1, .ref 49]) (pc' := 167) (lv' := [(0, .ref 49), (1, .int x1), (2, .int x2)]) (hp' := rH e g q c l) (i := .iconst 1) (len := 1) rfl hj rfl rfl rfl]
  rw [n_step (st' := [.int (x1 + (Int32.ofInt (1))), .ref 49]) (pc' := 168) (lv' := [(0, .ref 49), (1, .int x1), (2, .int x2)]) (hp' := rH e g q c l) (i := .iadd) (len := 1) rfl hj rfl rfl rfl]
  rw [n_step (st' := [.int x2, .int (x1 + (Int32.ofInt (1))), .ref 49]) (pc' := 169) (lv' := [(0, .ref 49), (1, .int x1), (2, .int x2)]) (hp' := rH e g q c l) (i := .iload_n 2) (len := 1) rfl hj rfl rfl rfl]
  rw [n_step (st' := [.int (Int32.ofInt (1)), .int x2, .int (x1 + (Int32.ofInt (1))), .ref 49]) (pc' := 170) (lv' := [(0, .ref 49), (1, .int x1), (2, .int x2)]) (hp' := rH e g q c l) (i := .iconst 1) (len := 1) rfl hj rfl rfl rfl]
  rw [n_step (st' := [.int (x2 + (Int32.ofInt (1))), .int (x1 + (Int32.ofInt (1))), .ref 49]) (pc' := 171) (lv' := [(0, .ref 49), (1, .int x1), (2, .int x2)]) (hp' := rH e g q c l) (i := .iadd) (len := 1) rfl hj rfl rfl rfl]
  rw [n_step (st' := [.int (Int32.ofInt (0)), .int (x2 + (Int32.ofInt (1))), .int (x1 + (Int32.ofInt (1))), .ref 49]) (pc' := 172) (lv' := [(0, .ref 49), (1, .int x1), (2, .int x2)]) (hp' := rH e g q c l) (i := .iconst 0) (len := 1) rfl hj rfl rfl rfl]
  obtain ⟨y2, cb2, hj2⟩ := mq_393
  rw [n_call (f := f) (d := d) (ki := 0) (idx := 660) (j' := 393) (kd := 0) (M' := (y2, cb2, 4, none, 12, 3, 0, 0)) (avs := [.ref 49, .int (x1 + (Int32.ofInt (1))), .int (x2 + (Int32.ofInt (1))), .int (Int32.ofInt (0))]) (r := []) (rv := none) (hp1 := rH e g' q' c' l') rfl hj rfl rfl rfl rfl (rq_n rfl rfl hj2 rfl rfl) rfl hc (Nat.le_of_ble_eq_true rfl)]
  exact nrun_ext f f _ _ R 395 175 [] [(0, .ref 49), (1, .int x1), (2, .int x2)] [] _ 0 0 122 (Nat.le_refl _) (Nat.le_refl _) (Nat.le_of_ble_eq_true rfl) (lvR_mk [] [0, 1, 2] rfl rfl (by decide) (by decide) (fun _ h => nomatch h) (List.forall_mem_cons.mpr ⟨Or.inr rfl, (List.forall_mem_cons.mpr ⟨Or.inr rfl, (List.forall_mem_cons.mpr ⟨Or.inr rfl, (fun _ h => nomatch h)⟩)⟩)⟩)) h
set_option maxRecDepth 100000 in
set_option maxHeartbeats 4000000 in
theorem bk_395_175 {b : Bool} {d : Nat} {e : Nat → x_E} {g : Nat → Int32} {q : Nat → Int64} {c : Nat → Nat → Int32} {l : Nat → Nat → Int64} {R : Option Value × List x_E} (h : rr b e d 395 212 [] [] g q c l R) : rr b e d 395 175 [] [] g q c l R := by
  obtain ⟨f, h⟩ := h
  refine ⟨f + 1, ?_⟩
  obtain ⟨y, cb, hj⟩ := mq_395
  rw [n_step (st' := []) (pc' := 212) (lv' := []) (hp' := rH e g q c l) (i := .goto 37) (len := 3) rfl hj rfl rfl rfl]
  exact h
set_option maxRecDepth 100000 in
set_option maxHeartbeats 4000000 in
theorem bk_395_178 {b : Bool} {d : Nat} {x1 x2 x4 : Int32} {e : Nat → x_E} {g : Nat → Int32} {q : Nat → Int64} {c : Nat → Nat → Int32} {l : Nat → Nat → Int64} {R : Option Value × List x_E} (h1 : xCn .lt x4 ((Int8.ofInt (100)).toInt32) = true → rr b e d 395 201 [(0, .ref 49), (1, .int x1), (2, .int x2), (4, .int x4)] [] g q c l R) (h2 : ¬ xCn .lt x4 ((Int8.ofInt (100)).toInt32) = true → rr b e d 395 185 [(0, .ref 49), (2, .int x2), (4, .int x4)] [] g q c l R) : rr b e d 395 178 [(0, .ref 49), (1, .int x1), (2, .int x2), (4, .int x4)] [] g q c l R := by
  have key : ∀ f, nrun xZ (xY (xfm b)) xDT (f + 3) d 395 178 [(0, .ref 49), (1, .int x1), (2, .int x2), (4, .int x4)] [] (rH e g q c l) 0 0 = nrun xZ (xY (xfm b)) xDT f d 395 (if xCn .lt x4 ((Int8.ofInt (100)).toInt32) = true then 201 else 185) [(0, .ref 49), (1, .int x1), (2, .int x2), (4, .int x4)] [] (rH e g q c l) 0 0 := by
    intro f
    obtain ⟨y, cb, hj⟩ := mq_395
    rw [n_step (st' := [.int x4]) (pc' := 180) (lv' := [(0, .ref 49), (1, .int x1), (2, .int x2), (4, .int x4)]) (hp' := rH e g q c l) (i := .iload 4) (len := 2) rfl hj rfl rfl rfl]
    rw [n_step (st' := [.int (Int8.ofInt (100)).toInt32, .int x4]) (pc' := 182) (lv' := [(0, .ref 49), (1, .int x1), (2, .int x2), (4, .int x4)]) (hp' := rH e g q c l) (i := .bipush 100) (len := 2) rfl hj rfl rfl rfl]
    rw [n_step (st' := []) (pc' := (if xCn .lt x4 ((Int8.ofInt (100)).toInt32) = true then 201 else 185)) (lv' := [(0, .ref 49), (1, .int x1), (2, .int x2), (4, .int x4)]) (hp' := rH e g q c l) (i := .if_icmp .lt 19) (len := 3) rfl hj rfl rfl rfl]
  by_cases hc : xCn .lt x4 ((Int8.ofInt (100)).toInt32) = true
  · obtain ⟨f, h⟩ := h1 hc
    refine ⟨f + 3, ?_⟩
    rw [key, if_pos hc]
    exact h
  · obtain ⟨f, h⟩ := h2 hc
    refine ⟨f + 3, ?_⟩
    rw [key, if_neg hc]
    exact nrun_ext f f _ _ R 395 185 [(0, .ref 49), (2, .int x2), (4, .int x4)] [(0, .ref 49), (1, .int x1), (2, .int x2), (4, .int x4)] [] _ 0 0 122 (Nat.le_refl _) (Nat.le_refl _) (Nat.le_of_ble_eq_true rfl) (lvR_mk [0, 2, 4] [0, 1, 2, 4] rfl rfl (by decide) (by decide) (List.forall_mem_cons.mpr ⟨List.mem_cons_self, (List.forall_mem_cons.mpr ⟨(List.mem_cons_of_mem _ (List.mem_cons_of_mem _ List.mem_cons_self)), (List.forall_mem_cons.mpr ⟨(List.mem_cons_of_mem _ (List.mem_cons_of_mem _ (List.mem_cons_of_mem _ List.mem_cons_self))), (fun _ h => nomatch h)⟩)⟩)⟩) (List.forall_mem_cons.mpr ⟨Or.inl List.mem_cons_self, (List.forall_mem_cons.mpr ⟨Or.inr rfl, (List.forall_mem_cons.mpr ⟨Or.inl (List.mem_cons_of_mem _ List.mem_cons_self), (List.forall_mem_cons.mpr ⟨Or.inl (List.mem_cons_of_mem _ (List.mem_cons_of_mem _ List.mem_cons_self)), (fun _ h => nomatch h)⟩)⟩)⟩)⟩)) h
set_option maxRecDepth 100000 in
set_option maxHeartbeats 4000000 in
theorem bk_395_185 {b : Bool} {d : Nat} {x2 x4 : Int32} {e : Nat → x_E} {g : Nat → Int32} {q : Nat → Int64} {c : Nat → Nat → Int32} {l : Nat → Nat → Int64} {g' : Nat → Int32} {q' : Nat → Int64} {c' : Nat → Nat → Int32} {l' : Nat → Nat → Int64} {R : Option Value × List x_E} (hc : rr b e d 396 0 [(0, .ref 49), (1, .int ((x2 - (Int32.ofInt (1))) - (x4 - (Int8.ofInt (100)).toInt32)))] [] g q c l (none, rH e g' q' c' l')) (h : rr b e (d + 1) 395 198 [] [] g' q' c' l' R) : rr b e (d + 1) 395 185 [(0, .ref 49), (2, .int x2), (4, .int x4)] [] g q c l R := by
  obtain ⟨f1, hc⟩ := hc
  obtain ⟨f2, h⟩ := h
  obtain ⟨f, hf1, hf2⟩ : ∃ f, f1 ≤ f ∧ f2 ≤ f := ⟨max f1 f2, Nat.le_max_left _ _, Nat.le_max_right _ _⟩
  have hc := nrun_fuel f1 f _ _ _ _ _ _ _ _ _ hf1 hc
  have h := nrun_fuel f2 f _ _ _ _ _ _ _ _ _ hf2 h
  refine ⟨f + 9, ?_⟩
  obtain ⟨y, cb, hj⟩ := mq_395
  rw [n_step (st' := [.ref 49]) (pc' := 186) (lv' := [(0, .ref 49), (2, .int x2), (4, .int x4)]) (hp' := rH e g q c l) (i := .aload_n 0) (len := 1) rfl hj rfl rfl rfl]
  rw [n_step (st' := [.int x2, .ref 49]) (pc' := 187) (lv' := [(0, .ref 49), (2, .int x2), (4, .int x4)]) (hp' := rH e g q c l) (i := .iload_n 2) (len := 1) rfl hj rfl rfl rfl]
  rw [n_step (st' := [.int (Int32.ofInt (1)), .int x2, .ref 49]) (pc' := 188) (lv' := [(0, .ref 49), (2, .int x2), (4, .int x4)]) (hp' := rH e g q c l) (i := .iconst 1) (len := 1) rfl hj rfl rfl rfl]
  rw [n_step (st' := [.int (x2 - (Int32.ofInt (1))), .ref 49]) (pc' := 189) (lv' := [(0, .ref 49), (2, .int x2), (4, .int x4)]) (hp' := rH e g q c l) (i := .isub) (len := 1) rfl hj rfl rfl rfl]
  rw [n_step (st' := [.int x4, .int (x2 - (Int32.ofInt (1))), .ref 49]) (pc' := 191) (lv' := [(0, .ref 49), (2, .int x2), (4, .int x4)]) (hp' := rH e g q c l) (i := .iload 4) (len := 2) rfl hj rfl rfl rfl]
  rw [n_step (st' := [.int (Int8.ofInt (100)).toInt32, .int x4, .int (x2 - (Int32.ofInt (1))), .ref 49]) (pc' := 193) (lv' := [(0, .ref 49), (2, .int x2), (4, .int x4)]) (hp' := rH e g q c l) (i := .bipush 100) (len := 2) rfl hj rfl rfl rfl]
  rw [n_step (st' := [.int (x4 - (Int8.ofInt (100)).toInt32), .int (x2 - (Int32.ofInt (1))), .ref 49]) (pc' := 194) (lv' := [(0, .ref 49), (2, .int x2), (4, .int x4)]) (hp' := rH e g q c l) (i := .isub) (len := 1) rfl hj rfl rfl rfl]
  rw [n_step (st' := [.int ((x2 - (Int32.ofInt (1))) - (x4 - (Int8.ofInt (100)).toInt32)), .ref 49]) (pc' := 195) (lv' := [(0, .ref 49), (2, .int x2), (4, .int x4)]) (hp' := rH e g q c l) (i := .isub) (len := 1) rfl hj rfl rfl rfl]
  obtain ⟨y2, cb2, hj2⟩ := mq_396
  rw [n_call (f := f) (d := d) (ki := 0) (idx := 670) (j' := 396) (kd := 0) (M' := (y2, cb2, 3, none, 12, 1, 0, 0)) (avs := [.ref 49, .int ((x2 - (Int32.ofInt (1))) - (x4 - (Int8.ofInt (100)).toInt32))]) (r := []) (rv := none) (hp1 := rH e g' q' c' l') rfl hj rfl rfl rfl rfl (rq_n rfl rfl hj2 rfl rfl) rfl hc (Nat.le_of_ble_eq_true rfl)]
  exact nrun_ext f f _ _ R 395 198 [] [(0, .ref 49), (2, .int x2), (4, .int x4)] [] _ 0 0 122 (Nat.le_refl _) (Nat.le_refl _) (Nat.le_of_ble_eq_true rfl) (lvR_mk [] [0, 2, 4] rfl rfl (by decide) (by decide) (fun _ h => nomatch h) (List.forall_mem_cons.mpr ⟨Or.inr rfl, (List.forall_mem_cons.mpr ⟨Or.inr rfl, (List.forall_mem_cons.mpr ⟨Or.inr rfl, (fun _ h => nomatch h)⟩)⟩)⟩)) h
set_option maxRecDepth 100000 in
set_option maxHeartbeats 4000000 in
theorem bk_395_198 {b : Bool} {d : Nat} {e : Nat → x_E} {g : Nat → Int32} {q : Nat → Int64} {c : Nat → Nat → Int32} {l : Nat → Nat → Int64} {R : Option Value × List x_E} (h : rr b e d 395 212 [] [] g q c l R) : rr b e d 395 198 [] [] g q c l R := by
  obtain ⟨f, h⟩ := h
  refine ⟨f + 1, ?_⟩
  obtain ⟨y, cb, hj⟩ := mq_395
  rw [n_step (st' := []) (pc' := 212) (lv' := []) (hp' := rH e g q c l) (i := .goto 14) (len := 3) rfl hj rfl rfl rfl]
  exact h
set_option maxRecDepth 100000 in
set_option maxHeartbeats 4000000 in
theorem bk_395_201 {b : Bool} {d : Nat} {x1 x2 x4 : Int32} {e : Nat → x_E} {g : Nat → Int32} {q : Nat → Int64} {c : Nat → Nat → Int32} {l : Nat → Nat → Int64} {g' : Nat → Int32} {q' : Nat → Int64} {c' : Nat → Nat → Int32} {l' : Nat → Nat → Int64} {R : Option Value × List x_E} (hc : rr b e d 397 0 [(0, .ref 49), (1, .int x1), (2, .int (x4 - (Int8.ofInt (10)).toInt32)), (3, .int x2)] [] g q c l (none, rH e g' q' c' l')) (h : rr b e (d + 1) 395 212 [] [] g' q' c' l' R) : rr b e (d + 1) 395 201 [(0, .ref 49), (1, .int x1), (2, .int x2), (4, .int x4)] [] g q c l R := by
  obtain ⟨f1, hc⟩ := hc
  obtain ⟨f2, h⟩ := h
  obtain ⟨f, hf1, hf2⟩ : ∃ f, f1 ≤ f ∧ f2 ≤ f := ⟨max f1 f2, Nat.le_max_left _ _, Nat.le_max_right _ _⟩
  have hc := nrun_fuel f1 f _ _ _ _ _ _ _ _ _ hf1 hc
  have h := nrun_fuel f2 f _ _ _ _ _ _ _ _ _ hf2 h
  refine ⟨f + 7, ?_⟩
  obtain ⟨y, cb, hj⟩ := mq_395
  rw [n_step (st' := [.ref 49]) (pc' := 202) (lv' := [(0, .ref 49), (1, .int x1), (2, .int x2), (4, .int x4)]) (hp' := rH e g q c l) (i := .aload_n 0) (len := 1) rfl hj rfl rfl rfl]
  rw [n_step (st' := [.int x1, .ref 49]) (pc' := 203) (lv' := [(0, .ref 49), (1, .int x1), (2, .int x2), (4, .int x4)]) (hp' := rH e g q c l) (i := .iload_n 1) (len := 1) rfl hj rfl rfl rfl]
  rw [n_step (st' := [.int x4, .int x1, .ref 49]) (pc' := 205) (lv' := [(0, .ref 49), (1, .int x1), (2, .int x2), (4, .int x4)]) (hp' := rH e g q c l) (i := .iload 4) (len := 2) rfl hj rfl rfl rfl]
  rw [n_step (st' := [.int (Int8.ofInt (10)).toInt32, .int x4, .int x1, .ref 49]) (pc' := 207) (lv' := [(0, .ref 49), (1, .int x1), (2, .int x2), (4, .int x4)]) (hp' := rH e g q c l) (i := .bipush 10) (len := 2) rfl hj rfl rfl rfl]
  rw [n_step (st' := [.int (x4 - (Int8.ofInt (10)).toInt32), .int x1, .ref 49]) (pc' := 208) (lv' := [(0, .ref 49), (1, .int x1), (2, .int x2), (4, .int x4)]) (hp' := rH e g q c l) (i := .isub) (len := 1) rfl hj rfl rfl rfl]
  rw [n_step (st' := [.int x2, .int (x4 - (Int8.ofInt (10)).toInt32), .int x1, .ref 49]) (pc' := 209) (lv' := [(0, .ref 49), (1, .int x1), (2, .int x2), (4, .int x4)]) (hp' := rH e g q c l) (i := .iload_n 2) (len := 1) rfl hj rfl rfl rfl]
  obtain ⟨y2, cb2, hj2⟩ := mq_397
  rw [n_call (f := f) (d := d) (ki := 0) (idx := 673) (j' := 397) (kd := 0) (M' := (y2, cb2, 6, none, 12, 3, 0, 0)) (avs := [.ref 49, .int x1, .int (x4 - (Int8.ofInt (10)).toInt32), .int x2]) (r := []) (rv := none) (hp1 := rH e g' q' c' l') rfl hj rfl rfl rfl rfl (rq_n rfl rfl hj2 rfl rfl) rfl hc (Nat.le_of_ble_eq_true rfl)]
  exact nrun_ext f f _ _ R 395 212 [] [(0, .ref 49), (1, .int x1), (2, .int x2), (4, .int x4)] [] _ 0 0 122 (Nat.le_refl _) (Nat.le_refl _) (Nat.le_of_ble_eq_true rfl) (lvR_mk [] [0, 1, 2, 4] rfl rfl (by decide) (by decide) (fun _ h => nomatch h) (List.forall_mem_cons.mpr ⟨Or.inr rfl, (List.forall_mem_cons.mpr ⟨Or.inr rfl, (List.forall_mem_cons.mpr ⟨Or.inr rfl, (List.forall_mem_cons.mpr ⟨Or.inr rfl, (fun _ h => nomatch h)⟩)⟩)⟩)⟩)) h
set_option maxRecDepth 100000 in
set_option maxHeartbeats 4000000 in
theorem bk_395_212 {b : Bool} {d : Nat} {e : Nat → x_E} {g : Nat → Int32} {q : Nat → Int64} {c : Nat → Nat → Int32} {l : Nat → Nat → Int64} : rr b e d 395 212 [] [] g q c l (none, rH e g q c l) := by
  refine ⟨0 + 1, ?_⟩
  obtain ⟨y, cb, hj⟩ := mq_395
  exact n_ret rfl hj rfl rfl rfl
set_option maxRecDepth 100000 in
set_option maxHeartbeats 4000000 in
theorem bk_396_0 {b : Bool} {d : Nat} {x1 : Int32} {e : Nat → x_E} {g : Nat → Int32} {q : Nat → Int64} {c : Nat → Nat → Int32} {l : Nat → Nat → Int64} {g' : Nat → Int32} {q' : Nat → Int64} {c' : Nat → Nat → Int32} {l' : Nat → Nat → Int64} {R : Option Value × List x_E} (hc : rr b e d 394 0 [(0, .ref 49), (1, .int ((Int8.ofInt (97)).toInt32 + (x1 - x1 / ((Int8.ofInt (26)).toInt32) * ((Int8.ofInt (26)).toInt32))))] [] g q c l (none, rH e g' q' c' l')) (h : rr b e (d + 1) 396 11 [(0, .ref 49), (1, .int x1)] [] g' q' c' l' R) : rr b e (d + 1) 396 0 [(0, .ref 49), (1, .int x1)] [] g q c l R := by
  obtain ⟨f1, hc⟩ := hc
  obtain ⟨f2, h⟩ := h
  obtain ⟨f, hf1, hf2⟩ : ∃ f, f1 ≤ f ∧ f2 ≤ f := ⟨max f1 f2, Nat.le_max_left _ _, Nat.le_max_right _ _⟩
  have hc := nrun_fuel f1 f _ _ _ _ _ _ _ _ _ hf1 hc
  have h := nrun_fuel f2 f _ _ _ _ _ _ _ _ _ hf2 h
  refine ⟨f + 7, ?_⟩
  obtain ⟨y, cb, hj⟩ := mq_396
  rw [n_step (st' := [.ref 49]) (pc' := 1) (lv' := [(0, .ref 49), (1, .int x1)]) (hp' := rH e g q c l) (i := .aload_n 0) (len := 1) rfl hj rfl rfl rfl]
  rw [n_step (st' := [.int (Int8.ofInt (97)).toInt32, .ref 49]) (pc' := 3) (lv' := [(0, .ref 49), (1, .int x1)]) (hp' := rH e g q c l) (i := .bipush 97) (len := 2) rfl hj rfl rfl rfl]
  rw [n_step (st' := [.int x1, .int (Int8.ofInt (97)).toInt32, .ref 49]) (pc' := 4) (lv' := [(0, .ref 49), (1, .int x1)]) (hp' := rH e g q c l) (i := .iload_n 1) (len := 1) rfl hj rfl rfl rfl]
  rw [n_step (st' := [.int (Int8.ofInt (26)).toInt32, .int x1, .int (Int8.ofInt (97)).toInt32, .ref 49]) (pc' := 6) (lv' := [(0, .ref 49), (1, .int x1)]) (hp' := rH e g q c l) (i := .bipush 26) (len := 2) rfl hj rfl rfl rfl]
  rw [n_step (st' := [.int (x1 - x1 / ((Int8.ofInt (26)).toInt32) * ((Int8.ofInt (26)).toInt32)), .int (Int8.ofInt (97)).toInt32, .ref 49]) (pc' := 7) (lv' := [(0, .ref 49), (1, .int x1)]) (hp' := rH e g q c l) (i := .irem) (len := 1) rfl hj rfl rfl rfl]
  rw [n_step (st' := [.int ((Int8.ofInt (97)).toInt32 + (x1 - x1 / ((Int8.ofInt (26)).toInt32) * ((Int8.ofInt (26)).toInt32))), .ref 49]) (pc' := 8) (lv' := [(0, .ref 49), (1, .int x1)]) (hp' := rH e g q c l) (i := .iadd) (len := 1) rfl hj rfl rfl rfl]
  obtain ⟨y2, cb2, hj2⟩ := mq_394
  rw [n_call (f := f) (d := d) (ki := 0) (idx := 664) (j' := 394) (kd := 0) (M' := (y2, cb2, 2, none, 12, 1, 0, 0)) (avs := [.ref 49, .int ((Int8.ofInt (97)).toInt32 + (x1 - x1 / ((Int8.ofInt (26)).toInt32) * ((Int8.ofInt (26)).toInt32)))]) (r := []) (rv := none) (hp1 := rH e g' q' c' l') rfl hj rfl rfl rfl rfl (rq_n rfl rfl hj2 rfl rfl) rfl hc (Nat.le_of_ble_eq_true rfl)]
  exact h
set_option maxRecDepth 100000 in
set_option maxHeartbeats 4000000 in
theorem bk_396_11 {b : Bool} {d : Nat} {x1 : Int32} {e : Nat → x_E} {g : Nat → Int32} {q : Nat → Int64} {c : Nat → Nat → Int32} {l : Nat → Nat → Int64} {R : Option Value × List x_E} (h1 : xCn .ge x1 ((Int8.ofInt (26)).toInt32) = true → rr b e d 396 18 [(0, .ref 49), (1, .int x1)] [] g q c l R) (h2 : ¬ xCn .ge x1 ((Int8.ofInt (26)).toInt32) = true → rr b e d 396 17 [] [] g q c l R) : rr b e d 396 11 [(0, .ref 49), (1, .int x1)] [] g q c l R := by
  have key : ∀ f, nrun xZ (xY (xfm b)) xDT (f + 3) d 396 11 [(0, .ref 49), (1, .int x1)] [] (rH e g q c l) 0 0 = nrun xZ (xY (xfm b)) xDT f d 396 (if xCn .ge x1 ((Int8.ofInt (26)).toInt32) = true then 18 else 17) [(0, .ref 49), (1, .int x1)] [] (rH e g q c l) 0 0 := by
    intro f
    obtain ⟨y, cb, hj⟩ := mq_396
    rw [n_step (st' := [.int x1]) (pc' := 12) (lv' := [(0, .ref 49), (1, .int x1)]) (hp' := rH e g q c l) (i := .iload_n 1) (len := 1) rfl hj rfl rfl rfl]
    rw [n_step (st' := [.int (Int8.ofInt (26)).toInt32, .int x1]) (pc' := 14) (lv' := [(0, .ref 49), (1, .int x1)]) (hp' := rH e g q c l) (i := .bipush 26) (len := 2) rfl hj rfl rfl rfl]
    rw [n_step (st' := []) (pc' := (if xCn .ge x1 ((Int8.ofInt (26)).toInt32) = true then 18 else 17)) (lv' := [(0, .ref 49), (1, .int x1)]) (hp' := rH e g q c l) (i := .if_icmp .ge 4) (len := 3) rfl hj rfl rfl rfl]
  by_cases hc : xCn .ge x1 ((Int8.ofInt (26)).toInt32) = true
  · obtain ⟨f, h⟩ := h1 hc
    refine ⟨f + 3, ?_⟩
    rw [key, if_pos hc]
    exact h
  · obtain ⟨f, h⟩ := h2 hc
    refine ⟨f + 3, ?_⟩
    rw [key, if_neg hc]
    exact nrun_ext f f _ _ R 396 17 [] [(0, .ref 49), (1, .int x1)] [] _ 0 0 122 (Nat.le_refl _) (Nat.le_refl _) (Nat.le_of_ble_eq_true rfl) (lvR_mk [] [0, 1] rfl rfl (by decide) (by decide) (fun _ h => nomatch h) (List.forall_mem_cons.mpr ⟨Or.inr rfl, (List.forall_mem_cons.mpr ⟨Or.inr rfl, (fun _ h => nomatch h)⟩)⟩)) h
set_option maxRecDepth 100000 in
set_option maxHeartbeats 4000000 in
theorem bk_396_17 {b : Bool} {d : Nat} {e : Nat → x_E} {g : Nat → Int32} {q : Nat → Int64} {c : Nat → Nat → Int32} {l : Nat → Nat → Int64} : rr b e d 396 17 [] [] g q c l (none, rH e g q c l) := by
  refine ⟨0 + 1, ?_⟩
  obtain ⟨y, cb, hj⟩ := mq_396
  exact n_ret rfl hj rfl rfl rfl
set_option maxRecDepth 100000 in
set_option maxHeartbeats 4000000 in
theorem bk_396_18 {b : Bool} {d : Nat} {x1 : Int32} {e : Nat → x_E} {g : Nat → Int32} {q : Nat → Int64} {c : Nat → Nat → Int32} {l : Nat → Nat → Int64} {R : Option Value × List x_E} (h1 : xCn .le ((x1 / ((Int8.ofInt (26)).toInt32))) ((Int8.ofInt (9)).toInt32) = true → rr b e d 396 40 [(0, .ref 49), (2, .int (x1 / ((Int8.ofInt (26)).toInt32)))] [] g q c l R) (h2 : ¬ xCn .le ((x1 / ((Int8.ofInt (26)).toInt32))) ((Int8.ofInt (9)).toInt32) = true → rr b e d 396 29 [(0, .ref 49), (2, .int (x1 / ((Int8.ofInt (26)).toInt32)))] [] g q c l R) : rr b e d 396 18 [(0, .ref 49), (1, .int x1)] [] g q c l R := by
  have key : ∀ f, nrun xZ (xY (xfm b)) xDT (f + 7) d 396 18 [(0, .ref 49), (1, .int x1)] [] (rH e g q c l) 0 0 = nrun xZ (xY (xfm b)) xDT f d 396 (if xCn .le ((x1 / ((Int8.ofInt (26)).toInt32))) ((Int8.ofInt (9)).toInt32) = true then 40 else 29) [(2, .int (x1 / ((Int8.ofInt (26)).toInt32))), (0, .ref 49), (1, .int x1)] [] (rH e g q c l) 0 0 := by
    intro f
    obtain ⟨y, cb, hj⟩ := mq_396
    rw [n_step (st' := [.int x1]) (pc' := 19) (lv' := [(0, .ref 49), (1, .int x1)]) (hp' := rH e g q c l) (i := .iload_n 1) (len := 1) rfl hj rfl rfl rfl]
    rw [n_step (st' := [.int (Int8.ofInt (26)).toInt32, .int x1]) (pc' := 21) (lv' := [(0, .ref 49), (1, .int x1)]) (hp' := rH e g q c l) (i := .bipush 26) (len := 2) rfl hj rfl rfl rfl]
    rw [n_step (st' := [.int (x1 / ((Int8.ofInt (26)).toInt32))]) (pc' := 22) (lv' := [(0, .ref 49), (1, .int x1)]) (hp' := rH e g q c l) (i := .idiv) (len := 1) rfl hj rfl rfl rfl]
    rw [n_step (st' := []) (pc' := 23) (lv' := [(2, .int (x1 / ((Int8.ofInt (26)).toInt32))), (0, .ref 49), (1, .int x1)]) (hp' := rH e g q c l) (i := .istore_n 2) (len := 1) rfl hj rfl rfl rfl]
    rw [n_step (st' := [.int (x1 / ((Int8.ofInt (26)).toInt32))]) (pc' := 24) (lv' := [(2, .int (x1 / ((Int8.ofInt (26)).toInt32))), (0, .ref 49), (1, .int x1)]) (hp' := rH e g q c l) (i := .iload_n 2) (len := 1) rfl hj rfl rfl rfl]
    rw [n_step (st' := [.int (Int8.ofInt (9)).toInt32, .int (x1 / ((Int8.ofInt (26)).toInt32))]) (pc' := 26) (lv' := [(2, .int (x1 / ((Int8.ofInt (26)).toInt32))), (0, .ref 49), (1, .int x1)]) (hp' := rH e g q c l) (i := .bipush 9) (len := 2) rfl hj rfl rfl rfl]
    rw [n_step (st' := []) (pc' := (if xCn .le ((x1 / ((Int8.ofInt (26)).toInt32))) ((Int8.ofInt (9)).toInt32) = true then 40 else 29)) (lv' := [(2, .int (x1 / ((Int8.ofInt (26)).toInt32))), (0, .ref 49), (1, .int x1)]) (hp' := rH e g q c l) (i := .if_icmp .le 14) (len := 3) rfl hj rfl rfl rfl]
  by_cases hc : xCn .le ((x1 / ((Int8.ofInt (26)).toInt32))) ((Int8.ofInt (9)).toInt32) = true
  · obtain ⟨f, h⟩ := h1 hc
    refine ⟨f + 7, ?_⟩
    rw [key, if_pos hc]
    exact nrun_ext f f _ _ R 396 40 [(0, .ref 49), (2, .int (x1 / ((Int8.ofInt (26)).toInt32)))] [(2, .int (x1 / ((Int8.ofInt (26)).toInt32))), (0, .ref 49), (1, .int x1)] [] _ 0 0 122 (Nat.le_refl _) (Nat.le_refl _) (Nat.le_of_ble_eq_true rfl) (lvR_mk [0, 2] [2, 0, 1] rfl rfl (by decide) (by decide) (List.forall_mem_cons.mpr ⟨(List.mem_cons_of_mem _ List.mem_cons_self), (List.forall_mem_cons.mpr ⟨List.mem_cons_self, (fun _ h => nomatch h)⟩)⟩) (List.forall_mem_cons.mpr ⟨Or.inl (List.mem_cons_of_mem _ List.mem_cons_self), (List.forall_mem_cons.mpr ⟨Or.inl List.mem_cons_self, (List.forall_mem_cons.mpr ⟨Or.inr rfl, (fun _ h => nomatch h)⟩)⟩)⟩)) h
  · obtain ⟨f, h⟩ := h2 hc
    refine ⟨f + 7, ?_⟩
    rw [key, if_neg hc]
    exact nrun_ext f f _ _ R 396 29 [(0, .ref 49), (2, .int (x1 / ((Int8.ofInt (26)).toInt32)))] [(2, .int (x1 / ((Int8.ofInt (26)).toInt32))), (0, .ref 49), (1, .int x1)] [] _ 0 0 122 (Nat.le_refl _) (Nat.le_refl _) (Nat.le_of_ble_eq_true rfl) (lvR_mk [0, 2] [2, 0, 1] rfl rfl (by decide) (by decide) (List.forall_mem_cons.mpr ⟨(List.mem_cons_of_mem _ List.mem_cons_self), (List.forall_mem_cons.mpr ⟨List.mem_cons_self, (fun _ h => nomatch h)⟩)⟩) (List.forall_mem_cons.mpr ⟨Or.inl (List.mem_cons_of_mem _ List.mem_cons_self), (List.forall_mem_cons.mpr ⟨Or.inl List.mem_cons_self, (List.forall_mem_cons.mpr ⟨Or.inr rfl, (fun _ h => nomatch h)⟩)⟩)⟩)) h
set_option maxRecDepth 100000 in
set_option maxHeartbeats 4000000 in
theorem bk_396_29 {b : Bool} {d : Nat} {x2 : Int32} {e : Nat → x_E} {g : Nat → Int32} {q : Nat → Int64} {c : Nat → Nat → Int32} {l : Nat → Nat → Int64} {g' : Nat → Int32} {q' : Nat → Int64} {c' : Nat → Nat → Int32} {l' : Nat → Nat → Int64} {R : Option Value × List x_E} (hc : rr b e d 394 0 [(0, .ref 49), (1, .int ((Int8.ofInt (48)).toInt32 + (x2 / ((Int8.ofInt (10)).toInt32))))] [] g q c l (none, rH e g' q' c' l')) (h : rr b e (d + 1) 396 40 [(0, .ref 49), (2, .int x2)] [] g' q' c' l' R) : rr b e (d + 1) 396 29 [(0, .ref 49), (2, .int x2)] [] g q c l R := by
  obtain ⟨f1, hc⟩ := hc
  obtain ⟨f2, h⟩ := h
  obtain ⟨f, hf1, hf2⟩ : ∃ f, f1 ≤ f ∧ f2 ≤ f := ⟨max f1 f2, Nat.le_max_left _ _, Nat.le_max_right _ _⟩
  have hc := nrun_fuel f1 f _ _ _ _ _ _ _ _ _ hf1 hc
  have h := nrun_fuel f2 f _ _ _ _ _ _ _ _ _ hf2 h
  refine ⟨f + 7, ?_⟩
  obtain ⟨y, cb, hj⟩ := mq_396
  rw [n_step (st' := [.ref 49]) (pc' := 30) (lv' := [(0, .ref 49), (2, .int x2)]) (hp' := rH e g q c l) (i := .aload_n 0) (len := 1) rfl hj rfl rfl rfl]
  rw [n_step (st' := [.int (Int8.ofInt (48)).toInt32, .ref 49]) (pc' := 32) (lv' := [(0, .ref 49), (2, .int x2)]) (hp' := rH e g q c l) (i := .bipush 48) (len := 2) rfl hj rfl rfl rfl]
  rw [n_step (st' := [.int x2, .int (Int8.ofInt (48)).toInt32, .ref 49]) (pc' := 33) (lv' := [(0, .ref 49), (2, .int x2)]) (hp' := rH e g q c l) (i := .iload_n 2) (len := 1) rfl hj rfl rfl rfl]
  rw [n_step (st' := [.int (Int8.ofInt (10)).toInt32, .int x2, .int (Int8.ofInt (48)).toInt32, .ref 49]) (pc' := 35) (lv' := [(0, .ref 49), (2, .int x2)]) (hp' := rH e g q c l) (i := .bipush 10) (len := 2) rfl hj rfl rfl rfl]
  rw [n_step (st' := [.int (x2 / ((Int8.ofInt (10)).toInt32)), .int (Int8.ofInt (48)).toInt32, .ref 49]) (pc' := 36) (lv' := [(0, .ref 49), (2, .int x2)]) (hp' := rH e g q c l) (i := .idiv) (len := 1) rfl hj rfl rfl rfl]
  rw [n_step (st' := [.int ((Int8.ofInt (48)).toInt32 + (x2 / ((Int8.ofInt (10)).toInt32))), .ref 49]) (pc' := 37) (lv' := [(0, .ref 49), (2, .int x2)]) (hp' := rH e g q c l) (i := .iadd) (len := 1) rfl hj rfl rfl rfl]
  obtain ⟨y2, cb2, hj2⟩ := mq_394
  rw [n_call (f := f) (d := d) (ki := 0) (idx := 664) (j' := 394) (kd := 0) (M' := (y2, cb2, 2, none, 12, 1, 0, 0)) (avs := [.ref 49, .int ((Int8.ofInt (48)).toInt32 + (x2 / ((Int8.ofInt (10)).toInt32)))]) (r := []) (rv := none) (hp1 := rH e g' q' c' l') rfl hj rfl rfl rfl rfl (rq_n rfl rfl hj2 rfl rfl) rfl hc (Nat.le_of_ble_eq_true rfl)]
  exact h
set_option maxRecDepth 100000 in
set_option maxHeartbeats 4000000 in
theorem bk_396_40 {b : Bool} {d : Nat} {x2 : Int32} {e : Nat → x_E} {g : Nat → Int32} {q : Nat → Int64} {c : Nat → Nat → Int32} {l : Nat → Nat → Int64} {g' : Nat → Int32} {q' : Nat → Int64} {c' : Nat → Nat → Int32} {l' : Nat → Nat → Int64} {R : Option Value × List x_E} (hc : rr b e d 394 0 [(0, .ref 49), (1, .int ((Int8.ofInt (48)).toInt32 + (x2 - x2 / ((Int8.ofInt (10)).toInt32) * ((Int8.ofInt (10)).toInt32))))] [] g q c l (none, rH e g' q' c' l')) (h : rr b e (d + 1) 396 51 [] [] g' q' c' l' R) : rr b e (d + 1) 396 40 [(0, .ref 49), (2, .int x2)] [] g q c l R := by
  obtain ⟨f1, hc⟩ := hc
  obtain ⟨f2, h⟩ := h
  obtain ⟨f, hf1, hf2⟩ : ∃ f, f1 ≤ f ∧ f2 ≤ f := ⟨max f1 f2, Nat.le_max_left _ _, Nat.le_max_right _ _⟩
  have hc := nrun_fuel f1 f _ _ _ _ _ _ _ _ _ hf1 hc
  have h := nrun_fuel f2 f _ _ _ _ _ _ _ _ _ hf2 h
  refine ⟨f + 7, ?_⟩
  obtain ⟨y, cb, hj⟩ := mq_396
  rw [n_step (st' := [.ref 49]) (pc' := 41) (lv' := [(0, .ref 49), (2, .int x2)]) (hp' := rH e g q c l) (i := .aload_n 0) (len := 1) rfl hj rfl rfl rfl]
  rw [n_step (st' := [.int (Int8.ofInt (48)).toInt32, .ref 49]) (pc' := 43) (lv' := [(0, .ref 49), (2, .int x2)]) (hp' := rH e g q c l) (i := .bipush 48) (len := 2) rfl hj rfl rfl rfl]
  rw [n_step (st' := [.int x2, .int (Int8.ofInt (48)).toInt32, .ref 49]) (pc' := 44) (lv' := [(0, .ref 49), (2, .int x2)]) (hp' := rH e g q c l) (i := .iload_n 2) (len := 1) rfl hj rfl rfl rfl]
  rw [n_step (st' := [.int (Int8.ofInt (10)).toInt32, .int x2, .int (Int8.ofInt (48)).toInt32, .ref 49]) (pc' := 46) (lv' := [(0, .ref 49), (2, .int x2)]) (hp' := rH e g q c l) (i := .bipush 10) (len := 2) rfl hj rfl rfl rfl]
  rw [n_step (st' := [.int (x2 - x2 / ((Int8.ofInt (10)).toInt32) * ((Int8.ofInt (10)).toInt32)), .int (Int8.ofInt (48)).toInt32, .ref 49]) (pc' := 47) (lv' := [(0, .ref 49), (2, .int x2)]) (hp' := rH e g q c l) (i := .irem) (len := 1) rfl hj rfl rfl rfl]
  rw [n_step (st' := [.int ((Int8.ofInt (48)).toInt32 + (x2 - x2 / ((Int8.ofInt (10)).toInt32) * ((Int8.ofInt (10)).toInt32))), .ref 49]) (pc' := 48) (lv' := [(0, .ref 49), (2, .int x2)]) (hp' := rH e g q c l) (i := .iadd) (len := 1) rfl hj rfl rfl rfl]
  obtain ⟨y2, cb2, hj2⟩ := mq_394
  rw [n_call (f := f) (d := d) (ki := 0) (idx := 664) (j' := 394) (kd := 0) (M' := (y2, cb2, 2, none, 12, 1, 0, 0)) (avs := [.ref 49, .int ((Int8.ofInt (48)).toInt32 + (x2 - x2 / ((Int8.ofInt (10)).toInt32) * ((Int8.ofInt (10)).toInt32)))]) (r := []) (rv := none) (hp1 := rH e g' q' c' l') rfl hj rfl rfl rfl rfl (rq_n rfl rfl hj2 rfl rfl) rfl hc (Nat.le_of_ble_eq_true rfl)]
  exact nrun_ext f f _ _ R 396 51 [] [(0, .ref 49), (2, .int x2)] [] _ 0 0 122 (Nat.le_refl _) (Nat.le_refl _) (Nat.le_of_ble_eq_true rfl) (lvR_mk [] [0, 2] rfl rfl (by decide) (by decide) (fun _ h => nomatch h) (List.forall_mem_cons.mpr ⟨Or.inr rfl, (List.forall_mem_cons.mpr ⟨Or.inr rfl, (fun _ h => nomatch h)⟩)⟩)) h
