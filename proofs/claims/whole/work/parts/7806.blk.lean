set_option maxRecDepth 100000 in
set_option maxHeartbeats 4000000 in
theorem bk_348_97 {b : Bool} {d : Nat} {e : Nat → x_E} {g : Nat → Int32} {q : Nat → Int64} {c : Nat → Nat → Int32} {l : Nat → Nat → Int64} {R : Option Value × List x_E} (h : rr b e d 348 144 [] [] g q c l R) : rr b e d 348 97 [] [] g q c l R := by
  obtain ⟨f, h⟩ := h
  refine ⟨f + 1, ?_⟩
  obtain ⟨y, cb, hj⟩ := mq_348
  rw [n_step (st' := []) (pc' := 144) (lv' := []) (hp' := rH e g q c l) (i := .goto 47) (len := 3) rfl hj rfl rfl rfl]
  exact h
set_option maxRecDepth 100000 in
set_option maxHeartbeats 4000000 in
theorem bk_348_100 {b : Bool} {d : Nat} {x1 : Int32} {e : Nat → x_E} {g : Nat → Int32} {q : Nat → Int64} {c : Nat → Nat → Int32} {l : Nat → Nat → Int64} {R : Option Value × List x_E} (hz0 : ¬ (x1 < 0 ∨ 64 ≤ (x1).toNatClampNeg)) (h1 : xCn .lt ((c 61 (x1).toNatClampNeg)) 0 = true → rr b e d 348 126 [(0, .ref 49), (1, .int x1)] [] g q c l R) (h2 : ¬ xCn .lt ((c 61 (x1).toNatClampNeg)) 0 = true → rr b e d 348 109 [(0, .ref 49), (1, .int x1)] [] g q c l R) : rr b e d 348 100 [(0, .ref 49), (1, .int x1)] [] g q c l R := by
  have key : ∀ f, nrun xZ (xY (xfm b)) xDT (f + 5) d 348 100 [(0, .ref 49), (1, .int x1)] [] (rH e g q c l) 0 0 = nrun xZ (xY (xfm b)) xDT f d 348 (if xCn .lt ((c 61 (x1).toNatClampNeg)) 0 = true then 126 else 109) [(0, .ref 49), (1, .int x1)] [] (rH e g q c l) 0 0 := by
    intro f
    obtain ⟨y, cb, hj⟩ := mq_348
    rw [n_step (st' := [.ref 49]) (pc' := 101) (lv' := [(0, .ref 49), (1, .int x1)]) (hp' := rH e g q c l) (i := .aload_n 0) (len := 1) rfl hj rfl rfl rfl]
    rw [n_get (st' := [.ref 61]) (pc' := 104) (lv' := [(0, .ref 49), (1, .int x1)]) (hp' := rH e g q c l) (i := .getfield 50) (len := 3) rfl hj rfl rfl rfl rfl]
    rw [n_step (st' := [.int x1, .ref 61]) (pc' := 105) (lv' := [(0, .ref 49), (1, .int x1)]) (hp' := rH e g q c l) (i := .iload_n 1) (len := 1) rfl hj rfl rfl rfl]
    rw [n_ial (st' := [.int (c 61 (x1).toNatClampNeg)]) rfl hj (ald_61 hz0)]
    rw [n_step (st' := []) (pc' := (if xCn .lt ((c 61 (x1).toNatClampNeg)) 0 = true then 126 else 109)) (lv' := [(0, .ref 49), (1, .int x1)]) (hp' := rH e g q c l) (i := .ifCond .lt 20) (len := 3) rfl hj rfl rfl rfl]
  by_cases hc : xCn .lt ((c 61 (x1).toNatClampNeg)) 0 = true
  · obtain ⟨f, h⟩ := h1 hc
    refine ⟨f + 5, ?_⟩
    rw [key, if_pos hc]
    exact h
  · obtain ⟨f, h⟩ := h2 hc
    refine ⟨f + 5, ?_⟩
    rw [key, if_neg hc]
    exact h
set_option maxRecDepth 100000 in
set_option maxHeartbeats 4000000 in
theorem bk_348_109 {b : Bool} {d : Nat} {x1 : Int32} {e : Nat → x_E} {g : Nat → Int32} {q : Nat → Int64} {c : Nat → Nat → Int32} {l : Nat → Nat → Int64} {g' : Nat → Int32} {q' : Nat → Int64} {c' : Nat → Nat → Int32} {l' : Nat → Nat → Int64} {R : Option Value × List x_E} (hz0 : ¬ (x1 < 0 ∨ 64 ≤ (x1).toNatClampNeg)) (hc : rr b e d 334 0 [(0, .ref 49), (1, .int ((Int16.ofInt (1000)).toInt32 + (c 61 (x1).toNatClampNeg)))] [] g q c l (none, rH e g' q' c' l')) (h : rr b e (d + 1) 348 123 [] [] g' q' c' l' R) : rr b e (d + 1) 348 109 [(0, .ref 49), (1, .int x1)] [] g q c l R := by
  obtain ⟨f1, hc⟩ := hc
  obtain ⟨f2, h⟩ := h
  obtain ⟨f, hf1, hf2⟩ : ∃ f, f1 ≤ f ∧ f2 ≤ f := ⟨max f1 f2, Nat.le_max_left _ _, Nat.le_max_right _ _⟩
  have hc := nrun_fuel f1 f _ _ _ _ _ _ _ _ _ hf1 hc
  have h := nrun_fuel f2 f _ _ _ _ _ _ _ _ _ hf2 h
  refine ⟨f + 8, ?_⟩
  obtain ⟨y, cb, hj⟩ := mq_348
  rw [n_step (st' := [.ref 49]) (pc' := 110) (lv' := [(0, .ref 49), (1, .int x1)]) (hp' := rH e g q c l) (i := .aload_n 0) (len := 1) rfl hj rfl rfl rfl]
  rw [n_step (st' := [.int (Int16.ofInt (1000)).toInt32, .ref 49]) (pc' := 113) (lv' := [(0, .ref 49), (1, .int x1)]) (hp' := rH e g q c l) (i := .sipush 1000) (len := 3) rfl hj rfl rfl rfl]
  rw [n_step (st' := [.ref 49, .int (Int16.ofInt (1000)).toInt32, .ref 49]) (pc' := 114) (lv' := [(0, .ref 49), (1, .int x1)]) (hp' := rH e g q c l) (i := .aload_n 0) (len := 1) rfl hj rfl rfl rfl]
  rw [n_get (st' := [.ref 61, .int (Int16.ofInt (1000)).toInt32, .ref 49]) (pc' := 117) (lv' := [(0, .ref 49), (1, .int x1)]) (hp' := rH e g q c l) (i := .getfield 50) (len := 3) rfl hj rfl rfl rfl rfl]
  rw [n_step (st' := [.int x1, .ref 61, .int (Int16.ofInt (1000)).toInt32, .ref 49]) (pc' := 118) (lv' := [(0, .ref 49), (1, .int x1)]) (hp' := rH e g q c l) (i := .iload_n 1) (len := 1) rfl hj rfl rfl rfl]
  rw [n_ial (st' := [.int (c 61 (x1).toNatClampNeg), .int (Int16.ofInt (1000)).toInt32, .ref 49]) rfl hj (ald_61 hz0)]
  rw [n_step (st' := [.int ((Int16.ofInt (1000)).toInt32 + (c 61 (x1).toNatClampNeg)), .ref 49]) (pc' := 120) (lv' := [(0, .ref 49), (1, .int x1)]) (hp' := rH e g q c l) (i := .iadd) (len := 1) rfl hj rfl rfl rfl]
  obtain ⟨y2, cb2, hj2⟩ := mq_334
  rw [n_call (f := f) (d := d) (ki := 0) (idx := 377) (j' := 334) (kd := 0) (M' := (y2, cb2, 2, none, 12, 1, 0, 0)) (avs := [.ref 49, .int ((Int16.ofInt (1000)).toInt32 + (c 61 (x1).toNatClampNeg))]) (r := []) (rv := none) (hp1 := rH e g' q' c' l') rfl hj rfl rfl rfl rfl (rq_n rfl rfl hj2 rfl rfl) rfl hc (Nat.le_of_ble_eq_true rfl)]
  exact nrun_ext f f _ _ R 348 123 [] [(0, .ref 49), (1, .int x1)] [] _ 0 0 122 (Nat.le_refl _) (Nat.le_refl _) (Nat.le_of_ble_eq_true rfl) (lvR_mk [] [0, 1] rfl rfl (by decide) (by decide) (fun _ h => nomatch h) (List.forall_mem_cons.mpr ⟨Or.inr rfl, (List.forall_mem_cons.mpr ⟨Or.inr rfl, (fun _ h => nomatch h)⟩)⟩)) h
set_option maxRecDepth 100000 in
set_option maxHeartbeats 4000000 in
theorem bk_348_123 {b : Bool} {d : Nat} {e : Nat → x_E} {g : Nat → Int32} {q : Nat → Int64} {c : Nat → Nat → Int32} {l : Nat → Nat → Int64} {R : Option Value × List x_E} (h : rr b e d 348 144 [] [] g q c l R) : rr b e d 348 123 [] [] g q c l R := by
  obtain ⟨f, h⟩ := h
  refine ⟨f + 1, ?_⟩
  obtain ⟨y, cb, hj⟩ := mq_348
  rw [n_step (st' := []) (pc' := 144) (lv' := []) (hp' := rH e g q c l) (i := .goto 21) (len := 3) rfl hj rfl rfl rfl]
  exact h
set_option maxRecDepth 100000 in
set_option maxHeartbeats 4000000 in
theorem bk_348_126 {b : Bool} {d : Nat} {x1 : Int32} {e : Nat → x_E} {g : Nat → Int32} {q : Nat → Int64} {c : Nat → Nat → Int32} {l : Nat → Nat → Int64} {g' : Nat → Int32} {q' : Nat → Int64} {c' : Nat → Nat → Int32} {l' : Nat → Nat → Int64} {R : Option Value × List x_E} (hz0 : ¬ (x1 < 0 ∨ 64 ≤ (x1).toNatClampNeg)) (hc : rr b e d 334 0 [(0, .ref 49), (1, .int (((Int8.ofInt (100)).toInt32 + (g 41)) + (c 61 (x1).toNatClampNeg)))] [] g q c l (none, rH e g' q' c' l')) (h : rr b e (d + 1) 348 144 [] [] g' q' c' l' R) : rr b e (d + 1) 348 126 [(0, .ref 49), (1, .int x1)] [] g q c l R := by
  obtain ⟨f1, hc⟩ := hc
  obtain ⟨f2, h⟩ := h
  obtain ⟨f, hf1, hf2⟩ : ∃ f, f1 ≤ f ∧ f2 ≤ f := ⟨max f1 f2, Nat.le_max_left _ _, Nat.le_max_right _ _⟩
  have hc := nrun_fuel f1 f _ _ _ _ _ _ _ _ _ hf1 hc
  have h := nrun_fuel f2 f _ _ _ _ _ _ _ _ _ hf2 h
  refine ⟨f + 11, ?_⟩
  obtain ⟨y, cb, hj⟩ := mq_348
  rw [n_step (st' := [.ref 49]) (pc' := 127) (lv' := [(0, .ref 49), (1, .int x1)]) (hp' := rH e g q c l) (i := .aload_n 0) (len := 1) rfl hj rfl rfl rfl]
  rw [n_step (st' := [.int (Int8.ofInt (100)).toInt32, .ref 49]) (pc' := 129) (lv' := [(0, .ref 49), (1, .int x1)]) (hp' := rH e g q c l) (i := .bipush 100) (len := 2) rfl hj rfl rfl rfl]
  rw [n_step (st' := [.ref 49, .int (Int8.ofInt (100)).toInt32, .ref 49]) (pc' := 130) (lv' := [(0, .ref 49), (1, .int x1)]) (hp' := rH e g q c l) (i := .aload_n 0) (len := 1) rfl hj rfl rfl rfl]
  rw [n_get (st' := [.int (g 41), .int (Int8.ofInt (100)).toInt32, .ref 49]) (pc' := 133) (lv' := [(0, .ref 49), (1, .int x1)]) (hp' := rH e g q c l) (i := .getfield 414) (len := 3) rfl hj rfl rfl rfl rfl]
  rw [n_step (st' := [.int ((Int8.ofInt (100)).toInt32 + (g 41)), .ref 49]) (pc' := 134) (lv' := [(0, .ref 49), (1, .int x1)]) (hp' := rH e g q c l) (i := .iadd) (len := 1) rfl hj rfl rfl rfl]
  rw [n_step (st' := [.ref 49, .int ((Int8.ofInt (100)).toInt32 + (g 41)), .ref 49]) (pc' := 135) (lv' := [(0, .ref 49), (1, .int x1)]) (hp' := rH e g q c l) (i := .aload_n 0) (len := 1) rfl hj rfl rfl rfl]
  rw [n_get (st' := [.ref 61, .int ((Int8.ofInt (100)).toInt32 + (g 41)), .ref 49]) (pc' := 138) (lv' := [(0, .ref 49), (1, .int x1)]) (hp' := rH e g q c l) (i := .getfield 50) (len := 3) rfl hj rfl rfl rfl rfl]
  rw [n_step (st' := [.int x1, .ref 61, .int ((Int8.ofInt (100)).toInt32 + (g 41)), .ref 49]) (pc' := 139) (lv' := [(0, .ref 49), (1, .int x1)]) (hp' := rH e g q c l) (i := .iload_n 1) (len := 1) rfl hj rfl rfl rfl]
  rw [n_ial (st' := [.int (c 61 (x1).toNatClampNeg), .int ((Int8.ofInt (100)).toInt32 + (g 41)), .ref 49]) rfl hj (ald_61 hz0)]
  rw [n_step (st' := [.int (((Int8.ofInt (100)).toInt32 + (g 41)) + (c 61 (x1).toNatClampNeg)), .ref 49]) (pc' := 141) (lv' := [(0, .ref 49), (1, .int x1)]) (hp' := rH e g q c l) (i := .iadd) (len := 1) rfl hj rfl rfl rfl]
  obtain ⟨y2, cb2, hj2⟩ := mq_334
  rw [n_call (f := f) (d := d) (ki := 0) (idx := 377) (j' := 334) (kd := 0) (M' := (y2, cb2, 2, none, 12, 1, 0, 0)) (avs := [.ref 49, .int (((Int8.ofInt (100)).toInt32 + (g 41)) + (c 61 (x1).toNatClampNeg))]) (r := []) (rv := none) (hp1 := rH e g' q' c' l') rfl hj rfl rfl rfl rfl (rq_n rfl rfl hj2 rfl rfl) rfl hc (Nat.le_of_ble_eq_true rfl)]
  exact nrun_ext f f _ _ R 348 144 [] [(0, .ref 49), (1, .int x1)] [] _ 0 0 122 (Nat.le_refl _) (Nat.le_refl _) (Nat.le_of_ble_eq_true rfl) (lvR_mk [] [0, 1] rfl rfl (by decide) (by decide) (fun _ h => nomatch h) (List.forall_mem_cons.mpr ⟨Or.inr rfl, (List.forall_mem_cons.mpr ⟨Or.inr rfl, (fun _ h => nomatch h)⟩)⟩)) h
set_option maxRecDepth 100000 in
set_option maxHeartbeats 4000000 in
theorem bk_348_144 {b : Bool} {d : Nat} {e : Nat → x_E} {g : Nat → Int32} {q : Nat → Int64} {c : Nat → Nat → Int32} {l : Nat → Nat → Int64} : rr b e d 348 144 [] [] g q c l (none, rH e g q c l) := by
  refine ⟨0 + 1, ?_⟩
  obtain ⟨y, cb, hj⟩ := mq_348
  exact n_ret rfl hj rfl rfl rfl
set_option maxRecDepth 100000 in
set_option maxHeartbeats 4000000 in
theorem bk_349_0 {b : Bool} {d : Nat} {x1 x2 : Int32} {e : Nat → x_E} {g : Nat → Int32} {q : Nat → Int64} {c : Nat → Nat → Int32} {l : Nat → Nat → Int64} {R : Option Value × List x_E} (h1 : xCn .ne ((g 23)) 0 = true → rr b e d 349 8 [(0, .ref 49), (1, .int x1), (2, .int x2)] [] g q c l R) (h2 : ¬ xCn .ne ((g 23)) 0 = true → rr b e d 349 7 [] [] g q c l R) : rr b e d 349 0 [(0, .ref 49), (1, .int x1), (2, .int x2)] [] g q c l R := by
  have key : ∀ f, nrun xZ (xY (xfm b)) xDT (f + 3) d 349 0 [(0, .ref 49), (1, .int x1), (2, .int x2)] [] (rH e g q c l) 0 0 = nrun xZ (xY (xfm b)) xDT f d 349 (if xCn .ne ((g 23)) 0 = true then 8 else 7) [(0, .ref 49), (1, .int x1), (2, .int x2)] [] (rH e g q c l) 0 0 := by
    intro f
    obtain ⟨y, cb, hj⟩ := mq_349
    rw [n_step (st' := [.ref 49]) (pc' := 1) (lv' := [(0, .ref 49), (1, .int x1), (2, .int x2)]) (hp' := rH e g q c l) (i := .aload_n 0) (len := 1) rfl hj rfl rfl rfl]
    rw [n_get (st' := [.int (g 23)]) (pc' := 4) (lv' := [(0, .ref 49), (1, .int x1), (2, .int x2)]) (hp' := rH e g q c l) (i := .getfield 325) (len := 3) rfl hj rfl rfl rfl rfl]
    rw [n_step (st' := []) (pc' := (if xCn .ne ((g 23)) 0 = true then 8 else 7)) (lv' := [(0, .ref 49), (1, .int x1), (2, .int x2)]) (hp' := rH e g q c l) (i := .ifCond .ne 4) (len := 3) rfl hj rfl rfl rfl]
  by_cases hc : xCn .ne ((g 23)) 0 = true
  · obtain ⟨f, h⟩ := h1 hc
    refine ⟨f + 3, ?_⟩
    rw [key, if_pos hc]
    exact h
  · obtain ⟨f, h⟩ := h2 hc
    refine ⟨f + 3, ?_⟩
    rw [key, if_neg hc]
    exact nrun_ext f f _ _ R 349 7 [] [(0, .ref 49), (1, .int x1), (2, .int x2)] [] _ 0 0 122 (Nat.le_refl _) (Nat.le_refl _) (Nat.le_of_ble_eq_true rfl) (lvR_mk [] [0, 1, 2] rfl rfl (by decide) (by decide) (fun _ h => nomatch h) (List.forall_mem_cons.mpr ⟨Or.inr rfl, (List.forall_mem_cons.mpr ⟨Or.inr rfl, (List.forall_mem_cons.mpr ⟨Or.inr rfl, (fun _ h => nomatch h)⟩)⟩)⟩)) h
set_option maxRecDepth 100000 in
set_option maxHeartbeats 4000000 in
theorem bk_349_7 {b : Bool} {d : Nat} {e : Nat → x_E} {g : Nat → Int32} {q : Nat → Int64} {c : Nat → Nat → Int32} {l : Nat → Nat → Int64} : rr b e d 349 7 [] [] g q c l (none, rH e g q c l) := by
  refine ⟨0 + 1, ?_⟩
  obtain ⟨y, cb, hj⟩ := mq_349
  exact n_ret rfl hj rfl rfl rfl
set_option maxRecDepth 100000 in
set_option maxHeartbeats 4000000 in
theorem bk_349_8 {b : Bool} {d : Nat} {x1 x2 : Int32} {e : Nat → x_E} {g : Nat → Int32} {q : Nat → Int64} {c : Nat → Nat → Int32} {l : Nat → Nat → Int64} {R : Option Value × List x_E} (h1 : xCn .eq (((upd g 25 (((g 25) + (Int32.ofInt (1))))) 21)) 0 = true → rr b e d 349 50 [(0, .ref 49), (1, .int x1), (2, .int x2)] [] (upd g 25 (((g 25) + (Int32.ofInt (1))))) q c l R) (h2 : ¬ xCn .eq (((upd g 25 (((g 25) + (Int32.ofInt (1))))) 21)) 0 = true → rr b e d 349 25 [(0, .ref 49), (1, .int x1), (2, .int x2)] [] (upd g 25 (((g 25) + (Int32.ofInt (1))))) q c l R) : rr b e d 349 8 [(0, .ref 49), (1, .int x1), (2, .int x2)] [] g q c l R := by
  have key : ∀ f, nrun xZ (xY (xfm b)) xDT (f + 9) d 349 8 [(0, .ref 49), (1, .int x1), (2, .int x2)] [] (rH e g q c l) 0 0 = nrun xZ (xY (xfm b)) xDT f d 349 (if xCn .eq (((upd g 25 (((g 25) + (Int32.ofInt (1))))) 21)) 0 = true then 50 else 25) [(0, .ref 49), (1, .int x1), (2, .int x2)] [] (rH e (upd g 25 (((g 25) + (Int32.ofInt (1))))) q c l) 0 0 := by
    intro f
    obtain ⟨y, cb, hj⟩ := mq_349
    rw [n_step (st' := [.ref 49]) (pc' := 9) (lv' := [(0, .ref 49), (1, .int x1), (2, .int x2)]) (hp' := rH e g q c l) (i := .aload_n 0) (len := 1) rfl hj rfl rfl rfl]
    rw [n_step (st' := [.ref 49, .ref 49]) (pc' := 10) (lv' := [(0, .ref 49), (1, .int x1), (2, .int x2)]) (hp' := rH e g q c l) (i := .aload_n 0) (len := 1) rfl hj rfl rfl rfl]
    rw [n_get (st' := [.int (g 25), .ref 49]) (pc' := 13) (lv' := [(0, .ref 49), (1, .int x1), (2, .int x2)]) (hp' := rH e g q c l) (i := .getfield 328) (len := 3) rfl hj rfl rfl rfl rfl]
    rw [n_step (st' := [.int (Int32.ofInt (1)), .int (g 25), .ref 49]) (pc' := 14) (lv' := [(0, .ref 49), (1, .int x1), (2, .int x2)]) (hp' := rH e g q c l) (i := .iconst 1) (len := 1) rfl hj rfl rfl rfl]
    rw [n_step (st' := [.int ((g 25) + (Int32.ofInt (1))), .ref 49]) (pc' := 15) (lv' := [(0, .ref 49), (1, .int x1), (2, .int x2)]) (hp' := rH e g q c l) (i := .iadd) (len := 1) rfl hj rfl rfl rfl]
    rw [n_put (st' := []) (hp' := rH e (upd g 25 (((g 25) + (Int32.ofInt (1))))) q c l) rfl hj pf_25]
    rw [n_step (st' := [.ref 49]) (pc' := 19) (lv' := [(0, .ref 49), (1, .int x1), (2, .int x2)]) (hp' := rH e (upd g 25 (((g 25) + (Int32.ofInt (1))))) q c l) (i := .aload_n 0) (len := 1) rfl hj rfl rfl rfl]
    rw [n_get (st' := [.int ((upd g 25 (((g 25) + (Int32.ofInt (1))))) 21)]) (pc' := 22) (lv' := [(0, .ref 49), (1, .int x1), (2, .int x2)]) (hp' := rH e (upd g 25 (((g 25) + (Int32.ofInt (1))))) q c l) (i := .getfield 331) (len := 3) rfl hj rfl rfl rfl rfl]
    rw [n_step (st' := []) (pc' := (if xCn .eq (((upd g 25 (((g 25) + (Int32.ofInt (1))))) 21)) 0 = true then 50 else 25)) (lv' := [(0, .ref 49), (1, .int x1), (2, .int x2)]) (hp' := rH e (upd g 25 (((g 25) + (Int32.ofInt (1))))) q c l) (i := .ifCond .eq 28) (len := 3) rfl hj rfl rfl rfl]
  by_cases hc : xCn .eq (((upd g 25 (((g 25) + (Int32.ofInt (1))))) 21)) 0 = true
  · obtain ⟨f, h⟩ := h1 hc
    refine ⟨f + 9, ?_⟩
    rw [key, if_pos hc]
    exact h
  · obtain ⟨f, h⟩ := h2 hc
    refine ⟨f + 9, ?_⟩
    rw [key, if_neg hc]
    exact h
set_option maxRecDepth 100000 in
set_option maxHeartbeats 4000000 in
theorem bk_349_25 {b : Bool} {d : Nat} {x1 x2 : Int32} {e : Nat → x_E} {g : Nat → Int32} {q : Nat → Int64} {c : Nat → Nat → Int32} {l : Nat → Nat → Int64} {R : Option Value × List x_E} (h1 : xCn .lt ((g 22)) x2 = true → rr b e d 349 49 [] [] g q c l R) (h2 : ¬ xCn .lt ((g 22)) x2 = true → rr b e d 349 33 [(0, .ref 49), (1, .int x1), (2, .int x2)] [] g q c l R) : rr b e d 349 25 [(0, .ref 49), (1, .int x1), (2, .int x2)] [] g q c l R := by
  have key : ∀ f, nrun xZ (xY (xfm b)) xDT (f + 4) d 349 25 [(0, .ref 49), (1, .int x1), (2, .int x2)] [] (rH e g q c l) 0 0 = nrun xZ (xY (xfm b)) xDT f d 349 (if xCn .lt ((g 22)) x2 = true then 49 else 33) [(0, .ref 49), (1, .int x1), (2, .int x2)] [] (rH e g q c l) 0 0 := by
    intro f
    obtain ⟨y, cb, hj⟩ := mq_349
    rw [n_step (st' := [.ref 49]) (pc' := 26) (lv' := [(0, .ref 49), (1, .int x1), (2, .int x2)]) (hp' := rH e g q c l) (i := .aload_n 0) (len := 1) rfl hj rfl rfl rfl]
    rw [n_get (st' := [.int (g 22)]) (pc' := 29) (lv' := [(0, .ref 49), (1, .int x1), (2, .int x2)]) (hp' := rH e g q c l) (i := .getfield 334) (len := 3) rfl hj rfl rfl rfl rfl]
    rw [n_step (st' := [.int x2, .int (g 22)]) (pc' := 30) (lv' := [(0, .ref 49), (1, .int x1), (2, .int x2)]) (hp' := rH e g q c l) (i := .iload_n 2) (len := 1) rfl hj rfl rfl rfl]
    rw [n_step (st' := []) (pc' := (if xCn .lt ((g 22)) x2 = true then 49 else 33)) (lv' := [(0, .ref 49), (1, .int x1), (2, .int x2)]) (hp' := rH e g q c l) (i := .if_icmp .lt 19) (len := 3) rfl hj rfl rfl rfl]
  by_cases hc : xCn .lt ((g 22)) x2 = true
  · obtain ⟨f, h⟩ := h1 hc
    refine ⟨f + 4, ?_⟩
    rw [key, if_pos hc]
    exact nrun_ext f f _ _ R 349 49 [] [(0, .ref 49), (1, .int x1), (2, .int x2)] [] _ 0 0 122 (Nat.le_refl _) (Nat.le_refl _) (Nat.le_of_ble_eq_true rfl) (lvR_mk [] [0, 1, 2] rfl rfl (by decide) (by decide) (fun _ h => nomatch h) (List.forall_mem_cons.mpr ⟨Or.inr rfl, (List.forall_mem_cons.mpr ⟨Or.inr rfl, (List.forall_mem_cons.mpr ⟨Or.inr rfl, (fun _ h => nomatch h)⟩)⟩)⟩)) h
  · obtain ⟨f, h⟩ := h2 hc
    refine ⟨f + 4, ?_⟩
    rw [key, if_neg hc]
    exact h
set_option maxRecDepth 100000 in
set_option maxHeartbeats 4000000 in
theorem bk_349_33 {b : Bool} {d : Nat} {x1 x2 : Int32} {e : Nat → x_E} {g : Nat → Int32} {q : Nat → Int64} {c : Nat → Nat → Int32} {l : Nat → Nat → Int64} {R : Option Value × List x_E} (h1 : xCn .ne ((g 22)) x2 = true → rr b e d 349 50 [(0, .ref 49), (1, .int x1), (2, .int x2)] [] g q c l R) (h2 : ¬ xCn .ne ((g 22)) x2 = true → rr b e d 349 41 [(0, .ref 49), (1, .int x1), (2, .int x2)] [] g q c l R) : rr b e d 349 33 [(0, .ref 49), (1, .int x1), (2, .int x2)] [] g q c l R := by
  have key : ∀ f, nrun xZ (xY (xfm b)) xDT (f + 4) d 349 33 [(0, .ref 49), (1, .int x1), (2, .int x2)] [] (rH e g q c l) 0 0 = nrun xZ (xY (xfm b)) xDT f d 349 (if xCn .ne ((g 22)) x2 = true then 50 else 41) [(0, .ref 49), (1, .int x1), (2, .int x2)] [] (rH e g q c l) 0 0 := by
    intro f
    obtain ⟨y, cb, hj⟩ := mq_349
    rw [n_step (st' := [.ref 49]) (pc' := 34) (lv' := [(0, .ref 49), (1, .int x1), (2, .int x2)]) (hp' := rH e g q c l) (i := .aload_n 0) (len := 1) rfl hj rfl rfl rfl]
    rw [n_get (st' := [.int (g 22)]) (pc' := 37) (lv' := [(0, .ref 49), (1, .int x1), (2, .int x2)]) (hp' := rH e g q c l) (i := .getfield 334) (len := 3) rfl hj rfl rfl rfl rfl]
    rw [n_step (st' := [.int x2, .int (g 22)]) (pc' := 38) (lv' := [(0, .ref 49), (1, .int x1), (2, .int x2)]) (hp' := rH e g q c l) (i := .iload_n 2) (len := 1) rfl hj rfl rfl rfl]
    rw [n_step (st' := []) (pc' := (if xCn .ne ((g 22)) x2 = true then 50 else 41)) (lv' := [(0, .ref 49), (1, .int x1), (2, .int x2)]) (hp' := rH e g q c l) (i := .if_icmp .ne 12) (len := 3) rfl hj rfl rfl rfl]
  by_cases hc : xCn .ne ((g 22)) x2 = true
  · obtain ⟨f, h⟩ := h1 hc
    refine ⟨f + 4, ?_⟩
    rw [key, if_pos hc]
    exact h
  · obtain ⟨f, h⟩ := h2 hc
    refine ⟨f + 4, ?_⟩
    rw [key, if_neg hc]
    exact h
set_option maxRecDepth 100000 in
set_option maxHeartbeats 4000000 in
theorem bk_349_41 {b : Bool} {d : Nat} {x1 x2 : Int32} {e : Nat → x_E} {g : Nat → Int32} {q : Nat → Int64} {c : Nat → Nat → Int32} {l : Nat → Nat → Int64} {R : Option Value × List x_E} (h1 : xCn .gt ((g 21)) x1 = true → rr b e d 349 50 [(0, .ref 49), (1, .int x1), (2, .int x2)] [] g q c l R) (h2 : ¬ xCn .gt ((g 21)) x1 = true → rr b e d 349 49 [] [] g q c l R) : rr b e d 349 41 [(0, .ref 49), (1, .int x1), (2, .int x2)] [] g q c l R := by
  have key : ∀ f, nrun xZ (xY (xfm b)) xDT (f + 4) d 349 41 [(0, .ref 49), (1, .int x1), (2, .int x2)] [] (rH e g q c l) 0 0 = nrun xZ (xY (xfm b)) xDT f d 349 (if xCn .gt ((g 21)) x1 = true then 50 else 49) [(0, .ref 49), (1, .int x1), (2, .int x2)] [] (rH e g q c l) 0 0 := by
    intro f
    obtain ⟨y, cb, hj⟩ := mq_349
    rw [n_step (st' := [.ref 49]) (pc' := 42) (lv' := [(0, .ref 49), (1, .int x1), (2, .int x2)]) (hp' := rH e g q c l) (i := .aload_n 0) (len := 1) rfl hj rfl rfl rfl]
    rw [n_get (st' := [.int (g 21)]) (pc' := 45) (lv' := [(0, .ref 49), (1, .int x1), (2, .int x2)]) (hp' := rH e g q c l) (i := .getfield 331) (len := 3) rfl hj rfl rfl rfl rfl]
    rw [n_step (st' := [.int x1, .int (g 21)]) (pc' := 46) (lv' := [(0, .ref 49), (1, .int x1), (2, .int x2)]) (hp' := rH e g q c l) (i := .iload_n 1) (len := 1) rfl hj rfl rfl rfl]
    rw [n_step (st' := []) (pc' := (if xCn .gt ((g 21)) x1 = true then 50 else 49)) (lv' := [(0, .ref 49), (1, .int x1), (2, .int x2)]) (hp' := rH e g q c l) (i := .if_icmp .gt 4) (len := 3) rfl hj rfl rfl rfl]
  by_cases hc : xCn .gt ((g 21)) x1 = true
  · obtain ⟨f, h⟩ := h1 hc
    refine ⟨f + 4, ?_⟩
    rw [key, if_pos hc]
    exact h
  · obtain ⟨f, h⟩ := h2 hc
    refine ⟨f + 4, ?_⟩
    rw [key, if_neg hc]
    exact nrun_ext f f _ _ R 349 49 [] [(0, .ref 49), (1, .int x1), (2, .int x2)] [] _ 0 0 122 (Nat.le_refl _) (Nat.le_refl _) (Nat.le_of_ble_eq_true rfl) (lvR_mk [] [0, 1, 2] rfl rfl (by decide) (by decide) (fun _ h => nomatch h) (List.forall_mem_cons.mpr ⟨Or.inr rfl, (List.forall_mem_cons.mpr ⟨Or.inr rfl, (List.forall_mem_cons.mpr ⟨Or.inr rfl, (fun _ h => nomatch h)⟩)⟩)⟩)) h
set_option maxRecDepth 100000 in
set_option maxHeartbeats 4000000 in
theorem bk_349_49 {b : Bool} {d : Nat} {e : Nat → x_E} {g : Nat → Int32} {q : Nat → Int64} {c : Nat → Nat → Int32} {l : Nat → Nat → Int64} : rr b e d 349 49 [] [] g q c l (none, rH e g q c l) := by
  refine ⟨0 + 1, ?_⟩
  obtain ⟨y, cb, hj⟩ := mq_349
  exact n_ret rfl hj rfl rfl rfl
set_option maxRecDepth 100000 in
set_option maxHeartbeats 4000000 in
theorem bk_349_50 {b : Bool} {d : Nat} {x1 x2 : Int32} {e : Nat → x_E} {g : Nat → Int32} {q : Nat → Int64} {c : Nat → Nat → Int32} {l : Nat → Nat → Int64} : rr b e d 349 50 [(0, .ref 49), (1, .int x1), (2, .int x2)] [] g q c l (none, rH e (upd (upd g 21 x1) 22 x2) q c l) := by
  refine ⟨0 + 7, ?_⟩
  obtain ⟨y, cb, hj⟩ := mq_349
  rw [n_step (st' := [.ref 49]) (pc' := 51) (lv' := [(0, .ref 49), (1, .int x1), (2, .int x2)]) (hp' := rH e g q c l) (i := .aload_n 0) (len := 1) rfl hj rfl rfl rfl]
  rw [n_step (st' := [.int x1, .ref 49]) (pc' := 52) (lv' := [(0, .ref 49), (1, .int x1), (2, .int x2)]) (hp' := rH e g q c l) (i := .iload_n 1) (len := 1) rfl hj rfl rfl rfl]
  rw [n_put (st' := []) (hp' := rH e (upd g 21 x1) q c l) rfl hj pf_21]
  rw [n_step (st' := [.ref 49]) (pc' := 56) (lv' := [(0, .ref 49), (1, .int x1), (2, .int x2)]) (hp' := rH e (upd g 21 x1) q c l) (i := .aload_n 0) (len := 1) rfl hj rfl rfl rfl]
  rw [n_step (st' := [.int x2, .ref 49]) (pc' := 57) (lv' := [(0, .ref 49), (1, .int x1), (2, .int x2)]) (hp' := rH e (upd g 21 x1) q c l) (i := .iload_n 2) (len := 1) rfl hj rfl rfl rfl]
  rw [n_put (st' := []) (hp' := rH e (upd (upd g 21 x1) 22 x2) q c l) rfl hj pf_22]
  exact n_ret rfl hj rfl rfl rfl
set_option maxRecDepth 100000 in
set_option maxHeartbeats 4000000 in
theorem bk_350_0 {b : Bool} {d : Nat} {x3 x4 : Int32} {x1 : Int64} {e : Nat → x_E} {g : Nat → Int32} {q : Nat → Int64} {c : Nat → Nat → Int32} {l : Nat → Nat → Int64} (hz0 : ¬ ((g 36) < 0 ∨ 64 ≤ ((g 36)).toNatClampNeg)) (hz1 : ¬ ((g 36) < 0 ∨ 64 ≤ ((g 36)).toNatClampNeg)) (hz2 : ¬ ((g 36) < 0 ∨ 64 ≤ ((g 36)).toNatClampNeg)) : rr b e d 350 0 [(0, .ref 49), (1, .long x1), (3, .int x3), (4, .int x4)] [] g q c l (none, rH e (upd g 36 (((g 36) + (Int32.ofInt (1))))) q (updA (updA c 60 (upd (c 60) ((g 36)).toNatClampNeg x3)) 61 (upd ((updA c 60 (upd (c 60) ((g 36)).toNatClampNeg x3)) 61) ((g 36)).toNatClampNeg x4)) (updB l 59 (vp_updL (l 59) ((g 36)).toNatClampNeg x1))) := by
  refine ⟨0 + 25, ?_⟩
  obtain ⟨y, cb, hj⟩ := mq_350
  rw [n_step (st' := [.ref 49]) (pc' := 1) (lv' := [(0, .ref 49), (1, .long x1), (3, .int x3), (4, .int x4)]) (hp' := rH e g q c l) (i := .aload_n 0) (len := 1) rfl hj rfl rfl rfl]
  rw [n_get (st' := [.ref 59]) (pc' := 4) (lv' := [(0, .ref 49), (1, .long x1), (3, .int x3), (4, .int x4)]) (hp' := rH e g q c l) (i := .getfield 43) (len := 3) rfl hj rfl rfl rfl rfl]
  rw [n_step (st' := [.ref 49, .ref 59]) (pc' := 5) (lv' := [(0, .ref 49), (1, .long x1), (3, .int x3), (4, .int x4)]) (hp' := rH e g q c l) (i := .aload_n 0) (len := 1) rfl hj rfl rfl rfl]
  rw [n_get (st' := [.int (g 36), .ref 59]) (pc' := 8) (lv' := [(0, .ref 49), (1, .long x1), (3, .int x3), (4, .int x4)]) (hp' := rH e g q c l) (i := .getfield 393) (len := 3) rfl hj rfl rfl rfl rfl]
  rw [n_step (st' := [.long x1, .int (g 36), .ref 59]) (pc' := 9) (lv' := [(0, .ref 49), (1, .long x1), (3, .int x3), (4, .int x4)]) (hp' := rH e g q c l) (i := .lload_n 1) (len := 1) rfl hj rfl rfl rfl]
  rw [n_las (st' := []) (hp' := rH e g q c (updB l 59 (vp_updL (l 59) ((g 36)).toNatClampNeg x1))) rfl hj (asl_59 hz0)]
  rw [n_step (st' := [.ref 49]) (pc' := 11) (lv' := [(0, .ref 49), (1, .long x1), (3, .int x3), (4, .int x4)]) (hp' := rH e g q c (updB l 59 (vp_updL (l 59) ((g 36)).toNatClampNeg x1))) (i := .aload_n 0) (len := 1) rfl hj rfl rfl rfl]
  rw [n_get (st' := [.ref 60]) (pc' := 14) (lv' := [(0, .ref 49), (1, .long x1), (3, .int x3), (4, .int x4)]) (hp' := rH e g q c (updB l 59 (vp_updL (l 59) ((g 36)).toNatClampNeg x1))) (i := .getfield 47) (len := 3) rfl hj rfl rfl rfl rfl]
  rw [n_step (st' := [.ref 49, .ref 60]) (pc' := 15) (lv' := [(0, .ref 49), (1, .long x1), (3, .int x3), (4, .int x4)]) (hp' := rH e g q c (updB l 59 (vp_updL (l 59) ((g 36)).toNatClampNeg x1))) (i := .aload_n 0) (len := 1) rfl hj rfl rfl rfl]
  rw [n_get (st' := [.int (g 36), .ref 60]) (pc' := 18) (lv' := [(0, .ref 49), (1, .long x1), (3, .int x3), (4, .int x4)]) (hp' := rH e g q c (updB l 59 (vp_updL (l 59) ((g 36)).toNatClampNeg x1))) (i := .getfield 393) (len := 3) rfl hj rfl rfl rfl rfl]
  rw [n_step (st' := [.int x3, .int (g 36), .ref 60]) (pc' := 19) (lv' := [(0, .ref 49), (1, .long x1), (3, .int x3), (4, .int x4)]) (hp' := rH e g q c (updB l 59 (vp_updL (l 59) ((g 36)).toNatClampNeg x1))) (i := .iload_n 3) (len := 1) rfl hj rfl rfl rfl]
  rw [n_ias (st' := []) (hp' := rH e g q (updA c 60 (upd (c 60) ((g 36)).toNatClampNeg x3)) (updB l 59 (vp_updL (l 59) ((g 36)).toNatClampNeg x1))) rfl hj (ast_60 hz1)]
  rw [n_step (st' := [.ref 49]) (pc' := 21) (lv' := [(0, .ref 49), (1, .long x1), (3, .int x3), (4, .int x4)]) (hp' := rH e g q (updA c 60 (upd (c 60) ((g 36)).toNatClampNeg x3)) (updB l 59 (vp_updL (l 59) ((g 36)).toNatClampNeg x1))) (i := .aload_n 0) (len := 1) rfl hj rfl rfl rfl]
  rw [n_get (st' := [.ref 61]) (pc' := 24) (lv' := [(0, .ref 49), (1, .long x1), (3, .int x3), (4, .int x4)]) (hp' := rH e g q (updA c 60 (upd (c 60) ((g 36)).toNatClampNeg x3)) (updB l 59 (vp_updL (l 59) ((g 36)).toNatClampNeg x1))) (i := .getfield 50) (len := 3) rfl hj rfl rfl rfl rfl]
  rw [n_step (st' := [.ref 49, .ref 61]) (pc' := 25) (lv' := [(0, .ref 49), (1, .long x1), (3, .int x3), (4, .int x4)]) (hp' := rH e g q (updA c 60 (upd (c 60) ((g 36)).toNatClampNeg x3)) (updB l 59 (vp_updL (l 59) ((g 36)).toNatClampNeg x1))) (i := .aload_n 0) (len := 1) rfl hj rfl rfl rfl]
  rw [n_get (st' := [.int (g 36), .ref 61]) (pc' := 28) (lv' := [(0, .ref 49), (1, .long x1), (3, .int x3), (4, .int x4)]) (hp' := rH e g q (updA c 60 (upd (c 60) ((g 36)).toNatClampNeg x3)) (updB l 59 (vp_updL (l 59) ((g 36)).toNatClampNeg x1))) (i := .getfield 393) (len := 3) rfl hj rfl rfl rfl rfl]
  rw [n_step (st' := [.int x4, .int (g 36), .ref 61]) (pc' := 30) (lv' := [(0, .ref 49), (1, .long x1), (3, .int x3), (4, .int x4)]) (hp' := rH e g q (updA c 60 (upd (c 60) ((g 36)).toNatClampNeg x3)) (updB l 59 (vp_updL (l 59) ((g 36)).toNatClampNeg x1))) (i := .iload 4) (len := 2) rfl hj rfl rfl rfl]
  rw [n_ias (st' := []) (hp' := rH e g q (updA (updA c 60 (upd (c 60) ((g 36)).toNatClampNeg x3)) 61 (upd ((updA c 60 (upd (c 60) ((g 36)).toNatClampNeg x3)) 61) ((g 36)).toNatClampNeg x4)) (updB l 59 (vp_updL (l 59) ((g 36)).toNatClampNeg x1))) rfl hj (ast_61 hz2)]
  rw [n_step (st' := [.ref 49]) (pc' := 32) (lv' := [(0, .ref 49), (1, .long x1), (3, .int x3), (4, .int x4)]) (hp' := rH e g q (updA (updA c 60 (upd (c 60) ((g 36)).toNatClampNeg x3)) 61 (upd ((updA c 60 (upd (c 60) ((g 36)).toNatClampNeg x3)) 61) ((g 36)).toNatClampNeg x4)) (updB l 59 (vp_updL (l 59) ((g 36)).toNatClampNeg x1))) (i := .aload_n 0) (len := 1) rfl hj rfl rfl rfl]
  rw [n_step (st' := [.ref 49, .ref 49]) (pc' := 33) (lv' := [(0, .ref 49), (1, .long x1), (3, .int x3), (4, .int x4)]) (hp' := rH e g q (updA (updA c 60 (upd (c 60) ((g 36)).toNatClampNeg x3)) 61 (upd ((updA c 60 (upd (c 60) ((g 36)).toNatClampNeg x3)) 61) ((g 36)).toNatClampNeg x4)) (updB l 59 (vp_updL (l 59) ((g 36)).toNatClampNeg x1))) (i := .aload_n 0) (len := 1) rfl hj rfl rfl rfl]
  rw [n_get (st' := [.int (g 36), .ref 49]) (pc' := 36) (lv' := [(0, .ref 49), (1, .long x1), (3, .int x3), (4, .int x4)]) (hp' := rH e g q (updA (updA c 60 (upd (c 60) ((g 36)).toNatClampNeg x3)) 61 (upd ((updA c 60 (upd (c 60) ((g 36)).toNatClampNeg x3)) 61) ((g 36)).toNatClampNeg x4)) (updB l 59 (vp_updL (l 59) ((g 36)).toNatClampNeg x1))) (i := .getfield 393) (len := 3) rfl hj rfl rfl rfl rfl]
  rw [n_step (st' := [.int (Int32.ofInt (1)), .int (g 36), .ref 49]) (pc' := 37) (lv' := [(0, .ref 49), (1, .long x1), (3, .int x3), (4, .int x4)]) (hp' := rH e g q (updA (updA c 60 (upd (c 60) ((g 36)).toNatClampNeg x3)) 61 (upd ((updA c 60 (upd (c 60) ((g 36)).toNatClampNeg x3)) 61) ((g 36)).toNatClampNeg x4)) (updB l 59 (vp_updL (l 59) ((g 36)).toNatClampNeg x1))) (i := .iconst 1) (len := 1) rfl hj rfl rfl rfl]
  rw [n_step (st' := [.int ((g 36) + (Int32.ofInt (1))), .ref 49]) (pc' := 38) (lv' := [(0, .ref 49), (1, .long x1), (3, .int x3), (4, .int x4)]) (hp' := rH e g q (updA (updA c 60 (upd (c 60) ((g 36)).toNatClampNeg x3)) 61 (upd ((updA c 60 (upd (c 60) ((g 36)).toNatClampNeg x3)) 61) ((g 36)).toNatClampNeg x4)) (updB l 59 (vp_updL (l 59) ((g 36)).toNatClampNeg x1))) (i := .iadd) (len := 1) rfl hj rfl rfl rfl]
  rw [n_put (st' := []) (hp' := rH e (upd g 36 (((g 36) + (Int32.ofInt (1))))) q (updA (updA c 60 (upd (c 60) ((g 36)).toNatClampNeg x3)) 61 (upd ((updA c 60 (upd (c 60) ((g 36)).toNatClampNeg x3)) 61) ((g 36)).toNatClampNeg x4)) (updB l 59 (vp_updL (l 59) ((g 36)).toNatClampNeg x1))) rfl hj pf_36]
  exact n_ret rfl hj rfl rfl rfl
set_option maxRecDepth 100000 in
set_option maxHeartbeats 4000000 in
theorem bk_351_0 {b : Bool} {d : Nat} {e : Nat → x_E} {g : Nat → Int32} {q : Nat → Int64} {c : Nat → Nat → Int32} {l : Nat → Nat → Int64} : rr b e d 351 0 [(0, .ref 49)] [] g q c l (none, rH e (upd g 24 (((g 24) - (Int32.ofInt (1))))) q c l) := by
  refine ⟨0 + 7, ?_⟩
  obtain ⟨y, cb, hj⟩ := mq_351
  rw [n_step (st' := [.ref 49]) (pc' := 1) (lv' := [(0, .ref 49)]) (hp' := rH e g q c l) (i := .aload_n 0) (len := 1) rfl hj rfl rfl rfl]
  rw [n_step (st' := [.ref 49, .ref 49]) (pc' := 2) (lv' := [(0, .ref 49)]) (hp' := rH e g q c l) (i := .aload_n 0) (len := 1) rfl hj rfl rfl rfl]
  rw [n_get (st' := [.int (g 24), .ref 49]) (pc' := 5) (lv' := [(0, .ref 49)]) (hp' := rH e g q c l) (i := .getfield 353) (len := 3) rfl hj rfl rfl rfl rfl]
  rw [n_step (st' := [.int (Int32.ofInt (1)), .int (g 24), .ref 49]) (pc' := 6) (lv' := [(0, .ref 49)]) (hp' := rH e g q c l) (i := .iconst 1) (len := 1) rfl hj rfl rfl rfl]
  rw [n_step (st' := [.int ((g 24) - (Int32.ofInt (1))), .ref 49]) (pc' := 7) (lv' := [(0, .ref 49)]) (hp' := rH e g q c l) (i := .isub) (len := 1) rfl hj rfl rfl rfl]
  rw [n_put (st' := []) (hp' := rH e (upd g 24 (((g 24) - (Int32.ofInt (1))))) q c l) rfl hj pf_24]
  exact n_ret rfl hj rfl rfl rfl
set_option maxRecDepth 100000 in
set_option maxHeartbeats 4000000 in
theorem bk_352_0 {b : Bool} {d : Nat} {x1 : Int32} {e : Nat → x_E} {g : Nat → Int32} {q : Nat → Int64} {c : Nat → Nat → Int32} {l : Nat → Nat → Int64} {g' : Nat → Int32} {q' : Nat → Int64} {c' : Nat → Nat → Int32} {l' : Nat → Nat → Int64} {v : Int32} {R : Option Value × List x_E} (hc : rr b e d 337 0 [(0, .ref 49)] [] g q c l (some (.int v), rH e g' q' c' l')) (h : rr b e (d + 1) 352 4 [(0, .ref 49), (1, .int x1)] [.int v] g' q' c' l' R) : rr b e (d + 1) 352 0 [(0, .ref 49), (1, .int x1)] [] g q c l R := by
  obtain ⟨f1, hc⟩ := hc
  obtain ⟨f2, h⟩ := h
  obtain ⟨f, hf1, hf2⟩ : ∃ f, f1 ≤ f ∧ f2 ≤ f := ⟨max f1 f2, Nat.le_max_left _ _, Nat.le_max_right _ _⟩
  have hc := nrun_fuel f1 f _ _ _ _ _ _ _ _ _ hf1 hc
  have h := nrun_fuel f2 f _ _ _ _ _ _ _ _ _ hf2 h
  refine ⟨f + 2, ?_⟩
  obtain ⟨y, cb, hj⟩ := mq_352
  rw [n_step (st' := [.ref 49]) (pc' := 1) (lv' := [(0, .ref 49), (1, .int x1)]) (hp' := rH e g q c l) (i := .aload_n 0) (len := 1) rfl hj rfl rfl rfl]
  obtain ⟨y2, cb2, hj2⟩ := mq_337
  rw [n_call (f := f) (d := d) (ki := 0) (idx := 337) (j' := 337) (kd := 0) (M' := (y2, cb2, 1, some .boolean, 12, 0, 0, 0)) (avs := [.ref 49]) (r := []) (rv := some (.int v)) (hp1 := rH e g' q' c' l') rfl hj rfl rfl rfl rfl (rq_n rfl rfl hj2 rfl rfl) rfl hc (Nat.le_of_ble_eq_true rfl)]
  exact h
set_option maxRecDepth 100000 in
set_option maxHeartbeats 4000000 in
theorem bk_352_4 {b : Bool} {d : Nat} {t0 x1 : Int32} {e : Nat → x_E} {g : Nat → Int32} {q : Nat → Int64} {c : Nat → Nat → Int32} {l : Nat → Nat → Int64} {R : Option Value × List x_E} (h1 : xCn .ne t0 0 = true → rr b e d 352 15 [] [] g q c l R) (h2 : ¬ xCn .ne t0 0 = true → rr b e d 352 7 [(0, .ref 49), (1, .int x1)] [] g q c l R) : rr b e d 352 4 [(0, .ref 49), (1, .int x1)] [.int t0] g q c l R := by
  have key : ∀ f, nrun xZ (xY (xfm b)) xDT (f + 1) d 352 4 [(0, .ref 49), (1, .int x1)] [.int t0] (rH e g q c l) 0 0 = nrun xZ (xY (xfm b)) xDT f d 352 (if xCn .ne t0 0 = true then 15 else 7) [(0, .ref 49), (1, .int x1)] [] (rH e g q c l) 0 0 := by
    intro f
    obtain ⟨y, cb, hj⟩ := mq_352
    rw [n_step (st' := []) (pc' := (if xCn .ne t0 0 = true then 15 else 7)) (lv' := [(0, .ref 49), (1, .int x1)]) (hp' := rH e g q c l) (i := .ifCond .ne 11) (len := 3) rfl hj rfl rfl rfl]
  by_cases hc : xCn .ne t0 0 = true
  · obtain ⟨f, h⟩ := h1 hc
    refine ⟨f + 1, ?_⟩
    rw [key, if_pos hc]
    exact nrun_ext f f _ _ R 352 15 [] [(0, .ref 49), (1, .int x1)] [] _ 0 0 122 (Nat.le_refl _) (Nat.le_refl _) (Nat.le_of_ble_eq_true rfl) (lvR_mk [] [0, 1] rfl rfl (by decide) (by decide) (fun _ h => nomatch h) (List.forall_mem_cons.mpr ⟨Or.inr rfl, (List.forall_mem_cons.mpr ⟨Or.inr rfl, (fun _ h => nomatch h)⟩)⟩)) h
  · obtain ⟨f, h⟩ := h2 hc
    refine ⟨f + 1, ?_⟩
    rw [key, if_neg hc]
    exact h
set_option maxRecDepth 100000 in
set_option maxHeartbeats 4000000 in
theorem bk_352_7 {b : Bool} {d : Nat} {x1 : Int32} {e : Nat → x_E} {g : Nat → Int32} {q : Nat → Int64} {c : Nat → Nat → Int32} {l : Nat → Nat → Int64} {g' : Nat → Int32} {q' : Nat → Int64} {c' : Nat → Nat → Int32} {l' : Nat → Nat → Int64} {v : Int32} {R : Option Value × List x_E} (hc : rr b e d 344 0 [(0, .ref 49), (1, .int x1)] [] g q c l (some (.int v), rH e g' q' c' l')) (h : rr b e (d + 1) 352 12 [(0, .ref 49)] [.int v] g' q' c' l' R) : rr b e (d + 1) 352 7 [(0, .ref 49), (1, .int x1)] [] g q c l R := by
  obtain ⟨f1, hc⟩ := hc
  obtain ⟨f2, h⟩ := h
  obtain ⟨f, hf1, hf2⟩ : ∃ f, f1 ≤ f ∧ f2 ≤ f := ⟨max f1 f2, Nat.le_max_left _ _, Nat.le_max_right _ _⟩
  have hc := nrun_fuel f1 f _ _ _ _ _ _ _ _ _ hf1 hc
  have h := nrun_fuel f2 f _ _ _ _ _ _ _ _ _ hf2 h
  refine ⟨f + 3, ?_⟩
  obtain ⟨y, cb, hj⟩ := mq_352
  rw [n_step (st' := [.ref 49]) (pc' := 8) (lv' := [(0, .ref 49), (1, .int x1)]) (hp' := rH e g q c l) (i := .aload_n 0) (len := 1) rfl hj rfl rfl rfl]
  rw [n_step (st' := [.int x1, .ref 49]) (pc' := 9) (lv' := [(0, .ref 49), (1, .int x1)]) (hp' := rH e g q c l) (i := .iload_n 1) (len := 1) rfl hj rfl rfl rfl]
  obtain ⟨y2, cb2, hj2⟩ := mq_344
  rw [n_call (f := f) (d := d) (ki := 0) (idx := 341) (j' := 344) (kd := 0) (M' := (y2, cb2, 2, some .boolean, 12, 1, 0, 0)) (avs := [.ref 49, .int x1]) (r := []) (rv := some (.int v)) (hp1 := rH e g' q' c' l') rfl hj rfl rfl rfl rfl (rq_n rfl rfl hj2 rfl rfl) rfl hc (Nat.le_of_ble_eq_true rfl)]
  exact nrun_ext f f _ _ R 352 12 [(0, .ref 49)] [(0, .ref 49), (1, .int x1)] [.int v] _ 0 0 122 (Nat.le_refl _) (Nat.le_refl _) (Nat.le_of_ble_eq_true rfl) (lvR_mk [0] [0, 1] rfl rfl (by decide) (by decide) (List.forall_mem_cons.mpr ⟨List.mem_cons_self, (fun _ h => nomatch h)⟩) (List.forall_mem_cons.mpr ⟨Or.inl List.mem_cons_self, (List.forall_mem_cons.mpr ⟨Or.inr rfl, (fun _ h => nomatch h)⟩)⟩)) h
set_option maxRecDepth 100000 in
set_option maxHeartbeats 4000000 in
theorem bk_352_12 {b : Bool} {d : Nat} {t0 : Int32} {e : Nat → x_E} {g : Nat → Int32} {q : Nat → Int64} {c : Nat → Nat → Int32} {l : Nat → Nat → Int64} {R : Option Value × List x_E} (h1 : xCn .ne t0 0 = true → rr b e d 352 17 [(0, .ref 49)] [] g q c l R) (h2 : ¬ xCn .ne t0 0 = true → rr b e d 352 15 [] [] g q c l R) : rr b e d 352 12 [(0, .ref 49)] [.int t0] g q c l R := by
  have key : ∀ f, nrun xZ (xY (xfm b)) xDT (f + 1) d 352 12 [(0, .ref 49)] [.int t0] (rH e g q c l) 0 0 = nrun xZ (xY (xfm b)) xDT f d 352 (if xCn .ne t0 0 = true then 17 else 15) [(0, .ref 49)] [] (rH e g q c l) 0 0 := by
    intro f
    obtain ⟨y, cb, hj⟩ := mq_352
    rw [n_step (st' := []) (pc' := (if xCn .ne t0 0 = true then 17 else 15)) (lv' := [(0, .ref 49)]) (hp' := rH e g q c l) (i := .ifCond .ne 5) (len := 3) rfl hj rfl rfl rfl]
  by_cases hc : xCn .ne t0 0 = true
  · obtain ⟨f, h⟩ := h1 hc
    refine ⟨f + 1, ?_⟩
    rw [key, if_pos hc]
    exact h
  · obtain ⟨f, h⟩ := h2 hc
    refine ⟨f + 1, ?_⟩
    rw [key, if_neg hc]
    exact nrun_ext f f _ _ R 352 15 [] [(0, .ref 49)] [] _ 0 0 122 (Nat.le_refl _) (Nat.le_refl _) (Nat.le_of_ble_eq_true rfl) (lvR_mk [] [0] rfl rfl (by decide) (by decide) (fun _ h => nomatch h) (List.forall_mem_cons.mpr ⟨Or.inr rfl, (fun _ h => nomatch h)⟩)) h
set_option maxRecDepth 100000 in
set_option maxHeartbeats 4000000 in
theorem bk_352_15 {b : Bool} {d : Nat} {e : Nat → x_E} {g : Nat → Int32} {q : Nat → Int64} {c : Nat → Nat → Int32} {l : Nat → Nat → Int64} : rr b e d 352 15 [] [] g q c l (some (.int (Int32.ofInt (0))), rH e g q c l) := by
  refine ⟨0 + 2, ?_⟩
  obtain ⟨y, cb, hj⟩ := mq_352
  rw [n_step (st' := [.int (Int32.ofInt (0))]) (pc' := 16) (lv' := []) (hp' := rH e g q c l) (i := .iconst 0) (len := 1) rfl hj rfl rfl rfl]
  exact n_ret rfl hj rfl rfl (x_ret rfl)
set_option maxRecDepth 100000 in
set_option maxHeartbeats 4000000 in
theorem bk_352_17 {b : Bool} {d : Nat} {e : Nat → x_E} {g : Nat → Int32} {q : Nat → Int64} {c : Nat → Nat → Int32} {l : Nat → Nat → Int64} {g' : Nat → Int32} {q' : Nat → Int64} {c' : Nat → Nat → Int32} {l' : Nat → Nat → Int64} {R : Option Value × List x_E} (hc : rr b e d 322 0 [(0, .ref 49)] [] g q c l (none, rH e g' q' c' l')) (h : rr b e (d + 1) 352 21 [] [] g' q' c' l' R) : rr b e (d + 1) 352 17 [(0, .ref 49)] [] g q c l R := by
  obtain ⟨f1, hc⟩ := hc
  obtain ⟨f2, h⟩ := h
  obtain ⟨f, hf1, hf2⟩ : ∃ f, f1 ≤ f ∧ f2 ≤ f := ⟨max f1 f2, Nat.le_max_left _ _, Nat.le_max_right _ _⟩
  have hc := nrun_fuel f1 f _ _ _ _ _ _ _ _ _ hf1 hc
  have h := nrun_fuel f2 f _ _ _ _ _ _ _ _ _ hf2 h
  refine ⟨f + 2, ?_⟩
  obtain ⟨y, cb, hj⟩ := mq_352
  rw [n_step (st' := [.ref 49]) (pc' := 18) (lv' := [(0, .ref 49)]) (hp' := rH e g q c l) (i := .aload_n 0) (len := 1) rfl hj rfl rfl rfl]
  obtain ⟨y2, cb2, hj2⟩ := mq_322
  rw [n_call (f := f) (d := d) (ki := 0) (idx := 344) (j' := 322) (kd := 0) (M' := (y2, cb2, 2, none, 12, 0, 0, 0)) (avs := [.ref 49]) (r := []) (rv := none) (hp1 := rH e g' q' c' l') rfl hj rfl rfl rfl rfl (rq_n rfl rfl hj2 rfl rfl) rfl hc (Nat.le_of_ble_eq_true rfl)]
  exact nrun_ext f f _ _ R 352 21 [] [(0, .ref 49)] [] _ 0 0 122 (Nat.le_refl _) (Nat.le_refl _) (Nat.le_of_ble_eq_true rfl) (lvR_mk [] [0] rfl rfl (by decide) (by decide) (fun _ h => nomatch h) (List.forall_mem_cons.mpr ⟨Or.inr rfl, (fun _ h => nomatch h)⟩)) h
set_option maxRecDepth 100000 in
set_option maxHeartbeats 4000000 in
theorem bk_352_21 {b : Bool} {d : Nat} {e : Nat → x_E} {g : Nat → Int32} {q : Nat → Int64} {c : Nat → Nat → Int32} {l : Nat → Nat → Int64} : rr b e d 352 21 [] [] g q c l (some (.int (Int32.ofInt (1))), rH e g q c l) := by
  refine ⟨0 + 2, ?_⟩
  obtain ⟨y, cb, hj⟩ := mq_352
  rw [n_step (st' := [.int (Int32.ofInt (1))]) (pc' := 22) (lv' := []) (hp' := rH e g q c l) (i := .iconst 1) (len := 1) rfl hj rfl rfl rfl]
  exact n_ret rfl hj rfl rfl (x_ret rfl)
set_option maxRecDepth 100000 in
set_option maxHeartbeats 4000000 in
theorem bk_353_0 {b : Bool} {d : Nat} {x1 : Int32} {e : Nat → x_E} {g : Nat → Int32} {q : Nat → Int64} {c : Nat → Nat → Int32} {l : Nat → Nat → Int64} {g' : Nat → Int32} {q' : Nat → Int64} {c' : Nat → Nat → Int32} {l' : Nat → Nat → Int64} {R : Option Value × List x_E} (hc : rr b e d 343 0 [(0, .ref 49), (1, .int x1)] [] (upd g 24 (((g 24) - (Int32.ofInt (1))))) q c l (none, rH e g' q' c' l')) (h : rr b e (d + 1) 353 15 [] [] g' q' c' l' R) : rr b e (d + 1) 353 0 [(0, .ref 49), (1, .int x1)] [] g q c l R := by
  obtain ⟨f1, hc⟩ := hc
  obtain ⟨f2, h⟩ := h
  obtain ⟨f, hf1, hf2⟩ : ∃ f, f1 ≤ f ∧ f2 ≤ f := ⟨max f1 f2, Nat.le_max_left _ _, Nat.le_max_right _ _⟩
  have hc := nrun_fuel f1 f _ _ _ _ _ _ _ _ _ hf1 hc
  have h := nrun_fuel f2 f _ _ _ _ _ _ _ _ _ hf2 h
  refine ⟨f + 9, ?_⟩
  obtain ⟨y, cb, hj⟩ := mq_353
  rw [n_step (st' := [.ref 49]) (pc' := 1) (lv' := [(0, .ref 49), (1, .int x1)]) (hp' := rH e g q c l) (i := .aload_n 0) (len := 1) rfl hj rfl rfl rfl]
  rw [n_step (st' := [.ref 49, .ref 49]) (pc' := 2) (lv' := [(0, .ref 49), (1, .int x1)]) (hp' := rH e g q c l) (i := .aload_n 0) (len := 1) rfl hj rfl rfl rfl]
  rw [n_get (st' := [.int (g 24), .ref 49]) (pc' := 5) (lv' := [(0, .ref 49), (1, .int x1)]) (hp' := rH e g q c l) (i := .getfield 353) (len := 3) rfl hj rfl rfl rfl rfl]
  rw [n_step (st' := [.int (Int32.ofInt (1)), .int (g 24), .ref 49]) (pc' := 6) (lv' := [(0, .ref 49), (1, .int x1)]) (hp' := rH e g q c l) (i := .iconst 1) (len := 1) rfl hj rfl rfl rfl]
  rw [n_step (st' := [.int ((g 24) - (Int32.ofInt (1))), .ref 49]) (pc' := 7) (lv' := [(0, .ref 49), (1, .int x1)]) (hp' := rH e g q c l) (i := .isub) (len := 1) rfl hj rfl rfl rfl]
  rw [n_put (st' := []) (hp' := rH e (upd g 24 (((g 24) - (Int32.ofInt (1))))) q c l) rfl hj pf_24]
  rw [n_step (st' := [.ref 49]) (pc' := 11) (lv' := [(0, .ref 49), (1, .int x1)]) (hp' := rH e (upd g 24 (((g 24) - (Int32.ofInt (1))))) q c l) (i := .aload_n 0) (len := 1) rfl hj rfl rfl rfl]
  rw [n_step (st' := [.int x1, .ref 49]) (pc' := 12) (lv' := [(0, .ref 49), (1, .int x1)]) (hp' := rH e (upd g 24 (((g 24) - (Int32.ofInt (1))))) q c l) (i := .iload_n 1) (len := 1) rfl hj rfl rfl rfl]
  obtain ⟨y2, cb2, hj2⟩ := mq_343
  rw [n_call (f := f) (d := d) (ki := 0) (idx := 359) (j' := 343) (kd := 0) (M' := (y2, cb2, 2, none, 12, 1, 0, 0)) (avs := [.ref 49, .int x1]) (r := []) (rv := none) (hp1 := rH e g' q' c' l') rfl hj rfl rfl rfl rfl (rq_n rfl rfl hj2 rfl rfl) rfl hc (Nat.le_of_ble_eq_true rfl)]
  exact nrun_ext f f _ _ R 353 15 [] [(0, .ref 49), (1, .int x1)] [] _ 0 0 122 (Nat.le_refl _) (Nat.le_refl _) (Nat.le_of_ble_eq_true rfl) (lvR_mk [] [0, 1] rfl rfl (by decide) (by decide) (fun _ h => nomatch h) (List.forall_mem_cons.mpr ⟨Or.inr rfl, (List.forall_mem_cons.mpr ⟨Or.inr rfl, (fun _ h => nomatch h)⟩)⟩)) h
set_option maxRecDepth 100000 in
set_option maxHeartbeats 4000000 in
theorem bk_353_15 {b : Bool} {d : Nat} {e : Nat → x_E} {g : Nat → Int32} {q : Nat → Int64} {c : Nat → Nat → Int32} {l : Nat → Nat → Int64} : rr b e d 353 15 [] [] g q c l (none, rH e g q c l) := by
  refine ⟨0 + 1, ?_⟩
  obtain ⟨y, cb, hj⟩ := mq_353
  exact n_ret rfl hj rfl rfl rfl
set_option maxRecDepth 100000 in
set_option maxHeartbeats 4000000 in
theorem bk_354_0 {b : Bool} {d : Nat} {x1 : Int32} {e : Nat → x_E} {g : Nat → Int32} {q : Nat → Int64} {c : Nat → Nat → Int32} {l : Nat → Nat → Int64} {g' : Nat → Int32} {q' : Nat → Int64} {c' : Nat → Nat → Int32} {l' : Nat → Nat → Int64} {v : Int32} {R : Option Value × List x_E} (hc : rr b e d 355 0 [(0, .ref 49), (1, .int (Int32.ofInt (2))), (2, .int (Int32.ofInt (0)))] [] g q c l (some (.int v), rH e g' q' c' l')) (h : rr b e (d + 1) 354 6 [(0, .ref 49), (1, .int x1)] [.int v] g' q' c' l' R) : rr b e (d + 1) 354 0 [(0, .ref 49), (1, .int x1)] [] g q c l R := by
  obtain ⟨f1, hc⟩ := hc
  obtain ⟨f2, h⟩ := h
  obtain ⟨f, hf1, hf2⟩ : ∃ f, f1 ≤ f ∧ f2 ≤ f := ⟨max f1 f2, Nat.le_max_left _ _, Nat.le_max_right _ _⟩
  have hc := nrun_fuel f1 f _ _ _ _ _ _ _ _ _ hf1 hc
  have h := nrun_fuel f2 f _ _ _ _ _ _ _ _ _ hf2 h
  refine ⟨f + 4, ?_⟩
  obtain ⟨y, cb, hj⟩ := mq_354
  rw [n_step (st' := [.ref 49]) (pc' := 1) (lv' := [(0, .ref 49), (1, .int x1)]) (hp' := rH e g q c l) (i := .aload_n 0) (len := 1) rfl hj rfl rfl rfl]
  rw [n_step (st' := [.int (Int32.ofInt (2)), .ref 49]) (pc' := 2) (lv' := [(0, .ref 49), (1, .int x1)]) (hp' := rH e g q c l) (i := .iconst 2) (len := 1) rfl hj rfl rfl rfl]
  rw [n_step (st' := [.int (Int32.ofInt (0)), .int (Int32.ofInt (2)), .ref 49]) (pc' := 3) (lv' := [(0, .ref 49), (1, .int x1)]) (hp' := rH e g q c l) (i := .iconst 0) (len := 1) rfl hj rfl rfl rfl]
  obtain ⟨y2, cb2, hj2⟩ := mq_355
  rw [n_call (f := f) (d := d) (ki := 0) (idx := 496) (j' := 355) (kd := 0) (M' := (y2, cb2, 3, some .int, 12, 2, 0, 0)) (avs := [.ref 49, .int (Int32.ofInt (2)), .int (Int32.ofInt (0))]) (r := []) (rv := some (.int v)) (hp1 := rH e g' q' c' l') rfl hj rfl rfl rfl rfl (rq_n rfl rfl hj2 rfl rfl) rfl hc (Nat.le_of_ble_eq_true rfl)]
  exact h
set_option maxRecDepth 100000 in
set_option maxHeartbeats 4000000 in
theorem bk_354_6 {b : Bool} {d : Nat} {t0 x1 : Int32} {e : Nat → x_E} {g : Nat → Int32} {q : Nat → Int64} {c : Nat → Nat → Int32} {l : Nat → Nat → Int64} (hz0 : ¬ ((g 49) < 0 ∨ 900 ≤ ((g 49)).toNatClampNeg)) (hz1 : ¬ ((g 49) < 0 ∨ 900 ≤ ((g 49)).toNatClampNeg)) (hz2 : ¬ ((g 49) < 0 ∨ 900 ≤ ((g 49)).toNatClampNeg)) (hz3 : ¬ (t0 < 0 ∨ 4000 ≤ (t0).toNatClampNeg)) (hz4 : ¬ (t0 < 0 ∨ 4000 ≤ (t0).toNatClampNeg)) : rr b e d 354 6 [(0, .ref 49), (1, .int x1)] [.int t0] g q c l (some (.int t0), rH e (upd (upd g 49 (((g 49) + (Int32.ofInt (1))))) 55 ((g 49))) q (updA (updA (updA (updA c 67 (upd (c 67) ((g 49)).toNatClampNeg x1)) 68 (upd ((updA c 67 (upd (c 67) ((g 49)).toNatClampNeg x1)) 68) ((g 49)).toNatClampNeg (((upd g 49 (((g 49) + (Int32.ofInt (1))))) 43)))) 69 (upd ((updA (updA c 67 (upd (c 67) ((g 49)).toNatClampNeg x1)) 68 (upd ((updA c 67 (upd (c 67) ((g 49)).toNatClampNeg x1)) 68) ((g 49)).toNatClampNeg (((upd g 49 (((g 49) + (Int32.ofInt (1))))) 43)))) 69) ((g 49)).toNatClampNeg (((upd g 49 (((g 49) + (Int32.ofInt (1))))) 56)))) 64 (upd ((updA (updA (updA c 67 (upd (c 67) ((g 49)).toNatClampNeg x1)) 68 (upd ((updA c 67 (upd (c 67) ((g 49)).toNatClampNeg x1)) 68) ((g 49)).toNatClampNeg (((upd g 49 (((g 49) + (Int32.ofInt (1))))) 43)))) 69 (upd ((updA (updA c 67 (upd (c 67) ((g 49)).toNatClampNeg x1)) 68 (upd ((updA c 67 (upd (c 67) ((g 49)).toNatClampNeg x1)) 68) ((g 49)).toNatClampNeg (((upd g 49 (((g 49) + (Int32.ofInt (1))))) 43)))) 69) ((g 49)).toNatClampNeg (((upd g 49 (((g 49) + (Int32.ofInt (1))))) 56)))) 64) (t0).toNatClampNeg (((upd g 49 (((g 49) + (Int32.ofInt (1))))) 55)))) (updB l 66 (vp_updL (l 66) (t0).toNatClampNeg ((Int32.toInt64 ((g 49))))))) := by
  refine ⟨0 + 44, ?_⟩
  obtain ⟨y, cb, hj⟩ := mq_354
  rw [n_step (st' := []) (pc' := 7) (lv' := [(2, .int t0), (0, .ref 49), (1, .int x1)]) (hp' := rH e g q c l) (i := .istore_n 2) (len := 1) rfl hj rfl rfl rfl]
  rw [n_step (st' := [.ref 49]) (pc' := 8) (lv' := [(2, .int t0), (0, .ref 49), (1, .int x1)]) (hp' := rH e g q c l) (i := .aload_n 0) (len := 1) rfl hj rfl rfl rfl]
  rw [n_get (st' := [.int (g 49)]) (pc' := 11) (lv' := [(2, .int t0), (0, .ref 49), (1, .int x1)]) (hp' := rH e g q c l) (i := .getfield 551) (len := 3) rfl hj rfl rfl rfl rfl]
  rw [n_step (st' := []) (pc' := 12) (lv' := [(3, .int (g 49)), (2, .int t0), (0, .ref 49), (1, .int x1)]) (hp' := rH e g q c l) (i := .istore_n 3) (len := 1) rfl hj rfl rfl rfl]
  rw [n_step (st' := [.ref 49]) (pc' := 13) (lv' := [(3, .int (g 49)), (2, .int t0), (0, .ref 49), (1, .int x1)]) (hp' := rH e g q c l) (i := .aload_n 0) (len := 1) rfl hj rfl rfl rfl]
  rw [n_step (st' := [.ref 49, .ref 49]) (pc' := 14) (lv' := [(3, .int (g 49)), (2, .int t0), (0, .ref 49), (1, .int x1)]) (hp' := rH e g q c l) (i := .aload_n 0) (len := 1) rfl hj rfl rfl rfl]
  rw [n_get (st' := [.int (g 49), .ref 49]) (pc' := 17) (lv' := [(3, .int (g 49)), (2, .int t0), (0, .ref 49), (1, .int x1)]) (hp' := rH e g q c l) (i := .getfield 551) (len := 3) rfl hj rfl rfl rfl rfl]
  rw [n_step (st' := [.int (Int32.ofInt (1)), .int (g 49), .ref 49]) (pc' := 18) (lv' := [(3, .int (g 49)), (2, .int t0), (0, .ref 49), (1, .int x1)]) (hp' := rH e g q c l) (i := .iconst 1) (len := 1) rfl hj rfl rfl rfl]
  rw [n_step (st' := [.int ((g 49) + (Int32.ofInt (1))), .ref 49]) (pc' := 19) (lv' := [(3, .int (g 49)), (2, .int t0), (0, .ref 49), (1, .int x1)]) (hp' := rH e g q c l) (i := .iadd) (len := 1) rfl hj rfl rfl rfl]
  rw [n_put (st' := []) (hp' := rH e (upd g 49 (((g 49) + (Int32.ofInt (1))))) q c l) rfl hj pf_49]
  rw [n_step (st' := [.ref 49]) (pc' := 23) (lv' := [(3, .int (g 49)), (2, .int t0), (0, .ref 49), (1, .int x1)]) (hp' := rH e (upd g 49 (((g 49) + (Int32.ofInt (1))))) q c l) (i := .aload_n 0) (len := 1) rfl hj rfl rfl rfl]
  rw [n_get (st' := [.ref 67]) (pc' := 26) (lv' := [(3, .int (g 49)), (2, .int t0), (0, .ref 49), (1, .int x1)]) (hp' := rH e (upd g 49 (((g 49) + (Int32.ofInt (1))))) q c l) (i := .getfield 68) (len := 3) rfl hj rfl rfl rfl rfl]
  rw [n_step (st' := [.int (g 49), .ref 67]) (pc' := 27) (lv' := [(3, .int (g 49)), (2, .int t0), (0, .ref 49), (1, .int x1)]) (hp' := rH e (upd g 49 (((g 49) + (Int32.ofInt (1))))) q c l) (i := .iload_n 3) (len := 1) rfl hj rfl rfl rfl]
  rw [n_step (st' := [.int x1, .int (g 49), .ref 67]) (pc' := 28) (lv' := [(3, .int (g 49)), (2, .int t0), (0, .ref 49), (1, .int x1)]) (hp' := rH e (upd g 49 (((g 49) + (Int32.ofInt (1))))) q c l) (i := .iload_n 1) (len := 1) rfl hj rfl rfl rfl]
  rw [n_ias (st' := []) (hp' := rH e (upd g 49 (((g 49) + (Int32.ofInt (1))))) q (updA c 67 (upd (c 67) ((g 49)).toNatClampNeg x1)) l) rfl hj (ast_67 hz0)]
  rw [n_step (st' := [.ref 49]) (pc' := 30) (lv' := [(3, .int (g 49)), (2, .int t0), (0, .ref 49), (1, .int x1)]) (hp' := rH e (upd g 49 (((g 49) + (Int32.ofInt (1))))) q (updA c 67 (upd (c 67) ((g 49)).toNatClampNeg x1)) l) (i := .aload_n 0) (len := 1) rfl hj rfl rfl rfl]
  rw [n_get (st' := [.ref 68]) (pc' := 33) (lv' := [(3, .int (g 49)), (2, .int t0), (0, .ref 49), (1, .int x1)]) (hp' := rH e (upd g 49 (((g 49) + (Int32.ofInt (1))))) q (updA c 67 (upd (c 67) ((g 49)).toNatClampNeg x1)) l) (i := .getfield 71) (len := 3) rfl hj rfl rfl rfl rfl]
  rw [n_step (st' := [.int (g 49), .ref 68]) (pc' := 34) (lv' := [(3, .int (g 49)), (2, .int t0), (0, .ref 49), (1, .int x1)]) (hp' := rH e (upd g 49 (((g 49) + (Int32.ofInt (1))))) q (updA c 67 (upd (c 67) ((g 49)).toNatClampNeg x1)) l) (i := .iload_n 3) (len := 1) rfl hj rfl rfl rfl]
  rw [n_step (st' := [.ref 49, .int (g 49), .ref 68]) (pc' := 35) (lv' := [(3, .int (g 49)), (2, .int t0), (0, .ref 49), (1, .int x1)]) (hp' := rH e (upd g 49 (((g 49) + (Int32.ofInt (1))))) q (updA c 67 (upd (c 67) ((g 49)).toNatClampNeg x1)) l) (i := .aload_n 0) (len := 1) rfl hj rfl rfl rfl]
  rw [n_get (st' := [.int ((upd g 49 (((g 49) + (Int32.ofInt (1))))) 43), .int (g 49), .ref 68]) (pc' := 38) (lv' := [(3, .int (g 49)), (2, .int t0), (0, .ref 49), (1, .int x1)]) (hp' := rH e (upd g 49 (((g 49) + (Int32.ofInt (1))))) q (updA c 67 (upd (c 67) ((g 49)).toNatClampNeg x1)) l) (i := .getfield 430) (len := 3) rfl hj rfl rfl rfl rfl]
  rw [n_ias (st' := []) (hp' := rH e (upd g 49 (((g 49) + (Int32.ofInt (1))))) q (updA (updA c 67 (upd (c 67) ((g 49)).toNatClampNeg x1)) 68 (upd ((updA c 67 (upd (c 67) ((g 49)).toNatClampNeg x1)) 68) ((g 49)).toNatClampNeg (((upd g 49 (((g 49) + (Int32.ofInt (1))))) 43)))) l) rfl hj (ast_68 hz1)]
  rw [n_step (st' := [.ref 49]) (pc' := 40) (lv' := [(3, .int (g 49)), (2, .int t0), (0, .ref 49), (1, .int x1)]) (hp' := rH e (upd g 49 (((g 49) + (Int32.ofInt (1))))) q (updA (updA c 67 (upd (c 67) ((g 49)).toNatClampNeg x1)) 68 (upd ((updA c 67 (upd (c 67) ((g 49)).toNatClampNeg x1)) 68) ((g 49)).toNatClampNeg (((upd g 49 (((g 49) + (Int32.ofInt (1))))) 43)))) l) (i := .aload_n 0) (len := 1) rfl hj rfl rfl rfl]
  rw [n_get (st' := [.ref 69]) (pc' := 43) (lv' := [(3, .int (g 49)), (2, .int t0), (0, .ref 49), (1, .int x1)]) (hp' := rH e (upd g 49 (((g 49) + (Int32.ofInt (1))))) q (updA (updA c 67 (upd (c 67) ((g 49)).toNatClampNeg x1)) 68 (upd ((updA c 67 (upd (c 67) ((g 49)).toNatClampNeg x1)) 68) ((g 49)).toNatClampNeg (((upd g 49 (((g 49) + (Int32.ofInt (1))))) 43)))) l) (i := .getfield 74) (len := 3) rfl hj rfl rfl rfl rfl]
  rw [n_step (st' := [.int (g 49), .ref 69]) (pc' := 44) (lv' := [(3, .int (g 49)), (2, .int t0), (0, .ref 49), (1, .int x1)]) (hp' := rH e (upd g 49 (((g 49) + (Int32.ofInt (1))))) q (updA (updA c 67 (upd (c 67) ((g 49)).toNatClampNeg x1)) 68 (upd ((updA c 67 (upd (c 67) ((g 49)).toNatClampNeg x1)) 68) ((g 49)).toNatClampNeg (((upd g 49 (((g 49) + (Int32.ofInt (1))))) 43)))) l) (i := .iload_n 3) (len := 1) rfl hj rfl rfl rfl]
  rw [n_step (st' := [.ref 49, .int (g 49), .ref 69]) (pc' := 45) (lv' := [(3, .int (g 49)), (2, .int t0), (0, .ref 49), (1, .int x1)]) (hp' := rH e (upd g 49 (((g 49) + (Int32.ofInt (1))))) q (updA (updA c 67 (upd (c 67) ((g 49)).toNatClampNeg x1)) 68 (upd ((updA c 67 (upd (c 67) ((g 49)).toNatClampNeg x1)) 68) ((g 49)).toNatClampNeg (((upd g 49 (((g 49) + (Int32.ofInt (1))))) 43)))) l) (i := .aload_n 0) (len := 1) rfl hj rfl rfl rfl]
  rw [n_get (st' := [.int ((upd g 49 (((g 49) + (Int32.ofInt (1))))) 56), .int (g 49), .ref 69]) (pc' := 48) (lv' := [(3, .int (g 49)), (2, .int t0), (0, .ref 49), (1, .int x1)]) (hp' := rH e (upd g 49 (((g 49) + (Int32.ofInt (1))))) q (updA (updA c 67 (upd (c 67) ((g 49)).toNatClampNeg x1)) 68 (upd ((updA c 67 (upd (c 67) ((g 49)).toNatClampNeg x1)) 68) ((g 49)).toNatClampNeg (((upd g 49 (((g 49) + (Int32.ofInt (1))))) 43)))) l) (i := .getfield 436) (len := 3) rfl hj rfl rfl rfl rfl]
  rw [n_ias (st' := []) (hp' := rH e (upd g 49 (((g 49) + (Int32.ofInt (1))))) q (updA (updA (updA c 67 (upd (c 67) ((g 49)).toNatClampNeg x1)) 68 (upd ((updA c 67 (upd (c 67) ((g 49)).toNatClampNeg x1)) 68) ((g 49)).toNatClampNeg (((upd g 49 (((g 49) + (Int32.ofInt (1))))) 43)))) 69 (upd ((updA (updA c 67 (upd (c 67) ((g 49)).toNatClampNeg x1)) 68 (upd ((updA c 67 (upd (c 67) ((g 49)).toNatClampNeg x1)) 68) ((g 49)).toNatClampNeg (((upd g 49 (((g 49) + (Int32.ofInt (1))))) 43)))) 69) ((g 49)).toNatClampNeg (((upd g 49 (((g 49) + (Int32.ofInt (1))))) 56)))) l) rfl hj (ast_69 hz2)]
  rw [n_step (st' := [.ref 49]) (pc' := 50) (lv' := [(3, .int (g 49)), (2, .int t0), (0, .ref 49), (1, .int x1)]) (hp' := rH e (upd g 49 (((g 49) + (Int32.ofInt (1))))) q (updA (updA (updA c 67 (upd (c 67) ((g 49)).toNatClampNeg x1)) 68 (upd ((updA c 67 (upd (c 67) ((g 49)).toNatClampNeg x1)) 68) ((g 49)).toNatClampNeg (((upd g 49 (((g 49) + (Int32.ofInt (1))))) 43)))) 69 (upd ((updA (updA c 67 (upd (c 67) ((g 49)).toNatClampNeg x1)) 68 (upd ((updA c 67 (upd (c 67) ((g 49)).toNatClampNeg x1)) 68) ((g 49)).toNatClampNeg (((upd g 49 (((g 49) + (Int32.ofInt (1))))) 43)))) 69) ((g 49)).toNatClampNeg (((upd g 49 (((g 49) + (Int32.ofInt (1))))) 56)))) l) (i := .aload_n 0) (len := 1) rfl hj rfl rfl rfl]
  rw [n_get (st' := [.ref 64]) (pc' := 53) (lv' := [(3, .int (g 49)), (2, .int t0), (0, .ref 49), (1, .int x1)]) (hp' := rH e (upd g 49 (((g 49) + (Int32.ofInt (1))))) q (updA (updA (updA c 67 (upd (c 67) ((g 49)).toNatClampNeg x1)) 68 (upd ((updA c 67 (upd (c 67) ((g 49)).toNatClampNeg x1)) 68) ((g 49)).toNatClampNeg (((upd g 49 (((g 49) + (Int32.ofInt (1))))) 43)))) 69 (upd ((updA (updA c 67 (upd (c 67) ((g 49)).toNatClampNeg x1)) 68 (upd ((updA c 67 (upd (c 67) ((g 49)).toNatClampNeg x1)) 68) ((g 49)).toNatClampNeg (((upd g 49 (((g 49) + (Int32.ofInt (1))))) 43)))) 69) ((g 49)).toNatClampNeg (((upd g 49 (((g 49) + (Int32.ofInt (1))))) 56)))) l) (i := .getfield 59) (len := 3) rfl hj rfl rfl rfl rfl]
  rw [n_step (st' := [.int t0, .ref 64]) (pc' := 54) (lv' := [(3, .int (g 49)), (2, .int t0), (0, .ref 49), (1, .int x1)]) (hp' := rH e (upd g 49 (((g 49) + (Int32.ofInt (1))))) q (updA (updA (updA c 67 (upd (c 67) ((g 49)).toNatClampNeg x1)) 68 (upd ((updA c 67 (upd (c 67) ((g 49)).toNatClampNeg x1)) 68) ((g 49)).toNatClampNeg (((upd g 49 (((g 49) + (Int32.ofInt (1))))) 43)))) 69 (upd ((updA (updA c 67 (upd (c 67) ((g 49)).toNatClampNeg x1)) 68 (upd ((updA c 67 (upd (c 67) ((g 49)).toNatClampNeg x1)) 68) ((g 49)).toNatClampNeg (((upd g 49 (((g 49) + (Int32.ofInt (1))))) 43)))) 69) ((g 49)).toNatClampNeg (((upd g 49 (((g 49) + (Int32.ofInt (1))))) 56)))) l) (i := .iload_n 2) (len := 1) rfl hj rfl rfl rfl]
  rw [n_step (st' := [.ref 49, .int t0, .ref 64]) (pc' := 55) (lv' := [(3, .int (g 49)), (2, .int t0), (0, .ref 49), (1, .int x1)]) (hp' := rH e (upd g 49 (((g 49) + (Int32.ofInt (1))))) q (updA (updA (updA c 67 (upd (c 67) ((g 49)).toNatClampNeg x1)) 68 (upd ((updA c 67 (upd (c 67) ((g 49)).toNatClampNeg x1)) 68) ((g 49)).toNatClampNeg (((upd g 49 (((g 49) + (Int32.ofInt (1))))) 43)))) 69 (upd ((updA (updA c 67 (upd (c 67) ((g 49)).toNatClampNeg x1)) 68 (upd ((updA c 67 (upd (c 67) ((g 49)).toNatClampNeg x1)) 68) ((g 49)).toNatClampNeg (((upd g 49 (((g 49) + (Int32.ofInt (1))))) 43)))) 69) ((g 49)).toNatClampNeg (((upd g 49 (((g 49) + (Int32.ofInt (1))))) 56)))) l) (i := .aload_n 0) (len := 1) rfl hj rfl rfl rfl]
  rw [n_get (st' := [.int ((upd g 49 (((g 49) + (Int32.ofInt (1))))) 55), .int t0, .ref 64]) (pc' := 58) (lv' := [(3, .int (g 49)), (2, .int t0), (0, .ref 49), (1, .int x1)]) (hp' := rH e (upd g 49 (((g 49) + (Int32.ofInt (1))))) q (updA (updA (updA c 67 (upd (c 67) ((g 49)).toNatClampNeg x1)) 68 (upd ((updA c 67 (upd (c 67) ((g 49)).toNatClampNeg x1)) 68) ((g 49)).toNatClampNeg (((upd g 49 (((g 49) + (Int32.ofInt (1))))) 43)))) 69 (upd ((updA (updA c 67 (upd (c 67) ((g 49)).toNatClampNeg x1)) 68 (upd ((updA c 67 (upd (c 67) ((g 49)).toNatClampNeg x1)) 68) ((g 49)).toNatClampNeg (((upd g 49 (((g 49) + (Int32.ofInt (1))))) 43)))) 69) ((g 49)).toNatClampNeg (((upd g 49 (((g 49) + (Int32.ofInt (1))))) 56)))) l) (i := .getfield 433) (len := 3) rfl hj rfl rfl rfl rfl]
  rw [n_ias (st' := []) (hp' := rH e (upd g 49 (((g 49) + (Int32.ofInt (1))))) q (updA (updA (updA (updA c 67 (upd (c 67) ((g 49)).toNatClampNeg x1)) 68 (upd ((updA c 67 (upd (c 67) ((g 49)).toNatClampNeg x1)) 68) ((g 49)).toNatClampNeg (((upd g 49 (((g 49) + (Int32.ofInt (1))))) 43)))) 69 (upd ((updA (updA c 67 (upd (c 67) ((g 49)).toNatClampNeg x1)) 68 (upd ((updA c 67 (upd (c 67) ((g 49)).toNatClampNeg x1)) 68) ((g 49)).toNatClampNeg (((upd g 49 (((g 49) + (Int32.ofInt (1))))) 43)))) 69) ((g 49)).toNatClampNeg (((upd g 49 (((g 49) + (Int32.ofInt (1))))) 56)))) 64 (upd ((updA (updA (updA c 67 (upd (c 67) ((g 49)).toNatClampNeg x1)) 68 (upd ((updA c 67 (upd (c 67) ((g 49)).toNatClampNeg x1)) 68) ((g 49)).toNatClampNeg (((upd g 49 (((g 49) + (Int32.ofInt (1))))) 43)))) 69 (upd ((updA (updA c 67 (upd (c 67) ((g 49)).toNatClampNeg x1)) 68 (upd ((updA c 67 (upd (c 67) ((g 49)).toNatClampNeg x1)) 68) ((g 49)).toNatClampNeg (((upd g 49 (((g 49) + (Int32.ofInt (1))))) 43)))) 69) ((g 49)).toNatClampNeg (((upd g 49 (((g 49) + (Int32.ofInt (1))))) 56)))) 64) (t0).toNatClampNeg (((upd g 49 (((g 49) + (Int32.ofInt (1))))) 55)))) l) rfl hj (ast_64 hz3)]
  rw [n_step (st' := [.ref 49]) (pc' := 60) (lv' := [(3, .int (g 49)), (2, .int t0), (0, .ref 49), (1, .int x1)]) (hp' := rH e (upd g 49 (((g 49) + (Int32.ofInt (1))))) q (updA (updA (updA (updA c 67 (upd (c 67) ((g 49)).toNatClampNeg x1)) 68 (upd ((updA c 67 (upd (c 67) ((g 49)).toNatClampNeg x1)) 68) ((g 49)).toNatClampNeg (((upd g 49 (((g 49) + (Int32.ofInt (1))))) 43)))) 69 (upd ((updA (updA c 67 (upd (c 67) ((g 49)).toNatClampNeg x1)) 68 (upd ((updA c 67 (upd (c 67) ((g 49)).toNatClampNeg x1)) 68) ((g 49)).toNatClampNeg (((upd g 49 (((g 49) + (Int32.ofInt (1))))) 43)))) 69) ((g 49)).toNatClampNeg (((upd g 49 (((g 49) + (Int32.ofInt (1))))) 56)))) 64 (upd ((updA (updA (updA c 67 (upd (c 67) ((g 49)).toNatClampNeg x1)) 68 (upd ((updA c 67 (upd (c 67) ((g 49)).toNatClampNeg x1)) 68) ((g 49)).toNatClampNeg (((upd g 49 (((g 49) + (Int32.ofInt (1))))) 43)))) 69 (upd ((updA (updA c 67 (upd (c 67) ((g 49)).toNatClampNeg x1)) 68 (upd ((updA c 67 (upd (c 67) ((g 49)).toNatClampNeg x1)) 68) ((g 49)).toNatClampNeg (((upd g 49 (((g 49) + (Int32.ofInt (1))))) 43)))) 69) ((g 49)).toNatClampNeg (((upd g 49 (((g 49) + (Int32.ofInt (1))))) 56)))) 64) (t0).toNatClampNeg (((upd g 49 (((g 49) + (Int32.ofInt (1))))) 55)))) l) (i := .aload_n 0) (len := 1) rfl hj rfl rfl rfl]
  rw [n_get (st' := [.ref 66]) (pc' := 63) (lv' := [(3, .int (g 49)), (2, .int t0), (0, .ref 49), (1, .int x1)]) (hp' := rH e (upd g 49 (((g 49) + (Int32.ofInt (1))))) q (updA (updA (updA (updA c 67 (upd (c 67) ((g 49)).toNatClampNeg x1)) 68 (upd ((updA c 67 (upd (c 67) ((g 49)).toNatClampNeg x1)) 68) ((g 49)).toNatClampNeg (((upd g 49 (((g 49) + (Int32.ofInt (1))))) 43)))) 69 (upd ((updA (updA c 67 (upd (c 67) ((g 49)).toNatClampNeg x1)) 68 (upd ((updA c 67 (upd (c 67) ((g 49)).toNatClampNeg x1)) 68) ((g 49)).toNatClampNeg (((upd g 49 (((g 49) + (Int32.ofInt (1))))) 43)))) 69) ((g 49)).toNatClampNeg (((upd g 49 (((g 49) + (Int32.ofInt (1))))) 56)))) 64 (upd ((updA (updA (updA c 67 (upd (c 67) ((g 49)).toNatClampNeg x1)) 68 (upd ((updA c 67 (upd (c 67) ((g 49)).toNatClampNeg x1)) 68) ((g 49)).toNatClampNeg (((upd g 49 (((g 49) + (Int32.ofInt (1))))) 43)))) 69 (upd ((updA (updA c 67 (upd (c 67) ((g 49)).toNatClampNeg x1)) 68 (upd ((updA c 67 (upd (c 67) ((g 49)).toNatClampNeg x1)) 68) ((g 49)).toNatClampNeg (((upd g 49 (((g 49) + (Int32.ofInt (1))))) 43)))) 69) ((g 49)).toNatClampNeg (((upd g 49 (((g 49) + (Int32.ofInt (1))))) 56)))) 64) (t0).toNatClampNeg (((upd g 49 (((g 49) + (Int32.ofInt (1))))) 55)))) l) (i := .getfield 65) (len := 3) rfl hj rfl rfl rfl rfl]
  rw [n_step (st' := [.int t0, .ref 66]) (pc' := 64) (lv' := [(3, .int (g 49)), (2, .int t0), (0, .ref 49), (1, .int x1)]) (hp' := rH e (upd g 49 (((g 49) + (Int32.ofInt (1))))) q (updA (updA (updA (updA c 67 (upd (c 67) ((g 49)).toNatClampNeg x1)) 68 (upd ((updA c 67 (upd (c 67) ((g 49)).toNatClampNeg x1)) 68) ((g 49)).toNatClampNeg (((upd g 49 (((g 49) + (Int32.ofInt (1))))) 43)))) 69 (upd ((updA (updA c 67 (upd (c 67) ((g 49)).toNatClampNeg x1)) 68 (upd ((updA c 67 (upd (c 67) ((g 49)).toNatClampNeg x1)) 68) ((g 49)).toNatClampNeg (((upd g 49 (((g 49) + (Int32.ofInt (1))))) 43)))) 69) ((g 49)).toNatClampNeg (((upd g 49 (((g 49) + (Int32.ofInt (1))))) 56)))) 64 (upd ((updA (updA (updA c 67 (upd (c 67) ((g 49)).toNatClampNeg x1)) 68 (upd ((updA c 67 (upd (c 67) ((g 49)).toNatClampNeg x1)) 68) ((g 49)).toNatClampNeg (((upd g 49 (((g 49) + (Int32.ofInt (1))))) 43)))) 69 (upd ((updA (updA c 67 (upd (c 67) ((g 49)).toNatClampNeg x1)) 68 (upd ((updA c 67 (upd (c 67) ((g 49)).toNatClampNeg x1)) 68) ((g 49)).toNatClampNeg (((upd g 49 (((g 49) + (Int32.ofInt (1))))) 43)))) 69) ((g 49)).toNatClampNeg (((upd g 49 (((g 49) + (Int32.ofInt (1))))) 56)))) 64) (t0).toNatClampNeg (((upd g 49 (((g 49) + (Int32.ofInt (1))))) 55)))) l) (i := .iload_n 2) (len := 1) rfl hj rfl rfl rfl]
  rw [n_step (st' := [.int (g 49), .int t0, .ref 66]) (pc' := 65) (lv' := [(3, .int (g 49)), (2, .int t0), (0, .ref 49), (1, .int x1)]) (hp' := rH e (upd g 49 (((g 49) + (Int32.ofInt (1))))) q (updA (updA (updA (updA c 67 (upd (c 67) ((g 49)).toNatClampNeg x1)) 68 (upd ((updA c 67 (upd (c 67) ((g 49)).toNatClampNeg x1)) 68) ((g 49)).toNatClampNeg (((upd g 49 (((g 49) + (Int32.ofInt (1))))) 43)))) 69 (upd ((updA (updA c 67 (upd (c 67) ((g 49)).toNatClampNeg x1)) 68 (upd ((updA c 67 (upd (c 67) ((g 49)).toNatClampNeg x1)) 68) ((g 49)).toNatClampNeg (((upd g 49 (((g 49) + (Int32.ofInt (1))))) 43)))) 69) ((g 49)).toNatClampNeg (((upd g 49 (((g 49) + (Int32.ofInt (1))))) 56)))) 64 (upd ((updA (updA (updA c 67 (upd (c 67) ((g 49)).toNatClampNeg x1)) 68 (upd ((updA c 67 (upd (c 67) ((g 49)).toNatClampNeg x1)) 68) ((g 49)).toNatClampNeg (((upd g 49 (((g 49) + (Int32.ofInt (1))))) 43)))) 69 (upd ((updA (updA c 67 (upd (c 67) ((g 49)).toNatClampNeg x1)) 68 (upd ((updA c 67 (upd (c 67) ((g 49)).toNatClampNeg x1)) 68) ((g 49)).toNatClampNeg (((upd g 49 (((g 49) + (Int32.ofInt (1))))) 43)))) 69) ((g 49)).toNatClampNeg (((upd g 49 (((g 49) + (Int32.ofInt (1))))) 56)))) 64) (t0).toNatClampNeg (((upd g 49 (((g 49) + (Int32.ofInt (1))))) 55)))) l) (i := .iload_n 3) (len := 1) rfl hj rfl rfl rfl]
  rw [n_step (st' := [.long (Int32.toInt64 ((g 49))), .int t0, .ref 66]) (pc' := 66) (lv' := [(3, .int (g 49)), (2, .int t0), (0, .ref 49), (1, .int x1)]) (hp' := rH e (upd g 49 (((g 49) + (Int32.ofInt (1))))) q (updA (updA (updA (updA c 67 (upd (c 67) ((g 49)).toNatClampNeg x1)) 68 (upd ((updA c 67 (upd (c 67) ((g 49)).toNatClampNeg x1)) 68) ((g 49)).toNatClampNeg (((upd g 49 (((g 49) + (Int32.ofInt (1))))) 43)))) 69 (upd ((updA (updA c 67 (upd (c 67) ((g 49)).toNatClampNeg x1)) 68 (upd ((updA c 67 (upd (c 67) ((g 49)).toNatClampNeg x1)) 68) ((g 49)).toNatClampNeg (((upd g 49 (((g 49) + (Int32.ofInt (1))))) 43)))) 69) ((g 49)).toNatClampNeg (((upd g 49 (((g 49) + (Int32.ofInt (1))))) 56)))) 64 (upd ((updA (updA (updA c 67 (upd (c 67) ((g 49)).toNatClampNeg x1)) 68 (upd ((updA c 67 (upd (c 67) ((g 49)).toNatClampNeg x1)) 68) ((g 49)).toNatClampNeg (((upd g 49 (((g 49) + (Int32.ofInt (1))))) 43)))) 69 (upd ((updA (updA c 67 (upd (c 67) ((g 49)).toNatClampNeg x1)) 68 (upd ((updA c 67 (upd (c 67) ((g 49)).toNatClampNeg x1)) 68) ((g 49)).toNatClampNeg (((upd g 49 (((g 49) + (Int32.ofInt (1))))) 43)))) 69) ((g 49)).toNatClampNeg (((upd g 49 (((g 49) + (Int32.ofInt (1))))) 56)))) 64) (t0).toNatClampNeg (((upd g 49 (((g 49) + (Int32.ofInt (1))))) 55)))) l) (i := .i2l) (len := 1) rfl hj rfl rfl rfl]
  rw [n_las (st' := []) (hp' := rH e (upd g 49 (((g 49) + (Int32.ofInt (1))))) q (updA (updA (updA (updA c 67 (upd (c 67) ((g 49)).toNatClampNeg x1)) 68 (upd ((updA c 67 (upd (c 67) ((g 49)).toNatClampNeg x1)) 68) ((g 49)).toNatClampNeg (((upd g 49 (((g 49) + (Int32.ofInt (1))))) 43)))) 69 (upd ((updA (updA c 67 (upd (c 67) ((g 49)).toNatClampNeg x1)) 68 (upd ((updA c 67 (upd (c 67) ((g 49)).toNatClampNeg x1)) 68) ((g 49)).toNatClampNeg (((upd g 49 (((g 49) + (Int32.ofInt (1))))) 43)))) 69) ((g 49)).toNatClampNeg (((upd g 49 (((g 49) + (Int32.ofInt (1))))) 56)))) 64 (upd ((updA (updA (updA c 67 (upd (c 67) ((g 49)).toNatClampNeg x1)) 68 (upd ((updA c 67 (upd (c 67) ((g 49)).toNatClampNeg x1)) 68) ((g 49)).toNatClampNeg (((upd g 49 (((g 49) + (Int32.ofInt (1))))) 43)))) 69 (upd ((updA (updA c 67 (upd (c 67) ((g 49)).toNatClampNeg x1)) 68 (upd ((updA c 67 (upd (c 67) ((g 49)).toNatClampNeg x1)) 68) ((g 49)).toNatClampNeg (((upd g 49 (((g 49) + (Int32.ofInt (1))))) 43)))) 69) ((g 49)).toNatClampNeg (((upd g 49 (((g 49) + (Int32.ofInt (1))))) 56)))) 64) (t0).toNatClampNeg (((upd g 49 (((g 49) + (Int32.ofInt (1))))) 55)))) (updB l 66 (vp_updL (l 66) (t0).toNatClampNeg ((Int32.toInt64 ((g 49))))))) rfl hj (asl_66 hz4)]
  rw [n_step (st' := [.ref 49]) (pc' := 68) (lv' := [(3, .int (g 49)), (2, .int t0), (0, .ref 49), (1, .int x1)]) (hp' := rH e (upd g 49 (((g 49) + (Int32.ofInt (1))))) q (updA (updA (updA (updA c 67 (upd (c 67) ((g 49)).toNatClampNeg x1)) 68 (upd ((updA c 67 (upd (c 67) ((g 49)).toNatClampNeg x1)) 68) ((g 49)).toNatClampNeg (((upd g 49 (((g 49) + (Int32.ofInt (1))))) 43)))) 69 (upd ((updA (updA c 67 (upd (c 67) ((g 49)).toNatClampNeg x1)) 68 (upd ((updA c 67 (upd (c 67) ((g 49)).toNatClampNeg x1)) 68) ((g 49)).toNatClampNeg (((upd g 49 (((g 49) + (Int32.ofInt (1))))) 43)))) 69) ((g 49)).toNatClampNeg (((upd g 49 (((g 49) + (Int32.ofInt (1))))) 56)))) 64 (upd ((updA (updA (updA c 67 (upd (c 67) ((g 49)).toNatClampNeg x1)) 68 (upd ((updA c 67 (upd (c 67) ((g 49)).toNatClampNeg x1)) 68) ((g 49)).toNatClampNeg (((upd g 49 (((g 49) + (Int32.ofInt (1))))) 43)))) 69 (upd ((updA (updA c 67 (upd (c 67) ((g 49)).toNatClampNeg x1)) 68 (upd ((updA c 67 (upd (c 67) ((g 49)).toNatClampNeg x1)) 68) ((g 49)).toNatClampNeg (((upd g 49 (((g 49) + (Int32.ofInt (1))))) 43)))) 69) ((g 49)).toNatClampNeg (((upd g 49 (((g 49) + (Int32.ofInt (1))))) 56)))) 64) (t0).toNatClampNeg (((upd g 49 (((g 49) + (Int32.ofInt (1))))) 55)))) (updB l 66 (vp_updL (l 66) (t0).toNatClampNeg ((Int32.toInt64 ((g 49))))))) (i := .aload_n 0) (len := 1) rfl hj rfl rfl rfl]
  rw [n_step (st' := [.int (g 49), .ref 49]) (pc' := 69) (lv' := [(3, .int (g 49)), (2, .int t0), (0, .ref 49), (1, .int x1)]) (hp' := rH e (upd g 49 (((g 49) + (Int32.ofInt (1))))) q (updA (updA (updA (updA c 67 (upd (c 67) ((g 49)).toNatClampNeg x1)) 68 (upd ((updA c 67 (upd (c 67) ((g 49)).toNatClampNeg x1)) 68) ((g 49)).toNatClampNeg (((upd g 49 (((g 49) + (Int32.ofInt (1))))) 43)))) 69 (upd ((updA (updA c 67 (upd (c 67) ((g 49)).toNatClampNeg x1)) 68 (upd ((updA c 67 (upd (c 67) ((g 49)).toNatClampNeg x1)) 68) ((g 49)).toNatClampNeg (((upd g 49 (((g 49) + (Int32.ofInt (1))))) 43)))) 69) ((g 49)).toNatClampNeg (((upd g 49 (((g 49) + (Int32.ofInt (1))))) 56)))) 64 (upd ((updA (updA (updA c 67 (upd (c 67) ((g 49)).toNatClampNeg x1)) 68 (upd ((updA c 67 (upd (c 67) ((g 49)).toNatClampNeg x1)) 68) ((g 49)).toNatClampNeg (((upd g 49 (((g 49) + (Int32.ofInt (1))))) 43)))) 69 (upd ((updA (updA c 67 (upd (c 67) ((g 49)).toNatClampNeg x1)) 68 (upd ((updA c 67 (upd (c 67) ((g 49)).toNatClampNeg x1)) 68) ((g 49)).toNatClampNeg (((upd g 49 (((g 49) + (Int32.ofInt (1))))) 43)))) 69) ((g 49)).toNatClampNeg (((upd g 49 (((g 49) + (Int32.ofInt (1))))) 56)))) 64) (t0).toNatClampNeg (((upd g 49 (((g 49) + (Int32.ofInt (1))))) 55)))) (updB l 66 (vp_updL (l 66) (t0).toNatClampNeg ((Int32.toInt64 ((g 49))))))) (i := .iload_n 3) (len := 1) rfl hj rfl rfl rfl]
  rw [n_put (st' := []) (hp' := rH e (upd (upd g 49 (((g 49) + (Int32.ofInt (1))))) 55 ((g 49))) q (updA (updA (updA (updA c 67 (upd (c 67) ((g 49)).toNatClampNeg x1)) 68 (upd ((updA c 67 (upd (c 67) ((g 49)).toNatClampNeg x1)) 68) ((g 49)).toNatClampNeg (((upd g 49 (((g 49) + (Int32.ofInt (1))))) 43)))) 69 (upd ((updA (updA c 67 (upd (c 67) ((g 49)).toNatClampNeg x1)) 68 (upd ((updA c 67 (upd (c 67) ((g 49)).toNatClampNeg x1)) 68) ((g 49)).toNatClampNeg (((upd g 49 (((g 49) + (Int32.ofInt (1))))) 43)))) 69) ((g 49)).toNatClampNeg (((upd g 49 (((g 49) + (Int32.ofInt (1))))) 56)))) 64 (upd ((updA (updA (updA c 67 (upd (c 67) ((g 49)).toNatClampNeg x1)) 68 (upd ((updA c 67 (upd (c 67) ((g 49)).toNatClampNeg x1)) 68) ((g 49)).toNatClampNeg (((upd g 49 (((g 49) + (Int32.ofInt (1))))) 43)))) 69 (upd ((updA (updA c 67 (upd (c 67) ((g 49)).toNatClampNeg x1)) 68 (upd ((updA c 67 (upd (c 67) ((g 49)).toNatClampNeg x1)) 68) ((g 49)).toNatClampNeg (((upd g 49 (((g 49) + (Int32.ofInt (1))))) 43)))) 69) ((g 49)).toNatClampNeg (((upd g 49 (((g 49) + (Int32.ofInt (1))))) 56)))) 64) (t0).toNatClampNeg (((upd g 49 (((g 49) + (Int32.ofInt (1))))) 55)))) (updB l 66 (vp_updL (l 66) (t0).toNatClampNeg ((Int32.toInt64 ((g 49))))))) rfl hj pf_55]
  rw [n_step (st' := [.int t0]) (pc' := 73) (lv' := [(3, .int (g 49)), (2, .int t0), (0, .ref 49), (1, .int x1)]) (hp' := rH e (upd (upd g 49 (((g 49) + (Int32.ofInt (1))))) 55 ((g 49))) q (updA (updA (updA (updA c 67 (upd (c 67) ((g 49)).toNatClampNeg x1)) 68 (upd ((updA c 67 (upd (c 67) ((g 49)).toNatClampNeg x1)) 68) ((g 49)).toNatClampNeg (((upd g 49 (((g 49) + (Int32.ofInt (1))))) 43)))) 69 (upd ((updA (updA c 67 (upd (c 67) ((g 49)).toNatClampNeg x1)) 68 (upd ((updA c 67 (upd (c 67) ((g 49)).toNatClampNeg x1)) 68) ((g 49)).toNatClampNeg (((upd g 49 (((g 49) + (Int32.ofInt (1))))) 43)))) 69) ((g 49)).toNatClampNeg (((upd g 49 (((g 49) + (Int32.ofInt (1))))) 56)))) 64 (upd ((updA (updA (updA c 67 (upd (c 67) ((g 49)).toNatClampNeg x1)) 68 (upd ((updA c 67 (upd (c 67) ((g 49)).toNatClampNeg x1)) 68) ((g 49)).toNatClampNeg (((upd g 49 (((g 49) + (Int32.ofInt (1))))) 43)))) 69 (upd ((updA (updA c 67 (upd (c 67) ((g 49)).toNatClampNeg x1)) 68 (upd ((updA c 67 (upd (c 67) ((g 49)).toNatClampNeg x1)) 68) ((g 49)).toNatClampNeg (((upd g 49 (((g 49) + (Int32.ofInt (1))))) 43)))) 69) ((g 49)).toNatClampNeg (((upd g 49 (((g 49) + (Int32.ofInt (1))))) 56)))) 64) (t0).toNatClampNeg (((upd g 49 (((g 49) + (Int32.ofInt (1))))) 55)))) (updB l 66 (vp_updL (l 66) (t0).toNatClampNeg ((Int32.toInt64 ((g 49))))))) (i := .iload_n 2) (len := 1) rfl hj rfl rfl rfl]
  exact n_ret rfl hj rfl rfl (x_ret rfl)
set_option maxRecDepth 100000 in
set_option maxHeartbeats 4000000 in
theorem bk_355_0 {b : Bool} {d : Nat} {x1 x2 : Int32} {e : Nat → x_E} {g : Nat → Int32} {q : Nat → Int64} {c : Nat → Nat → Int32} {l : Nat → Nat → Int64} (hz0 : ¬ ((g 43) < 0 ∨ 4000 ≤ ((g 43)).toNatClampNeg)) (hz1 : ¬ ((g 43) < 0 ∨ 4000 ≤ ((g 43)).toNatClampNeg)) (hz2 : ¬ ((g 43) < 0 ∨ 4000 ≤ ((g 43)).toNatClampNeg)) (hz3 : ¬ ((g 43) < 0 ∨ 4000 ≤ ((g 43)).toNatClampNeg)) : rr b e d 355 0 [(0, .ref 49), (1, .int x1), (2, .int x2)] [] g q c l (some (.int (((upd g 43 (((g 43) + (Int32.ofInt (1))))) 43) - (Int32.ofInt (1)))), rH e (upd g 43 (((g 43) + (Int32.ofInt (1))))) q (updA (updA (updA (updA c 62 (upd (c 62) ((g 43)).toNatClampNeg x1)) 63 (upd ((updA c 62 (upd (c 62) ((g 43)).toNatClampNeg x1)) 63) ((g 43)).toNatClampNeg x2)) 64 (upd ((updA (updA c 62 (upd (c 62) ((g 43)).toNatClampNeg x1)) 63 (upd ((updA c 62 (upd (c 62) ((g 43)).toNatClampNeg x1)) 63) ((g 43)).toNatClampNeg x2)) 64) ((g 43)).toNatClampNeg ((Int32.ofInt (-1))))) 65 (upd ((updA (updA (updA c 62 (upd (c 62) ((g 43)).toNatClampNeg x1)) 63 (upd ((updA c 62 (upd (c 62) ((g 43)).toNatClampNeg x1)) 63) ((g 43)).toNatClampNeg x2)) 64 (upd ((updA (updA c 62 (upd (c 62) ((g 43)).toNatClampNeg x1)) 63 (upd ((updA c 62 (upd (c 62) ((g 43)).toNatClampNeg x1)) 63) ((g 43)).toNatClampNeg x2)) 64) ((g 43)).toNatClampNeg ((Int32.ofInt (-1))))) 65) ((g 43)).toNatClampNeg ((g 55)))) l) := by
  refine ⟨0 + 36, ?_⟩
  obtain ⟨y, cb, hj⟩ := mq_355
  rw [n_step (st' := [.ref 49]) (pc' := 1) (lv' := [(0, .ref 49), (1, .int x1), (2, .int x2)]) (hp' := rH e g q c l) (i := .aload_n 0) (len := 1) rfl hj rfl rfl rfl]
  rw [n_get (st' := [.ref 62]) (pc' := 4) (lv' := [(0, .ref 49), (1, .int x1), (2, .int x2)]) (hp' := rH e g q c l) (i := .getfield 53) (len := 3) rfl hj rfl rfl rfl rfl]
  rw [n_step (st' := [.ref 49, .ref 62]) (pc' := 5) (lv' := [(0, .ref 49), (1, .int x1), (2, .int x2)]) (hp' := rH e g q c l) (i := .aload_n 0) (len := 1) rfl hj rfl rfl rfl]
  rw [n_get (st' := [.int (g 43), .ref 62]) (pc' := 8) (lv' := [(0, .ref 49), (1, .int x1), (2, .int x2)]) (hp' := rH e g q c l) (i := .getfield 430) (len := 3) rfl hj rfl rfl rfl rfl]
  rw [n_step (st' := [.int x1, .int (g 43), .ref 62]) (pc' := 9) (lv' := [(0, .ref 49), (1, .int x1), (2, .int x2)]) (hp' := rH e g q c l) (i := .iload_n 1) (len := 1) rfl hj rfl rfl rfl]
  rw [n_ias (st' := []) (hp' := rH e g q (updA c 62 (upd (c 62) ((g 43)).toNatClampNeg x1)) l) rfl hj (ast_62 hz0)]
  rw [n_step (st' := [.ref 49]) (pc' := 11) (lv' := [(0, .ref 49), (1, .int x1), (2, .int x2)]) (hp' := rH e g q (updA c 62 (upd (c 62) ((g 43)).toNatClampNeg x1)) l) (i := .aload_n 0) (len := 1) rfl hj rfl rfl rfl]
  rw [n_get (st' := [.ref 63]) (pc' := 14) (lv' := [(0, .ref 49), (1, .int x1), (2, .int x2)]) (hp' := rH e g q (updA c 62 (upd (c 62) ((g 43)).toNatClampNeg x1)) l) (i := .getfield 56) (len := 3) rfl hj rfl rfl rfl rfl]
  rw [n_step (st' := [.ref 49, .ref 63]) (pc' := 15) (lv' := [(0, .ref 49), (1, .int x1), (2, .int x2)]) (hp' := rH e g q (updA c 62 (upd (c 62) ((g 43)).toNatClampNeg x1)) l) (i := .aload_n 0) (len := 1) rfl hj rfl rfl rfl]
  rw [n_get (st' := [.int (g 43), .ref 63]) (pc' := 18) (lv' := [(0, .ref 49), (1, .int x1), (2, .int x2)]) (hp' := rH e g q (updA c 62 (upd (c 62) ((g 43)).toNatClampNeg x1)) l) (i := .getfield 430) (len := 3) rfl hj rfl rfl rfl rfl]
  rw [n_step (st' := [.int x2, .int (g 43), .ref 63]) (pc' := 19) (lv' := [(0, .ref 49), (1, .int x1), (2, .int x2)]) (hp' := rH e g q (updA c 62 (upd (c 62) ((g 43)).toNatClampNeg x1)) l) (i := .iload_n 2) (len := 1) rfl hj rfl rfl rfl]
  rw [n_ias (st' := []) (hp' := rH e g q (updA (updA c 62 (upd (c 62) ((g 43)).toNatClampNeg x1)) 63 (upd ((updA c 62 (upd (c 62) ((g 43)).toNatClampNeg x1)) 63) ((g 43)).toNatClampNeg x2)) l) rfl hj (ast_63 hz1)]
  rw [n_step (st' := [.ref 49]) (pc' := 21) (lv' := [(0, .ref 49), (1, .int x1), (2, .int x2)]) (hp' := rH e g q (updA (updA c 62 (upd (c 62) ((g 43)).toNatClampNeg x1)) 63 (upd ((updA c 62 (upd (c 62) ((g 43)).toNatClampNeg x1)) 63) ((g 43)).toNatClampNeg x2)) l) (i := .aload_n 0) (len := 1) rfl hj rfl rfl rfl]
  rw [n_get (st' := [.ref 64]) (pc' := 24) (lv' := [(0, .ref 49), (1, .int x1), (2, .int x2)]) (hp' := rH e g q (updA (updA c 62 (upd (c 62) ((g 43)).toNatClampNeg x1)) 63 (upd ((updA c 62 (upd (c 62) ((g 43)).toNatClampNeg x1)) 63) ((g 43)).toNatClampNeg x2)) l) (i := .getfield 59) (len := 3) rfl hj rfl rfl rfl rfl]
  rw [n_step (st' := [.ref 49, .ref 64]) (pc' := 25) (lv' := [(0, .ref 49), (1, .int x1), (2, .int x2)]) (hp' := rH e g q (updA (updA c 62 (upd (c 62) ((g 43)).toNatClampNeg x1)) 63 (upd ((updA c 62 (upd (c 62) ((g 43)).toNatClampNeg x1)) 63) ((g 43)).toNatClampNeg x2)) l) (i := .aload_n 0) (len := 1) rfl hj rfl rfl rfl]
  rw [n_get (st' := [.int (g 43), .ref 64]) (pc' := 28) (lv' := [(0, .ref 49), (1, .int x1), (2, .int x2)]) (hp' := rH e g q (updA (updA c 62 (upd (c 62) ((g 43)).toNatClampNeg x1)) 63 (upd ((updA c 62 (upd (c 62) ((g 43)).toNatClampNeg x1)) 63) ((g 43)).toNatClampNeg x2)) l) (i := .getfield 430) (len := 3) rfl hj rfl rfl rfl rfl]
  rw [n_step (st' := [.int (Int32.ofInt (-1)), .int (g 43), .ref 64]) (pc' := 29) (lv' := [(0, .ref 49), (1, .int x1), (2, .int x2)]) (hp' := rH e g q (updA (updA c 62 (upd (c 62) ((g 43)).toNatClampNeg x1)) 63 (upd ((updA c 62 (upd (c 62) ((g 43)).toNatClampNeg x1)) 63) ((g 43)).toNatClampNeg x2)) l) (i := .iconst (-1)) (len := 1) rfl hj rfl rfl rfl]
  rw [n_ias (st' := []) (hp' := rH e g q (updA (updA (updA c 62 (upd (c 62) ((g 43)).toNatClampNeg x1)) 63 (upd ((updA c 62 (upd (c 62) ((g 43)).toNatClampNeg x1)) 63) ((g 43)).toNatClampNeg x2)) 64 (upd ((updA (updA c 62 (upd (c 62) ((g 43)).toNatClampNeg x1)) 63 (upd ((updA c 62 (upd (c 62) ((g 43)).toNatClampNeg x1)) 63) ((g 43)).toNatClampNeg x2)) 64) ((g 43)).toNatClampNeg ((Int32.ofInt (-1))))) l) rfl hj (ast_64 hz2)]
  rw [n_step (st' := [.ref 49]) (pc' := 31) (lv' := [(0, .ref 49), (1, .int x1), (2, .int x2)]) (hp' := rH e g q (updA (updA (updA c 62 (upd (c 62) ((g 43)).toNatClampNeg x1)) 63 (upd ((updA c 62 (upd (c 62) ((g 43)).toNatClampNeg x1)) 63) ((g 43)).toNatClampNeg x2)) 64 (upd ((updA (updA c 62 (upd (c 62) ((g 43)).toNatClampNeg x1)) 63 (upd ((updA c 62 (upd (c 62) ((g 43)).toNatClampNeg x1)) 63) ((g 43)).toNatClampNeg x2)) 64) ((g 43)).toNatClampNeg ((Int32.ofInt (-1))))) l) (i := .aload_n 0) (len := 1) rfl hj rfl rfl rfl]
  rw [n_get (st' := [.ref 65]) (pc' := 34) (lv' := [(0, .ref 49), (1, .int x1), (2, .int x2)]) (hp' := rH e g q (updA (updA (updA c 62 (upd (c 62) ((g 43)).toNatClampNeg x1)) 63 (upd ((updA c 62 (upd (c 62) ((g 43)).toNatClampNeg x1)) 63) ((g 43)).toNatClampNeg x2)) 64 (upd ((updA (updA c 62 (upd (c 62) ((g 43)).toNatClampNeg x1)) 63 (upd ((updA c 62 (upd (c 62) ((g 43)).toNatClampNeg x1)) 63) ((g 43)).toNatClampNeg x2)) 64) ((g 43)).toNatClampNeg ((Int32.ofInt (-1))))) l) (i := .getfield 62) (len := 3) rfl hj rfl rfl rfl rfl]
  rw [n_step (st' := [.ref 49, .ref 65]) (pc' := 35) (lv' := [(0, .ref 49), (1, .int x1), (2, .int x2)]) (hp' := rH e g q (updA (updA (updA c 62 (upd (c 62) ((g 43)).toNatClampNeg x1)) 63 (upd ((updA c 62 (upd (c 62) ((g 43)).toNatClampNeg x1)) 63) ((g 43)).toNatClampNeg x2)) 64 (upd ((updA (updA c 62 (upd (c 62) ((g 43)).toNatClampNeg x1)) 63 (upd ((updA c 62 (upd (c 62) ((g 43)).toNatClampNeg x1)) 63) ((g 43)).toNatClampNeg x2)) 64) ((g 43)).toNatClampNeg ((Int32.ofInt (-1))))) l) (i := .aload_n 0) (len := 1) rfl hj rfl rfl rfl]
  rw [n_get (st' := [.int (g 43), .ref 65]) (pc' := 38) (lv' := [(0, .ref 49), (1, .int x1), (2, .int x2)]) (hp' := rH e g q (updA (updA (updA c 62 (upd (c 62) ((g 43)).toNatClampNeg x1)) 63 (upd ((updA c 62 (upd (c 62) ((g 43)).toNatClampNeg x1)) 63) ((g 43)).toNatClampNeg x2)) 64 (upd ((updA (updA c 62 (upd (c 62) ((g 43)).toNatClampNeg x1)) 63 (upd ((updA c 62 (upd (c 62) ((g 43)).toNatClampNeg x1)) 63) ((g 43)).toNatClampNeg x2)) 64) ((g 43)).toNatClampNeg ((Int32.ofInt (-1))))) l) (i := .getfield 430) (len := 3) rfl hj rfl rfl rfl rfl]
  rw [n_step (st' := [.ref 49, .int (g 43), .ref 65]) (pc' := 39) (lv' := [(0, .ref 49), (1, .int x1), (2, .int x2)]) (hp' := rH e g q (updA (updA (updA c 62 (upd (c 62) ((g 43)).toNatClampNeg x1)) 63 (upd ((updA c 62 (upd (c 62) ((g 43)).toNatClampNeg x1)) 63) ((g 43)).toNatClampNeg x2)) 64 (upd ((updA (updA c 62 (upd (c 62) ((g 43)).toNatClampNeg x1)) 63 (upd ((updA c 62 (upd (c 62) ((g 43)).toNatClampNeg x1)) 63) ((g 43)).toNatClampNeg x2)) 64) ((g 43)).toNatClampNeg ((Int32.ofInt (-1))))) l) (i := .aload_n 0) (len := 1) rfl hj rfl rfl rfl]
  rw [n_get (st' := [.int (g 55), .int (g 43), .ref 65]) (pc' := 42) (lv' := [(0, .ref 49), (1, .int x1), (2, .int x2)]) (hp' := rH e g q (updA (updA (updA c 62 (upd (c 62) ((g 43)).toNatClampNeg x1)) 63 (upd ((updA c 62 (upd (c 62) ((g 43)).toNatClampNeg x1)) 63) ((g 43)).toNatClampNeg x2)) 64 (upd ((updA (updA c 62 (upd (c 62) ((g 43)).toNatClampNeg x1)) 63 (upd ((updA c 62 (upd (c 62) ((g 43)).toNatClampNeg x1)) 63) ((g 43)).toNatClampNeg x2)) 64) ((g 43)).toNatClampNeg ((Int32.ofInt (-1))))) l) (i := .getfield 433) (len := 3) rfl hj rfl rfl rfl rfl]
  rw [n_ias (st' := []) (hp' := rH e g q (updA (updA (updA (updA c 62 (upd (c 62) ((g 43)).toNatClampNeg x1)) 63 (upd ((updA c 62 (upd (c 62) ((g 43)).toNatClampNeg x1)) 63) ((g 43)).toNatClampNeg x2)) 64 (upd ((updA (updA c 62 (upd (c 62) ((g 43)).toNatClampNeg x1)) 63 (upd ((updA c 62 (upd (c 62) ((g 43)).toNatClampNeg x1)) 63) ((g 43)).toNatClampNeg x2)) 64) ((g 43)).toNatClampNeg ((Int32.ofInt (-1))))) 65 (upd ((updA (updA (updA c 62 (upd (c 62) ((g 43)).toNatClampNeg x1)) 63 (upd ((updA c 62 (upd (c 62) ((g 43)).toNatClampNeg x1)) 63) ((g 43)).toNatClampNeg x2)) 64 (upd ((updA (updA c 62 (upd (c 62) ((g 43)).toNatClampNeg x1)) 63 (upd ((updA c 62 (upd (c 62) ((g 43)).toNatClampNeg x1)) 63) ((g 43)).toNatClampNeg x2)) 64) ((g 43)).toNatClampNeg ((Int32.ofInt (-1))))) 65) ((g 43)).toNatClampNeg ((g 55)))) l) rfl hj (ast_65 hz3)]
  rw [n_step (st' := [.ref 49]) (pc' := 44) (lv' := [(0, .ref 49), (1, .int x1), (2, .int x2)]) (hp' := rH e g q (updA (updA (updA (updA c 62 (upd (c 62) ((g 43)).toNatClampNeg x1)) 63 (upd ((updA c 62 (upd (c 62) ((g 43)).toNatClampNeg x1)) 63) ((g 43)).toNatClampNeg x2)) 64 (upd ((updA (updA c 62 (upd (c 62) ((g 43)).toNatClampNeg x1)) 63 (upd ((updA c 62 (upd (c 62) ((g 43)).toNatClampNeg x1)) 63) ((g 43)).toNatClampNeg x2)) 64) ((g 43)).toNatClampNeg ((Int32.ofInt (-1))))) 65 (upd ((updA (updA (updA c 62 (upd (c 62) ((g 43)).toNatClampNeg x1)) 63 (upd ((updA c 62 (upd (c 62) ((g 43)).toNatClampNeg x1)) 63) ((g 43)).toNatClampNeg x2)) 64 (upd ((updA (updA c 62 (upd (c 62) ((g 43)).toNatClampNeg x1)) 63 (upd ((updA c 62 (upd (c 62) ((g 43)).toNatClampNeg x1)) 63) ((g 43)).toNatClampNeg x2)) 64) ((g 43)).toNatClampNeg ((Int32.ofInt (-1))))) 65) ((g 43)).toNatClampNeg ((g 55)))) l) (i := .aload_n 0) (len := 1) rfl hj rfl rfl rfl]
  rw [n_step (st' := [.ref 49, .ref 49]) (pc' := 45) (lv' := [(0, .ref 49), (1, .int x1), (2, .int x2)]) (hp' := rH e g q (updA (updA (updA (updA c 62 (upd (c 62) ((g 43)).toNatClampNeg x1)) 63 (upd ((updA c 62 (upd (c 62) ((g 43)).toNatClampNeg x1)) 63) ((g 43)).toNatClampNeg x2)) 64 (upd ((updA (updA c 62 (upd (c 62) ((g 43)).toNatClampNeg x1)) 63 (upd ((updA c 62 (upd (c 62) ((g 43)).toNatClampNeg x1)) 63) ((g 43)).toNatClampNeg x2)) 64) ((g 43)).toNatClampNeg ((Int32.ofInt (-1))))) 65 (upd ((updA (updA (updA c 62 (upd (c 62) ((g 43)).toNatClampNeg x1)) 63 (upd ((updA c 62 (upd (c 62) ((g 43)).toNatClampNeg x1)) 63) ((g 43)).toNatClampNeg x2)) 64 (upd ((updA (updA c 62 (upd (c 62) ((g 43)).toNatClampNeg x1)) 63 (upd ((updA c 62 (upd (c 62) ((g 43)).toNatClampNeg x1)) 63) ((g 43)).toNatClampNeg x2)) 64) ((g 43)).toNatClampNeg ((Int32.ofInt (-1))))) 65) ((g 43)).toNatClampNeg ((g 55)))) l) (i := .aload_n 0) (len := 1) rfl hj rfl rfl rfl]
  rw [n_get (st' := [.int (g 43), .ref 49]) (pc' := 48) (lv' := [(0, .ref 49), (1, .int x1), (2, .int x2)]) (hp' := rH e g q (updA (updA (updA (updA c 62 (upd (c 62) ((g 43)).toNatClampNeg x1)) 63 (upd ((updA c 62 (upd (c 62) ((g 43)).toNatClampNeg x1)) 63) ((g 43)).toNatClampNeg x2)) 64 (upd ((updA (updA c 62 (upd (c 62) ((g 43)).toNatClampNeg x1)) 63 (upd ((updA c 62 (upd (c 62) ((g 43)).toNatClampNeg x1)) 63) ((g 43)).toNatClampNeg x2)) 64) ((g 43)).toNatClampNeg ((Int32.ofInt (-1))))) 65 (upd ((updA (updA (updA c 62 (upd (c 62) ((g 43)).toNatClampNeg x1)) 63 (upd ((updA c 62 (upd (c 62) ((g 43)).toNatClampNeg x1)) 63) ((g 43)).toNatClampNeg x2)) 64 (upd ((updA (updA c 62 (upd (c 62) ((g 43)).toNatClampNeg x1)) 63 (upd ((updA c 62 (upd (c 62) ((g 43)).toNatClampNeg x1)) 63) ((g 43)).toNatClampNeg x2)) 64) ((g 43)).toNatClampNeg ((Int32.ofInt (-1))))) 65) ((g 43)).toNatClampNeg ((g 55)))) l) (i := .getfield 430) (len := 3) rfl hj rfl rfl rfl rfl]
  rw [n_step (st' := [.int (Int32.ofInt (1)), .int (g 43), .ref 49]) (pc' := 49) (lv' := [(0, .ref 49), (1, .int x1), (2, .int x2)]) (hp' := rH e g q (updA (updA (updA (updA c 62 (upd (c 62) ((g 43)).toNatClampNeg x1)) 63 (upd ((updA c 62 (upd (c 62) ((g 43)).toNatClampNeg x1)) 63) ((g 43)).toNatClampNeg x2)) 64 (upd ((updA (updA c 62 (upd (c 62) ((g 43)).toNatClampNeg x1)) 63 (upd ((updA c 62 (upd (c 62) ((g 43)).toNatClampNeg x1)) 63) ((g 43)).toNatClampNeg x2)) 64) ((g 43)).toNatClampNeg ((Int32.ofInt (-1))))) 65 (upd ((updA (updA (updA c 62 (upd (c 62) ((g 43)).toNatClampNeg x1)) 63 (upd ((updA c 62 (upd (c 62) ((g 43)).toNatClampNeg x1)) 63) ((g 43)).toNatClampNeg x2)) 64 (upd ((updA (updA c 62 (upd (c 62) ((g 43)).toNatClampNeg x1)) 63 (upd ((updA c 62 (upd (c 62) ((g 43)).toNatClampNeg x1)) 63) ((g 43)).toNatClampNeg x2)) 64) ((g 43)).toNatClampNeg ((Int32.ofInt (-1))))) 65) ((g 43)).toNatClampNeg ((g 55)))) l) (i := .iconst 1) (len := 1) rfl hj rfl rfl rfl]
  rw [n_step (st' := [.int ((g 43) + (Int32.ofInt (1))), .ref 49]) (pc' := 50) (lv' := [(0, .ref 49), (1, .int x1), (2, .int x2)]) (hp' := rH e g q (updA (updA (updA (updA c 62 (upd (c 62) ((g 43)).toNatClampNeg x1)) 63 (upd ((updA c 62 (upd (c 62) ((g 43)).toNatClampNeg x1)) 63) ((g 43)).toNatClampNeg x2)) 64 (upd ((updA (updA c 62 (upd (c 62) ((g 43)).toNatClampNeg x1)) 63 (upd ((updA c 62 (upd (c 62) ((g 43)).toNatClampNeg x1)) 63) ((g 43)).toNatClampNeg x2)) 64) ((g 43)).toNatClampNeg ((Int32.ofInt (-1))))) 65 (upd ((updA (updA (updA c 62 (upd (c 62) ((g 43)).toNatClampNeg x1)) 63 (upd ((updA c 62 (upd (c 62) ((g 43)).toNatClampNeg x1)) 63) ((g 43)).toNatClampNeg x2)) 64 (upd ((updA (updA c 62 (upd (c 62) ((g 43)).toNatClampNeg x1)) 63 (upd ((updA c 62 (upd (c 62) ((g 43)).toNatClampNeg x1)) 63) ((g 43)).toNatClampNeg x2)) 64) ((g 43)).toNatClampNeg ((Int32.ofInt (-1))))) 65) ((g 43)).toNatClampNeg ((g 55)))) l) (i := .iadd) (len := 1) rfl hj rfl rfl rfl]
  rw [n_put (st' := []) (hp' := rH e (upd g 43 (((g 43) + (Int32.ofInt (1))))) q (updA (updA (updA (updA c 62 (upd (c 62) ((g 43)).toNatClampNeg x1)) 63 (upd ((updA c 62 (upd (c 62) ((g 43)).toNatClampNeg x1)) 63) ((g 43)).toNatClampNeg x2)) 64 (upd ((updA (updA c 62 (upd (c 62) ((g 43)).toNatClampNeg x1)) 63 (upd ((updA c 62 (upd (c 62) ((g 43)).toNatClampNeg x1)) 63) ((g 43)).toNatClampNeg x2)) 64) ((g 43)).toNatClampNeg ((Int32.ofInt (-1))))) 65 (upd ((updA (updA (updA c 62 (upd (c 62) ((g 43)).toNatClampNeg x1)) 63 (upd ((updA c 62 (upd (c 62) ((g 43)).toNatClampNeg x1)) 63) ((g 43)).toNatClampNeg x2)) 64 (upd ((updA (updA c 62 (upd (c 62) ((g 43)).toNatClampNeg x1)) 63 (upd ((updA c 62 (upd (c 62) ((g 43)).toNatClampNeg x1)) 63) ((g 43)).toNatClampNeg x2)) 64) ((g 43)).toNatClampNeg ((Int32.ofInt (-1))))) 65) ((g 43)).toNatClampNeg ((g 55)))) l) rfl hj pf_43]
  rw [n_step (st' := [.ref 49]) (pc' := 54) (lv' := [(0, .ref 49), (1, .int x1), (2, .int x2)]) (hp' := rH e (upd g 43 (((g 43) + (Int32.ofInt (1))))) q (updA (updA (updA (updA c 62 (upd (c 62) ((g 43)).toNatClampNeg x1)) 63 (upd ((updA c 62 (upd (c 62) ((g 43)).toNatClampNeg x1)) 63) ((g 43)).toNatClampNeg x2)) 64 (upd ((updA (updA c 62 (upd (c 62) ((g 43)).toNatClampNeg x1)) 63 (upd ((updA c 62 (upd (c 62) ((g 43)).toNatClampNeg x1)) 63) ((g 43)).toNatClampNeg x2)) 64) ((g 43)).toNatClampNeg ((Int32.ofInt (-1))))) 65 (upd ((updA (updA (updA c 62 (upd (c 62) ((g 43)).toNatClampNeg x1)) 63 (upd ((updA c 62 (upd (c 62) ((g 43)).toNatClampNeg x1)) 63) ((g 43)).toNatClampNeg x2)) 64 (upd ((updA (updA c 62 (upd (c 62) ((g 43)).toNatClampNeg x1)) 63 (upd ((updA c 62 (upd (c 62) ((g 43)).toNatClampNeg x1)) 63) ((g 43)).toNatClampNeg x2)) 64) ((g 43)).toNatClampNeg ((Int32.ofInt (-1))))) 65) ((g 43)).toNatClampNeg ((g 55)))) l) (i := .aload_n 0) (len := 1) rfl hj rfl rfl rfl]
  rw [n_get (st' := [.int ((upd g 43 (((g 43) + (Int32.ofInt (1))))) 43)]) (pc' := 57) (lv' := [(0, .ref 49), (1, .int x1), (2, .int x2)]) (hp' := rH e (upd g 43 (((g 43) + (Int32.ofInt (1))))) q (updA (updA (updA (updA c 62 (upd (c 62) ((g 43)).toNatClampNeg x1)) 63 (upd ((updA c 62 (upd (c 62) ((g 43)).toNatClampNeg x1)) 63) ((g 43)).toNatClampNeg x2)) 64 (upd ((updA (updA c 62 (upd (c 62) ((g 43)).toNatClampNeg x1)) 63 (upd ((updA c 62 (upd (c 62) ((g 43)).toNatClampNeg x1)) 63) ((g 43)).toNatClampNeg x2)) 64) ((g 43)).toNatClampNeg ((Int32.ofInt (-1))))) 65 (upd ((updA (updA (updA c 62 (upd (c 62) ((g 43)).toNatClampNeg x1)) 63 (upd ((updA c 62 (upd (c 62) ((g 43)).toNatClampNeg x1)) 63) ((g 43)).toNatClampNeg x2)) 64 (upd ((updA (updA c 62 (upd (c 62) ((g 43)).toNatClampNeg x1)) 63 (upd ((updA c 62 (upd (c 62) ((g 43)).toNatClampNeg x1)) 63) ((g 43)).toNatClampNeg x2)) 64) ((g 43)).toNatClampNeg ((Int32.ofInt (-1))))) 65) ((g 43)).toNatClampNeg ((g 55)))) l) (i := .getfield 430) (len := 3) rfl hj rfl rfl rfl rfl]
  rw [n_step (st' := [.int (Int32.ofInt (1)), .int ((upd g 43 (((g 43) + (Int32.ofInt (1))))) 43)]) (pc' := 58) (lv' := [(0, .ref 49), (1, .int x1), (2, .int x2)]) (hp' := rH e (upd g 43 (((g 43) + (Int32.ofInt (1))))) q (updA (updA (updA (updA c 62 (upd (c 62) ((g 43)).toNatClampNeg x1)) 63 (upd ((updA c 62 (upd (c 62) ((g 43)).toNatClampNeg x1)) 63) ((g 43)).toNatClampNeg x2)) 64 (upd ((updA (updA c 62 (upd (c 62) ((g 43)).toNatClampNeg x1)) 63 (upd ((updA c 62 (upd (c 62) ((g 43)).toNatClampNeg x1)) 63) ((g 43)).toNatClampNeg x2)) 64) ((g 43)).toNatClampNeg ((Int32.ofInt (-1))))) 65 (upd ((updA (updA (updA c 62 (upd (c 62) ((g 43)).toNatClampNeg x1)) 63 (upd ((updA c 62 (upd (c 62) ((g 43)).toNatClampNeg x1)) 63) ((g 43)).toNatClampNeg x2)) 64 (upd ((updA (updA c 62 (upd (c 62) ((g 43)).toNatClampNeg x1)) 63 (upd ((updA c 62 (upd (c 62) ((g 43)).toNatClampNeg x1)) 63) ((g 43)).toNatClampNeg x2)) 64) ((g 43)).toNatClampNeg ((Int32.ofInt (-1))))) 65) ((g 43)).toNatClampNeg ((g 55)))) l) (i := .iconst 1) (len := 1) rfl hj rfl rfl rfl]
  rw [n_step (st' := [.int (((upd g 43 (((g 43) + (Int32.ofInt (1))))) 43) - (Int32.ofInt (1)))]) (pc' := 59) (lv' := [(0, .ref 49), (1, .int x1), (2, .int x2)]) (hp' := rH e (upd g 43 (((g 43) + (Int32.ofInt (1))))) q (updA (updA (updA (updA c 62 (upd (c 62) ((g 43)).toNatClampNeg x1)) 63 (upd ((updA c 62 (upd (c 62) ((g 43)).toNatClampNeg x1)) 63) ((g 43)).toNatClampNeg x2)) 64 (upd ((updA (updA c 62 (upd (c 62) ((g 43)).toNatClampNeg x1)) 63 (upd ((updA c 62 (upd (c 62) ((g 43)).toNatClampNeg x1)) 63) ((g 43)).toNatClampNeg x2)) 64) ((g 43)).toNatClampNeg ((Int32.ofInt (-1))))) 65 (upd ((updA (updA (updA c 62 (upd (c 62) ((g 43)).toNatClampNeg x1)) 63 (upd ((updA c 62 (upd (c 62) ((g 43)).toNatClampNeg x1)) 63) ((g 43)).toNatClampNeg x2)) 64 (upd ((updA (updA c 62 (upd (c 62) ((g 43)).toNatClampNeg x1)) 63 (upd ((updA c 62 (upd (c 62) ((g 43)).toNatClampNeg x1)) 63) ((g 43)).toNatClampNeg x2)) 64) ((g 43)).toNatClampNeg ((Int32.ofInt (-1))))) 65) ((g 43)).toNatClampNeg ((g 55)))) l) (i := .isub) (len := 1) rfl hj rfl rfl rfl]
  exact n_ret rfl hj rfl rfl (x_ret rfl)
set_option maxRecDepth 100000 in
set_option maxHeartbeats 4000000 in
theorem bk_356_0 {b : Bool} {d : Nat} {x3 x4 : Int32} {x1 : Int64} {e : Nat → x_E} {g : Nat → Int32} {q : Nat → Int64} {c : Nat → Nat → Int32} {l : Nat → Nat → Int64} (hz0 : ¬ ((g 56) < 0 ∨ 80 ≤ ((g 56)).toNatClampNeg)) (hz1 : ¬ ((g 56) < 0 ∨ 80 ≤ ((g 56)).toNatClampNeg)) (hz2 : ¬ ((g 56) < 0 ∨ 80 ≤ ((g 56)).toNatClampNeg)) : rr b e d 356 0 [(0, .ref 49), (1, .long x1), (3, .int x3), (4, .int x4)] [] g q c l (none, rH e (upd g 56 (((g 56) + (Int32.ofInt (1))))) q (updA (updA c 73 (upd (c 73) ((g 56)).toNatClampNeg x3)) 74 (upd ((updA c 73 (upd (c 73) ((g 56)).toNatClampNeg x3)) 74) ((g 56)).toNatClampNeg x4)) (updB l 72 (vp_updL (l 72) ((g 56)).toNatClampNeg x1))) := by
  refine ⟨0 + 25, ?_⟩
  obtain ⟨y, cb, hj⟩ := mq_356
  rw [n_step (st' := [.ref 49]) (pc' := 1) (lv' := [(0, .ref 49), (1, .long x1), (3, .int x3), (4, .int x4)]) (hp' := rH e g q c l) (i := .aload_n 0) (len := 1) rfl hj rfl rfl rfl]
  rw [n_get (st' := [.ref 72]) (pc' := 4) (lv' := [(0, .ref 49), (1, .long x1), (3, .int x3), (4, .int x4)]) (hp' := rH e g q c l) (i := .getfield 84) (len := 3) rfl hj rfl rfl rfl rfl]
  rw [n_step (st' := [.ref 49, .ref 72]) (pc' := 5) (lv' := [(0, .ref 49), (1, .long x1), (3, .int x3), (4, .int x4)]) (hp' := rH e g q c l) (i := .aload_n 0) (len := 1) rfl hj rfl rfl rfl]
  rw [n_get (st' := [.int (g 56), .ref 72]) (pc' := 8) (lv' := [(0, .ref 49), (1, .long x1), (3, .int x3), (4, .int x4)]) (hp' := rH e g q c l) (i := .getfield 436) (len := 3) rfl hj rfl rfl rfl rfl]
  rw [n_step (st' := [.long x1, .int (g 56), .ref 72]) (pc' := 9) (lv' := [(0, .ref 49), (1, .long x1), (3, .int x3), (4, .int x4)]) (hp' := rH e g q c l) (i := .lload_n 1) (len := 1) rfl hj rfl rfl rfl]
  rw [n_las (st' := []) (hp' := rH e g q c (updB l 72 (vp_updL (l 72) ((g 56)).toNatClampNeg x1))) rfl hj (asl_72 hz0)]
  rw [n_step (st' := [.ref 49]) (pc' := 11) (lv' := [(0, .ref 49), (1, .long x1), (3, .int x3), (4, .int x4)]) (hp' := rH e g q c (updB l 72 (vp_updL (l 72) ((g 56)).toNatClampNeg x1))) (i := .aload_n 0) (len := 1) rfl hj rfl rfl rfl]
  rw [n_get (st' := [.ref 73]) (pc' := 14) (lv' := [(0, .ref 49), (1, .long x1), (3, .int x3), (4, .int x4)]) (hp' := rH e g q c (updB l 72 (vp_updL (l 72) ((g 56)).toNatClampNeg x1))) (i := .getfield 87) (len := 3) rfl hj rfl rfl rfl rfl]
  rw [n_step (st' := [.ref 49, .ref 73]) (pc' := 15) (lv' := [(0, .ref 49), (1, .long x1), (3, .int x3), (4, .int x4)]) (hp' := rH e g q c (updB l 72 (vp_updL (l 72) ((g 56)).toNatClampNeg x1))) (i := .aload_n 0) (len := 1) rfl hj rfl rfl rfl]
  rw [n_get (st' := [.int (g 56), .ref 73]) (pc' := 18) (lv' := [(0, .ref 49), (1, .long x1), (3, .int x3), (4, .int x4)]) (hp' := rH e g q c (updB l 72 (vp_updL (l 72) ((g 56)).toNatClampNeg x1))) (i := .getfield 436) (len := 3) rfl hj rfl rfl rfl rfl]
  rw [n_step (st' := [.int x3, .int (g 56), .ref 73]) (pc' := 19) (lv' := [(0, .ref 49), (1, .long x1), (3, .int x3), (4, .int x4)]) (hp' := rH e g q c (updB l 72 (vp_updL (l 72) ((g 56)).toNatClampNeg x1))) (i := .iload_n 3) (len := 1) rfl hj rfl rfl rfl]
  rw [n_ias (st' := []) (hp' := rH e g q (updA c 73 (upd (c 73) ((g 56)).toNatClampNeg x3)) (updB l 72 (vp_updL (l 72) ((g 56)).toNatClampNeg x1))) rfl hj (ast_73 hz1)]
  rw [n_step (st' := [.ref 49]) (pc' := 21) (lv' := [(0, .ref 49), (1, .long x1), (3, .int x3), (4, .int x4)]) (hp' := rH e g q (updA c 73 (upd (c 73) ((g 56)).toNatClampNeg x3)) (updB l 72 (vp_updL (l 72) ((g 56)).toNatClampNeg x1))) (i := .aload_n 0) (len := 1) rfl hj rfl rfl rfl]
  rw [n_get (st' := [.ref 74]) (pc' := 24) (lv' := [(0, .ref 49), (1, .long x1), (3, .int x3), (4, .int x4)]) (hp' := rH e g q (updA c 73 (upd (c 73) ((g 56)).toNatClampNeg x3)) (updB l 72 (vp_updL (l 72) ((g 56)).toNatClampNeg x1))) (i := .getfield 90) (len := 3) rfl hj rfl rfl rfl rfl]
  rw [n_step (st' := [.ref 49, .ref 74]) (pc' := 25) (lv' := [(0, .ref 49), (1, .long x1), (3, .int x3), (4, .int x4)]) (hp' := rH e g q (updA c 73 (upd (c 73) ((g 56)).toNatClampNeg x3)) (updB l 72 (vp_updL (l 72) ((g 56)).toNatClampNeg x1))) (i := .aload_n 0) (len := 1) rfl hj rfl rfl rfl]
  rw [n_get (st' := [.int (g 56), .ref 74]) (pc' := 28) (lv' := [(0, .ref 49), (1, .long x1), (3, .int x3), (4, .int x4)]) (hp' := rH e g q (updA c 73 (upd (c 73) ((g 56)).toNatClampNeg x3)) (updB l 72 (vp_updL (l 72) ((g 56)).toNatClampNeg x1))) (i := .getfield 436) (len := 3) rfl hj rfl rfl rfl rfl]
  rw [n_step (st' := [.int x4, .int (g 56), .ref 74]) (pc' := 30) (lv' := [(0, .ref 49), (1, .long x1), (3, .int x3), (4, .int x4)]) (hp' := rH e g q (updA c 73 (upd (c 73) ((g 56)).toNatClampNeg x3)) (updB l 72 (vp_updL (l 72) ((g 56)).toNatClampNeg x1))) (i := .iload 4) (len := 2) rfl hj rfl rfl rfl]
  rw [n_ias (st' := []) (hp' := rH e g q (updA (updA c 73 (upd (c 73) ((g 56)).toNatClampNeg x3)) 74 (upd ((updA c 73 (upd (c 73) ((g 56)).toNatClampNeg x3)) 74) ((g 56)).toNatClampNeg x4)) (updB l 72 (vp_updL (l 72) ((g 56)).toNatClampNeg x1))) rfl hj (ast_74 hz2)]
  rw [n_step (st' := [.ref 49]) (pc' := 32) (lv' := [(0, .ref 49), (1, .long x1), (3, .int x3), (4, .int x4)]) (hp' := rH e g q (updA (updA c 73 (upd (c 73) ((g 56)).toNatClampNeg x3)) 74 (upd ((updA c 73 (upd (c 73) ((g 56)).toNatClampNeg x3)) 74) ((g 56)).toNatClampNeg x4)) (updB l 72 (vp_updL (l 72) ((g 56)).toNatClampNeg x1))) (i := .aload_n 0) (len := 1) rfl hj rfl rfl rfl]
  rw [n_step (st' := [.ref 49, .ref 49]) (pc' := 33) (lv' := [(0, .ref 49), (1, .long x1), (3, .int x3), (4, .int x4)]) (hp' := rH e g q (updA (updA c 73 (upd (c 73) ((g 56)).toNatClampNeg x3)) 74 (upd ((updA c 73 (upd (c 73) ((g 56)).toNatClampNeg x3)) 74) ((g 56)).toNatClampNeg x4)) (updB l 72 (vp_updL (l 72) ((g 56)).toNatClampNeg x1))) (i := .aload_n 0) (len := 1) rfl hj rfl rfl rfl]
  rw [n_get (st' := [.int (g 56), .ref 49]) (pc' := 36) (lv' := [(0, .ref 49), (1, .long x1), (3, .int x3), (4, .int x4)]) (hp' := rH e g q (updA (updA c 73 (upd (c 73) ((g 56)).toNatClampNeg x3)) 74 (upd ((updA c 73 (upd (c 73) ((g 56)).toNatClampNeg x3)) 74) ((g 56)).toNatClampNeg x4)) (updB l 72 (vp_updL (l 72) ((g 56)).toNatClampNeg x1))) (i := .getfield 436) (len := 3) rfl hj rfl rfl rfl rfl]
  rw [n_step (st' := [.int (Int32.ofInt (1)), .int (g 56), .ref 49]) (pc' := 37) (lv' := [(0, .ref 49), (1, .long x1), (3, .int x3), (4, .int x4)]) (hp' := rH e g q (updA (updA c 73 (upd (c 73) ((g 56)).toNatClampNeg x3)) 74 (upd ((updA c 73 (upd (c 73) ((g 56)).toNatClampNeg x3)) 74) ((g 56)).toNatClampNeg x4)) (updB l 72 (vp_updL (l 72) ((g 56)).toNatClampNeg x1))) (i := .iconst 1) (len := 1) rfl hj rfl rfl rfl]
  rw [n_step (st' := [.int ((g 56) + (Int32.ofInt (1))), .ref 49]) (pc' := 38) (lv' := [(0, .ref 49), (1, .long x1), (3, .int x3), (4, .int x4)]) (hp' := rH e g q (updA (updA c 73 (upd (c 73) ((g 56)).toNatClampNeg x3)) 74 (upd ((updA c 73 (upd (c 73) ((g 56)).toNatClampNeg x3)) 74) ((g 56)).toNatClampNeg x4)) (updB l 72 (vp_updL (l 72) ((g 56)).toNatClampNeg x1))) (i := .iadd) (len := 1) rfl hj rfl rfl rfl]
  rw [n_put (st' := []) (hp' := rH e (upd g 56 (((g 56) + (Int32.ofInt (1))))) q (updA (updA c 73 (upd (c 73) ((g 56)).toNatClampNeg x3)) 74 (upd ((updA c 73 (upd (c 73) ((g 56)).toNatClampNeg x3)) 74) ((g 56)).toNatClampNeg x4)) (updB l 72 (vp_updL (l 72) ((g 56)).toNatClampNeg x1))) rfl hj pf_56]
  exact n_ret rfl hj rfl rfl rfl
set_option maxRecDepth 100000 in
set_option maxHeartbeats 4000000 in
theorem bk_357_0 {b : Bool} {d : Nat} {x1 : Int32} {e : Nat → x_E} {g : Nat → Int32} {q : Nat → Int64} {c : Nat → Nat → Int32} {l : Nat → Nat → Int64} {g' : Nat → Int32} {q' : Nat → Int64} {c' : Nat → Nat → Int32} {l' : Nat → Nat → Int64} {v : Int32} {R : Option Value × List x_E} (hc : rr b e d 355 0 [(0, .ref 49), (1, .int (Int8.ofInt (14)).toInt32), (2, .int (Int32.ofInt (0)))] [] g q c l (some (.int v), rH e g' q' c' l')) (h : rr b e (d + 1) 357 12 [(0, .ref 49), (1, .int x1), (2, .int (g 55))] [.int v] g' q' c' l' R) : rr b e (d + 1) 357 0 [(0, .ref 49), (1, .int x1)] [] g q c l R := by
  obtain ⟨f1, hc⟩ := hc
  obtain ⟨f2, h⟩ := h
  obtain ⟨f, hf1, hf2⟩ : ∃ f, f1 ≤ f ∧ f2 ≤ f := ⟨max f1 f2, Nat.le_max_left _ _, Nat.le_max_right _ _⟩
  have hc := nrun_fuel f1 f _ _ _ _ _ _ _ _ _ hf1 hc
  have h := nrun_fuel f2 f _ _ _ _ _ _ _ _ _ hf2 h
  refine ⟨f + 7, ?_⟩
  obtain ⟨y, cb, hj⟩ := mq_357
  rw [n_step (st' := [.ref 49]) (pc' := 1) (lv' := [(0, .ref 49), (1, .int x1)]) (hp' := rH e g q c l) (i := .aload_n 0) (len := 1) rfl hj rfl rfl rfl]
  rw [n_get (st' := [.int (g 55)]) (pc' := 4) (lv' := [(0, .ref 49), (1, .int x1)]) (hp' := rH e g q c l) (i := .getfield 433) (len := 3) rfl hj rfl rfl rfl rfl]
  rw [n_step (st' := []) (pc' := 5) (lv' := [(2, .int (g 55)), (0, .ref 49), (1, .int x1)]) (hp' := rH e g q c l) (i := .istore_n 2) (len := 1) rfl hj rfl rfl rfl]
  rw [n_step (st' := [.ref 49]) (pc' := 6) (lv' := [(2, .int (g 55)), (0, .ref 49), (1, .int x1)]) (hp' := rH e g q c l) (i := .aload_n 0) (len := 1) rfl hj rfl rfl rfl]
  rw [n_step (st' := [.int (Int8.ofInt (14)).toInt32, .ref 49]) (pc' := 8) (lv' := [(2, .int (g 55)), (0, .ref 49), (1, .int x1)]) (hp' := rH e g q c l) (i := .bipush 14) (len := 2) rfl hj rfl rfl rfl]
  rw [n_step (st' := [.int (Int32.ofInt (0)), .int (Int8.ofInt (14)).toInt32, .ref 49]) (pc' := 9) (lv' := [(2, .int (g 55)), (0, .ref 49), (1, .int x1)]) (hp' := rH e g q c l) (i := .iconst 0) (len := 1) rfl hj rfl rfl rfl]
  obtain ⟨y2, cb2, hj2⟩ := mq_355
  rw [n_call (f := f) (d := d) (ki := 0) (idx := 496) (j' := 355) (kd := 0) (M' := (y2, cb2, 3, some .int, 12, 2, 0, 0)) (avs := [.ref 49, .int (Int8.ofInt (14)).toInt32, .int (Int32.ofInt (0))]) (r := []) (rv := some (.int v)) (hp1 := rH e g' q' c' l') rfl hj rfl rfl rfl rfl (rq_n rfl rfl hj2 rfl rfl) rfl hc (Nat.le_of_ble_eq_true rfl)]
  exact nrun_ext f f _ _ R 357 12 [(0, .ref 49), (1, .int x1), (2, .int (g 55))] [(2, .int (g 55)), (0, .ref 49), (1, .int x1)] [.int v] _ 0 0 122 (Nat.le_refl _) (Nat.le_refl _) (Nat.le_of_ble_eq_true rfl) (lvR_mk [0, 1, 2] [2, 0, 1] rfl rfl (by decide) (by decide) (List.forall_mem_cons.mpr ⟨(List.mem_cons_of_mem _ List.mem_cons_self), (List.forall_mem_cons.mpr ⟨(List.mem_cons_of_mem _ (List.mem_cons_of_mem _ List.mem_cons_self)), (List.forall_mem_cons.mpr ⟨List.mem_cons_self, (fun _ h => nomatch h)⟩)⟩)⟩) (List.forall_mem_cons.mpr ⟨Or.inl (List.mem_cons_of_mem _ (List.mem_cons_of_mem _ List.mem_cons_self)), (List.forall_mem_cons.mpr ⟨Or.inl List.mem_cons_self, (List.forall_mem_cons.mpr ⟨Or.inl (List.mem_cons_of_mem _ List.mem_cons_self), (fun _ h => nomatch h)⟩)⟩)⟩)) h
set_option maxRecDepth 100000 in
set_option maxHeartbeats 4000000 in
theorem bk_357_12 {b : Bool} {d : Nat} {t0 x1 x2 : Int32} {e : Nat → x_E} {g : Nat → Int32} {q : Nat → Int64} {c : Nat → Nat → Int32} {l : Nat → Nat → Int64} {R : Option Value × List x_E} (hz0 : ¬ (x1 < 0 ∨ 4000 ≤ (x1).toNatClampNeg)) (hz1 : ¬ (x1 < 0 ∨ 4000 ≤ (x1).toNatClampNeg)) (hz2 : ¬ (x1 < 0 ∨ 4000 ≤ (x1).toNatClampNeg)) (h1 : xCn .eq (((upd g 55 ((c 64 (x1).toNatClampNeg))) 23)) 0 = true → rr b e d 357 63 [] [] (upd g 55 ((c 64 (x1).toNatClampNeg))) q (updA (updA c 64 (upd (c 64) (x1).toNatClampNeg x2)) 63 (upd ((updA c 64 (upd (c 64) (x1).toNatClampNeg x2)) 63) (x1).toNatClampNeg ((g 43)))) l R) (h2 : ¬ xCn .eq (((upd g 55 ((c 64 (x1).toNatClampNeg))) 23)) 0 = true → rr b e d 357 49 [(0, .ref 49), (2, .int x2)] [] (upd g 55 ((c 64 (x1).toNatClampNeg))) q (updA (updA c 64 (upd (c 64) (x1).toNatClampNeg x2)) 63 (upd ((updA c 64 (upd (c 64) (x1).toNatClampNeg x2)) 63) (x1).toNatClampNeg ((g 43)))) l R) : rr b e d 357 12 [(0, .ref 49), (1, .int x1), (2, .int x2)] [.int t0] g q c l R := by
  have key : ∀ f, nrun xZ (xY (xfm b)) xDT (f + 23) d 357 12 [(0, .ref 49), (1, .int x1), (2, .int x2)] [.int t0] (rH e g q c l) 0 0 = nrun xZ (xY (xfm b)) xDT f d 357 (if xCn .eq (((upd g 55 ((c 64 (x1).toNatClampNeg))) 23)) 0 = true then 63 else 49) [(3, .int (c 64 (x1).toNatClampNeg)), (0, .ref 49), (1, .int x1), (2, .int x2)] [] (rH e (upd g 55 ((c 64 (x1).toNatClampNeg))) q (updA (updA c 64 (upd (c 64) (x1).toNatClampNeg x2)) 63 (upd ((updA c 64 (upd (c 64) (x1).toNatClampNeg x2)) 63) (x1).toNatClampNeg ((g 43)))) l) 0 0 := by
    intro f
    obtain ⟨y, cb, hj⟩ := mq_357
    rw [n_step (st' := []) (pc' := 13) (lv' := [(0, .ref 49), (1, .int x1), (2, .int x2)]) (hp' := rH e g q c l) (i := .pop) (len := 1) rfl hj rfl rfl rfl]
    rw [n_step (st' := [.ref 49]) (pc' := 14) (lv' := [(0, .ref 49), (1, .int x1), (2, .int x2)]) (hp' := rH e g q c l) (i := .aload_n 0) (len := 1) rfl hj rfl rfl rfl]
    rw [n_get (st' := [.ref 64]) (pc' := 17) (lv' := [(0, .ref 49), (1, .int x1), (2, .int x2)]) (hp' := rH e g q c l) (i := .getfield 59) (len := 3) rfl hj rfl rfl rfl rfl]
    rw [n_step (st' := [.int x1, .ref 64]) (pc' := 18) (lv' := [(0, .ref 49), (1, .int x1), (2, .int x2)]) (hp' := rH e g q c l) (i := .iload_n 1) (len := 1) rfl hj rfl rfl rfl]
    rw [n_ial (st' := [.int (c 64 (x1).toNatClampNeg)]) rfl hj (ald_64 hz0)]
    rw [n_step (st' := []) (pc' := 20) (lv' := [(3, .int (c 64 (x1).toNatClampNeg)), (0, .ref 49), (1, .int x1), (2, .int x2)]) (hp' := rH e g q c l) (i := .istore_n 3) (len := 1) rfl hj rfl rfl rfl]
    rw [n_step (st' := [.ref 49]) (pc' := 21) (lv' := [(3, .int (c 64 (x1).toNatClampNeg)), (0, .ref 49), (1, .int x1), (2, .int x2)]) (hp' := rH e g q c l) (i := .aload_n 0) (len := 1) rfl hj rfl rfl rfl]
    rw [n_get (st' := [.ref 64]) (pc' := 24) (lv' := [(3, .int (c 64 (x1).toNatClampNeg)), (0, .ref 49), (1, .int x1), (2, .int x2)]) (hp' := rH e g q c l) (i := .getfield 59) (len := 3) rfl hj rfl rfl rfl rfl]
    rw [n_step (st' := [.int x1, .ref 64]) (pc' := 25) (lv' := [(3, .int (c 64 (x1).toNatClampNeg)), (0, .ref 49), (1, .int x1), (2, .int x2)]) (hp' := rH e g q c l) (i := .iload_n 1) (len := 1) rfl hj rfl rfl rfl]
    rw [n_step (st' := [.int x2, .int x1, .ref 64]) (pc' := 26) (lv' := [(3, .int (c 64 (x1).toNatClampNeg)), (0, .ref 49), (1, .int x1), (2, .int x2)]) (hp' := rH e g q c l) (i := .iload_n 2) (len := 1) rfl hj rfl rfl rfl]
    rw [n_ias (st' := []) (hp' := rH e g q (updA c 64 (upd (c 64) (x1).toNatClampNeg x2)) l) rfl hj (ast_64 hz1)]
    rw [n_step (st' := [.ref 49]) (pc' := 28) (lv' := [(3, .int (c 64 (x1).toNatClampNeg)), (0, .ref 49), (1, .int x1), (2, .int x2)]) (hp' := rH e g q (updA c 64 (upd (c 64) (x1).toNatClampNeg x2)) l) (i := .aload_n 0) (len := 1) rfl hj rfl rfl rfl]
    rw [n_get (st' := [.ref 63]) (pc' := 31) (lv' := [(3, .int (c 64 (x1).toNatClampNeg)), (0, .ref 49), (1, .int x1), (2, .int x2)]) (hp' := rH e g q (updA c 64 (upd (c 64) (x1).toNatClampNeg x2)) l) (i := .getfield 56) (len := 3) rfl hj rfl rfl rfl rfl]
    rw [n_step (st' := [.int x1, .ref 63]) (pc' := 32) (lv' := [(3, .int (c 64 (x1).toNatClampNeg)), (0, .ref 49), (1, .int x1), (2, .int x2)]) (hp' := rH e g q (updA c 64 (upd (c 64) (x1).toNatClampNeg x2)) l) (i := .iload_n 1) (len := 1) rfl hj rfl rfl rfl]
    rw [n_step (st' := [.ref 49, .int x1, .ref 63]) (pc' := 33) (lv' := [(3, .int (c 64 (x1).toNatClampNeg)), (0, .ref 49), (1, .int x1), (2, .int x2)]) (hp' := rH e g q (updA c 64 (upd (c 64) (x1).toNatClampNeg x2)) l) (i := .aload_n 0) (len := 1) rfl hj rfl rfl rfl]
    rw [n_get (st' := [.int (g 43), .int x1, .ref 63]) (pc' := 36) (lv' := [(3, .int (c 64 (x1).toNatClampNeg)), (0, .ref 49), (1, .int x1), (2, .int x2)]) (hp' := rH e g q (updA c 64 (upd (c 64) (x1).toNatClampNeg x2)) l) (i := .getfield 430) (len := 3) rfl hj rfl rfl rfl rfl]
    rw [n_ias (st' := []) (hp' := rH e g q (updA (updA c 64 (upd (c 64) (x1).toNatClampNeg x2)) 63 (upd ((updA c 64 (upd (c 64) (x1).toNatClampNeg x2)) 63) (x1).toNatClampNeg ((g 43)))) l) rfl hj (ast_63 hz2)]
    rw [n_step (st' := [.ref 49]) (pc' := 38) (lv' := [(3, .int (c 64 (x1).toNatClampNeg)), (0, .ref 49), (1, .int x1), (2, .int x2)]) (hp' := rH e g q (updA (updA c 64 (upd (c 64) (x1).toNatClampNeg x2)) 63 (upd ((updA c 64 (upd (c 64) (x1).toNatClampNeg x2)) 63) (x1).toNatClampNeg ((g 43)))) l) (i := .aload_n 0) (len := 1) rfl hj rfl rfl rfl]
    rw [n_step (st' := [.int (c 64 (x1).toNatClampNeg), .ref 49]) (pc' := 39) (lv' := [(3, .int (c 64 (x1).toNatClampNeg)), (0, .ref 49), (1, .int x1), (2, .int x2)]) (hp' := rH e g q (updA (updA c 64 (upd (c 64) (x1).toNatClampNeg x2)) 63 (upd ((updA c 64 (upd (c 64) (x1).toNatClampNeg x2)) 63) (x1).toNatClampNeg ((g 43)))) l) (i := .iload_n 3) (len := 1) rfl hj rfl rfl rfl]
    rw [n_put (st' := []) (hp' := rH e (upd g 55 ((c 64 (x1).toNatClampNeg))) q (updA (updA c 64 (upd (c 64) (x1).toNatClampNeg x2)) 63 (upd ((updA c 64 (upd (c 64) (x1).toNatClampNeg x2)) 63) (x1).toNatClampNeg ((g 43)))) l) rfl hj pf_55]
    rw [n_step (st' := [.ref 49]) (pc' := 43) (lv' := [(3, .int (c 64 (x1).toNatClampNeg)), (0, .ref 49), (1, .int x1), (2, .int x2)]) (hp' := rH e (upd g 55 ((c 64 (x1).toNatClampNeg))) q (updA (updA c 64 (upd (c 64) (x1).toNatClampNeg x2)) 63 (upd ((updA c 64 (upd (c 64) (x1).toNatClampNeg x2)) 63) (x1).toNatClampNeg ((g 43)))) l) (i := .aload_n 0) (len := 1) rfl hj rfl rfl rfl]
    rw [n_get (st' := [.int ((upd g 55 ((c 64 (x1).toNatClampNeg))) 23)]) (pc' := 46) (lv' := [(3, .int (c 64 (x1).toNatClampNeg)), (0, .ref 49), (1, .int x1), (2, .int x2)]) (hp' := rH e (upd g 55 ((c 64 (x1).toNatClampNeg))) q (updA (updA c 64 (upd (c 64) (x1).toNatClampNeg x2)) 63 (upd ((updA c 64 (upd (c 64) (x1).toNatClampNeg x2)) 63) (x1).toNatClampNeg ((g 43)))) l) (i := .getfield 325) (len := 3) rfl hj rfl rfl rfl rfl]
    rw [n_step (st' := []) (pc' := (if xCn .eq (((upd g 55 ((c 64 (x1).toNatClampNeg))) 23)) 0 = true then 63 else 49)) (lv' := [(3, .int (c 64 (x1).toNatClampNeg)), (0, .ref 49), (1, .int x1), (2, .int x2)]) (hp' := rH e (upd g 55 ((c 64 (x1).toNatClampNeg))) q (updA (updA c 64 (upd (c 64) (x1).toNatClampNeg x2)) 63 (upd ((updA c 64 (upd (c 64) (x1).toNatClampNeg x2)) 63) (x1).toNatClampNeg ((g 43)))) l) (i := .ifCond .eq 17) (len := 3) rfl hj rfl rfl rfl]
  by_cases hc : xCn .eq (((upd g 55 ((c 64 (x1).toNatClampNeg))) 23)) 0 = true
  · obtain ⟨f, h⟩ := h1 hc
    refine ⟨f + 23, ?_⟩
    rw [key, if_pos hc]
    exact nrun_ext f f _ _ R 357 63 [] [(3, .int (c 64 (x1).toNatClampNeg)), (0, .ref 49), (1, .int x1), (2, .int x2)] [] _ 0 0 122 (Nat.le_refl _) (Nat.le_refl _) (Nat.le_of_ble_eq_true rfl) (lvR_mk [] [3, 0, 1, 2] rfl rfl (by decide) (by decide) (fun _ h => nomatch h) (List.forall_mem_cons.mpr ⟨Or.inr rfl, (List.forall_mem_cons.mpr ⟨Or.inr rfl, (List.forall_mem_cons.mpr ⟨Or.inr rfl, (List.forall_mem_cons.mpr ⟨Or.inr rfl, (fun _ h => nomatch h)⟩)⟩)⟩)⟩)) h
  · obtain ⟨f, h⟩ := h2 hc
    refine ⟨f + 23, ?_⟩
    rw [key, if_neg hc]
    exact nrun_ext f f _ _ R 357 49 [(0, .ref 49), (2, .int x2)] [(3, .int (c 64 (x1).toNatClampNeg)), (0, .ref 49), (1, .int x1), (2, .int x2)] [] _ 0 0 122 (Nat.le_refl _) (Nat.le_refl _) (Nat.le_of_ble_eq_true rfl) (lvR_mk [0, 2] [3, 0, 1, 2] rfl rfl (by decide) (by decide) (List.forall_mem_cons.mpr ⟨(List.mem_cons_of_mem _ List.mem_cons_self), (List.forall_mem_cons.mpr ⟨(List.mem_cons_of_mem _ (List.mem_cons_of_mem _ (List.mem_cons_of_mem _ List.mem_cons_self))), (fun _ h => nomatch h)⟩)⟩) (List.forall_mem_cons.mpr ⟨Or.inr rfl, (List.forall_mem_cons.mpr ⟨Or.inl List.mem_cons_self, (List.forall_mem_cons.mpr ⟨Or.inr rfl, (List.forall_mem_cons.mpr ⟨Or.inl (List.mem_cons_of_mem _ List.mem_cons_self), (fun _ h => nomatch h)⟩)⟩)⟩)⟩)) h
set_option maxRecDepth 100000 in
set_option maxHeartbeats 4000000 in
theorem bk_357_49 {b : Bool} {d : Nat} {x2 : Int32} {e : Nat → x_E} {g : Nat → Int32} {q : Nat → Int64} {c : Nat → Nat → Int32} {l : Nat → Nat → Int64} {g' : Nat → Int32} {q' : Nat → Int64} {c' : Nat → Nat → Int32} {l' : Nat → Nat → Int64} {v : Int32} {R : Option Value × List x_E} (hc : rr b e d 337 0 [(0, .ref 49)] [] g q c l (some (.int v), rH e g' q' c' l')) (h : rr b e (d + 1) 357 53 [(0, .ref 49), (2, .int x2)] [.int v] g' q' c' l' R) : rr b e (d + 1) 357 49 [(0, .ref 49), (2, .int x2)] [] g q c l R := by
  obtain ⟨f1, hc⟩ := hc
  obtain ⟨f2, h⟩ := h
  obtain ⟨f, hf1, hf2⟩ : ∃ f, f1 ≤ f ∧ f2 ≤ f := ⟨max f1 f2, Nat.le_max_left _ _, Nat.le_max_right _ _⟩
  have hc := nrun_fuel f1 f _ _ _ _ _ _ _ _ _ hf1 hc
  have h := nrun_fuel f2 f _ _ _ _ _ _ _ _ _ hf2 h
  refine ⟨f + 2, ?_⟩
  obtain ⟨y, cb, hj⟩ := mq_357
  rw [n_step (st' := [.ref 49]) (pc' := 50) (lv' := [(0, .ref 49), (2, .int x2)]) (hp' := rH e g q c l) (i := .aload_n 0) (len := 1) rfl hj rfl rfl rfl]
  obtain ⟨y2, cb2, hj2⟩ := mq_337
  rw [n_call (f := f) (d := d) (ki := 0) (idx := 337) (j' := 337) (kd := 0) (M' := (y2, cb2, 1, some .boolean, 12, 0, 0, 0)) (avs := [.ref 49]) (r := []) (rv := some (.int v)) (hp1 := rH e g' q' c' l') rfl hj rfl rfl rfl rfl (rq_n rfl rfl hj2 rfl rfl) rfl hc (Nat.le_of_ble_eq_true rfl)]
  exact h
set_option maxRecDepth 100000 in
set_option maxHeartbeats 4000000 in
theorem bk_357_53 {b : Bool} {d : Nat} {t0 x2 : Int32} {e : Nat → x_E} {g : Nat → Int32} {q : Nat → Int64} {c : Nat → Nat → Int32} {l : Nat → Nat → Int64} {R : Option Value × List x_E} (h1 : xCn .ne t0 0 = true → rr b e d 357 63 [] [] g q c l R) (h2 : ¬ xCn .ne t0 0 = true → rr b e d 357 56 [(0, .ref 49), (2, .int x2)] [] g q c l R) : rr b e d 357 53 [(0, .ref 49), (2, .int x2)] [.int t0] g q c l R := by
  have key : ∀ f, nrun xZ (xY (xfm b)) xDT (f + 1) d 357 53 [(0, .ref 49), (2, .int x2)] [.int t0] (rH e g q c l) 0 0 = nrun xZ (xY (xfm b)) xDT f d 357 (if xCn .ne t0 0 = true then 63 else 56) [(0, .ref 49), (2, .int x2)] [] (rH e g q c l) 0 0 := by
    intro f
    obtain ⟨y, cb, hj⟩ := mq_357
    rw [n_step (st' := []) (pc' := (if xCn .ne t0 0 = true then 63 else 56)) (lv' := [(0, .ref 49), (2, .int x2)]) (hp' := rH e g q c l) (i := .ifCond .ne 10) (len := 3) rfl hj rfl rfl rfl]
  by_cases hc : xCn .ne t0 0 = true
  · obtain ⟨f, h⟩ := h1 hc
    refine ⟨f + 1, ?_⟩
    rw [key, if_pos hc]
    exact nrun_ext f f _ _ R 357 63 [] [(0, .ref 49), (2, .int x2)] [] _ 0 0 122 (Nat.le_refl _) (Nat.le_refl _) (Nat.le_of_ble_eq_true rfl) (lvR_mk [] [0, 2] rfl rfl (by decide) (by decide) (fun _ h => nomatch h) (List.forall_mem_cons.mpr ⟨Or.inr rfl, (List.forall_mem_cons.mpr ⟨Or.inr rfl, (fun _ h => nomatch h)⟩)⟩)) h
  · obtain ⟨f, h⟩ := h2 hc
    refine ⟨f + 1, ?_⟩
    rw [key, if_neg hc]
    exact h
set_option maxRecDepth 100000 in
set_option maxHeartbeats 4000000 in
theorem bk_357_56 {b : Bool} {d : Nat} {x2 : Int32} {e : Nat → x_E} {g : Nat → Int32} {q : Nat → Int64} {c : Nat → Nat → Int32} {l : Nat → Nat → Int64} {R : Option Value × List x_E} (h1 : xCn .eq ((g 21)) 0 = true → rr b e d 357 64 [(0, .ref 49), (2, .int x2)] [] g q c l R) (h2 : ¬ xCn .eq ((g 21)) 0 = true → rr b e d 357 63 [] [] g q c l R) : rr b e d 357 56 [(0, .ref 49), (2, .int x2)] [] g q c l R := by
  have key : ∀ f, nrun xZ (xY (xfm b)) xDT (f + 3) d 357 56 [(0, .ref 49), (2, .int x2)] [] (rH e g q c l) 0 0 = nrun xZ (xY (xfm b)) xDT f d 357 (if xCn .eq ((g 21)) 0 = true then 64 else 63) [(0, .ref 49), (2, .int x2)] [] (rH e g q c l) 0 0 := by
    intro f
    obtain ⟨y, cb, hj⟩ := mq_357
    rw [n_step (st' := [.ref 49]) (pc' := 57) (lv' := [(0, .ref 49), (2, .int x2)]) (hp' := rH e g q c l) (i := .aload_n 0) (len := 1) rfl hj rfl rfl rfl]
    rw [n_get (st' := [.int (g 21)]) (pc' := 60) (lv' := [(0, .ref 49), (2, .int x2)]) (hp' := rH e g q c l) (i := .getfield 331) (len := 3) rfl hj rfl rfl rfl rfl]
    rw [n_step (st' := []) (pc' := (if xCn .eq ((g 21)) 0 = true then 64 else 63)) (lv' := [(0, .ref 49), (2, .int x2)]) (hp' := rH e g q c l) (i := .ifCond .eq 4) (len := 3) rfl hj rfl rfl rfl]
  by_cases hc : xCn .eq ((g 21)) 0 = true
  · obtain ⟨f, h⟩ := h1 hc
    refine ⟨f + 3, ?_⟩
    rw [key, if_pos hc]
    exact h
  · obtain ⟨f, h⟩ := h2 hc
    refine ⟨f + 3, ?_⟩
    rw [key, if_neg hc]
    exact nrun_ext f f _ _ R 357 63 [] [(0, .ref 49), (2, .int x2)] [] _ 0 0 122 (Nat.le_refl _) (Nat.le_refl _) (Nat.le_of_ble_eq_true rfl) (lvR_mk [] [0, 2] rfl rfl (by decide) (by decide) (fun _ h => nomatch h) (List.forall_mem_cons.mpr ⟨Or.inr rfl, (List.forall_mem_cons.mpr ⟨Or.inr rfl, (fun _ h => nomatch h)⟩)⟩)) h
set_option maxRecDepth 100000 in
set_option maxHeartbeats 4000000 in
theorem bk_357_63 {b : Bool} {d : Nat} {e : Nat → x_E} {g : Nat → Int32} {q : Nat → Int64} {c : Nat → Nat → Int32} {l : Nat → Nat → Int64} : rr b e d 357 63 [] [] g q c l (none, rH e g q c l) := by
  refine ⟨0 + 1, ?_⟩
  obtain ⟨y, cb, hj⟩ := mq_357
  exact n_ret rfl hj rfl rfl rfl
set_option maxRecDepth 100000 in
set_option maxHeartbeats 4000000 in
theorem bk_357_64 {b : Bool} {d : Nat} {x2 : Int32} {e : Nat → x_E} {g : Nat → Int32} {q : Nat → Int64} {c : Nat → Nat → Int32} {l : Nat → Nat → Int64} {g' : Nat → Int32} {q' : Nat → Int64} {c' : Nat → Nat → Int32} {l' : Nat → Nat → Int64} {R : Option Value × List x_E} (hc : rr b e d 358 0 [(0, .ref 49), (1, .int x2), (2, .int (g 43))] [] g q c l (none, rH e g' q' c' l')) (h : rr b e (d + 1) 357 73 [(0, .ref 49), (2, .int x2)] [] g' q' c' l' R) : rr b e (d + 1) 357 64 [(0, .ref 49), (2, .int x2)] [] g q c l R := by
  obtain ⟨f1, hc⟩ := hc
  obtain ⟨f2, h⟩ := h
  obtain ⟨f, hf1, hf2⟩ : ∃ f, f1 ≤ f ∧ f2 ≤ f := ⟨max f1 f2, Nat.le_max_left _ _, Nat.le_max_right _ _⟩
  have hc := nrun_fuel f1 f _ _ _ _ _ _ _ _ _ hf1 hc
  have h := nrun_fuel f2 f _ _ _ _ _ _ _ _ _ hf2 h
  refine ⟨f + 5, ?_⟩
  obtain ⟨y, cb, hj⟩ := mq_357
  rw [n_step (st' := [.ref 49]) (pc' := 65) (lv' := [(0, .ref 49), (2, .int x2)]) (hp' := rH e g q c l) (i := .aload_n 0) (len := 1) rfl hj rfl rfl rfl]
  rw [n_step (st' := [.int x2, .ref 49]) (pc' := 66) (lv' := [(0, .ref 49), (2, .int x2)]) (hp' := rH e g q c l) (i := .iload_n 2) (len := 1) rfl hj rfl rfl rfl]
  rw [n_step (st' := [.ref 49, .int x2, .ref 49]) (pc' := 67) (lv' := [(0, .ref 49), (2, .int x2)]) (hp' := rH e g q c l) (i := .aload_n 0) (len := 1) rfl hj rfl rfl rfl]
  rw [n_get (st' := [.int (g 43), .int x2, .ref 49]) (pc' := 70) (lv' := [(0, .ref 49), (2, .int x2)]) (hp' := rH e g q c l) (i := .getfield 430) (len := 3) rfl hj rfl rfl rfl rfl]
  obtain ⟨y2, cb2, hj2⟩ := mq_358
  rw [n_call (f := f) (d := d) (ki := 0) (idx := 554) (j' := 358) (kd := 0) (M' := (y2, cb2, 6, none, 12, 2, 0, 0)) (avs := [.ref 49, .int x2, .int (g 43)]) (r := []) (rv := none) (hp1 := rH e g' q' c' l') rfl hj rfl rfl rfl rfl (rq_n rfl rfl hj2 rfl rfl) rfl hc (Nat.le_of_ble_eq_true rfl)]
  exact h
set_option maxRecDepth 100000 in
set_option maxHeartbeats 4000000 in
theorem bk_357_73 {b : Bool} {d : Nat} {x2 : Int32} {e : Nat → x_E} {g : Nat → Int32} {q : Nat → Int64} {c : Nat → Nat → Int32} {l : Nat → Nat → Int64} {R : Option Value × List x_E} (hz0 : ¬ (x2 < 0 ∨ 900 ≤ (x2).toNatClampNeg)) (h1 : xCn .ne ((c 67 (x2).toNatClampNeg)) ((Int32.ofInt (3))) = true → rr b e d 357 87 [(0, .ref 49), (2, .int x2)] [] g q c l R) (h2 : ¬ xCn .ne ((c 67 (x2).toNatClampNeg)) ((Int32.ofInt (3))) = true → rr b e d 357 83 [(0, .ref 49), (2, .int x2)] [] g q c l R) : rr b e d 357 73 [(0, .ref 49), (2, .int x2)] [] g q c l R := by
  have key : ∀ f, nrun xZ (xY (xfm b)) xDT (f + 6) d 357 73 [(0, .ref 49), (2, .int x2)] [] (rH e g q c l) 0 0 = nrun xZ (xY (xfm b)) xDT f d 357 (if xCn .ne ((c 67 (x2).toNatClampNeg)) ((Int32.ofInt (3))) = true then 87 else 83) [(0, .ref 49), (2, .int x2)] [] (rH e g q c l) 0 0 := by
    intro f
    obtain ⟨y, cb, hj⟩ := mq_357
    rw [n_step (st' := [.ref 49]) (pc' := 74) (lv' := [(0, .ref 49), (2, .int x2)]) (hp' := rH e g q c l) (i := .aload_n 0) (len := 1) rfl hj rfl rfl rfl]
    rw [n_get (st' := [.ref 67]) (pc' := 77) (lv' := [(0, .ref 49), (2, .int x2)]) (hp' := rH e g q c l) (i := .getfield 68) (len := 3) rfl hj rfl rfl rfl rfl]
    rw [n_step (st' := [.int x2, .ref 67]) (pc' := 78) (lv' := [(0, .ref 49), (2, .int x2)]) (hp' := rH e g q c l) (i := .iload_n 2) (len := 1) rfl hj rfl rfl rfl]
    rw [n_ial (st' := [.int (c 67 (x2).toNatClampNeg)]) rfl hj (ald_67 hz0)]
    rw [n_step (st' := [.int (Int32.ofInt (3)), .int (c 67 (x2).toNatClampNeg)]) (pc' := 80) (lv' := [(0, .ref 49), (2, .int x2)]) (hp' := rH e g q c l) (i := .iconst 3) (len := 1) rfl hj rfl rfl rfl]
    rw [n_step (st' := []) (pc' := (if xCn .ne ((c 67 (x2).toNatClampNeg)) ((Int32.ofInt (3))) = true then 87 else 83)) (lv' := [(0, .ref 49), (2, .int x2)]) (hp' := rH e g q c l) (i := .if_icmp .ne 7) (len := 3) rfl hj rfl rfl rfl]
  by_cases hc : xCn .ne ((c 67 (x2).toNatClampNeg)) ((Int32.ofInt (3))) = true
  · obtain ⟨f, h⟩ := h1 hc
    refine ⟨f + 6, ?_⟩
    rw [key, if_pos hc]
    exact h
  · obtain ⟨f, h⟩ := h2 hc
    refine ⟨f + 6, ?_⟩
    rw [key, if_neg hc]
    exact h
set_option maxRecDepth 100000 in
set_option maxHeartbeats 4000000 in
theorem bk_357_83 {b : Bool} {d : Nat} {x2 : Int32} {e : Nat → x_E} {g : Nat → Int32} {q : Nat → Int64} {c : Nat → Nat → Int32} {l : Nat → Nat → Int64} {R : Option Value × List x_E} (h : rr b e d 357 118 [(0, .ref 49), (2, .int x2)] [.long (Int64.ofNat 0)] g q c l R) : rr b e d 357 83 [(0, .ref 49), (2, .int x2)] [] g q c l R := by
  obtain ⟨f, h⟩ := h
  refine ⟨f + 2, ?_⟩
  obtain ⟨y, cb, hj⟩ := mq_357
  rw [n_step (st' := [.long (Int64.ofNat 0)]) (pc' := 84) (lv' := [(0, .ref 49), (2, .int x2)]) (hp' := rH e g q c l) (i := .lconst 0) (len := 1) rfl hj rfl rfl rfl]
  rw [n_step (st' := [.long (Int64.ofNat 0)]) (pc' := 118) (lv' := [(0, .ref 49), (2, .int x2)]) (hp' := rH e g q c l) (i := .goto 34) (len := 3) rfl hj rfl rfl rfl]
  exact h
set_option maxRecDepth 100000 in
set_option maxHeartbeats 4000000 in
theorem bk_357_87 {b : Bool} {d : Nat} {x2 : Int32} {e : Nat → x_E} {g : Nat → Int32} {q : Nat → Int64} {c : Nat → Nat → Int32} {l : Nat → Nat → Int64} {R : Option Value × List x_E} (hz0 : ¬ (x2 < 0 ∨ 900 ≤ (x2).toNatClampNeg)) (h1 : xCn .ne ((c 67 (x2).toNatClampNeg)) ((Int32.ofInt (1))) = true → rr b e d 357 108 [(0, .ref 49), (2, .int x2)] [] g q c l R) (h2 : ¬ xCn .ne ((c 67 (x2).toNatClampNeg)) ((Int32.ofInt (1))) = true → rr b e d 357 97 [(0, .ref 49), (2, .int x2)] [] g q c l R) : rr b e d 357 87 [(0, .ref 49), (2, .int x2)] [] g q c l R := by
  have key : ∀ f, nrun xZ (xY (xfm b)) xDT (f + 6) d 357 87 [(0, .ref 49), (2, .int x2)] [] (rH e g q c l) 0 0 = nrun xZ (xY (xfm b)) xDT f d 357 (if xCn .ne ((c 67 (x2).toNatClampNeg)) ((Int32.ofInt (1))) = true then 108 else 97) [(0, .ref 49), (2, .int x2)] [] (rH e g q c l) 0 0 := by
    intro f
    obtain ⟨y, cb, hj⟩ := mq_357
    rw [n_step (st' := [.ref 49]) (pc' := 88) (lv' := [(0, .ref 49), (2, .int x2)]) (hp' := rH e g q c l) (i := .aload_n 0) (len := 1) rfl hj rfl rfl rfl]
    rw [n_get (st' := [.ref 67]) (pc' := 91) (lv' := [(0, .ref 49), (2, .int x2)]) (hp' := rH e g q c l) (i := .getfield 68) (len := 3) rfl hj rfl rfl rfl rfl]
    rw [n_step (st' := [.int x2, .ref 67]) (pc' := 92) (lv' := [(0, .ref 49), (2, .int x2)]) (hp' := rH e g q c l) (i := .iload_n 2) (len := 1) rfl hj rfl rfl rfl]
    rw [n_ial (st' := [.int (c 67 (x2).toNatClampNeg)]) rfl hj (ald_67 hz0)]
    rw [n_step (st' := [.int (Int32.ofInt (1)), .int (c 67 (x2).toNatClampNeg)]) (pc' := 94) (lv' := [(0, .ref 49), (2, .int x2)]) (hp' := rH e g q c l) (i := .iconst 1) (len := 1) rfl hj rfl rfl rfl]
    rw [n_step (st' := []) (pc' := (if xCn .ne ((c 67 (x2).toNatClampNeg)) ((Int32.ofInt (1))) = true then 108 else 97)) (lv' := [(0, .ref 49), (2, .int x2)]) (hp' := rH e g q c l) (i := .if_icmp .ne 14) (len := 3) rfl hj rfl rfl rfl]
  by_cases hc : xCn .ne ((c 67 (x2).toNatClampNeg)) ((Int32.ofInt (1))) = true
  · obtain ⟨f, h⟩ := h1 hc
    refine ⟨f + 6, ?_⟩
    rw [key, if_pos hc]
    exact h
  · obtain ⟨f, h⟩ := h2 hc
    refine ⟨f + 6, ?_⟩
    rw [key, if_neg hc]
    exact h
set_option maxRecDepth 100000 in
set_option maxHeartbeats 4000000 in
theorem bk_357_97 {b : Bool} {d : Nat} {x2 : Int32} {e : Nat → x_E} {g : Nat → Int32} {q : Nat → Int64} {c : Nat → Nat → Int32} {l : Nat → Nat → Int64} {R : Option Value × List x_E} (hz0 : ¬ (x2 < 0 ∨ 900 ≤ (x2).toNatClampNeg)) (h : rr b e d 357 118 [(0, .ref 49), (2, .int x2)] [.long ((Int64.ofNat 1) <<< (((c 69 (x2).toNatClampNeg)).toInt64 &&& 63))] g q c l R) : rr b e d 357 97 [(0, .ref 49), (2, .int x2)] [] g q c l R := by
  obtain ⟨f, h⟩ := h
  refine ⟨f + 7, ?_⟩
  obtain ⟨y, cb, hj⟩ := mq_357
  rw [n_step (st' := [.long (Int64.ofNat 1)]) (pc' := 98) (lv' := [(0, .ref 49), (2, .int x2)]) (hp' := rH e g q c l) (i := .lconst 1) (len := 1) rfl hj rfl rfl rfl]
  rw [n_step (st' := [.ref 49, .long (Int64.ofNat 1)]) (pc' := 99) (lv' := [(0, .ref 49), (2, .int x2)]) (hp' := rH e g q c l) (i := .aload_n 0) (len := 1) rfl hj rfl rfl rfl]
  rw [n_get (st' := [.ref 69, .long (Int64.ofNat 1)]) (pc' := 102) (lv' := [(0, .ref 49), (2, .int x2)]) (hp' := rH e g q c l) (i := .getfield 74) (len := 3) rfl hj rfl rfl rfl rfl]
  rw [n_step (st' := [.int x2, .ref 69, .long (Int64.ofNat 1)]) (pc' := 103) (lv' := [(0, .ref 49), (2, .int x2)]) (hp' := rH e g q c l) (i := .iload_n 2) (len := 1) rfl hj rfl rfl rfl]
  rw [n_ial (st' := [.int (c 69 (x2).toNatClampNeg), .long (Int64.ofNat 1)]) rfl hj (ald_69 hz0)]
  rw [n_step (st' := [.long ((Int64.ofNat 1) <<< (((c 69 (x2).toNatClampNeg)).toInt64 &&& 63))]) (pc' := 105) (lv' := [(0, .ref 49), (2, .int x2)]) (hp' := rH e g q c l) (i := .lshl) (len := 1) rfl hj rfl rfl rfl]
  rw [n_step (st' := [.long ((Int64.ofNat 1) <<< (((c 69 (x2).toNatClampNeg)).toInt64 &&& 63))]) (pc' := 118) (lv' := [(0, .ref 49), (2, .int x2)]) (hp' := rH e g q c l) (i := .goto 13) (len := 3) rfl hj rfl rfl rfl]
  exact h
set_option maxRecDepth 100000 in
set_option maxHeartbeats 4000000 in
theorem bk_357_108 {b : Bool} {d : Nat} {x2 : Int32} {e : Nat → x_E} {g : Nat → Int32} {q : Nat → Int64} {c : Nat → Nat → Int32} {l : Nat → Nat → Int64} {R : Option Value × List x_E} (hz0 : ¬ (x2 < 0 ∨ 900 ≤ (x2).toNatClampNeg)) (h : rr b e d 357 118 [(0, .ref 49), (2, .int x2)] [.long ((3) <<< (((c 69 (x2).toNatClampNeg)).toInt64 &&& 63))] g q c l R) : rr b e d 357 108 [(0, .ref 49), (2, .int x2)] [] g q c l R := by
  obtain ⟨f, h⟩ := h
  refine ⟨f + 6, ?_⟩
  obtain ⟨y, cb, hj⟩ := mq_357
  rw [n_step (st' := [.long (3)]) (pc' := 111) (lv' := [(0, .ref 49), (2, .int x2)]) (hp' := rH e g q c l) (i := .ldc2_w 557) (len := 3) rfl hj rfl rfl rfl]
  rw [n_step (st' := [.ref 49, .long (3)]) (pc' := 112) (lv' := [(0, .ref 49), (2, .int x2)]) (hp' := rH e g q c l) (i := .aload_n 0) (len := 1) rfl hj rfl rfl rfl]
  rw [n_get (st' := [.ref 69, .long (3)]) (pc' := 115) (lv' := [(0, .ref 49), (2, .int x2)]) (hp' := rH e g q c l) (i := .getfield 74) (len := 3) rfl hj rfl rfl rfl rfl]
  rw [n_step (st' := [.int x2, .ref 69, .long (3)]) (pc' := 116) (lv' := [(0, .ref 49), (2, .int x2)]) (hp' := rH e g q c l) (i := .iload_n 2) (len := 1) rfl hj rfl rfl rfl]
  rw [n_ial (st' := [.int (c 69 (x2).toNatClampNeg), .long (3)]) rfl hj (ald_69 hz0)]
  rw [n_step (st' := [.long ((3) <<< (((c 69 (x2).toNatClampNeg)).toInt64 &&& 63))]) (pc' := 118) (lv' := [(0, .ref 49), (2, .int x2)]) (hp' := rH e g q c l) (i := .lshl) (len := 1) rfl hj rfl rfl rfl]
  exact h
set_option maxRecDepth 100000 in
set_option maxHeartbeats 4000000 in
theorem bk_357_118 {b : Bool} {d : Nat} {x2 : Int32} {t0 : Int64} {e : Nat → x_E} {g : Nat → Int32} {q : Nat → Int64} {c : Nat → Nat → Int32} {l : Nat → Nat → Int64} {R : Option Value × List x_E} (hz0 : ¬ (x2 < 0 ∨ 900 ≤ (x2).toNatClampNeg)) (hz1 : ¬ ((c 68 (x2).toNatClampNeg) < 0 ∨ 4000 ≤ ((c 68 (x2).toNatClampNeg)).toNatClampNeg)) (hz2 : ¬ (x2 < 0 ∨ 900 ≤ (x2).toNatClampNeg)) (h1 : xCn .ne ((c 67 (x2).toNatClampNeg)) ((Int32.ofInt (2))) = true → rr b e d 357 168 [(0, .ref 49), (2, .int x2), (4, .long t0), (6, .long (l 66 ((c 68 (x2).toNatClampNeg)).toNatClampNeg))] [.int x2, .ref 71] g q c l R) (h2 : ¬ xCn .ne ((c 67 (x2).toNatClampNeg)) ((Int32.ofInt (2))) = true → rr b e d 357 148 [(0, .ref 49), (2, .int x2), (4, .long t0), (6, .long (l 66 ((c 68 (x2).toNatClampNeg)).toNatClampNeg))] [.int x2, .ref 71] g q c l R) : rr b e d 357 118 [(0, .ref 49), (2, .int x2)] [.long t0] g q c l R := by
  have key : ∀ f, nrun xZ (xY (xfm b)) xDT (f + 18) d 357 118 [(0, .ref 49), (2, .int x2)] [.long t0] (rH e g q c l) 0 0 = nrun xZ (xY (xfm b)) xDT f d 357 (if xCn .ne ((c 67 (x2).toNatClampNeg)) ((Int32.ofInt (2))) = true then 168 else 148) [(6, .long (l 66 ((c 68 (x2).toNatClampNeg)).toNatClampNeg)), (4, .long t0), (0, .ref 49), (2, .int x2)] [.int x2, .ref 71] (rH e g q c l) 0 0 := by
    intro f
    obtain ⟨y, cb, hj⟩ := mq_357
    rw [n_step (st' := []) (pc' := 120) (lv' := [(4, .long t0), (0, .ref 49), (2, .int x2)]) (hp' := rH e g q c l) (i := .lstore 4) (len := 2) rfl hj rfl rfl rfl]
    rw [n_step (st' := [.ref 49]) (pc' := 121) (lv' := [(4, .long t0), (0, .ref 49), (2, .int x2)]) (hp' := rH e g q c l) (i := .aload_n 0) (len := 1) rfl hj rfl rfl rfl]
    rw [n_get (st' := [.ref 66]) (pc' := 124) (lv' := [(4, .long t0), (0, .ref 49), (2, .int x2)]) (hp' := rH e g q c l) (i := .getfield 65) (len := 3) rfl hj rfl rfl rfl rfl]
    rw [n_step (st' := [.ref 49, .ref 66]) (pc' := 125) (lv' := [(4, .long t0), (0, .ref 49), (2, .int x2)]) (hp' := rH e g q c l) (i := .aload_n 0) (len := 1) rfl hj rfl rfl rfl]
    rw [n_get (st' := [.ref 68, .ref 66]) (pc' := 128) (lv' := [(4, .long t0), (0, .ref 49), (2, .int x2)]) (hp' := rH e g q c l) (i := .getfield 71) (len := 3) rfl hj rfl rfl rfl rfl]
    rw [n_step (st' := [.int x2, .ref 68, .ref 66]) (pc' := 129) (lv' := [(4, .long t0), (0, .ref 49), (2, .int x2)]) (hp' := rH e g q c l) (i := .iload_n 2) (len := 1) rfl hj rfl rfl rfl]
    rw [n_ial (st' := [.int (c 68 (x2).toNatClampNeg), .ref 66]) rfl hj (ald_68 hz0)]
    rw [n_lal (st' := [.long (l 66 ((c 68 (x2).toNatClampNeg)).toNatClampNeg)]) rfl hj (all_66 hz1)]
    rw [n_step (st' := []) (pc' := 133) (lv' := [(6, .long (l 66 ((c 68 (x2).toNatClampNeg)).toNatClampNeg)), (4, .long t0), (0, .ref 49), (2, .int x2)]) (hp' := rH e g q c l) (i := .lstore 6) (len := 2) rfl hj rfl rfl rfl]
    rw [n_step (st' := [.ref 49]) (pc' := 134) (lv' := [(6, .long (l 66 ((c 68 (x2).toNatClampNeg)).toNatClampNeg)), (4, .long t0), (0, .ref 49), (2, .int x2)]) (hp' := rH e g q c l) (i := .aload_n 0) (len := 1) rfl hj rfl rfl rfl]
    rw [n_get (st' := [.ref 71]) (pc' := 137) (lv' := [(6, .long (l 66 ((c 68 (x2).toNatClampNeg)).toNatClampNeg)), (4, .long t0), (0, .ref 49), (2, .int x2)]) (hp' := rH e g q c l) (i := .getfield 80) (len := 3) rfl hj rfl rfl rfl rfl]
    rw [n_step (st' := [.int x2, .ref 71]) (pc' := 138) (lv' := [(6, .long (l 66 ((c 68 (x2).toNatClampNeg)).toNatClampNeg)), (4, .long t0), (0, .ref 49), (2, .int x2)]) (hp' := rH e g q c l) (i := .iload_n 2) (len := 1) rfl hj rfl rfl rfl]
    rw [n_step (st' := [.ref 49, .int x2, .ref 71]) (pc' := 139) (lv' := [(6, .long (l 66 ((c 68 (x2).toNatClampNeg)).toNatClampNeg)), (4, .long t0), (0, .ref 49), (2, .int x2)]) (hp' := rH e g q c l) (i := .aload_n 0) (len := 1) rfl hj rfl rfl rfl]
    rw [n_get (st' := [.ref 67, .int x2, .ref 71]) (pc' := 142) (lv' := [(6, .long (l 66 ((c 68 (x2).toNatClampNeg)).toNatClampNeg)), (4, .long t0), (0, .ref 49), (2, .int x2)]) (hp' := rH e g q c l) (i := .getfield 68) (len := 3) rfl hj rfl rfl rfl rfl]
    rw [n_step (st' := [.int x2, .ref 67, .int x2, .ref 71]) (pc' := 143) (lv' := [(6, .long (l 66 ((c 68 (x2).toNatClampNeg)).toNatClampNeg)), (4, .long t0), (0, .ref 49), (2, .int x2)]) (hp' := rH e g q c l) (i := .iload_n 2) (len := 1) rfl hj rfl rfl rfl]
    rw [n_ial (st' := [.int (c 67 (x2).toNatClampNeg), .int x2, .ref 71]) rfl hj (ald_67 hz2)]
    rw [n_step (st' := [.int (Int32.ofInt (2)), .int (c 67 (x2).toNatClampNeg), .int x2, .ref 71]) (pc' := 145) (lv' := [(6, .long (l 66 ((c 68 (x2).toNatClampNeg)).toNatClampNeg)), (4, .long t0), (0, .ref 49), (2, .int x2)]) (hp' := rH e g q c l) (i := .iconst 2) (len := 1) rfl hj rfl rfl rfl]
    rw [n_step (st' := [.int x2, .ref 71]) (pc' := (if xCn .ne ((c 67 (x2).toNatClampNeg)) ((Int32.ofInt (2))) = true then 168 else 148)) (lv' := [(6, .long (l 66 ((c 68 (x2).toNatClampNeg)).toNatClampNeg)), (4, .long t0), (0, .ref 49), (2, .int x2)]) (hp' := rH e g q c l) (i := .if_icmp .ne 23) (len := 3) rfl hj rfl rfl rfl]
  by_cases hc : xCn .ne ((c 67 (x2).toNatClampNeg)) ((Int32.ofInt (2))) = true
  · obtain ⟨f, h⟩ := h1 hc
    refine ⟨f + 18, ?_⟩
    rw [key, if_pos hc]
    exact nrun_ext f f _ _ R 357 168 [(0, .ref 49), (2, .int x2), (4, .long t0), (6, .long (l 66 ((c 68 (x2).toNatClampNeg)).toNatClampNeg))] [(6, .long (l 66 ((c 68 (x2).toNatClampNeg)).toNatClampNeg)), (4, .long t0), (0, .ref 49), (2, .int x2)] [.int x2, .ref 71] _ 0 0 122 (Nat.le_refl _) (Nat.le_refl _) (Nat.le_of_ble_eq_true rfl) (lvR_mk [0, 2, 4, 6] [6, 4, 0, 2] rfl rfl (by decide) (by decide) (List.forall_mem_cons.mpr ⟨(List.mem_cons_of_mem _ (List.mem_cons_of_mem _ List.mem_cons_self)), (List.forall_mem_cons.mpr ⟨(List.mem_cons_of_mem _ (List.mem_cons_of_mem _ (List.mem_cons_of_mem _ List.mem_cons_self))), (List.forall_mem_cons.mpr ⟨(List.mem_cons_of_mem _ List.mem_cons_self), (List.forall_mem_cons.mpr ⟨List.mem_cons_self, (fun _ h => nomatch h)⟩)⟩)⟩)⟩) (List.forall_mem_cons.mpr ⟨Or.inl (List.mem_cons_of_mem _ (List.mem_cons_of_mem _ (List.mem_cons_of_mem _ List.mem_cons_self))), (List.forall_mem_cons.mpr ⟨Or.inl (List.mem_cons_of_mem _ (List.mem_cons_of_mem _ List.mem_cons_self)), (List.forall_mem_cons.mpr ⟨Or.inl List.mem_cons_self, (List.forall_mem_cons.mpr ⟨Or.inl (List.mem_cons_of_mem _ List.mem_cons_self), (fun _ h => nomatch h)⟩)⟩)⟩)⟩)) h
  · obtain ⟨f, h⟩ := h2 hc
    refine ⟨f + 18, ?_⟩
    rw [key, if_neg hc]
    exact nrun_ext f f _ _ R 357 148 [(0, .ref 49), (2, .int x2), (4, .long t0), (6, .long (l 66 ((c 68 (x2).toNatClampNeg)).toNatClampNeg))] [(6, .long (l 66 ((c 68 (x2).toNatClampNeg)).toNatClampNeg)), (4, .long t0), (0, .ref 49), (2, .int x2)] [.int x2, .ref 71] _ 0 0 122 (Nat.le_refl _) (Nat.le_refl _) (Nat.le_of_ble_eq_true rfl) (lvR_mk [0, 2, 4, 6] [6, 4, 0, 2] rfl rfl (by decide) (by decide) (List.forall_mem_cons.mpr ⟨(List.mem_cons_of_mem _ (List.mem_cons_of_mem _ List.mem_cons_self)), (List.forall_mem_cons.mpr ⟨(List.mem_cons_of_mem _ (List.mem_cons_of_mem _ (List.mem_cons_of_mem _ List.mem_cons_self))), (List.forall_mem_cons.mpr ⟨(List.mem_cons_of_mem _ List.mem_cons_self), (List.forall_mem_cons.mpr ⟨List.mem_cons_self, (fun _ h => nomatch h)⟩)⟩)⟩)⟩) (List.forall_mem_cons.mpr ⟨Or.inl (List.mem_cons_of_mem _ (List.mem_cons_of_mem _ (List.mem_cons_of_mem _ List.mem_cons_self))), (List.forall_mem_cons.mpr ⟨Or.inl (List.mem_cons_of_mem _ (List.mem_cons_of_mem _ List.mem_cons_self)), (List.forall_mem_cons.mpr ⟨Or.inl List.mem_cons_self, (List.forall_mem_cons.mpr ⟨Or.inl (List.mem_cons_of_mem _ List.mem_cons_self), (fun _ h => nomatch h)⟩)⟩)⟩)⟩)) h
