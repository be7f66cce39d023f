set_option maxRecDepth 100000 in
set_option maxHeartbeats 4000000 in
theorem bk_316_0 {b : Bool} {f d : Nat} {x1 : Int32} {e : Nat → x_E} {g : Nat → Int32} {q : Nat → Int64} {c : Nat → Nat → Int32} {l : Nat → Nat → Int64} {R : Option Value × List x_E} (h : nrun xZ (xY (xfm b)) xDT f d 316 2 [(0, .ref 49), (1, .int x1), (2, .int (Int32.ofInt (3)))] [] (rH e g q c l) 0 0 = some R) : nrun xZ (xY (xfm b)) xDT (f + 2) d 316 0 [(0, .ref 49), (1, .int x1)] [] (rH e g q c l) 0 0 = some R := by
  obtain ⟨y, cb, hj⟩ := mq_316
  rw [n_step (st' := [.int (Int32.ofInt (3))]) (pc' := 1) (lv' := [(0, .ref 49), (1, .int x1)]) (hp' := rH e g q c l) (i := .iconst 3) (len := 1) rfl hj rfl rfl rfl]
  rw [n_step (st' := []) (pc' := 2) (lv' := [(2, .int (Int32.ofInt (3))), (0, .ref 49), (1, .int x1)]) (hp' := rH e g q c l) (i := .istore_n 2) (len := 1) rfl hj rfl rfl rfl]
  exact nrun_ext f f _ _ R 316 2 [(0, .ref 49), (1, .int x1), (2, .int (Int32.ofInt (3)))] [(2, .int (Int32.ofInt (3))), (0, .ref 49), (1, .int x1)] [] _ 0 0 122 (Nat.le_refl _) (Nat.le_refl _) (Nat.le_of_ble_eq_true rfl) (lvR_mk [0, 1, 2] [2, 0, 1] rfl rfl (by decide) (by decide) (List.forall_mem_cons.mpr ⟨(List.mem_cons_of_mem _ List.mem_cons_self), (List.forall_mem_cons.mpr ⟨(List.mem_cons_of_mem _ (List.mem_cons_of_mem _ List.mem_cons_self)), (List.forall_mem_cons.mpr ⟨List.mem_cons_self, (fun _ h => nomatch h)⟩)⟩)⟩) (List.forall_mem_cons.mpr ⟨Or.inl (List.mem_cons_of_mem _ (List.mem_cons_of_mem _ List.mem_cons_self)), (List.forall_mem_cons.mpr ⟨Or.inl List.mem_cons_self, (List.forall_mem_cons.mpr ⟨Or.inl (List.mem_cons_of_mem _ List.mem_cons_self), (fun _ h => nomatch h)⟩)⟩)⟩)) h
set_option maxRecDepth 100000 in
set_option maxHeartbeats 4000000 in
theorem bk_316_2 {b : Bool} {f d : Nat} {x1 x2 : Int32} {e : Nat → x_E} {g : Nat → Int32} {q : Nat → Int64} {c : Nat → Nat → Int32} {l : Nat → Nat → Int64} {R : Option Value × List x_E} (h1 : xCn .lt x2 0 = true → nrun xZ (xY (xfm b)) xDT f d 316 41 [] [] (rH e g q c l) 0 0 = some R) (h2 : ¬ xCn .lt x2 0 = true → nrun xZ (xY (xfm b)) xDT f d 316 6 [(0, .ref 49), (1, .int x1), (2, .int x2)] [] (rH e g q c l) 0 0 = some R) : nrun xZ (xY (xfm b)) xDT (f + 2) d 316 2 [(0, .ref 49), (1, .int x1), (2, .int x2)] [] (rH e g q c l) 0 0 = some R := by
  obtain ⟨y, cb, hj⟩ := mq_316
  rw [n_step (st' := [.int x2]) (pc' := 3) (lv' := [(0, .ref 49), (1, .int x1), (2, .int x2)]) (hp' := rH e g q c l) (i := .iload_n 2) (len := 1) rfl hj rfl rfl rfl]
  rw [n_step (st' := []) (pc' := (if xCn .lt x2 0 = true then 41 else 6)) (lv' := [(0, .ref 49), (1, .int x1), (2, .int x2)]) (hp' := rH e g q c l) (i := .ifCond .lt 38) (len := 3) rfl hj rfl rfl rfl]
  by_cases hc : xCn .lt x2 0 = true
  · rw [if_pos hc]
    exact nrun_ext f f _ _ R 316 41 [] [(0, .ref 49), (1, .int x1), (2, .int x2)] [] _ 0 0 122 (Nat.le_refl _) (Nat.le_refl _) (Nat.le_of_ble_eq_true rfl) (lvR_mk [] [0, 1, 2] rfl rfl (by decide) (by decide) (fun _ h => nomatch h) (List.forall_mem_cons.mpr ⟨Or.inr rfl, (List.forall_mem_cons.mpr ⟨Or.inr rfl, (List.forall_mem_cons.mpr ⟨Or.inr rfl, (fun _ h => nomatch h)⟩)⟩)⟩)) (h1 hc)
  · rw [if_neg hc]
    exact (h2 hc)
set_option maxRecDepth 100000 in
set_option maxHeartbeats 4000000 in
theorem bk_316_6 {b : Bool} {f d : Nat} {x1 x2 : Int32} {e : Nat → x_E} {g : Nat → Int32} {q : Nat → Int64} {c : Nat → Nat → Int32} {l : Nat → Nat → Int64} {R : Option Value × List x_E} (hz0 : ¬ ((g 1) < 0 ∨ 6000 ≤ ((g 1)).toNatClampNeg)) (h : nrun xZ (xY (xfm b)) xDT f d 316 2 [(0, .ref 49), (1, .int x1), (2, .int (x2 + Int32.ofInt (-1)))] [] (rH e (upd g 1 (((g 1) + (Int32.ofInt (1))))) q (updA c 50 (upd (c 50) ((g 1)).toNatClampNeg (((x1 >>> (((Int8.ofInt (8)).toInt32 * x2) &&& 31)) &&& (Int16.ofInt (255)).toInt32)))) l) 0 0 = some R) : nrun xZ (xY (xfm b)) xDT (f + 20) d 316 6 [(0, .ref 49), (1, .int x1), (2, .int x2)] [] (rH e g q c l) 0 0 = some R := by
  obtain ⟨y, cb, hj⟩ := mq_316
  rw [n_step (st' := [.ref 49]) (pc' := 7) (lv' := [(0, .ref 49), (1, .int x1), (2, .int x2)]) (hp' := rH e g q c l) (i := .aload_n 0) (len := 1) rfl hj rfl rfl rfl]
  rw [n_get (st' := [.ref 50]) (pc' := 10) (lv' := [(0, .ref 49), (1, .int x1), (2, .int x2)]) (hp' := rH e g q c l) (i := .getfield 7) (len := 3) rfl hj rfl rfl rfl rfl]
  rw [n_step (st' := [.ref 49, .ref 50]) (pc' := 11) (lv' := [(0, .ref 49), (1, .int x1), (2, .int x2)]) (hp' := rH e g q c l) (i := .aload_n 0) (len := 1) rfl hj rfl rfl rfl]
  rw [n_get (st' := [.int (g 1), .ref 50]) (pc' := 14) (lv' := [(0, .ref 49), (1, .int x1), (2, .int x2)]) (hp' := rH e g q c l) (i := .getfield 237) (len := 3) rfl hj rfl rfl rfl rfl]
  rw [n_step (st' := [.int x1, .int (g 1), .ref 50]) (pc' := 15) (lv' := [(0, .ref 49), (1, .int x1), (2, .int x2)]) (hp' := rH e g q c l) (i := .iload_n 1) (len := 1) rfl hj rfl rfl rfl]
  rw [n_step (st' := [.int (Int8.ofInt (8)).toInt32, .int x1, .int (g 1), .ref 50]) (pc' := 17) (lv' := [(0, .ref 49), (1, .int x1), (2, .int x2)]) (hp' := rH e g q c l) (i := .bipush 8) (len := 2) rfl hj rfl rfl rfl]
  rw [n_step (st' := [.int x2, .int (Int8.ofInt (8)).toInt32, .int x1, .int (g 1), .ref 50]) (pc' := 18) (lv' := [(0, .ref 49), (1, .int x1), (2, .int x2)]) (hp' := rH e g q c l) (i := .iload_n 2) (len := 1) rfl hj rfl rfl rfl]
  rw [n_step (st' := [.int ((Int8.ofInt (8)).toInt32 * x2), .int x1, .int (g 1), .ref 50]) (pc' := 19) (lv' := [(0, .ref 49), (1, .int x1), (2, .int x2)]) (hp' := rH e g q c l) (i := .imul) (len := 1) rfl hj rfl rfl rfl]
  rw [n_step (st' := [.int (x1 >>> (((Int8.ofInt (8)).toInt32 * x2) &&& 31)), .int (g 1), .ref 50]) (pc' := 20) (lv' := [(0, .ref 49), (1, .int x1), (2, .int x2)]) (hp' := rH e g q c l) (i := .ishr) (len := 1) rfl hj rfl rfl rfl]
  rw [n_step (st' := [.int (Int16.ofInt (255)).toInt32, .int (x1 >>> (((Int8.ofInt (8)).toInt32 * x2) &&& 31)), .int (g 1), .ref 50]) (pc' := 23) (lv' := [(0, .ref 49), (1, .int x1), (2, .int x2)]) (hp' := rH e g q c l) (i := .sipush 255) (len := 3) rfl hj rfl rfl rfl]
  rw [n_step (st' := [.int ((x1 >>> (((Int8.ofInt (8)).toInt32 * x2) &&& 31)) &&& (Int16.ofInt (255)).toInt32), .int (g 1), .ref 50]) (pc' := 24) (lv' := [(0, .ref 49), (1, .int x1), (2, .int x2)]) (hp' := rH e g q c l) (i := .iand) (len := 1) rfl hj rfl rfl rfl]
  rw [n_ias (st' := []) (hp' := rH e g q (updA c 50 (upd (c 50) ((g 1)).toNatClampNeg (((x1 >>> (((Int8.ofInt (8)).toInt32 * x2) &&& 31)) &&& (Int16.ofInt (255)).toInt32)))) l) rfl hj (ast_50 hz0)]
  rw [n_step (st' := [.ref 49]) (pc' := 26) (lv' := [(0, .ref 49), (1, .int x1), (2, .int x2)]) (hp' := rH e g q (updA c 50 (upd (c 50) ((g 1)).toNatClampNeg (((x1 >>> (((Int8.ofInt (8)).toInt32 * x2) &&& 31)) &&& (Int16.ofInt (255)).toInt32)))) l) (i := .aload_n 0) (len := 1) rfl hj rfl rfl rfl]
  rw [n_step (st' := [.ref 49, .ref 49]) (pc' := 27) (lv' := [(0, .ref 49), (1, .int x1), (2, .int x2)]) (hp' := rH e g q (updA c 50 (upd (c 50) ((g 1)).toNatClampNeg (((x1 >>> (((Int8.ofInt (8)).toInt32 * x2) &&& 31)) &&& (Int16.ofInt (255)).toInt32)))) l) (i := .aload_n 0) (len := 1) rfl hj rfl rfl rfl]
  rw [n_get (st' := [.int (g 1), .ref 49]) (pc' := 30) (lv' := [(0, .ref 49), (1, .int x1), (2, .int x2)]) (hp' := rH e g q (updA c 50 (upd (c 50) ((g 1)).toNatClampNeg (((x1 >>> (((Int8.ofInt (8)).toInt32 * x2) &&& 31)) &&& (Int16.ofInt (255)).toInt32)))) l) (i := .getfield 237) (len := 3) rfl hj rfl rfl rfl rfl]
  rw [n_step (st' := [.int (Int32.ofInt (1)), .int (g 1), .ref 49]) (pc' := 31) (lv' := [(0, .ref 49), (1, .int x1), (2, .int x2)]) (hp' := rH e g q (updA c 50 (upd (c 50) ((g 1)).toNatClampNeg (((x1 >>> (((Int8.ofInt (8)).toInt32 * x2) &&& 31)) &&& (Int16.ofInt (255)).toInt32)))) l) (i := .iconst 1) (len := 1) rfl hj rfl rfl rfl]
  rw [n_step (st' := [.int ((g 1) + (Int32.ofInt (1))), .ref 49]) (pc' := 32) (lv' := [(0, .ref 49), (1, .int x1), (2, .int x2)]) (hp' := rH e g q (updA c 50 (upd (c 50) ((g 1)).toNatClampNeg (((x1 >>> (((Int8.ofInt (8)).toInt32 * x2) &&& 31)) &&& (Int16.ofInt (255)).toInt32)))) l) (i := .iadd) (len := 1) rfl hj rfl rfl rfl]
  rw [n_put (st' := []) (hp' := rH e (upd g 1 (((g 1) + (Int32.ofInt (1))))) q (updA c 50 (upd (c 50) ((g 1)).toNatClampNeg (((x1 >>> (((Int8.ofInt (8)).toInt32 * x2) &&& 31)) &&& (Int16.ofInt (255)).toInt32)))) l) rfl hj pf_1]
  rw [n_step (st' := []) (pc' := 38) (lv' := [(2, .int (x2 + Int32.ofInt (-1))), (0, .ref 49), (1, .int x1)]) (hp' := rH e (upd g 1 (((g 1) + (Int32.ofInt (1))))) q (updA c 50 (upd (c 50) ((g 1)).toNatClampNeg (((x1 >>> (((Int8.ofInt (8)).toInt32 * x2) &&& 31)) &&& (Int16.ofInt (255)).toInt32)))) l) (i := .iinc 2 (-1)) (len := 3) rfl hj rfl rfl rfl]
  rw [n_step (st' := []) (pc' := 2) (lv' := [(2, .int (x2 + Int32.ofInt (-1))), (0, .ref 49), (1, .int x1)]) (hp' := rH e (upd g 1 (((g 1) + (Int32.ofInt (1))))) q (updA c 50 (upd (c 50) ((g 1)).toNatClampNeg (((x1 >>> (((Int8.ofInt (8)).toInt32 * x2) &&& 31)) &&& (Int16.ofInt (255)).toInt32)))) l) (i := .goto (-36)) (len := 3) rfl hj rfl rfl rfl]
  exact nrun_ext f f _ _ R 316 2 [(0, .ref 49), (1, .int x1), (2, .int (x2 + Int32.ofInt (-1)))] [(2, .int (x2 + Int32.ofInt (-1))), (0, .ref 49), (1, .int x1)] [] _ 0 0 122 (Nat.le_refl _) (Nat.le_refl _) (Nat.le_of_ble_eq_true rfl) (lvR_mk [0, 1, 2] [2, 0, 1] rfl rfl (by decide) (by decide) (List.forall_mem_cons.mpr ⟨(List.mem_cons_of_mem _ List.mem_cons_self), (List.forall_mem_cons.mpr ⟨(List.mem_cons_of_mem _ (List.mem_cons_of_mem _ List.mem_cons_self)), (List.forall_mem_cons.mpr ⟨List.mem_cons_self, (fun _ h => nomatch h)⟩)⟩)⟩) (List.forall_mem_cons.mpr ⟨Or.inl (List.mem_cons_of_mem _ (List.mem_cons_of_mem _ List.mem_cons_self)), (List.forall_mem_cons.mpr ⟨Or.inl List.mem_cons_self, (List.forall_mem_cons.mpr ⟨Or.inl (List.mem_cons_of_mem _ List.mem_cons_self), (fun _ h => nomatch h)⟩)⟩)⟩)) h
set_option maxRecDepth 100000 in
set_option maxHeartbeats 4000000 in
theorem bk_316_41 {b : Bool} {f d : Nat} {e : Nat → x_E} {g : Nat → Int32} {q : Nat → Int64} {c : Nat → Nat → Int32} {l : Nat → Nat → Int64} : nrun xZ (xY (xfm b)) xDT (f + 1) d 316 41 [] [] (rH e g q c l) 0 0 = some (none, rH e g q c l) := by
  obtain ⟨y, cb, hj⟩ := mq_316
  exact n_ret rfl hj rfl rfl rfl
set_option maxRecDepth 100000 in
set_option maxHeartbeats 4000000 in
theorem bk_315_0 {b : Bool} {f d : Nat} {x1 x2 x3 x4 x5 : Int32} {e : Nat → x_E} {g : Nat → Int32} {q : Nat → Int64} {c : Nat → Nat → Int32} {l : Nat → Nat → Int64} {R : Option Value × List x_E} (h1 : xCn .le (((g 1) + (Int8.ofInt (20)).toInt32)) ((Int16.ofInt (6000)).toInt32) = true → nrun xZ (xY (xfm b)) xDT f d 315 15 [(0, .ref 49), (1, .int x1), (2, .int x2), (3, .int x3), (4, .int x4), (5, .int x5)] [] (rH e g q c l) 0 0 = some R) (h2 : ¬ xCn .le (((g 1) + (Int8.ofInt (20)).toInt32)) ((Int16.ofInt (6000)).toInt32) = true → nrun xZ (xY (xfm b)) xDT f d 315 13 [] [] (rH e g q c l) 0 0 = some R) : nrun xZ (xY (xfm b)) xDT (f + 6) d 315 0 [(0, .ref 49), (1, .int x1), (2, .int x2), (3, .int x3), (4, .int x4), (5, .int x5)] [] (rH e g q c l) 0 0 = some R := by
  obtain ⟨y, cb, hj⟩ := mq_315
  rw [n_step (st' := [.ref 49]) (pc' := 1) (lv' := [(0, .ref 49), (1, .int x1), (2, .int x2), (3, .int x3), (4, .int x4), (5, .int x5)]) (hp' := rH e g q c l) (i := .aload_n 0) (len := 1) rfl hj rfl rfl rfl]
  rw [n_get (st' := [.int (g 1)]) (pc' := 4) (lv' := [(0, .ref 49), (1, .int x1), (2, .int x2), (3, .int x3), (4, .int x4), (5, .int x5)]) (hp' := rH e g q c l) (i := .getfield 237) (len := 3) rfl hj rfl rfl rfl rfl]
  rw [n_step (st' := [.int (Int8.ofInt (20)).toInt32, .int (g 1)]) (pc' := 6) (lv' := [(0, .ref 49), (1, .int x1), (2, .int x2), (3, .int x3), (4, .int x4), (5, .int x5)]) (hp' := rH e g q c l) (i := .bipush 20) (len := 2) rfl hj rfl rfl rfl]
  rw [n_step (st' := [.int ((g 1) + (Int8.ofInt (20)).toInt32)]) (pc' := 7) (lv' := [(0, .ref 49), (1, .int x1), (2, .int x2), (3, .int x3), (4, .int x4), (5, .int x5)]) (hp' := rH e g q c l) (i := .iadd) (len := 1) rfl hj rfl rfl rfl]
  rw [n_step (st' := [.int (Int16.ofInt (6000)).toInt32, .int ((g 1) + (Int8.ofInt (20)).toInt32)]) (pc' := 10) (lv' := [(0, .ref 49), (1, .int x1), (2, .int x2), (3, .int x3), (4, .int x4), (5, .int x5)]) (hp' := rH e g q c l) (i := .sipush 6000) (len := 3) rfl hj rfl rfl rfl]
  rw [n_step (st' := []) (pc' := (if xCn .le (((g 1) + (Int8.ofInt (20)).toInt32)) ((Int16.ofInt (6000)).toInt32) = true then 15 else 13)) (lv' := [(0, .ref 49), (1, .int x1), (2, .int x2), (3, .int x3), (4, .int x4), (5, .int x5)]) (hp' := rH e g q c l) (i := .if_icmp .le 5) (len := 3) rfl hj rfl rfl rfl]
  by_cases hc : xCn .le (((g 1) + (Int8.ofInt (20)).toInt32)) ((Int16.ofInt (6000)).toInt32) = true
  · rw [if_pos hc]
    exact (h1 hc)
  · rw [if_neg hc]
    exact nrun_ext f f _ _ R 315 13 [] [(0, .ref 49), (1, .int x1), (2, .int x2), (3, .int x3), (4, .int x4), (5, .int x5)] [] _ 0 0 122 (Nat.le_refl _) (Nat.le_refl _) (Nat.le_of_ble_eq_true rfl) (lvR_mk [] [0, 1, 2, 3, 4, 5] rfl rfl (by decide) (by decide) (fun _ h => nomatch h) (List.forall_mem_cons.mpr ⟨Or.inr rfl, (List.forall_mem_cons.mpr ⟨Or.inr rfl, (List.forall_mem_cons.mpr ⟨Or.inr rfl, (List.forall_mem_cons.mpr ⟨Or.inr rfl, (List.forall_mem_cons.mpr ⟨Or.inr rfl, (List.forall_mem_cons.mpr ⟨Or.inr rfl, (fun _ h => nomatch h)⟩)⟩)⟩)⟩)⟩)⟩)) (h2 hc)
set_option maxRecDepth 100000 in
set_option maxHeartbeats 4000000 in
theorem bk_315_13 {b : Bool} {f d : Nat} {e : Nat → x_E} {g : Nat → Int32} {q : Nat → Int64} {c : Nat → Nat → Int32} {l : Nat → Nat → Int64} : nrun xZ (xY (xfm b)) xDT (f + 2) d 315 13 [] [] (rH e g q c l) 0 0 = some (some (.int (Int32.ofInt (0))), rH e g q c l) := by
  obtain ⟨y, cb, hj⟩ := mq_315
  rw [n_step (st' := [.int (Int32.ofInt (0))]) (pc' := 14) (lv' := []) (hp' := rH e g q c l) (i := .iconst 0) (len := 1) rfl hj rfl rfl rfl]
  exact n_ret rfl hj rfl rfl (x_ret rfl)
set_option maxRecDepth 100000 in
set_option maxHeartbeats 4000000 in
theorem bk_315_15 {b : Bool} {f d : Nat} {x1 x2 x3 x4 x5 : Int32} {e : Nat → x_E} {g : Nat → Int32} {q : Nat → Int64} {c : Nat → Nat → Int32} {l : Nat → Nat → Int64} {g' : Nat → Int32} {q' : Nat → Int64} {c' : Nat → Nat → Int32} {l' : Nat → Nat → Int64} {R : Option Value × List x_E} (hc : nrun xZ (xY (xfm b)) xDT f d 316 0 (lv_args 0 [.ref 49, .int x1]) [] (rH e g q c l) 0 0 = some (none, rH e g' q' c' l')) (h : nrun xZ (xY (xfm b)) xDT f (d + 1) 315 20 [(0, .ref 49), (2, .int x2), (3, .int x3), (4, .int x4), (5, .int x5)] [] (rH e g' q' c' l') 0 0 = some R) : nrun xZ (xY (xfm b)) xDT (f + 3) (d + 1) 315 15 [(0, .ref 49), (1, .int x1), (2, .int x2), (3, .int x3), (4, .int x4), (5, .int x5)] [] (rH e g q c l) 0 0 = some R := by
  obtain ⟨y, cb, hj⟩ := mq_315
  rw [n_step (st' := [.ref 49]) (pc' := 16) (lv' := [(0, .ref 49), (1, .int x1), (2, .int x2), (3, .int x3), (4, .int x4), (5, .int x5)]) (hp' := rH e g q c l) (i := .aload_n 0) (len := 1) rfl hj rfl rfl rfl]
  rw [n_step (st' := [.int x1, .ref 49]) (pc' := 17) (lv' := [(0, .ref 49), (1, .int x1), (2, .int x2), (3, .int x3), (4, .int x4), (5, .int x5)]) (hp' := rH e g q c l) (i := .iload_n 1) (len := 1) rfl hj rfl rfl rfl]
  obtain ⟨y2, cb2, hj2⟩ := mq_316
  rw [n_call (f := f) (d := d) (ki := 0) (idx := 240) (j' := 316) (kd := 0) (M' := (y2, cb2, 3, none, 12, 1, 0, 0)) (avs := [.ref 49, .int x1]) (r := []) (rv := none) (hp1 := rH e g' q' c' l') rfl hj rfl rfl rfl rfl (rq_n rfl rfl hj2 rfl rfl) rfl hc (Nat.le_of_ble_eq_true rfl)]
  exact nrun_ext f f _ _ R 315 20 [(0, .ref 49), (2, .int x2), (3, .int x3), (4, .int x4), (5, .int x5)] [(0, .ref 49), (1, .int x1), (2, .int x2), (3, .int x3), (4, .int x4), (5, .int x5)] [] _ 0 0 122 (Nat.le_refl _) (Nat.le_refl _) (Nat.le_of_ble_eq_true rfl) (lvR_mk [0, 2, 3, 4, 5] [0, 1, 2, 3, 4, 5] rfl rfl (by decide) (by decide) (List.forall_mem_cons.mpr ⟨List.mem_cons_self, (List.forall_mem_cons.mpr ⟨(List.mem_cons_of_mem _ (List.mem_cons_of_mem _ List.mem_cons_self)), (List.forall_mem_cons.mpr ⟨(List.mem_cons_of_mem _ (List.mem_cons_of_mem _ (List.mem_cons_of_mem _ List.mem_cons_self))), (List.forall_mem_cons.mpr ⟨(List.mem_cons_of_mem _ (List.mem_cons_of_mem _ (List.mem_cons_of_mem _ (List.mem_cons_of_mem _ List.mem_cons_self)))), (List.forall_mem_cons.mpr ⟨(List.mem_cons_of_mem _ (List.mem_cons_of_mem _ (List.mem_cons_of_mem _ (List.mem_cons_of_mem _ (List.mem_cons_of_mem _ List.mem_cons_self))))), (fun _ h => nomatch h)⟩)⟩)⟩)⟩)⟩) (List.forall_mem_cons.mpr ⟨Or.inl List.mem_cons_self, (List.forall_mem_cons.mpr ⟨Or.inr rfl, (List.forall_mem_cons.mpr ⟨Or.inl (List.mem_cons_of_mem _ List.mem_cons_self), (List.forall_mem_cons.mpr ⟨Or.inl (List.mem_cons_of_mem _ (List.mem_cons_of_mem _ List.mem_cons_self)), (List.forall_mem_cons.mpr ⟨Or.inl (List.mem_cons_of_mem _ (List.mem_cons_of_mem _ (List.mem_cons_of_mem _ List.mem_cons_self))), (List.forall_mem_cons.mpr ⟨Or.inl (List.mem_cons_of_mem _ (List.mem_cons_of_mem _ (List.mem_cons_of_mem _ (List.mem_cons_of_mem _ List.mem_cons_self)))), (fun _ h => nomatch h)⟩)⟩)⟩)⟩)⟩)⟩)) h
set_option maxRecDepth 100000 in
set_option maxHeartbeats 4000000 in
theorem bk_315_20 {b : Bool} {f d : Nat} {x2 x3 x4 x5 : Int32} {e : Nat → x_E} {g : Nat → Int32} {q : Nat → Int64} {c : Nat → Nat → Int32} {l : Nat → Nat → Int64} {g' : Nat → Int32} {q' : Nat → Int64} {c' : Nat → Nat → Int32} {l' : Nat → Nat → Int64} {R : Option Value × List x_E} (hc : nrun xZ (xY (xfm b)) xDT f d 316 0 (lv_args 0 [.ref 49, .int x2]) [] (rH e g q c l) 0 0 = some (none, rH e g' q' c' l')) (h : nrun xZ (xY (xfm b)) xDT f (d + 1) 315 25 [(0, .ref 49), (3, .int x3), (4, .int x4), (5, .int x5)] [] (rH e g' q' c' l') 0 0 = some R) : nrun xZ (xY (xfm b)) xDT (f + 3) (d + 1) 315 20 [(0, .ref 49), (2, .int x2), (3, .int x3), (4, .int x4), (5, .int x5)] [] (rH e g q c l) 0 0 = some R := by
  obtain ⟨y, cb, hj⟩ := mq_315
  rw [n_step (st' := [.ref 49]) (pc' := 21) (lv' := [(0, .ref 49), (2, .int x2), (3, .int x3), (4, .int x4), (5, .int x5)]) (hp' := rH e g q c l) (i := .aload_n 0) (len := 1) rfl hj rfl rfl rfl]
  rw [n_step (st' := [.int x2, .ref 49]) (pc' := 22) (lv' := [(0, .ref 49), (2, .int x2), (3, .int x3), (4, .int x4), (5, .int x5)]) (hp' := rH e g q c l) (i := .iload_n 2) (len := 1) rfl hj rfl rfl rfl]
  obtain ⟨y2, cb2, hj2⟩ := mq_316
  rw [n_call (f := f) (d := d) (ki := 0) (idx := 240) (j' := 316) (kd := 0) (M' := (y2, cb2, 3, none, 12, 1, 0, 0)) (avs := [.ref 49, .int x2]) (r := []) (rv := none) (hp1 := rH e g' q' c' l') rfl hj rfl rfl rfl rfl (rq_n rfl rfl hj2 rfl rfl) rfl hc (Nat.le_of_ble_eq_true rfl)]
  exact nrun_ext f f _ _ R 315 25 [(0, .ref 49), (3, .int x3), (4, .int x4), (5, .int x5)] [(0, .ref 49), (2, .int x2), (3, .int x3), (4, .int x4), (5, .int x5)] [] _ 0 0 122 (Nat.le_refl _) (Nat.le_refl _) (Nat.le_of_ble_eq_true rfl) (lvR_mk [0, 3, 4, 5] [0, 2, 3, 4, 5] rfl rfl (by decide) (by decide) (List.forall_mem_cons.mpr ⟨List.mem_cons_self, (List.forall_mem_cons.mpr ⟨(List.mem_cons_of_mem _ (List.mem_cons_of_mem _ List.mem_cons_self)), (List.forall_mem_cons.mpr ⟨(List.mem_cons_of_mem _ (List.mem_cons_of_mem _ (List.mem_cons_of_mem _ List.mem_cons_self))), (List.forall_mem_cons.mpr ⟨(List.mem_cons_of_mem _ (List.mem_cons_of_mem _ (List.mem_cons_of_mem _ (List.mem_cons_of_mem _ List.mem_cons_self)))), (fun _ h => nomatch h)⟩)⟩)⟩)⟩) (List.forall_mem_cons.mpr ⟨Or.inl List.mem_cons_self, (List.forall_mem_cons.mpr ⟨Or.inr rfl, (List.forall_mem_cons.mpr ⟨Or.inl (List.mem_cons_of_mem _ List.mem_cons_self), (List.forall_mem_cons.mpr ⟨Or.inl (List.mem_cons_of_mem _ (List.mem_cons_of_mem _ List.mem_cons_self)), (List.forall_mem_cons.mpr ⟨Or.inl (List.mem_cons_of_mem _ (List.mem_cons_of_mem _ (List.mem_cons_of_mem _ List.mem_cons_self))), (fun _ h => nomatch h)⟩)⟩)⟩)⟩)⟩)) h
set_option maxRecDepth 100000 in
set_option maxHeartbeats 4000000 in
theorem bk_315_25 {b : Bool} {f d : Nat} {x3 x4 x5 : Int32} {e : Nat → x_E} {g : Nat → Int32} {q : Nat → Int64} {c : Nat → Nat → Int32} {l : Nat → Nat → Int64} {g' : Nat → Int32} {q' : Nat → Int64} {c' : Nat → Nat → Int32} {l' : Nat → Nat → Int64} {R : Option Value × List x_E} (hc : nrun xZ (xY (xfm b)) xDT f d 316 0 (lv_args 0 [.ref 49, .int x3]) [] (rH e g q c l) 0 0 = some (none, rH e g' q' c' l')) (h : nrun xZ (xY (xfm b)) xDT f (d + 1) 315 30 [(0, .ref 49), (4, .int x4), (5, .int x5)] [] (rH e g' q' c' l') 0 0 = some R) : nrun xZ (xY (xfm b)) xDT (f + 3) (d + 1) 315 25 [(0, .ref 49), (3, .int x3), (4, .int x4), (5, .int x5)] [] (rH e g q c l) 0 0 = some R := by
  obtain ⟨y, cb, hj⟩ := mq_315
  rw [n_step (st' := [.ref 49]) (pc' := 26) (lv' := [(0, .ref 49), (3, .int x3), (4, .int x4), (5, .int x5)]) (hp' := rH e g q c l) (i := .aload_n 0) (len := 1) rfl hj rfl rfl rfl]
  rw [n_step (st' := [.int x3, .ref 49]) (pc' := 27) (lv' := [(0, .ref 49), (3, .int x3), (4, .int x4), (5, .int x5)]) (hp' := rH e g q c l) (i := .iload_n 3) (len := 1) rfl hj rfl rfl rfl]
  obtain ⟨y2, cb2, hj2⟩ := mq_316
  rw [n_call (f := f) (d := d) (ki := 0) (idx := 240) (j' := 316) (kd := 0) (M' := (y2, cb2, 3, none, 12, 1, 0, 0)) (avs := [.ref 49, .int x3]) (r := []) (rv := none) (hp1 := rH e g' q' c' l') rfl hj rfl rfl rfl rfl (rq_n rfl rfl hj2 rfl rfl) rfl hc (Nat.le_of_ble_eq_true rfl)]
  exact nrun_ext f f _ _ R 315 30 [(0, .ref 49), (4, .int x4), (5, .int x5)] [(0, .ref 49), (3, .int x3), (4, .int x4), (5, .int x5)] [] _ 0 0 122 (Nat.le_refl _) (Nat.le_refl _) (Nat.le_of_ble_eq_true rfl) (lvR_mk [0, 4, 5] [0, 3, 4, 5] rfl rfl (by decide) (by decide) (List.forall_mem_cons.mpr ⟨List.mem_cons_self, (List.forall_mem_cons.mpr ⟨(List.mem_cons_of_mem _ (List.mem_cons_of_mem _ List.mem_cons_self)), (List.forall_mem_cons.mpr ⟨(List.mem_cons_of_mem _ (List.mem_cons_of_mem _ (List.mem_cons_of_mem _ List.mem_cons_self))), (fun _ h => nomatch h)⟩)⟩)⟩) (List.forall_mem_cons.mpr ⟨Or.inl List.mem_cons_self, (List.forall_mem_cons.mpr ⟨Or.inr rfl, (List.forall_mem_cons.mpr ⟨Or.inl (List.mem_cons_of_mem _ List.mem_cons_self), (List.forall_mem_cons.mpr ⟨Or.inl (List.mem_cons_of_mem _ (List.mem_cons_of_mem _ List.mem_cons_self)), (fun _ h => nomatch h)⟩)⟩)⟩)⟩)) h
set_option maxRecDepth 100000 in
set_option maxHeartbeats 4000000 in
theorem bk_315_30 {b : Bool} {f d : Nat} {x4 x5 : Int32} {e : Nat → x_E} {g : Nat → Int32} {q : Nat → Int64} {c : Nat → Nat → Int32} {l : Nat → Nat → Int64} {g' : Nat → Int32} {q' : Nat → Int64} {c' : Nat → Nat → Int32} {l' : Nat → Nat → Int64} {R : Option Value × List x_E} (hc : nrun xZ (xY (xfm b)) xDT f d 316 0 (lv_args 0 [.ref 49, .int x4]) [] (rH e g q c l) 0 0 = some (none, rH e g' q' c' l')) (h : nrun xZ (xY (xfm b)) xDT f (d + 1) 315 36 [(0, .ref 49), (5, .int x5)] [] (rH e g' q' c' l') 0 0 = some R) : nrun xZ (xY (xfm b)) xDT (f + 3) (d + 1) 315 30 [(0, .ref 49), (4, .int x4), (5, .int x5)] [] (rH e g q c l) 0 0 = some R := by
  obtain ⟨y, cb, hj⟩ := mq_315
  rw [n_step (st' := [.ref 49]) (pc' := 31) (lv' := [(0, .ref 49), (4, .int x4), (5, .int x5)]) (hp' := rH e g q c l) (i := .aload_n 0) (len := 1) rfl hj rfl rfl rfl]
  rw [n_step (st' := [.int x4, .ref 49]) (pc' := 33) (lv' := [(0, .ref 49), (4, .int x4), (5, .int x5)]) (hp' := rH e g q c l) (i := .iload 4) (len := 2) rfl hj rfl rfl rfl]
  obtain ⟨y2, cb2, hj2⟩ := mq_316
  rw [n_call (f := f) (d := d) (ki := 0) (idx := 240) (j' := 316) (kd := 0) (M' := (y2, cb2, 3, none, 12, 1, 0, 0)) (avs := [.ref 49, .int x4]) (r := []) (rv := none) (hp1 := rH e g' q' c' l') rfl hj rfl rfl rfl rfl (rq_n rfl rfl hj2 rfl rfl) rfl hc (Nat.le_of_ble_eq_true rfl)]
  exact nrun_ext f f _ _ R 315 36 [(0, .ref 49), (5, .int x5)] [(0, .ref 49), (4, .int x4), (5, .int x5)] [] _ 0 0 122 (Nat.le_refl _) (Nat.le_refl _) (Nat.le_of_ble_eq_true rfl) (lvR_mk [0, 5] [0, 4, 5] rfl rfl (by decide) (by decide) (List.forall_mem_cons.mpr ⟨List.mem_cons_self, (List.forall_mem_cons.mpr ⟨(List.mem_cons_of_mem _ (List.mem_cons_of_mem _ List.mem_cons_self)), (fun _ h => nomatch h)⟩)⟩) (List.forall_mem_cons.mpr ⟨Or.inl List.mem_cons_self, (List.forall_mem_cons.mpr ⟨Or.inr rfl, (List.forall_mem_cons.mpr ⟨Or.inl (List.mem_cons_of_mem _ List.mem_cons_self), (fun _ h => nomatch h)⟩)⟩)⟩)) h
set_option maxRecDepth 100000 in
set_option maxHeartbeats 4000000 in
theorem bk_315_36 {b : Bool} {f d : Nat} {x5 : Int32} {e : Nat → x_E} {g : Nat → Int32} {q : Nat → Int64} {c : Nat → Nat → Int32} {l : Nat → Nat → Int64} {g' : Nat → Int32} {q' : Nat → Int64} {c' : Nat → Nat → Int32} {l' : Nat → Nat → Int64} {R : Option Value × List x_E} (hc : nrun xZ (xY (xfm b)) xDT f d 316 0 (lv_args 0 [.ref 49, .int x5]) [] (rH e g q c l) 0 0 = some (none, rH e g' q' c' l')) (h : nrun xZ (xY (xfm b)) xDT f (d + 1) 315 42 [] [] (rH e g' q' c' l') 0 0 = some R) : nrun xZ (xY (xfm b)) xDT (f + 3) (d + 1) 315 36 [(0, .ref 49), (5, .int x5)] [] (rH e g q c l) 0 0 = some R := by
  obtain ⟨y, cb, hj⟩ := mq_315
  rw [n_step (st' := [.ref 49]) (pc' := 37) (lv' := [(0, .ref 49), (5, .int x5)]) (hp' := rH e g q c l) (i := .aload_n 0) (len := 1) rfl hj rfl rfl rfl]
  rw [n_step (st' := [.int x5, .ref 49]) (pc' := 39) (lv' := [(0, .ref 49), (5, .int x5)]) (hp' := rH e g q c l) (i := .iload 5) (len := 2) rfl hj rfl rfl rfl]
  obtain ⟨y2, cb2, hj2⟩ := mq_316
  rw [n_call (f := f) (d := d) (ki := 0) (idx := 240) (j' := 316) (kd := 0) (M' := (y2, cb2, 3, none, 12, 1, 0, 0)) (avs := [.ref 49, .int x5]) (r := []) (rv := none) (hp1 := rH e g' q' c' l') rfl hj rfl rfl rfl rfl (rq_n rfl rfl hj2 rfl rfl) rfl hc (Nat.le_of_ble_eq_true rfl)]
  exact nrun_ext f f _ _ R 315 42 [] [(0, .ref 49), (5, .int x5)] [] _ 0 0 122 (Nat.le_refl _) (Nat.le_refl _) (Nat.le_of_ble_eq_true rfl) (lvR_mk [] [0, 5] rfl rfl (by decide) (by decide) (fun _ h => nomatch h) (List.forall_mem_cons.mpr ⟨Or.inr rfl, (List.forall_mem_cons.mpr ⟨Or.inr rfl, (fun _ h => nomatch h)⟩)⟩)) h
set_option maxRecDepth 100000 in
set_option maxHeartbeats 4000000 in
theorem bk_315_42 {b : Bool} {f d : Nat} {e : Nat → x_E} {g : Nat → Int32} {q : Nat → Int64} {c : Nat → Nat → Int32} {l : Nat → Nat → Int64} : nrun xZ (xY (xfm b)) xDT (f + 2) d 315 42 [] [] (rH e g q c l) 0 0 = some (some (.int (Int32.ofInt (1))), rH e g q c l) := by
  obtain ⟨y, cb, hj⟩ := mq_315
  rw [n_step (st' := [.int (Int32.ofInt (1))]) (pc' := 43) (lv' := []) (hp' := rH e g q c l) (i := .iconst 1) (len := 1) rfl hj rfl rfl rfl]
  exact n_ret rfl hj rfl rfl (x_ret rfl)
set_option maxRecDepth 100000 in
set_option maxHeartbeats 4000000 in
theorem bk_325_0 {b : Bool} {f d : Nat} {x1 : Int32} {e : Nat → x_E} {g : Nat → Int32} {q : Nat → Int64} {c : Nat → Nat → Int32} {l : Nat → Nat → Int64} {R : Option Value × List x_E} (h1 : xCn .ge x1 ((g 3)) = true → nrun xZ (xY (xfm b)) xDT f d 325 17 [] [] (rH e g q c l) 0 0 = some R) (h2 : ¬ xCn .ge x1 ((g 3)) = true → nrun xZ (xY (xfm b)) xDT f d 325 8 [(0, .ref 49), (1, .int x1)] [] (rH e g q c l) 0 0 = some R) : nrun xZ (xY (xfm b)) xDT (f + 4) d 325 0 [(0, .ref 49), (1, .int x1)] [] (rH e g q c l) 0 0 = some R := by
  obtain ⟨y, cb, hj⟩ := mq_325
  rw [n_step (st' := [.int x1]) (pc' := 1) (lv' := [(0, .ref 49), (1, .int x1)]) (hp' := rH e g q c l) (i := .iload_n 1) (len := 1) rfl hj rfl rfl rfl]
  rw [n_step (st' := [.ref 49, .int x1]) (pc' := 2) (lv' := [(0, .ref 49), (1, .int x1)]) (hp' := rH e g q c l) (i := .aload_n 0) (len := 1) rfl hj rfl rfl rfl]
  rw [n_get (st' := [.int (g 3), .int x1]) (pc' := 5) (lv' := [(0, .ref 49), (1, .int x1)]) (hp' := rH e g q c l) (i := .getfield 244) (len := 3) rfl hj rfl rfl rfl rfl]
  rw [n_step (st' := []) (pc' := (if xCn .ge x1 ((g 3)) = true then 17 else 8)) (lv' := [(0, .ref 49), (1, .int x1)]) (hp' := rH e g q c l) (i := .if_icmp .ge 12) (len := 3) rfl hj rfl rfl rfl]
  by_cases hc : xCn .ge x1 ((g 3)) = true
  · rw [if_pos hc]
    exact nrun_ext f f _ _ R 325 17 [] [(0, .ref 49), (1, .int x1)] [] _ 0 0 122 (Nat.le_refl _) (Nat.le_refl _) (Nat.le_of_ble_eq_true rfl) (lvR_mk [] [0, 1] rfl rfl (by decide) (by decide) (fun _ h => nomatch h) (List.forall_mem_cons.mpr ⟨Or.inr rfl, (List.forall_mem_cons.mpr ⟨Or.inr rfl, (fun _ h => nomatch h)⟩)⟩)) (h1 hc)
  · rw [if_neg hc]
    exact (h2 hc)
set_option maxRecDepth 100000 in
set_option maxHeartbeats 4000000 in
theorem bk_325_8 {b : Bool} {f d : Nat} {x1 : Int32} {e : Nat → x_E} {g : Nat → Int32} {q : Nat → Int64} {c : Nat → Nat → Int32} {l : Nat → Nat → Int64} {R : Option Value × List x_E} (hz0 : ¬ (x1 < 0 ∨ 6000 ≤ (x1).toNatClampNeg)) (h : nrun xZ (xY (xfm b)) xDT f d 325 18 [] [.int (c 51 (x1).toNatClampNeg)] (rH e g q c l) 0 0 = some R) : nrun xZ (xY (xfm b)) xDT (f + 5) d 325 8 [(0, .ref 49), (1, .int x1)] [] (rH e g q c l) 0 0 = some R := by
  obtain ⟨y, cb, hj⟩ := mq_325
  rw [n_step (st' := [.ref 49]) (pc' := 9) (lv' := [(0, .ref 49), (1, .int x1)]) (hp' := rH e g q c l) (i := .aload_n 0) (len := 1) rfl hj rfl rfl rfl]
  rw [n_get (st' := [.ref 51]) (pc' := 12) (lv' := [(0, .ref 49), (1, .int x1)]) (hp' := rH e g q c l) (i := .getfield 13) (len := 3) rfl hj rfl rfl rfl rfl]
  rw [n_step (st' := [.int x1, .ref 51]) (pc' := 13) (lv' := [(0, .ref 49), (1, .int x1)]) (hp' := rH e g q c l) (i := .iload_n 1) (len := 1) rfl hj rfl rfl rfl]
  rw [n_ial (st' := [.int (c 51 (x1).toNatClampNeg)]) rfl hj (ald_51 hz0)]
  rw [n_step (st' := [.int (c 51 (x1).toNatClampNeg)]) (pc' := 18) (lv' := [(0, .ref 49), (1, .int x1)]) (hp' := rH e g q c l) (i := .goto 4) (len := 3) rfl hj rfl rfl rfl]
  exact nrun_ext f f _ _ R 325 18 [] [(0, .ref 49), (1, .int x1)] [.int (c 51 (x1).toNatClampNeg)] _ 0 0 122 (Nat.le_refl _) (Nat.le_refl _) (Nat.le_of_ble_eq_true rfl) (lvR_mk [] [0, 1] rfl rfl (by decide) (by decide) (fun _ h => nomatch h) (List.forall_mem_cons.mpr ⟨Or.inr rfl, (List.forall_mem_cons.mpr ⟨Or.inr rfl, (fun _ h => nomatch h)⟩)⟩)) h
set_option maxRecDepth 100000 in
set_option maxHeartbeats 4000000 in
theorem bk_325_17 {b : Bool} {f d : Nat} {e : Nat → x_E} {g : Nat → Int32} {q : Nat → Int64} {c : Nat → Nat → Int32} {l : Nat → Nat → Int64} {R : Option Value × List x_E} (h : nrun xZ (xY (xfm b)) xDT f d 325 18 [] [.int (Int32.ofInt (-1))] (rH e g q c l) 0 0 = some R) : nrun xZ (xY (xfm b)) xDT (f + 1) d 325 17 [] [] (rH e g q c l) 0 0 = some R := by
  obtain ⟨y, cb, hj⟩ := mq_325
  rw [n_step (st' := [.int (Int32.ofInt (-1))]) (pc' := 18) (lv' := []) (hp' := rH e g q c l) (i := .iconst (-1)) (len := 1) rfl hj rfl rfl rfl]
  exact h
set_option maxRecDepth 100000 in
set_option maxHeartbeats 4000000 in
theorem bk_325_18 {b : Bool} {f d : Nat} {t0 : Int32} {e : Nat → x_E} {g : Nat → Int32} {q : Nat → Int64} {c : Nat → Nat → Int32} {l : Nat → Nat → Int64} : nrun xZ (xY (xfm b)) xDT (f + 1) d 325 18 [] [.int t0] (rH e g q c l) 0 0 = some (some (.int t0), rH e g q c l) := by
  obtain ⟨y, cb, hj⟩ := mq_325
  exact n_ret rfl hj rfl rfl (x_ret rfl)
set_option maxRecDepth 100000 in
set_option maxHeartbeats 4000000 in
theorem bk_326_0 {b : Bool} {f d : Nat} {x0 : Int32} {e : Nat → x_E} {g : Nat → Int32} {q : Nat → Int64} {c : Nat → Nat → Int32} {l : Nat → Nat → Int64} {R : Option Value × List x_E} (h1 : xCn .lt x0 ((Int8.ofInt (65)).toInt32) = true → nrun xZ (xY (xfm b)) xDT f d 326 12 [(0, .int x0)] [] (rH e g q c l) 0 0 = some R) (h2 : ¬ xCn .lt x0 ((Int8.ofInt (65)).toInt32) = true → nrun xZ (xY (xfm b)) xDT f d 326 6 [(0, .int x0)] [] (rH e g q c l) 0 0 = some R) : nrun xZ (xY (xfm b)) xDT (f + 3) d 326 0 [(0, .int x0)] [] (rH e g q c l) 0 0 = some R := by
  obtain ⟨y, cb, hj⟩ := mq_326
  rw [n_step (st' := [.int x0]) (pc' := 1) (lv' := [(0, .int x0)]) (hp' := rH e g q c l) (i := .iload_n 0) (len := 1) rfl hj rfl rfl rfl]
  rw [n_step (st' := [.int (Int8.ofInt (65)).toInt32, .int x0]) (pc' := 3) (lv' := [(0, .int x0)]) (hp' := rH e g q c l) (i := .bipush 65) (len := 2) rfl hj rfl rfl rfl]
  rw [n_step (st' := []) (pc' := (if xCn .lt x0 ((Int8.ofInt (65)).toInt32) = true then 12 else 6)) (lv' := [(0, .int x0)]) (hp' := rH e g q c l) (i := .if_icmp .lt 9) (len := 3) rfl hj rfl rfl rfl]
  by_cases hc : xCn .lt x0 ((Int8.ofInt (65)).toInt32) = true
  · rw [if_pos hc]
    exact (h1 hc)
  · rw [if_neg hc]
    exact (h2 hc)
set_option maxRecDepth 100000 in
set_option maxHeartbeats 4000000 in
theorem bk_326_6 {b : Bool} {f d : Nat} {x0 : Int32} {e : Nat → x_E} {g : Nat → Int32} {q : Nat → Int64} {c : Nat → Nat → Int32} {l : Nat → Nat → Int64} {R : Option Value × List x_E} (h1 : xCn .le x0 ((Int8.ofInt (90)).toInt32) = true → nrun xZ (xY (xfm b)) xDT f d 326 24 [] [] (rH e g q c l) 0 0 = some R) (h2 : ¬ xCn .le x0 ((Int8.ofInt (90)).toInt32) = true → nrun xZ (xY (xfm b)) xDT f d 326 12 [(0, .int x0)] [] (rH e g q c l) 0 0 = some R) : nrun xZ (xY (xfm b)) xDT (f + 3) d 326 6 [(0, .int x0)] [] (rH e g q c l) 0 0 = some R := by
  obtain ⟨y, cb, hj⟩ := mq_326
  rw [n_step (st' := [.int x0]) (pc' := 7) (lv' := [(0, .int x0)]) (hp' := rH e g q c l) (i := .iload_n 0) (len := 1) rfl hj rfl rfl rfl]
  rw [n_step (st' := [.int (Int8.ofInt (90)).toInt32, .int x0]) (pc' := 9) (lv' := [(0, .int x0)]) (hp' := rH e g q c l) (i := .bipush 90) (len := 2) rfl hj rfl rfl rfl]
  rw [n_step (st' := []) (pc' := (if xCn .le x0 ((Int8.ofInt (90)).toInt32) = true then 24 else 12)) (lv' := [(0, .int x0)]) (hp' := rH e g q c l) (i := .if_icmp .le 15) (len := 3) rfl hj rfl rfl rfl]
  by_cases hc : xCn .le x0 ((Int8.ofInt (90)).toInt32) = true
  · rw [if_pos hc]
    exact nrun_ext f f _ _ R 326 24 [] [(0, .int x0)] [] _ 0 0 122 (Nat.le_refl _) (Nat.le_refl _) (Nat.le_of_ble_eq_true rfl) (lvR_mk [] [0] rfl rfl (by decide) (by decide) (fun _ h => nomatch h) (List.forall_mem_cons.mpr ⟨Or.inr rfl, (fun _ h => nomatch h)⟩)) (h1 hc)
  · rw [if_neg hc]
    exact (h2 hc)
set_option maxRecDepth 100000 in
set_option maxHeartbeats 4000000 in
theorem bk_326_12 {b : Bool} {f d : Nat} {x0 : Int32} {e : Nat → x_E} {g : Nat → Int32} {q : Nat → Int64} {c : Nat → Nat → Int32} {l : Nat → Nat → Int64} {R : Option Value × List x_E} (h1 : xCn .lt x0 ((Int8.ofInt (97)).toInt32) = true → nrun xZ (xY (xfm b)) xDT f d 326 28 [] [] (rH e g q c l) 0 0 = some R) (h2 : ¬ xCn .lt x0 ((Int8.ofInt (97)).toInt32) = true → nrun xZ (xY (xfm b)) xDT f d 326 18 [(0, .int x0)] [] (rH e g q c l) 0 0 = some R) : nrun xZ (xY (xfm b)) xDT (f + 3) d 326 12 [(0, .int x0)] [] (rH e g q c l) 0 0 = some R := by
  obtain ⟨y, cb, hj⟩ := mq_326
  rw [n_step (st' := [.int x0]) (pc' := 13) (lv' := [(0, .int x0)]) (hp' := rH e g q c l) (i := .iload_n 0) (len := 1) rfl hj rfl rfl rfl]
  rw [n_step (st' := [.int (Int8.ofInt (97)).toInt32, .int x0]) (pc' := 15) (lv' := [(0, .int x0)]) (hp' := rH e g q c l) (i := .bipush 97) (len := 2) rfl hj rfl rfl rfl]
  rw [n_step (st' := []) (pc' := (if xCn .lt x0 ((Int8.ofInt (97)).toInt32) = true then 28 else 18)) (lv' := [(0, .int x0)]) (hp' := rH e g q c l) (i := .if_icmp .lt 13) (len := 3) rfl hj rfl rfl rfl]
  by_cases hc : xCn .lt x0 ((Int8.ofInt (97)).toInt32) = true
  · rw [if_pos hc]
    exact nrun_ext f f _ _ R 326 28 [] [(0, .int x0)] [] _ 0 0 122 (Nat.le_refl _) (Nat.le_refl _) (Nat.le_of_ble_eq_true rfl) (lvR_mk [] [0] rfl rfl (by decide) (by decide) (fun _ h => nomatch h) (List.forall_mem_cons.mpr ⟨Or.inr rfl, (fun _ h => nomatch h)⟩)) (h1 hc)
  · rw [if_neg hc]
    exact (h2 hc)
set_option maxRecDepth 100000 in
set_option maxHeartbeats 4000000 in
theorem bk_326_18 {b : Bool} {f d : Nat} {x0 : Int32} {e : Nat → x_E} {g : Nat → Int32} {q : Nat → Int64} {c : Nat → Nat → Int32} {l : Nat → Nat → Int64} {R : Option Value × List x_E} (h1 : xCn .gt x0 ((Int8.ofInt (122)).toInt32) = true → nrun xZ (xY (xfm b)) xDT f d 326 28 [] [] (rH e g q c l) 0 0 = some R) (h2 : ¬ xCn .gt x0 ((Int8.ofInt (122)).toInt32) = true → nrun xZ (xY (xfm b)) xDT f d 326 24 [] [] (rH e g q c l) 0 0 = some R) : nrun xZ (xY (xfm b)) xDT (f + 3) d 326 18 [(0, .int x0)] [] (rH e g q c l) 0 0 = some R := by
  obtain ⟨y, cb, hj⟩ := mq_326
  rw [n_step (st' := [.int x0]) (pc' := 19) (lv' := [(0, .int x0)]) (hp' := rH e g q c l) (i := .iload_n 0) (len := 1) rfl hj rfl rfl rfl]
  rw [n_step (st' := [.int (Int8.ofInt (122)).toInt32, .int x0]) (pc' := 21) (lv' := [(0, .int x0)]) (hp' := rH e g q c l) (i := .bipush 122) (len := 2) rfl hj rfl rfl rfl]
  rw [n_step (st' := []) (pc' := (if xCn .gt x0 ((Int8.ofInt (122)).toInt32) = true then 28 else 24)) (lv' := [(0, .int x0)]) (hp' := rH e g q c l) (i := .if_icmp .gt 7) (len := 3) rfl hj rfl rfl rfl]
  by_cases hc : xCn .gt x0 ((Int8.ofInt (122)).toInt32) = true
  · rw [if_pos hc]
    exact nrun_ext f f _ _ R 326 28 [] [(0, .int x0)] [] _ 0 0 122 (Nat.le_refl _) (Nat.le_refl _) (Nat.le_of_ble_eq_true rfl) (lvR_mk [] [0] rfl rfl (by decide) (by decide) (fun _ h => nomatch h) (List.forall_mem_cons.mpr ⟨Or.inr rfl, (fun _ h => nomatch h)⟩)) (h1 hc)
  · rw [if_neg hc]
    exact nrun_ext f f _ _ R 326 24 [] [(0, .int x0)] [] _ 0 0 122 (Nat.le_refl _) (Nat.le_refl _) (Nat.le_of_ble_eq_true rfl) (lvR_mk [] [0] rfl rfl (by decide) (by decide) (fun _ h => nomatch h) (List.forall_mem_cons.mpr ⟨Or.inr rfl, (fun _ h => nomatch h)⟩)) (h2 hc)
set_option maxRecDepth 100000 in
set_option maxHeartbeats 4000000 in
theorem bk_326_24 {b : Bool} {f d : Nat} {e : Nat → x_E} {g : Nat → Int32} {q : Nat → Int64} {c : Nat → Nat → Int32} {l : Nat → Nat → Int64} {R : Option Value × List x_E} (h : nrun xZ (xY (xfm b)) xDT f d 326 29 [] [.int (Int32.ofInt (1))] (rH e g q c l) 0 0 = some R) : nrun xZ (xY (xfm b)) xDT (f + 2) d 326 24 [] [] (rH e g q c l) 0 0 = some R := by
  obtain ⟨y, cb, hj⟩ := mq_326
  rw [n_step (st' := [.int (Int32.ofInt (1))]) (pc' := 25) (lv' := []) (hp' := rH e g q c l) (i := .iconst 1) (len := 1) rfl hj rfl rfl rfl]
  rw [n_step (st' := [.int (Int32.ofInt (1))]) (pc' := 29) (lv' := []) (hp' := rH e g q c l) (i := .goto 4) (len := 3) rfl hj rfl rfl rfl]
  exact h
set_option maxRecDepth 100000 in
set_option maxHeartbeats 4000000 in
theorem bk_326_28 {b : Bool} {f d : Nat} {e : Nat → x_E} {g : Nat → Int32} {q : Nat → Int64} {c : Nat → Nat → Int32} {l : Nat → Nat → Int64} {R : Option Value × List x_E} (h : nrun xZ (xY (xfm b)) xDT f d 326 29 [] [.int (Int32.ofInt (0))] (rH e g q c l) 0 0 = some R) : nrun xZ (xY (xfm b)) xDT (f + 1) d 326 28 [] [] (rH e g q c l) 0 0 = some R := by
  obtain ⟨y, cb, hj⟩ := mq_326
  rw [n_step (st' := [.int (Int32.ofInt (0))]) (pc' := 29) (lv' := []) (hp' := rH e g q c l) (i := .iconst 0) (len := 1) rfl hj rfl rfl rfl]
  exact h
set_option maxRecDepth 100000 in
set_option maxHeartbeats 4000000 in
theorem bk_326_29 {b : Bool} {f d : Nat} {t0 : Int32} {e : Nat → x_E} {g : Nat → Int32} {q : Nat → Int64} {c : Nat → Nat → Int32} {l : Nat → Nat → Int64} (hv : narrow .boolean (.int t0) = .int t0) : nrun xZ (xY (xfm b)) xDT (f + 1) d 326 29 [] [.int t0] (rH e g q c l) 0 0 = some (some (.int t0), rH e g q c l) := by
  obtain ⟨y, cb, hj⟩ := mq_326
  exact n_ret rfl hj rfl rfl (x_ret hv)
set_option maxRecDepth 100000 in
set_option maxHeartbeats 4000000 in
theorem bk_328_0 {b : Bool} {f d : Nat} {x0 : Int32} {e : Nat → x_E} {g : Nat → Int32} {q : Nat → Int64} {c : Nat → Nat → Int32} {l : Nat → Nat → Int64} {R : Option Value × List x_E} (h1 : xCn .lt x0 ((Int8.ofInt (48)).toInt32) = true → nrun xZ (xY (xfm b)) xDT f d 328 16 [] [] (rH e g q c l) 0 0 = some R) (h2 : ¬ xCn .lt x0 ((Int8.ofInt (48)).toInt32) = true → nrun xZ (xY (xfm b)) xDT f d 328 6 [(0, .int x0)] [] (rH e g q c l) 0 0 = some R) : nrun xZ (xY (xfm b)) xDT (f + 3) d 328 0 [(0, .int x0)] [] (rH e g q c l) 0 0 = some R := by
  obtain ⟨y, cb, hj⟩ := mq_328
  rw [n_step (st' := [.int x0]) (pc' := 1) (lv' := [(0, .int x0)]) (hp' := rH e g q c l) (i := .iload_n 0) (len := 1) rfl hj rfl rfl rfl]
  rw [n_step (st' := [.int (Int8.ofInt (48)).toInt32, .int x0]) (pc' := 3) (lv' := [(0, .int x0)]) (hp' := rH e g q c l) (i := .bipush 48) (len := 2) rfl hj rfl rfl rfl]
  rw [n_step (st' := []) (pc' := (if xCn .lt x0 ((Int8.ofInt (48)).toInt32) = true then 16 else 6)) (lv' := [(0, .int x0)]) (hp' := rH e g q c l) (i := .if_icmp .lt 13) (len := 3) rfl hj rfl rfl rfl]
  by_cases hc : xCn .lt x0 ((Int8.ofInt (48)).toInt32) = true
  · rw [if_pos hc]
    exact nrun_ext f f _ _ R 328 16 [] [(0, .int x0)] [] _ 0 0 122 (Nat.le_refl _) (Nat.le_refl _) (Nat.le_of_ble_eq_true rfl) (lvR_mk [] [0] rfl rfl (by decide) (by decide) (fun _ h => nomatch h) (List.forall_mem_cons.mpr ⟨Or.inr rfl, (fun _ h => nomatch h)⟩)) (h1 hc)
  · rw [if_neg hc]
    exact (h2 hc)
set_option maxRecDepth 100000 in
set_option maxHeartbeats 4000000 in
theorem bk_328_6 {b : Bool} {f d : Nat} {x0 : Int32} {e : Nat → x_E} {g : Nat → Int32} {q : Nat → Int64} {c : Nat → Nat → Int32} {l : Nat → Nat → Int64} {R : Option Value × List x_E} (h1 : xCn .gt x0 ((Int8.ofInt (57)).toInt32) = true → nrun xZ (xY (xfm b)) xDT f d 328 16 [] [] (rH e g q c l) 0 0 = some R) (h2 : ¬ xCn .gt x0 ((Int8.ofInt (57)).toInt32) = true → nrun xZ (xY (xfm b)) xDT f d 328 12 [] [] (rH e g q c l) 0 0 = some R) : nrun xZ (xY (xfm b)) xDT (f + 3) d 328 6 [(0, .int x0)] [] (rH e g q c l) 0 0 = some R := by
  obtain ⟨y, cb, hj⟩ := mq_328
  rw [n_step (st' := [.int x0]) (pc' := 7) (lv' := [(0, .int x0)]) (hp' := rH e g q c l) (i := .iload_n 0) (len := 1) rfl hj rfl rfl rfl]
  rw [n_step (st' := [.int (Int8.ofInt (57)).toInt32, .int x0]) (pc' := 9) (lv' := [(0, .int x0)]) (hp' := rH e g q c l) (i := .bipush 57) (len := 2) rfl hj rfl rfl rfl]
  rw [n_step (st' := []) (pc' := (if xCn .gt x0 ((Int8.ofInt (57)).toInt32) = true then 16 else 12)) (lv' := [(0, .int x0)]) (hp' := rH e g q c l) (i := .if_icmp .gt 7) (len := 3) rfl hj rfl rfl rfl]
  by_cases hc : xCn .gt x0 ((Int8.ofInt (57)).toInt32) = true
  · rw [if_pos hc]
    exact nrun_ext f f _ _ R 328 16 [] [(0, .int x0)] [] _ 0 0 122 (Nat.le_refl _) (Nat.le_refl _) (Nat.le_of_ble_eq_true rfl) (lvR_mk [] [0] rfl rfl (by decide) (by decide) (fun _ h => nomatch h) (List.forall_mem_cons.mpr ⟨Or.inr rfl, (fun _ h => nomatch h)⟩)) (h1 hc)
  · rw [if_neg hc]
    exact nrun_ext f f _ _ R 328 12 [] [(0, .int x0)] [] _ 0 0 122 (Nat.le_refl _) (Nat.le_refl _) (Nat.le_of_ble_eq_true rfl) (lvR_mk [] [0] rfl rfl (by decide) (by decide) (fun _ h => nomatch h) (List.forall_mem_cons.mpr ⟨Or.inr rfl, (fun _ h => nomatch h)⟩)) (h2 hc)
set_option maxRecDepth 100000 in
set_option maxHeartbeats 4000000 in
theorem bk_328_12 {b : Bool} {f d : Nat} {e : Nat → x_E} {g : Nat → Int32} {q : Nat → Int64} {c : Nat → Nat → Int32} {l : Nat → Nat → Int64} {R : Option Value × List x_E} (h : nrun xZ (xY (xfm b)) xDT f d 328 17 [] [.int (Int32.ofInt (1))] (rH e g q c l) 0 0 = some R) : nrun xZ (xY (xfm b)) xDT (f + 2) d 328 12 [] [] (rH e g q c l) 0 0 = some R := by
  obtain ⟨y, cb, hj⟩ := mq_328
  rw [n_step (st' := [.int (Int32.ofInt (1))]) (pc' := 13) (lv' := []) (hp' := rH e g q c l) (i := .iconst 1) (len := 1) rfl hj rfl rfl rfl]
  rw [n_step (st' := [.int (Int32.ofInt (1))]) (pc' := 17) (lv' := []) (hp' := rH e g q c l) (i := .goto 4) (len := 3) rfl hj rfl rfl rfl]
  exact h
set_option maxRecDepth 100000 in
set_option maxHeartbeats 4000000 in
theorem bk_328_16 {b : Bool} {f d : Nat} {e : Nat → x_E} {g : Nat → Int32} {q : Nat → Int64} {c : Nat → Nat → Int32} {l : Nat → Nat → Int64} {R : Option Value × List x_E} (h : nrun xZ (xY (xfm b)) xDT f d 328 17 [] [.int (Int32.ofInt (0))] (rH e g q c l) 0 0 = some R) : nrun xZ (xY (xfm b)) xDT (f + 1) d 328 16 [] [] (rH e g q c l) 0 0 = some R := by
  obtain ⟨y, cb, hj⟩ := mq_328
  rw [n_step (st' := [.int (Int32.ofInt (0))]) (pc' := 17) (lv' := []) (hp' := rH e g q c l) (i := .iconst 0) (len := 1) rfl hj rfl rfl rfl]
  exact h
set_option maxRecDepth 100000 in
set_option maxHeartbeats 4000000 in
theorem bk_328_17 {b : Bool} {f d : Nat} {t0 : Int32} {e : Nat → x_E} {g : Nat → Int32} {q : Nat → Int64} {c : Nat → Nat → Int32} {l : Nat → Nat → Int64} (hv : narrow .boolean (.int t0) = .int t0) : nrun xZ (xY (xfm b)) xDT (f + 1) d 328 17 [] [.int t0] (rH e g q c l) 0 0 = some (some (.int t0), rH e g q c l) := by
  obtain ⟨y, cb, hj⟩ := mq_328
  exact n_ret rfl hj rfl rfl (x_ret hv)
set_option maxRecDepth 100000 in
set_option maxHeartbeats 4000000 in
theorem bk_337_0 {b : Bool} {f d : Nat} {e : Nat → x_E} {g : Nat → Int32} {q : Nat → Int64} {c : Nat → Nat → Int32} {l : Nat → Nat → Int64} {R : Option Value × List x_E} (h1 : xCn .eq ((g 19)) 0 = true → nrun xZ (xY (xfm b)) xDT f d 337 11 [] [] (rH e g q c l) 0 0 = some R) (h2 : ¬ xCn .eq ((g 19)) 0 = true → nrun xZ (xY (xfm b)) xDT f d 337 7 [] [] (rH e g q c l) 0 0 = some R) : nrun xZ (xY (xfm b)) xDT (f + 3) d 337 0 [(0, .ref 49)] [] (rH e g q c l) 0 0 = some R := by
  obtain ⟨y, cb, hj⟩ := mq_337
  rw [n_step (st' := [.ref 49]) (pc' := 1) (lv' := [(0, .ref 49)]) (hp' := rH e g q c l) (i := .aload_n 0) (len := 1) rfl hj rfl rfl rfl]
  rw [n_get (st' := [.int (g 19)]) (pc' := 4) (lv' := [(0, .ref 49)]) (hp' := rH e g q c l) (i := .getfield 319) (len := 3) rfl hj rfl rfl rfl rfl]
  rw [n_step (st' := []) (pc' := (if xCn .eq ((g 19)) 0 = true then 11 else 7)) (lv' := [(0, .ref 49)]) (hp' := rH e g q c l) (i := .ifCond .eq 7) (len := 3) rfl hj rfl rfl rfl]
  by_cases hc : xCn .eq ((g 19)) 0 = true
  · rw [if_pos hc]
    exact nrun_ext f f _ _ R 337 11 [] [(0, .ref 49)] [] _ 0 0 122 (Nat.le_refl _) (Nat.le_refl _) (Nat.le_of_ble_eq_true rfl) (lvR_mk [] [0] rfl rfl (by decide) (by decide) (fun _ h => nomatch h) (List.forall_mem_cons.mpr ⟨Or.inr rfl, (fun _ h => nomatch h)⟩)) (h1 hc)
  · rw [if_neg hc]
    exact nrun_ext f f _ _ R 337 7 [] [(0, .ref 49)] [] _ 0 0 122 (Nat.le_refl _) (Nat.le_refl _) (Nat.le_of_ble_eq_true rfl) (lvR_mk [] [0] rfl rfl (by decide) (by decide) (fun _ h => nomatch h) (List.forall_mem_cons.mpr ⟨Or.inr rfl, (fun _ h => nomatch h)⟩)) (h2 hc)
set_option maxRecDepth 100000 in
set_option maxHeartbeats 4000000 in
theorem bk_337_7 {b : Bool} {f d : Nat} {e : Nat → x_E} {g : Nat → Int32} {q : Nat → Int64} {c : Nat → Nat → Int32} {l : Nat → Nat → Int64} {R : Option Value × List x_E} (h : nrun xZ (xY (xfm b)) xDT f d 337 12 [] [.int (Int32.ofInt (1))] (rH e g q c l) 0 0 = some R) : nrun xZ (xY (xfm b)) xDT (f + 2) d 337 7 [] [] (rH e g q c l) 0 0 = some R := by
  obtain ⟨y, cb, hj⟩ := mq_337
  rw [n_step (st' := [.int (Int32.ofInt (1))]) (pc' := 8) (lv' := []) (hp' := rH e g q c l) (i := .iconst 1) (len := 1) rfl hj rfl rfl rfl]
  rw [n_step (st' := [.int (Int32.ofInt (1))]) (pc' := 12) (lv' := []) (hp' := rH e g q c l) (i := .goto 4) (len := 3) rfl hj rfl rfl rfl]
  exact h
set_option maxRecDepth 100000 in
set_option maxHeartbeats 4000000 in
theorem bk_337_11 {b : Bool} {f d : Nat} {e : Nat → x_E} {g : Nat → Int32} {q : Nat → Int64} {c : Nat → Nat → Int32} {l : Nat → Nat → Int64} {R : Option Value × List x_E} (h : nrun xZ (xY (xfm b)) xDT f d 337 12 [] [.int (Int32.ofInt (0))] (rH e g q c l) 0 0 = some R) : nrun xZ (xY (xfm b)) xDT (f + 1) d 337 11 [] [] (rH e g q c l) 0 0 = some R := by
  obtain ⟨y, cb, hj⟩ := mq_337
  rw [n_step (st' := [.int (Int32.ofInt (0))]) (pc' := 12) (lv' := []) (hp' := rH e g q c l) (i := .iconst 0) (len := 1) rfl hj rfl rfl rfl]
  exact h
set_option maxRecDepth 100000 in
set_option maxHeartbeats 4000000 in
theorem bk_337_12 {b : Bool} {f d : Nat} {t0 : Int32} {e : Nat → x_E} {g : Nat → Int32} {q : Nat → Int64} {c : Nat → Nat → Int32} {l : Nat → Nat → Int64} (hv : narrow .boolean (.int t0) = .int t0) : nrun xZ (xY (xfm b)) xDT (f + 1) d 337 12 [] [.int t0] (rH e g q c l) 0 0 = some (some (.int t0), rH e g q c l) := by
  obtain ⟨y, cb, hj⟩ := mq_337
  exact n_ret rfl hj rfl rfl (x_ret hv)
set_option maxRecDepth 100000 in
set_option maxHeartbeats 4000000 in
theorem bk_323_0 {b : Bool} {f d : Nat} {x1 x2 : Int32} {e : Nat → x_E} {g : Nat → Int32} {q : Nat → Int64} {c : Nat → Nat → Int32} {l : Nat → Nat → Int64} {R : Option Value × List x_E} (h1 : xCn .eq ((g 19)) 0 = true → nrun xZ (xY (xfm b)) xDT f d 323 8 [(0, .ref 49), (1, .int x1), (2, .int x2)] [] (rH e g q c l) 0 0 = some R) (h2 : ¬ xCn .eq ((g 19)) 0 = true → nrun xZ (xY (xfm b)) xDT f d 323 7 [] [] (rH e g q c l) 0 0 = some R) : nrun xZ (xY (xfm b)) xDT (f + 3) d 323 0 [(0, .ref 49), (1, .int x1), (2, .int x2)] [] (rH e g q c l) 0 0 = some R := by
  obtain ⟨y, cb, hj⟩ := mq_323
  rw [n_step (st' := [.ref 49]) (pc' := 1) (lv' := [(0, .ref 49), (1, .int x1), (2, .int x2)]) (hp' := rH e g q c l) (i := .aload_n 0) (len := 1) rfl hj rfl rfl rfl]
  rw [n_get (st' := [.int (g 19)]) (pc' := 4) (lv' := [(0, .ref 49), (1, .int x1), (2, .int x2)]) (hp' := rH e g q c l) (i := .getfield 319) (len := 3) rfl hj rfl rfl rfl rfl]
  rw [n_step (st' := []) (pc' := (if xCn .eq ((g 19)) 0 = true then 8 else 7)) (lv' := [(0, .ref 49), (1, .int x1), (2, .int x2)]) (hp' := rH e g q c l) (i := .ifCond .eq 4) (len := 3) rfl hj rfl rfl rfl]
  by_cases hc : xCn .eq ((g 19)) 0 = true
  · rw [if_pos hc]
    exact (h1 hc)
  · rw [if_neg hc]
    exact nrun_ext f f _ _ R 323 7 [] [(0, .ref 49), (1, .int x1), (2, .int x2)] [] _ 0 0 122 (Nat.le_refl _) (Nat.le_refl _) (Nat.le_of_ble_eq_true rfl) (lvR_mk [] [0, 1, 2] rfl rfl (by decide) (by decide) (fun _ h => nomatch h) (List.forall_mem_cons.mpr ⟨Or.inr rfl, (List.forall_mem_cons.mpr ⟨Or.inr rfl, (List.forall_mem_cons.mpr ⟨Or.inr rfl, (fun _ h => nomatch h)⟩)⟩)⟩)) (h2 hc)
set_option maxRecDepth 100000 in
set_option maxHeartbeats 4000000 in
theorem bk_323_7 {b : Bool} {f d : Nat} {e : Nat → x_E} {g : Nat → Int32} {q : Nat → Int64} {c : Nat → Nat → Int32} {l : Nat → Nat → Int64} : nrun xZ (xY (xfm b)) xDT (f + 1) d 323 7 [] [] (rH e g q c l) 0 0 = some (none, rH e g q c l) := by
  obtain ⟨y, cb, hj⟩ := mq_323
  exact n_ret rfl hj rfl rfl rfl
set_option maxRecDepth 100000 in
set_option maxHeartbeats 4000000 in
theorem bk_323_8 {b : Bool} {f d : Nat} {x1 x2 : Int32} {e : Nat → x_E} {g : Nat → Int32} {q : Nat → Int64} {c : Nat → Nat → Int32} {l : Nat → Nat → Int64} : nrun xZ (xY (xfm b)) xDT (f + 7) d 323 8 [(0, .ref 49), (1, .int x1), (2, .int x2)] [] (rH e g q c l) 0 0 = some (none, rH e (upd (upd g 19 x1) 20 x2) q c l) := by
  obtain ⟨y, cb, hj⟩ := mq_323
  rw [n_step (st' := [.ref 49]) (pc' := 9) (lv' := [(0, .ref 49), (1, .int x1), (2, .int x2)]) (hp' := rH e g q c l) (i := .aload_n 0) (len := 1) rfl hj rfl rfl rfl]
  rw [n_step (st' := [.int x1, .ref 49]) (pc' := 10) (lv' := [(0, .ref 49), (1, .int x1), (2, .int x2)]) (hp' := rH e g q c l) (i := .iload_n 1) (len := 1) rfl hj rfl rfl rfl]
  rw [n_put (st' := []) (hp' := rH e (upd g 19 x1) q c l) rfl hj pf_19]
  rw [n_step (st' := [.ref 49]) (pc' := 14) (lv' := [(0, .ref 49), (1, .int x1), (2, .int x2)]) (hp' := rH e (upd g 19 x1) q c l) (i := .aload_n 0) (len := 1) rfl hj rfl rfl rfl]
  rw [n_step (st' := [.int x2, .ref 49]) (pc' := 15) (lv' := [(0, .ref 49), (1, .int x1), (2, .int x2)]) (hp' := rH e (upd g 19 x1) q c l) (i := .iload_n 2) (len := 1) rfl hj rfl rfl rfl]
  rw [n_put (st' := []) (hp' := rH e (upd (upd g 19 x1) 20 x2) q c l) rfl hj pf_20]
  exact n_ret rfl hj rfl rfl rfl
