theorem mj_257 : ∃ y b n r, zM xZ 257 = some (y, b, n, r, 0, 2, 0, 0) := ⟨_, _, _, _, rfl⟩
set_option maxRecDepth 100000 in
set_option maxHeartbeats 1000000 in
theorem sh_run_0 (b : Bool) (f h : Int32) : nrun xZ (xY (xfm b)) xDT 60 1000 257 0 [(0, .ref 0), (1, .int f), (2, .int h)] [] (xh2 b) 0 0 = nrun xZ (xY (xfm b)) xDT 58 1000 257 (if xCn .lt f 0 = true then 29 else 4) [(0, .ref 0), (1, .int f), (2, .int h)] [] (xh2 b) 0 0 := by
  obtain ⟨y, cb, nl, r, hj⟩ := mj_257
  rw [n_step (st' := [.int f]) (pc' := 1) (lv' := [(0, .ref 0), (1, .int f), (2, .int h)]) (hp' := xh2 b) (i := .iload_n 1) (len := 1) rfl hj rfl rfl rfl]
  rw [n_step (st' := []) (pc' := if xCn .lt f 0 = true then 29 else 4) (lv' := [(0, .ref 0), (1, .int f), (2, .int h)]) (hp' := xh2 b) (i := .ifCond .lt 28) (len := 3) rfl hj rfl rfl rfl]
set_option maxRecDepth 100000 in
set_option maxHeartbeats 1000000 in
theorem sh_run_1 (b : Bool) (f h : Int32) : nrun xZ (xY (xfm b)) xDT 58 1000 257 4 [(0, .ref 0), (1, .int f), (2, .int h)] [] (xh2 b) 0 0 = nrun xZ (xY (xfm b)) xDT 55 1000 257 (if xCn .gt f ((Int16.ofInt 20000).toInt32) = true then 29 else 11) [(0, .ref 0), (1, .int f), (2, .int h)] [] (xh2 b) 0 0 := by
  obtain ⟨y, cb, nl, r, hj⟩ := mj_257
  rw [n_step (st' := [.int f]) (pc' := 5) (lv' := [(0, .ref 0), (1, .int f), (2, .int h)]) (hp' := xh2 b) (i := .iload_n 1) (len := 1) rfl hj rfl rfl rfl]
  rw [n_step (st' := [.int ((Int16.ofInt 20000).toInt32), .int f]) (pc' := 8) (lv' := [(0, .ref 0), (1, .int f), (2, .int h)]) (hp' := xh2 b) (i := .sipush 20000) (len := 3) rfl hj rfl rfl rfl]
  rw [n_step (st' := []) (pc' := if xCn .gt f ((Int16.ofInt 20000).toInt32) = true then 29 else 11) (lv' := [(0, .ref 0), (1, .int f), (2, .int h)]) (hp' := xh2 b) (i := .if_icmp .gt 21) (len := 3) rfl hj rfl rfl rfl]
set_option maxRecDepth 100000 in
set_option maxHeartbeats 1000000 in
theorem sh_run_2 (b : Bool) (f h : Int32) : nrun xZ (xY (xfm b)) xDT 55 1000 257 11 [(0, .ref 0), (1, .int f), (2, .int h)] [] (xh2 b) 0 0 = nrun xZ (xY (xfm b)) xDT 53 1000 257 (if xCn .lt h 0 = true then 29 else 15) [(0, .ref 0), (1, .int f), (2, .int h)] [] (xh2 b) 0 0 := by
  obtain ⟨y, cb, nl, r, hj⟩ := mj_257
  rw [n_step (st' := [.int h]) (pc' := 12) (lv' := [(0, .ref 0), (1, .int f), (2, .int h)]) (hp' := xh2 b) (i := .iload_n 2) (len := 1) rfl hj rfl rfl rfl]
  rw [n_step (st' := []) (pc' := if xCn .lt h 0 = true then 29 else 15) (lv' := [(0, .ref 0), (1, .int f), (2, .int h)]) (hp' := xh2 b) (i := .ifCond .lt 17) (len := 3) rfl hj rfl rfl rfl]
set_option maxRecDepth 100000 in
set_option maxHeartbeats 1000000 in
theorem sh_run_3 (b : Bool) (f h : Int32) : nrun xZ (xY (xfm b)) xDT 53 1000 257 15 [(0, .ref 0), (1, .int f), (2, .int h)] [] (xh2 b) 0 0 = nrun xZ (xY (xfm b)) xDT 50 1000 257 (if xCn .gt h ((Int16.ofInt 20000).toInt32) = true then 29 else 22) [(0, .ref 0), (1, .int f), (2, .int h)] [] (xh2 b) 0 0 := by
  obtain ⟨y, cb, nl, r, hj⟩ := mj_257
  rw [n_step (st' := [.int h]) (pc' := 16) (lv' := [(0, .ref 0), (1, .int f), (2, .int h)]) (hp' := xh2 b) (i := .iload_n 2) (len := 1) rfl hj rfl rfl rfl]
  rw [n_step (st' := [.int ((Int16.ofInt 20000).toInt32), .int h]) (pc' := 19) (lv' := [(0, .ref 0), (1, .int f), (2, .int h)]) (hp' := xh2 b) (i := .sipush 20000) (len := 3) rfl hj rfl rfl rfl]
  rw [n_step (st' := []) (pc' := if xCn .gt h ((Int16.ofInt 20000).toInt32) = true then 29 else 22) (lv' := [(0, .ref 0), (1, .int f), (2, .int h)]) (hp' := xh2 b) (i := .if_icmp .gt 10) (len := 3) rfl hj rfl rfl rfl]
set_option maxRecDepth 100000 in
set_option maxHeartbeats 1000000 in
theorem sh_run_e0 (b : Bool) (f h : Int32) : nrun xZ (xY (xfm b)) xDT 58 1000 257 29 [(0, .ref 0), (1, .int f), (2, .int h)] [] (xh2 b) 0 0 = some (some (.int (-1)), xh2 b) := by cases b <;> rfl
set_option maxRecDepth 100000 in
set_option maxHeartbeats 1000000 in
theorem sh_run_e1 (b : Bool) (f h : Int32) : nrun xZ (xY (xfm b)) xDT 55 1000 257 29 [(0, .ref 0), (1, .int f), (2, .int h)] [] (xh2 b) 0 0 = some (some (.int (-1)), xh2 b) := by cases b <;> rfl
set_option maxRecDepth 100000 in
set_option maxHeartbeats 1000000 in
theorem sh_run_e2 (b : Bool) (f h : Int32) : nrun xZ (xY (xfm b)) xDT 53 1000 257 29 [(0, .ref 0), (1, .int f), (2, .int h)] [] (xh2 b) 0 0 = some (some (.int (-1)), xh2 b) := by cases b <;> rfl
set_option maxRecDepth 100000 in
set_option maxHeartbeats 1000000 in
theorem sh_run_e3 (b : Bool) (f h : Int32) : nrun xZ (xY (xfm b)) xDT 50 1000 257 29 [(0, .ref 0), (1, .int f), (2, .int h)] [] (xh2 b) 0 0 = some (some (.int (-1)), xh2 b) := by cases b <;> rfl
set_option maxRecDepth 100000 in
set_option maxHeartbeats 1000000 in
theorem sh_run_z (b : Bool) (f h : Int32) : nrun xZ (xY (xfm b)) xDT 50 1000 257 22 [(0, .ref 0), (1, .int f), (2, .int h)] [] (xh2 b) 0 0 = some (some (.int (-1)), xh2 b) := by cases b <;> rfl
theorem sy_run_x (b : Bool) (f h : Int32) : xgn b 60 1000 257 (xh2 b) [.ref 0, .int f, .int h] = some (some (.int (-1)), xh2 b) := by
  show nrun xZ (xY (xfm b)) xDT 60 1000 257 0 [(0, .ref 0), (1, .int f), (2, .int h)] [] (xh2 b) 0 0 = _
  rw [sh_run_0]
  split
  · exact sh_run_e0 b f h
  · rw [sh_run_1]
    split
    · exact sh_run_e1 b f h
    · rw [sh_run_2]
      split
      · exact sh_run_e2 b f h
      · rw [sh_run_3]
        split
        · exact sh_run_e3 b f h
        · exact sh_run_z b f h
set_option maxRecDepth 100000 in
set_option maxHeartbeats 1000000 in
theorem sy_run_m (b : Bool) (f h : Int32) : xgn b 60 1000 445 (xh2 b) [.ref 49, .int f, .int h] = some (some (.int (-1)), xh2 b) := by cases b <;> rfl
theorem mj_302 : ∃ y b n r, zM xZ 302 = some (y, b, n, r, 0, 1, 0, 0) := ⟨_, _, _, _, rfl⟩
set_option maxRecDepth 100000 in
set_option maxHeartbeats 1000000 in
theorem sh_count_x_d (b : Bool) (w : Int32) : nrun xZ (xY (xfm b)) xDT 58 1000 302 152 [(0, .ref 0), (1, .int w)] [] (xh2 b) 0 0 = some (some (.int (-1)), xh2 b) := by cases b <;> rfl
set_option maxRecDepth 100000 in
set_option maxHeartbeats 1000000 in
theorem sy_count_x_d (b : Bool) (w : Int32) (h : w.toInt < 0 ∨ 6 < w.toInt) : xgn b 60 1000 302 (xh2 b) [.ref 0, .int w] = some (some (.int (-1)), xh2 b) := by
  show nrun xZ (xY (xfm b)) xDT 60 1000 302 0 [(0, .ref 0), (1, .int w)] [] (xh2 b) 0 0 = _
  obtain ⟨y, cb, nl, r, hj⟩ := mj_302
  have e : xTab 151 0 6 #[43, 62, 78, 105, 121, 126, 131] w = some 151 := by unfold xTab; rw [if_pos h]
  rw [n_step (st' := [.int w]) (pc' := 1) (lv' := [(0, .ref 0), (1, .int w)]) (hp' := xh2 b) (i := .iload_n 1) (len := 1) rfl hj rfl rfl rfl]
  rw [n_step (st' := []) (pc' := 152) (lv' := [(0, .ref 0), (1, .int w)]) (hp' := xh2 b) (i := .tableswitch 151 0 6 #[43, 62, 78, 105, 121, 126, 131]) (len := 43) rfl hj rfl rfl (by
    show ((xTab 151 0 6 #[43, 62, 78, 105, 121, 126, 131] w).bind fun off => (xTg 1 off).map fun t => (t, [(0, Value.ref 0), (1, Value.int w)], ([] : List Value), xh2 b)) = _
    rw [e]
    rfl)]
  exact sh_count_x_d b w
set_option maxRecDepth 100000 in
set_option maxHeartbeats 1000000 in
theorem sy_count_x_k (b : Bool) : ∀ k, k < 7 → xgn b 60 1000 302 (xh2 b) [.ref 0, .int (nI k)] = some (some (.int 0), xh2 b) := by
  intro k hk
  match k, hk with
  | 0, _ => cases b <;> rfl
  | 1, _ => cases b <;> rfl
  | 2, _ => cases b <;> rfl
  | 3, _ => cases b <;> rfl
  | 4, _ => cases b <;> rfl
  | 5, _ => cases b <;> rfl
  | 6, _ => cases b <;> rfl
  | k + 7, hk => exact absurd hk (by omega)
theorem mj_462 : ∃ y b n r, zM xZ 462 = some (y, b, n, r, 12, 1, 0, 0) := ⟨_, _, _, _, rfl⟩
set_option maxRecDepth 100000 in
set_option maxHeartbeats 1000000 in
theorem sh_count_m_d (b : Bool) (w : Int32) : nrun xZ (xY (xfm b)) xDT 58 1000 462 91 [(0, .ref 49), (1, .int w)] [] (xh2 b) 0 0 = some (some (.int (-1)), xh2 b) := by cases b <;> rfl
set_option maxRecDepth 100000 in
set_option maxHeartbeats 1000000 in
theorem sy_count_m_d (b : Bool) (w : Int32) (h : w.toInt < 0 ∨ 6 < w.toInt) : xgn b 60 1000 462 (xh2 b) [.ref 49, .int w] = some (some (.int (-1)), xh2 b) := by
  show nrun xZ (xY (xfm b)) xDT 60 1000 462 0 [(0, .ref 49), (1, .int w)] [] (xh2 b) 0 0 = _
  obtain ⟨y, cb, nl, r, hj⟩ := mj_462
  have e : xTab 90 0 6 #[43, 48, 53, 58, 63, 68, 73] w = some 90 := by unfold xTab; rw [if_pos h]
  rw [n_step (st' := [.int w]) (pc' := 1) (lv' := [(0, .ref 49), (1, .int w)]) (hp' := xh2 b) (i := .iload_n 1) (len := 1) rfl hj rfl rfl rfl]
  rw [n_step (st' := []) (pc' := 91) (lv' := [(0, .ref 49), (1, .int w)]) (hp' := xh2 b) (i := .tableswitch 90 0 6 #[43, 48, 53, 58, 63, 68, 73]) (len := 43) rfl hj rfl rfl (by
    show ((xTab 90 0 6 #[43, 48, 53, 58, 63, 68, 73] w).bind fun off => (xTg 1 off).map fun t => (t, [(0, Value.ref 49), (1, Value.int w)], ([] : List Value), xh2 b)) = _
    rw [e]
    rfl)]
  exact sh_count_m_d b w
set_option maxRecDepth 100000 in
set_option maxHeartbeats 1000000 in
theorem sy_count_m_k (b : Bool) : ∀ k, k < 7 → xgn b 60 1000 462 (xh2 b) [.ref 49, .int (nI k)] = some (some (.int 0), xh2 b) := by
  intro k hk
  match k, hk with
  | 0, _ => cases b <;> rfl
  | 1, _ => cases b <;> rfl
  | 2, _ => cases b <;> rfl
  | 3, _ => cases b <;> rfl
  | 4, _ => cases b <;> rfl
  | 5, _ => cases b <;> rfl
  | 6, _ => cases b <;> rfl
  | k + 7, hk => exact absurd hk (by omega)
