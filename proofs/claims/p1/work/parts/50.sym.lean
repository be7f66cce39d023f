theorem n_step {Z : x_T} {Y : x_Y} {DT : Nat → Nat → Option (Instr × Nat)} {f d j pc : Nat} {lv : List (Nat × Value)} {st : List Value} {hp : List x_E} {k n : Nat} {i : Instr} {len : Nat} {M : x_M} {pc' : Nat} {lv' : List (Nat × Value)} {st' : List Value} {hp' : List x_E} (hd : DT j pc = some (i, len)) (hj : zM Z j = some M) (hg : gH i = gPl i) (hh : sH i = hPl i) (hs : xs1F i (zcl Z) ((xy M).name == "<init>") (xn M) (zF Z (xo M)) (zKc Z (xo M)) (zKl Z (xo M)) len pc lv st hp = some (pc', lv', st', hp')) : nrun Z Y DT (f + 1) d j pc lv st hp k n = nrun Z Y DT f d j pc' lv' st' hp' k n := by
  conv => lhs; unfold nrun
  rw [fN_eq, hd]
  dsimp only
  rw [hj]
  dsimp only
  rw [hg]
  unfold gPl
  rw [hh]
  unfold hPl
  rw [hs]
theorem xlt_c {n : Int32} (h : n < 0) : xCn .lt n 0 = true := by simp [xCn, h]
theorem xlt_n {n : Int32} (h : ¬ n < 0) : ¬ xCn .lt n 0 = true := by simp [xCn, h]
theorem xle_n {n : Int32} (h : ¬ n < 0) (h0 : n ≠ 0) : ¬ xCn .le n 0 = true := by
  simp only [xCn, decide_eq_true_eq]
  intro h1
  apply h0
  have a := Int32.le_iff_toInt_le.mp h1
  have b := mt Int32.lt_iff_toInt_lt.mpr h
  apply Int32.toInt_inj.mp
  simp at a b ⊢
  omega
theorem n_get {Z : x_T} {Y : x_Y} {DT : Nat → Nat → Option (Instr × Nat)} {f d j pc : Nat} {lv : List (Nat × Value)} {st : List Value} {hp : List x_E} {k n : Nat} {i : Instr} {len : Nat} {M : x_M} {pc' : Nat} {lv' : List (Nat × Value)} {st' : List Value} {hp' : List x_E} (hd : DT j pc = some (i, len)) (hj : zM Z j = some M) (hg : gH i = gPl i) (hh : sH i = hTx i) (h2 : xs2 Y (xo M) i len pc st = none) (hs : xs1F i (zcl Z) ((xy M).name == "<init>") (xn M) (zF Z (xo M)) (zKc Z (xo M)) (zKl Z (xo M)) len pc lv st hp = some (pc', lv', st', hp')) : nrun Z Y DT (f + 1) d j pc lv st hp k n = nrun Z Y DT f d j pc' lv' st' hp' k n := by
  conv => lhs; unfold nrun
  rw [fN_eq, hd]
  dsimp only
  rw [hj]
  dsimp only
  rw [hg]
  unfold gPl
  rw [hh]
  unfold hTx
  rw [h2]
  dsimp only
  unfold hPl
  rw [hs]
theorem mj_27 : ∃ y b n r, zM xZ 27 = some (y, b, n, r, 0, 1, 0, 0) := ⟨_, _, _, _, rfl⟩
set_option maxRecDepth 100000 in
set_option maxHeartbeats 1000000 in
theorem sh_prog_x_1 (b : Bool) (n : Int32) : nrun xZ (xY (xfm b)) xDT 60 1000 27 0 [(0, .ref 0), (1, .int n)] [] (xh2 b) 0 0 = nrun xZ (xY (xfm b)) xDT 58 1000 27 (if xCn .lt n 0 = true then 12 else 4) [(0, .ref 0), (1, .int n)] [] (xh2 b) 0 0 := by
  obtain ⟨y, cb, nl, r, hj⟩ := mj_27
  rw [n_step (st' := [.int n]) (pc' := 1) (lv' := [(0, .ref 0), (1, .int n)]) (hp' := xh2 b) (i := .iload_n 1) (len := 1) rfl hj rfl rfl rfl]
  rw [n_step (st' := []) (pc' := if xCn .lt n 0 = true then 12 else 4) (lv' := [(0, .ref 0), (1, .int n)]) (hp' := xh2 b) (i := .ifCond .lt 11) (len := 3) rfl hj rfl rfl rfl]
set_option maxRecDepth 100000 in
set_option maxHeartbeats 1000000 in
theorem sh_prog_x_2 (b : Bool) (n : Int32) : nrun xZ (xY (xfm b)) xDT 58 1000 27 4 [(0, .ref 0), (1, .int n)] [] (xh2 b) 0 0 = nrun xZ (xY (xfm b)) xDT 54 1000 27 (if xCn .le n 0 = true then 14 else 12) [(0, .ref 0), (1, .int n)] [] (xh2 b) 0 0 := by
  obtain ⟨y, cb, nl, r, hj⟩ := mj_27
  rw [n_step (st' := [.int n]) (pc' := 5) (lv' := [(0, .ref 0), (1, .int n)]) (hp' := xh2 b) (i := .iload_n 1) (len := 1) rfl hj rfl rfl rfl]
  rw [n_step (st' := [.ref 0, .int n]) (pc' := 6) (lv' := [(0, .ref 0), (1, .int n)]) (hp' := xh2 b) (i := .aload_n 0) (len := 1) rfl hj rfl rfl rfl]
  rw [n_get (st' := [.int 0, .int n]) (pc' := 9) (lv' := [(0, .ref 0), (1, .int n)]) (hp' := xh2 b) (i := .getfield 96) (len := 3) rfl hj rfl rfl rfl (by cases b <;> rfl)]
  rw [n_step (st' := []) (pc' := if xCn .le n 0 = true then 14 else 12) (lv' := [(0, .ref 0), (1, .int n)]) (hp' := xh2 b) (i := .if_icmp .le 5) (len := 3) rfl hj rfl rfl rfl]
set_option maxRecDepth 100000 in
set_option maxHeartbeats 1000000 in
theorem sh_prog_x_3 (b : Bool) (n : Int32) : nrun xZ (xY (xfm b)) xDT 58 1000 27 12 [(0, .ref 0), (1, .int n)] [] (xh2 b) 0 0 = some (some (.int (-1)), xh2 b) := by cases b <;> rfl
set_option maxRecDepth 100000 in
set_option maxHeartbeats 1000000 in
theorem sh_prog_x_4 (b : Bool) (n : Int32) : nrun xZ (xY (xfm b)) xDT 54 1000 27 12 [(0, .ref 0), (1, .int n)] [] (xh2 b) 0 0 = some (some (.int (-1)), xh2 b) := by cases b <;> rfl
theorem sy_prog_x (b : Bool) (n : Int32) (h : n ≠ 0) : xgn b 60 1000 27 (xh2 b) [.ref 0, .int n] = some (some (.int (-1)), xh2 b) := by
  show nrun xZ (xY (xfm b)) xDT 60 1000 27 0 [(0, .ref 0), (1, .int n)] [] (xh2 b) 0 0 = _
  rw [sh_prog_x_1]
  by_cases h1 : n < 0
  · rw [if_pos (xlt_c h1), sh_prog_x_3]
  · rw [if_neg (xlt_n h1), sh_prog_x_2, if_neg (xle_n h1 h), sh_prog_x_4]
theorem mj_317 : ∃ y b n r, zM xZ 317 = some (y, b, n, r, 12, 1, 0, 0) := ⟨_, _, _, _, rfl⟩
set_option maxRecDepth 100000 in
set_option maxHeartbeats 1000000 in
theorem sh_prog_m_1 (b : Bool) (n : Int32) : nrun xZ (xY (xfm b)) xDT 60 1000 317 0 [(0, .ref 49), (1, .int n)] [] (xh2 b) 0 0 = nrun xZ (xY (xfm b)) xDT 58 1000 317 (if xCn .lt n 0 = true then 12 else 4) [(0, .ref 49), (1, .int n)] [] (xh2 b) 0 0 := by
  obtain ⟨y, cb, nl, r, hj⟩ := mj_317
  rw [n_step (st' := [.int n]) (pc' := 1) (lv' := [(0, .ref 49), (1, .int n)]) (hp' := xh2 b) (i := .iload_n 1) (len := 1) rfl hj rfl rfl rfl]
  rw [n_step (st' := []) (pc' := if xCn .lt n 0 = true then 12 else 4) (lv' := [(0, .ref 49), (1, .int n)]) (hp' := xh2 b) (i := .ifCond .lt 11) (len := 3) rfl hj rfl rfl rfl]
set_option maxRecDepth 100000 in
set_option maxHeartbeats 1000000 in
theorem sh_prog_m_2 (b : Bool) (n : Int32) : nrun xZ (xY (xfm b)) xDT 58 1000 317 4 [(0, .ref 49), (1, .int n)] [] (xh2 b) 0 0 = nrun xZ (xY (xfm b)) xDT 54 1000 317 (if xCn .le n 0 = true then 14 else 12) [(0, .ref 49), (1, .int n)] [] (xh2 b) 0 0 := by
  obtain ⟨y, cb, nl, r, hj⟩ := mj_317
  rw [n_step (st' := [.int n]) (pc' := 5) (lv' := [(0, .ref 49), (1, .int n)]) (hp' := xh2 b) (i := .iload_n 1) (len := 1) rfl hj rfl rfl rfl]
  rw [n_step (st' := [.ref 49, .int n]) (pc' := 6) (lv' := [(0, .ref 49), (1, .int n)]) (hp' := xh2 b) (i := .aload_n 0) (len := 1) rfl hj rfl rfl rfl]
  rw [n_get (st' := [.int 0, .int n]) (pc' := 9) (lv' := [(0, .ref 49), (1, .int n)]) (hp' := xh2 b) (i := .getfield 237) (len := 3) rfl hj rfl rfl rfl (by cases b <;> rfl)]
  rw [n_step (st' := []) (pc' := if xCn .le n 0 = true then 14 else 12) (lv' := [(0, .ref 49), (1, .int n)]) (hp' := xh2 b) (i := .if_icmp .le 5) (len := 3) rfl hj rfl rfl rfl]
set_option maxRecDepth 100000 in
set_option maxHeartbeats 1000000 in
theorem sh_prog_m_3 (b : Bool) (n : Int32) : nrun xZ (xY (xfm b)) xDT 58 1000 317 12 [(0, .ref 49), (1, .int n)] [] (xh2 b) 0 0 = some (some (.int (-1)), xh2 b) := by cases b <;> rfl
set_option maxRecDepth 100000 in
set_option maxHeartbeats 1000000 in
theorem sh_prog_m_4 (b : Bool) (n : Int32) : nrun xZ (xY (xfm b)) xDT 54 1000 317 12 [(0, .ref 49), (1, .int n)] [] (xh2 b) 0 0 = some (some (.int (-1)), xh2 b) := by cases b <;> rfl
theorem sy_prog_m (b : Bool) (n : Int32) (h : n ≠ 0) : xgn b 60 1000 317 (xh2 b) [.ref 49, .int n] = some (some (.int (-1)), xh2 b) := by
  show nrun xZ (xY (xfm b)) xDT 60 1000 317 0 [(0, .ref 49), (1, .int n)] [] (xh2 b) 0 0 = _
  rw [sh_prog_m_1]
  by_cases h1 : n < 0
  · rw [if_pos (xlt_c h1), sh_prog_m_3]
  · rw [if_neg (xlt_n h1), sh_prog_m_2, if_neg (xle_n h1 h), sh_prog_m_4]
theorem mj_176 : ∃ y b n r, zM xZ 176 = some (y, b, n, r, 0, 1, 0, 0) := ⟨_, _, _, _, rfl⟩
set_option maxRecDepth 100000 in
set_option maxHeartbeats 1000000 in
theorem sh_blocks_x_1 (b : Bool) (n : Int32) : nrun xZ (xY (xfm b)) xDT 60 1000 176 0 [(0, .ref 0), (1, .int n)] [] (xh2 b) 0 0 = nrun xZ (xY (xfm b)) xDT 58 1000 176 (if xCn .lt n 0 = true then 12 else 4) [(0, .ref 0), (1, .int n)] [] (xh2 b) 0 0 := by
  obtain ⟨y, cb, nl, r, hj⟩ := mj_176
  rw [n_step (st' := [.int n]) (pc' := 1) (lv' := [(0, .ref 0), (1, .int n)]) (hp' := xh2 b) (i := .iload_n 1) (len := 1) rfl hj rfl rfl rfl]
  rw [n_step (st' := []) (pc' := if xCn .lt n 0 = true then 12 else 4) (lv' := [(0, .ref 0), (1, .int n)]) (hp' := xh2 b) (i := .ifCond .lt 11) (len := 3) rfl hj rfl rfl rfl]
set_option maxRecDepth 100000 in
set_option maxHeartbeats 1000000 in
theorem sh_blocks_x_2 (b : Bool) (n : Int32) : nrun xZ (xY (xfm b)) xDT 58 1000 176 4 [(0, .ref 0), (1, .int n)] [] (xh2 b) 0 0 = nrun xZ (xY (xfm b)) xDT 54 1000 176 (if xCn .le n 0 = true then 14 else 12) [(0, .ref 0), (1, .int n)] [] (xh2 b) 0 0 := by
  obtain ⟨y, cb, nl, r, hj⟩ := mj_176
  rw [n_step (st' := [.int n]) (pc' := 5) (lv' := [(0, .ref 0), (1, .int n)]) (hp' := xh2 b) (i := .iload_n 1) (len := 1) rfl hj rfl rfl rfl]
  rw [n_step (st' := [.ref 0, .int n]) (pc' := 6) (lv' := [(0, .ref 0), (1, .int n)]) (hp' := xh2 b) (i := .aload_n 0) (len := 1) rfl hj rfl rfl rfl]
  rw [n_get (st' := [.int 0, .int n]) (pc' := 9) (lv' := [(0, .ref 0), (1, .int n)]) (hp' := xh2 b) (i := .getfield 96) (len := 3) rfl hj rfl rfl rfl (by cases b <;> rfl)]
  rw [n_step (st' := []) (pc' := if xCn .le n 0 = true then 14 else 12) (lv' := [(0, .ref 0), (1, .int n)]) (hp' := xh2 b) (i := .if_icmp .le 5) (len := 3) rfl hj rfl rfl rfl]
set_option maxRecDepth 100000 in
set_option maxHeartbeats 1000000 in
theorem sh_blocks_x_3 (b : Bool) (n : Int32) : nrun xZ (xY (xfm b)) xDT 58 1000 176 12 [(0, .ref 0), (1, .int n)] [] (xh2 b) 0 0 = some (some (.int (-1)), xh2 b) := by cases b <;> rfl
set_option maxRecDepth 100000 in
set_option maxHeartbeats 1000000 in
theorem sh_blocks_x_4 (b : Bool) (n : Int32) : nrun xZ (xY (xfm b)) xDT 54 1000 176 12 [(0, .ref 0), (1, .int n)] [] (xh2 b) 0 0 = some (some (.int (-1)), xh2 b) := by cases b <;> rfl
theorem sy_blocks_x (b : Bool) (n : Int32) (h : n ≠ 0) : xgn b 60 1000 176 (xh2 b) [.ref 0, .int n] = some (some (.int (-1)), xh2 b) := by
  show nrun xZ (xY (xfm b)) xDT 60 1000 176 0 [(0, .ref 0), (1, .int n)] [] (xh2 b) 0 0 = _
  rw [sh_blocks_x_1]
  by_cases h1 : n < 0
  · rw [if_pos (xlt_c h1), sh_blocks_x_3]
  · rw [if_neg (xlt_n h1), sh_blocks_x_2, if_neg (xle_n h1 h), sh_blocks_x_4]
theorem mj_398 : ∃ y b n r, zM xZ 398 = some (y, b, n, r, 12, 1, 0, 0) := ⟨_, _, _, _, rfl⟩
set_option maxRecDepth 100000 in
set_option maxHeartbeats 1000000 in
theorem sh_blocks_m_1 (b : Bool) (n : Int32) : nrun xZ (xY (xfm b)) xDT 60 1000 398 0 [(0, .ref 49), (1, .int n)] [] (xh2 b) 0 0 = nrun xZ (xY (xfm b)) xDT 58 1000 398 (if xCn .lt n 0 = true then 12 else 4) [(0, .ref 49), (1, .int n)] [] (xh2 b) 0 0 := by
  obtain ⟨y, cb, nl, r, hj⟩ := mj_398
  rw [n_step (st' := [.int n]) (pc' := 1) (lv' := [(0, .ref 49), (1, .int n)]) (hp' := xh2 b) (i := .iload_n 1) (len := 1) rfl hj rfl rfl rfl]
  rw [n_step (st' := []) (pc' := if xCn .lt n 0 = true then 12 else 4) (lv' := [(0, .ref 49), (1, .int n)]) (hp' := xh2 b) (i := .ifCond .lt 11) (len := 3) rfl hj rfl rfl rfl]
set_option maxRecDepth 100000 in
set_option maxHeartbeats 1000000 in
theorem sh_blocks_m_2 (b : Bool) (n : Int32) : nrun xZ (xY (xfm b)) xDT 58 1000 398 4 [(0, .ref 49), (1, .int n)] [] (xh2 b) 0 0 = nrun xZ (xY (xfm b)) xDT 54 1000 398 (if xCn .le n 0 = true then 14 else 12) [(0, .ref 49), (1, .int n)] [] (xh2 b) 0 0 := by
  obtain ⟨y, cb, nl, r, hj⟩ := mj_398
  rw [n_step (st' := [.int n]) (pc' := 5) (lv' := [(0, .ref 49), (1, .int n)]) (hp' := xh2 b) (i := .iload_n 1) (len := 1) rfl hj rfl rfl rfl]
  rw [n_step (st' := [.ref 49, .int n]) (pc' := 6) (lv' := [(0, .ref 49), (1, .int n)]) (hp' := xh2 b) (i := .aload_n 0) (len := 1) rfl hj rfl rfl rfl]
  rw [n_get (st' := [.int 0, .int n]) (pc' := 9) (lv' := [(0, .ref 49), (1, .int n)]) (hp' := xh2 b) (i := .getfield 237) (len := 3) rfl hj rfl rfl rfl (by cases b <;> rfl)]
  rw [n_step (st' := []) (pc' := if xCn .le n 0 = true then 14 else 12) (lv' := [(0, .ref 49), (1, .int n)]) (hp' := xh2 b) (i := .if_icmp .le 5) (len := 3) rfl hj rfl rfl rfl]
set_option maxRecDepth 100000 in
set_option maxHeartbeats 1000000 in
theorem sh_blocks_m_3 (b : Bool) (n : Int32) : nrun xZ (xY (xfm b)) xDT 58 1000 398 12 [(0, .ref 49), (1, .int n)] [] (xh2 b) 0 0 = some (some (.int (-1)), xh2 b) := by cases b <;> rfl
set_option maxRecDepth 100000 in
set_option maxHeartbeats 1000000 in
theorem sh_blocks_m_4 (b : Bool) (n : Int32) : nrun xZ (xY (xfm b)) xDT 54 1000 398 12 [(0, .ref 49), (1, .int n)] [] (xh2 b) 0 0 = some (some (.int (-1)), xh2 b) := by cases b <;> rfl
theorem sy_blocks_m (b : Bool) (n : Int32) (h : n ≠ 0) : xgn b 60 1000 398 (xh2 b) [.ref 49, .int n] = some (some (.int (-1)), xh2 b) := by
  show nrun xZ (xY (xfm b)) xDT 60 1000 398 0 [(0, .ref 49), (1, .int n)] [] (xh2 b) 0 0 = _
  rw [sh_blocks_m_1]
  by_cases h1 : n < 0
  · rw [if_pos (xlt_c h1), sh_blocks_m_3]
  · rw [if_neg (xlt_n h1), sh_blocks_m_2, if_neg (xle_n h1 h), sh_blocks_m_4]
