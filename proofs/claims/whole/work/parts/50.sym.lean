theorem n_step {Z : x_T} {Y : x_Y} {DT : Nat → Nat → Option (Instr × Nat)} {f d j pc : Nat} {lv : List (Nat × Value)} {st : List Value} {hp : List x_E} {k n : Nat} {i : Instr} {len : Nat} {M : x_M} {pc' : Nat} {lv' : List (Nat × Value)} {st' : List Value} {hp' : List x_E} (hd : DT j pc = some (i, len)) (hj : zM Z j = some M) (hg : gH i = gPl i) (hh : sH i = hPl i) (hs : xs1F i (zcl Z) ((xy M).name == "<init>") (xn M) (zF Z (xo M)) (zKc Z (xo M)) (zKl Z (xo M)) len pc lv st hp = some (pc', lv', st', hp')) : nrun Z Y DT (f + 1) d j pc lv st hp k n = nrun Z Y DT f d j pc' lv' st' hp' k n := by
  conv => lhs; unfold nrun
  rw [fN_eq, hd]
  dsimp only
  rw [hj]
  dsimp only
  rw [hg]
  unfold gPl
  rw [hh]
  unfold hPl
  rw [hs]
theorem xlt_c {n : Int32} (h : n < 0) : xCn .lt n 0 = true := by simp [xCn, h]
theorem xlt_n {n : Int32} (h : ¬ n < 0) : ¬ xCn .lt n 0 = true := by simp [xCn, h]
theorem xle_n {n : Int32} (h : ¬ n < 0) (h0 : n ≠ 0) : ¬ xCn .le n 0 = true := by
  simp only [xCn, decide_eq_true_eq]
  intro h1
  apply h0
  have a := Int32.le_iff_toInt_le.mp h1
  have b := mt Int32.lt_iff_toInt_lt.mpr h
  apply Int32.toInt_inj.mp
  simp at a b ⊢
  omega
theorem mj_27 : ∃ y b n r, zM xZ 27 = some (y, b, n, r, 0, 1, 0, 0) := ⟨_, _, _, _, rfl⟩
set_option maxRecDepth 100000 in
set_option maxHeartbeats 1000000 in
theorem sh_prog_x_1 (b : Bool) (n : Int32) : nrun xZ (xY (xfm b)) xDT 60 1000 27 0 [(0, .ref 0), (1, .int n)] [] (xh2 b) 0 0 = nrun xZ (xY (xfm b)) xDT 58 1000 27 (if xCn .lt n 0 = true then 12 else 4) [(0, .ref 0), (1, .int n)] [] (xh2 b) 0 0 := by
  obtain ⟨y, cb, nl, r, hj⟩ := mj_27
  rw [n_step (st' := [.int n]) (pc' := 1) (lv' := [(0, .ref 0), (1, .int n)]) (hp' := xh2 b) (i := .iload_n 1) (len := 1) rfl hj rfl rfl rfl]
  rw [n_step (st' := []) (pc' := if xCn .lt n 0 = true then 12 else 4) (lv' := [(0, .ref 0), (1, .int n)]) (hp' := xh2 b) (i := .ifCond .lt 11) (len := 3) rfl hj rfl rfl rfl]
