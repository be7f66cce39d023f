set_option maxRecDepth 100000 in
set_option maxHeartbeats 4000000 in
theorem fd_m0 (b : Bool) (f : Nat) (a1 a2 a3 a4 a5 : Int32) (cI : Nat → Nat → Int32) (cL : Nat → Nat → Int64) : nrun xZ (xY (xfm b)) xDT (f + 6) 1000 315 0 (fl 49 a1 a2 a3 a4 a5) [] (xmks (xsF 20 0) cI cL 0) 0 0 = nrun xZ (xY (xfm b)) xDT f 1000 315 15 (fl 49 a1 a2 a3 a4 a5) [] (xmks (xsF 20 0) cI cL 0) 0 0 := by
  obtain ⟨y, cb, nl, r, hj⟩ := mj_315
  rw [n_step (f := f + 5) (st' := [.ref 49]) (pc' := 1) (lv' := fl 49 a1 a2 a3 a4 a5) (hp' := xmks (xsF 20 0) cI cL 0) (i := .aload_n 0) (len := 1) rfl hj rfl rfl rfl]
  rw [n_get (f := f + 4) (st' := [.int 0]) (pc' := 4) (lv' := fl 49 a1 a2 a3 a4 a5) (hp' := xmks (xsF 20 0) cI cL 0) (i := .getfield 237) (len := 3) rfl hj rfl rfl rfl rfl]
  rw [n_step (f := f + 3) (st' := [.int 20, .int 0]) (pc' := 6) (lv' := fl 49 a1 a2 a3 a4 a5) (hp' := xmks (xsF 20 0) cI cL 0) (i := .bipush 20) (len := 2) rfl hj rfl rfl rfl]
  rw [n_step (f := f + 2) (st' := [.int 20]) (pc' := 7) (lv' := fl 49 a1 a2 a3 a4 a5) (hp' := xmks (xsF 20 0) cI cL 0) (i := .iadd) (len := 1) rfl hj rfl rfl rfl]
  rw [n_step (f := f + 1) (st' := [.int ((Int16.ofInt 6000).toInt32), .int 20]) (pc' := 10) (lv' := fl 49 a1 a2 a3 a4 a5) (hp' := xmks (xsF 20 0) cI cL 0) (i := .sipush 6000) (len := 3) rfl hj rfl rfl rfl]
  rw [n_step (f := f) (st' := []) (pc' := 15) (lv' := fl 49 a1 a2 a3 a4 a5) (hp' := xmks (xsF 20 0) cI cL 0) (i := .if_icmp .le 5) (len := 3) rfl hj rfl rfl rfl]
set_option maxRecDepth 100000 in
set_option maxHeartbeats 4000000 in
theorem fd_m1 (b : Bool) (f : Nat) (a1 a2 a3 a4 a5 : Int32) (cI : Nat → Nat → Int32) (cL : Nat → Nat → Int64) : ∃ cI' cL', nrun xZ (xY (xfm b)) xDT (f + 123) 1000 315 15 (fl 49 a1 a2 a3 a4 a5) [] (xmks (xsF 20 0) cI cL 0) 0 0 = nrun xZ (xY (xfm b)) xDT (f + 120) 1000 315 20 (fl 49 a1 a2 a3 a4 a5) [] (xmks (xsF 20 4) cI' cL' 0) 0 0 := by
  obtain ⟨y, cb, nl, r, hj⟩ := mj_315
  obtain ⟨y', cb', r', hj'⟩ := mj_316
  exact f_w (ld := .iload_n 1) (len := 1) (pc1 := 17) (idx := 240) (w := a1) hj hj' rfl (fun _ _ => ⟨_, rfl⟩) (fun c e => ly_0 b f a1 c e) rfl rfl rfl rfl (fun _ _ => rfl) rfl (fun _ _ => rfl) (fun _ _ _ _ => Nat.le_of_ble_eq_true rfl) cI cL
set_option maxRecDepth 100000 in
set_option maxHeartbeats 4000000 in
theorem fd_m2 (b : Bool) (f : Nat) (a1 a2 a3 a4 a5 : Int32) (cI : Nat → Nat → Int32) (cL : Nat → Nat → Int64) : ∃ cI' cL', nrun xZ (xY (xfm b)) xDT (f + 123) 1000 315 20 (fl 49 a1 a2 a3 a4 a5) [] (xmks (xsF 20 4) cI cL 0) 0 0 = nrun xZ (xY (xfm b)) xDT (f + 120) 1000 315 25 (fl 49 a1 a2 a3 a4 a5) [] (xmks (xsF 20 8) cI' cL' 0) 0 0 := by
  obtain ⟨y, cb, nl, r, hj⟩ := mj_315
  obtain ⟨y', cb', r', hj'⟩ := mj_316
  exact f_w (ld := .iload_n 2) (len := 1) (pc1 := 22) (idx := 240) (w := a2) hj hj' rfl (fun _ _ => ⟨_, rfl⟩) (fun c e => ly_4 b f a2 c e) rfl rfl rfl rfl (fun _ _ => rfl) rfl (fun _ _ => rfl) (fun _ _ _ _ => Nat.le_of_ble_eq_true rfl) cI cL
set_option maxRecDepth 100000 in
set_option maxHeartbeats 4000000 in
theorem fd_m3 (b : Bool) (f : Nat) (a1 a2 a3 a4 a5 : Int32) (cI : Nat → Nat → Int32) (cL : Nat → Nat → Int64) : ∃ cI' cL', nrun xZ (xY (xfm b)) xDT (f + 123) 1000 315 25 (fl 49 a1 a2 a3 a4 a5) [] (xmks (xsF 20 8) cI cL 0) 0 0 = nrun xZ (xY (xfm b)) xDT (f + 120) 1000 315 30 (fl 49 a1 a2 a3 a4 a5) [] (xmks (xsF 20 12) cI' cL' 0) 0 0 := by
  obtain ⟨y, cb, nl, r, hj⟩ := mj_315
  obtain ⟨y', cb', r', hj'⟩ := mj_316
  exact f_w (ld := .iload_n 3) (len := 1) (pc1 := 27) (idx := 240) (w := a3) hj hj' rfl (fun _ _ => ⟨_, rfl⟩) (fun c e => ly_8 b f a3 c e) rfl rfl rfl rfl (fun _ _ => rfl) rfl (fun _ _ => rfl) (fun _ _ _ _ => Nat.le_of_ble_eq_true rfl) cI cL
set_option maxRecDepth 100000 in
set_option maxHeartbeats 4000000 in
theorem fd_m4 (b : Bool) (f : Nat) (a1 a2 a3 a4 a5 : Int32) (cI : Nat → Nat → Int32) (cL : Nat → Nat → Int64) : ∃ cI' cL', nrun xZ (xY (xfm b)) xDT (f + 123) 1000 315 30 (fl 49 a1 a2 a3 a4 a5) [] (xmks (xsF 20 12) cI cL 0) 0 0 = nrun xZ (xY (xfm b)) xDT (f + 120) 1000 315 36 (fl 49 a1 a2 a3 a4 a5) [] (xmks (xsF 20 16) cI' cL' 0) 0 0 := by
  obtain ⟨y, cb, nl, r, hj⟩ := mj_315
  obtain ⟨y', cb', r', hj'⟩ := mj_316
  exact f_w (ld := .iload 4) (len := 2) (pc1 := 33) (idx := 240) (w := a4) hj hj' rfl (fun _ _ => ⟨_, rfl⟩) (fun c e => ly_12 b f a4 c e) rfl rfl rfl rfl (fun _ _ => rfl) rfl (fun _ _ => rfl) (fun _ _ _ _ => Nat.le_of_ble_eq_true rfl) cI cL
set_option maxRecDepth 100000 in
set_option maxHeartbeats 4000000 in
theorem fd_m5 (b : Bool) (f : Nat) (a1 a2 a3 a4 a5 : Int32) (cI : Nat → Nat → Int32) (cL : Nat → Nat → Int64) : ∃ cI' cL', nrun xZ (xY (xfm b)) xDT (f + 123) 1000 315 36 (fl 49 a1 a2 a3 a4 a5) [] (xmks (xsF 20 16) cI cL 0) 0 0 = nrun xZ (xY (xfm b)) xDT (f + 120) 1000 315 42 (fl 49 a1 a2 a3 a4 a5) [] (xmks (xsF 20 20) cI' cL' 0) 0 0 := by
  obtain ⟨y, cb, nl, r, hj⟩ := mj_315
  obtain ⟨y', cb', r', hj'⟩ := mj_316
  exact f_w (ld := .iload 5) (len := 2) (pc1 := 39) (idx := 240) (w := a5) hj hj' rfl (fun _ _ => ⟨_, rfl⟩) (fun c e => ly_16 b f a5 c e) rfl rfl rfl rfl (fun _ _ => rfl) rfl (fun _ _ => rfl) (fun _ _ _ _ => Nat.le_of_ble_eq_true rfl) cI cL
set_option maxRecDepth 100000 in
set_option maxHeartbeats 4000000 in
theorem fd_me (b : Bool) (f : Nat) (a1 a2 a3 a4 a5 : Int32) (hp : List x_E) : nrun xZ (xY (xfm b)) xDT (f + 2) 1000 315 42 (fl 49 a1 a2 a3 a4 a5) [] hp 0 0 = some (some (.int 1), hp) := rfl
