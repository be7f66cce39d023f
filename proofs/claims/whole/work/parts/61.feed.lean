set_option maxRecDepth 100000 in
set_option maxHeartbeats 4000000 in
theorem fd_x0 (b : Bool) (f : Nat) (a1 a2 a3 a4 a5 : Int32) (cI : Nat → Nat → Int32) (cL : Nat → Nat → Int64) : nrun xZ (xY (xfm b)) xDT (f + 4) 1000 25 0 (fl 0 a1 a2 a3 a4 a5) [] (xmks (xsF 0 0) cI cL 0) 0 0 = nrun xZ (xY (xfm b)) xDT f 1000 25 12 (fl 0 a1 a2 a3 a4 a5) [] (xmks (xsF 0 0) cI cL 0) 0 0 := by
  obtain ⟨y, cb, nl, r, hj⟩ := mj_25
  rw [n_step (f := f + 3) (st' := [.ref 0]) (pc' := 1) (lv' := fl 0 a1 a2 a3 a4 a5) (hp' := xmks (xsF 0 0) cI cL 0) (i := .aload_n 0) (len := 1) rfl hj rfl rfl rfl]
  rw [n_get (f := f + 2) (st' := [.int 0]) (pc' := 4) (lv' := fl 0 a1 a2 a3 a4 a5) (hp' := xmks (xsF 0 0) cI cL 0) (i := .getfield 96) (len := 3) rfl hj rfl rfl rfl rfl]
  rw [n_step (f := f + 1) (st' := [.int ((Int16.ofInt 5980).toInt32), .int 0]) (pc' := 7) (lv' := fl 0 a1 a2 a3 a4 a5) (hp' := xmks (xsF 0 0) cI cL 0) (i := .sipush 5980) (len := 3) rfl hj rfl rfl rfl]
  rw [n_step (f := f) (st' := []) (pc' := 12) (lv' := fl 0 a1 a2 a3 a4 a5) (hp' := xmks (xsF 0 0) cI cL 0) (i := .if_icmp .le 5) (len := 3) rfl hj rfl rfl rfl]
set_option maxRecDepth 100000 in
set_option maxHeartbeats 4000000 in
theorem fd_x1 (b : Bool) (f : Nat) (a1 a2 a3 a4 a5 : Int32) (cI : Nat → Nat → Int32) (cL : Nat → Nat → Int64) : ∃ cI' cL', nrun xZ (xY (xfm b)) xDT (f + 123) 1000 25 12 (fl 0 a1 a2 a3 a4 a5) [] (xmks (xsF 0 0) cI cL 0) 0 0 = nrun xZ (xY (xfm b)) xDT (f + 120) 1000 25 17 (fl 0 a1 a2 a3 a4 a5) [] (xmks (xsF 4 0) cI' cL' 0) 0 0 := by
  obtain ⟨y, cb, nl, r, hj⟩ := mj_25
  obtain ⟨y', cb', r', hj'⟩ := mj_26
  exact f_w (ld := .iload_n 1) (len := 1) (pc1 := 14) (idx := 100) (w := a1) hj hj' rfl (fun _ _ => ⟨_, rfl⟩) (fun c e => pw_0 b f a1 c e) rfl rfl rfl rfl (fun _ _ => rfl) rfl (fun _ _ => rfl) (fun _ _ _ _ => Nat.le_of_ble_eq_true rfl) cI cL
set_option maxRecDepth 100000 in
set_option maxHeartbeats 4000000 in
theorem fd_x2 (b : Bool) (f : Nat) (a1 a2 a3 a4 a5 : Int32) (cI : Nat → Nat → Int32) (cL : Nat → Nat → Int64) : ∃ cI' cL', nrun xZ (xY (xfm b)) xDT (f + 123) 1000 25 17 (fl 0 a1 a2 a3 a4 a5) [] (xmks (xsF 4 0) cI cL 0) 0 0 = nrun xZ (xY (xfm b)) xDT (f + 120) 1000 25 22 (fl 0 a1 a2 a3 a4 a5) [] (xmks (xsF 8 0) cI' cL' 0) 0 0 := by
  obtain ⟨y, cb, nl, r, hj⟩ := mj_25
  obtain ⟨y', cb', r', hj'⟩ := mj_26
  exact f_w (ld := .iload_n 2) (len := 1) (pc1 := 19) (idx := 100) (w := a2) hj hj' rfl (fun _ _ => ⟨_, rfl⟩) (fun c e => pw_4 b f a2 c e) rfl rfl rfl rfl (fun _ _ => rfl) rfl (fun _ _ => rfl) (fun _ _ _ _ => Nat.le_of_ble_eq_true rfl) cI cL
set_option maxRecDepth 100000 in
set_option maxHeartbeats 4000000 in
theorem fd_x3 (b : Bool) (f : Nat) (a1 a2 a3 a4 a5 : Int32) (cI : Nat → Nat → Int32) (cL : Nat → Nat → Int64) : ∃ cI' cL', nrun xZ (xY (xfm b)) xDT (f + 123) 1000 25 22 (fl 0 a1 a2 a3 a4 a5) [] (xmks (xsF 8 0) cI cL 0) 0 0 = nrun xZ (xY (xfm b)) xDT (f + 120) 1000 25 27 (fl 0 a1 a2 a3 a4 a5) [] (xmks (xsF 12 0) cI' cL' 0) 0 0 := by
  obtain ⟨y, cb, nl, r, hj⟩ := mj_25
  obtain ⟨y', cb', r', hj'⟩ := mj_26
  exact f_w (ld := .iload_n 3) (len := 1) (pc1 := 24) (idx := 100) (w := a3) hj hj' rfl (fun _ _ => ⟨_, rfl⟩) (fun c e => pw_8 b f a3 c e) rfl rfl rfl rfl (fun _ _ => rfl) rfl (fun _ _ => rfl) (fun _ _ _ _ => Nat.le_of_ble_eq_true rfl) cI cL
set_option maxRecDepth 100000 in
set_option maxHeartbeats 4000000 in
theorem fd_x4 (b : Bool) (f : Nat) (a1 a2 a3 a4 a5 : Int32) (cI : Nat → Nat → Int32) (cL : Nat → Nat → Int64) : ∃ cI' cL', nrun xZ (xY (xfm b)) xDT (f + 123) 1000 25 27 (fl 0 a1 a2 a3 a4 a5) [] (xmks (xsF 12 0) cI cL 0) 0 0 = nrun xZ (xY (xfm b)) xDT (f + 120) 1000 25 33 (fl 0 a1 a2 a3 a4 a5) [] (xmks (xsF 16 0) cI' cL' 0) 0 0 := by
  obtain ⟨y, cb, nl, r, hj⟩ := mj_25
  obtain ⟨y', cb', r', hj'⟩ := mj_26
  exact f_w (ld := .iload 4) (len := 2) (pc1 := 30) (idx := 100) (w := a4) hj hj' rfl (fun _ _ => ⟨_, rfl⟩) (fun c e => pw_12 b f a4 c e) rfl rfl rfl rfl (fun _ _ => rfl) rfl (fun _ _ => rfl) (fun _ _ _ _ => Nat.le_of_ble_eq_true rfl) cI cL
set_option maxRecDepth 100000 in
set_option maxHeartbeats 4000000 in
theorem fd_x5 (b : Bool) (f : Nat) (a1 a2 a3 a4 a5 : Int32) (cI : Nat → Nat → Int32) (cL : Nat → Nat → Int64) : ∃ cI' cL', nrun xZ (xY (xfm b)) xDT (f + 123) 1000 25 33 (fl 0 a1 a2 a3 a4 a5) [] (xmks (xsF 16 0) cI cL 0) 0 0 = nrun xZ (xY (xfm b)) xDT (f + 120) 1000 25 39 (fl 0 a1 a2 a3 a4 a5) [] (xmks (xsF 20 0) cI' cL' 0) 0 0 := by
  obtain ⟨y, cb, nl, r, hj⟩ := mj_25
  obtain ⟨y', cb', r', hj'⟩ := mj_26
  exact f_w (ld := .iload 5) (len := 2) (pc1 := 36) (idx := 100) (w := a5) hj hj' rfl (fun _ _ => ⟨_, rfl⟩) (fun c e => pw_16 b f a5 c e) rfl rfl rfl rfl (fun _ _ => rfl) rfl (fun _ _ => rfl) (fun _ _ _ _ => Nat.le_of_ble_eq_true rfl) cI cL
set_option maxRecDepth 100000 in
set_option maxHeartbeats 4000000 in
theorem fd_xe (b : Bool) (f : Nat) (a1 a2 a3 a4 a5 : Int32) (hp : List x_E) : nrun xZ (xY (xfm b)) xDT (f + 2) 1000 25 39 (fl 0 a1 a2 a3 a4 a5) [] hp 0 0 = some (some (.int 1), hp) := rfl
