theorem mq_315 : ∃ y cb, zM xZ 315 = some (y, cb, 6, some .boolean, 12, 5, 0, 0) := ⟨_, _, rfl⟩
theorem mq_316 : ∃ y cb, zM xZ 316 = some (y, cb, 3, none, 12, 1, 0, 0) := ⟨_, _, rfl⟩
theorem mq_323 : ∃ y cb, zM xZ 323 = some (y, cb, 3, none, 12, 2, 0, 0) := ⟨_, _, rfl⟩
theorem mq_325 : ∃ y cb, zM xZ 325 = some (y, cb, 2, some .int, 12, 1, 0, 0) := ⟨_, _, rfl⟩
theorem mq_326 : ∃ y cb, zM xZ 326 = some (y, cb, 1, some .boolean, 12, 1, 0, 0) := ⟨_, _, rfl⟩
theorem mq_328 : ∃ y cb, zM xZ 328 = some (y, cb, 1, some .boolean, 12, 1, 0, 0) := ⟨_, _, rfl⟩
theorem mq_337 : ∃ y cb, zM xZ 337 = some (y, cb, 1, some .boolean, 12, 0, 0, 0) := ⟨_, _, rfl⟩
set_option maxRecDepth 100000 in
set_option maxHeartbeats 4000000 in
theorem pf_19 {ini : Bool} {v : Int32} {r : List Value} {e : Nat → x_E} {g : Nat → Int32} {q : Nat → Int64} {c : Nat → Nat → Int32} {l : Nat → Nat → Int64} : xPut xcl ini (xFf 12) 319 (rH e g q c l) (.int v :: .ref 49 :: r) = some (r, rH e (upd g 19 v) q c l) := by
  unfold xPut
  rw [show xFf 12 319 = some (12, 19) from rfl]
  dsimp only
  rw [show (rH e g q c l)[49]? = some (.inr (12, rF g q)) from rfl, show xcl[12]? = some ("TypedDescentModel", fun k => xT12.getD k ("", "", "", false), 144) from rfl]
  dsimp only
  rw [if_pos ⟨rfl, Nat.le_of_ble_eq_true rfl, rfl, rfl, Or.inl rfl⟩]
  rfl
set_option maxRecDepth 100000 in
set_option maxHeartbeats 4000000 in
theorem pf_20 {ini : Bool} {v : Int32} {r : List Value} {e : Nat → x_E} {g : Nat → Int32} {q : Nat → Int64} {c : Nat → Nat → Int32} {l : Nat → Nat → Int64} : xPut xcl ini (xFf 12) 322 (rH e g q c l) (.int v :: .ref 49 :: r) = some (r, rH e (upd g 20 v) q c l) := by
  unfold xPut
  rw [show xFf 12 322 = some (12, 20) from rfl]
  dsimp only
  rw [show (rH e g q c l)[49]? = some (.inr (12, rF g q)) from rfl, show xcl[12]? = some ("TypedDescentModel", fun k => xT12.getD k ("", "", "", false), 144) from rfl]
  dsimp only
  rw [if_pos ⟨rfl, Nat.le_of_ble_eq_true rfl, rfl, rfl, Or.inl rfl⟩]
  rfl
set_option maxRecDepth 100000 in
set_option maxHeartbeats 4000000 in
theorem ald_51 {v : Int32} {r : List Value} {e : Nat → x_E} {g : Nat → Int32} {q : Nat → Int64} {c : Nat → Nat → Int32} {l : Nat → Nat → Int64} (h : ¬ (v < 0 ∨ 6000 ≤ v.toNatClampNeg)) : xAld 0 (rH e g q c l) (.int v :: .ref 51 :: r) = some (.int (c 51 v.toNatClampNeg) :: r) := by
  unfold xAld
  dsimp only
  rw [show (rH e g q c l)[51]? = some (.inl (0, 6000, .inl (c 51))) from rfl]
  dsimp only
  rw [if_pos ⟨rfl, h⟩]
