set_option maxRecDepth 100000 in
set_option maxHeartbeats 4000000 in
theorem pf_1 {ini : Bool} {v : Int32} {r : List Value} {e : Nat → x_E} {g : Nat → Int32} {q : Nat → Int64} {c : Nat → Nat → Int32} {l : Nat → Nat → Int64} : xPut xcl ini (xFf 12) 237 (rH e g q c l) (.int v :: .ref 49 :: r) = some (r, rH e (upd g 1 v) q c l) := by
  unfold xPut
  rw [show xFf 12 237 = some (12, 1) from rfl]
  dsimp only
  rw [show (rH e g q c l)[49]? = some (.inr (12, rF g q)) from rfl, show xcl[12]? = some ("TypedDescentModel", fun k => xT12.getD k ("", "", "", false), 144) from rfl]
  dsimp only
  rw [if_pos ⟨rfl, Nat.le_of_ble_eq_true rfl, rfl, rfl, Or.inl rfl⟩]
  rfl
set_option maxRecDepth 100000 in
set_option maxHeartbeats 4000000 in
theorem ald_50 {v : Int32} {r : List Value} {e : Nat → x_E} {g : Nat → Int32} {q : Nat → Int64} {c : Nat → Nat → Int32} {l : Nat → Nat → Int64} (h : ¬ (v < 0 ∨ 6000 ≤ v.toNatClampNeg)) : xAld 0 (rH e g q c l) (.int v :: .ref 50 :: r) = some (.int (c 50 v.toNatClampNeg) :: r) := by
  unfold xAld
  dsimp only
  rw [show (rH e g q c l)[50]? = some (.inl (0, 6000, .inl (c 50))) from rfl]
  dsimp only
  rw [if_pos ⟨rfl, h⟩]
set_option maxRecDepth 100000 in
set_option maxHeartbeats 4000000 in
theorem ast_50 {v x : Int32} {r : List Value} {e : Nat → x_E} {g : Nat → Int32} {q : Nat → Int64} {c : Nat → Nat → Int32} {l : Nat → Nat → Int64} (h : ¬ (v < 0 ∨ 6000 ≤ v.toNatClampNeg)) : xAst 0 (fun x => x) (rH e g q c l) (.int x :: .int v :: .ref 50 :: r) = some (r, rH e g q (updA c 50 (upd (c 50) v.toNatClampNeg x)) l) := by
  unfold xAst
  dsimp only
  rw [show (rH e g q c l)[50]? = some (.inl (0, 6000, .inl (c 50))) from rfl]
  dsimp only
  rw [if_pos ⟨rfl, h⟩]
  rfl
