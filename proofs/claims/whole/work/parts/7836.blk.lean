set_option maxRecDepth 100000 in
set_option maxHeartbeats 4000000 in
theorem bk_464_29 {b : Bool} {d : Nat} {t0 : Int32} {e : Nat → x_E} {g : Nat → Int32} {q : Nat → Int64} {c : Nat → Nat → Int32} {l : Nat → Nat → Int64} : rr b e d 464 29 [] [.int t0] g q c l (some (.int t0), rH e g q c l) := by
  refine ⟨0 + 1, ?_⟩
  obtain ⟨y, cb, hj⟩ := mq_464
  exact n_ret rfl hj rfl rfl (x_ret rfl)
