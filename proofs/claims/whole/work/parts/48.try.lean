set_option maxRecDepth 100000 in
set_option maxHeartbeats 4000000 in
theorem ty_kind (i : Int32) : xok1 (xgn false 50 5 252 (xh2 false) [.ref 0, .int i]) (-1) = true := by rfl
