set_option maxRecDepth 100000 in
set_option maxHeartbeats 4000000 in
theorem sy_place_x (b : Bool) : xgn b 60 1000 250 (xh2 b) [.ref 0] = some (some (.int (-1)), xh2 b) := by cases b <;> rfl
set_option maxRecDepth 100000 in
set_option maxHeartbeats 4000000 in
theorem sy_place_m (b : Bool) : xgn b 60 1000 460 (xh2 b) [.ref 49] = some (some (.int (-1)), xh2 b) := by cases b <;> rfl
set_option maxRecDepth 100000 in
set_option maxHeartbeats 4000000 in
theorem sy_value_x (b : Bool) : xgn b 60 1000 300 (xh2 b) [.ref 0] = some (some (.int 0), xh2 b) := by cases b <;> rfl
set_option maxRecDepth 100000 in
set_option maxHeartbeats 4000000 in
theorem sy_value_m (b : Bool) : xgn b 60 1000 461 (xh2 b) [.ref 49] = some (some (.int 0), xh2 b) := by cases b <;> rfl
set_option maxRecDepth 100000 in
set_option maxHeartbeats 4000000 in
theorem sy_kind_x (b : Bool) (i : Int32) : xgn b 60 1000 252 (xh2 b) [.ref 0, .int i] = some (some (.int (-1)), xh2 b) := by cases b <;> rfl
set_option maxRecDepth 100000 in
set_option maxHeartbeats 4000000 in
theorem sy_kind_m (b : Bool) (i : Int32) : xgn b 60 1000 391 (xh2 b) [.ref 49, .int i] = some (some (.int (-1)), xh2 b) := by cases b <;> rfl
set_option maxRecDepth 100000 in
set_option maxHeartbeats 4000000 in
theorem sy_code_x (b : Bool) (i : Int32) : xgn b 60 1000 254 (xh2 b) [.ref 0, .int i] = some (some (.int (-1)), xh2 b) := by cases b <;> rfl
set_option maxRecDepth 100000 in
set_option maxHeartbeats 4000000 in
theorem sy_code_m (b : Bool) (i : Int32) : xgn b 60 1000 443 (xh2 b) [.ref 49, .int i] = some (some (.int (-1)), xh2 b) := by cases b <;> rfl
set_option maxRecDepth 100000 in
set_option maxHeartbeats 4000000 in
theorem sy_label_x (b : Bool) (i : Int32) : xgn b 60 1000 256 (xh2 b) [.ref 0, .int i] = some (some (.int (-1)), xh2 b) := by cases b <;> rfl
set_option maxRecDepth 100000 in
set_option maxHeartbeats 4000000 in
theorem sy_label_m (b : Bool) (i : Int32) : xgn b 60 1000 444 (xh2 b) [.ref 49, .int i] = some (some (.int (-1)), xh2 b) := by cases b <;> rfl
set_option maxRecDepth 100000 in
set_option maxHeartbeats 4000000 in
theorem sy_register_x (b : Bool) (i : Int32) : xgn b 60 1000 312 (xh2 b) [.ref 0, .int i] = some (some (.int 0), xh2 b) := by cases b <;> rfl
set_option maxRecDepth 100000 in
set_option maxHeartbeats 4000000 in
theorem sy_register_m (b : Bool) (i : Int32) : xgn b 60 1000 463 (xh2 b) [.ref 49, .int i] = some (some (.int 0), xh2 b) := by cases b <;> rfl
set_option maxRecDepth 100000 in
set_option maxHeartbeats 4000000 in
theorem sy_heap_x (b : Bool) (i : Int32) : xgn b 60 1000 313 (xh2 b) [.ref 0, .int i] = some (some (.int 0), xh2 b) := by cases b <;> rfl
set_option maxRecDepth 100000 in
set_option maxHeartbeats 4000000 in
theorem sy_heap_m (b : Bool) (i : Int32) : xgn b 60 1000 464 (xh2 b) [.ref 49, .int i] = some (some (.int 0), xh2 b) := by cases b <;> rfl
