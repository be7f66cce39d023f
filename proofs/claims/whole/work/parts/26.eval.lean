theorem ev_place0 : xbo false 250 460 [.ref 0] [.ref 49] = true := by decide +kernel
theorem ev_place1 : xbo true 250 460 [.ref 0] [.ref 49] = true := by decide +kernel
theorem ev_value0 : xbo false 300 461 [.ref 0] [.ref 49] = true := by decide +kernel
theorem ev_value1 : xbo true 300 461 [.ref 0] [.ref 49] = true := by decide +kernel
