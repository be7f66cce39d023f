set_option maxRecDepth 100000 in
set_option maxHeartbeats 4000000 in
theorem ly_0 (b : Bool) (f : Nat) (w : Int32) (cI : Nat → Nat → Int32) (cL : Nat → Nat → Int64) : sOk (xgn b (f + 120) 999 316 (xmks (xsF 20 0) cI cL 0) [.ref 49, .int w]) (xsF 20 4) = true := by cases b <;> rfl
set_option maxRecDepth 100000 in
set_option maxHeartbeats 4000000 in
theorem ly_4 (b : Bool) (f : Nat) (w : Int32) (cI : Nat → Nat → Int32) (cL : Nat → Nat → Int64) : sOk (xgn b (f + 120) 999 316 (xmks (xsF 20 4) cI cL 0) [.ref 49, .int w]) (xsF 20 8) = true := by cases b <;> rfl
set_option maxRecDepth 100000 in
set_option maxHeartbeats 4000000 in
theorem ly_8 (b : Bool) (f : Nat) (w : Int32) (cI : Nat → Nat → Int32) (cL : Nat → Nat → Int64) : sOk (xgn b (f + 120) 999 316 (xmks (xsF 20 8) cI cL 0) [.ref 49, .int w]) (xsF 20 12) = true := by cases b <;> rfl
set_option maxRecDepth 100000 in
set_option maxHeartbeats 4000000 in
theorem ly_12 (b : Bool) (f : Nat) (w : Int32) (cI : Nat → Nat → Int32) (cL : Nat → Nat → Int64) : sOk (xgn b (f + 120) 999 316 (xmks (xsF 20 12) cI cL 0) [.ref 49, .int w]) (xsF 20 16) = true := by cases b <;> rfl
set_option maxRecDepth 100000 in
set_option maxHeartbeats 4000000 in
theorem ly_16 (b : Bool) (f : Nat) (w : Int32) (cI : Nat → Nat → Int32) (cL : Nat → Nat → Int64) : sOk (xgn b (f + 120) 999 316 (xmks (xsF 20 16) cI cL 0) [.ref 49, .int w]) (xsF 20 20) = true := by cases b <;> rfl
