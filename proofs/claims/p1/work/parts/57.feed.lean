/-- the shapes with so many bytes on the two tapes -/
def xfl (t : Nat) : x_S → x_S
  | .inr (c, fs) => .inr (c, fs.set 1 (.int (Int32.ofNat t)))
  | s => s
def xsF (t u : Nat) : List x_S := (xsM.modify 0 (xfl t)).modify 49 (xfl u)
set_option maxRecDepth 100000 in
set_option maxHeartbeats 4000000 in
theorem pw_0 (b : Bool) (f : Nat) (w : Int32) (cI : Nat → Nat → Int32) (cL : Nat → Nat → Int64) : sOk (xgn b (f + 120) 999 26 (xmks (xsF 0 0) cI cL 0) [.ref 0, .int w]) (xsF 4 0) = true := by cases b <;> rfl
set_option maxRecDepth 100000 in
set_option maxHeartbeats 4000000 in
theorem pw_4 (b : Bool) (f : Nat) (w : Int32) (cI : Nat → Nat → Int32) (cL : Nat → Nat → Int64) : sOk (xgn b (f + 120) 999 26 (xmks (xsF 4 0) cI cL 0) [.ref 0, .int w]) (xsF 8 0) = true := by cases b <;> rfl
set_option maxRecDepth 100000 in
set_option maxHeartbeats 4000000 in
theorem pw_8 (b : Bool) (f : Nat) (w : Int32) (cI : Nat → Nat → Int32) (cL : Nat → Nat → Int64) : sOk (xgn b (f + 120) 999 26 (xmks (xsF 8 0) cI cL 0) [.ref 0, .int w]) (xsF 12 0) = true := by cases b <;> rfl
set_option maxRecDepth 100000 in
set_option maxHeartbeats 4000000 in
theorem pw_12 (b : Bool) (f : Nat) (w : Int32) (cI : Nat → Nat → Int32) (cL : Nat → Nat → Int64) : sOk (xgn b (f + 120) 999 26 (xmks (xsF 12 0) cI cL 0) [.ref 0, .int w]) (xsF 16 0) = true := by cases b <;> rfl
set_option maxRecDepth 100000 in
set_option maxHeartbeats 4000000 in
theorem pw_16 (b : Bool) (f : Nat) (w : Int32) (cI : Nat → Nat → Int32) (cL : Nat → Nat → Int64) : sOk (xgn b (f + 120) 999 26 (xmks (xsF 16 0) cI cL 0) [.ref 0, .int w]) (xsF 20 0) = true := by cases b <;> rfl
