theorem ep_count0 : (List.range 7).all (fun i => xbt false 302 462 [.ref 0, .int (Int32.ofNat i)] [.ref 49, .int (Int32.ofNat i)]) = true := by decide +kernel
theorem ep_prog0 : xbt false 27 317 [.ref 0, .int 0] [.ref 49, .int 0] = true := by decide +kernel
