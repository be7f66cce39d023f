theorem ev_m0 : ((xgoL .null 5 314 iTs [xdf 12] [.ref 0]).map fun q => (q.1, q.2.length)) = some (none, 73) := by decide +kernel
