theorem ev_m0 : ((xgo .null 3000 12 314 [xdf 12] [.ref 0]).map fun q => (q.1, q.2.length)) = some (none, 73) := by decide +kernel
