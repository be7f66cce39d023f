theorem eg_pf : xbg false 27 317 [.ref 0, .int 0] [.ref 49, .int 0] = true := by decide +kernel
