theorem eg_bf : xbg false 176 398 [.ref 0, .int 0] [.ref 49, .int 0] = true := by decide +kernel
