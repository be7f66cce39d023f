theorem ev_x0 : sOk (xr1 false) xsX = true := by decide +kernel
