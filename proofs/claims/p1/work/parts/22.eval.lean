theorem ev_x1 : sOk (xr1 true) xsX = true := by decide +kernel
