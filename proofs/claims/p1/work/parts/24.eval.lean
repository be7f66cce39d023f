theorem ev_m1 : sOk (xr2 true) xsM = true := by decide +kernel
