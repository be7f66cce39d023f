theorem ev_m0 : sOk (xr2 false) xsM = true := by decide +kernel
