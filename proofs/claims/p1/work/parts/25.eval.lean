theorem xr1_eq (b : Bool) : xr1 b = some (none, xh1 b) := xr_eq (by cases b with
  | false => exact ev_x0
  | true => exact ev_x1) (xr_c (xr1 b))
theorem xr2_eq (b : Bool) : xr2 b = some (none, xh2 b) := xr_eq (by cases b with
  | false => exact ev_m0
  | true => exact ev_m1) (xr_c (xr2 b))
