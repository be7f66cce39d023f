theorem xr_eq {r : Option (Option Value × List x_E)} {l : List x_S} (h : sOk r l = true) {c : Nat → x_A} (hc : ∀ q, r = some q → ∀ i, c i = xcts q.2 i) : r = some (none, xmks l c 0) := by
  obtain ⟨hp, h1, h2⟩ := sOk_eq h
  have h3 := hc _ h1
  rw [h1, ← h2]
  rw [xmks_eq c hp 0 (fun j _ => by rw [h3, Nat.zero_add])]
theorem xc1_eq (b : Bool) : ∀ q, xr1 b = some q → ∀ i, xc1 b i = xcts q.2 i := by
  intro q hq i
  unfold xc1
  rw [hq]
theorem xc2_eq (b : Bool) : ∀ q, xr2 b = some q → ∀ i, xc2 b i = xcts q.2 i := by
  intro q hq i
  unfold xc2
  rw [hq]
theorem xr1_eq (b : Bool) : xr1 b = some (none, xh1 b) := xr_eq (by cases b with
  | false => exact ev_x0
  | true => exact ev_x1) (xc1_eq b)
theorem xr2_eq (b : Bool) : xr2 b = some (none, xh2 b) := xr_eq (by cases b with
  | false => exact ev_m0
  | true => exact ev_m1) (xc2_eq b)
/-- a call on each of the two: their answers are alike -/
def xbo (b : Bool) (jx jm : Nat) (ax am : List Value) : Bool := match xgo (xfm b) 3000 20 jx (xh2 b) ax with
  | some (some (.int r), hp) => (match xgo (xfm b) 3000 20 jm hp am with
    | some (some (.int q), _) => decide (r = q)
    | _ => false)
  | _ => false
