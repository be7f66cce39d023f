/-- a call, one step of nrun -/
theorem n_call {Z : x_T} {Y : x_Y} {DT : Nat → Nat → Option (Instr × Nat)} {f d j pc : Nat} {lv : List (Nat × Value)} {st : List Value} {hp : List x_E} {k n : Nat} {i : Instr} {ki idx kd j' : Nat} {M M' : x_M} {avs r : List Value} {rv : Option Value} {hp1 : List x_E} (hd : DT j pc = some (i, 3)) (hj : zM Z j = some M) (hg : gH i = gIn ki idx) (ho : xObj Z M ki idx = false) (hm : xMth Z M ki idx st = none) (hl : zL Z (xo M) idx = some (kd, j')) (hr : xReq Z Y M ki idx st hp = some (M', avs, r)) (hc : xChk M M' lv r avs hp k n = true) (hrun : nrun Z Y DT f d j' 0 (lv_args 0 avs) [] hp 0 0 = some (rv, hp1)) (hle : hp.length ≤ hp1.length) : nrun Z Y DT (f + 1) (d + 1) j pc lv st hp k n = nrun Z Y DT f (d + 1) j (pc + 3) lv (rv.toList ++ r) hp1 (k + xmc M') (n + xms M') := by
  conv => lhs; unfold nrun
  rw [fN_eq, hd]
  dsimp only
  rw [hj]
  dsimp only
  rw [hg]
  unfold gIn
  rw [if_pos rfl, if_neg (by rw [ho]; decide), hm]
  dsimp only
  rw [hl]
  dsimp only
  rw [hr]
  dsimp only
  rw [if_pos hc, hrun]
  dsimp only
  rw [if_pos hle, fN_eq, fN_eq]
