theorem xgn_xbr {b : Bool} {f d j : Nat} {hp : List x_E} {avs : List Value} {R : Option Value × List x_E} (h : xgn b f d j hp avs = some R) : xbr b f d j hp avs = some R := by
  unfold xgn at h
  rw [nrun_eq] at h
  unfold xbr
  cases hj : xMf j with
  | none =>
    cases f with
    | zero => cases h
    | succ f =>
      unfold frun at h
      rw [fN_eq, fG_eq, fS_eq] at h
      split at h
      · cases h
      · have hz : zM xZ j = none := hj
        rw [hz] at h
        cases h
  | some M =>
    dsimp only
    rw [← srun_eq]
    exact frun_ok xZ (xY (xfm b)) xDT xDT_ok f R d j M _ _ _ _ _ _ hj h
