/-- as frun, but values aren't touched -/
def nrun (Z : x_T) (Y : x_Y) (DT : Nat → Nat → Option (Instr × Nat)) : Nat → x_G
  | 0 => fun _ _ _ _ _ _ _ _ => none
  | f + 1 => fun d j pc lv st hp k n => fN pc fun pc => match DT j pc with
    | none => none
    | some (i, len) => match zM Z j with
      | none => none
      | some M => gH i (nrun Z Y DT f) Z Y len d j M pc lv st hp k n
theorem nrun_eq (Z : x_T) (Y : x_Y) (DT : Nat → Nat → Option (Instr × Nat)) : ∀ f, nrun Z Y DT f = frun Z Y DT f := by
  intro f
  induction f with
  | zero => rfl
  | succ f ih =>
    funext d j pc lv st hp k n
    unfold nrun frun
    rw [fN_eq, fN_eq, fG_eq, fS_eq, ih]
    rfl
def xok1 (r : Option (Option Value × List x_E)) (v : Int32) : Bool := match r with
  | some (some (.int q), _) => decide (q = v)
  | _ => false
def xgn (b : Bool) (f d j : Nat) (hp : List x_E) (avs : List Value) : Option (Option Value × List x_E) := nrun xZ (xY (xfm b)) xDT f d j 0 (lv_args 0 avs) [] hp 0 0
