def xdf (ci : Nat) : x_E := match xcl[ci]? with
  | some q => .inr (ci, (List.range q.2.2).map fun k => defaultValue (xty q k))
  | none => .inr (ci, [])
def xgo (fm : Value) (f d j : Nat) (hp : List x_E) (avs : List Value) : Option (Option Value × List x_E) := match xMf j with
  | none => none
  | some M => srun xZ (xY fm) f d M 0 (lv_args 0 avs) [] hp 0 0
