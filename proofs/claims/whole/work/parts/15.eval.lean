def xdf (ci : Nat) : x_E := match xcl[ci]? with
  | some q => .inr (ci, (List.range q.2.2).map fun k => defaultValue (xty q k))
  | none => .inr (ci, [])
def xgo (fm : Value) (f d j : Nat) (hp : List x_E) (avs : List Value) : Option (Option Value × List x_E) := match xMf j with
  | none => none
  | some M => srun xZ (xY fm) f d M 0 (lv_args 0 avs) [] hp 0 0
theorem ev_mem : (xgo .null 100 5 16 [xdf 3] [.ref 0]).isSome = true := by decide +kernel
theorem ev_text : (xgo .null 3000 9 1 [xdf 1] [.ref 0]).isSome = true := by decide +kernel
