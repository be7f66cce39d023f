def iTs : List (Nat × Instr × Nat) := iT0 ++ (iT1 ++ (iT2 ++ (iT3 ++ (iT4 ++ (iT5 ++ (iT6 ++ (iT7 ++ (iT8 ++ (iT9 ++ (iT10 ++ (iT11 ++ iT12)))))))))))
theorem iTs_ok : ∀ q ∈ iTs, decode prog_14_method_1_code q.1 = .ok q.2 := by
  intro q hq
  have key : ∀ (l : List (Nat × Instr × Nat)), l.all (fun q => xdc q.1 q.2) = true → q ∈ l → decode prog_14_method_1_code q.1 = .ok q.2 := by
    intro l hl h
    have h1 := List.all_eq_true.mp hl q h
    unfold xdc at h1
    split at h1
    · rename_i w hw
      rw [hw, of_decide_eq_true h1]
    · cases h1
  simp only [iTs, List.mem_append] at hq
  rcases hq with h | h | h | h | h | h | h | h | h | h | h | h | h
  · exact key _ iT0_ok h
  · exact key _ iT1_ok h
  · exact key _ iT2_ok h
  · exact key _ iT3_ok h
  · exact key _ iT4_ok h
  · exact key _ iT5_ok h
  · exact key _ iT6_ok h
  · exact key _ iT7_ok h
  · exact key _ iT8_ok h
  · exact key _ iT9_ok h
  · exact key _ iT10_ok h
  · exact key _ iT11_ok h
  · exact key _ iT12_ok h
def xgoL (fm : Value) (d j : Nat) (l : List (Nat × Instr × Nat)) (hp : List x_E) (avs : List Value) : Option (Option Value × List x_E) := match xMf j with
  | none => none
  | some M => irun xZ (xY fm) l d M 0 (lv_args 0 avs) [] hp 0 0
