/-! the reference's small methods -/
def bI (p : Prop) [Decidable p] : Int32 := if p then 1 else 0
theorem bI_01 (p : Prop) [Decidable p] : bI p = 0 ∨ bI p = 1 := by
  unfold bI
  split
  · exact Or.inr rfl
  · exact Or.inl rfl
theorem xlt_e {a b : Int32} (h : xCn .lt a b = true) : a < b := of_decide_eq_true h
theorem xle_e {a b : Int32} (h : xCn .le a b = true) : a ≤ b := of_decide_eq_true h
section SM
variable {b : Bool} {d : Nat} {e : Nat → x_E} {g : Nat → Int32} {q : Nat → Int64} {c : Nat → Nat → Int32} {l : Nat → Nat → Int64} {x1 x2 : Int32}
theorem stopped_ok : rr b e d 337 0 [(0, .ref 49)] [] g q c l (some (.int (bI (¬ g 19 = 0))), rH e g q c l) := by
  refine bk_337_0 (fun hc => bk_337_11 ?_) (fun hc => bk_337_7 ?_)
  · rw [show bI (¬ g 19 = 0) = Int32.ofInt 0 from if_neg (fun h => h (of_decide_eq_true hc))]
    exact bk_337_12 (Or.inl rfl)
  · rw [show bI (¬ g 19 = 0) = Int32.ofInt 1 from if_pos (fun h => hc (xeq_p h))]
    exact bk_337_12 (Or.inr rfl)
theorem wrong_ok : rr b e d 323 0 [(0, .ref 49), (1, .int x1), (2, .int x2)] [] g q c l (none, rH e (if g 19 = 0 then upd (upd g 19 x1) 20 x2 else g) q c l) := by
  refine bk_323_0 (fun hc => ?_) (fun hc => ?_)
  · rw [if_pos (of_decide_eq_true hc)]
    exact bk_323_8
  · rw [if_neg (fun h => hc (xeq_p h))]
    exact bk_323_7
theorem sign_ok : rr b e d 344 0 [(0, .ref 49), (1, .int x1)] [] g q c l (some (.int (bI (g 10 = 3 ∧ g 13 = x1))), rH e g q c l) := by
  refine bk_344_0 (fun hc => bk_344_20 ?_) (fun hc => bk_344_8 (fun hd => bk_344_20 ?_) (fun hd => bk_344_16 ?_))
  · rw [show bI (g 10 = 3 ∧ g 13 = x1) = Int32.ofInt 0 from if_neg (fun h => xne_e hc h.1)]
    exact bk_344_21 (Or.inl rfl)
  · rw [show bI (g 10 = 3 ∧ g 13 = x1) = Int32.ofInt 0 from if_neg (fun h => xne_e hd h.2)]
    exact bk_344_21 (Or.inl rfl)
  · rw [show bI (g 10 = 3 ∧ g 13 = x1) = Int32.ofInt 1 from if_pos ⟨xne_q hc, xne_q hd⟩]
    exact bk_344_21 (Or.inr rfl)
theorem word_ok : rr b e d 338 0 [(0, .ref 49), (1, .int x1)] [] g q c l (some (.int (bI (g 10 = 4 ∧ g 13 = x1))), rH e g q c l) := by
  refine bk_338_0 (fun hc => bk_338_20 ?_) (fun hc => bk_338_8 (fun hd => bk_338_20 ?_) (fun hd => bk_338_16 ?_))
  · rw [show bI (g 10 = 4 ∧ g 13 = x1) = Int32.ofInt 0 from if_neg (fun h => xne_e hc h.1)]
    exact bk_338_21 (Or.inl rfl)
  · rw [show bI (g 10 = 4 ∧ g 13 = x1) = Int32.ofInt 0 from if_neg (fun h => xne_e hd h.2)]
    exact bk_338_21 (Or.inl rfl)
  · rw [show bI (g 10 = 4 ∧ g 13 = x1) = Int32.ofInt 1 from if_pos ⟨xne_q hc, xne_q hd⟩]
    exact bk_338_21 (Or.inr rfl)
theorem syn_ok : rr b e (d + 1) 342 0 [(0, .ref 49)] [] g q c l (none, rH e (if g 19 = 0 then upd (upd g 19 1) 20 (g 11) else g) q c l) := bk_342_0 wrong_ok bk_342_9
end SM
