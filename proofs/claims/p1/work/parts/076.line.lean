/-! a method without branches and calls, run along the list of its instructions -/
def hOb (idx : Nat) : x_H := fun rc Z Y len d M pc lv st hp k n => if len = 3 then (if xObj Z M 2 idx = true then (match st with
          | .ref _ :: r => if 1 ≤ d ∧ (r.map fun v => v.category).sum ≤ 8 then rc d M (pc + 3) lv r hp k n else none
          | _ => none) else none) else none
def hNo : x_H := fun _ _ _ _ _ _ _ _ _ _ _ _ => none
def iH (i : Instr) : x_H := match i with
  | .invokevirtual _ => hNo
  | .invokestatic _ => hNo
  | .invokespecial idx => hOb idx
  | i => sH i
def irun (Z : x_T) (Y : x_Y) : List (Nat × Instr × Nat) → x_F
  | [] => fun _ _ _ _ _ _ _ _ => none
  | (p, i, len) :: r => fun d M pc lv st hp k n => cond (Nat.beq p pc) (fS st fun st => iH i (irun Z Y r) Z Y len d M p lv st hp k n) none
section MONO
variable {rc rc' : x_F} {Z : x_T} {Y : x_Y} {len d : Nat} {M : x_M} {pc : Nat} {lv : List (Nat × Value)} {st : List Value} {hp : List x_E} {k n : Nat} {R : Option Value × List x_E} {i : Instr}
theorem hPl_m (hm : ∀ pc lv st hp k n, rc d M pc lv st hp k n = some R → rc' d M pc lv st hp k n = some R) (h : hPl i rc Z Y len d M pc lv st hp k n = some R) : hPl i rc' Z Y len d M pc lv st hp k n = some R := by
  unfold hPl at h ⊢
  cases hx : xs1F i (zcl Z) ((xy M).name == "<init>") (xn M) (zF Z (xo M)) (zKc Z (xo M)) (zKl Z (xo M)) len pc lv st hp with
  | none => rw [hx] at h; cases h
  | some z => rw [hx] at h; exact hm _ _ _ _ _ _ h
theorem hWr_m (hm : ∀ pc lv st hp k n, rc d M pc lv st hp k n = some R → rc' d M pc lv st hp k n = some R) (h : hWr i rc Z Y len d M pc lv st hp k n = some R) : hWr i rc' Z Y len d M pc lv st hp k n = some R := by
  unfold hWr at h ⊢
  cases hx : xs1F i (zcl Z) ((xy M).name == "<init>") (xn M) (zF Z (xo M)) (zKc Z (xo M)) (zKl Z (xo M)) len pc lv st hp with
  | none => rw [hx] at h; cases h
  | some z =>
    rw [hx] at h
    dsimp only at h ⊢
    rw [fH_eq] at h ⊢
    exact hm _ _ _ _ _ _ h
theorem hWa_m (hm : ∀ pc lv st hp k n, rc d M pc lv st hp k n = some R → rc' d M pc lv st hp k n = some R) (h : hWa i rc Z Y len d M pc lv st hp k n = some R) : hWa i rc' Z Y len d M pc lv st hp k n = some R := by
  unfold hWa at h ⊢
  cases hx : xs1F i (zcl Z) ((xy M).name == "<init>") (xn M) (zF Z (xo M)) (zKc Z (xo M)) (zKl Z (xo M)) len pc lv st hp with
  | none => rw [hx] at h; cases h
  | some z =>
    rw [hx] at h
    dsimp only at h ⊢
    rw [fP_eq] at h ⊢
    exact hm _ _ _ _ _ _ h
theorem hTx_m (hm : ∀ pc lv st hp k n, rc d M pc lv st hp k n = some R → rc' d M pc lv st hp k n = some R) (h : hTx i rc Z Y len d M pc lv st hp k n = some R) : hTx i rc' Z Y len d M pc lv st hp k n = some R := by
  unfold hTx at h ⊢
  cases hx : xs2 Y (xo M) i len pc st with
  | none => rw [hx] at h; exact hPl_m hm h
  | some z => rw [hx] at h; exact hm _ _ _ _ _ _ h
theorem hRt_m (h : hRt i rc Z Y len d M pc lv st hp k n = some R) : hRt i rc' Z Y len d M pc lv st hp k n = some R := h
theorem hAl_m (hm : ∀ pc lv st hp k n, rc d M pc lv st hp k n = some R → rc' d M pc lv st hp k n = some R) (h : hAl i rc Z Y len d M pc lv st hp k n = some R) : hAl i rc' Z Y len d M pc lv st hp k n = some R := by
  unfold hAl at h ⊢
  cases hx : xAlo Z M i len st with
  | none => rw [hx] at h; cases h
  | some z =>
    rw [hx] at h
    dsimp only at h ⊢
    split at h
    · rename_i hc
      rw [if_pos hc]
      rw [fN_eq, fN_eq, fP_eq] at h ⊢
      exact hm _ _ _ _ _ _ h
    · cases h
theorem hOb_m {idx : Nat} (hm : ∀ pc lv st hp k n, rc d M pc lv st hp k n = some R → rc' d M pc lv st hp k n = some R) (h : hOb idx rc Z Y len d M pc lv st hp k n = some R) : hIn 2 idx rc' Z Y len d M pc lv st hp k n = some R := by
  unfold hOb at h
  unfold hIn
  split at h
  · rename_i h1
    rw [if_pos h1]
    split at h
    · rename_i h2
      rw [if_pos h2]
      split at h
      · split at h
        · rename_i h3
          dsimp only
          rw [if_pos h3]
          exact hm _ _ _ _ _ _ h
        · cases h
      · cases h
    · cases h
  · cases h
theorem iH_m (hm : ∀ pc lv st hp k n, rc d M pc lv st hp k n = some R → rc' d M pc lv st hp k n = some R) (h : iH i rc Z Y len d M pc lv st hp k n = some R) : sH i rc' Z Y len d M pc lv st hp k n = some R := by
  cases i with
  | invokevirtual _ => cases h
  | invokestatic _ => cases h
  | invokespecial idx => exact hOb_m (Y := Y) hm h
  | return_ => exact h
  | ireturn => exact h
  | lreturn => exact h
  | areturn => exact h
  | new idx => exact hAl_m (Y := Y) hm h
  | newarray t => exact hAl_m (Y := Y) hm h
  | ldc idx => exact hTx_m (Y := Y) hm h
  | getstatic idx => exact hTx_m (Y := Y) hm h
  | getfield idx => exact hTx_m (Y := Y) hm h
  | baload => exact hTx_m (Y := Y) hm h
  | arraylength => exact hTx_m (Y := Y) hm h
  | putfield idx => exact hWr_m (Y := Y) hm h
  | iastore => exact hWa_m (Y := Y) hm h
  | castore => exact hWa_m (Y := Y) hm h
  | bastore => exact hWa_m (Y := Y) hm h
  | lastore => exact hWa_m (Y := Y) hm h
  | _ => (simp only [iH, sH] at h ⊢; exact hPl_m (Y := Y) hm h)
end MONO
theorem irun_ok (Z : x_T) (Y : x_Y) (M : x_M) (R : Option Value × List x_E) (d : Nat) : ∀ (l : List (Nat × Instr × Nat)), (∀ q ∈ l, decode (xb M) q.1 = .ok q.2) → ∀ (pc : Nat) (lv : List (Nat × Value)) (st : List Value) (hp : List x_E) (k n : Nat), irun Z Y l d M pc lv st hp k n = some R → srun Z Y l.length d M pc lv st hp k n = some R := by
  intro l
  induction l with
  | nil => intro _ pc lv st hp k n h; cases h
  | cons q r ih =>
    obtain ⟨p, i, len⟩ := q
    intro hq pc lv st hp k n h
    unfold irun at h
    cases hb : Nat.beq p pc with
    | false => rw [hb] at h; cases h
    | true =>
      rw [hb] at h
      have e := Nat.eq_of_beq_eq_true hb
      subst e
      dsimp only [cond_true] at h
      rw [fS_eq] at h
      show sst (srun Z Y r.length) Z Y d M p lv st hp k n = some R
      unfold sst
      rw [fN_eq, fG_eq, fS_eq, hq _ List.mem_cons_self]
      exact iH_m (fun pc lv st hp k n h2 => ih (fun q hq2 => hq q (List.mem_cons_of_mem _ hq2)) pc lv st hp k n h2) h
