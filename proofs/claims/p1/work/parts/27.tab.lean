/-! the interpreter over tables of decoded instructions -/
abbrev x_G : Type := Nat → Nat → Nat → List (Nat × Value) → List Value → List x_E → Nat → Nat → Option (Option Value × List x_E)
abbrev x_J : Type := x_G → x_T → x_Y → Nat → Nat → Nat → x_M → Nat → List (Nat × Value) → List Value → List x_E → Nat → Nat → Option (Option Value × List x_E)
def gPl (i : Instr) : x_J := fun rc Z Y len d j M pc lv st hp k n => sH i (fun d _ pc lv st hp k n => rc d j pc lv st hp k n) Z Y len d M pc lv st hp k n
def gIn (ki idx : Nat) : x_J := fun rc Z Y len d j M pc lv st hp k n => if len = 3 then (if xObj Z M ki idx = true then (match st with
          | .ref _ :: r => if 1 ≤ d ∧ (r.map fun v => v.category).sum ≤ 8 then rc d j (pc + 3) lv r hp k n else none
          | _ => none)
        else match xMth Z M ki idx st with
        | some st' => if 1 ≤ d ∧ (st'.map fun v => v.category).sum ≤ 8 then rc d j (pc + 3) lv st' hp k n else none
        | none => match d with
          | 0 => none
          | d' + 1 => match zL Z (xo M) idx with
            | none => none
            | some (_, j') => match xReq Z Y M ki idx st hp with
              | none => none
              | some (M', avs, r) => if xChk M M' lv r avs hp k n = true then (match rc d' j' 0 (lv_args 0 avs) [] hp 0 0 with
                | none => none
                | some (rv, hp1) => if hp.length ≤ hp1.length then fN (k + xmc M') fun k => fN (n + xms M') fun n => rc (d' + 1) j (pc + 3) lv (rv.toList ++ r) hp1 k n else none) else none) else none
def gH (i : Instr) : x_J := match i with
  | .invokevirtual idx => gIn 0 idx
  | .invokestatic idx => gIn 1 idx
  | .invokespecial idx => gIn 2 idx
  | i => gPl i
def frun (Z : x_T) (Y : x_Y) (DT : Nat → Nat → Option (Instr × Nat)) : Nat → x_G
  | 0 => fun _ _ _ _ _ _ _ _ => none
  | f + 1 => fun d j pc lv st hp k n => fN pc fun pc => fG lv fun lv => fS st fun st => match DT j pc with
    | none => none
    | some (i, len) => match zM Z j with
      | none => none
      | some M => gH i (frun Z Y DT f) Z Y len d j M pc lv st hp k n
theorem gPl_m {Z : x_T} {Y : x_Y} {len d : Nat} {M : x_M} {j pc : Nat} {lv : List (Nat × Value)} {st : List Value} {hp : List x_E} {k n : Nat} {R : Option Value × List x_E} {i : Instr} {rc : x_G} {rc' : x_F} (hki : xKi i = none) (hm : ∀ d pc lv st hp k n, rc d j pc lv st hp k n = some R → rc' d M pc lv st hp k n = some R) (h : gPl i rc Z Y len d j M pc lv st hp k n = some R) : sH i rc' Z Y len d M pc lv st hp k n = some R := by
  refine iH_m (rc := fun d _ pc lv st hp k n => rc d j pc lv st hp k n) (fun pc lv st hp k n h => hm d pc lv st hp k n h) ?_
  have e : iH i = sH i := by cases i <;> first | rfl | (cases hki; done)
  rw [e]
  exact h
theorem gIn_m {Z : x_T} {Y : x_Y} {len d : Nat} {M : x_M} {j pc : Nat} {lv : List (Nat × Value)} {st : List Value} {hp : List x_E} {k n : Nat} {R : Option Value × List x_E} {ki idx : Nat} {rc : x_G} {rc' : x_F} (hj : zM Z j = some M) (hm : ∀ (R : Option Value × List x_E) (d j : Nat) (M : x_M) pc lv st hp k n, zM Z j = some M → rc d j pc lv st hp k n = some R → rc' d M pc lv st hp k n = some R) (h : gIn ki idx rc Z Y len d j M pc lv st hp k n = some R) : hIn ki idx rc' Z Y len d M pc lv st hp k n = some R := by
  unfold gIn at h
  unfold hIn
  split at h
  · rename_i h1
    rw [if_pos h1]
    split at h
    · rename_i h2
      rw [if_pos h2]
      split at h
      · split at h
        · rename_i h3
          dsimp only
          rw [if_pos h3]
          exact hm _ _ _ _ _ _ _ _ _ _ hj h
        · cases h
      · cases h
    · rename_i h2
      rw [if_neg h2]
      cases hx : xMth Z M ki idx st with
      | some st' =>
        rw [hx] at h
        dsimp only at h ⊢
        split at h
        · rename_i h3
          rw [if_pos h3]
          exact hm _ _ _ _ _ _ _ _ _ _ hj h
        · cases h
      | none =>
        rw [hx] at h
        dsimp only at h ⊢
        split at h
        · cases h
        · split at h
          · cases h
          · rename_i kd j' hz
            cases hr : xReq Z Y M ki idx st hp with
            | none => rw [hr] at h; cases h
            | some z =>
              obtain ⟨M', avs, r⟩ := z
              rw [hr] at h
              dsimp only at h ⊢
              split at h
              · rename_i h3
                rw [if_pos h3]
                split at h
                · cases h
                · rename_i rv hp1 hrc
                  have hj' : zM Z j' = some M' := by
                    obtain ⟨kd2, j2, As, e1, e2, -⟩ := xReq_inv hr
                    rw [hz] at e1
                    cases e1
                    exact e2
                  rw [hm _ _ _ _ _ _ _ _ _ _ hj' hrc]
                  dsimp only
                  split at h
                  · rename_i h4
                    rw [if_pos h4]
                    rw [fN_eq, fN_eq] at h ⊢
                    exact hm _ _ _ _ _ _ _ _ _ _ hj h
                  · cases h
              · cases h
  · cases h
theorem frun_ok (Z : x_T) (Y : x_Y) (DT : Nat → Nat → Option (Instr × Nat)) (hDT : ∀ j M pc v, zM Z j = some M → DT j pc = some v → decode (xb M) pc = .ok v) : ∀ (f : Nat) (R : Option Value × List x_E) (d j : Nat) (M : x_M) (pc : Nat) (lv : List (Nat × Value)) (st : List Value) (hp : List x_E) (k n : Nat), zM Z j = some M → frun Z Y DT f d j pc lv st hp k n = some R → srun Z Y f d M pc lv st hp k n = some R := by
  intro f
  induction f with
  | zero => intro R d j M pc lv st hp k n _ h; cases h
  | succ f ih =>
    intro R d j M pc lv st hp k n hj h
    unfold frun at h
    rw [fN_eq, fG_eq, fS_eq] at h
    show sst (srun Z Y f) Z Y d M pc lv st hp k n = some R
    unfold sst
    rw [fN_eq, fG_eq, fS_eq]
    split at h
    · cases h
    · rename_i i len hd
      rw [hDT j M pc _ hj hd]
      rw [hj] at h
      dsimp only at h ⊢
      cases hk : xKi i with
      | none =>
        have e : gH i = gPl i := by cases i <;> first | rfl | (cases hk; done)
        rw [e] at h
        exact gPl_m hk (fun d pc lv st hp k n h2 => ih R d j M pc lv st hp k n hj h2) h
      | some z =>
        obtain ⟨ki, idx⟩ := z
        rcases xKi_inv hk with ⟨rfl, rfl⟩ | ⟨rfl, rfl⟩ | ⟨rfl, rfl⟩
        · exact gIn_m hj ih h
        · exact gIn_m hj ih h
        · exact gIn_m hj ih h
