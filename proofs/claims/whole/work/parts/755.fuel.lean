theorem nrun_fuel {Z : x_T} {Y : x_Y} {DT : Nat → Nat → Option (Instr × Nat)} : ∀ (f f' d : Nat) (R : Option Value × List x_E) (j pc : Nat) (lv : List (Nat × Value)) (st : List Value) (hp : List x_E) (k n : Nat), f ≤ f' → nrun Z Y DT f d j pc lv st hp k n = some R → nrun Z Y DT f' d j pc lv st hp k n = some R := by
  intro f
  induction f with
  | zero => intro f' d R j pc lv st hp k n _ h; cases h
  | succ f ih =>
    intro f' d R j pc lv st hp k n hf h
    obtain ⟨g, rfl⟩ : ∃ g, f' = g + 1 := ⟨f' - 1, by omega⟩
    have hg : f ≤ g := by omega
    unfold nrun at h ⊢
    rw [fN_eq] at h ⊢
    cases hdt : DT j pc with
    | none => rw [hdt] at h; cases h
    | some z =>
      obtain ⟨i, len⟩ := z
      rw [hdt] at h
      dsimp only at h ⊢
      cases hj : zM Z j with
      | none => rw [hj] at h; cases h
      | some M =>
        rw [hj] at h
        dsimp only at h ⊢
        cases hk : xKi i with
        | none =>
          have e : gH i = gPl i := by cases i <;> first | rfl | (cases hk; done)
          rw [e] at h ⊢
          unfold gPl at h ⊢
          have e2 : iH i = sH i := by cases i <;> first | rfl | (cases hk; done)
          refine iH_m (rc := fun d _ pc lv st hp k n => nrun Z Y DT f d j pc lv st hp k n) (fun pc lv st hp k n h => ih g d R j pc lv st hp k n hg h) ?_
          rw [e2]
          exact h
        | some z =>
          obtain ⟨ki, idx⟩ := z
          have e : gH i = gIn ki idx := by
            rcases xKi_inv hk with ⟨rfl, rfl⟩ | ⟨rfl, rfl⟩ | ⟨rfl, rfl⟩ <;> rfl
          rw [e] at h ⊢
          unfold gIn at h ⊢
          split at h
          · rename_i h1
            rw [if_pos h1]
            split at h
            · rename_i h2
              rw [if_pos h2]
              split at h
              · split at h
                · rename_i h3
                  try dsimp only
                  rw [if_pos h3]
                  exact ih g d R j _ lv _ hp k n hg h
                · cases h
              · cases h
            · rename_i h2
              rw [if_neg h2]
              cases hx : xMth Z M ki idx st with
              | some st' =>
                rw [hx] at h
                dsimp only at h ⊢
                split at h
                · rename_i h3
                  rw [if_pos h3]
                  exact ih g d R j _ lv _ hp k n hg h
                · cases h
              | none =>
                rw [hx] at h
                dsimp only at h ⊢
                cases d with
                | zero => cases h
                | succ d1 =>
                  dsimp only at h ⊢
                  cases hz : zL Z (xo M) idx with
                  | none => rw [hz] at h; cases h
                  | some z =>
                    obtain ⟨kd, j'⟩ := z
                    rw [hz] at h
                    dsimp only at h ⊢
                    cases hq : xReq Z Y M ki idx st hp with
                    | none => rw [hq] at h; cases h
                    | some z =>
                      obtain ⟨M', avs, r⟩ := z
                      rw [hq] at h
                      dsimp only at h ⊢
                      split at h
                      · rename_i h3
                        rw [if_pos h3]
                        split at h
                        · cases h
                        · rename_i rv hp1 hrc
                          rw [ih g d1 _ j' 0 _ [] hp 0 0 hg hrc]
                          dsimp only
                          split at h
                          · rename_i h4
                            rw [if_pos h4]
                            rw [fN_eq, fN_eq] at h ⊢
                            exact ih g (d1 + 1) R j _ lv _ hp1 _ _ hg h
                          · cases h
                      · cases h
          · cases h
/-- a run of the reference, whatever fuel it wants -/
def rr (b : Bool) (e : Nat → x_E) (d j p : Nat) (lv : List (Nat × Value)) (st : List Value) (g : Nat → Int32) (q : Nat → Int64) (c : Nat → Nat → Int32) (l : Nat → Nat → Int64) (R : Option Value × List x_E) : Prop := ∃ f, nrun xZ (xY (xfm b)) xDT f d j p lv st (rH e g q c l) 0 0 = some R
