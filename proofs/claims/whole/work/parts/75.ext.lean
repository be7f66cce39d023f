section MX
variable {Z : x_T} {Y : x_Y} {len d d' : Nat} {M : x_M} {pc : Nat} {lv lv' : List (Nat × Value)} {st : List Value} {hp : List x_E} {k n m : Nat} {R : Option Value × List x_E} {i : Instr} {rc rc' : x_F}
theorem hPl_x (hm : ∀ pc lv lv' st (hp2 : List x_E) k n, hp.length ≤ hp2.length → lvR m lv lv' → rc d M pc lv st hp2 k n = some R → rc' d' M pc lv' st hp2 k n = some R) (hr : lvR m lv lv') (h : hPl i rc Z Y len d M pc lv st hp k n = some R) : hPl i rc' Z Y len d' M pc lv' st hp k n = some R := by
  unfold hPl at h ⊢
  split at h
  · cases h
  · rename_i pc1 lv1 st1 hp1 hs
    rw [xs1F_eq] at hs
    obtain ⟨lv2, h2, hr2⟩ := xs1_ext hr hs
    rw [xs1F_eq, h2]
    exact hm _ _ _ _ _ _ _ (Nat.le_of_eq (xs1_len hs)) hr2 h
theorem hWr_x (hm : ∀ pc lv lv' st (hp2 : List x_E) k n, hp.length ≤ hp2.length → lvR m lv lv' → rc d M pc lv st hp2 k n = some R → rc' d' M pc lv' st hp2 k n = some R) (hr : lvR m lv lv') (h : hWr i rc Z Y len d M pc lv st hp k n = some R) : hWr i rc' Z Y len d' M pc lv' st hp k n = some R := by
  unfold hWr at h ⊢
  split at h
  · cases h
  · rename_i pc1 lv1 st1 hp1 hs
    rw [xs1F_eq] at hs
    obtain ⟨lv2, h2, hr2⟩ := xs1_ext hr hs
    rw [xs1F_eq, h2]
    dsimp only
    rw [fH_eq] at h ⊢
    exact hm _ _ _ _ _ _ _ (Nat.le_of_eq (xs1_len hs)) hr2 h
theorem hWa_x (hm : ∀ pc lv lv' st (hp2 : List x_E) k n, hp.length ≤ hp2.length → lvR m lv lv' → rc d M pc lv st hp2 k n = some R → rc' d' M pc lv' st hp2 k n = some R) (hr : lvR m lv lv') (h : hWa i rc Z Y len d M pc lv st hp k n = some R) : hWa i rc' Z Y len d' M pc lv' st hp k n = some R := by
  unfold hWa at h ⊢
  split at h
  · cases h
  · rename_i pc1 lv1 st1 hp1 hs
    rw [xs1F_eq] at hs
    obtain ⟨lv2, h2, hr2⟩ := xs1_ext hr hs
    rw [xs1F_eq, h2]
    dsimp only
    rw [fP_eq] at h ⊢
    exact hm _ _ _ _ _ _ _ (Nat.le_of_eq (xs1_len hs)) hr2 h
theorem hTx_x (hm : ∀ pc lv lv' st (hp2 : List x_E) k n, hp.length ≤ hp2.length → lvR m lv lv' → rc d M pc lv st hp2 k n = some R → rc' d' M pc lv' st hp2 k n = some R) (hr : lvR m lv lv') (h : hTx i rc Z Y len d M pc lv st hp k n = some R) : hTx i rc' Z Y len d' M pc lv' st hp k n = some R := by
  unfold hTx at h ⊢
  split at h
  · rename_i e
    try rw [e]
    exact hm _ _ _ _ _ _ _ (Nat.le_refl _) hr h
  · rename_i e
    try rw [e]
    exact hPl_x hm hr h
theorem hAl_x (hml : m ≤ hp.length) (hm : ∀ pc lv lv' st (hp2 : List x_E) k n, hp.length ≤ hp2.length → lvR m lv lv' → rc d M pc lv st hp2 k n = some R → rc' d' M pc lv' st hp2 k n = some R) (hr : lvR m lv lv') (h : hAl i rc Z Y len d M pc lv st hp k n = some R) : hAl i rc' Z Y len d' M pc lv' st hp k n = some R := by
  unfold hAl at h ⊢
  split at h
  · rename_i x sl r w e
    try rw [e]
    try dsimp only
    split at h
    · rename_i hc
      have hc' := hc
      simp only [Bool.and_eq_true] at hc'
      have ha := lvR_all hml hr hc'.1.1.1.1.2
      rw [if_pos (by simp only [Bool.and_eq_true]; exact ⟨⟨⟨⟨⟨hc'.1.1.1.1.1, ha⟩, hc'.1.1.1.2⟩, hc'.1.1.2⟩, hc'.1.2⟩, hc'.2⟩)]
      rw [fN_eq, fN_eq, fP_eq] at h ⊢
      exact hm _ _ _ _ _ _ _ (by simp) hr h
    · cases h
  · cases h
theorem sH_x (hki : xKi i = none) (hml : m ≤ hp.length) (hm : ∀ pc lv lv' st (hp2 : List x_E) k n, hp.length ≤ hp2.length → lvR m lv lv' → rc d M pc lv st hp2 k n = some R → rc' d' M pc lv' st hp2 k n = some R) (hr : lvR m lv lv') (h : sH i rc Z Y len d M pc lv st hp k n = some R) : sH i rc' Z Y len d' M pc lv' st hp k n = some R := by
  cases i with
  | invokevirtual _ => cases hki
  | invokestatic _ => cases hki
  | invokespecial _ => cases hki
  | return_ => exact h
  | ireturn => exact h
  | lreturn => exact h
  | areturn => exact h
  | new idx => exact hAl_x (Y := Y) hml hm hr h
  | newarray t => exact hAl_x (Y := Y) hml hm hr h
  | ldc idx => exact hTx_x (Y := Y) hm hr h
  | getstatic idx => exact hTx_x (Y := Y) hm hr h
  | getfield idx => exact hTx_x (Y := Y) hm hr h
  | baload => exact hTx_x (Y := Y) hm hr h
  | arraylength => exact hTx_x (Y := Y) hm hr h
  | putfield idx => exact hWr_x (Y := Y) hm hr h
  | iastore => exact hWa_x (Y := Y) hm hr h
  | castore => exact hWa_x (Y := Y) hm hr h
  | bastore => exact hWa_x (Y := Y) hm hr h
  | lastore => exact hWa_x (Y := Y) hm hr h
  | _ => (simp only [sH] at h ⊢; exact hPl_x (Y := Y) hm hr h)
theorem xChk_x {M' : x_M} {r avs : List Value} (hml : m ≤ hp.length) (hr : lvR m lv lv') (h : xChk M M' lv r avs hp k n = true) : xChk M M' lv' r avs hp k n = true := by
  unfold xChk at h ⊢
  simp only [Bool.and_eq_true] at h ⊢
  exact ⟨⟨⟨⟨⟨lvR_all hml hr h.1.1.1.1.1, h.1.1.1.1.2⟩, h.1.1.1.2⟩, h.1.1.2⟩, h.1.2⟩, h.2⟩
end MX
theorem args_ge : ∀ (avs : List Value) (k : Nat), ∀ q ∈ lv_args k avs, k ≤ q.1 := by
  intro avs
  induction avs with
  | nil => intro k q h; cases h
  | cons v r ih =>
    intro k q h
    rcases List.mem_cons.mp h with h | h
    · rw [h]
      exact Nat.le_refl k
    · refine Nat.le_trans ?_ (ih _ q h)
      split <;> omega
theorem args_nd : ∀ (avs : List Value) (k : Nat), ((lv_args k avs).map Prod.fst).Nodup := by
  intro avs
  induction avs with
  | nil => intro k; exact List.nodup_nil
  | cons v r ih =>
    intro k
    show (((k, v) :: lv_args (if v.category = 2 then k + 2 else k + 1) r).map Prod.fst).Nodup
    rw [List.map_cons, List.nodup_cons]
    refine ⟨?_, ih _⟩
    intro h
    obtain ⟨q, hq, e⟩ := List.mem_map.mp h
    have h1 := args_ge r _ q hq
    dsimp only at e
    split at h1 <;> omega
theorem lvR_rfl {m : Nat} (avs : List Value) : lvR m (lv_args 0 avs) (lv_args 0 avs) := ⟨args_nd avs 0, fun _ _ h => h, fun _ h => Or.inl h⟩
/-- more fuel, more depth, more locals: the same end -/
theorem nrun_ext {Z : x_T} {Y : x_Y} {DT : Nat → Nat → Option (Instr × Nat)} : ∀ (f f' d d' : Nat) (R : Option Value × List x_E) (j pc : Nat) (lv lv' : List (Nat × Value)) (st : List Value) (hp : List x_E) (k n m : Nat), f ≤ f' → d ≤ d' → m ≤ hp.length → lvR m lv lv' → nrun Z Y DT f d j pc lv st hp k n = some R → nrun Z Y DT f' d' j pc lv' st hp k n = some R := by
  intro f
  induction f with
  | zero => intro f' d d' R j pc lv lv' st hp k n m _ _ _ _ h; cases h
  | succ f ih =>
    intro f' d d' R j pc lv lv' st hp k n m hf hd hml hr h
    obtain ⟨g, rfl⟩ : ∃ g, f' = g + 1 := ⟨f' - 1, by omega⟩
    have hg : f ≤ g := by omega
    unfold nrun at h ⊢
    rw [fN_eq] at h ⊢
    cases hdt : DT j pc with
    | none => rw [hdt] at h; cases h
    | some z =>
      obtain ⟨i, len⟩ := z
      rw [hdt] at h
      dsimp only at h ⊢
      cases hj : zM Z j with
      | none => rw [hj] at h; cases h
      | some M =>
        rw [hj] at h
        dsimp only at h ⊢
        cases hk : xKi i with
        | none =>
          have e : gH i = gPl i := by cases i <;> first | rfl | (cases hk; done)
          rw [e] at h ⊢
          exact sH_x hk hml (fun pc lv lv' st hp2 k n hl hr h => ih g d d' R j pc lv lv' st hp2 k n m hg hd (Nat.le_trans hml hl) hr h) hr h
        | some z =>
          obtain ⟨ki, idx⟩ := z
          have e : gH i = gIn ki idx := by
            rcases xKi_inv hk with ⟨rfl, rfl⟩ | ⟨rfl, rfl⟩ | ⟨rfl, rfl⟩ <;> rfl
          rw [e] at h ⊢
          unfold gIn at h ⊢
          split at h
          · rename_i h1
            rw [if_pos h1]
            split at h
            · rename_i h2
              rw [if_pos h2]
              split at h
              · split at h
                · rename_i h3
                  try dsimp only
                  rw [if_pos ⟨Nat.le_trans h3.1 hd, h3.2⟩]
                  exact ih g d d' R j _ lv lv' _ hp k n m hg hd hml hr h
                · cases h
              · cases h
            · rename_i h2
              rw [if_neg h2]
              cases hx : xMth Z M ki idx st with
              | some st' =>
                rw [hx] at h
                dsimp only at h ⊢
                split at h
                · rename_i h3
                  rw [if_pos ⟨Nat.le_trans h3.1 hd, h3.2⟩]
                  exact ih g d d' R j _ lv lv' _ hp k n m hg hd hml hr h
                · cases h
              | none =>
                rw [hx] at h
                dsimp only at h ⊢
                cases d with
                | zero => cases h
                | succ d1 =>
                  obtain ⟨d2, rfl⟩ : ∃ d2, d' = d2 + 1 := ⟨d' - 1, by omega⟩
                  dsimp only at h ⊢
                  cases hz : zL Z (xo M) idx with
                  | none => rw [hz] at h; cases h
                  | some z =>
                    obtain ⟨kd, j'⟩ := z
                    rw [hz] at h
                    dsimp only at h ⊢
                    cases hq : xReq Z Y M ki idx st hp with
                    | none => rw [hq] at h; cases h
                    | some z =>
                      obtain ⟨M', avs, r⟩ := z
                      rw [hq] at h
                      dsimp only at h ⊢
                      split at h
                      · rename_i h3
                        rw [if_pos (xChk_x hml hr h3)]
                        split at h
                        · cases h
                        · rename_i rv hp1 hrc
                          rw [ih g d1 d2 _ j' 0 (lv_args 0 avs) (lv_args 0 avs) [] hp 0 0 m hg (by omega) hml (lvR_rfl avs) hrc]
                          dsimp only
                          split at h
                          · rename_i h4
                            rw [if_pos h4]
                            rw [fN_eq, fN_eq] at h ⊢
                            exact ih g (d1 + 1) (d2 + 1) R j _ lv lv' _ hp1 _ _ m hg hd (Nat.le_trans hml h4) hr h
                          · cases h
                      · cases h
          · cases h
