/-! The reference's endOf and copyParts where all parts are 18 (a < > of eight), and 0 behind them; the end of its method of #. -/
theorem ua_ua (g : Nat → Int32) (i : Nat) (x y : Int32) : upd (upd g i x) i y = upd g i y := by
  funext j
  unfold upd
  split <;> rfl
theorem uA_uA (c : Nat → Nat → Int32) (i : Nat) (x y : Nat → Int32) : updA (updA c i x) i y = updA c i y := by
  funext j
  unfold updA
  split <;> rfl
section TL
variable {b : Bool} {d : Nat} {e : Nat → x_E} {g : Nat → Int32} {q : Nat → Int64} {c : Nat → Nat → Int32} {l : Nat → Nat → Int64} {R : Option Value × List x_E}
theorem n7_eq (t : Nat) : nI (7 * t + 1) - Int32.ofInt (1) + 18 - (Int8.ofInt (10)).toInt32 = nI (7 * (t + 1) + 1) := by
  have e1 : nI (7 * t + 1) - Int32.ofInt (1) = nI (7 * t) := nI_pred _
  have e2 : (18 : Int32) = nI 8 + (Int8.ofInt (10)).toInt32 := by decide +kernel
  rw [e1, e2, ← Int32.add_assoc, Int32.add_sub_cancel, nI_add]
  exact congrArg nI (by omega)
theorem eo_18 {t k : Nat} (hk : k < 66000) (hc : c 55 k = 18) (ht : 7 * t + 8 < 2 ^ 31) (h : rr b e d 370 4 [(0, .ref 49), (2, .int (nI (7 * (t + 1) + 1))), (3, .int (nI (k + 1)))] [] g q c l R) : rr b e d 370 4 [(0, .ref 49), (2, .int (nI (7 * t + 1))), (3, .int (nI k))] [] g q c l R := by
  have hcl : (nI k).toNatClampNeg = k := nI_clamp (by omega)
  refine bk_370_4 (fun h => absurd (of_decide_eq_true h) (nI_nle (by omega) (by omega))) (fun _ => bk_370_8 (nI_in hk (by decide)) (fun _ => ?_) (fun h => absurd (by rw [hcl, hc]; decide +kernel) h))
  rw [hcl, hc]
  refine bk_370_33 (fun _ => ?_) (fun h => absurd (by decide +kernel) h)
  refine bk_370_46 (fun h => absurd h (by decide +kernel)) (fun _ => ?_)
  refine bk_370_53 (fun h => absurd h (by decide +kernel)) (fun _ => ?_)
  refine bk_370_60 (bk_370_68 ?_)
  rw [n7_eq, show nI k + Int32.ofInt (1) = nI (k + 1) from (nI_succ k).symm]
  exact h
theorem eo_0 {L k : Nat} (hk : k < 66000) (hc : c 55 k = 0) (hL : L + 1 < 2 ^ 31) (h : rr b e d 370 4 [(0, .ref 49), (2, .int (nI L)), (3, .int (nI (k + 1)))] [] g q c l R) : rr b e d 370 4 [(0, .ref 49), (2, .int (nI (L + 1))), (3, .int (nI k))] [] g q c l R := by
  have hcl : (nI k).toNatClampNeg = k := nI_clamp (by omega)
  refine bk_370_4 (fun h => absurd (of_decide_eq_true h) (nI_nle (by omega) (by omega))) (fun _ => bk_370_8 (nI_in hk (by decide)) (fun _ => ?_) (fun h => absurd (by rw [hcl, hc]; decide +kernel) h))
  rw [hcl, hc]
  refine bk_370_33 (fun _ => ?_) (fun h => absurd (by decide +kernel) h)
  refine bk_370_46 (fun _ => ?_) (fun h => absurd (by decide +kernel) h)
  refine bk_370_68 ?_
  rw [show nI (L + 1) - Int32.ofInt (1) = nI L from nI_pred _, show nI k + Int32.ofInt (1) = nI (k + 1) from (nI_succ k).symm]
  exact h
theorem eo_18s (s : Nat) : ∀ (r t : Nat), (∀ i, s < i → i ≤ s + (t + r) → c 55 i = 18) → s + (t + r) + 1 ≤ 66000 → rr b e d 370 4 [(0, .ref 49), (2, .int (nI (7 * (t + r) + 1))), (3, .int (nI (s + 1 + (t + r))))] [] g q c l R → rr b e d 370 4 [(0, .ref 49), (2, .int (nI (7 * t + 1))), (3, .int (nI (s + 1 + t)))] [] g q c l R := by
  intro r
  induction r with
  | zero => intro t _ _ h; exact h
  | succ r ih =>
    intro t h18 hb h
    refine eo_18 (by omega) (h18 _ (by omega) (by omega)) (by omega) ?_
    refine ih (t + 1) (fun i h1 h2 => h18 i h1 (by omega)) (by omega) ?_
    rw [show t + 1 + r = t + (r + 1) from by omega]
    exact h
theorem eo_0s : ∀ (L k : Nat), (∀ i, k ≤ i → i < k + L → c 55 i = 0) → k + L ≤ 66000 → rr b e d 370 4 [(0, .ref 49), (2, .int (nI L)), (3, .int (nI k))] [] g q c l (some (.int (nI (k + L))), rH e g q c l) := by
  intro L
  induction L with
  | zero => intro k _ _; exact bk_370_4 (fun _ => bk_370_75) (fun h => absurd (by decide +kernel) h)
  | succ L ih =>
    intro k h0 hb
    refine eo_0 (by omega) (h0 k (Nat.le_refl _) (by omega)) (by omega) ?_
    rw [show k + (L + 1) = k + 1 + L from by omega]
    exact ih (k + 1) (fun i h1 h2 => h0 i (by omega) (by omega)) (by omega)
theorem eo_all {s m : Nat} (h18 : ∀ i, s < i → i ≤ s + m → c 55 i = 18) (h0 : ∀ i, s + m < i → i < 66000 → c 55 i = 0) (hb : s + 9 * m + 2 ≤ 66000) : rr b e d 370 0 [(0, .ref 49), (1, .int (nI (s + 1)))] [] g q c l (some (.int (nI (s + 8 * m + 2))), rH e g q c l) := by
  refine bk_370_0 ?_
  refine eo_18s s m 0 (fun i h1 h2 => h18 i h1 (by omega)) (by omega) ?_
  have h := eo_0s (b := b) (d := d) (e := e) (g := g) (q := q) (c := c) (l := l) (7 * (0 + m) + 1) (s + 1 + (0 + m)) (fun i h1 h2 => h0 i (by omega) (by omega)) (by omega)
  rw [show s + 1 + (0 + m) + (7 * (0 + m) + 1) = s + 8 * m + 2 from by omega] at h
  exact h
def fil (f : Nat → Int32) (P t : Nat) : Nat → Int32 := fun j => if P ≤ j ∧ j < P + t then 18 else f j
theorem fil_0 (f : Nat → Int32) (P : Nat) : fil f P 0 = f := by
  funext j
  unfold fil
  rw [if_neg (by omega)]
theorem fil_s (f : Nat → Int32) (P t : Nat) : upd (fil f P t) (P + t) 18 = fil f P (t + 1) := by
  funext j
  unfold fil upd
  by_cases h : j = P + t
  · rw [if_pos h, if_pos (by omega)]
  · rw [if_neg h]
    dsimp only
    by_cases h2 : P ≤ j ∧ j < P + t
    · rw [if_pos h2, if_pos (by omega)]
    · rw [if_neg h2, if_neg (by omega)]
theorem cp_loop {a P N : Nat} {x3 : Int32} {f0 : Nat → Int32} (h18 : ∀ j, a ≤ j → j < P → f0 j = 18) (hlt : a < P) (hP : P + N ≤ 66000) (h : rr b e (d + 1) 383 31 [(0, .ref 49), (3, .int x3)] [] (upd g 30 (nI (P + N))) q (updA c 55 (fil f0 P N)) l R) : ∀ (r t : Nat), t + r = N → rr b e (d + 1) 383 8 [(0, .ref 49), (2, .int (nI (a + N))), (3, .int x3), (4, .int (nI (a + t)))] [] (upd g 30 (nI (P + t))) q (updA c 55 (fil f0 P t)) l R := by
  intro r
  induction r with
  | zero =>
    intro t ht
    have e0 : t = N := by omega
    subst e0
    exact bk_383_8 (fun _ => h) (fun hc => absurd (decide_eq_true (nI_le (Nat.le_refl _) (by omega))) hc)
  | succ r ih =>
    intro t ht
    have hcl : (nI (a + t)).toNatClampNeg = a + t := nI_clamp (by omega)
    have hv : (updA c 55 (fil f0 P t)) 55 (nI (a + t)).toNatClampNeg = 18 := by
      rw [hcl]
      show fil f0 P t (a + t) = 18
      unfold fil
      by_cases hq : P ≤ a + t ∧ a + t < P + t
      · rw [if_pos hq]
      · rw [if_neg hq]
        exact h18 _ (by omega) (by omega)
    refine bk_383_8 (fun hc => absurd (of_decide_eq_true hc) (nI_ge (by omega) (by omega))) (fun _ => ?_)
    refine bk_383_14 (nI_in (by omega) (by decide)) (bk_334_0 (nI_in (by omega) (by decide))) (bk_383_25 ?_)
    rw [hv]
    have e1 : (upd g 30 (nI (P + t))) 30 = nI (P + t) := if_pos rfl
    rw [e1, nI_clamp (by omega), ua_ua, uA_uA, show nI (P + t) + Int32.ofInt (1) = nI (P + (t + 1)) from (nI_succ (P + t)).symm, show nI (a + t) + Int32.ofInt (1) = nI (a + (t + 1)) from (nI_succ (a + t)).symm]
    have e2 : upd ((updA c 55 (fil f0 P t)) 55) (P + t) 18 = fil f0 P (t + 1) := fil_s f0 P t
    rw [e2]
    exact ih (t + 1) (by omega)
def tI (K s m w : Nat) (g : Nat → Int32) (c : Nat → Nat → Int32) : Prop := g 31 = nI (K + 1) ∧ g 30 = nI (s + 1 + m) ∧ g 43 = nI w ∧ c 56 K = nI s ∧ (c 55 s = 11 ∨ c 55 s = 18) ∧ (∀ i, s < i → i ≤ s + m → c 55 i = 18) ∧ ∀ i, s + m < i → i < 66000 → c 55 i = 0
theorem cp_all {K s m : Nat} (h31 : g 31 = nI (K + 1)) (h30 : g 30 = nI (s + 1 + m)) (h18 : ∀ i, s < i → i ≤ s + m → c 55 i = 18) (hm : 1 ≤ m) (hb : s + 9 * m + 2 ≤ 66000) (hK : K + 2 < 1300) : ∃ (g' : Nat → Int32) (c' : Nat → Nat → Int32), rr b e (d + 1) 383 0 [(0, .ref 49), (1, .int (nI (s + 1))), (2, .int (nI (s + 8 * m + 2)))] [] g q c l (some (.int (nI (K + 1))), rH e g' q c' l) ∧ g' 31 = nI (K + 2) ∧ g' 30 = nI (s + 9 * m + 2) ∧ g' 43 = g 43 ∧ c' 56 (K + 1) = nI (s + 1 + m) ∧ c' 55 = fil (c 55) (s + 1 + m) (8 * m + 1) := by
  have e31 : (upd g 31 (g 31 + Int32.ofInt (1))) 31 - Int32.ofInt (1) = nI (K + 1) := by
    rw [show (upd g 31 (g 31 + Int32.ofInt (1))) 31 = g 31 + Int32.ofInt (1) from if_pos rfl, h31]
    exact Int32.add_sub_cancel _ _
  have ePQ : s + 1 + m + (8 * m + 1) = s + 9 * m + 2 := by omega
  refine ⟨(upd (upd g 31 (g 31 + Int32.ofInt (1))) 30 (nI (s + 9 * m + 2))), (updA (updA (updA c 56 (upd (c 56) (g 31).toNatClampNeg (g 30))) 55 (fil (c 55) (s + 1 + m) (8 * m + 1))) 57 (upd ((updA (updA c 56 (upd (c 56) (g 31).toNatClampNeg (g 30))) 55 (fil (c 55) (s + 1 + m) (8 * m + 1))) 57) (nI (K + 1)).toNatClampNeg ((upd (upd g 31 (g 31 + Int32.ofInt (1))) 30 (nI (s + 9 * m + 2))) 30 - (updA (updA c 56 (upd (c 56) (g 31).toNatClampNeg (g 30))) 55 (fil (c 55) (s + 1 + m) (8 * m + 1))) 56 (nI (K + 1)).toNatClampNeg))), ?_, ?_⟩
  · refine bk_383_0 (bk_333_0 (by rw [h31]; exact nI_in (by omega) (by decide))) (bk_383_4 ?_)
    rw [e31]
    have hl := cp_loop (b := b) (d := d) (e := e) (g := upd g 31 (g 31 + Int32.ofInt (1))) (q := q) (c := updA c 56 (upd (c 56) (g 31).toNatClampNeg (g 30))) (l := l) (R := (some (.int (nI (K + 1))), rH e (upd (upd g 31 (g 31 + Int32.ofInt (1))) 30 (nI (s + 9 * m + 2))) q (updA (updA (updA c 56 (upd (c 56) (g 31).toNatClampNeg (g 30))) 55 (fil (c 55) (s + 1 + m) (8 * m + 1))) 57 (upd ((updA (updA c 56 (upd (c 56) (g 31).toNatClampNeg (g 30))) 55 (fil (c 55) (s + 1 + m) (8 * m + 1))) 57) (nI (K + 1)).toNatClampNeg ((upd (upd g 31 (g 31 + Int32.ofInt (1))) 30 (nI (s + 9 * m + 2))) 30 - (updA (updA c 56 (upd (c 56) (g 31).toNatClampNeg (g 30))) 55 (fil (c 55) (s + 1 + m) (8 * m + 1))) 56 (nI (K + 1)).toNatClampNeg))) l)) (a := s + 1) (P := s + 1 + m) (N := 8 * m + 1) (x3 := nI (K + 1)) (f0 := c 55) (fun j h1 h2 => h18 j (by omega) (by omega)) (by omega) (by omega) (by
        rw [ePQ]
        exact bk_383_31 (bk_335_0 (nI_in (by omega) (by decide)) (nI_in (by omega) (by decide))) bk_383_36) (8 * m + 1) 0 (by omega)
    rw [fil_0] at hl
    have eg : upd (upd g 31 (g 31 + Int32.ofInt (1))) 30 (nI (s + 1 + m + 0)) = upd g 31 (g 31 + Int32.ofInt (1)) := by
      funext j
      unfold upd
      by_cases hj : j = 30
      · subst hj
        rw [if_pos rfl, if_neg (by decide), h30]
        rfl
      · rw [if_neg hj]
    have ec : updA (updA c 56 (upd (c 56) (g 31).toNatClampNeg (g 30))) 55 (c 55) = updA c 56 (upd (c 56) (g 31).toNatClampNeg (g 30)) := by
      funext j
      unfold updA
      by_cases hj : j = 55
      · subst hj
        rw [if_pos rfl, if_neg (by decide)]
      · rw [if_neg hj]
    rw [eg, ec, show s + 1 + (8 * m + 1) = s + 8 * m + 2 from by omega] at hl
    exact hl
  · refine ⟨?_, if_pos rfl, rfl, ?_, rfl⟩
    · show g 31 + Int32.ofInt (1) = nI (K + 2)
      rw [h31]
      exact (nI_succ (K + 1)).symm
    · show upd (c 56) (g 31).toNatClampNeg (g 30) (K + 1) = nI (s + 1 + m)
      rw [h31, nI_clamp (by omega), h30]
      exact if_pos rfl
set_option maxHeartbeats 4000000 in
theorem tail_ok {K s m w : Nat} {x1 : Int32} (hI : tI K s m w g c) (hm : 1 ≤ m) (hb : s + 9 * m + 2 ≤ 66000) (hK : K + 2 < 1300) (hw : w < 4000) : ∃ (g' : Nat → Int32) (c' : Nat → Nat → Int32), rr b e (d + 2) 381 74 [(0, .ref 49), (1, .int x1), (2, .int 1)] [.int (nI K)] g q c l (some (.int (nI (K + 1))), rH e g' q c' l) ∧ tI (K + 1) (s + 1 + m) (8 * m) (w + 1) g' c' := by
  obtain ⟨h31, h30, h43, h56, hh, h18, h0⟩ := hI
  have hwz : ¬ ((upd g 24 (g 24 - Int32.ofInt (1))) 43 < 0 ∨ 4000 ≤ ((upd g 24 (g 24 - Int32.ofInt (1))) 43).toNatClampNeg) := by
    rw [show (upd g 24 (g 24 - Int32.ofInt (1))) 43 = g 43 from rfl, h43]
    exact nI_in hw (by decide)
  have hKc : (nI K).toNatClampNeg = K := nI_clamp (by omega)
  have hsc : (nI s).toNatClampNeg = s := nI_clamp (by omega)
  obtain ⟨g2, c2, hem, r31, r30, r43, r55, r56⟩ : ∃ (g2 : Nat → Int32) (c2 : Nat → Nat → Int32), rr b e (d + 1) 355 0 [(0, .ref 49), (1, .int (Int32.ofInt (4))), (2, .int (1 - Int32.ofInt (1)))] [] (upd g 24 (g 24 - Int32.ofInt (1))) q c l (some (.int (nI w)), rH e g2 q c2 l) ∧ g2 31 = nI (K + 1) ∧ g2 30 = nI (s + 1 + m) ∧ g2 43 = nI (w + 1) ∧ c2 55 = c 55 ∧ c2 56 = c 56 := by
    have hem := bk_355_0 (b := b) (d := d + 1) (x1 := Int32.ofInt (4)) (x2 := 1 - Int32.ofInt (1)) (e := e) (g := upd g 24 (g 24 - Int32.ofInt (1))) (q := q) (c := c) (l := l) hwz hwz hwz hwz
    have ev : (upd (upd g 24 (g 24 - Int32.ofInt (1))) 43 ((upd g 24 (g 24 - Int32.ofInt (1))) 43 + Int32.ofInt (1))) 43 - Int32.ofInt (1) = nI w := by
      show g 43 + Int32.ofInt (1) - Int32.ofInt (1) = nI w
      rw [h43]
      exact Int32.add_sub_cancel _ _
    rw [ev] at hem
    refine ⟨_, _, hem, h31, h30, ?_, rfl, rfl⟩
    show g 43 + Int32.ofInt (1) = nI (w + 1)
    rw [h43]
    exact (nI_succ w).symm
  obtain ⟨g3, c3, hcp, q31, q30, q43, q56, q55⟩ := cp_all (b := b) (d := d) (e := e) (g := g2) (q := q) (c := c2) (l := l) (K := K) (s := s) (m := m) r31 r30 (fun i h1 h2 => by rw [r55]; exact h18 i h1 h2) hm hb hK
  have heo := eo_all (b := b) (d := d + 1) (e := e) (g := g2) (q := q) (c := c2) (l := l) (s := s) (m := m) (fun i h1 h2 => by rw [r55]; exact h18 i h1 h2) (fun i h1 h2 => by rw [r55]; exact h0 i h1 h2) hb
  refine ⟨g3, c3, ?_, ?_⟩
  · refine bk_381_74 bk_351_0 (bk_381_79 hem (bk_381_87 (fun _ => ?_) (fun hc => absurd (decide_eq_true (nI_pos' (by omega))) hc)))
    refine bk_381_94 (bk_382_0 (nI_in (by omega) (by decide)) (by rw [hKc, r56, h56]; exact nI_in (by omega) (by decide))) ?_
    rw [hKc, r56, h56, hsc, r55]
    have hlast : rr b e (d + 2) 381 132 [(0, .ref 49), (2, .int 1), (3, .int (nI K))] [] g2 q c2 l (some (.int (nI (K + 1))), rH e g3 q c3 l) := by
      refine bk_381_132 (nI_in (by omega) (by decide)) (bk_381_145 (fun _ => ?_) (fun hc => absurd (by decide +kernel) hc))
      rw [hKc, r56, h56, show nI s + Int32.ofInt (1) = nI (s + 1) from (nI_succ s).symm]
      exact bk_381_165 heo (bk_381_174 hcp bk_381_177)
    rcases hh with hh | hh
    · rw [hh]
      exact bk_381_99 (fun hc => absurd hc (by decide +kernel)) (fun _ => bk_381_108 (fun hc => absurd hc (by decide +kernel)) (fun _ => bk_381_115 (fun _ => hlast) (fun hc => absurd (by decide +kernel) hc)))
    · rw [hh]
      exact bk_381_99 (fun hc => absurd hc (by decide +kernel)) (fun _ => bk_381_108 (fun hc => absurd hc (by decide +kernel)) (fun _ => bk_381_115 (fun _ => hlast) (fun hc => absurd (by decide +kernel) hc)))
  · refine ⟨q31, by rw [q30]; exact congrArg nI (by omega), by rw [q43]; exact r43, q56, Or.inr ?_, fun i h1 h2 => ?_, fun i h1 h2 => ?_⟩
    · rw [q55]; exact if_pos (by omega)
    · rw [q55]; exact if_pos (by omega)
    · rw [q55, r55]
      unfold fil
      rw [if_neg (by omega)]
      exact h0 i (by omega) h2
end TL
