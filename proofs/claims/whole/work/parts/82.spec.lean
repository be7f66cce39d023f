/-! the reference's reader: bytes, blanks, comments -/
def tB (T : Nat → Int32) (n k : Nat) : Int32 := if n ≤ k then -1 else T k
theorem xge_p {a b : Nat} (h : b ≤ a) (ha : a < 2 ^ 31) : xCn .ge (nI a) (nI b) = true := decide_eq_true (nI_le h ha)
theorem xge_m {a b : Nat} (h : a < b) (hb : b < 2 ^ 31) : ¬ xCn .ge (nI a) (nI b) = true := fun hc => nI_ge h hb (of_decide_eq_true hc)
theorem xeq_p {a b : Int32} (h : a = b) : xCn .eq a b = true := decide_eq_true h
theorem xeq_m {a b : Int32} (h : ¬ a = b) : ¬ xCn .eq a b = true := fun hc => h (of_decide_eq_true hc)
theorem xne_p {a b : Int32} (h : ¬ a = b) : xCn .ne a b = true := by simp [xCn, h]
theorem xne_e {a b : Int32} (h : xCn .ne a b = true) : ¬ a = b := by
  intro e
  subst e
  simp [xCn] at h
theorem xne_q {a b : Int32} (h : ¬ xCn .ne a b = true) : a = b := Classical.byContradiction fun hx => h (xne_p hx)
section RD
variable {b : Bool} {d n : Nat} {e : Nat → x_E} {g : Nat → Int32} {q : Nat → Int64} {c : Nat → Nat → Int32} {l : Nat → Nat → Int64} {R : Option Value × List x_E}
theorem byteAt_ok {k : Nat} (hn : g 3 = nI n) (h6 : n ≤ 6000) (hk : k < 2 ^ 30) : rr b e d 325 0 [(0, .ref 49), (1, .int (nI k))] [] g q c l (some (.int (tB (c 51) n k)), rH e g q c l) := by
  unfold tB
  by_cases h : n ≤ k
  · rw [if_pos h]
    exact bk_325_0 (fun _ => bk_325_17 bk_325_18) (fun hc => absurd (by rw [hn]; exact xge_p h (by omega)) hc)
  · rw [if_neg h]
    refine bk_325_0 (fun hc => absurd hc (by rw [hn]; exact xge_m (by omega) (by omega))) (fun _ => bk_325_8 (ri_in (by omega) (by decide)) ?_)
    rw [nI_clamp (by omega)]
    exact bk_325_18
/-- behind a comment -/
def skC (T : Nat → Int32) (n : Nat) : Nat → Nat → Nat
  | 0, k => k
  | m + 1, k => if n ≤ k then k else if T k = 10 then k else skC T n m (k + 1)
theorem skC_ge (T : Nat → Int32) (n : Nat) : ∀ m k, k ≤ skC T n m k := by
  intro m
  induction m with
  | zero => intro k; exact Nat.le_refl k
  | succ m ih =>
    intro k
    unfold skC
    split
    · exact Nat.le_refl k
    · split
      · exact Nat.le_refl k
      · exact Nat.le_trans (Nat.le_succ k) (ih (k + 1))
theorem skC_le (T : Nat → Int32) (n : Nat) : ∀ m k, k ≤ n → skC T n m k ≤ n := by
  intro m
  induction m with
  | zero => intro k h; exact h
  | succ m ih =>
    intro k h
    unfold skC
    split
    · exact h
    · split
      · exact h
      · exact ih (k + 1) (by omega)
theorem skC_ok (hn : g 3 = nI n) (h6 : n ≤ 6000) : ∀ m k, n ≤ k + m → k ≤ n → rr b e d 324 85 [(0, .ref 49), (2, .int (nI (skC (c 51) n m k))), (3, .int (Int32.ofInt (1)))] [] g q c l R → rr b e d 324 57 [(0, .ref 49), (2, .int (nI k)), (3, .int (Int32.ofInt (1)))] [] g q c l R := by
  intro m
  induction m with
  | zero =>
    intro k h1 h2 h
    exact bk_324_57 (fun _ => h) (fun hc => absurd (by rw [hn]; exact xge_p (by omega) (by omega)) hc)
  | succ m ih =>
    intro k h1 h2 h
    unfold skC at h
    by_cases hk : n ≤ k
    · rw [if_pos hk] at h
      exact bk_324_57 (fun _ => h) (fun hc => absurd (by rw [hn]; exact xge_p hk (by omega)) hc)
    · rw [if_neg hk] at h
      refine bk_324_57 (fun hc => absurd hc (by rw [hn]; exact xge_m (by omega) (by omega))) (fun _ => bk_324_65 (ri_in (by omega) (by decide)) (fun hc => ?_) (fun hc => ?_))
      · rw [nI_clamp (by omega), show (Int8.ofInt (10)).toInt32 = (10 : Int32) from rfl] at hc
        rw [if_pos (of_decide_eq_true hc)] at h
        exact h
      · rw [nI_clamp (by omega), show (Int8.ofInt (10)).toInt32 = (10 : Int32) from rfl] at hc
        rw [if_neg (fun he => hc (xeq_p he))] at h
        refine bk_324_76 ?_
        rw [show nI k + Int32.ofInt 1 = nI (k + 1) from (nI_succ k).symm]
        exact ih (k + 1) (by omega) (by omega) h
/-- behind blanks and comments -/
def skS (T : Nat → Int32) (n : Nat) : Nat → Nat → Nat
  | 0, k => k
  | m + 1, k => if tB T n k = 9 ∨ tB T n k = 10 ∨ tB T n k = 13 ∨ tB T n k = 32 then skS T n m (k + 1) else if tB T n k = 37 then skS T n m (skC T n (n - k) k) else k
theorem tB_in {T : Nat → Int32} {n k : Nat} {v : Int32} (h : tB T n k = v) (hv : v ≠ -1) : k < n ∧ T k = v := by
  unfold tB at h
  split at h
  · exact absurd h.symm hv
  · exact ⟨by omega, h⟩
theorem skS_ok (hn : g 3 = nI n) (h6 : n ≤ 6000) : ∀ m k, n < k + m → k ≤ n → rr b e (d + 1) 324 4 [(0, .ref 49), (2, .int (nI k)), (3, .int (Int32.ofInt (1)))] [] g q c l (some (.int (nI (skS (c 51) n m k))), rH e g q c l) ∧ skS (c 51) n m k ≤ n := by
  intro m
  induction m with
  | zero => intro k h1 h2; omega
  | succ m ih =>
    intro k h1 h2
    have hb := byteAt_ok (b := b) (d := d) (e := e) (q := q) (c := c) (l := l) (k := k) hn h6 (by omega)
    have hin : ∀ {R : Option Value × List x_E}, rr b e (d + 1) 324 13 [(0, .ref 49), (2, .int (nI k)), (3, .int (Int32.ofInt (1)))] [.int (tB (c 51) n k)] g q c l R → rr b e (d + 1) 324 4 [(0, .ref 49), (2, .int (nI k)), (3, .int (Int32.ofInt (1)))] [] g q c l R := fun h => bk_324_4 (fun hc => absurd hc (by decide)) (fun _ => bk_324_8 hb h)
    have hnx : ∀ {R : Option Value × List x_E}, rr b e (d + 1) 324 4 [(0, .ref 49), (2, .int (nI (k + 1))), (3, .int (Int32.ofInt (1)))] [] g q c l R → rr b e (d + 1) 324 43 [(0, .ref 49), (2, .int (nI k)), (3, .int (Int32.ofInt (1)))] [] g q c l R := by
      intro R h
      refine bk_324_43 (bk_324_85 ?_)
      rw [show nI k + Int32.ofInt 1 = nI (k + 1) from (nI_succ k).symm]
      exact h
    unfold skS
    by_cases h9 : tB (c 51) n k = 9 ∨ tB (c 51) n k = 10 ∨ tB (c 51) n k = 13 ∨ tB (c 51) n k = 32
    · rw [if_pos h9]
      have hk : k < n := by
        rcases h9 with h | h | h | h <;> exact (tB_in h (by decide)).1
      obtain ⟨i1, i2⟩ := ih (k + 1) (by omega) (by omega)
      refine ⟨hin ?_, i2⟩
      rcases h9 with h | h | h | h <;> rw [h]
      · exact bk_324_13 (fun _ => hnx i1) (fun hc => absurd (by decide) hc)
      · exact bk_324_13 (fun hc => absurd hc (by decide)) (fun _ => bk_324_22 (fun _ => hnx i1) (fun hc => absurd (by decide) hc))
      · exact bk_324_13 (fun hc => absurd hc (by decide)) (fun _ => bk_324_22 (fun hc => absurd hc (by decide)) (fun _ => bk_324_29 (fun _ => hnx i1) (fun hc => absurd (by decide) hc)))
      · exact bk_324_13 (fun hc => absurd hc (by decide)) (fun _ => bk_324_22 (fun hc => absurd hc (by decide)) (fun _ => bk_324_29 (fun hc => absurd hc (by decide)) (fun _ => bk_324_36 (fun hc => absurd hc (by decide)) (fun _ => hnx i1))))
    · rw [if_neg h9]
      have hgo : ∀ {R : Option Value × List x_E}, rr b e (d + 1) 324 50 [(0, .ref 49), (2, .int (nI k)), (3, .int (Int32.ofInt (1))), (4, .int (tB (c 51) n k))] [] g q c l R → rr b e (d + 1) 324 4 [(0, .ref 49), (2, .int (nI k)), (3, .int (Int32.ofInt (1)))] [] g q c l R := fun h => hin (bk_324_13 (fun hc => absurd (Or.inl (of_decide_eq_true hc)) h9) (fun _ => bk_324_22 (fun hc => absurd (Or.inr (Or.inl (of_decide_eq_true hc))) h9) (fun _ => bk_324_29 (fun hc => absurd (Or.inr (Or.inr (Or.inl (of_decide_eq_true hc)))) h9) (fun _ => bk_324_36 (fun _ => h) (fun hc => absurd (Or.inr (Or.inr (Or.inr (xne_q hc)))) h9)))))
      by_cases h37 : tB (c 51) n k = 37
      · rw [if_pos h37]
        obtain ⟨hk, ht⟩ := tB_in h37 (by decide)
        have hlt : k < skC (c 51) n (n - k) k := by
          obtain ⟨m', hm'⟩ : ∃ m', n - k = m' + 1 := ⟨n - k - 1, by omega⟩
          rw [hm']
          unfold skC
          rw [if_neg (by omega), if_neg (by rw [ht]; decide)]
          exact skC_ge _ _ _ _
        have hle := skC_le (c 51) n (n - k) k h2
        obtain ⟨i1, i2⟩ := ih (skC (c 51) n (n - k) k) (by omega) hle
        refine ⟨hgo (bk_324_50 (fun hc => absurd h37 (xne_e hc)) (fun _ => skC_ok hn h6 (n - k) k (by omega) h2 (bk_324_85 i1))), i2⟩
      · rw [if_neg h37]
        exact ⟨hgo (bk_324_50 (fun _ => bk_324_83 (bk_324_85 (bk_324_4 (fun _ => bk_324_88) (fun hc => absurd (by decide) hc)))) (fun hc => absurd (xne_q hc) h37)), h2⟩
end RD
