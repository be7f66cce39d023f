theorem nI_plus (a b : Nat) : nI a + nI b = nI (a + b) := by
  unfold nI
  exact (Int32.ofNat_add a b).symm
theorem xle_p {a b : Nat} (h : a ≤ b) (hb : b < 2 ^ 31) : xCn .le (nI a) (nI b) = true := decide_eq_true (nI_le h hb)
theorem xle_m {a b : Nat} (h : b < a) (ha : a < 2 ^ 31) : ¬ xCn .le (nI a) (nI b) = true := fun hc => nI_ge h ha (of_decide_eq_true hc)
section FD
variable {b : Bool} {d : Nat} {x1 x2 x3 x4 x5 : Int32} {e : Nat → x_E} {g : Nat → Int32} {q : Nat → Int64} {c : Nat → Nat → Int32} {l : Nat → Nat → Int64} {t : Nat}
/-- feed: twenty bytes -/
def fdC (f : Nat → Int32) (t : Nat) (x1 x2 x3 x4 x5 : Int32) : Nat → Int32 := lyC (lyC (lyC (lyC (lyC f t x1) (t + 4) x2) (t + 4 + 4) x3) (t + 4 + 4 + 4) x4) (t + 4 + 4 + 4 + 4) x5
theorem feed_yes (ht : g 1 = nI t) (h6 : t + 20 ≤ 6000) : rr b e (d + 1) 315 0 [(0, .ref 49), (1, .int x1), (2, .int x2), (3, .int x3), (4, .int x4), (5, .int x5)] [] g q c l (some (.int 1), rH e (upd g 1 (nI (t + 20))) q (updA c 50 (fdC (c 50) t x1 x2 x3 x4 x5)) l) := by
  refine bk_315_0 (fun _ => ?_) (fun hc => absurd ?_ hc)
  · refine bk_315_15 (lay_ok ht (by omega)) (bk_315_20 (lay_ok (t := t + 4) (upd_at _ _ _) (by omega)) (bk_315_25 (lay_ok (t := t + 4 + 4) (upd_at _ _ _) (by omega)) (bk_315_30 (lay_ok (t := t + 4 + 4 + 4) (upd_at _ _ _) (by omega)) (bk_315_36 (lay_ok (t := t + 4 + 4 + 4 + 4) (upd_at _ _ _) (by omega)) ?_))))
    simp only [upd_upd, updA_updA, updA_at]
    exact bk_315_42
  · rw [ht, show (Int8.ofInt (20)).toInt32 = nI 20 from rfl, show (Int16.ofInt (6000)).toInt32 = nI 6000 from rfl, nI_plus]
    exact xle_p h6 (by decide)
theorem feed_no (ht : g 1 = nI t) (h6 : 6000 < t + 20) (h7 : t ≤ 6000) : rr b e d 315 0 [(0, .ref 49), (1, .int x1), (2, .int x2), (3, .int x3), (4, .int x4), (5, .int x5)] [] g q c l (some (.int 0), rH e g q c l) := by
  refine bk_315_0 (fun hc => absurd hc ?_) (fun _ => bk_315_13)
  rw [ht, show (Int8.ofInt (20)).toInt32 = nI 20 from rfl, show (Int16.ofInt (6000)).toInt32 = nI 6000 from rfl, nI_plus]
  exact xle_m h6 (by omega)
end FD
