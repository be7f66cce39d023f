theorem upd_upd (g : Nat → Int32) (i : Nat) (a b : Int32) : upd (upd g i a) i b = upd g i b := by
  funext j
  unfold upd
  split <;> rfl
theorem updA_updA (c : Nat → Nat → Int32) (i : Nat) (a b : Nat → Int32) : updA (updA c i a) i b = updA c i b := by
  funext j
  unfold updA
  split <;> rfl
theorem updA_at (c : Nat → Nat → Int32) (i : Nat) (a : Nat → Int32) : updA c i a i = a := if_pos rfl
theorem upd_at (g : Nat → Int32) (i : Nat) (a : Int32) : upd g i a i = a := if_pos rfl
theorem ri_in {t n : Nat} (h : t < n) (hn : n < 2 ^ 31) : ¬ (nI t < 0 ∨ n ≤ (nI t).toNatClampNeg) := by
  have ht : t < 2 ^ 31 := Nat.lt_trans h hn
  rw [nI_clamp ht]
  intro hc
  rcases hc with hc | hc
  · exact nI_pos ht hc
  · omega
/-- byte k of a word on the reference's tape -/
def lyB (w k : Int32) : Int32 := (w >>> (((Int8.ofInt (8)).toInt32 * k) &&& 31)) &&& (Int16.ofInt (255)).toInt32
section LY
variable {b : Bool} {d : Nat} {w : Int32} {e : Nat → x_E} {g : Nat → Int32} {q : Nat → Int64} {c : Nat → Nat → Int32} {l : Nat → Nat → Int64} {R : Option Value × List x_E} {t : Nat}
theorem ly_round {k : Int32} (hk : ¬ xCn .lt k 0 = true) (ht : g 1 = nI t) (h6 : t < 6000) (h : rr b e d 316 2 [(0, .ref 49), (1, .int w), (2, .int (k + Int32.ofInt (-1)))] [] (upd g 1 (nI (t + 1))) q (updA c 50 (upd (c 50) t (lyB w k))) l R) : rr b e d 316 2 [(0, .ref 49), (1, .int w), (2, .int k)] [] g q c l R := by
  refine bk_316_2 (fun h => absurd h hk) (fun _ => bk_316_6 ?_ ?_)
  · rw [ht]
    exact ri_in h6 (by decide)
  · rw [ht, nI_clamp (by omega), show nI t + Int32.ofInt 1 = nI (t + 1) from (nI_succ t).symm]
    exact h
def lyC (f : Nat → Int32) (t : Nat) (w : Int32) : Nat → Int32 := upd (upd (upd (upd f t (lyB w 3)) (t + 1) (lyB w 2)) (t + 2) (lyB w 1)) (t + 3) (lyB w 0)
/-- lay: four bytes come behind the reference's tape -/
theorem lay_ok (ht : g 1 = nI t) (h6 : t + 4 ≤ 6000) : rr b e d 316 0 [(0, .ref 49), (1, .int w)] [] g q c l (none, rH e (upd g 1 (nI (t + 4))) q (updA c 50 (lyC (c 50) t w)) l) := by
  refine bk_316_0 (ly_round (by decide) ht (by omega) ?_)
  refine ly_round (t := t + 1) (by decide) (upd_at _ _ _) (by omega) ?_
  refine ly_round (t := t + 1 + 1) (by decide) (upd_at _ _ _) (by omega) ?_
  refine ly_round (t := t + 1 + 1 + 1) (by decide) (upd_at _ _ _) (by omega) ?_
  refine bk_316_2 (fun _ => ?_) (fun h => absurd (by decide) h)
  simp only [upd_upd, updA_updA, updA_at]
  exact bk_316_41
end LY
