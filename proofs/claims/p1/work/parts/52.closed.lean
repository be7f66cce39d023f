def xgB (hp : List x_E) : Bool := Nat.beq hp.length 122 && (match hp[0]? with
  | some (Sum.inr (0, _)) => true
  | _ => false) && (match hp[49]? with
  | some (Sum.inr (12, _)) => true
  | _ => false)
theorem xgB_eq {hp : List x_E} (h : xgB hp = true) : xGd hp := by
  unfold xgB at h
  rw [Bool.and_eq_true, Bool.and_eq_true] at h
  obtain ⟨⟨h1, h2⟩, h3⟩ := h
  refine ⟨Nat.eq_of_beq_eq_true h1, ?_, ?_⟩
  · split at h2
    · rename_i fs e
      exact ⟨fs, e⟩
    · cases h2
  · split at h3
    · rename_i fs e
      exact ⟨fs, e⟩
    · cases h3
def xbg (b : Bool) (jx jm : Nat) (ax am : List Value) : Bool := match xgf b 3000 1000 jx (xh2 b) ax with
  | some (some (.int r), hp) => xgB hp && (match xgf b 3000 1000 jm hp am with
    | some (some (.int q), hp2) => decide (r = q) && xgB hp2
    | _ => false)
  | _ => false
theorem xgf_xbr {b : Bool} {f d j : Nat} {hp : List x_E} {avs : List Value} {R : Option Value × List x_E} (h : xgf b f d j hp avs = some R) : xbr b f d j hp avs = some R := by
  apply xgn_xbr
  unfold xgn
  rw [nrun_eq]
  exact h
/-- alike answers of a call on each, whatever is behind them -/
def xAl (b : Bool) (jx jm : Nat) (hp : List x_E) (as : List Int32) : Prop := ∃ (f f2 : Nat) (r : Int32) (hp1 hp2 : List x_E), xbr b f 1000 jx hp (.ref 0 :: as.map Value.int) = some (some (.int r), hp1) ∧ xbr b f2 1000 jm hp1 (.ref 49 :: as.map Value.int) = some (some (.int r), hp2) ∧ xGd hp1 ∧ xGd hp2
theorem xbg_al {b : Bool} {jx jm : Nat} {as : List Int32} (h : xbg b jx jm (.ref 0 :: as.map Value.int) (.ref 49 :: as.map Value.int) = true) : xAl b jx jm (xh2 b) as := by
  unfold xbg at h
  split at h
  · rename_i r hp1 e1
    rw [Bool.and_eq_true] at h
    obtain ⟨h1, h2⟩ := h
    split at h2
    · rename_i q hp2 e2
      rw [Bool.and_eq_true] at h2
      have e := of_decide_eq_true h2.1
      subst e
      exact ⟨3000, 3000, r, hp1, hp2, xgf_xbr e1, xgf_xbr e2, xgB_eq h1, xgB_eq h2.2⟩
    · cases h2
  · cases h
theorem xgd_h2 (b : Bool) : xGd (xh2 b) := ⟨len_h2 b, by cases b <;> exact ⟨_, rfl⟩, by cases b <;> exact ⟨_, rfl⟩⟩
/-- calls that leave the heap -/
theorem xsy_al {b : Bool} {jx jm : Nat} {as : List Int32} {r : Int32} (h1 : xgn b 60 1000 jx (xh2 b) (.ref 0 :: as.map Value.int) = some (some (.int r), xh2 b)) (h2 : xgn b 60 1000 jm (xh2 b) (.ref 49 :: as.map Value.int) = some (some (.int r), xh2 b)) : xAl b jx jm (xh2 b) as := ⟨60, 60, r, xh2 b, xh2 b, xgn_xbr h1, xgn_xbr h2, xgd_h2 b, xgd_h2 b⟩
