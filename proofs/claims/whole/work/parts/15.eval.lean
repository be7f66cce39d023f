def xdf (ci : Nat) : x_E := match xcl[ci]? with
  | some q => .inr (ci, (List.range q.2.2).map fun k => defaultValue (xty q k))
  | none => .inr (ci, [])
def xgo (fm : Value) (f d j : Nat) (hp : List x_E) (avs : List Value) : Option (Option Value × List x_E) := match xMf j with
  | none => none
  | some M => srun xZ (xY fm) f d M 0 (lv_args 0 avs) [] hp 0 0
/-- a cell without what an array holds -/
abbrev x_S : Type := (Nat × Nat × Bool) ⊕ (Nat × List Value)
abbrev x_A : Type := (Nat → Int32) ⊕ (Nat → Int64) ⊕ (Nat → UInt32) ⊕ (Nat → UInt64) ⊕ (Nat → Option Nat)
def xsh : x_E → x_S
  | .inl (t, n, _) => .inl (t, n, true)
  | .inr o => .inr o
def xct : x_E → x_A
  | .inl (_, _, a) => a
  | .inr _ => .inl fun _ => 0
def xmk : x_S → x_A → x_E
  | .inl (t, n, _), a => .inl (t, n, a)
  | .inr o, _ => .inr o
theorem xmk_eq (x : x_E) : xmk (xsh x) (xct x) = x := by
  cases x with
  | inl a => rfl
  | inr o => rfl
def xmks : List x_S → (Nat → x_A) → Nat → List x_E
  | [], _, _ => []
  | s :: r, c, i => xmk s (c i) :: xmks r c (i + 1)
def xcts (hp : List x_E) (i : Nat) : x_A := match hp[i]? with
  | some x => xct x
  | none => .inl fun _ => 0
theorem xmks_eq (c : Nat → x_A) : ∀ (hp : List x_E) (i : Nat), (∀ j, j < hp.length → c (i + j) = xcts hp j) → xmks (hp.map xsh) c i = hp := by
  intro hp
  induction hp with
  | nil => intro i _; rfl
  | cons x r ih =>
    intro i h
    show xmk (xsh x) (c i) :: xmks (r.map xsh) c (i + 1) = x :: r
    rw [ih (i + 1) (fun j hj => by
      have := h (j + 1) (by simpa using hj)
      rw [show i + 1 + j = i + (j + 1) by omega, this]
      rfl)]
    have h0 := h 0 (by simp)
    rw [Nat.add_zero] at h0
    rw [h0]
    show xmk (xsh x) (xct x) :: r = x :: r
    rw [xmk_eq]
/-- the shapes behind a run -/
def xshs (r : Option (Option Value × List x_E)) : Option (Option Value × List x_S) := r.map fun q => (q.1, q.2.map xsh)
