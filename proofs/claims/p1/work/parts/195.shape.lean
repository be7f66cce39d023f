/-- a cell without what an array holds: whether it holds ints -/
abbrev x_S : Type := (Nat × Nat × Bool) ⊕ (Nat × List Value)
def xsh : x_E → x_S
  | .inl (t, n, .inl _) => .inl (t, n, true)
  | .inl (t, n, _) => .inl (t, n, false)
  | .inr o => .inr o
def xgd : x_E → Bool
  | .inl (_, _, .inl _) => true
  | .inl (_, _, .inr (.inl _)) => true
  | .inl _ => false
  | .inr _ => true
def xcI : x_E → Nat → Int32
  | .inl (_, _, .inl f) => f
  | _ => fun _ => 0
def xcL : x_E → Nat → Int64
  | .inl (_, _, .inr (.inl f)) => f
  | _ => fun _ => 0
def xmk : x_S → (Nat → Int32) → (Nat → Int64) → x_E
  | .inl (t, n, true), f, _ => .inl (t, n, .inl f)
  | .inl (t, n, false), _, g => .inl (t, n, .inr (.inl g))
  | .inr o, _, _ => .inr o
theorem xmk_eq (x : x_E) (h : xgd x = true) : xmk (xsh x) (xcI x) (xcL x) = x := by
  cases x with
  | inl a =>
    obtain ⟨t, n, a⟩ := a
    cases a with
    | inl f => rfl
    | inr a => cases a with
      | inl f => rfl
      | inr a => cases h
  | inr o => rfl
def xmks : List x_S → (Nat → Nat → Int32) → (Nat → Nat → Int64) → Nat → List x_E
  | [], _, _, _ => []
  | s :: r, c, e, i => xmk s (c i) (e i) :: xmks r c e (i + 1)
def xctI (hp : List x_E) (i : Nat) : Nat → Int32 := match hp[i]? with
  | some x => xcI x
  | none => fun _ => 0
def xctL (hp : List x_E) (i : Nat) : Nat → Int64 := match hp[i]? with
  | some x => xcL x
  | none => fun _ => 0
theorem xmks_eq (c : Nat → Nat → Int32) (e : Nat → Nat → Int64) : ∀ (hp : List x_E) (i : Nat), hp.all xgd = true → (∀ j, j < hp.length → c (i + j) = xctI hp j ∧ e (i + j) = xctL hp j) → xmks (hp.map xsh) c e i = hp := by
  intro hp
  induction hp with
  | nil => intro i _ _; rfl
  | cons x r ih =>
    intro i hg h
    rw [List.all_cons, Bool.and_eq_true] at hg
    show xmk (xsh x) (c i) (e i) :: xmks (r.map xsh) c e (i + 1) = x :: r
    rw [ih (i + 1) hg.2 (fun j hj => by
      have := h (j + 1) (by simpa using hj)
      rw [show i + 1 + j = i + (j + 1) by omega]
      exact this)]
    have h0 := h 0 (by simp)
    rw [Nat.add_zero] at h0
    rw [h0.1, h0.2]
    show xmk (xsh x) (xcI x) (xcL x) :: r = x :: r
    rw [xmk_eq x hg.1]
def sEq : x_S → x_S → Bool
  | .inl a, .inl b => decide (a = b)
  | .inr a, .inr b => decide (a = b)
  | _, _ => false
theorem sEq_eq {a b : x_S} (h : sEq a b = true) : a = b := by
  cases a with
  | inl a => cases b with
    | inl b => rw [of_decide_eq_true h]
    | inr b => cases h
  | inr a => cases b with
    | inl b => cases h
    | inr b => rw [of_decide_eq_true h]
def sEqs : List x_S → List x_S → Bool
  | [], [] => true
  | a :: r, b :: q => sEq a b && sEqs r q
  | _, _ => false
theorem sEqs_eq : ∀ {a b : List x_S}, sEqs a b = true → a = b := by
  intro a
  induction a with
  | nil => intro b h; cases b with
    | nil => rfl
    | cons y q => cases h
  | cons x r ih => intro b h; cases b with
    | nil => cases h
    | cons y q =>
      rw [sEqs, Bool.and_eq_true] at h
      rw [sEq_eq h.1, ih h.2]
def sOk (r : Option (Option Value × List x_E)) (l : List x_S) : Bool := match r with
  | some (none, hp) => hp.all xgd && sEqs (hp.map xsh) l
  | _ => false
theorem sOk_eq {r : Option (Option Value × List x_E)} {l : List x_S} (h : sOk r l = true) : ∃ hp, r = some (none, hp) ∧ hp.map xsh = l ∧ hp.all xgd = true := by
  unfold sOk at h
  split at h
  · rw [Bool.and_eq_true] at h
    exact ⟨_, rfl, sEqs_eq h.2, h.1⟩
  · cases h
theorem xr_eq {r : Option (Option Value × List x_E)} {l : List x_S} (h : sOk r l = true) {c : Nat → Nat → Int32} {e : Nat → Nat → Int64} (hc : ∀ q, r = some q → ∀ i, c i = xctI q.2 i ∧ e i = xctL q.2 i) : r = some (none, xmks l c e 0) := by
  obtain ⟨hp, h1, h2, h3⟩ := sOk_eq h
  have h4 := hc _ h1
  rw [h1, ← h2]
  rw [xmks_eq c e hp 0 h3 (fun j _ => by rw [Nat.zero_add]; exact h4 j)]
