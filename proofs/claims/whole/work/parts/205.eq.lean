def sEq : x_S → x_S → Bool
  | .inl a, .inl b => decide (a = b)
  | .inr a, .inr b => decide (a = b)
  | _, _ => false
theorem sEq_eq {a b : x_S} (h : sEq a b = true) : a = b := by
  cases a with
  | inl a => cases b with
    | inl b => rw [of_decide_eq_true h]
    | inr b => cases h
  | inr a => cases b with
    | inl b => cases h
    | inr b => rw [of_decide_eq_true h]
def sEqs : List x_S → List x_S → Bool
  | [], [] => true
  | a :: r, b :: q => sEq a b && sEqs r q
  | _, _ => false
theorem sEqs_eq : ∀ {a b : List x_S}, sEqs a b = true → a = b := by
  intro a
  induction a with
  | nil => intro b h; cases b with
    | nil => rfl
    | cons y q => cases h
  | cons x r ih => intro b h; cases b with
    | nil => cases h
    | cons y q =>
      rw [sEqs, Bool.and_eq_true] at h
      rw [sEq_eq h.1, ih h.2]
def sOk (r : Option (Option Value × List x_E)) (l : List x_S) : Bool := match r with
  | some (none, hp) => sEqs (hp.map xsh) l
  | _ => false
theorem sOk_eq {r : Option (Option Value × List x_E)} {l : List x_S} (h : sOk r l = true) : ∃ hp, r = some (none, hp) ∧ hp.map xsh = l := by
  unfold sOk at h
  split at h
  · exact ⟨_, rfl, sEqs_eq h⟩
  · cases h
