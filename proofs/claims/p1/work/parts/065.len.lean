set_option maxHeartbeats 4000000 in
set_option maxRecDepth 20000 in
/-- a plain step leaves the number of cells -/
theorem xs1_len {cl : List vw_C} {ini : Bool} {nL : Nat} {fl : Nat → Option (Nat × Nat)} {kc : Nat → Option Int32} {kl : Nat → Option Int64} {i : Instr} {len pc : Nat} {lv : List (Nat × Value)} {st : List Value} {hp : List x_E} {pc' : Nat} {lv' : List (Nat × Value)} {st' : List Value} {hp' : List x_E} (h : xs1 cl ini nL fl kc kl i len pc lv st hp = some (pc', lv', st', hp')) : hp.length = hp'.length := by
  have hput : ∀ (idx : Nat) {t : List Value × List x_E}, xPut cl ini fl idx hp st = some t → hp.length = t.2.length := by
    intro idx t ht
    obtain ⟨v, i, r, ci, k, fs, q, -, -, -, -, -, -, -, -, rfl⟩ := xPut_inv ht
    simp
  have hast : ∀ (t0 : Nat) (g : Int32 → Int32) {t : List Value × List x_E}, xAst t0 g hp st = some t → hp.length = t.2.length := by
    intro t0 g t ht
    obtain ⟨x, i, a, r, n, f, -, -, -, rfl⟩ := xAst_inv ht
    simp
  have hastL : ∀ {t : List Value × List x_E}, xAstL hp st = some t → hp.length = t.2.length := by
    intro t ht
    obtain ⟨x, i, a, r, n, f, -, -, -, rfl⟩ := xAstL_inv ht
    simp
  cases i with
  | putfield idx =>
    obtain ⟨rfl, h⟩ := xK_eq h
    obtain ⟨t, ht, he⟩ := Option.map_eq_some_iff.mp h
    cases he
    exact hput idx ht
  | iastore =>
    obtain ⟨rfl, h⟩ := xK_eq h
    obtain ⟨t, ht, he⟩ := Option.map_eq_some_iff.mp h
    cases he
    exact hast _ _ ht
  | castore =>
    obtain ⟨rfl, h⟩ := xK_eq h
    obtain ⟨t, ht, he⟩ := Option.map_eq_some_iff.mp h
    cases he
    exact hast _ _ ht
  | bastore =>
    obtain ⟨rfl, h⟩ := xK_eq h
    obtain ⟨t, ht, he⟩ := Option.map_eq_some_iff.mp h
    cases he
    rcases xor ht with ht | ht
    · exact hast _ _ ht
    · exact hast _ _ ht
  | lastore =>
    obtain ⟨rfl, h⟩ := xK_eq h
    obtain ⟨t, ht, he⟩ := Option.map_eq_some_iff.mp h
    cases he
    exact hastL ht
  | tableswitch d lo hi offs =>
    obtain ⟨q, hq, h⟩ := Option.bind_eq_some_iff.mp h
    obtain ⟨off, ho, h⟩ := Option.bind_eq_some_iff.mp h
    obtain ⟨t, ht, he⟩ := Option.map_eq_some_iff.mp h
    cases he
    rfl
  | lookupswitch d ps =>
    dsimp only [xs1] at h
    split at h
    · obtain ⟨q, hq, h⟩ := Option.bind_eq_some_iff.mp h
      obtain ⟨t, ht, he⟩ := Option.map_eq_some_iff.mp h
      cases he
      rfl
    · cases h
  | if_icmp cn off =>
    obtain ⟨rfl, h⟩ := xK_eq h
    obtain ⟨q, hq, h⟩ := Option.bind_eq_some_iff.mp h
    obtain ⟨q2, hq2, h⟩ := Option.bind_eq_some_iff.mp h
    obtain ⟨t, ht, he⟩ := Option.map_eq_some_iff.mp h
    cases he
    rfl
  | _ => first
    | (cases h; done)
    | (obtain ⟨-, h⟩ := xK_eq h; cases h; rfl)
    | (obtain ⟨-, h⟩ := xK_eq h; obtain ⟨t, ht, he⟩ := Option.map_eq_some_iff.mp h; cases he; rfl)
    | (obtain ⟨-, h⟩ := xK_eq h; obtain ⟨q, hq, h⟩ := Option.bind_eq_some_iff.mp h; obtain ⟨t, ht, he⟩ := Option.map_eq_some_iff.mp h; cases he; rfl)
    | (obtain ⟨-, h⟩ := xK_eq h; obtain ⟨q, hq, h⟩ := Option.bind_eq_some_iff.mp h; split at h; · cases h; rfl
       · cases h)
