/-! the first call on the two new objects: p1's law as it stands, and whole's first step -/
theorem ln0 {as : List Int32} (h : as.length = 0) : as = [] := by
  cases as with
  | nil => rfl
  | cons a r => simp at h
theorem ln1 {as : List Int32} (h : as.length = 1) : ∃ a, as = [a] := by
  cases as with
  | nil => simp at h
  | cons a r => exact ⟨a, by rw [ln0 (as := r) (by simpa using h)]⟩
theorem ln2 {as : List Int32} (h : as.length = 2) : ∃ a b, as = [a, b] := by
  cases as with
  | nil => simp at h
  | cons a r =>
    obtain ⟨b, rfl⟩ := ln1 (as := r) (by simpa using h)
    exact ⟨a, b, rfl⟩
theorem ln5 {as : List Int32} (h : as.length = 5) : ∃ a b c d e, as = [a, b, c, d, e] := by
  cases as with
  | nil => simp at h
  | cons a r => cases r with
    | nil => simp at h
    | cons b r => cases r with
      | nil => simp at h
      | cons c r =>
        obtain ⟨d, e, rfl⟩ := ln2 (as := r) (by simpa using h)
        exact ⟨a, b, c, d, e, rfl⟩
theorem al_prog (z : Bool) (n : Int32) : xAl z 27 317 (xh2 z) [n] := by
  by_cases h : n = 0
  · subst h
    cases z
    · exact xbg_al (as := [0]) eg_pf
    · exact xbg_al (as := [0]) eg_pt
  · exact xsy_al (as := [n]) (sy_prog_x z n h) (sy_prog_m z n h)
theorem al_blocks (z : Bool) (n : Int32) : xAl z 176 398 (xh2 z) [n] := by
  by_cases h : n = 0
  · subst h
    cases z
    · exact xbg_al (as := [0]) eg_bf
    · exact xbg_al (as := [0]) eg_bt
  · exact xsy_al (as := [n]) (sy_blocks_x z n h) (sy_blocks_m z n h)
theorem al_count (z : Bool) (w : Int32) : xAl z 302 462 (xh2 z) [w] := by
  by_cases h : w.toInt < 0 ∨ 6 < w.toInt
  · exact xsy_al (as := [w]) (sy_count_x_d z w h) (sy_count_m_d z w h)
  · have hk : w.toInt.toNat < 7 := by omega
    have e : w = nI w.toInt.toNat := by
      apply Int32.toInt_inj.mp
      rw [nI_toInt (by omega)]
      omega
    rw [e]
    exact xsy_al (as := [nI w.toInt.toNat]) (sy_count_x_k z _ hk) (sy_count_m_k z _ hk)
theorem al_all (z : Bool) (q : Nat × Nat × Nat) (hq : q ∈ xCalls) (as : List Int32) (hla : as.length = q.2.2) : xAl z q.1 q.2.1 (xh2 z) as := by
  simp only [xCalls, List.mem_cons, List.not_mem_nil, or_false] at hq
  rcases hq with rfl | rfl | rfl | rfl | rfl | rfl | rfl | rfl | rfl | rfl | rfl | rfl
  · obtain ⟨a, b, c, d, e, rfl⟩ := ln5 hla
    exact al_feed z a b c d e
  · obtain ⟨n, rfl⟩ := ln1 hla
    exact al_prog z n
  · obtain ⟨n, rfl⟩ := ln1 hla
    exact al_blocks z n
  · have e := ln0 hla
    subst e
    exact xsy_al (as := []) (sy_place_x z) (sy_place_m z)
  · obtain ⟨n, rfl⟩ := ln1 hla
    exact xsy_al (as := [n]) (sy_kind_x z n) (sy_kind_m z n)
  · obtain ⟨n, rfl⟩ := ln1 hla
    exact xsy_al (as := [n]) (sy_code_x z n) (sy_code_m z n)
  · obtain ⟨n, rfl⟩ := ln1 hla
    exact xsy_al (as := [n]) (sy_label_x z n) (sy_label_m z n)
  · obtain ⟨f, h, rfl⟩ := ln2 hla
    exact xsy_al (as := [f, h]) (sy_run_x z f h) (sy_run_m z f h)
  · have e := ln0 hla
    subst e
    exact xsy_al (as := []) (sy_value_x z) (sy_value_m z)
  · obtain ⟨n, rfl⟩ := ln1 hla
    exact al_count z n
  · obtain ⟨n, rfl⟩ := ln1 hla
    exact xsy_al (as := [n]) (sy_register_x z n) (sy_register_m z n)
  · obtain ⟨n, rfl⟩ := ln1 hla
    exact xsy_al (as := [n]) (sy_heap_x z n) (sy_heap_m z n)
/-- what is kept over one call -/
def xI1 (z : Bool) (i : Nat) (hp : List x_E) : Prop := xGd hp ∧ (i = 0 → hp = xh2 z)
theorem xI1_step (z : Bool) : xStep z 6 (xI1 z) := by
  intro i hp hi hI q hq as hla
  have i0 : i = 0 := by omega
  subst i0
  have e := hI.2 rfl
  subst e
  obtain ⟨f, f2, r, hp1, hp2, h1, h2, g1, g2⟩ := al_all z q hq as hla
  exact ⟨f, f2, r, hp1, hp2, h1, h2, g1, g2, g2, fun h => absurd h (Nat.succ_ne_zero 0)⟩
