/-! What is asked of the cells behind the counted run. -/
def kSh : List x_S := [.inr (12, [.ref 50, .int 0, .ref 51, .int 47, .int (-1), .int 0, .ref 52, .ref 53, .ref 54, .int 0, .int 0, .int 47, .int 47, .int 0, .int 1, .long 8646911284551352320, .int 0, .int 41, .int 400, .int 1, .int 47, .int 0, .int 0, .int 0, .int 7, .int 0, .long 8646911284551352320, .int 0, .int 45, .ref 55, .int 14, .int 4, .ref 56, .ref 57, .int 0, .ref 58, .int 0, .ref 59, .ref 60, .ref 61, .int 0, .int 0, .int 0, .int 3, .ref 62, .ref 63, .ref 64, .ref 65, .ref 66, .int 2, .ref 67, .ref 68, .ref 69, .ref 70, .ref 71, .int 1, .int 1, .ref 72, .ref 73, .ref 74, .ref 75, .int 0, .ref 76, .int 0, .int 0, .int 0, .int 0, .int 0, .int 0, .int 0, .ref 77, .int 0, .ref 78, .ref 79, .ref 80, .int 0, .int 0, .int 0, .ref 81, .int 0, .ref 82, .ref 83, .ref 84, .int 0, .ref 85, .int 0, .ref 86, .ref 87, .ref 88, .ref 89, .ref 90, .ref 91, .int 0, .ref 92, .int 0, .int 0, .int 0, .ref 93, .ref 94, .ref 95, .ref 96, .ref 97, .int 0, .int 0, .int 0, .int 0, .int 0, .int 0, .ref 98, .ref 99, .int 0, .ref 100, .ref 101, .ref 102, .ref 103, .int 0, .ref 104, .ref 105, .int 0, .ref 106, .ref 107, .ref 108, .ref 109, .ref 110, .int 0, .int 0, .ref 111, .ref 112, .ref 113, .ref 114, .ref 115, .ref 116, .ref 117, .ref 118, .int 0, .int 0, .int 0, .int 0, .ref 119, .int 0, .int 0, .ref 120, .ref 121, .int 0]),
  .inl (0, 6000, true),
  .inl (0, 6000, true),
  .inl (3, 31, true),
  .inl (3, 71, true),
  .inl (3, 18, true),
  .inl (0, 66000, true),
  .inl (0, 1300, true),
  .inl (0, 1300, true),
  .inl (0, 100, true),
  .inl (1, 64, false),
  .inl (0, 64, true),
  .inl (0, 64, true),
  .inl (0, 4000, true),
  .inl (0, 4000, true),
  .inl (0, 4000, true),
  .inl (0, 4000, true),
  .inl (1, 4000, false),
  .inl (0, 900, true),
  .inl (0, 900, true),
  .inl (0, 900, true),
  .inl (1, 900, false),
  .inl (4, 900, true),
  .inl (1, 80, false),
  .inl (0, 80, true),
  .inl (0, 80, true),
  .inl (0, 400, true),
  .inl (0, 2000, true),
  .inl (0, 21000, true),
  .inl (0, 435200, true),
  .inl (0, 6800, true),
  .inl (0, 1500000, true),
  .inl (0, 4000, true),
  .inl (0, 1000, true),
  .inl (0, 1000, true),
  .inl (4, 1000, true),
  .inl (0, 8, true),
  .inl (0, 66000, true),
  .inl (0, 66000, true),
  .inl (0, 66000, true),
  .inl (0, 66000, true),
  .inl (0, 66000, true),
  .inl (0, 66000, true),
  .inl (0, 80000, true),
  .inl (1, 1400, false),
  .inl (0, 1400, true),
  .inl (0, 1400, true),
  .inl (0, 1400, true),
  .inl (0, 1400, true),
  .inl (0, 66000, true),
  .inl (0, 66000, true),
  .inl (0, 3000, true),
  .inl (0, 3000, true),
  .inl (0, 3000, true),
  .inl (0, 3000, true),
  .inl (0, 1400, true),
  .inl (0, 1400, true),
  .inl (1, 41, false),
  .inl (0, 41, true),
  .inl (0, 41, true),
  .inl (0, 41, true),
  .inl (0, 41, true),
  .inl (0, 700, true),
  .inl (0, 700, true),
  .inl (0, 700, true),
  .inl (0, 700, true),
  .inl (0, 700, true),
  .inl (0, 700, true),
  .inl (0, 700, true),
  .inl (0, 16, true),
  .inl (0, 24000, true),
  .inl (0, 16, true),
  .inl (0, 20001, true)]
def kG : List Int32 := [0, 0, 0, 47, (-1), 0, 0, 0, 0, 0, 0, 47, 47, 0, 1, 0, 0, 41, 400, 1, 47, 0, 0, 0, 7, 0, 0, 0, 45, 0, 14, 4, 0, 0, 0, 0, 0, 0, 0, 0, 0, 0, 0, 3, 0, 0, 0, 0, 0, 2, 0, 0, 0, 0, 0, 1, 1, 0, 0, 0, 0, 0, 0, 0, 0, 0, 0, 0, 0, 0, 0, 0, 0, 0, 0, 0, 0, 0, 0, 0, 0, 0, 0, 0, 0, 0, 0, 0, 0, 0, 0, 0, 0, 0, 0, 0, 0, 0, 0, 0, 0, 0, 0, 0, 0, 0, 0, 0, 0, 0, 0, 0, 0, 0, 0, 0, 0, 0, 0, 0, 0, 0, 0, 0, 0, 0, 0, 0, 0, 0, 0, 0, 0, 0, 0, 0, 0, 0, 0, 0, 0, 0, 0, 0]
def kg (i : Nat) : Int32 := kG.getD i 0
def kq (i : Nat) : Int64 := if i = 15 then 8646911284551352320 else if i = 26 then 8646911284551352320 else 0
set_option maxRecDepth 100000 in
set_option maxHeartbeats 4000000 in
theorem rH_kS (e : Nat → x_E) (c1 : Nat → Nat → Int32) (l1 : Nat → Nat → Int64) : rH e kg kq (fun a => c1 (a - 49)) (fun a => l1 (a - 49)) = (List.range 49).map e ++ xmks kSh c1 l1 0 := rfl
def zer (f : Nat → Int32) : Nat → Bool
  | 0 => true
  | n + 1 => Nat.beq (f (n + 14)).toBitVec.toNat 0 && zer f n
theorem i32_of {x : Int32} {n : Nat} (hn : n < 2 ^ 32) (h : Nat.beq x.toBitVec.toNat n = true) : x = Int32.ofNat n := by
  have e := Nat.eq_of_beq_eq_true h
  apply Int32.toBitVec_inj.mp
  apply BitVec.eq_of_toNat_eq
  rw [e, Int32.toBitVec_ofNat']
  simp [Nat.mod_eq_of_lt hn]
theorem zer_ok {f : Nat → Int32} : ∀ {n : Nat}, zer f n = true → ∀ i, 14 ≤ i → i < n + 14 → f i = 0 := by
  intro n
  induction n with
  | zero => intro _ i h1 h2; omega
  | succ n ih =>
    intro h i h1 h2
    unfold zer at h
    rw [Bool.and_eq_true] at h
    by_cases e : i = n + 14
    · rw [e]
      exact i32_of (by decide) h.1
    · exact ih h.2 i h1 (by omega)
def chT (hp : List x_E) : Bool := Nat.beq hp.length 122 && (hp.drop 49).all xgd && sEqs ((hp.drop 49).map xsh) kSh && (match hp[55]? with
  | some (Sum.inl (_, _, Sum.inl f)) => Nat.beq (f 12).toBitVec.toNat 11 && Nat.beq (f 13).toBitVec.toNat 18 && zer f 65986
  | _ => false) && (match hp[56]? with
  | some (Sum.inl (_, _, Sum.inl f)) => Nat.beq (f 3).toBitVec.toNat 12
  | _ => false)
theorem take_map {α : Type} (l : List α) (n : Nat) (a : α) (h : n ≤ l.length) : l.take n = (List.range n).map (fun i => l.getD i a) := by
  apply List.ext_getElem?
  intro i
  rw [List.getElem?_take, List.getElem?_map]
  by_cases hi : i < n
  · rw [if_pos hi, List.getElem?_range hi]
    simp only [Option.map_some, List.getD_eq_getElem?_getD]
    rw [List.getElem?_eq_getElem (by omega)]
    rfl
  · rw [if_neg hi, List.getElem?_eq_none (by simpa using hi)]
    rfl
theorem chT_ok {hp : List x_E} (h : chT hp = true) : ∃ (e : Nat → x_E) (g : Nat → Int32) (q : Nat → Int64) (c : Nat → Nat → Int32) (l : Nat → Nat → Int64), hp = rH e g q c l ∧ tI 3 12 1 3 g c := by
  unfold chT at h
  simp only [Bool.and_eq_true] at h
  obtain ⟨⟨⟨⟨h1, h2⟩, h3⟩, h4⟩, h5⟩ := h
  have hlen := Nat.eq_of_beq_eq_true h1
  have hsh := sEqs_eq h3
  have hd : hp.drop 49 = xmks kSh (xctI (hp.drop 49)) (xctL (hp.drop 49)) 0 := by
    rw [← hsh]
    exact (xmks_eq _ _ (hp.drop 49) 0 h2 (fun j _ => by rw [Nat.zero_add]; exact ⟨rfl, rfl⟩)).symm
  refine ⟨fun i => hp.getD i (.inl (0, 0, .inl fun _ => 0)), kg, kq, fun a => xctI (hp.drop 49) (a - 49), fun a => xctL (hp.drop 49) (a - 49), ?_, ?_⟩
  · rw [rH_kS, ← hd, ← take_map hp 49 _ (by omega), List.take_append_drop]
  · have g55 : (hp.drop 49)[6]? = hp[55]? := by rw [List.getElem?_drop]
    have g56 : (hp.drop 49)[7]? = hp[56]? := by rw [List.getElem?_drop]
    split at h4
    · rename_i f e55
      simp only [Bool.and_eq_true] at h4
      obtain ⟨⟨a1, a2⟩, a3⟩ := h4
      split at h5
      · rename_i f6 e56
        have c55 : xctI (hp.drop 49) 6 = f := by unfold xctI; rw [g55, e55]; rfl
        have c56 : xctI (hp.drop 49) 7 = f6 := by unfold xctI; rw [g56, e56]; rfl
        refine ⟨by decide +kernel, by decide +kernel, by decide +kernel, ?_, Or.inl ?_, fun i h1 h2 => ?_, fun i h1 h2 => ?_⟩
        · show xctI (hp.drop 49) 7 3 = nI 12
          rw [c56]
          exact i32_of (by decide) h5
        · show xctI (hp.drop 49) 6 12 = 11
          rw [c55]
          exact i32_of (by decide) a1
        · show xctI (hp.drop 49) 6 i = 18
          have ei : i = 13 := by omega
          rw [c55, ei]
          exact i32_of (by decide) a2
        · show xctI (hp.drop 49) 6 i = 0
          rw [c55]
          exact zer_ok a3 i (by omega) (by omega)
      · cases h5
    · cases h4
def kT : List xFr := (381, 74, [(2, .int 1), (1, .int 42), (0, .ref 49)], [.int 3]) :: kR
/-- a counted run of program that ends in such a state: so program dies -/
theorem kst_die {b : Bool} {f : Nat} {hp hpT : List x_E} (h : kst b 981 kT f [] 1000 317 0 (lv_args 0 [.ref 49, .int 47]) [] hp 0 0 = some (none, hpT)) (hc : chT hpT = true) : pD b [] 1000 317 0 (lv_args 0 [.ref 49, .int 47]) [] hp := by
  obtain ⟨e, g, q, c, l, rfl, hI⟩ := chT_ok hc
  exact kst_pD (pd_all hI) f [] 1000 317 0 _ _ hp 0 0 h
