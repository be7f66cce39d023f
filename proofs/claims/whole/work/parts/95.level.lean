/-! From the state behind the innermost e on: five methods of # return, the sixth dies. -/
section LV
variable {b : Bool} {d : Nat} {e : Nat → x_E} {g : Nat → Int32} {q : Nat → Int64} {c : Nat → Nat → Int32} {l : Nat → Nat → Int64}
set_option maxRecDepth 100000 in
theorem lvl {K s m w : Nat} {x y z : Int32} {rest : List xFr} (hI : tI K s m w g c) (hm : 1 ≤ m) (hb : s + 9 * m + 2 ≤ 66000) (hK : K + 2 < 1300) (hw : w < 4000) (next : ∀ (g' : Nat → Int32) (c' : Nat → Nat → Int32), tI (K + 1) (s + 1 + m) (8 * m) (w + 1) g' c' → pD b rest (d + 4) 381 74 [(2, .int 1), (1, .int y), (0, .ref 49)] [.int (nI (K + 1))] (rH e g' q c' l)) : pD b ((376, 104, [(1, .int z), (0, .ref 49)], []) :: (381, 71, [(2, .int 1), (1, .int y), (0, .ref 49)], []) :: rest) (d + 2) 381 74 [(2, .int 1), (1, .int x), (0, .ref 49)] [.int (nI K)] (rH e g q c l) := by
  obtain ⟨g', c', ⟨f, h⟩, hI'⟩ := tail_ok (b := b) (d := d) (e := e) (q := q) (l := l) (x1 := x) hI hm hb hK hw
  have h2 := nrun_ext f f _ _ _ 381 74 [(0, .ref 49), (1, .int x), (2, .int 1)] [(2, .int 1), (1, .int x), (0, .ref 49)] [.int (nI K)] _ 0 0 122 (Nat.le_refl _) (Nat.le_refl _) (Nat.le_of_ble_eq_true rfl) (lvR_mk [0, 1, 2] [2, 1, 0] rfl rfl (by decide) (by decide) (List.forall_mem_cons.mpr ⟨List.mem_cons_of_mem _ (List.mem_cons_of_mem _ List.mem_cons_self), List.forall_mem_cons.mpr ⟨List.mem_cons_of_mem _ List.mem_cons_self, List.forall_mem_cons.mpr ⟨List.mem_cons_self, fun _ h => nomatch h⟩⟩⟩) (List.forall_mem_cons.mpr ⟨Or.inl (List.mem_cons_of_mem _ (List.mem_cons_of_mem _ List.mem_cons_self)), List.forall_mem_cons.mpr ⟨Or.inl (List.mem_cons_of_mem _ List.mem_cons_self), List.forall_mem_cons.mpr ⟨Or.inl List.mem_cons_self, fun _ h => nomatch h⟩⟩⟩)) h
  refine pD_ret h2 (Nat.le_of_ble_eq_true rfl) ?_
  obtain ⟨y0, cb, hj⟩ := mq_376
  refine pD_ret (f := 1) (rv := some (.int (nI (K + 1)))) (n_ret rfl hj rfl rfl (x_ret rfl)) (Nat.le_refl _) ?_
  exact next g' c' hI'
end LV
def kR : List xFr := [(376, 104, [(1, .int 42), (0, .ref 49)], []),
  (381, 71, [(2, .int 1), (1, .int 40), (0, .ref 49)], []),
  (376, 104, [(1, .int 40), (0, .ref 49)], []),
  (381, 71, [(2, .int 1), (1, .int 38), (0, .ref 49)], []),
  (376, 104, [(1, .int 38), (0, .ref 49)], []),
  (381, 71, [(2, .int 1), (1, .int 36), (0, .ref 49)], []),
  (376, 104, [(1, .int 36), (0, .ref 49)], []),
  (381, 71, [(2, .int 1), (1, .int 34), (0, .ref 49)], []),
  (376, 104, [(1, .int 34), (0, .ref 49)], []),
  (381, 71, [(2, .int 1), (1, .int 32), (0, .ref 49)], []),
  (376, 104, [(1, .int 32), (0, .ref 49)], []),
  (375, 6, [(1, .int 32), (0, .ref 49)], []),
  (374, 6, [(1, .int 32), (0, .ref 49)], []),
  (373, 6, [(1, .int 32), (0, .ref 49)], []),
  (336, 62, [(0, .ref 49)], []),
  (339, 59, [(6, .int 0), (5, .int 1), (4, .int 0), (2, .long (8646911284551352320)), (1, .int 0), (0, .ref 49)], []),
  (336, 18, [(0, .ref 49)], []),
  (320, 99, [(0, .ref 49)], [.ref 49]),
  (317, 40, [(0, .ref 49), (1, .int 47)], [])]
theorem pd_all {b : Bool} {e : Nat → x_E} {g : Nat → Int32} {q : Nat → Int64} {c : Nat → Nat → Int32} {l : Nat → Nat → Int64} (hI : tI 3 12 1 3 g c) : pD b kR 981 381 74 [(2, .int 1), (1, .int 42), (0, .ref 49)] [.int 3] (rH e g q c l) := by
  show pD b kR 981 381 74 [(2, .int 1), (1, .int 42), (0, .ref 49)] [.int (nI 3)] (rH e g q c l)
  unfold kR
  refine lvl (d := 979) (K := 3) (s := 12) (m := 1) (w := 3) hI (by decide) (by decide) (by decide) (by decide) (fun g1 c1 h1 => ?_)
  refine lvl (d := 981) (K := 4) (s := 14) (m := 8) (w := 4) h1 (by decide) (by decide) (by decide) (by decide) (fun g2 c2 h2 => ?_)
  refine lvl (d := 983) (K := 5) (s := 23) (m := 64) (w := 5) h2 (by decide) (by decide) (by decide) (by decide) (fun g3 c3 h3 => ?_)
  refine lvl (d := 985) (K := 6) (s := 88) (m := 512) (w := 6) h3 (by decide) (by decide) (by decide) (by decide) (fun g4 c4 h4 => ?_)
  refine lvl (d := 987) (K := 7) (s := 601) (m := 4096) (w := 7) h4 (by decide) (by decide) (by decide) (by decide) (fun g5 c5 h5 => ?_)
  obtain ⟨f, h⟩ := fld_die (b := b) (d := 989) (e := e) (q := q) (l := l) (K := 8) (s := 4698) (m := 32768) (w := 8) (x1 := 32) h5 (by decide) (by decide) (by decide) (by decide) (by decide)
  exact pD_dn h
