set_option maxRecDepth 100000 in
set_option maxHeartbeats 4000000 in
theorem bk_454_31 {b : Bool} {d : Nat} {x1 x2 x3 x4 x5 x6 : Int32} {e : Nat → x_E} {g : Nat → Int32} {q : Nat → Int64} {c : Nat → Nat → Int32} {l : Nat → Nat → Int64} {R : Option Value × List x_E} (h : rr b e d 454 56 [(0, .ref 49), (1, .int x1), (2, .int x2), (3, .int x3), (4, .int x4), (5, .int x5), (6, .int x6)] [] g q c l R) : rr b e d 454 31 [(0, .ref 49), (1, .int x1), (2, .int x2), (3, .int x3), (4, .int x4), (5, .int x5), (6, .int x6)] [] g q c l R := by
  obtain ⟨f, h⟩ := h
  refine ⟨f + 1, ?_⟩
  obtain ⟨y, cb, hj⟩ := mq_454
  rw [n_step (st' := []) (pc' := 56) (lv' := [(0, .ref 49), (1, .int x1), (2, .int x2), (3, .int x3), (4, .int x4), (5, .int x5), (6, .int x6)]) (hp' := rH e g q c l) (i := .goto 25) (len := 3) rfl hj rfl rfl rfl]
  exact h
set_option maxRecDepth 100000 in
set_option maxHeartbeats 4000000 in
theorem bk_454_34 {b : Bool} {d : Nat} {x1 x2 x3 x4 x5 x6 : Int32} {e : Nat → x_E} {g : Nat → Int32} {q : Nat → Int64} {c : Nat → Nat → Int32} {l : Nat → Nat → Int64} {R : Option Value × List x_E} (hz0 : ¬ (x5 < 0 ∨ 21000 ≤ (x5).toNatClampNeg)) (hz1 : ¬ ((x1 + x6) < 0 ∨ 435200 ≤ ((x1 + x6)).toNatClampNeg)) (h : rr b e d 454 56 [(0, .ref 49), (1, .int x1), (2, .int x2), (3, .int x3), (4, .int x4), (5, .int (x5 + (Int32.ofInt (1)))), (6, .int x6)] [] g q (updA c 78 (upd (c 78) ((x1 + x6)).toNatClampNeg ((c 77 (x5).toNatClampNeg)))) l R) : rr b e d 454 34 [(0, .ref 49), (1, .int x1), (2, .int x2), (3, .int x3), (4, .int x4), (5, .int x5), (6, .int x6)] [] g q c l R := by
  obtain ⟨f, h⟩ := h
  refine ⟨f + 14, ?_⟩
  obtain ⟨y, cb, hj⟩ := mq_454
  rw [n_step (st' := [.ref 49]) (pc' := 35) (lv' := [(0, .ref 49), (1, .int x1), (2, .int x2), (3, .int x3), (4, .int x4), (5, .int x5), (6, .int x6)]) (hp' := rH e g q c l) (i := .aload_n 0) (len := 1) rfl hj rfl rfl rfl]
  rw [n_get (st' := [.ref 78]) (pc' := 38) (lv' := [(0, .ref 49), (1, .int x1), (2, .int x2), (3, .int x3), (4, .int x4), (5, .int x5), (6, .int x6)]) (hp' := rH e g q c l) (i := .getfield 103) (len := 3) rfl hj rfl rfl rfl rfl]
  rw [n_step (st' := [.int x1, .ref 78]) (pc' := 39) (lv' := [(0, .ref 49), (1, .int x1), (2, .int x2), (3, .int x3), (4, .int x4), (5, .int x5), (6, .int x6)]) (hp' := rH e g q c l) (i := .iload_n 1) (len := 1) rfl hj rfl rfl rfl]
  rw [n_step (st' := [.int x6, .int x1, .ref 78]) (pc' := 41) (lv' := [(0, .ref 49), (1, .int x1), (2, .int x2), (3, .int x3), (4, .int x4), (5, .int x5), (6, .int x6)]) (hp' := rH e g q c l) (i := .iload 6) (len := 2) rfl hj rfl rfl rfl]
  rw [n_step (st' := [.int (x1 + x6), .ref 78]) (pc' := 42) (lv' := [(0, .ref 49), (1, .int x1), (2, .int x2), (3, .int x3), (4, .int x4), (5, .int x5), (6, .int x6)]) (hp' := rH e g q c l) (i := .iadd) (len := 1) rfl hj rfl rfl rfl]
  rw [n_step (st' := [.ref 49, .int (x1 + x6), .ref 78]) (pc' := 43) (lv' := [(0, .ref 49), (1, .int x1), (2, .int x2), (3, .int x3), (4, .int x4), (5, .int x5), (6, .int x6)]) (hp' := rH e g q c l) (i := .aload_n 0) (len := 1) rfl hj rfl rfl rfl]
  rw [n_get (st' := [.ref 77, .int (x1 + x6), .ref 78]) (pc' := 46) (lv' := [(0, .ref 49), (1, .int x1), (2, .int x2), (3, .int x3), (4, .int x4), (5, .int x5), (6, .int x6)]) (hp' := rH e g q c l) (i := .getfield 99) (len := 3) rfl hj rfl rfl rfl rfl]
  rw [n_step (st' := [.int x5, .ref 77, .int (x1 + x6), .ref 78]) (pc' := 48) (lv' := [(0, .ref 49), (1, .int x1), (2, .int x2), (3, .int x3), (4, .int x4), (5, .int x5), (6, .int x6)]) (hp' := rH e g q c l) (i := .iload 5) (len := 2) rfl hj rfl rfl rfl]
  rw [n_ial (st' := [.int (c 77 (x5).toNatClampNeg), .int (x1 + x6), .ref 78]) rfl hj (ald_77 hz0)]
  rw [n_ias (st' := []) (hp' := rH e g q (updA c 78 (upd (c 78) ((x1 + x6)).toNatClampNeg ((c 77 (x5).toNatClampNeg)))) l) rfl hj (ast_78 hz1)]
  rw [n_step (st' := [.int x5]) (pc' := 52) (lv' := [(0, .ref 49), (1, .int x1), (2, .int x2), (3, .int x3), (4, .int x4), (5, .int x5), (6, .int x6)]) (hp' := rH e g q (updA c 78 (upd (c 78) ((x1 + x6)).toNatClampNeg ((c 77 (x5).toNatClampNeg)))) l) (i := .iload 5) (len := 2) rfl hj rfl rfl rfl]
  rw [n_step (st' := [.int (Int32.ofInt (1)), .int x5]) (pc' := 53) (lv' := [(0, .ref 49), (1, .int x1), (2, .int x2), (3, .int x3), (4, .int x4), (5, .int x5), (6, .int x6)]) (hp' := rH e g q (updA c 78 (upd (c 78) ((x1 + x6)).toNatClampNeg ((c 77 (x5).toNatClampNeg)))) l) (i := .iconst 1) (len := 1) rfl hj rfl rfl rfl]
  rw [n_step (st' := [.int (x5 + (Int32.ofInt (1)))]) (pc' := 54) (lv' := [(0, .ref 49), (1, .int x1), (2, .int x2), (3, .int x3), (4, .int x4), (5, .int x5), (6, .int x6)]) (hp' := rH e g q (updA c 78 (upd (c 78) ((x1 + x6)).toNatClampNeg ((c 77 (x5).toNatClampNeg)))) l) (i := .iadd) (len := 1) rfl hj rfl rfl rfl]
  rw [n_step (st' := []) (pc' := 56) (lv' := [(5, .int (x5 + (Int32.ofInt (1)))), (0, .ref 49), (1, .int x1), (2, .int x2), (3, .int x3), (4, .int x4), (6, .int x6)]) (hp' := rH e g q (updA c 78 (upd (c 78) ((x1 + x6)).toNatClampNeg ((c 77 (x5).toNatClampNeg)))) l) (i := .istore 5) (len := 2) rfl hj rfl rfl rfl]
  exact nrun_ext f f _ _ R 454 56 [(0, .ref 49), (1, .int x1), (2, .int x2), (3, .int x3), (4, .int x4), (5, .int (x5 + (Int32.ofInt (1)))), (6, .int x6)] [(5, .int (x5 + (Int32.ofInt (1)))), (0, .ref 49), (1, .int x1), (2, .int x2), (3, .int x3), (4, .int x4), (6, .int x6)] [] _ 0 0 122 (Nat.le_refl _) (Nat.le_refl _) (Nat.le_of_ble_eq_true rfl) (lvR_mk [0, 1, 2, 3, 4, 5, 6] [5, 0, 1, 2, 3, 4, 6] rfl rfl (by decide) (by decide) (List.forall_mem_cons.mpr ⟨(List.mem_cons_of_mem _ List.mem_cons_self), (List.forall_mem_cons.mpr ⟨(List.mem_cons_of_mem _ (List.mem_cons_of_mem _ List.mem_cons_self)), (List.forall_mem_cons.mpr ⟨(List.mem_cons_of_mem _ (List.mem_cons_of_mem _ (List.mem_cons_of_mem _ List.mem_cons_self))), (List.forall_mem_cons.mpr ⟨(List.mem_cons_of_mem _ (List.mem_cons_of_mem _ (List.mem_cons_of_mem _ (List.mem_cons_of_mem _ List.mem_cons_self)))), (List.forall_mem_cons.mpr ⟨(List.mem_cons_of_mem _ (List.mem_cons_of_mem _ (List.mem_cons_of_mem _ (List.mem_cons_of_mem _ (List.mem_cons_of_mem _ List.mem_cons_self))))), (List.forall_mem_cons.mpr ⟨List.mem_cons_self, (List.forall_mem_cons.mpr ⟨(List.mem_cons_of_mem _ (List.mem_cons_of_mem _ (List.mem_cons_of_mem _ (List.mem_cons_of_mem _ (List.mem_cons_of_mem _ (List.mem_cons_of_mem _ List.mem_cons_self)))))), (fun _ h => nomatch h)⟩)⟩)⟩)⟩)⟩)⟩)⟩) (List.forall_mem_cons.mpr ⟨Or.inl (List.mem_cons_of_mem _ (List.mem_cons_of_mem _ (List.mem_cons_of_mem _ (List.mem_cons_of_mem _ (List.mem_cons_of_mem _ List.mem_cons_self))))), (List.forall_mem_cons.mpr ⟨Or.inl List.mem_cons_self, (List.forall_mem_cons.mpr ⟨Or.inl (List.mem_cons_of_mem _ List.mem_cons_self), (List.forall_mem_cons.mpr ⟨Or.inl (List.mem_cons_of_mem _ (List.mem_cons_of_mem _ List.mem_cons_self)), (List.forall_mem_cons.mpr ⟨Or.inl (List.mem_cons_of_mem _ (List.mem_cons_of_mem _ (List.mem_cons_of_mem _ List.mem_cons_self))), (List.forall_mem_cons.mpr ⟨Or.inl (List.mem_cons_of_mem _ (List.mem_cons_of_mem _ (List.mem_cons_of_mem _ (List.mem_cons_of_mem _ List.mem_cons_self)))), (List.forall_mem_cons.mpr ⟨Or.inl (List.mem_cons_of_mem _ (List.mem_cons_of_mem _ (List.mem_cons_of_mem _ (List.mem_cons_of_mem _ (List.mem_cons_of_mem _ (List.mem_cons_of_mem _ List.mem_cons_self)))))), (fun _ h => nomatch h)⟩)⟩)⟩)⟩)⟩)⟩)⟩)) h
set_option maxRecDepth 100000 in
set_option maxHeartbeats 4000000 in
theorem bk_454_56 {b : Bool} {d : Nat} {x1 x2 x3 x4 x5 x6 : Int32} {e : Nat → x_E} {g : Nat → Int32} {q : Nat → Int64} {c : Nat → Nat → Int32} {l : Nat → Nat → Int64} {R : Option Value × List x_E} (h : rr b e d 454 8 [(0, .ref 49), (1, .int x1), (2, .int x2), (3, .int x3), (4, .int x4), (5, .int x5), (6, .int (x6 + Int32.ofInt (1)))] [] g q c l R) : rr b e d 454 56 [(0, .ref 49), (1, .int x1), (2, .int x2), (3, .int x3), (4, .int x4), (5, .int x5), (6, .int x6)] [] g q c l R := by
  obtain ⟨f, h⟩ := h
  refine ⟨f + 2, ?_⟩
  obtain ⟨y, cb, hj⟩ := mq_454
  rw [n_step (st' := []) (pc' := 59) (lv' := [(6, .int (x6 + Int32.ofInt (1))), (0, .ref 49), (1, .int x1), (2, .int x2), (3, .int x3), (4, .int x4), (5, .int x5)]) (hp' := rH e g q c l) (i := .iinc 6 1) (len := 3) rfl hj rfl rfl rfl]
  rw [n_step (st' := []) (pc' := 8) (lv' := [(6, .int (x6 + Int32.ofInt (1))), (0, .ref 49), (1, .int x1), (2, .int x2), (3, .int x3), (4, .int x4), (5, .int x5)]) (hp' := rH e g q c l) (i := .goto (-51)) (len := 3) rfl hj rfl rfl rfl]
  exact nrun_ext f f _ _ R 454 8 [(0, .ref 49), (1, .int x1), (2, .int x2), (3, .int x3), (4, .int x4), (5, .int x5), (6, .int (x6 + Int32.ofInt (1)))] [(6, .int (x6 + Int32.ofInt (1))), (0, .ref 49), (1, .int x1), (2, .int x2), (3, .int x3), (4, .int x4), (5, .int x5)] [] _ 0 0 122 (Nat.le_refl _) (Nat.le_refl _) (Nat.le_of_ble_eq_true rfl) (lvR_mk [0, 1, 2, 3, 4, 5, 6] [6, 0, 1, 2, 3, 4, 5] rfl rfl (by decide) (by decide) (List.forall_mem_cons.mpr ⟨(List.mem_cons_of_mem _ List.mem_cons_self), (List.forall_mem_cons.mpr ⟨(List.mem_cons_of_mem _ (List.mem_cons_of_mem _ List.mem_cons_self)), (List.forall_mem_cons.mpr ⟨(List.mem_cons_of_mem _ (List.mem_cons_of_mem _ (List.mem_cons_of_mem _ List.mem_cons_self))), (List.forall_mem_cons.mpr ⟨(List.mem_cons_of_mem _ (List.mem_cons_of_mem _ (List.mem_cons_of_mem _ (List.mem_cons_of_mem _ List.mem_cons_self)))), (List.forall_mem_cons.mpr ⟨(List.mem_cons_of_mem _ (List.mem_cons_of_mem _ (List.mem_cons_of_mem _ (List.mem_cons_of_mem _ (List.mem_cons_of_mem _ List.mem_cons_self))))), (List.forall_mem_cons.mpr ⟨(List.mem_cons_of_mem _ (List.mem_cons_of_mem _ (List.mem_cons_of_mem _ (List.mem_cons_of_mem _ (List.mem_cons_of_mem _ (List.mem_cons_of_mem _ List.mem_cons_self)))))), (List.forall_mem_cons.mpr ⟨List.mem_cons_self, (fun _ h => nomatch h)⟩)⟩)⟩)⟩)⟩)⟩)⟩) (List.forall_mem_cons.mpr ⟨Or.inl (List.mem_cons_of_mem _ (List.mem_cons_of_mem _ (List.mem_cons_of_mem _ (List.mem_cons_of_mem _ (List.mem_cons_of_mem _ (List.mem_cons_of_mem _ List.mem_cons_self)))))), (List.forall_mem_cons.mpr ⟨Or.inl List.mem_cons_self, (List.forall_mem_cons.mpr ⟨Or.inl (List.mem_cons_of_mem _ List.mem_cons_self), (List.forall_mem_cons.mpr ⟨Or.inl (List.mem_cons_of_mem _ (List.mem_cons_of_mem _ List.mem_cons_self)), (List.forall_mem_cons.mpr ⟨Or.inl (List.mem_cons_of_mem _ (List.mem_cons_of_mem _ (List.mem_cons_of_mem _ List.mem_cons_self))), (List.forall_mem_cons.mpr ⟨Or.inl (List.mem_cons_of_mem _ (List.mem_cons_of_mem _ (List.mem_cons_of_mem _ (List.mem_cons_of_mem _ List.mem_cons_self)))), (List.forall_mem_cons.mpr ⟨Or.inl (List.mem_cons_of_mem _ (List.mem_cons_of_mem _ (List.mem_cons_of_mem _ (List.mem_cons_of_mem _ (List.mem_cons_of_mem _ List.mem_cons_self))))), (fun _ h => nomatch h)⟩)⟩)⟩)⟩)⟩)⟩)⟩)) h
set_option maxRecDepth 100000 in
set_option maxHeartbeats 4000000 in
theorem bk_454_62 {b : Bool} {d : Nat} {x1 x2 x3 x4 : Int32} {e : Nat → x_E} {g : Nat → Int32} {q : Nat → Int64} {c : Nat → Nat → Int32} {l : Nat → Nat → Int64} {R : Option Value × List x_E} (hz0 : ¬ (x3 < 0 ∨ 900 ≤ (x3).toNatClampNeg)) (hz1 : ¬ (x3 < 0 ∨ 900 ≤ (x3).toNatClampNeg)) (h1 : xCn .ne ((c 67 (x3).toNatClampNeg)) ((Int32.ofInt (1))) = true → rr b e d 454 91 [(0, .ref 49), (1, .int x1), (2, .int x2), (3, .int x3), (4, .int x4), (6, .int (c 69 (x3).toNatClampNeg))] [] g q c l R) (h2 : ¬ xCn .ne ((c 67 (x3).toNatClampNeg)) ((Int32.ofInt (1))) = true → rr b e d 454 80 [(0, .ref 49), (1, .int x1), (2, .int x2), (3, .int x3), (4, .int x4), (6, .int (c 69 (x3).toNatClampNeg))] [] g q c l R) : rr b e d 454 62 [(0, .ref 49), (1, .int x1), (2, .int x2), (3, .int x3), (4, .int x4)] [] g q c l R := by
  have key : ∀ f, nrun xZ (xY (xfm b)) xDT (f + 11) d 454 62 [(0, .ref 49), (1, .int x1), (2, .int x2), (3, .int x3), (4, .int x4)] [] (rH e g q c l) 0 0 = nrun xZ (xY (xfm b)) xDT f d 454 (if xCn .ne ((c 67 (x3).toNatClampNeg)) ((Int32.ofInt (1))) = true then 91 else 80) [(6, .int (c 69 (x3).toNatClampNeg)), (0, .ref 49), (1, .int x1), (2, .int x2), (3, .int x3), (4, .int x4)] [] (rH e g q c l) 0 0 := by
    intro f
    obtain ⟨y, cb, hj⟩ := mq_454
    rw [n_step (st' := [.ref 49]) (pc' := 63) (lv' := [(0, .ref 49), (1, .int x1), (2, .int x2), (3, .int x3), (4, .int x4)]) (hp' := rH e g q c l) (i := .aload_n 0) (len := 1) rfl hj rfl rfl rfl]
    rw [n_get (st' := [.ref 69]) (pc' := 66) (lv' := [(0, .ref 49), (1, .int x1), (2, .int x2), (3, .int x3), (4, .int x4)]) (hp' := rH e g q c l) (i := .getfield 74) (len := 3) rfl hj rfl rfl rfl rfl]
    rw [n_step (st' := [.int x3, .ref 69]) (pc' := 67) (lv' := [(0, .ref 49), (1, .int x1), (2, .int x2), (3, .int x3), (4, .int x4)]) (hp' := rH e g q c l) (i := .iload_n 3) (len := 1) rfl hj rfl rfl rfl]
    rw [n_ial (st' := [.int (c 69 (x3).toNatClampNeg)]) rfl hj (ald_69 hz0)]
    rw [n_step (st' := []) (pc' := 70) (lv' := [(6, .int (c 69 (x3).toNatClampNeg)), (0, .ref 49), (1, .int x1), (2, .int x2), (3, .int x3), (4, .int x4)]) (hp' := rH e g q c l) (i := .istore 6) (len := 2) rfl hj rfl rfl rfl]
    rw [n_step (st' := [.ref 49]) (pc' := 71) (lv' := [(6, .int (c 69 (x3).toNatClampNeg)), (0, .ref 49), (1, .int x1), (2, .int x2), (3, .int x3), (4, .int x4)]) (hp' := rH e g q c l) (i := .aload_n 0) (len := 1) rfl hj rfl rfl rfl]
    rw [n_get (st' := [.ref 67]) (pc' := 74) (lv' := [(6, .int (c 69 (x3).toNatClampNeg)), (0, .ref 49), (1, .int x1), (2, .int x2), (3, .int x3), (4, .int x4)]) (hp' := rH e g q c l) (i := .getfield 68) (len := 3) rfl hj rfl rfl rfl rfl]
    rw [n_step (st' := [.int x3, .ref 67]) (pc' := 75) (lv' := [(6, .int (c 69 (x3).toNatClampNeg)), (0, .ref 49), (1, .int x1), (2, .int x2), (3, .int x3), (4, .int x4)]) (hp' := rH e g q c l) (i := .iload_n 3) (len := 1) rfl hj rfl rfl rfl]
    rw [n_ial (st' := [.int (c 67 (x3).toNatClampNeg)]) rfl hj (ald_67 hz1)]
    rw [n_step (st' := [.int (Int32.ofInt (1)), .int (c 67 (x3).toNatClampNeg)]) (pc' := 77) (lv' := [(6, .int (c 69 (x3).toNatClampNeg)), (0, .ref 49), (1, .int x1), (2, .int x2), (3, .int x3), (4, .int x4)]) (hp' := rH e g q c l) (i := .iconst 1) (len := 1) rfl hj rfl rfl rfl]
    rw [n_step (st' := []) (pc' := (if xCn .ne ((c 67 (x3).toNatClampNeg)) ((Int32.ofInt (1))) = true then 91 else 80)) (lv' := [(6, .int (c 69 (x3).toNatClampNeg)), (0, .ref 49), (1, .int x1), (2, .int x2), (3, .int x3), (4, .int x4)]) (hp' := rH e g q c l) (i := .if_icmp .ne 14) (len := 3) rfl hj rfl rfl rfl]
  by_cases hc : xCn .ne ((c 67 (x3).toNatClampNeg)) ((Int32.ofInt (1))) = true
  · obtain ⟨f, h⟩ := h1 hc
    refine ⟨f + 11, ?_⟩
    rw [key, if_pos hc]
    exact nrun_ext f f _ _ R 454 91 [(0, .ref 49), (1, .int x1), (2, .int x2), (3, .int x3), (4, .int x4), (6, .int (c 69 (x3).toNatClampNeg))] [(6, .int (c 69 (x3).toNatClampNeg)), (0, .ref 49), (1, .int x1), (2, .int x2), (3, .int x3), (4, .int x4)] [] _ 0 0 122 (Nat.le_refl _) (Nat.le_refl _) (Nat.le_of_ble_eq_true rfl) (lvR_mk [0, 1, 2, 3, 4, 6] [6, 0, 1, 2, 3, 4] rfl rfl (by decide) (by decide) (List.forall_mem_cons.mpr ⟨(List.mem_cons_of_mem _ List.mem_cons_self), (List.forall_mem_cons.mpr ⟨(List.mem_cons_of_mem _ (List.mem_cons_of_mem _ List.mem_cons_self)), (List.forall_mem_cons.mpr ⟨(List.mem_cons_of_mem _ (List.mem_cons_of_mem _ (List.mem_cons_of_mem _ List.mem_cons_self))), (List.forall_mem_cons.mpr ⟨(List.mem_cons_of_mem _ (List.mem_cons_of_mem _ (List.mem_cons_of_mem _ (List.mem_cons_of_mem _ List.mem_cons_self)))), (List.forall_mem_cons.mpr ⟨(List.mem_cons_of_mem _ (List.mem_cons_of_mem _ (List.mem_cons_of_mem _ (List.mem_cons_of_mem _ (List.mem_cons_of_mem _ List.mem_cons_self))))), (List.forall_mem_cons.mpr ⟨List.mem_cons_self, (fun _ h => nomatch h)⟩)⟩)⟩)⟩)⟩)⟩) (List.forall_mem_cons.mpr ⟨Or.inl (List.mem_cons_of_mem _ (List.mem_cons_of_mem _ (List.mem_cons_of_mem _ (List.mem_cons_of_mem _ (List.mem_cons_of_mem _ List.mem_cons_self))))), (List.forall_mem_cons.mpr ⟨Or.inl List.mem_cons_self, (List.forall_mem_cons.mpr ⟨Or.inl (List.mem_cons_of_mem _ List.mem_cons_self), (List.forall_mem_cons.mpr ⟨Or.inl (List.mem_cons_of_mem _ (List.mem_cons_of_mem _ List.mem_cons_self)), (List.forall_mem_cons.mpr ⟨Or.inl (List.mem_cons_of_mem _ (List.mem_cons_of_mem _ (List.mem_cons_of_mem _ List.mem_cons_self))), (List.forall_mem_cons.mpr ⟨Or.inl (List.mem_cons_of_mem _ (List.mem_cons_of_mem _ (List.mem_cons_of_mem _ (List.mem_cons_of_mem _ List.mem_cons_self)))), (fun _ h => nomatch h)⟩)⟩)⟩)⟩)⟩)⟩)) h
  · obtain ⟨f, h⟩ := h2 hc
    refine ⟨f + 11, ?_⟩
    rw [key, if_neg hc]
    exact nrun_ext f f _ _ R 454 80 [(0, .ref 49), (1, .int x1), (2, .int x2), (3, .int x3), (4, .int x4), (6, .int (c 69 (x3).toNatClampNeg))] [(6, .int (c 69 (x3).toNatClampNeg)), (0, .ref 49), (1, .int x1), (2, .int x2), (3, .int x3), (4, .int x4)] [] _ 0 0 122 (Nat.le_refl _) (Nat.le_refl _) (Nat.le_of_ble_eq_true rfl) (lvR_mk [0, 1, 2, 3, 4, 6] [6, 0, 1, 2, 3, 4] rfl rfl (by decide) (by decide) (List.forall_mem_cons.mpr ⟨(List.mem_cons_of_mem _ List.mem_cons_self), (List.forall_mem_cons.mpr ⟨(List.mem_cons_of_mem _ (List.mem_cons_of_mem _ List.mem_cons_self)), (List.forall_mem_cons.mpr ⟨(List.mem_cons_of_mem _ (List.mem_cons_of_mem _ (List.mem_cons_of_mem _ List.mem_cons_self))), (List.forall_mem_cons.mpr ⟨(List.mem_cons_of_mem _ (List.mem_cons_of_mem _ (List.mem_cons_of_mem _ (List.mem_cons_of_mem _ List.mem_cons_self)))), (List.forall_mem_cons.mpr ⟨(List.mem_cons_of_mem _ (List.mem_cons_of_mem _ (List.mem_cons_of_mem _ (List.mem_cons_of_mem _ (List.mem_cons_of_mem _ List.mem_cons_self))))), (List.forall_mem_cons.mpr ⟨List.mem_cons_self, (fun _ h => nomatch h)⟩)⟩)⟩)⟩)⟩)⟩) (List.forall_mem_cons.mpr ⟨Or.inl (List.mem_cons_of_mem _ (List.mem_cons_of_mem _ (List.mem_cons_of_mem _ (List.mem_cons_of_mem _ (List.mem_cons_of_mem _ List.mem_cons_self))))), (List.forall_mem_cons.mpr ⟨Or.inl List.mem_cons_self, (List.forall_mem_cons.mpr ⟨Or.inl (List.mem_cons_of_mem _ List.mem_cons_self), (List.forall_mem_cons.mpr ⟨Or.inl (List.mem_cons_of_mem _ (List.mem_cons_of_mem _ List.mem_cons_self)), (List.forall_mem_cons.mpr ⟨Or.inl (List.mem_cons_of_mem _ (List.mem_cons_of_mem _ (List.mem_cons_of_mem _ List.mem_cons_self))), (List.forall_mem_cons.mpr ⟨Or.inl (List.mem_cons_of_mem _ (List.mem_cons_of_mem _ (List.mem_cons_of_mem _ (List.mem_cons_of_mem _ List.mem_cons_self)))), (fun _ h => nomatch h)⟩)⟩)⟩)⟩)⟩)⟩)) h
set_option maxRecDepth 100000 in
set_option maxHeartbeats 4000000 in
theorem bk_454_80 {b : Bool} {d : Nat} {x1 x2 x3 x4 x6 : Int32} {e : Nat → x_E} {g : Nat → Int32} {q : Nat → Int64} {c : Nat → Nat → Int32} {l : Nat → Nat → Int64} {R : Option Value × List x_E} (hz0 : ¬ ((x1 + x6) < 0 ∨ 435200 ≤ ((x1 + x6)).toNatClampNeg)) (h : rr b e d 454 91 [(0, .ref 49), (1, .int x1), (2, .int x2), (3, .int x3), (4, .int x4), (6, .int x6)] [] g q (updA c 78 (upd (c 78) ((x1 + x6)).toNatClampNeg x4)) l R) : rr b e d 454 80 [(0, .ref 49), (1, .int x1), (2, .int x2), (3, .int x3), (4, .int x4), (6, .int x6)] [] g q c l R := by
  obtain ⟨f, h⟩ := h
  refine ⟨f + 7, ?_⟩
  obtain ⟨y, cb, hj⟩ := mq_454
  rw [n_step (st' := [.ref 49]) (pc' := 81) (lv' := [(0, .ref 49), (1, .int x1), (2, .int x2), (3, .int x3), (4, .int x4), (6, .int x6)]) (hp' := rH e g q c l) (i := .aload_n 0) (len := 1) rfl hj rfl rfl rfl]
  rw [n_get (st' := [.ref 78]) (pc' := 84) (lv' := [(0, .ref 49), (1, .int x1), (2, .int x2), (3, .int x3), (4, .int x4), (6, .int x6)]) (hp' := rH e g q c l) (i := .getfield 103) (len := 3) rfl hj rfl rfl rfl rfl]
  rw [n_step (st' := [.int x1, .ref 78]) (pc' := 85) (lv' := [(0, .ref 49), (1, .int x1), (2, .int x2), (3, .int x3), (4, .int x4), (6, .int x6)]) (hp' := rH e g q c l) (i := .iload_n 1) (len := 1) rfl hj rfl rfl rfl]
  rw [n_step (st' := [.int x6, .int x1, .ref 78]) (pc' := 87) (lv' := [(0, .ref 49), (1, .int x1), (2, .int x2), (3, .int x3), (4, .int x4), (6, .int x6)]) (hp' := rH e g q c l) (i := .iload 6) (len := 2) rfl hj rfl rfl rfl]
  rw [n_step (st' := [.int (x1 + x6), .ref 78]) (pc' := 88) (lv' := [(0, .ref 49), (1, .int x1), (2, .int x2), (3, .int x3), (4, .int x4), (6, .int x6)]) (hp' := rH e g q c l) (i := .iadd) (len := 1) rfl hj rfl rfl rfl]
  rw [n_step (st' := [.int x4, .int (x1 + x6), .ref 78]) (pc' := 90) (lv' := [(0, .ref 49), (1, .int x1), (2, .int x2), (3, .int x3), (4, .int x4), (6, .int x6)]) (hp' := rH e g q c l) (i := .iload 4) (len := 2) rfl hj rfl rfl rfl]
  rw [n_ias (st' := []) (hp' := rH e g q (updA c 78 (upd (c 78) ((x1 + x6)).toNatClampNeg x4)) l) rfl hj (ast_78 hz0)]
  exact h
set_option maxRecDepth 100000 in
set_option maxHeartbeats 4000000 in
theorem bk_454_91 {b : Bool} {d : Nat} {x1 x2 x3 x4 x6 : Int32} {e : Nat → x_E} {g : Nat → Int32} {q : Nat → Int64} {c : Nat → Nat → Int32} {l : Nat → Nat → Int64} {R : Option Value × List x_E} (hz0 : ¬ (x3 < 0 ∨ 900 ≤ (x3).toNatClampNeg)) (h1 : xCn .ne ((c 67 (x3).toNatClampNeg)) ((Int32.ofInt (2))) = true → rr b e d 454 124 [(0, .ref 49), (3, .int x3)] [] g q c l R) (h2 : ¬ xCn .ne ((c 67 (x3).toNatClampNeg)) ((Int32.ofInt (2))) = true → rr b e d 454 101 [(0, .ref 49), (1, .int x1), (2, .int x2), (3, .int x3), (4, .int x4), (6, .int x6)] [] g q c l R) : rr b e d 454 91 [(0, .ref 49), (1, .int x1), (2, .int x2), (3, .int x3), (4, .int x4), (6, .int x6)] [] g q c l R := by
  have key : ∀ f, nrun xZ (xY (xfm b)) xDT (f + 6) d 454 91 [(0, .ref 49), (1, .int x1), (2, .int x2), (3, .int x3), (4, .int x4), (6, .int x6)] [] (rH e g q c l) 0 0 = nrun xZ (xY (xfm b)) xDT f d 454 (if xCn .ne ((c 67 (x3).toNatClampNeg)) ((Int32.ofInt (2))) = true then 124 else 101) [(0, .ref 49), (1, .int x1), (2, .int x2), (3, .int x3), (4, .int x4), (6, .int x6)] [] (rH e g q c l) 0 0 := by
    intro f
    obtain ⟨y, cb, hj⟩ := mq_454
    rw [n_step (st' := [.ref 49]) (pc' := 92) (lv' := [(0, .ref 49), (1, .int x1), (2, .int x2), (3, .int x3), (4, .int x4), (6, .int x6)]) (hp' := rH e g q c l) (i := .aload_n 0) (len := 1) rfl hj rfl rfl rfl]
    rw [n_get (st' := [.ref 67]) (pc' := 95) (lv' := [(0, .ref 49), (1, .int x1), (2, .int x2), (3, .int x3), (4, .int x4), (6, .int x6)]) (hp' := rH e g q c l) (i := .getfield 68) (len := 3) rfl hj rfl rfl rfl rfl]
    rw [n_step (st' := [.int x3, .ref 67]) (pc' := 96) (lv' := [(0, .ref 49), (1, .int x1), (2, .int x2), (3, .int x3), (4, .int x4), (6, .int x6)]) (hp' := rH e g q c l) (i := .iload_n 3) (len := 1) rfl hj rfl rfl rfl]
    rw [n_ial (st' := [.int (c 67 (x3).toNatClampNeg)]) rfl hj (ald_67 hz0)]
    rw [n_step (st' := [.int (Int32.ofInt (2)), .int (c 67 (x3).toNatClampNeg)]) (pc' := 98) (lv' := [(0, .ref 49), (1, .int x1), (2, .int x2), (3, .int x3), (4, .int x4), (6, .int x6)]) (hp' := rH e g q c l) (i := .iconst 2) (len := 1) rfl hj rfl rfl rfl]
    rw [n_step (st' := []) (pc' := (if xCn .ne ((c 67 (x3).toNatClampNeg)) ((Int32.ofInt (2))) = true then 124 else 101)) (lv' := [(0, .ref 49), (1, .int x1), (2, .int x2), (3, .int x3), (4, .int x4), (6, .int x6)]) (hp' := rH e g q c l) (i := .if_icmp .ne 26) (len := 3) rfl hj rfl rfl rfl]
  by_cases hc : xCn .ne ((c 67 (x3).toNatClampNeg)) ((Int32.ofInt (2))) = true
  · obtain ⟨f, h⟩ := h1 hc
    refine ⟨f + 6, ?_⟩
    rw [key, if_pos hc]
    exact nrun_ext f f _ _ R 454 124 [(0, .ref 49), (3, .int x3)] [(0, .ref 49), (1, .int x1), (2, .int x2), (3, .int x3), (4, .int x4), (6, .int x6)] [] _ 0 0 122 (Nat.le_refl _) (Nat.le_refl _) (Nat.le_of_ble_eq_true rfl) (lvR_mk [0, 3] [0, 1, 2, 3, 4, 6] rfl rfl (by decide) (by decide) (List.forall_mem_cons.mpr ⟨List.mem_cons_self, (List.forall_mem_cons.mpr ⟨(List.mem_cons_of_mem _ (List.mem_cons_of_mem _ (List.mem_cons_of_mem _ List.mem_cons_self))), (fun _ h => nomatch h)⟩)⟩) (List.forall_mem_cons.mpr ⟨Or.inl List.mem_cons_self, (List.forall_mem_cons.mpr ⟨Or.inr rfl, (List.forall_mem_cons.mpr ⟨Or.inr rfl, (List.forall_mem_cons.mpr ⟨Or.inl (List.mem_cons_of_mem _ List.mem_cons_self), (List.forall_mem_cons.mpr ⟨Or.inr rfl, (List.forall_mem_cons.mpr ⟨Or.inr rfl, (fun _ h => nomatch h)⟩)⟩)⟩)⟩)⟩)⟩)) h
  · obtain ⟨f, h⟩ := h2 hc
    refine ⟨f + 6, ?_⟩
    rw [key, if_neg hc]
    exact h
set_option maxRecDepth 100000 in
set_option maxHeartbeats 4000000 in
theorem bk_454_101 {b : Bool} {d : Nat} {x1 x2 x3 x4 x6 : Int32} {e : Nat → x_E} {g : Nat → Int32} {q : Nat → Int64} {c : Nat → Nat → Int32} {l : Nat → Nat → Int64} {R : Option Value × List x_E} (hz0 : ¬ ((x1 + x6) < 0 ∨ 435200 ≤ ((x1 + x6)).toNatClampNeg)) (hz1 : ¬ (((x1 + x6) + (Int32.ofInt (1))) < 0 ∨ 435200 ≤ (((x1 + x6) + (Int32.ofInt (1)))).toNatClampNeg)) (h : rr b e d 454 124 [(0, .ref 49), (3, .int x3)] [] g q (updA (updA c 78 (upd (c 78) ((x1 + x6)).toNatClampNeg x2)) 78 (upd ((updA c 78 (upd (c 78) ((x1 + x6)).toNatClampNeg x2)) 78) (((x1 + x6) + (Int32.ofInt (1)))).toNatClampNeg x4)) l R) : rr b e d 454 101 [(0, .ref 49), (1, .int x1), (2, .int x2), (3, .int x3), (4, .int x4), (6, .int x6)] [] g q c l R := by
  obtain ⟨f, h⟩ := h
  refine ⟨f + 16, ?_⟩
  obtain ⟨y, cb, hj⟩ := mq_454
  rw [n_step (st' := [.ref 49]) (pc' := 102) (lv' := [(0, .ref 49), (1, .int x1), (2, .int x2), (3, .int x3), (4, .int x4), (6, .int x6)]) (hp' := rH e g q c l) (i := .aload_n 0) (len := 1) rfl hj rfl rfl rfl]
  rw [n_get (st' := [.ref 78]) (pc' := 105) (lv' := [(0, .ref 49), (1, .int x1), (2, .int x2), (3, .int x3), (4, .int x4), (6, .int x6)]) (hp' := rH e g q c l) (i := .getfield 103) (len := 3) rfl hj rfl rfl rfl rfl]
  rw [n_step (st' := [.int x1, .ref 78]) (pc' := 106) (lv' := [(0, .ref 49), (1, .int x1), (2, .int x2), (3, .int x3), (4, .int x4), (6, .int x6)]) (hp' := rH e g q c l) (i := .iload_n 1) (len := 1) rfl hj rfl rfl rfl]
  rw [n_step (st' := [.int x6, .int x1, .ref 78]) (pc' := 108) (lv' := [(0, .ref 49), (1, .int x1), (2, .int x2), (3, .int x3), (4, .int x4), (6, .int x6)]) (hp' := rH e g q c l) (i := .iload 6) (len := 2) rfl hj rfl rfl rfl]
  rw [n_step (st' := [.int (x1 + x6), .ref 78]) (pc' := 109) (lv' := [(0, .ref 49), (1, .int x1), (2, .int x2), (3, .int x3), (4, .int x4), (6, .int x6)]) (hp' := rH e g q c l) (i := .iadd) (len := 1) rfl hj rfl rfl rfl]
  rw [n_step (st' := [.int x2, .int (x1 + x6), .ref 78]) (pc' := 110) (lv' := [(0, .ref 49), (1, .int x1), (2, .int x2), (3, .int x3), (4, .int x4), (6, .int x6)]) (hp' := rH e g q c l) (i := .iload_n 2) (len := 1) rfl hj rfl rfl rfl]
  rw [n_ias (st' := []) (hp' := rH e g q (updA c 78 (upd (c 78) ((x1 + x6)).toNatClampNeg x2)) l) rfl hj (ast_78 hz0)]
  rw [n_step (st' := [.ref 49]) (pc' := 112) (lv' := [(0, .ref 49), (1, .int x1), (2, .int x2), (3, .int x3), (4, .int x4), (6, .int x6)]) (hp' := rH e g q (updA c 78 (upd (c 78) ((x1 + x6)).toNatClampNeg x2)) l) (i := .aload_n 0) (len := 1) rfl hj rfl rfl rfl]
  rw [n_get (st' := [.ref 78]) (pc' := 115) (lv' := [(0, .ref 49), (1, .int x1), (2, .int x2), (3, .int x3), (4, .int x4), (6, .int x6)]) (hp' := rH e g q (updA c 78 (upd (c 78) ((x1 + x6)).toNatClampNeg x2)) l) (i := .getfield 103) (len := 3) rfl hj rfl rfl rfl rfl]
  rw [n_step (st' := [.int x1, .ref 78]) (pc' := 116) (lv' := [(0, .ref 49), (1, .int x1), (2, .int x2), (3, .int x3), (4, .int x4), (6, .int x6)]) (hp' := rH e g q (updA c 78 (upd (c 78) ((x1 + x6)).toNatClampNeg x2)) l) (i := .iload_n 1) (len := 1) rfl hj rfl rfl rfl]
  rw [n_step (st' := [.int x6, .int x1, .ref 78]) (pc' := 118) (lv' := [(0, .ref 49), (1, .int x1), (2, .int x2), (3, .int x3), (4, .int x4), (6, .int x6)]) (hp' := rH e g q (updA c 78 (upd (c 78) ((x1 + x6)).toNatClampNeg x2)) l) (i := .iload 6) (len := 2) rfl hj rfl rfl rfl]
  rw [n_step (st' := [.int (x1 + x6), .ref 78]) (pc' := 119) (lv' := [(0, .ref 49), (1, .int x1), (2, .int x2), (3, .int x3), (4, .int x4), (6, .int x6)]) (hp' := rH e g q (updA c 78 (upd (c 78) ((x1 + x6)).toNatClampNeg x2)) l) (i := .iadd) (len := 1) rfl hj rfl rfl rfl]
  rw [n_step (st' := [.int (Int32.ofInt (1)), .int (x1 + x6), .ref 78]) (pc' := 120) (lv' := [(0, .ref 49), (1, .int x1), (2, .int x2), (3, .int x3), (4, .int x4), (6, .int x6)]) (hp' := rH e g q (updA c 78 (upd (c 78) ((x1 + x6)).toNatClampNeg x2)) l) (i := .iconst 1) (len := 1) rfl hj rfl rfl rfl]
  rw [n_step (st' := [.int ((x1 + x6) + (Int32.ofInt (1))), .ref 78]) (pc' := 121) (lv' := [(0, .ref 49), (1, .int x1), (2, .int x2), (3, .int x3), (4, .int x4), (6, .int x6)]) (hp' := rH e g q (updA c 78 (upd (c 78) ((x1 + x6)).toNatClampNeg x2)) l) (i := .iadd) (len := 1) rfl hj rfl rfl rfl]
  rw [n_step (st' := [.int x4, .int ((x1 + x6) + (Int32.ofInt (1))), .ref 78]) (pc' := 123) (lv' := [(0, .ref 49), (1, .int x1), (2, .int x2), (3, .int x3), (4, .int x4), (6, .int x6)]) (hp' := rH e g q (updA c 78 (upd (c 78) ((x1 + x6)).toNatClampNeg x2)) l) (i := .iload 4) (len := 2) rfl hj rfl rfl rfl]
  rw [n_ias (st' := []) (hp' := rH e g q (updA (updA c 78 (upd (c 78) ((x1 + x6)).toNatClampNeg x2)) 78 (upd ((updA c 78 (upd (c 78) ((x1 + x6)).toNatClampNeg x2)) 78) (((x1 + x6) + (Int32.ofInt (1)))).toNatClampNeg x4)) l) rfl hj (ast_78 hz1)]
  exact nrun_ext f f _ _ R 454 124 [(0, .ref 49), (3, .int x3)] [(0, .ref 49), (1, .int x1), (2, .int x2), (3, .int x3), (4, .int x4), (6, .int x6)] [] _ 0 0 122 (Nat.le_refl _) (Nat.le_refl _) (Nat.le_of_ble_eq_true rfl) (lvR_mk [0, 3] [0, 1, 2, 3, 4, 6] rfl rfl (by decide) (by decide) (List.forall_mem_cons.mpr ⟨List.mem_cons_self, (List.forall_mem_cons.mpr ⟨(List.mem_cons_of_mem _ (List.mem_cons_of_mem _ (List.mem_cons_of_mem _ List.mem_cons_self))), (fun _ h => nomatch h)⟩)⟩) (List.forall_mem_cons.mpr ⟨Or.inl List.mem_cons_self, (List.forall_mem_cons.mpr ⟨Or.inr rfl, (List.forall_mem_cons.mpr ⟨Or.inr rfl, (List.forall_mem_cons.mpr ⟨Or.inl (List.mem_cons_of_mem _ List.mem_cons_self), (List.forall_mem_cons.mpr ⟨Or.inr rfl, (List.forall_mem_cons.mpr ⟨Or.inr rfl, (fun _ h => nomatch h)⟩)⟩)⟩)⟩)⟩)⟩)) h
set_option maxRecDepth 100000 in
set_option maxHeartbeats 4000000 in
theorem bk_454_124 {b : Bool} {d : Nat} {x3 : Int32} {e : Nat → x_E} {g : Nat → Int32} {q : Nat → Int64} {c : Nat → Nat → Int32} {l : Nat → Nat → Int64} (hz0 : ¬ (x3 < 0 ∨ 900 ≤ (x3).toNatClampNeg)) : rr b e d 454 124 [(0, .ref 49), (3, .int x3)] [] g q c l (none, rH e (upd g 77 ((c 68 (x3).toNatClampNeg))) q c l) := by
  refine ⟨0 + 7, ?_⟩
  obtain ⟨y, cb, hj⟩ := mq_454
  rw [n_step (st' := [.ref 49]) (pc' := 125) (lv' := [(0, .ref 49), (3, .int x3)]) (hp' := rH e g q c l) (i := .aload_n 0) (len := 1) rfl hj rfl rfl rfl]
  rw [n_step (st' := [.ref 49, .ref 49]) (pc' := 126) (lv' := [(0, .ref 49), (3, .int x3)]) (hp' := rH e g q c l) (i := .aload_n 0) (len := 1) rfl hj rfl rfl rfl]
  rw [n_get (st' := [.ref 68, .ref 49]) (pc' := 129) (lv' := [(0, .ref 49), (3, .int x3)]) (hp' := rH e g q c l) (i := .getfield 71) (len := 3) rfl hj rfl rfl rfl rfl]
  rw [n_step (st' := [.int x3, .ref 68, .ref 49]) (pc' := 130) (lv' := [(0, .ref 49), (3, .int x3)]) (hp' := rH e g q c l) (i := .iload_n 3) (len := 1) rfl hj rfl rfl rfl]
  rw [n_ial (st' := [.int (c 68 (x3).toNatClampNeg), .ref 49]) rfl hj (ald_68 hz0)]
  rw [n_put (st' := []) (hp' := rH e (upd g 77 ((c 68 (x3).toNatClampNeg))) q c l) rfl hj pf_77]
  exact n_ret rfl hj rfl rfl rfl
set_option maxRecDepth 100000 in
set_option maxHeartbeats 4000000 in
theorem bk_455_0 {b : Bool} {d : Nat} {x1 : Int32} {e : Nat → x_E} {g : Nat → Int32} {q : Nat → Int64} {c : Nat → Nat → Int32} {l : Nat → Nat → Int64} {R : Option Value × List x_E} (hz0 : ¬ (x1 < 0 ∨ 4000 ≤ (x1).toNatClampNeg)) (hz1 : ¬ (x1 < 0 ∨ 4000 ≤ (x1).toNatClampNeg)) (hd : (((c 62 (x1).toNatClampNeg)).toInt < 0 ∨ 10 < ((c 62 (x1).toNatClampNeg)).toInt) → rr b e d 455 317 [] [] g q c l R) (h_0 : ((c 62 (x1).toNatClampNeg)) = 0 → rr b e d 455 72 [(0, .ref 49), (2, .int (c 63 (x1).toNatClampNeg))] [] g q c l R) (h_1 : ((c 62 (x1).toNatClampNeg)) = 1 → rr b e d 455 80 [(0, .ref 49), (2, .int (c 63 (x1).toNatClampNeg))] [] g q c l R) (h_2 : ((c 62 (x1).toNatClampNeg)) = 2 → rr b e d 455 317 [] [] g q c l R) (h_3 : ((c 62 (x1).toNatClampNeg)) = 3 → rr b e d 455 317 [] [] g q c l R) (h_4 : ((c 62 (x1).toNatClampNeg)) = 4 → rr b e d 455 137 [(0, .ref 49), (2, .int (c 63 (x1).toNatClampNeg))] [] g q c l R) (h_5 : ((c 62 (x1).toNatClampNeg)) = 5 → rr b e d 455 169 [(0, .ref 49)] [] g q c l R) (h_6 : ((c 62 (x1).toNatClampNeg)) = 6 → rr b e d 455 214 [(0, .ref 49)] [] g q c l R) (h_7 : ((c 62 (x1).toNatClampNeg)) = 7 → rr b e d 455 259 [(0, .ref 49)] [] g q c l R) (h_8 : ((c 62 (x1).toNatClampNeg)) = 8 → rr b e d 455 304 [(0, .ref 49)] [] g q c l R) (h_9 : ((c 62 (x1).toNatClampNeg)) = 9 → rr b e d 455 317 [] [] g q c l R) (h_10 : ((c 62 (x1).toNatClampNeg)) = 10 → rr b e d 455 101 [(0, .ref 49), (2, .int (c 63 (x1).toNatClampNeg))] [] g q c l R) : rr b e d 455 0 [(0, .ref 49), (1, .int x1)] [] g q c l R := by
  have key : ∀ f t, (xTab 304 0 10 #[59, 67, 304, 304, 124, 156, 201, 246, 291, 304, 88] ((c 62 (x1).toNatClampNeg))) = some t → ∀ p, xTg 13 t = some p → nrun xZ (xY (xfm b)) xDT (f + 10) d 455 0 [(0, .ref 49), (1, .int x1)] [] (rH e g q c l) 0 0 = nrun xZ (xY (xfm b)) xDT f d 455 p [(2, .int (c 63 (x1).toNatClampNeg)), (0, .ref 49), (1, .int x1)] [] (rH e g q c l) 0 0 := by
    intro f t ht p hp
    obtain ⟨y, cb, hj⟩ := mq_455
    rw [n_step (st' := [.ref 49]) (pc' := 1) (lv' := [(0, .ref 49), (1, .int x1)]) (hp' := rH e g q c l) (i := .aload_n 0) (len := 1) rfl hj rfl rfl rfl]
    rw [n_get (st' := [.ref 63]) (pc' := 4) (lv' := [(0, .ref 49), (1, .int x1)]) (hp' := rH e g q c l) (i := .getfield 56) (len := 3) rfl hj rfl rfl rfl rfl]
    rw [n_step (st' := [.int x1, .ref 63]) (pc' := 5) (lv' := [(0, .ref 49), (1, .int x1)]) (hp' := rH e g q c l) (i := .iload_n 1) (len := 1) rfl hj rfl rfl rfl]
    rw [n_ial (st' := [.int (c 63 (x1).toNatClampNeg)]) rfl hj (ald_63 hz0)]
    rw [n_step (st' := []) (pc' := 7) (lv' := [(2, .int (c 63 (x1).toNatClampNeg)), (0, .ref 49), (1, .int x1)]) (hp' := rH e g q c l) (i := .istore_n 2) (len := 1) rfl hj rfl rfl rfl]
    rw [n_step (st' := [.ref 49]) (pc' := 8) (lv' := [(2, .int (c 63 (x1).toNatClampNeg)), (0, .ref 49), (1, .int x1)]) (hp' := rH e g q c l) (i := .aload_n 0) (len := 1) rfl hj rfl rfl rfl]
    rw [n_get (st' := [.ref 62]) (pc' := 11) (lv' := [(2, .int (c 63 (x1).toNatClampNeg)), (0, .ref 49), (1, .int x1)]) (hp' := rH e g q c l) (i := .getfield 53) (len := 3) rfl hj rfl rfl rfl rfl]
    rw [n_step (st' := [.int x1, .ref 62]) (pc' := 12) (lv' := [(2, .int (c 63 (x1).toNatClampNeg)), (0, .ref 49), (1, .int x1)]) (hp' := rH e g q c l) (i := .iload_n 1) (len := 1) rfl hj rfl rfl rfl]
    rw [n_ial (st' := [.int (c 62 (x1).toNatClampNeg)]) rfl hj (ald_62 hz1)]
    rw [n_step (st' := []) (pc' := p) (lv' := [(2, .int (c 63 (x1).toNatClampNeg)), (0, .ref 49), (1, .int x1)]) (hp' := rH e g q c l) (i := .tableswitch 304 0 10 #[59, 67, 304, 304, 124, 156, 201, 246, 291, 304, 88]) (len := 59) rfl hj rfl rfl (x_sw ht hp)]
  by_cases hc : ((c 62 (x1).toNatClampNeg)).toInt < 0 ∨ 10 < ((c 62 (x1).toNatClampNeg)).toInt
  · obtain ⟨f, h⟩ := hd hc
    refine ⟨f + 10, ?_⟩
    rw [key f (304) (by unfold xTab; rw [if_pos hc]) 317 rfl]
    exact nrun_ext f f _ _ R 455 317 [] [(2, .int (c 63 (x1).toNatClampNeg)), (0, .ref 49), (1, .int x1)] [] _ 0 0 122 (Nat.le_refl _) (Nat.le_refl _) (Nat.le_of_ble_eq_true rfl) (lvR_mk [] [2, 0, 1] rfl rfl (by decide) (by decide) (fun _ h => nomatch h) (List.forall_mem_cons.mpr ⟨Or.inr rfl, (List.forall_mem_cons.mpr ⟨Or.inr rfl, (List.forall_mem_cons.mpr ⟨Or.inr rfl, (fun _ h => nomatch h)⟩)⟩)⟩)) h
  have hx : ((c 62 (x1).toNatClampNeg)).toInt = 0 ∨ ((c 62 (x1).toNatClampNeg)).toInt = 1 ∨ ((c 62 (x1).toNatClampNeg)).toInt = 2 ∨ ((c 62 (x1).toNatClampNeg)).toInt = 3 ∨ ((c 62 (x1).toNatClampNeg)).toInt = 4 ∨ ((c 62 (x1).toNatClampNeg)).toInt = 5 ∨ ((c 62 (x1).toNatClampNeg)).toInt = 6 ∨ ((c 62 (x1).toNatClampNeg)).toInt = 7 ∨ ((c 62 (x1).toNatClampNeg)).toInt = 8 ∨ ((c 62 (x1).toNatClampNeg)).toInt = 9 ∨ ((c 62 (x1).toNatClampNeg)).toInt = 10 := by omega
  rcases hx with hx | hx | hx | hx | hx | hx | hx | hx | hx | hx | hx
  · have hv : ((c 62 (x1).toNatClampNeg)) = 0 := Int32.toInt_inj.mp (hx.trans rfl)
    obtain ⟨f, h⟩ := h_0 hv
    refine ⟨f + 10, ?_⟩
    rw [key f (59) (by rw [hv]; rfl) 72 rfl]
    exact nrun_ext f f _ _ R 455 72 [(0, .ref 49), (2, .int (c 63 (x1).toNatClampNeg))] [(2, .int (c 63 (x1).toNatClampNeg)), (0, .ref 49), (1, .int x1)] [] _ 0 0 122 (Nat.le_refl _) (Nat.le_refl _) (Nat.le_of_ble_eq_true rfl) (lvR_mk [0, 2] [2, 0, 1] rfl rfl (by decide) (by decide) (List.forall_mem_cons.mpr ⟨(List.mem_cons_of_mem _ List.mem_cons_self), (List.forall_mem_cons.mpr ⟨List.mem_cons_self, (fun _ h => nomatch h)⟩)⟩) (List.forall_mem_cons.mpr ⟨Or.inl (List.mem_cons_of_mem _ List.mem_cons_self), (List.forall_mem_cons.mpr ⟨Or.inl List.mem_cons_self, (List.forall_mem_cons.mpr ⟨Or.inr rfl, (fun _ h => nomatch h)⟩)⟩)⟩)) h
  · have hv : ((c 62 (x1).toNatClampNeg)) = 1 := Int32.toInt_inj.mp (hx.trans rfl)
    obtain ⟨f, h⟩ := h_1 hv
    refine ⟨f + 10, ?_⟩
    rw [key f (67) (by rw [hv]; rfl) 80 rfl]
    exact nrun_ext f f _ _ R 455 80 [(0, .ref 49), (2, .int (c 63 (x1).toNatClampNeg))] [(2, .int (c 63 (x1).toNatClampNeg)), (0, .ref 49), (1, .int x1)] [] _ 0 0 122 (Nat.le_refl _) (Nat.le_refl _) (Nat.le_of_ble_eq_true rfl) (lvR_mk [0, 2] [2, 0, 1] rfl rfl (by decide) (by decide) (List.forall_mem_cons.mpr ⟨(List.mem_cons_of_mem _ List.mem_cons_self), (List.forall_mem_cons.mpr ⟨List.mem_cons_self, (fun _ h => nomatch h)⟩)⟩) (List.forall_mem_cons.mpr ⟨Or.inl (List.mem_cons_of_mem _ List.mem_cons_self), (List.forall_mem_cons.mpr ⟨Or.inl List.mem_cons_self, (List.forall_mem_cons.mpr ⟨Or.inr rfl, (fun _ h => nomatch h)⟩)⟩)⟩)) h
  · have hv : ((c 62 (x1).toNatClampNeg)) = 2 := Int32.toInt_inj.mp (hx.trans rfl)
    obtain ⟨f, h⟩ := h_2 hv
    refine ⟨f + 10, ?_⟩
    rw [key f (304) (by rw [hv]; rfl) 317 rfl]
    exact nrun_ext f f _ _ R 455 317 [] [(2, .int (c 63 (x1).toNatClampNeg)), (0, .ref 49), (1, .int x1)] [] _ 0 0 122 (Nat.le_refl _) (Nat.le_refl _) (Nat.le_of_ble_eq_true rfl) (lvR_mk [] [2, 0, 1] rfl rfl (by decide) (by decide) (fun _ h => nomatch h) (List.forall_mem_cons.mpr ⟨Or.inr rfl, (List.forall_mem_cons.mpr ⟨Or.inr rfl, (List.forall_mem_cons.mpr ⟨Or.inr rfl, (fun _ h => nomatch h)⟩)⟩)⟩)) h
  · have hv : ((c 62 (x1).toNatClampNeg)) = 3 := Int32.toInt_inj.mp (hx.trans rfl)
    obtain ⟨f, h⟩ := h_3 hv
    refine ⟨f + 10, ?_⟩
    rw [key f (304) (by rw [hv]; rfl) 317 rfl]
    exact nrun_ext f f _ _ R 455 317 [] [(2, .int (c 63 (x1).toNatClampNeg)), (0, .ref 49), (1, .int x1)] [] _ 0 0 122 (Nat.le_refl _) (Nat.le_refl _) (Nat.le_of_ble_eq_true rfl) (lvR_mk [] [2, 0, 1] rfl rfl (by decide) (by decide) (fun _ h => nomatch h) (List.forall_mem_cons.mpr ⟨Or.inr rfl, (List.forall_mem_cons.mpr ⟨Or.inr rfl, (List.forall_mem_cons.mpr ⟨Or.inr rfl, (fun _ h => nomatch h)⟩)⟩)⟩)) h
  · have hv : ((c 62 (x1).toNatClampNeg)) = 4 := Int32.toInt_inj.mp (hx.trans rfl)
    obtain ⟨f, h⟩ := h_4 hv
    refine ⟨f + 10, ?_⟩
    rw [key f (124) (by rw [hv]; rfl) 137 rfl]
    exact nrun_ext f f _ _ R 455 137 [(0, .ref 49), (2, .int (c 63 (x1).toNatClampNeg))] [(2, .int (c 63 (x1).toNatClampNeg)), (0, .ref 49), (1, .int x1)] [] _ 0 0 122 (Nat.le_refl _) (Nat.le_refl _) (Nat.le_of_ble_eq_true rfl) (lvR_mk [0, 2] [2, 0, 1] rfl rfl (by decide) (by decide) (List.forall_mem_cons.mpr ⟨(List.mem_cons_of_mem _ List.mem_cons_self), (List.forall_mem_cons.mpr ⟨List.mem_cons_self, (fun _ h => nomatch h)⟩)⟩) (List.forall_mem_cons.mpr ⟨Or.inl (List.mem_cons_of_mem _ List.mem_cons_self), (List.forall_mem_cons.mpr ⟨Or.inl List.mem_cons_self, (List.forall_mem_cons.mpr ⟨Or.inr rfl, (fun _ h => nomatch h)⟩)⟩)⟩)) h
  · have hv : ((c 62 (x1).toNatClampNeg)) = 5 := Int32.toInt_inj.mp (hx.trans rfl)
    obtain ⟨f, h⟩ := h_5 hv
    refine ⟨f + 10, ?_⟩
    rw [key f (156) (by rw [hv]; rfl) 169 rfl]
    exact nrun_ext f f _ _ R 455 169 [(0, .ref 49)] [(2, .int (c 63 (x1).toNatClampNeg)), (0, .ref 49), (1, .int x1)] [] _ 0 0 122 (Nat.le_refl _) (Nat.le_refl _) (Nat.le_of_ble_eq_true rfl) (lvR_mk [0] [2, 0, 1] rfl rfl (by decide) (by decide) (List.forall_mem_cons.mpr ⟨(List.mem_cons_of_mem _ List.mem_cons_self), (fun _ h => nomatch h)⟩) (List.forall_mem_cons.mpr ⟨Or.inr rfl, (List.forall_mem_cons.mpr ⟨Or.inl List.mem_cons_self, (List.forall_mem_cons.mpr ⟨Or.inr rfl, (fun _ h => nomatch h)⟩)⟩)⟩)) h
  · have hv : ((c 62 (x1).toNatClampNeg)) = 6 := Int32.toInt_inj.mp (hx.trans rfl)
    obtain ⟨f, h⟩ := h_6 hv
    refine ⟨f + 10, ?_⟩
    rw [key f (201) (by rw [hv]; rfl) 214 rfl]
    exact nrun_ext f f _ _ R 455 214 [(0, .ref 49)] [(2, .int (c 63 (x1).toNatClampNeg)), (0, .ref 49), (1, .int x1)] [] _ 0 0 122 (Nat.le_refl _) (Nat.le_refl _) (Nat.le_of_ble_eq_true rfl) (lvR_mk [0] [2, 0, 1] rfl rfl (by decide) (by decide) (List.forall_mem_cons.mpr ⟨(List.mem_cons_of_mem _ List.mem_cons_self), (fun _ h => nomatch h)⟩) (List.forall_mem_cons.mpr ⟨Or.inr rfl, (List.forall_mem_cons.mpr ⟨Or.inl List.mem_cons_self, (List.forall_mem_cons.mpr ⟨Or.inr rfl, (fun _ h => nomatch h)⟩)⟩)⟩)) h
  · have hv : ((c 62 (x1).toNatClampNeg)) = 7 := Int32.toInt_inj.mp (hx.trans rfl)
    obtain ⟨f, h⟩ := h_7 hv
    refine ⟨f + 10, ?_⟩
    rw [key f (246) (by rw [hv]; rfl) 259 rfl]
    exact nrun_ext f f _ _ R 455 259 [(0, .ref 49)] [(2, .int (c 63 (x1).toNatClampNeg)), (0, .ref 49), (1, .int x1)] [] _ 0 0 122 (Nat.le_refl _) (Nat.le_refl _) (Nat.le_of_ble_eq_true rfl) (lvR_mk [0] [2, 0, 1] rfl rfl (by decide) (by decide) (List.forall_mem_cons.mpr ⟨(List.mem_cons_of_mem _ List.mem_cons_self), (fun _ h => nomatch h)⟩) (List.forall_mem_cons.mpr ⟨Or.inr rfl, (List.forall_mem_cons.mpr ⟨Or.inl List.mem_cons_self, (List.forall_mem_cons.mpr ⟨Or.inr rfl, (fun _ h => nomatch h)⟩)⟩)⟩)) h
  · have hv : ((c 62 (x1).toNatClampNeg)) = 8 := Int32.toInt_inj.mp (hx.trans rfl)
    obtain ⟨f, h⟩ := h_8 hv
    refine ⟨f + 10, ?_⟩
    rw [key f (291) (by rw [hv]; rfl) 304 rfl]
    exact nrun_ext f f _ _ R 455 304 [(0, .ref 49)] [(2, .int (c 63 (x1).toNatClampNeg)), (0, .ref 49), (1, .int x1)] [] _ 0 0 122 (Nat.le_refl _) (Nat.le_refl _) (Nat.le_of_ble_eq_true rfl) (lvR_mk [0] [2, 0, 1] rfl rfl (by decide) (by decide) (List.forall_mem_cons.mpr ⟨(List.mem_cons_of_mem _ List.mem_cons_self), (fun _ h => nomatch h)⟩) (List.forall_mem_cons.mpr ⟨Or.inr rfl, (List.forall_mem_cons.mpr ⟨Or.inl List.mem_cons_self, (List.forall_mem_cons.mpr ⟨Or.inr rfl, (fun _ h => nomatch h)⟩)⟩)⟩)) h
  · have hv : ((c 62 (x1).toNatClampNeg)) = 9 := Int32.toInt_inj.mp (hx.trans rfl)
    obtain ⟨f, h⟩ := h_9 hv
    refine ⟨f + 10, ?_⟩
    rw [key f (304) (by rw [hv]; rfl) 317 rfl]
    exact nrun_ext f f _ _ R 455 317 [] [(2, .int (c 63 (x1).toNatClampNeg)), (0, .ref 49), (1, .int x1)] [] _ 0 0 122 (Nat.le_refl _) (Nat.le_refl _) (Nat.le_of_ble_eq_true rfl) (lvR_mk [] [2, 0, 1] rfl rfl (by decide) (by decide) (fun _ h => nomatch h) (List.forall_mem_cons.mpr ⟨Or.inr rfl, (List.forall_mem_cons.mpr ⟨Or.inr rfl, (List.forall_mem_cons.mpr ⟨Or.inr rfl, (fun _ h => nomatch h)⟩)⟩)⟩)) h
  · have hv : ((c 62 (x1).toNatClampNeg)) = 10 := Int32.toInt_inj.mp (hx.trans rfl)
    obtain ⟨f, h⟩ := h_10 hv
    refine ⟨f + 10, ?_⟩
    rw [key f (88) (by rw [hv]; rfl) 101 rfl]
    exact nrun_ext f f _ _ R 455 101 [(0, .ref 49), (2, .int (c 63 (x1).toNatClampNeg))] [(2, .int (c 63 (x1).toNatClampNeg)), (0, .ref 49), (1, .int x1)] [] _ 0 0 122 (Nat.le_refl _) (Nat.le_refl _) (Nat.le_of_ble_eq_true rfl) (lvR_mk [0, 2] [2, 0, 1] rfl rfl (by decide) (by decide) (List.forall_mem_cons.mpr ⟨(List.mem_cons_of_mem _ List.mem_cons_self), (List.forall_mem_cons.mpr ⟨List.mem_cons_self, (fun _ h => nomatch h)⟩)⟩) (List.forall_mem_cons.mpr ⟨Or.inl (List.mem_cons_of_mem _ List.mem_cons_self), (List.forall_mem_cons.mpr ⟨Or.inl List.mem_cons_self, (List.forall_mem_cons.mpr ⟨Or.inr rfl, (fun _ h => nomatch h)⟩)⟩)⟩)) h
set_option maxRecDepth 100000 in
set_option maxHeartbeats 4000000 in
theorem bk_455_72 {b : Bool} {d : Nat} {x2 : Int32} {e : Nat → x_E} {g : Nat → Int32} {q : Nat → Int64} {c : Nat → Nat → Int32} {l : Nat → Nat → Int64} {g' : Nat → Int32} {q' : Nat → Int64} {c' : Nat → Nat → Int32} {l' : Nat → Nat → Int64} {R : Option Value × List x_E} (hc : rr b e d 450 0 [(0, .ref 49), (1, .int x2)] [] g q c l (none, rH e g' q' c' l')) (h : rr b e (d + 1) 455 77 [] [] g' q' c' l' R) : rr b e (d + 1) 455 72 [(0, .ref 49), (2, .int x2)] [] g q c l R := by
  obtain ⟨f1, hc⟩ := hc
  obtain ⟨f2, h⟩ := h
  obtain ⟨f, hf1, hf2⟩ : ∃ f, f1 ≤ f ∧ f2 ≤ f := ⟨max f1 f2, Nat.le_max_left _ _, Nat.le_max_right _ _⟩
  have hc := nrun_fuel f1 f _ _ _ _ _ _ _ _ _ hf1 hc
  have h := nrun_fuel f2 f _ _ _ _ _ _ _ _ _ hf2 h
  refine ⟨f + 3, ?_⟩
  obtain ⟨y, cb, hj⟩ := mq_455
  rw [n_step (st' := [.ref 49]) (pc' := 73) (lv' := [(0, .ref 49), (2, .int x2)]) (hp' := rH e g q c l) (i := .aload_n 0) (len := 1) rfl hj rfl rfl rfl]
  rw [n_step (st' := [.int x2, .ref 49]) (pc' := 74) (lv' := [(0, .ref 49), (2, .int x2)]) (hp' := rH e g q c l) (i := .iload_n 2) (len := 1) rfl hj rfl rfl rfl]
  obtain ⟨y2, cb2, hj2⟩ := mq_450
  rw [n_call (f := f) (d := d) (ki := 0) (idx := 635) (j' := 450) (kd := 0) (M' := (y2, cb2, 2, none, 12, 1, 0, 0)) (avs := [.ref 49, .int x2]) (r := []) (rv := none) (hp1 := rH e g' q' c' l') rfl hj rfl rfl rfl rfl (rq_n rfl rfl hj2 rfl rfl) rfl hc (Nat.le_of_ble_eq_true rfl)]
  exact nrun_ext f f _ _ R 455 77 [] [(0, .ref 49), (2, .int x2)] [] _ 0 0 122 (Nat.le_refl _) (Nat.le_refl _) (Nat.le_of_ble_eq_true rfl) (lvR_mk [] [0, 2] rfl rfl (by decide) (by decide) (fun _ h => nomatch h) (List.forall_mem_cons.mpr ⟨Or.inr rfl, (List.forall_mem_cons.mpr ⟨Or.inr rfl, (fun _ h => nomatch h)⟩)⟩)) h
set_option maxRecDepth 100000 in
set_option maxHeartbeats 4000000 in
theorem bk_455_77 {b : Bool} {d : Nat} {e : Nat → x_E} {g : Nat → Int32} {q : Nat → Int64} {c : Nat → Nat → Int32} {l : Nat → Nat → Int64} {R : Option Value × List x_E} (h : rr b e d 455 317 [] [] g q c l R) : rr b e d 455 77 [] [] g q c l R := by
  obtain ⟨f, h⟩ := h
  refine ⟨f + 1, ?_⟩
  obtain ⟨y, cb, hj⟩ := mq_455
  rw [n_step (st' := []) (pc' := 317) (lv' := []) (hp' := rH e g q c l) (i := .goto 240) (len := 3) rfl hj rfl rfl rfl]
  exact h
set_option maxRecDepth 100000 in
set_option maxHeartbeats 4000000 in
theorem bk_455_80 {b : Bool} {d : Nat} {x2 : Int32} {e : Nat → x_E} {g : Nat → Int32} {q : Nat → Int64} {c : Nat → Nat → Int32} {l : Nat → Nat → Int64} {g' : Nat → Int32} {q' : Nat → Int64} {c' : Nat → Nat → Int32} {l' : Nat → Nat → Int64} {R : Option Value × List x_E} (hz0 : ¬ ((((Int8.ofInt (64)).toInt32 * (g 75)) + x2) < 0 ∨ 435200 ≤ ((((Int8.ofInt (64)).toInt32 * (g 75)) + x2)).toNatClampNeg)) (hc : rr b e d 450 0 [(0, .ref 49), (1, .int (c 78 ((((Int8.ofInt (64)).toInt32 * (g 75)) + x2)).toNatClampNeg))] [] g q c l (none, rH e g' q' c' l')) (h : rr b e (d + 1) 455 98 [] [] g' q' c' l' R) : rr b e (d + 1) 455 80 [(0, .ref 49), (2, .int x2)] [] g q c l R := by
  obtain ⟨f1, hc⟩ := hc
  obtain ⟨f2, h⟩ := h
  obtain ⟨f, hf1, hf2⟩ : ∃ f, f1 ≤ f ∧ f2 ≤ f := ⟨max f1 f2, Nat.le_max_left _ _, Nat.le_max_right _ _⟩
  have hc := nrun_fuel f1 f _ _ _ _ _ _ _ _ _ hf1 hc
  have h := nrun_fuel f2 f _ _ _ _ _ _ _ _ _ hf2 h
  refine ⟨f + 11, ?_⟩
  obtain ⟨y, cb, hj⟩ := mq_455
  rw [n_step (st' := [.ref 49]) (pc' := 81) (lv' := [(0, .ref 49), (2, .int x2)]) (hp' := rH e g q c l) (i := .aload_n 0) (len := 1) rfl hj rfl rfl rfl]
  rw [n_step (st' := [.ref 49, .ref 49]) (pc' := 82) (lv' := [(0, .ref 49), (2, .int x2)]) (hp' := rH e g q c l) (i := .aload_n 0) (len := 1) rfl hj rfl rfl rfl]
  rw [n_get (st' := [.ref 78, .ref 49]) (pc' := 85) (lv' := [(0, .ref 49), (2, .int x2)]) (hp' := rH e g q c l) (i := .getfield 103) (len := 3) rfl hj rfl rfl rfl rfl]
  rw [n_step (st' := [.int (Int8.ofInt (64)).toInt32, .ref 78, .ref 49]) (pc' := 87) (lv' := [(0, .ref 49), (2, .int x2)]) (hp' := rH e g q c l) (i := .bipush 64) (len := 2) rfl hj rfl rfl rfl]
  rw [n_step (st' := [.ref 49, .int (Int8.ofInt (64)).toInt32, .ref 78, .ref 49]) (pc' := 88) (lv' := [(0, .ref 49), (2, .int x2)]) (hp' := rH e g q c l) (i := .aload_n 0) (len := 1) rfl hj rfl rfl rfl]
  rw [n_get (st' := [.int (g 75), .int (Int8.ofInt (64)).toInt32, .ref 78, .ref 49]) (pc' := 91) (lv' := [(0, .ref 49), (2, .int x2)]) (hp' := rH e g q c l) (i := .getfield 599) (len := 3) rfl hj rfl rfl rfl rfl]
  rw [n_step (st' := [.int ((Int8.ofInt (64)).toInt32 * (g 75)), .ref 78, .ref 49]) (pc' := 92) (lv' := [(0, .ref 49), (2, .int x2)]) (hp' := rH e g q c l) (i := .imul) (len := 1) rfl hj rfl rfl rfl]
  rw [n_step (st' := [.int x2, .int ((Int8.ofInt (64)).toInt32 * (g 75)), .ref 78, .ref 49]) (pc' := 93) (lv' := [(0, .ref 49), (2, .int x2)]) (hp' := rH e g q c l) (i := .iload_n 2) (len := 1) rfl hj rfl rfl rfl]
  rw [n_step (st' := [.int (((Int8.ofInt (64)).toInt32 * (g 75)) + x2), .ref 78, .ref 49]) (pc' := 94) (lv' := [(0, .ref 49), (2, .int x2)]) (hp' := rH e g q c l) (i := .iadd) (len := 1) rfl hj rfl rfl rfl]
  rw [n_ial (st' := [.int (c 78 ((((Int8.ofInt (64)).toInt32 * (g 75)) + x2)).toNatClampNeg), .ref 49]) rfl hj (ald_78 hz0)]
  obtain ⟨y2, cb2, hj2⟩ := mq_450
  rw [n_call (f := f) (d := d) (ki := 0) (idx := 635) (j' := 450) (kd := 0) (M' := (y2, cb2, 2, none, 12, 1, 0, 0)) (avs := [.ref 49, .int (c 78 ((((Int8.ofInt (64)).toInt32 * (g 75)) + x2)).toNatClampNeg)]) (r := []) (rv := none) (hp1 := rH e g' q' c' l') rfl hj rfl rfl rfl rfl (rq_n rfl rfl hj2 rfl rfl) rfl hc (Nat.le_of_ble_eq_true rfl)]
  exact nrun_ext f f _ _ R 455 98 [] [(0, .ref 49), (2, .int x2)] [] _ 0 0 122 (Nat.le_refl _) (Nat.le_refl _) (Nat.le_of_ble_eq_true rfl) (lvR_mk [] [0, 2] rfl rfl (by decide) (by decide) (fun _ h => nomatch h) (List.forall_mem_cons.mpr ⟨Or.inr rfl, (List.forall_mem_cons.mpr ⟨Or.inr rfl, (fun _ h => nomatch h)⟩)⟩)) h
set_option maxRecDepth 100000 in
set_option maxHeartbeats 4000000 in
theorem bk_455_98 {b : Bool} {d : Nat} {e : Nat → x_E} {g : Nat → Int32} {q : Nat → Int64} {c : Nat → Nat → Int32} {l : Nat → Nat → Int64} {R : Option Value × List x_E} (h : rr b e d 455 317 [] [] g q c l R) : rr b e d 455 98 [] [] g q c l R := by
  obtain ⟨f, h⟩ := h
  refine ⟨f + 1, ?_⟩
  obtain ⟨y, cb, hj⟩ := mq_455
  rw [n_step (st' := []) (pc' := 317) (lv' := []) (hp' := rH e g q c l) (i := .goto 219) (len := 3) rfl hj rfl rfl rfl]
  exact h
set_option maxRecDepth 100000 in
set_option maxHeartbeats 4000000 in
theorem bk_455_101 {b : Bool} {d : Nat} {x2 : Int32} {e : Nat → x_E} {g : Nat → Int32} {q : Nat → Int64} {c : Nat → Nat → Int32} {l : Nat → Nat → Int64} {R : Option Value × List x_E} (hz0 : ¬ (((upd g 76 (((g 76) - (Int32.ofInt (1))))) 76) < 0 ∨ 1500000 ≤ (((upd g 76 (((g 76) - (Int32.ofInt (1))))) 76)).toNatClampNeg)) (hz1 : ¬ ((((Int8.ofInt (64)).toInt32 * ((upd g 76 (((g 76) - (Int32.ofInt (1))))) 75)) + x2) < 0 ∨ 435200 ≤ ((((Int8.ofInt (64)).toInt32 * ((upd g 76 (((g 76) - (Int32.ofInt (1))))) 75)) + x2)).toNatClampNeg)) (h : rr b e d 455 317 [] [] (upd g 76 (((g 76) - (Int32.ofInt (1))))) q (updA c 78 (upd (c 78) ((((Int8.ofInt (64)).toInt32 * ((upd g 76 (((g 76) - (Int32.ofInt (1))))) 75)) + x2)).toNatClampNeg ((c 80 (((upd g 76 (((g 76) - (Int32.ofInt (1))))) 76)).toNatClampNeg)))) l R) : rr b e d 455 101 [(0, .ref 49), (2, .int x2)] [] g q c l R := by
  obtain ⟨f, h⟩ := h
  refine ⟨f + 21, ?_⟩
  obtain ⟨y, cb, hj⟩ := mq_455
  rw [n_step (st' := [.ref 49]) (pc' := 102) (lv' := [(0, .ref 49), (2, .int x2)]) (hp' := rH e g q c l) (i := .aload_n 0) (len := 1) rfl hj rfl rfl rfl]
  rw [n_step (st' := [.ref 49, .ref 49]) (pc' := 103) (lv' := [(0, .ref 49), (2, .int x2)]) (hp' := rH e g q c l) (i := .aload_n 0) (len := 1) rfl hj rfl rfl rfl]
  rw [n_get (st' := [.int (g 76), .ref 49]) (pc' := 106) (lv' := [(0, .ref 49), (2, .int x2)]) (hp' := rH e g q c l) (i := .getfield 602) (len := 3) rfl hj rfl rfl rfl rfl]
  rw [n_step (st' := [.int (Int32.ofInt (1)), .int (g 76), .ref 49]) (pc' := 107) (lv' := [(0, .ref 49), (2, .int x2)]) (hp' := rH e g q c l) (i := .iconst 1) (len := 1) rfl hj rfl rfl rfl]
  rw [n_step (st' := [.int ((g 76) - (Int32.ofInt (1))), .ref 49]) (pc' := 108) (lv' := [(0, .ref 49), (2, .int x2)]) (hp' := rH e g q c l) (i := .isub) (len := 1) rfl hj rfl rfl rfl]
  rw [n_put (st' := []) (hp' := rH e (upd g 76 (((g 76) - (Int32.ofInt (1))))) q c l) rfl hj pf_76]
  rw [n_step (st' := [.ref 49]) (pc' := 112) (lv' := [(0, .ref 49), (2, .int x2)]) (hp' := rH e (upd g 76 (((g 76) - (Int32.ofInt (1))))) q c l) (i := .aload_n 0) (len := 1) rfl hj rfl rfl rfl]
  rw [n_get (st' := [.ref 78]) (pc' := 115) (lv' := [(0, .ref 49), (2, .int x2)]) (hp' := rH e (upd g 76 (((g 76) - (Int32.ofInt (1))))) q c l) (i := .getfield 103) (len := 3) rfl hj rfl rfl rfl rfl]
  rw [n_step (st' := [.int (Int8.ofInt (64)).toInt32, .ref 78]) (pc' := 117) (lv' := [(0, .ref 49), (2, .int x2)]) (hp' := rH e (upd g 76 (((g 76) - (Int32.ofInt (1))))) q c l) (i := .bipush 64) (len := 2) rfl hj rfl rfl rfl]
  rw [n_step (st' := [.ref 49, .int (Int8.ofInt (64)).toInt32, .ref 78]) (pc' := 118) (lv' := [(0, .ref 49), (2, .int x2)]) (hp' := rH e (upd g 76 (((g 76) - (Int32.ofInt (1))))) q c l) (i := .aload_n 0) (len := 1) rfl hj rfl rfl rfl]
  rw [n_get (st' := [.int ((upd g 76 (((g 76) - (Int32.ofInt (1))))) 75), .int (Int8.ofInt (64)).toInt32, .ref 78]) (pc' := 121) (lv' := [(0, .ref 49), (2, .int x2)]) (hp' := rH e (upd g 76 (((g 76) - (Int32.ofInt (1))))) q c l) (i := .getfield 599) (len := 3) rfl hj rfl rfl rfl rfl]
  rw [n_step (st' := [.int ((Int8.ofInt (64)).toInt32 * ((upd g 76 (((g 76) - (Int32.ofInt (1))))) 75)), .ref 78]) (pc' := 122) (lv' := [(0, .ref 49), (2, .int x2)]) (hp' := rH e (upd g 76 (((g 76) - (Int32.ofInt (1))))) q c l) (i := .imul) (len := 1) rfl hj rfl rfl rfl]
  rw [n_step (st' := [.int x2, .int ((Int8.ofInt (64)).toInt32 * ((upd g 76 (((g 76) - (Int32.ofInt (1))))) 75)), .ref 78]) (pc' := 123) (lv' := [(0, .ref 49), (2, .int x2)]) (hp' := rH e (upd g 76 (((g 76) - (Int32.ofInt (1))))) q c l) (i := .iload_n 2) (len := 1) rfl hj rfl rfl rfl]
  rw [n_step (st' := [.int (((Int8.ofInt (64)).toInt32 * ((upd g 76 (((g 76) - (Int32.ofInt (1))))) 75)) + x2), .ref 78]) (pc' := 124) (lv' := [(0, .ref 49), (2, .int x2)]) (hp' := rH e (upd g 76 (((g 76) - (Int32.ofInt (1))))) q c l) (i := .iadd) (len := 1) rfl hj rfl rfl rfl]
  rw [n_step (st' := [.ref 49, .int (((Int8.ofInt (64)).toInt32 * ((upd g 76 (((g 76) - (Int32.ofInt (1))))) 75)) + x2), .ref 78]) (pc' := 125) (lv' := [(0, .ref 49), (2, .int x2)]) (hp' := rH e (upd g 76 (((g 76) - (Int32.ofInt (1))))) q c l) (i := .aload_n 0) (len := 1) rfl hj rfl rfl rfl]
  rw [n_get (st' := [.ref 80, .int (((Int8.ofInt (64)).toInt32 * ((upd g 76 (((g 76) - (Int32.ofInt (1))))) 75)) + x2), .ref 78]) (pc' := 128) (lv' := [(0, .ref 49), (2, .int x2)]) (hp' := rH e (upd g 76 (((g 76) - (Int32.ofInt (1))))) q c l) (i := .getfield 110) (len := 3) rfl hj rfl rfl rfl rfl]
  rw [n_step (st' := [.ref 49, .ref 80, .int (((Int8.ofInt (64)).toInt32 * ((upd g 76 (((g 76) - (Int32.ofInt (1))))) 75)) + x2), .ref 78]) (pc' := 129) (lv' := [(0, .ref 49), (2, .int x2)]) (hp' := rH e (upd g 76 (((g 76) - (Int32.ofInt (1))))) q c l) (i := .aload_n 0) (len := 1) rfl hj rfl rfl rfl]
  rw [n_get (st' := [.int ((upd g 76 (((g 76) - (Int32.ofInt (1))))) 76), .ref 80, .int (((Int8.ofInt (64)).toInt32 * ((upd g 76 (((g 76) - (Int32.ofInt (1))))) 75)) + x2), .ref 78]) (pc' := 132) (lv' := [(0, .ref 49), (2, .int x2)]) (hp' := rH e (upd g 76 (((g 76) - (Int32.ofInt (1))))) q c l) (i := .getfield 602) (len := 3) rfl hj rfl rfl rfl rfl]
  rw [n_ial (st' := [.int (c 80 (((upd g 76 (((g 76) - (Int32.ofInt (1))))) 76)).toNatClampNeg), .int (((Int8.ofInt (64)).toInt32 * ((upd g 76 (((g 76) - (Int32.ofInt (1))))) 75)) + x2), .ref 78]) rfl hj (ald_80 hz0)]
  rw [n_ias (st' := []) (hp' := rH e (upd g 76 (((g 76) - (Int32.ofInt (1))))) q (updA c 78 (upd (c 78) ((((Int8.ofInt (64)).toInt32 * ((upd g 76 (((g 76) - (Int32.ofInt (1))))) 75)) + x2)).toNatClampNeg ((c 80 (((upd g 76 (((g 76) - (Int32.ofInt (1))))) 76)).toNatClampNeg)))) l) rfl hj (ast_78 hz1)]
  rw [n_step (st' := []) (pc' := 317) (lv' := [(0, .ref 49), (2, .int x2)]) (hp' := rH e (upd g 76 (((g 76) - (Int32.ofInt (1))))) q (updA c 78 (upd (c 78) ((((Int8.ofInt (64)).toInt32 * ((upd g 76 (((g 76) - (Int32.ofInt (1))))) 75)) + x2)).toNatClampNeg ((c 80 (((upd g 76 (((g 76) - (Int32.ofInt (1))))) 76)).toNatClampNeg)))) l) (i := .goto 183) (len := 3) rfl hj rfl rfl rfl]
  exact nrun_ext f f _ _ R 455 317 [] [(0, .ref 49), (2, .int x2)] [] _ 0 0 122 (Nat.le_refl _) (Nat.le_refl _) (Nat.le_of_ble_eq_true rfl) (lvR_mk [] [0, 2] rfl rfl (by decide) (by decide) (fun _ h => nomatch h) (List.forall_mem_cons.mpr ⟨Or.inr rfl, (List.forall_mem_cons.mpr ⟨Or.inr rfl, (fun _ h => nomatch h)⟩)⟩)) h
set_option maxRecDepth 100000 in
set_option maxHeartbeats 4000000 in
theorem bk_455_137 {b : Bool} {d : Nat} {x2 : Int32} {e : Nat → x_E} {g : Nat → Int32} {q : Nat → Int64} {c : Nat → Nat → Int32} {l : Nat → Nat → Int64} {R : Option Value × List x_E} (hz0 : ¬ (((g 76) - (Int32.ofInt (1))) < 0 ∨ 1500000 ≤ (((g 76) - (Int32.ofInt (1)))).toNatClampNeg)) (hz1 : ¬ (((c 80 (((g 76) - (Int32.ofInt (1)))).toNatClampNeg) + x2) < 0 ∨ 21000 ≤ (((c 80 (((g 76) - (Int32.ofInt (1)))).toNatClampNeg) + x2)).toNatClampNeg)) (hz2 : ¬ (((g 76) - (Int32.ofInt (1))) < 0 ∨ 1500000 ≤ (((g 76) - (Int32.ofInt (1)))).toNatClampNeg)) (h : rr b e d 455 317 [] [] g q (updA c 80 (upd (c 80) (((g 76) - (Int32.ofInt (1)))).toNatClampNeg ((c 77 (((c 80 (((g 76) - (Int32.ofInt (1)))).toNatClampNeg) + x2)).toNatClampNeg)))) l R) : rr b e d 455 137 [(0, .ref 49), (2, .int x2)] [] g q c l R := by
  obtain ⟨f, h⟩ := h
  refine ⟨f + 20, ?_⟩
  obtain ⟨y, cb, hj⟩ := mq_455
  rw [n_step (st' := [.ref 49]) (pc' := 138) (lv' := [(0, .ref 49), (2, .int x2)]) (hp' := rH e g q c l) (i := .aload_n 0) (len := 1) rfl hj rfl rfl rfl]
  rw [n_get (st' := [.ref 80]) (pc' := 141) (lv' := [(0, .ref 49), (2, .int x2)]) (hp' := rH e g q c l) (i := .getfield 110) (len := 3) rfl hj rfl rfl rfl rfl]
  rw [n_step (st' := [.ref 49, .ref 80]) (pc' := 142) (lv' := [(0, .ref 49), (2, .int x2)]) (hp' := rH e g q c l) (i := .aload_n 0) (len := 1) rfl hj rfl rfl rfl]
  rw [n_get (st' := [.int (g 76), .ref 80]) (pc' := 145) (lv' := [(0, .ref 49), (2, .int x2)]) (hp' := rH e g q c l) (i := .getfield 602) (len := 3) rfl hj rfl rfl rfl rfl]
  rw [n_step (st' := [.int (Int32.ofInt (1)), .int (g 76), .ref 80]) (pc' := 146) (lv' := [(0, .ref 49), (2, .int x2)]) (hp' := rH e g q c l) (i := .iconst 1) (len := 1) rfl hj rfl rfl rfl]
  rw [n_step (st' := [.int ((g 76) - (Int32.ofInt (1))), .ref 80]) (pc' := 147) (lv' := [(0, .ref 49), (2, .int x2)]) (hp' := rH e g q c l) (i := .isub) (len := 1) rfl hj rfl rfl rfl]
  rw [n_step (st' := [.ref 49, .int ((g 76) - (Int32.ofInt (1))), .ref 80]) (pc' := 148) (lv' := [(0, .ref 49), (2, .int x2)]) (hp' := rH e g q c l) (i := .aload_n 0) (len := 1) rfl hj rfl rfl rfl]
  rw [n_get (st' := [.ref 77, .int ((g 76) - (Int32.ofInt (1))), .ref 80]) (pc' := 151) (lv' := [(0, .ref 49), (2, .int x2)]) (hp' := rH e g q c l) (i := .getfield 99) (len := 3) rfl hj rfl rfl rfl rfl]
  rw [n_step (st' := [.ref 49, .ref 77, .int ((g 76) - (Int32.ofInt (1))), .ref 80]) (pc' := 152) (lv' := [(0, .ref 49), (2, .int x2)]) (hp' := rH e g q c l) (i := .aload_n 0) (len := 1) rfl hj rfl rfl rfl]
  rw [n_get (st' := [.ref 80, .ref 77, .int ((g 76) - (Int32.ofInt (1))), .ref 80]) (pc' := 155) (lv' := [(0, .ref 49), (2, .int x2)]) (hp' := rH e g q c l) (i := .getfield 110) (len := 3) rfl hj rfl rfl rfl rfl]
  rw [n_step (st' := [.ref 49, .ref 80, .ref 77, .int ((g 76) - (Int32.ofInt (1))), .ref 80]) (pc' := 156) (lv' := [(0, .ref 49), (2, .int x2)]) (hp' := rH e g q c l) (i := .aload_n 0) (len := 1) rfl hj rfl rfl rfl]
  rw [n_get (st' := [.int (g 76), .ref 80, .ref 77, .int ((g 76) - (Int32.ofInt (1))), .ref 80]) (pc' := 159) (lv' := [(0, .ref 49), (2, .int x2)]) (hp' := rH e g q c l) (i := .getfield 602) (len := 3) rfl hj rfl rfl rfl rfl]
  rw [n_step (st' := [.int (Int32.ofInt (1)), .int (g 76), .ref 80, .ref 77, .int ((g 76) - (Int32.ofInt (1))), .ref 80]) (pc' := 160) (lv' := [(0, .ref 49), (2, .int x2)]) (hp' := rH e g q c l) (i := .iconst 1) (len := 1) rfl hj rfl rfl rfl]
  rw [n_step (st' := [.int ((g 76) - (Int32.ofInt (1))), .ref 80, .ref 77, .int ((g 76) - (Int32.ofInt (1))), .ref 80]) (pc' := 161) (lv' := [(0, .ref 49), (2, .int x2)]) (hp' := rH e g q c l) (i := .isub) (len := 1) rfl hj rfl rfl rfl]
  rw [n_ial (st' := [.int (c 80 (((g 76) - (Int32.ofInt (1)))).toNatClampNeg), .ref 77, .int ((g 76) - (Int32.ofInt (1))), .ref 80]) rfl hj (ald_80 hz0)]
  rw [n_step (st' := [.int x2, .int (c 80 (((g 76) - (Int32.ofInt (1)))).toNatClampNeg), .ref 77, .int ((g 76) - (Int32.ofInt (1))), .ref 80]) (pc' := 163) (lv' := [(0, .ref 49), (2, .int x2)]) (hp' := rH e g q c l) (i := .iload_n 2) (len := 1) rfl hj rfl rfl rfl]
  rw [n_step (st' := [.int ((c 80 (((g 76) - (Int32.ofInt (1)))).toNatClampNeg) + x2), .ref 77, .int ((g 76) - (Int32.ofInt (1))), .ref 80]) (pc' := 164) (lv' := [(0, .ref 49), (2, .int x2)]) (hp' := rH e g q c l) (i := .iadd) (len := 1) rfl hj rfl rfl rfl]
  rw [n_ial (st' := [.int (c 77 (((c 80 (((g 76) - (Int32.ofInt (1)))).toNatClampNeg) + x2)).toNatClampNeg), .int ((g 76) - (Int32.ofInt (1))), .ref 80]) rfl hj (ald_77 hz1)]
  rw [n_ias (st' := []) (hp' := rH e g q (updA c 80 (upd (c 80) (((g 76) - (Int32.ofInt (1)))).toNatClampNeg ((c 77 (((c 80 (((g 76) - (Int32.ofInt (1)))).toNatClampNeg) + x2)).toNatClampNeg)))) l) rfl hj (ast_80 hz2)]
  rw [n_step (st' := []) (pc' := 317) (lv' := [(0, .ref 49), (2, .int x2)]) (hp' := rH e g q (updA c 80 (upd (c 80) (((g 76) - (Int32.ofInt (1)))).toNatClampNeg ((c 77 (((c 80 (((g 76) - (Int32.ofInt (1)))).toNatClampNeg) + x2)).toNatClampNeg)))) l) (i := .goto 151) (len := 3) rfl hj rfl rfl rfl]
  exact nrun_ext f f _ _ R 455 317 [] [(0, .ref 49), (2, .int x2)] [] _ 0 0 122 (Nat.le_refl _) (Nat.le_refl _) (Nat.le_of_ble_eq_true rfl) (lvR_mk [] [0, 2] rfl rfl (by decide) (by decide) (fun _ h => nomatch h) (List.forall_mem_cons.mpr ⟨Or.inr rfl, (List.forall_mem_cons.mpr ⟨Or.inr rfl, (fun _ h => nomatch h)⟩)⟩)) h
set_option maxRecDepth 100000 in
set_option maxHeartbeats 4000000 in
theorem bk_455_169 {b : Bool} {d : Nat} {e : Nat → x_E} {g : Nat → Int32} {q : Nat → Int64} {c : Nat → Nat → Int32} {l : Nat → Nat → Int64} {R : Option Value × List x_E} (hz0 : ¬ ((((upd g 76 (((g 76) - (Int32.ofInt (1))))) 76) - (Int32.ofInt (1))) < 0 ∨ 1500000 ≤ ((((upd g 76 (((g 76) - (Int32.ofInt (1))))) 76) - (Int32.ofInt (1)))).toNatClampNeg)) (hz1 : ¬ (((upd g 76 (((g 76) - (Int32.ofInt (1))))) 76) < 0 ∨ 1500000 ≤ (((upd g 76 (((g 76) - (Int32.ofInt (1))))) 76)).toNatClampNeg)) (hz2 : ¬ ((((upd g 76 (((g 76) - (Int32.ofInt (1))))) 76) - (Int32.ofInt (1))) < 0 ∨ 1500000 ≤ ((((upd g 76 (((g 76) - (Int32.ofInt (1))))) 76) - (Int32.ofInt (1)))).toNatClampNeg)) (h : rr b e d 455 317 [] [] (upd g 76 (((g 76) - (Int32.ofInt (1))))) q (updA c 80 (upd (c 80) ((((upd g 76 (((g 76) - (Int32.ofInt (1))))) 76) - (Int32.ofInt (1)))).toNatClampNeg (((c 80 ((((upd g 76 (((g 76) - (Int32.ofInt (1))))) 76) - (Int32.ofInt (1)))).toNatClampNeg) + (c 80 (((upd g 76 (((g 76) - (Int32.ofInt (1))))) 76)).toNatClampNeg))))) l R) : rr b e d 455 169 [(0, .ref 49)] [] g q c l R := by
  obtain ⟨f, h⟩ := h
  refine ⟨f + 27, ?_⟩
  obtain ⟨y, cb, hj⟩ := mq_455
  rw [n_step (st' := [.ref 49]) (pc' := 170) (lv' := [(0, .ref 49)]) (hp' := rH e g q c l) (i := .aload_n 0) (len := 1) rfl hj rfl rfl rfl]
  rw [n_step (st' := [.ref 49, .ref 49]) (pc' := 171) (lv' := [(0, .ref 49)]) (hp' := rH e g q c l) (i := .aload_n 0) (len := 1) rfl hj rfl rfl rfl]
  rw [n_get (st' := [.int (g 76), .ref 49]) (pc' := 174) (lv' := [(0, .ref 49)]) (hp' := rH e g q c l) (i := .getfield 602) (len := 3) rfl hj rfl rfl rfl rfl]
  rw [n_step (st' := [.int (Int32.ofInt (1)), .int (g 76), .ref 49]) (pc' := 175) (lv' := [(0, .ref 49)]) (hp' := rH e g q c l) (i := .iconst 1) (len := 1) rfl hj rfl rfl rfl]
  rw [n_step (st' := [.int ((g 76) - (Int32.ofInt (1))), .ref 49]) (pc' := 176) (lv' := [(0, .ref 49)]) (hp' := rH e g q c l) (i := .isub) (len := 1) rfl hj rfl rfl rfl]
  rw [n_put (st' := []) (hp' := rH e (upd g 76 (((g 76) - (Int32.ofInt (1))))) q c l) rfl hj pf_76]
  rw [n_step (st' := [.ref 49]) (pc' := 180) (lv' := [(0, .ref 49)]) (hp' := rH e (upd g 76 (((g 76) - (Int32.ofInt (1))))) q c l) (i := .aload_n 0) (len := 1) rfl hj rfl rfl rfl]
  rw [n_get (st' := [.ref 80]) (pc' := 183) (lv' := [(0, .ref 49)]) (hp' := rH e (upd g 76 (((g 76) - (Int32.ofInt (1))))) q c l) (i := .getfield 110) (len := 3) rfl hj rfl rfl rfl rfl]
  rw [n_step (st' := [.ref 49, .ref 80]) (pc' := 184) (lv' := [(0, .ref 49)]) (hp' := rH e (upd g 76 (((g 76) - (Int32.ofInt (1))))) q c l) (i := .aload_n 0) (len := 1) rfl hj rfl rfl rfl]
  rw [n_get (st' := [.int ((upd g 76 (((g 76) - (Int32.ofInt (1))))) 76), .ref 80]) (pc' := 187) (lv' := [(0, .ref 49)]) (hp' := rH e (upd g 76 (((g 76) - (Int32.ofInt (1))))) q c l) (i := .getfield 602) (len := 3) rfl hj rfl rfl rfl rfl]
  rw [n_step (st' := [.int (Int32.ofInt (1)), .int ((upd g 76 (((g 76) - (Int32.ofInt (1))))) 76), .ref 80]) (pc' := 188) (lv' := [(0, .ref 49)]) (hp' := rH e (upd g 76 (((g 76) - (Int32.ofInt (1))))) q c l) (i := .iconst 1) (len := 1) rfl hj rfl rfl rfl]
  rw [n_step (st' := [.int (((upd g 76 (((g 76) - (Int32.ofInt (1))))) 76) - (Int32.ofInt (1))), .ref 80]) (pc' := 189) (lv' := [(0, .ref 49)]) (hp' := rH e (upd g 76 (((g 76) - (Int32.ofInt (1))))) q c l) (i := .isub) (len := 1) rfl hj rfl rfl rfl]
  rw [n_step (st' := [.ref 49, .int (((upd g 76 (((g 76) - (Int32.ofInt (1))))) 76) - (Int32.ofInt (1))), .ref 80]) (pc' := 190) (lv' := [(0, .ref 49)]) (hp' := rH e (upd g 76 (((g 76) - (Int32.ofInt (1))))) q c l) (i := .aload_n 0) (len := 1) rfl hj rfl rfl rfl]
  rw [n_get (st' := [.ref 80, .int (((upd g 76 (((g 76) - (Int32.ofInt (1))))) 76) - (Int32.ofInt (1))), .ref 80]) (pc' := 193) (lv' := [(0, .ref 49)]) (hp' := rH e (upd g 76 (((g 76) - (Int32.ofInt (1))))) q c l) (i := .getfield 110) (len := 3) rfl hj rfl rfl rfl rfl]
  rw [n_step (st' := [.ref 49, .ref 80, .int (((upd g 76 (((g 76) - (Int32.ofInt (1))))) 76) - (Int32.ofInt (1))), .ref 80]) (pc' := 194) (lv' := [(0, .ref 49)]) (hp' := rH e (upd g 76 (((g 76) - (Int32.ofInt (1))))) q c l) (i := .aload_n 0) (len := 1) rfl hj rfl rfl rfl]
  rw [n_get (st' := [.int ((upd g 76 (((g 76) - (Int32.ofInt (1))))) 76), .ref 80, .int (((upd g 76 (((g 76) - (Int32.ofInt (1))))) 76) - (Int32.ofInt (1))), .ref 80]) (pc' := 197) (lv' := [(0, .ref 49)]) (hp' := rH e (upd g 76 (((g 76) - (Int32.ofInt (1))))) q c l) (i := .getfield 602) (len := 3) rfl hj rfl rfl rfl rfl]
  rw [n_step (st' := [.int (Int32.ofInt (1)), .int ((upd g 76 (((g 76) - (Int32.ofInt (1))))) 76), .ref 80, .int (((upd g 76 (((g 76) - (Int32.ofInt (1))))) 76) - (Int32.ofInt (1))), .ref 80]) (pc' := 198) (lv' := [(0, .ref 49)]) (hp' := rH e (upd g 76 (((g 76) - (Int32.ofInt (1))))) q c l) (i := .iconst 1) (len := 1) rfl hj rfl rfl rfl]
  rw [n_step (st' := [.int (((upd g 76 (((g 76) - (Int32.ofInt (1))))) 76) - (Int32.ofInt (1))), .ref 80, .int (((upd g 76 (((g 76) - (Int32.ofInt (1))))) 76) - (Int32.ofInt (1))), .ref 80]) (pc' := 199) (lv' := [(0, .ref 49)]) (hp' := rH e (upd g 76 (((g 76) - (Int32.ofInt (1))))) q c l) (i := .isub) (len := 1) rfl hj rfl rfl rfl]
  rw [n_ial (st' := [.int (c 80 ((((upd g 76 (((g 76) - (Int32.ofInt (1))))) 76) - (Int32.ofInt (1)))).toNatClampNeg), .int (((upd g 76 (((g 76) - (Int32.ofInt (1))))) 76) - (Int32.ofInt (1))), .ref 80]) rfl hj (ald_80 hz0)]
  rw [n_step (st' := [.ref 49, .int (c 80 ((((upd g 76 (((g 76) - (Int32.ofInt (1))))) 76) - (Int32.ofInt (1)))).toNatClampNeg), .int (((upd g 76 (((g 76) - (Int32.ofInt (1))))) 76) - (Int32.ofInt (1))), .ref 80]) (pc' := 201) (lv' := [(0, .ref 49)]) (hp' := rH e (upd g 76 (((g 76) - (Int32.ofInt (1))))) q c l) (i := .aload_n 0) (len := 1) rfl hj rfl rfl rfl]
  rw [n_get (st' := [.ref 80, .int (c 80 ((((upd g 76 (((g 76) - (Int32.ofInt (1))))) 76) - (Int32.ofInt (1)))).toNatClampNeg), .int (((upd g 76 (((g 76) - (Int32.ofInt (1))))) 76) - (Int32.ofInt (1))), .ref 80]) (pc' := 204) (lv' := [(0, .ref 49)]) (hp' := rH e (upd g 76 (((g 76) - (Int32.ofInt (1))))) q c l) (i := .getfield 110) (len := 3) rfl hj rfl rfl rfl rfl]
  rw [n_step (st' := [.ref 49, .ref 80, .int (c 80 ((((upd g 76 (((g 76) - (Int32.ofInt (1))))) 76) - (Int32.ofInt (1)))).toNatClampNeg), .int (((upd g 76 (((g 76) - (Int32.ofInt (1))))) 76) - (Int32.ofInt (1))), .ref 80]) (pc' := 205) (lv' := [(0, .ref 49)]) (hp' := rH e (upd g 76 (((g 76) - (Int32.ofInt (1))))) q c l) (i := .aload_n 0) (len := 1) rfl hj rfl rfl rfl]
  rw [n_get (st' := [.int ((upd g 76 (((g 76) - (Int32.ofInt (1))))) 76), .ref 80, .int (c 80 ((((upd g 76 (((g 76) - (Int32.ofInt (1))))) 76) - (Int32.ofInt (1)))).toNatClampNeg), .int (((upd g 76 (((g 76) - (Int32.ofInt (1))))) 76) - (Int32.ofInt (1))), .ref 80]) (pc' := 208) (lv' := [(0, .ref 49)]) (hp' := rH e (upd g 76 (((g 76) - (Int32.ofInt (1))))) q c l) (i := .getfield 602) (len := 3) rfl hj rfl rfl rfl rfl]
  rw [n_ial (st' := [.int (c 80 (((upd g 76 (((g 76) - (Int32.ofInt (1))))) 76)).toNatClampNeg), .int (c 80 ((((upd g 76 (((g 76) - (Int32.ofInt (1))))) 76) - (Int32.ofInt (1)))).toNatClampNeg), .int (((upd g 76 (((g 76) - (Int32.ofInt (1))))) 76) - (Int32.ofInt (1))), .ref 80]) rfl hj (ald_80 hz1)]
  rw [n_step (st' := [.int ((c 80 ((((upd g 76 (((g 76) - (Int32.ofInt (1))))) 76) - (Int32.ofInt (1)))).toNatClampNeg) + (c 80 (((upd g 76 (((g 76) - (Int32.ofInt (1))))) 76)).toNatClampNeg)), .int (((upd g 76 (((g 76) - (Int32.ofInt (1))))) 76) - (Int32.ofInt (1))), .ref 80]) (pc' := 210) (lv' := [(0, .ref 49)]) (hp' := rH e (upd g 76 (((g 76) - (Int32.ofInt (1))))) q c l) (i := .iadd) (len := 1) rfl hj rfl rfl rfl]
  rw [n_ias (st' := []) (hp' := rH e (upd g 76 (((g 76) - (Int32.ofInt (1))))) q (updA c 80 (upd (c 80) ((((upd g 76 (((g 76) - (Int32.ofInt (1))))) 76) - (Int32.ofInt (1)))).toNatClampNeg (((c 80 ((((upd g 76 (((g 76) - (Int32.ofInt (1))))) 76) - (Int32.ofInt (1)))).toNatClampNeg) + (c 80 (((upd g 76 (((g 76) - (Int32.ofInt (1))))) 76)).toNatClampNeg))))) l) rfl hj (ast_80 hz2)]
  rw [n_step (st' := []) (pc' := 317) (lv' := [(0, .ref 49)]) (hp' := rH e (upd g 76 (((g 76) - (Int32.ofInt (1))))) q (updA c 80 (upd (c 80) ((((upd g 76 (((g 76) - (Int32.ofInt (1))))) 76) - (Int32.ofInt (1)))).toNatClampNeg (((c 80 ((((upd g 76 (((g 76) - (Int32.ofInt (1))))) 76) - (Int32.ofInt (1)))).toNatClampNeg) + (c 80 (((upd g 76 (((g 76) - (Int32.ofInt (1))))) 76)).toNatClampNeg))))) l) (i := .goto 106) (len := 3) rfl hj rfl rfl rfl]
  exact nrun_ext f f _ _ R 455 317 [] [(0, .ref 49)] [] _ 0 0 122 (Nat.le_refl _) (Nat.le_refl _) (Nat.le_of_ble_eq_true rfl) (lvR_mk [] [0] rfl rfl (by decide) (by decide) (fun _ h => nomatch h) (List.forall_mem_cons.mpr ⟨Or.inr rfl, (fun _ h => nomatch h)⟩)) h
set_option maxRecDepth 100000 in
set_option maxHeartbeats 4000000 in
theorem bk_455_214 {b : Bool} {d : Nat} {e : Nat → x_E} {g : Nat → Int32} {q : Nat → Int64} {c : Nat → Nat → Int32} {l : Nat → Nat → Int64} {R : Option Value × List x_E} (hz0 : ¬ ((((upd g 76 (((g 76) - (Int32.ofInt (1))))) 76) - (Int32.ofInt (1))) < 0 ∨ 1500000 ≤ ((((upd g 76 (((g 76) - (Int32.ofInt (1))))) 76) - (Int32.ofInt (1)))).toNatClampNeg)) (hz1 : ¬ (((upd g 76 (((g 76) - (Int32.ofInt (1))))) 76) < 0 ∨ 1500000 ≤ (((upd g 76 (((g 76) - (Int32.ofInt (1))))) 76)).toNatClampNeg)) (hz2 : ¬ ((((upd g 76 (((g 76) - (Int32.ofInt (1))))) 76) - (Int32.ofInt (1))) < 0 ∨ 1500000 ≤ ((((upd g 76 (((g 76) - (Int32.ofInt (1))))) 76) - (Int32.ofInt (1)))).toNatClampNeg)) (h : rr b e d 455 317 [] [] (upd g 76 (((g 76) - (Int32.ofInt (1))))) q (updA c 80 (upd (c 80) ((((upd g 76 (((g 76) - (Int32.ofInt (1))))) 76) - (Int32.ofInt (1)))).toNatClampNeg (((c 80 ((((upd g 76 (((g 76) - (Int32.ofInt (1))))) 76) - (Int32.ofInt (1)))).toNatClampNeg) - (c 80 (((upd g 76 (((g 76) - (Int32.ofInt (1))))) 76)).toNatClampNeg))))) l R) : rr b e d 455 214 [(0, .ref 49)] [] g q c l R := by
  obtain ⟨f, h⟩ := h
  refine ⟨f + 27, ?_⟩
  obtain ⟨y, cb, hj⟩ := mq_455
  rw [n_step (st' := [.ref 49]) (pc' := 215) (lv' := [(0, .ref 49)]) (hp' := rH e g q c l) (i := .aload_n 0) (len := 1) rfl hj rfl rfl rfl]
  rw [n_step (st' := [.ref 49, .ref 49]) (pc' := 216) (lv' := [(0, .ref 49)]) (hp' := rH e g q c l) (i := .aload_n 0) (len := 1) rfl hj rfl rfl rfl]
  rw [n_get (st' := [.int (g 76), .ref 49]) (pc' := 219) (lv' := [(0, .ref 49)]) (hp' := rH e g q c l) (i := .getfield 602) (len := 3) rfl hj rfl rfl rfl rfl]
  rw [n_step (st' := [.int (Int32.ofInt (1)), .int (g 76), .ref 49]) (pc' := 220) (lv' := [(0, .ref 49)]) (hp' := rH e g q c l) (i := .iconst 1) (len := 1) rfl hj rfl rfl rfl]
  rw [n_step (st' := [.int ((g 76) - (Int32.ofInt (1))), .ref 49]) (pc' := 221) (lv' := [(0, .ref 49)]) (hp' := rH e g q c l) (i := .isub) (len := 1) rfl hj rfl rfl rfl]
  rw [n_put (st' := []) (hp' := rH e (upd g 76 (((g 76) - (Int32.ofInt (1))))) q c l) rfl hj pf_76]
  rw [n_step (st' := [.ref 49]) (pc' := 225) (lv' := [(0, .ref 49)]) (hp' := rH e (upd g 76 (((g 76) - (Int32.ofInt (1))))) q c l) (i := .aload_n 0) (len := 1) rfl hj rfl rfl rfl]
  rw [n_get (st' := [.ref 80]) (pc' := 228) (lv' := [(0, .ref 49)]) (hp' := rH e (upd g 76 (((g 76) - (Int32.ofInt (1))))) q c l) (i := .getfield 110) (len := 3) rfl hj rfl rfl rfl rfl]
  rw [n_step (st' := [.ref 49, .ref 80]) (pc' := 229) (lv' := [(0, .ref 49)]) (hp' := rH e (upd g 76 (((g 76) - (Int32.ofInt (1))))) q c l) (i := .aload_n 0) (len := 1) rfl hj rfl rfl rfl]
  rw [n_get (st' := [.int ((upd g 76 (((g 76) - (Int32.ofInt (1))))) 76), .ref 80]) (pc' := 232) (lv' := [(0, .ref 49)]) (hp' := rH e (upd g 76 (((g 76) - (Int32.ofInt (1))))) q c l) (i := .getfield 602) (len := 3) rfl hj rfl rfl rfl rfl]
  rw [n_step (st' := [.int (Int32.ofInt (1)), .int ((upd g 76 (((g 76) - (Int32.ofInt (1))))) 76), .ref 80]) (pc' := 233) (lv' := [(0, .ref 49)]) (hp' := rH e (upd g 76 (((g 76) - (Int32.ofInt (1))))) q c l) (i := .iconst 1) (len := 1) rfl hj rfl rfl rfl]
  rw [n_step (st' := [.int (((upd g 76 (((g 76) - (Int32.ofInt (1))))) 76) - (Int32.ofInt (1))), .ref 80]) (pc' := 234) (lv' := [(0, .ref 49)]) (hp' := rH e (upd g 76 (((g 76) - (Int32.ofInt (1))))) q c l) (i := .isub) (len := 1) rfl hj rfl rfl rfl]
  rw [n_step (st' := [.ref 49, .int (((upd g 76 (((g 76) - (Int32.ofInt (1))))) 76) - (Int32.ofInt (1))), .ref 80]) (pc' := 235) (lv' := [(0, .ref 49)]) (hp' := rH e (upd g 76 (((g 76) - (Int32.ofInt (1))))) q c l) (i := .aload_n 0) (len := 1) rfl hj rfl rfl rfl]
  rw [n_get (st' := [.ref 80, .int (((upd g 76 (((g 76) - (Int32.ofInt (1))))) 76) - (Int32.ofInt (1))), .ref 80]) (pc' := 238) (lv' := [(0, .ref 49)]) (hp' := rH e (upd g 76 (((g 76) - (Int32.ofInt (1))))) q c l) (i := .getfield 110) (len := 3) rfl hj rfl rfl rfl rfl]
  rw [n_step (st' := [.ref 49, .ref 80, .int (((upd g 76 (((g 76) - (Int32.ofInt (1))))) 76) - (Int32.ofInt (1))), .ref 80]) (pc' := 239) (lv' := [(0, .ref 49)]) (hp' := rH e (upd g 76 (((g 76) - (Int32.ofInt (1))))) q c l) (i := .aload_n 0) (len := 1) rfl hj rfl rfl rfl]
  rw [n_get (st' := [.int ((upd g 76 (((g 76) - (Int32.ofInt (1))))) 76), .ref 80, .int (((upd g 76 (((g 76) - (Int32.ofInt (1))))) 76) - (Int32.ofInt (1))), .ref 80]) (pc' := 242) (lv' := [(0, .ref 49)]) (hp' := rH e (upd g 76 (((g 76) - (Int32.ofInt (1))))) q c l) (i := .getfield 602) (len := 3) rfl hj rfl rfl rfl rfl]
  rw [n_step (st' := [.int (Int32.ofInt (1)), .int ((upd g 76 (((g 76) - (Int32.ofInt (1))))) 76), .ref 80, .int (((upd g 76 (((g 76) - (Int32.ofInt (1))))) 76) - (Int32.ofInt (1))), .ref 80]) (pc' := 243) (lv' := [(0, .ref 49)]) (hp' := rH e (upd g 76 (((g 76) - (Int32.ofInt (1))))) q c l) (i := .iconst 1) (len := 1) rfl hj rfl rfl rfl]
  rw [n_step (st' := [.int (((upd g 76 (((g 76) - (Int32.ofInt (1))))) 76) - (Int32.ofInt (1))), .ref 80, .int (((upd g 76 (((g 76) - (Int32.ofInt (1))))) 76) - (Int32.ofInt (1))), .ref 80]) (pc' := 244) (lv' := [(0, .ref 49)]) (hp' := rH e (upd g 76 (((g 76) - (Int32.ofInt (1))))) q c l) (i := .isub) (len := 1) rfl hj rfl rfl rfl]
  rw [n_ial (st' := [.int (c 80 ((((upd g 76 (((g 76) - (Int32.ofInt (1))))) 76) - (Int32.ofInt (1)))).toNatClampNeg), .int (((upd g 76 (((g 76) - (Int32.ofInt (1))))) 76) - (Int32.ofInt (1))), .ref 80]) rfl hj (ald_80 hz0)]
  rw [n_step (st' := [.ref 49, .int (c 80 ((((upd g 76 (((g 76) - (Int32.ofInt (1))))) 76) - (Int32.ofInt (1)))).toNatClampNeg), .int (((upd g 76 (((g 76) - (Int32.ofInt (1))))) 76) - (Int32.ofInt (1))), .ref 80]) (pc' := 246) (lv' := [(0, .ref 49)]) (hp' := rH e (upd g 76 (((g 76) - (Int32.ofInt (1))))) q c l) (i := .aload_n 0) (len := 1) rfl hj rfl rfl rfl]
  rw [n_get (st' := [.ref 80, .int (c 80 ((((upd g 76 (((g 76) - (Int32.ofInt (1))))) 76) - (Int32.ofInt (1)))).toNatClampNeg), .int (((upd g 76 (((g 76) - (Int32.ofInt (1))))) 76) - (Int32.ofInt (1))), .ref 80]) (pc' := 249) (lv' := [(0, .ref 49)]) (hp' := rH e (upd g 76 (((g 76) - (Int32.ofInt (1))))) q c l) (i := .getfield 110) (len := 3) rfl hj rfl rfl rfl rfl]
  rw [n_step (st' := [.ref 49, .ref 80, .int (c 80 ((((upd g 76 (((g 76) - (Int32.ofInt (1))))) 76) - (Int32.ofInt (1)))).toNatClampNeg), .int (((upd g 76 (((g 76) - (Int32.ofInt (1))))) 76) - (Int32.ofInt (1))), .ref 80]) (pc' := 250) (lv' := [(0, .ref 49)]) (hp' := rH e (upd g 76 (((g 76) - (Int32.ofInt (1))))) q c l) (i := .aload_n 0) (len := 1) rfl hj rfl rfl rfl]
  rw [n_get (st' := [.int ((upd g 76 (((g 76) - (Int32.ofInt (1))))) 76), .ref 80, .int (c 80 ((((upd g 76 (((g 76) - (Int32.ofInt (1))))) 76) - (Int32.ofInt (1)))).toNatClampNeg), .int (((upd g 76 (((g 76) - (Int32.ofInt (1))))) 76) - (Int32.ofInt (1))), .ref 80]) (pc' := 253) (lv' := [(0, .ref 49)]) (hp' := rH e (upd g 76 (((g 76) - (Int32.ofInt (1))))) q c l) (i := .getfield 602) (len := 3) rfl hj rfl rfl rfl rfl]
  rw [n_ial (st' := [.int (c 80 (((upd g 76 (((g 76) - (Int32.ofInt (1))))) 76)).toNatClampNeg), .int (c 80 ((((upd g 76 (((g 76) - (Int32.ofInt (1))))) 76) - (Int32.ofInt (1)))).toNatClampNeg), .int (((upd g 76 (((g 76) - (Int32.ofInt (1))))) 76) - (Int32.ofInt (1))), .ref 80]) rfl hj (ald_80 hz1)]
  rw [n_step (st' := [.int ((c 80 ((((upd g 76 (((g 76) - (Int32.ofInt (1))))) 76) - (Int32.ofInt (1)))).toNatClampNeg) - (c 80 (((upd g 76 (((g 76) - (Int32.ofInt (1))))) 76)).toNatClampNeg)), .int (((upd g 76 (((g 76) - (Int32.ofInt (1))))) 76) - (Int32.ofInt (1))), .ref 80]) (pc' := 255) (lv' := [(0, .ref 49)]) (hp' := rH e (upd g 76 (((g 76) - (Int32.ofInt (1))))) q c l) (i := .isub) (len := 1) rfl hj rfl rfl rfl]
  rw [n_ias (st' := []) (hp' := rH e (upd g 76 (((g 76) - (Int32.ofInt (1))))) q (updA c 80 (upd (c 80) ((((upd g 76 (((g 76) - (Int32.ofInt (1))))) 76) - (Int32.ofInt (1)))).toNatClampNeg (((c 80 ((((upd g 76 (((g 76) - (Int32.ofInt (1))))) 76) - (Int32.ofInt (1)))).toNatClampNeg) - (c 80 (((upd g 76 (((g 76) - (Int32.ofInt (1))))) 76)).toNatClampNeg))))) l) rfl hj (ast_80 hz2)]
  rw [n_step (st' := []) (pc' := 317) (lv' := [(0, .ref 49)]) (hp' := rH e (upd g 76 (((g 76) - (Int32.ofInt (1))))) q (updA c 80 (upd (c 80) ((((upd g 76 (((g 76) - (Int32.ofInt (1))))) 76) - (Int32.ofInt (1)))).toNatClampNeg (((c 80 ((((upd g 76 (((g 76) - (Int32.ofInt (1))))) 76) - (Int32.ofInt (1)))).toNatClampNeg) - (c 80 (((upd g 76 (((g 76) - (Int32.ofInt (1))))) 76)).toNatClampNeg))))) l) (i := .goto 61) (len := 3) rfl hj rfl rfl rfl]
  exact nrun_ext f f _ _ R 455 317 [] [(0, .ref 49)] [] _ 0 0 122 (Nat.le_refl _) (Nat.le_refl _) (Nat.le_of_ble_eq_true rfl) (lvR_mk [] [0] rfl rfl (by decide) (by decide) (fun _ h => nomatch h) (List.forall_mem_cons.mpr ⟨Or.inr rfl, (fun _ h => nomatch h)⟩)) h
set_option maxRecDepth 100000 in
set_option maxHeartbeats 4000000 in
theorem bk_455_259 {b : Bool} {d : Nat} {e : Nat → x_E} {g : Nat → Int32} {q : Nat → Int64} {c : Nat → Nat → Int32} {l : Nat → Nat → Int64} {R : Option Value × List x_E} (hz0 : ¬ ((((upd g 76 (((g 76) - (Int32.ofInt (1))))) 76) - (Int32.ofInt (1))) < 0 ∨ 1500000 ≤ ((((upd g 76 (((g 76) - (Int32.ofInt (1))))) 76) - (Int32.ofInt (1)))).toNatClampNeg)) (hz1 : ¬ (((upd g 76 (((g 76) - (Int32.ofInt (1))))) 76) < 0 ∨ 1500000 ≤ (((upd g 76 (((g 76) - (Int32.ofInt (1))))) 76)).toNatClampNeg)) (hz2 : ¬ ((((upd g 76 (((g 76) - (Int32.ofInt (1))))) 76) - (Int32.ofInt (1))) < 0 ∨ 1500000 ≤ ((((upd g 76 (((g 76) - (Int32.ofInt (1))))) 76) - (Int32.ofInt (1)))).toNatClampNeg)) (h : rr b e d 455 317 [] [] (upd g 76 (((g 76) - (Int32.ofInt (1))))) q (updA c 80 (upd (c 80) ((((upd g 76 (((g 76) - (Int32.ofInt (1))))) 76) - (Int32.ofInt (1)))).toNatClampNeg (((c 80 ((((upd g 76 (((g 76) - (Int32.ofInt (1))))) 76) - (Int32.ofInt (1)))).toNatClampNeg) * (c 80 (((upd g 76 (((g 76) - (Int32.ofInt (1))))) 76)).toNatClampNeg))))) l R) : rr b e d 455 259 [(0, .ref 49)] [] g q c l R := by
  obtain ⟨f, h⟩ := h
  refine ⟨f + 27, ?_⟩
  obtain ⟨y, cb, hj⟩ := mq_455
  rw [n_step (st' := [.ref 49]) (pc' := 260) (lv' := [(0, .ref 49)]) (hp' := rH e g q c l) (i := .aload_n 0) (len := 1) rfl hj rfl rfl rfl]
  rw [n_step (st' := [.ref 49, .ref 49]) (pc' := 261) (lv' := [(0, .ref 49)]) (hp' := rH e g q c l) (i := .aload_n 0) (len := 1) rfl hj rfl rfl rfl]
  rw [n_get (st' := [.int (g 76), .ref 49]) (pc' := 264) (lv' := [(0, .ref 49)]) (hp' := rH e g q c l) (i := .getfield 602) (len := 3) rfl hj rfl rfl rfl rfl]
  rw [n_step (st' := [.int (Int32.ofInt (1)), .int (g 76), .ref 49]) (pc' := 265) (lv' := [(0, .ref 49)]) (hp' := rH e g q c l) (i := .iconst 1) (len := 1) rfl hj rfl rfl rfl]
  rw [n_step (st' := [.int ((g 76) - (Int32.ofInt (1))), .ref 49]) (pc' := 266) (lv' := [(0, .ref 49)]) (hp' := rH e g q c l) (i := .isub) (len := 1) rfl hj rfl rfl rfl]
  rw [n_put (st' := []) (hp' := rH e (upd g 76 (((g 76) - (Int32.ofInt (1))))) q c l) rfl hj pf_76]
  rw [n_step (st' := [.ref 49]) (pc' := 270) (lv' := [(0, .ref 49)]) (hp' := rH e (upd g 76 (((g 76) - (Int32.ofInt (1))))) q c l) (i := .aload_n 0) (len := 1) rfl hj rfl rfl rfl]
  rw [n_get (st' := [.ref 80]) (pc' := 273) (lv' := [(0, .ref 49)]) (hp' := rH e (upd g 76 (((g 76) - (Int32.ofInt (1))))) q c l) (i := .getfield 110) (len := 3) rfl hj rfl rfl rfl rfl]
  rw [n_step (st' := [.ref 49, .ref 80]) (pc' := 274) (lv' := [(0, .ref 49)]) (hp' := rH e (upd g 76 (((g 76) - (Int32.ofInt (1))))) q c l) (i := .aload_n 0) (len := 1) rfl hj rfl rfl rfl]
  rw [n_get (st' := [.int ((upd g 76 (((g 76) - (Int32.ofInt (1))))) 76), .ref 80]) (pc' := 277) (lv' := [(0, .ref 49)]) (hp' := rH e (upd g 76 (((g 76) - (Int32.ofInt (1))))) q c l) (i := .getfield 602) (len := 3) rfl hj rfl rfl rfl rfl]
  rw [n_step (st' := [.int (Int32.ofInt (1)), .int ((upd g 76 (((g 76) - (Int32.ofInt (1))))) 76), .ref 80]) (pc' := 278) (lv' := [(0, .ref 49)]) (hp' := rH e (upd g 76 (((g 76) - (Int32.ofInt (1))))) q c l) (i := .iconst 1) (len := 1) rfl hj rfl rfl rfl]
  rw [n_step (st' := [.int (((upd g 76 (((g 76) - (Int32.ofInt (1))))) 76) - (Int32.ofInt (1))), .ref 80]) (pc' := 279) (lv' := [(0, .ref 49)]) (hp' := rH e (upd g 76 (((g 76) - (Int32.ofInt (1))))) q c l) (i := .isub) (len := 1) rfl hj rfl rfl rfl]
  rw [n_step (st' := [.ref 49, .int (((upd g 76 (((g 76) - (Int32.ofInt (1))))) 76) - (Int32.ofInt (1))), .ref 80]) (pc' := 280) (lv' := [(0, .ref 49)]) (hp' := rH e (upd g 76 (((g 76) - (Int32.ofInt (1))))) q c l) (i := .aload_n 0) (len := 1) rfl hj rfl rfl rfl]
  rw [n_get (st' := [.ref 80, .int (((upd g 76 (((g 76) - (Int32.ofInt (1))))) 76) - (Int32.ofInt (1))), .ref 80]) (pc' := 283) (lv' := [(0, .ref 49)]) (hp' := rH e (upd g 76 (((g 76) - (Int32.ofInt (1))))) q c l) (i := .getfield 110) (len := 3) rfl hj rfl rfl rfl rfl]
  rw [n_step (st' := [.ref 49, .ref 80, .int (((upd g 76 (((g 76) - (Int32.ofInt (1))))) 76) - (Int32.ofInt (1))), .ref 80]) (pc' := 284) (lv' := [(0, .ref 49)]) (hp' := rH e (upd g 76 (((g 76) - (Int32.ofInt (1))))) q c l) (i := .aload_n 0) (len := 1) rfl hj rfl rfl rfl]
  rw [n_get (st' := [.int ((upd g 76 (((g 76) - (Int32.ofInt (1))))) 76), .ref 80, .int (((upd g 76 (((g 76) - (Int32.ofInt (1))))) 76) - (Int32.ofInt (1))), .ref 80]) (pc' := 287) (lv' := [(0, .ref 49)]) (hp' := rH e (upd g 76 (((g 76) - (Int32.ofInt (1))))) q c l) (i := .getfield 602) (len := 3) rfl hj rfl rfl rfl rfl]
  rw [n_step (st' := [.int (Int32.ofInt (1)), .int ((upd g 76 (((g 76) - (Int32.ofInt (1))))) 76), .ref 80, .int (((upd g 76 (((g 76) - (Int32.ofInt (1))))) 76) - (Int32.ofInt (1))), .ref 80]) (pc' := 288) (lv' := [(0, .ref 49)]) (hp' := rH e (upd g 76 (((g 76) - (Int32.ofInt (1))))) q c l) (i := .iconst 1) (len := 1) rfl hj rfl rfl rfl]
  rw [n_step (st' := [.int (((upd g 76 (((g 76) - (Int32.ofInt (1))))) 76) - (Int32.ofInt (1))), .ref 80, .int (((upd g 76 (((g 76) - (Int32.ofInt (1))))) 76) - (Int32.ofInt (1))), .ref 80]) (pc' := 289) (lv' := [(0, .ref 49)]) (hp' := rH e (upd g 76 (((g 76) - (Int32.ofInt (1))))) q c l) (i := .isub) (len := 1) rfl hj rfl rfl rfl]
  rw [n_ial (st' := [.int (c 80 ((((upd g 76 (((g 76) - (Int32.ofInt (1))))) 76) - (Int32.ofInt (1)))).toNatClampNeg), .int (((upd g 76 (((g 76) - (Int32.ofInt (1))))) 76) - (Int32.ofInt (1))), .ref 80]) rfl hj (ald_80 hz0)]
  rw [n_step (st' := [.ref 49, .int (c 80 ((((upd g 76 (((g 76) - (Int32.ofInt (1))))) 76) - (Int32.ofInt (1)))).toNatClampNeg), .int (((upd g 76 (((g 76) - (Int32.ofInt (1))))) 76) - (Int32.ofInt (1))), .ref 80]) (pc' := 291) (lv' := [(0, .ref 49)]) (hp' := rH e (upd g 76 (((g 76) - (Int32.ofInt (1))))) q c l) (i := .aload_n 0) (len := 1) rfl hj rfl rfl rfl]
  rw [n_get (st' := [.ref 80, .int (c 80 ((((upd g 76 (((g 76) - (Int32.ofInt (1))))) 76) - (Int32.ofInt (1)))).toNatClampNeg), .int (((upd g 76 (((g 76) - (Int32.ofInt (1))))) 76) - (Int32.ofInt (1))), .ref 80]) (pc' := 294) (lv' := [(0, .ref 49)]) (hp' := rH e (upd g 76 (((g 76) - (Int32.ofInt (1))))) q c l) (i := .getfield 110) (len := 3) rfl hj rfl rfl rfl rfl]
  rw [n_step (st' := [.ref 49, .ref 80, .int (c 80 ((((upd g 76 (((g 76) - (Int32.ofInt (1))))) 76) - (Int32.ofInt (1)))).toNatClampNeg), .int (((upd g 76 (((g 76) - (Int32.ofInt (1))))) 76) - (Int32.ofInt (1))), .ref 80]) (pc' := 295) (lv' := [(0, .ref 49)]) (hp' := rH e (upd g 76 (((g 76) - (Int32.ofInt (1))))) q c l) (i := .aload_n 0) (len := 1) rfl hj rfl rfl rfl]
  rw [n_get (st' := [.int ((upd g 76 (((g 76) - (Int32.ofInt (1))))) 76), .ref 80, .int (c 80 ((((upd g 76 (((g 76) - (Int32.ofInt (1))))) 76) - (Int32.ofInt (1)))).toNatClampNeg), .int (((upd g 76 (((g 76) - (Int32.ofInt (1))))) 76) - (Int32.ofInt (1))), .ref 80]) (pc' := 298) (lv' := [(0, .ref 49)]) (hp' := rH e (upd g 76 (((g 76) - (Int32.ofInt (1))))) q c l) (i := .getfield 602) (len := 3) rfl hj rfl rfl rfl rfl]
  rw [n_ial (st' := [.int (c 80 (((upd g 76 (((g 76) - (Int32.ofInt (1))))) 76)).toNatClampNeg), .int (c 80 ((((upd g 76 (((g 76) - (Int32.ofInt (1))))) 76) - (Int32.ofInt (1)))).toNatClampNeg), .int (((upd g 76 (((g 76) - (Int32.ofInt (1))))) 76) - (Int32.ofInt (1))), .ref 80]) rfl hj (ald_80 hz1)]
  rw [n_step (st' := [.int ((c 80 ((((upd g 76 (((g 76) - (Int32.ofInt (1))))) 76) - (Int32.ofInt (1)))).toNatClampNeg) * (c 80 (((upd g 76 (((g 76) - (Int32.ofInt (1))))) 76)).toNatClampNeg)), .int (((upd g 76 (((g 76) - (Int32.ofInt (1))))) 76) - (Int32.ofInt (1))), .ref 80]) (pc' := 300) (lv' := [(0, .ref 49)]) (hp' := rH e (upd g 76 (((g 76) - (Int32.ofInt (1))))) q c l) (i := .imul) (len := 1) rfl hj rfl rfl rfl]
  rw [n_ias (st' := []) (hp' := rH e (upd g 76 (((g 76) - (Int32.ofInt (1))))) q (updA c 80 (upd (c 80) ((((upd g 76 (((g 76) - (Int32.ofInt (1))))) 76) - (Int32.ofInt (1)))).toNatClampNeg (((c 80 ((((upd g 76 (((g 76) - (Int32.ofInt (1))))) 76) - (Int32.ofInt (1)))).toNatClampNeg) * (c 80 (((upd g 76 (((g 76) - (Int32.ofInt (1))))) 76)).toNatClampNeg))))) l) rfl hj (ast_80 hz2)]
  rw [n_step (st' := []) (pc' := 317) (lv' := [(0, .ref 49)]) (hp' := rH e (upd g 76 (((g 76) - (Int32.ofInt (1))))) q (updA c 80 (upd (c 80) ((((upd g 76 (((g 76) - (Int32.ofInt (1))))) 76) - (Int32.ofInt (1)))).toNatClampNeg (((c 80 ((((upd g 76 (((g 76) - (Int32.ofInt (1))))) 76) - (Int32.ofInt (1)))).toNatClampNeg) * (c 80 (((upd g 76 (((g 76) - (Int32.ofInt (1))))) 76)).toNatClampNeg))))) l) (i := .goto 16) (len := 3) rfl hj rfl rfl rfl]
  exact nrun_ext f f _ _ R 455 317 [] [(0, .ref 49)] [] _ 0 0 122 (Nat.le_refl _) (Nat.le_refl _) (Nat.le_of_ble_eq_true rfl) (lvR_mk [] [0] rfl rfl (by decide) (by decide) (fun _ h => nomatch h) (List.forall_mem_cons.mpr ⟨Or.inr rfl, (fun _ h => nomatch h)⟩)) h
set_option maxRecDepth 100000 in
set_option maxHeartbeats 4000000 in
theorem bk_455_304 {b : Bool} {d : Nat} {e : Nat → x_E} {g : Nat → Int32} {q : Nat → Int64} {c : Nat → Nat → Int32} {l : Nat → Nat → Int64} {R : Option Value × List x_E} (h : rr b e d 455 317 [] [] (upd g 76 (((g 76) - (Int32.ofInt (1))))) q c l R) : rr b e d 455 304 [(0, .ref 49)] [] g q c l R := by
  obtain ⟨f, h⟩ := h
  refine ⟨f + 7, ?_⟩
  obtain ⟨y, cb, hj⟩ := mq_455
  rw [n_step (st' := [.ref 49]) (pc' := 305) (lv' := [(0, .ref 49)]) (hp' := rH e g q c l) (i := .aload_n 0) (len := 1) rfl hj rfl rfl rfl]
  rw [n_step (st' := [.ref 49, .ref 49]) (pc' := 306) (lv' := [(0, .ref 49)]) (hp' := rH e g q c l) (i := .aload_n 0) (len := 1) rfl hj rfl rfl rfl]
  rw [n_get (st' := [.int (g 76), .ref 49]) (pc' := 309) (lv' := [(0, .ref 49)]) (hp' := rH e g q c l) (i := .getfield 602) (len := 3) rfl hj rfl rfl rfl rfl]
  rw [n_step (st' := [.int (Int32.ofInt (1)), .int (g 76), .ref 49]) (pc' := 310) (lv' := [(0, .ref 49)]) (hp' := rH e g q c l) (i := .iconst 1) (len := 1) rfl hj rfl rfl rfl]
  rw [n_step (st' := [.int ((g 76) - (Int32.ofInt (1))), .ref 49]) (pc' := 311) (lv' := [(0, .ref 49)]) (hp' := rH e g q c l) (i := .isub) (len := 1) rfl hj rfl rfl rfl]
  rw [n_put (st' := []) (hp' := rH e (upd g 76 (((g 76) - (Int32.ofInt (1))))) q c l) rfl hj pf_76]
  rw [n_step (st' := []) (pc' := 317) (lv' := [(0, .ref 49)]) (hp' := rH e (upd g 76 (((g 76) - (Int32.ofInt (1))))) q c l) (i := .goto 3) (len := 3) rfl hj rfl rfl rfl]
  exact nrun_ext f f _ _ R 455 317 [] [(0, .ref 49)] [] _ 0 0 122 (Nat.le_refl _) (Nat.le_refl _) (Nat.le_of_ble_eq_true rfl) (lvR_mk [] [0] rfl rfl (by decide) (by decide) (fun _ h => nomatch h) (List.forall_mem_cons.mpr ⟨Or.inr rfl, (fun _ h => nomatch h)⟩)) h
set_option maxRecDepth 100000 in
set_option maxHeartbeats 4000000 in
theorem bk_455_317 {b : Bool} {d : Nat} {e : Nat → x_E} {g : Nat → Int32} {q : Nat → Int64} {c : Nat → Nat → Int32} {l : Nat → Nat → Int64} : rr b e d 455 317 [] [] g q c l (none, rH e g q c l) := by
  refine ⟨0 + 1, ?_⟩
  obtain ⟨y, cb, hj⟩ := mq_455
  exact n_ret rfl hj rfl rfl rfl
set_option maxRecDepth 100000 in
set_option maxHeartbeats 4000000 in
theorem bk_456_0 {b : Bool} {d : Nat} {x1 : Int32} {e : Nat → x_E} {g : Nat → Int32} {q : Nat → Int64} {c : Nat → Nat → Int32} {l : Nat → Nat → Int64} {R : Option Value × List x_E} (hz0 : ¬ (x1 < 0 ∨ 4000 ≤ (x1).toNatClampNeg)) (hd : (((c 62 (x1).toNatClampNeg)).toInt < 2 ∨ 14 < ((c 62 (x1).toNatClampNeg)).toInt) → rr b e d 456 121 [(1, .int x1)] [] g q c l R) (h_2 : ((c 62 (x1).toNatClampNeg)) = 2 → rr b e d 456 72 [(0, .ref 49), (1, .int x1)] [] g q c l R) (h_3 : ((c 62 (x1).toNatClampNeg)) = 3 → rr b e d 456 121 [(1, .int x1)] [] g q c l R) (h_4 : ((c 62 (x1).toNatClampNeg)) = 4 → rr b e d 456 121 [(1, .int x1)] [] g q c l R) (h_5 : ((c 62 (x1).toNatClampNeg)) = 5 → rr b e d 456 121 [(1, .int x1)] [] g q c l R) (h_6 : ((c 62 (x1).toNatClampNeg)) = 6 → rr b e d 456 121 [(1, .int x1)] [] g q c l R) (h_7 : ((c 62 (x1).toNatClampNeg)) = 7 → rr b e d 456 121 [(1, .int x1)] [] g q c l R) (h_8 : ((c 62 (x1).toNatClampNeg)) = 8 → rr b e d 456 79 [(0, .ref 49), (1, .int x1)] [] g q c l R) (h_9 : ((c 62 (x1).toNatClampNeg)) = 9 → rr b e d 456 72 [(0, .ref 49), (1, .int x1)] [] g q c l R) (h_10 : ((c 62 (x1).toNatClampNeg)) = 10 → rr b e d 456 121 [(1, .int x1)] [] g q c l R) (h_11 : ((c 62 (x1).toNatClampNeg)) = 11 → rr b e d 456 121 [(1, .int x1)] [] g q c l R) (h_12 : ((c 62 (x1).toNatClampNeg)) = 12 → rr b e d 456 104 [(0, .ref 49)] [] g q c l R) (h_13 : ((c 62 (x1).toNatClampNeg)) = 13 → rr b e d 456 104 [(0, .ref 49)] [] g q c l R) (h_14 : ((c 62 (x1).toNatClampNeg)) = 14 → rr b e d 456 109 [(0, .ref 49)] [] g q c l R) : rr b e d 456 0 [(0, .ref 49), (1, .int x1)] [] g q c l R := by
  have key : ∀ f t, (xTab 115 2 14 #[66, 115, 115, 115, 115, 115, 73, 66, 115, 115, 98, 98, 103] ((c 62 (x1).toNatClampNeg))) = some t → ∀ p, xTg 6 t = some p → nrun xZ (xY (xfm b)) xDT (f + 5) d 456 0 [(0, .ref 49), (1, .int x1)] [] (rH e g q c l) 0 0 = nrun xZ (xY (xfm b)) xDT f d 456 p [(0, .ref 49), (1, .int x1)] [] (rH e g q c l) 0 0 := by
    intro f t ht p hp
    obtain ⟨y, cb, hj⟩ := mq_456
    rw [n_step (st' := [.ref 49]) (pc' := 1) (lv' := [(0, .ref 49), (1, .int x1)]) (hp' := rH e g q c l) (i := .aload_n 0) (len := 1) rfl hj rfl rfl rfl]
    rw [n_get (st' := [.ref 62]) (pc' := 4) (lv' := [(0, .ref 49), (1, .int x1)]) (hp' := rH e g q c l) (i := .getfield 53) (len := 3) rfl hj rfl rfl rfl rfl]
    rw [n_step (st' := [.int x1, .ref 62]) (pc' := 5) (lv' := [(0, .ref 49), (1, .int x1)]) (hp' := rH e g q c l) (i := .iload_n 1) (len := 1) rfl hj rfl rfl rfl]
    rw [n_ial (st' := [.int (c 62 (x1).toNatClampNeg)]) rfl hj (ald_62 hz0)]
    rw [n_step (st' := []) (pc' := p) (lv' := [(0, .ref 49), (1, .int x1)]) (hp' := rH e g q c l) (i := .tableswitch 115 2 14 #[66, 115, 115, 115, 115, 115, 73, 66, 115, 115, 98, 98, 103]) (len := 66) rfl hj rfl rfl (x_sw ht hp)]
  by_cases hc : ((c 62 (x1).toNatClampNeg)).toInt < 2 ∨ 14 < ((c 62 (x1).toNatClampNeg)).toInt
  · obtain ⟨f, h⟩ := hd hc
    refine ⟨f + 5, ?_⟩
    rw [key f (115) (by unfold xTab; rw [if_pos hc]) 121 rfl]
    exact nrun_ext f f _ _ R 456 121 [(1, .int x1)] [(0, .ref 49), (1, .int x1)] [] _ 0 0 122 (Nat.le_refl _) (Nat.le_refl _) (Nat.le_of_ble_eq_true rfl) (lvR_mk [1] [0, 1] rfl rfl (by decide) (by decide) (List.forall_mem_cons.mpr ⟨(List.mem_cons_of_mem _ List.mem_cons_self), (fun _ h => nomatch h)⟩) (List.forall_mem_cons.mpr ⟨Or.inr rfl, (List.forall_mem_cons.mpr ⟨Or.inl List.mem_cons_self, (fun _ h => nomatch h)⟩)⟩)) h
  have hx : ((c 62 (x1).toNatClampNeg)).toInt = 2 ∨ ((c 62 (x1).toNatClampNeg)).toInt = 3 ∨ ((c 62 (x1).toNatClampNeg)).toInt = 4 ∨ ((c 62 (x1).toNatClampNeg)).toInt = 5 ∨ ((c 62 (x1).toNatClampNeg)).toInt = 6 ∨ ((c 62 (x1).toNatClampNeg)).toInt = 7 ∨ ((c 62 (x1).toNatClampNeg)).toInt = 8 ∨ ((c 62 (x1).toNatClampNeg)).toInt = 9 ∨ ((c 62 (x1).toNatClampNeg)).toInt = 10 ∨ ((c 62 (x1).toNatClampNeg)).toInt = 11 ∨ ((c 62 (x1).toNatClampNeg)).toInt = 12 ∨ ((c 62 (x1).toNatClampNeg)).toInt = 13 ∨ ((c 62 (x1).toNatClampNeg)).toInt = 14 := by omega
  rcases hx with hx | hx | hx | hx | hx | hx | hx | hx | hx | hx | hx | hx | hx
  · have hv : ((c 62 (x1).toNatClampNeg)) = 2 := Int32.toInt_inj.mp (hx.trans rfl)
    obtain ⟨f, h⟩ := h_2 hv
    refine ⟨f + 5, ?_⟩
    rw [key f (66) (by rw [hv]; rfl) 72 rfl]
    exact h
  · have hv : ((c 62 (x1).toNatClampNeg)) = 3 := Int32.toInt_inj.mp (hx.trans rfl)
    obtain ⟨f, h⟩ := h_3 hv
    refine ⟨f + 5, ?_⟩
    rw [key f (115) (by rw [hv]; rfl) 121 rfl]
    exact nrun_ext f f _ _ R 456 121 [(1, .int x1)] [(0, .ref 49), (1, .int x1)] [] _ 0 0 122 (Nat.le_refl _) (Nat.le_refl _) (Nat.le_of_ble_eq_true rfl) (lvR_mk [1] [0, 1] rfl rfl (by decide) (by decide) (List.forall_mem_cons.mpr ⟨(List.mem_cons_of_mem _ List.mem_cons_self), (fun _ h => nomatch h)⟩) (List.forall_mem_cons.mpr ⟨Or.inr rfl, (List.forall_mem_cons.mpr ⟨Or.inl List.mem_cons_self, (fun _ h => nomatch h)⟩)⟩)) h
  · have hv : ((c 62 (x1).toNatClampNeg)) = 4 := Int32.toInt_inj.mp (hx.trans rfl)
    obtain ⟨f, h⟩ := h_4 hv
    refine ⟨f + 5, ?_⟩
    rw [key f (115) (by rw [hv]; rfl) 121 rfl]
    exact nrun_ext f f _ _ R 456 121 [(1, .int x1)] [(0, .ref 49), (1, .int x1)] [] _ 0 0 122 (Nat.le_refl _) (Nat.le_refl _) (Nat.le_of_ble_eq_true rfl) (lvR_mk [1] [0, 1] rfl rfl (by decide) (by decide) (List.forall_mem_cons.mpr ⟨(List.mem_cons_of_mem _ List.mem_cons_self), (fun _ h => nomatch h)⟩) (List.forall_mem_cons.mpr ⟨Or.inr rfl, (List.forall_mem_cons.mpr ⟨Or.inl List.mem_cons_self, (fun _ h => nomatch h)⟩)⟩)) h
  · have hv : ((c 62 (x1).toNatClampNeg)) = 5 := Int32.toInt_inj.mp (hx.trans rfl)
    obtain ⟨f, h⟩ := h_5 hv
    refine ⟨f + 5, ?_⟩
    rw [key f (115) (by rw [hv]; rfl) 121 rfl]
    exact nrun_ext f f _ _ R 456 121 [(1, .int x1)] [(0, .ref 49), (1, .int x1)] [] _ 0 0 122 (Nat.le_refl _) (Nat.le_refl _) (Nat.le_of_ble_eq_true rfl) (lvR_mk [1] [0, 1] rfl rfl (by decide) (by decide) (List.forall_mem_cons.mpr ⟨(List.mem_cons_of_mem _ List.mem_cons_self), (fun _ h => nomatch h)⟩) (List.forall_mem_cons.mpr ⟨Or.inr rfl, (List.forall_mem_cons.mpr ⟨Or.inl List.mem_cons_self, (fun _ h => nomatch h)⟩)⟩)) h
  · have hv : ((c 62 (x1).toNatClampNeg)) = 6 := Int32.toInt_inj.mp (hx.trans rfl)
    obtain ⟨f, h⟩ := h_6 hv
    refine ⟨f + 5, ?_⟩
    rw [key f (115) (by rw [hv]; rfl) 121 rfl]
    exact nrun_ext f f _ _ R 456 121 [(1, .int x1)] [(0, .ref 49), (1, .int x1)] [] _ 0 0 122 (Nat.le_refl _) (Nat.le_refl _) (Nat.le_of_ble_eq_true rfl) (lvR_mk [1] [0, 1] rfl rfl (by decide) (by decide) (List.forall_mem_cons.mpr ⟨(List.mem_cons_of_mem _ List.mem_cons_self), (fun _ h => nomatch h)⟩) (List.forall_mem_cons.mpr ⟨Or.inr rfl, (List.forall_mem_cons.mpr ⟨Or.inl List.mem_cons_self, (fun _ h => nomatch h)⟩)⟩)) h
  · have hv : ((c 62 (x1).toNatClampNeg)) = 7 := Int32.toInt_inj.mp (hx.trans rfl)
    obtain ⟨f, h⟩ := h_7 hv
    refine ⟨f + 5, ?_⟩
    rw [key f (115) (by rw [hv]; rfl) 121 rfl]
    exact nrun_ext f f _ _ R 456 121 [(1, .int x1)] [(0, .ref 49), (1, .int x1)] [] _ 0 0 122 (Nat.le_refl _) (Nat.le_refl _) (Nat.le_of_ble_eq_true rfl) (lvR_mk [1] [0, 1] rfl rfl (by decide) (by decide) (List.forall_mem_cons.mpr ⟨(List.mem_cons_of_mem _ List.mem_cons_self), (fun _ h => nomatch h)⟩) (List.forall_mem_cons.mpr ⟨Or.inr rfl, (List.forall_mem_cons.mpr ⟨Or.inl List.mem_cons_self, (fun _ h => nomatch h)⟩)⟩)) h
  · have hv : ((c 62 (x1).toNatClampNeg)) = 8 := Int32.toInt_inj.mp (hx.trans rfl)
    obtain ⟨f, h⟩ := h_8 hv
    refine ⟨f + 5, ?_⟩
    rw [key f (73) (by rw [hv]; rfl) 79 rfl]
    exact h
  · have hv : ((c 62 (x1).toNatClampNeg)) = 9 := Int32.toInt_inj.mp (hx.trans rfl)
    obtain ⟨f, h⟩ := h_9 hv
    refine ⟨f + 5, ?_⟩
    rw [key f (66) (by rw [hv]; rfl) 72 rfl]
    exact h
  · have hv : ((c 62 (x1).toNatClampNeg)) = 10 := Int32.toInt_inj.mp (hx.trans rfl)
    obtain ⟨f, h⟩ := h_10 hv
    refine ⟨f + 5, ?_⟩
    rw [key f (115) (by rw [hv]; rfl) 121 rfl]
    exact nrun_ext f f _ _ R 456 121 [(1, .int x1)] [(0, .ref 49), (1, .int x1)] [] _ 0 0 122 (Nat.le_refl _) (Nat.le_refl _) (Nat.le_of_ble_eq_true rfl) (lvR_mk [1] [0, 1] rfl rfl (by decide) (by decide) (List.forall_mem_cons.mpr ⟨(List.mem_cons_of_mem _ List.mem_cons_self), (fun _ h => nomatch h)⟩) (List.forall_mem_cons.mpr ⟨Or.inr rfl, (List.forall_mem_cons.mpr ⟨Or.inl List.mem_cons_self, (fun _ h => nomatch h)⟩)⟩)) h
  · have hv : ((c 62 (x1).toNatClampNeg)) = 11 := Int32.toInt_inj.mp (hx.trans rfl)
    obtain ⟨f, h⟩ := h_11 hv
    refine ⟨f + 5, ?_⟩
    rw [key f (115) (by rw [hv]; rfl) 121 rfl]
    exact nrun_ext f f _ _ R 456 121 [(1, .int x1)] [(0, .ref 49), (1, .int x1)] [] _ 0 0 122 (Nat.le_refl _) (Nat.le_refl _) (Nat.le_of_ble_eq_true rfl) (lvR_mk [1] [0, 1] rfl rfl (by decide) (by decide) (List.forall_mem_cons.mpr ⟨(List.mem_cons_of_mem _ List.mem_cons_self), (fun _ h => nomatch h)⟩) (List.forall_mem_cons.mpr ⟨Or.inr rfl, (List.forall_mem_cons.mpr ⟨Or.inl List.mem_cons_self, (fun _ h => nomatch h)⟩)⟩)) h
  · have hv : ((c 62 (x1).toNatClampNeg)) = 12 := Int32.toInt_inj.mp (hx.trans rfl)
    obtain ⟨f, h⟩ := h_12 hv
    refine ⟨f + 5, ?_⟩
    rw [key f (98) (by rw [hv]; rfl) 104 rfl]
    exact nrun_ext f f _ _ R 456 104 [(0, .ref 49)] [(0, .ref 49), (1, .int x1)] [] _ 0 0 122 (Nat.le_refl _) (Nat.le_refl _) (Nat.le_of_ble_eq_true rfl) (lvR_mk [0] [0, 1] rfl rfl (by decide) (by decide) (List.forall_mem_cons.mpr ⟨List.mem_cons_self, (fun _ h => nomatch h)⟩) (List.forall_mem_cons.mpr ⟨Or.inl List.mem_cons_self, (List.forall_mem_cons.mpr ⟨Or.inr rfl, (fun _ h => nomatch h)⟩)⟩)) h
  · have hv : ((c 62 (x1).toNatClampNeg)) = 13 := Int32.toInt_inj.mp (hx.trans rfl)
    obtain ⟨f, h⟩ := h_13 hv
    refine ⟨f + 5, ?_⟩
    rw [key f (98) (by rw [hv]; rfl) 104 rfl]
    exact nrun_ext f f _ _ R 456 104 [(0, .ref 49)] [(0, .ref 49), (1, .int x1)] [] _ 0 0 122 (Nat.le_refl _) (Nat.le_refl _) (Nat.le_of_ble_eq_true rfl) (lvR_mk [0] [0, 1] rfl rfl (by decide) (by decide) (List.forall_mem_cons.mpr ⟨List.mem_cons_self, (fun _ h => nomatch h)⟩) (List.forall_mem_cons.mpr ⟨Or.inl List.mem_cons_self, (List.forall_mem_cons.mpr ⟨Or.inr rfl, (fun _ h => nomatch h)⟩)⟩)) h
  · have hv : ((c 62 (x1).toNatClampNeg)) = 14 := Int32.toInt_inj.mp (hx.trans rfl)
    obtain ⟨f, h⟩ := h_14 hv
    refine ⟨f + 5, ?_⟩
    rw [key f (103) (by rw [hv]; rfl) 109 rfl]
    exact nrun_ext f f _ _ R 456 109 [(0, .ref 49)] [(0, .ref 49), (1, .int x1)] [] _ 0 0 122 (Nat.le_refl _) (Nat.le_refl _) (Nat.le_of_ble_eq_true rfl) (lvR_mk [0] [0, 1] rfl rfl (by decide) (by decide) (List.forall_mem_cons.mpr ⟨List.mem_cons_self, (fun _ h => nomatch h)⟩) (List.forall_mem_cons.mpr ⟨Or.inl List.mem_cons_self, (List.forall_mem_cons.mpr ⟨Or.inr rfl, (fun _ h => nomatch h)⟩)⟩)) h
set_option maxRecDepth 100000 in
set_option maxHeartbeats 4000000 in
theorem bk_456_72 {b : Bool} {d : Nat} {x1 : Int32} {e : Nat → x_E} {g : Nat → Int32} {q : Nat → Int64} {c : Nat → Nat → Int32} {l : Nat → Nat → Int64} (hz0 : ¬ (x1 < 0 ∨ 4000 ≤ (x1).toNatClampNeg)) : rr b e d 456 72 [(0, .ref 49), (1, .int x1)] [] g q c l (some (.int (c 63 (x1).toNatClampNeg)), rH e g q c l) := by
  refine ⟨0 + 5, ?_⟩
  obtain ⟨y, cb, hj⟩ := mq_456
  rw [n_step (st' := [.ref 49]) (pc' := 73) (lv' := [(0, .ref 49), (1, .int x1)]) (hp' := rH e g q c l) (i := .aload_n 0) (len := 1) rfl hj rfl rfl rfl]
  rw [n_get (st' := [.ref 63]) (pc' := 76) (lv' := [(0, .ref 49), (1, .int x1)]) (hp' := rH e g q c l) (i := .getfield 56) (len := 3) rfl hj rfl rfl rfl rfl]
  rw [n_step (st' := [.int x1, .ref 63]) (pc' := 77) (lv' := [(0, .ref 49), (1, .int x1)]) (hp' := rH e g q c l) (i := .iload_n 1) (len := 1) rfl hj rfl rfl rfl]
  rw [n_ial (st' := [.int (c 63 (x1).toNatClampNeg)]) rfl hj (ald_63 hz0)]
  exact n_ret rfl hj rfl rfl (x_ret rfl)
set_option maxRecDepth 100000 in
set_option maxHeartbeats 4000000 in
theorem bk_456_79 {b : Bool} {d : Nat} {x1 : Int32} {e : Nat → x_E} {g : Nat → Int32} {q : Nat → Int64} {c : Nat → Nat → Int32} {l : Nat → Nat → Int64} {R : Option Value × List x_E} (hz0 : ¬ ((g 76) < 0 ∨ 1500000 ≤ ((g 76)).toNatClampNeg)) (h1 : xCn .ne ((c 80 ((g 76)).toNatClampNeg)) 0 = true → rr b e d 456 97 [(0, .ref 49), (1, .int x1)] [] g q c l R) (h2 : ¬ xCn .ne ((c 80 ((g 76)).toNatClampNeg)) 0 = true → rr b e d 456 91 [(1, .int x1)] [] g q c l R) : rr b e d 456 79 [(0, .ref 49), (1, .int x1)] [] g q c l R := by
  have key : ∀ f, nrun xZ (xY (xfm b)) xDT (f + 6) d 456 79 [(0, .ref 49), (1, .int x1)] [] (rH e g q c l) 0 0 = nrun xZ (xY (xfm b)) xDT f d 456 (if xCn .ne ((c 80 ((g 76)).toNatClampNeg)) 0 = true then 97 else 91) [(0, .ref 49), (1, .int x1)] [] (rH e g q c l) 0 0 := by
    intro f
    obtain ⟨y, cb, hj⟩ := mq_456
    rw [n_step (st' := [.ref 49]) (pc' := 80) (lv' := [(0, .ref 49), (1, .int x1)]) (hp' := rH e g q c l) (i := .aload_n 0) (len := 1) rfl hj rfl rfl rfl]
    rw [n_get (st' := [.ref 80]) (pc' := 83) (lv' := [(0, .ref 49), (1, .int x1)]) (hp' := rH e g q c l) (i := .getfield 110) (len := 3) rfl hj rfl rfl rfl rfl]
    rw [n_step (st' := [.ref 49, .ref 80]) (pc' := 84) (lv' := [(0, .ref 49), (1, .int x1)]) (hp' := rH e g q c l) (i := .aload_n 0) (len := 1) rfl hj rfl rfl rfl]
    rw [n_get (st' := [.int (g 76), .ref 80]) (pc' := 87) (lv' := [(0, .ref 49), (1, .int x1)]) (hp' := rH e g q c l) (i := .getfield 602) (len := 3) rfl hj rfl rfl rfl rfl]
    rw [n_ial (st' := [.int (c 80 ((g 76)).toNatClampNeg)]) rfl hj (ald_80 hz0)]
    rw [n_step (st' := []) (pc' := (if xCn .ne ((c 80 ((g 76)).toNatClampNeg)) 0 = true then 97 else 91)) (lv' := [(0, .ref 49), (1, .int x1)]) (hp' := rH e g q c l) (i := .ifCond .ne 9) (len := 3) rfl hj rfl rfl rfl]
  by_cases hc : xCn .ne ((c 80 ((g 76)).toNatClampNeg)) 0 = true
  · obtain ⟨f, h⟩ := h1 hc
    refine ⟨f + 6, ?_⟩
    rw [key, if_pos hc]
    exact h
  · obtain ⟨f, h⟩ := h2 hc
    refine ⟨f + 6, ?_⟩
    rw [key, if_neg hc]
    exact nrun_ext f f _ _ R 456 91 [(1, .int x1)] [(0, .ref 49), (1, .int x1)] [] _ 0 0 122 (Nat.le_refl _) (Nat.le_refl _) (Nat.le_of_ble_eq_true rfl) (lvR_mk [1] [0, 1] rfl rfl (by decide) (by decide) (List.forall_mem_cons.mpr ⟨(List.mem_cons_of_mem _ List.mem_cons_self), (fun _ h => nomatch h)⟩) (List.forall_mem_cons.mpr ⟨Or.inr rfl, (List.forall_mem_cons.mpr ⟨Or.inl List.mem_cons_self, (fun _ h => nomatch h)⟩)⟩)) h
set_option maxRecDepth 100000 in
set_option maxHeartbeats 4000000 in
theorem bk_456_91 {b : Bool} {d : Nat} {x1 : Int32} {e : Nat → x_E} {g : Nat → Int32} {q : Nat → Int64} {c : Nat → Nat → Int32} {l : Nat → Nat → Int64} {R : Option Value × List x_E} (h : rr b e d 456 103 [] [.int (x1 + (Int32.ofInt (1)))] g q c l R) : rr b e d 456 91 [(1, .int x1)] [] g q c l R := by
  obtain ⟨f, h⟩ := h
  refine ⟨f + 4, ?_⟩
  obtain ⟨y, cb, hj⟩ := mq_456
  rw [n_step (st' := [.int x1]) (pc' := 92) (lv' := [(1, .int x1)]) (hp' := rH e g q c l) (i := .iload_n 1) (len := 1) rfl hj rfl rfl rfl]
  rw [n_step (st' := [.int (Int32.ofInt (1)), .int x1]) (pc' := 93) (lv' := [(1, .int x1)]) (hp' := rH e g q c l) (i := .iconst 1) (len := 1) rfl hj rfl rfl rfl]
  rw [n_step (st' := [.int (x1 + (Int32.ofInt (1)))]) (pc' := 94) (lv' := [(1, .int x1)]) (hp' := rH e g q c l) (i := .iadd) (len := 1) rfl hj rfl rfl rfl]
  rw [n_step (st' := [.int (x1 + (Int32.ofInt (1)))]) (pc' := 103) (lv' := [(1, .int x1)]) (hp' := rH e g q c l) (i := .goto 9) (len := 3) rfl hj rfl rfl rfl]
  exact nrun_ext f f _ _ R 456 103 [] [(1, .int x1)] [.int (x1 + (Int32.ofInt (1)))] _ 0 0 122 (Nat.le_refl _) (Nat.le_refl _) (Nat.le_of_ble_eq_true rfl) (lvR_mk [] [1] rfl rfl (by decide) (by decide) (fun _ h => nomatch h) (List.forall_mem_cons.mpr ⟨Or.inr rfl, (fun _ h => nomatch h)⟩)) h
set_option maxRecDepth 100000 in
set_option maxHeartbeats 4000000 in
theorem bk_456_97 {b : Bool} {d : Nat} {x1 : Int32} {e : Nat → x_E} {g : Nat → Int32} {q : Nat → Int64} {c : Nat → Nat → Int32} {l : Nat → Nat → Int64} {R : Option Value × List x_E} (hz0 : ¬ (x1 < 0 ∨ 4000 ≤ (x1).toNatClampNeg)) (h : rr b e d 456 103 [] [.int (c 63 (x1).toNatClampNeg)] g q c l R) : rr b e d 456 97 [(0, .ref 49), (1, .int x1)] [] g q c l R := by
  obtain ⟨f, h⟩ := h
  refine ⟨f + 4, ?_⟩
  obtain ⟨y, cb, hj⟩ := mq_456
  rw [n_step (st' := [.ref 49]) (pc' := 98) (lv' := [(0, .ref 49), (1, .int x1)]) (hp' := rH e g q c l) (i := .aload_n 0) (len := 1) rfl hj rfl rfl rfl]
  rw [n_get (st' := [.ref 63]) (pc' := 101) (lv' := [(0, .ref 49), (1, .int x1)]) (hp' := rH e g q c l) (i := .getfield 56) (len := 3) rfl hj rfl rfl rfl rfl]
  rw [n_step (st' := [.int x1, .ref 63]) (pc' := 102) (lv' := [(0, .ref 49), (1, .int x1)]) (hp' := rH e g q c l) (i := .iload_n 1) (len := 1) rfl hj rfl rfl rfl]
  rw [n_ial (st' := [.int (c 63 (x1).toNatClampNeg)]) rfl hj (ald_63 hz0)]
  exact nrun_ext f f _ _ R 456 103 [] [(0, .ref 49), (1, .int x1)] [.int (c 63 (x1).toNatClampNeg)] _ 0 0 122 (Nat.le_refl _) (Nat.le_refl _) (Nat.le_of_ble_eq_true rfl) (lvR_mk [] [0, 1] rfl rfl (by decide) (by decide) (fun _ h => nomatch h) (List.forall_mem_cons.mpr ⟨Or.inr rfl, (List.forall_mem_cons.mpr ⟨Or.inr rfl, (fun _ h => nomatch h)⟩)⟩)) h
set_option maxRecDepth 100000 in
set_option maxHeartbeats 4000000 in
theorem bk_456_103 {b : Bool} {d : Nat} {t0 : Int32} {e : Nat → x_E} {g : Nat → Int32} {q : Nat → Int64} {c : Nat → Nat → Int32} {l : Nat → Nat → Int64} : rr b e d 456 103 [] [.int t0] g q c l (some (.int t0), rH e g q c l) := by
  refine ⟨0 + 1, ?_⟩
  obtain ⟨y, cb, hj⟩ := mq_456
  exact n_ret rfl hj rfl rfl (x_ret rfl)
set_option maxRecDepth 100000 in
set_option maxHeartbeats 4000000 in
theorem bk_456_104 {b : Bool} {d : Nat} {e : Nat → x_E} {g : Nat → Int32} {q : Nat → Int64} {c : Nat → Nat → Int32} {l : Nat → Nat → Int64} : rr b e d 456 104 [(0, .ref 49)] [] g q c l (some (.int (g 77)), rH e g q c l) := by
  refine ⟨0 + 3, ?_⟩
  obtain ⟨y, cb, hj⟩ := mq_456
  rw [n_step (st' := [.ref 49]) (pc' := 105) (lv' := [(0, .ref 49)]) (hp' := rH e g q c l) (i := .aload_n 0) (len := 1) rfl hj rfl rfl rfl]
  rw [n_get (st' := [.int (g 77)]) (pc' := 108) (lv' := [(0, .ref 49)]) (hp' := rH e g q c l) (i := .getfield 651) (len := 3) rfl hj rfl rfl rfl rfl]
  exact n_ret rfl hj rfl rfl (x_ret rfl)
set_option maxRecDepth 100000 in
set_option maxHeartbeats 4000000 in
theorem bk_456_109 {b : Bool} {d : Nat} {e : Nat → x_E} {g : Nat → Int32} {q : Nat → Int64} {c : Nat → Nat → Int32} {l : Nat → Nat → Int64} (hz0 : ¬ (((g 75) + (Int32.ofInt (1))) < 0 ∨ 6800 ≤ (((g 75) + (Int32.ofInt (1)))).toNatClampNeg)) : rr b e d 456 109 [(0, .ref 49)] [] g q c l (some (.int (c 79 (((g 75) + (Int32.ofInt (1)))).toNatClampNeg)), rH e g q c l) := by
  refine ⟨0 + 8, ?_⟩
  obtain ⟨y, cb, hj⟩ := mq_456
  rw [n_step (st' := [.ref 49]) (pc' := 110) (lv' := [(0, .ref 49)]) (hp' := rH e g q c l) (i := .aload_n 0) (len := 1) rfl hj rfl rfl rfl]
  rw [n_get (st' := [.ref 79]) (pc' := 113) (lv' := [(0, .ref 49)]) (hp' := rH e g q c l) (i := .getfield 106) (len := 3) rfl hj rfl rfl rfl rfl]
  rw [n_step (st' := [.ref 49, .ref 79]) (pc' := 114) (lv' := [(0, .ref 49)]) (hp' := rH e g q c l) (i := .aload_n 0) (len := 1) rfl hj rfl rfl rfl]
  rw [n_get (st' := [.int (g 75), .ref 79]) (pc' := 117) (lv' := [(0, .ref 49)]) (hp' := rH e g q c l) (i := .getfield 599) (len := 3) rfl hj rfl rfl rfl rfl]
  rw [n_step (st' := [.int (Int32.ofInt (1)), .int (g 75), .ref 79]) (pc' := 118) (lv' := [(0, .ref 49)]) (hp' := rH e g q c l) (i := .iconst 1) (len := 1) rfl hj rfl rfl rfl]
  rw [n_step (st' := [.int ((g 75) + (Int32.ofInt (1))), .ref 79]) (pc' := 119) (lv' := [(0, .ref 49)]) (hp' := rH e g q c l) (i := .iadd) (len := 1) rfl hj rfl rfl rfl]
  rw [n_ial (st' := [.int (c 79 (((g 75) + (Int32.ofInt (1)))).toNatClampNeg)]) rfl hj (ald_79 hz0)]
  exact n_ret rfl hj rfl rfl (x_ret rfl)
set_option maxRecDepth 100000 in
set_option maxHeartbeats 4000000 in
theorem bk_456_121 {b : Bool} {d : Nat} {x1 : Int32} {e : Nat → x_E} {g : Nat → Int32} {q : Nat → Int64} {c : Nat → Nat → Int32} {l : Nat → Nat → Int64} : rr b e d 456 121 [(1, .int x1)] [] g q c l (some (.int (x1 + (Int32.ofInt (1)))), rH e g q c l) := by
  refine ⟨0 + 4, ?_⟩
  obtain ⟨y, cb, hj⟩ := mq_456
  rw [n_step (st' := [.int x1]) (pc' := 122) (lv' := [(1, .int x1)]) (hp' := rH e g q c l) (i := .iload_n 1) (len := 1) rfl hj rfl rfl rfl]
  rw [n_step (st' := [.int (Int32.ofInt (1)), .int x1]) (pc' := 123) (lv' := [(1, .int x1)]) (hp' := rH e g q c l) (i := .iconst 1) (len := 1) rfl hj rfl rfl rfl]
  rw [n_step (st' := [.int (x1 + (Int32.ofInt (1)))]) (pc' := 124) (lv' := [(1, .int x1)]) (hp' := rH e g q c l) (i := .iadd) (len := 1) rfl hj rfl rfl rfl]
  exact n_ret rfl hj rfl rfl (x_ret rfl)
set_option maxRecDepth 100000 in
set_option maxHeartbeats 4000000 in
theorem bk_457_0 {b : Bool} {d : Nat} {x1 : Int32} {e : Nat → x_E} {g : Nat → Int32} {q : Nat → Int64} {c : Nat → Nat → Int32} {l : Nat → Nat → Int64} {R : Option Value × List x_E} (h : rr b e d 457 2 [(0, .ref 49), (1, .int x1), (2, .int (Int32.ofInt (0)))] [] g q c l R) : rr b e d 457 0 [(0, .ref 49), (1, .int x1)] [] g q c l R := by
  obtain ⟨f, h⟩ := h
  refine ⟨f + 2, ?_⟩
  obtain ⟨y, cb, hj⟩ := mq_457
  rw [n_step (st' := [.int (Int32.ofInt (0))]) (pc' := 1) (lv' := [(0, .ref 49), (1, .int x1)]) (hp' := rH e g q c l) (i := .iconst 0) (len := 1) rfl hj rfl rfl rfl]
  rw [n_step (st' := []) (pc' := 2) (lv' := [(2, .int (Int32.ofInt (0))), (0, .ref 49), (1, .int x1)]) (hp' := rH e g q c l) (i := .istore_n 2) (len := 1) rfl hj rfl rfl rfl]
  exact nrun_ext f f _ _ R 457 2 [(0, .ref 49), (1, .int x1), (2, .int (Int32.ofInt (0)))] [(2, .int (Int32.ofInt (0))), (0, .ref 49), (1, .int x1)] [] _ 0 0 122 (Nat.le_refl _) (Nat.le_refl _) (Nat.le_of_ble_eq_true rfl) (lvR_mk [0, 1, 2] [2, 0, 1] rfl rfl (by decide) (by decide) (List.forall_mem_cons.mpr ⟨(List.mem_cons_of_mem _ List.mem_cons_self), (List.forall_mem_cons.mpr ⟨(List.mem_cons_of_mem _ (List.mem_cons_of_mem _ List.mem_cons_self)), (List.forall_mem_cons.mpr ⟨List.mem_cons_self, (fun _ h => nomatch h)⟩)⟩)⟩) (List.forall_mem_cons.mpr ⟨Or.inl (List.mem_cons_of_mem _ (List.mem_cons_of_mem _ List.mem_cons_self)), (List.forall_mem_cons.mpr ⟨Or.inl List.mem_cons_self, (List.forall_mem_cons.mpr ⟨Or.inl (List.mem_cons_of_mem _ List.mem_cons_self), (fun _ h => nomatch h)⟩)⟩)⟩)) h
set_option maxRecDepth 100000 in
set_option maxHeartbeats 4000000 in
theorem bk_457_2 {b : Bool} {d : Nat} {x1 x2 : Int32} {e : Nat → x_E} {g : Nat → Int32} {q : Nat → Int64} {c : Nat → Nat → Int32} {l : Nat → Nat → Int64} {R : Option Value × List x_E} (h1 : xCn .ge x2 ((Int8.ofInt (16)).toInt32) = true → rr b e d 457 21 [(0, .ref 49), (1, .int x1)] [] g q c l R) (h2 : ¬ xCn .ge x2 ((Int8.ofInt (16)).toInt32) = true → rr b e d 457 8 [(0, .ref 49), (1, .int x1), (2, .int x2)] [] g q c l R) : rr b e d 457 2 [(0, .ref 49), (1, .int x1), (2, .int x2)] [] g q c l R := by
  have key : ∀ f, nrun xZ (xY (xfm b)) xDT (f + 3) d 457 2 [(0, .ref 49), (1, .int x1), (2, .int x2)] [] (rH e g q c l) 0 0 = nrun xZ (xY (xfm b)) xDT f d 457 (if xCn .ge x2 ((Int8.ofInt (16)).toInt32) = true then 21 else 8) [(0, .ref 49), (1, .int x1), (2, .int x2)] [] (rH e g q c l) 0 0 := by
    intro f
    obtain ⟨y, cb, hj⟩ := mq_457
    rw [n_step (st' := [.int x2]) (pc' := 3) (lv' := [(0, .ref 49), (1, .int x1), (2, .int x2)]) (hp' := rH e g q c l) (i := .iload_n 2) (len := 1) rfl hj rfl rfl rfl]
    rw [n_step (st' := [.int (Int8.ofInt (16)).toInt32, .int x2]) (pc' := 5) (lv' := [(0, .ref 49), (1, .int x1), (2, .int x2)]) (hp' := rH e g q c l) (i := .bipush 16) (len := 2) rfl hj rfl rfl rfl]
    rw [n_step (st' := []) (pc' := (if xCn .ge x2 ((Int8.ofInt (16)).toInt32) = true then 21 else 8)) (lv' := [(0, .ref 49), (1, .int x1), (2, .int x2)]) (hp' := rH e g q c l) (i := .if_icmp .ge 16) (len := 3) rfl hj rfl rfl rfl]
  by_cases hc : xCn .ge x2 ((Int8.ofInt (16)).toInt32) = true
  · obtain ⟨f, h⟩ := h1 hc
    refine ⟨f + 3, ?_⟩
    rw [key, if_pos hc]
    exact nrun_ext f f _ _ R 457 21 [(0, .ref 49), (1, .int x1)] [(0, .ref 49), (1, .int x1), (2, .int x2)] [] _ 0 0 122 (Nat.le_refl _) (Nat.le_refl _) (Nat.le_of_ble_eq_true rfl) (lvR_mk [0, 1] [0, 1, 2] rfl rfl (by decide) (by decide) (List.forall_mem_cons.mpr ⟨List.mem_cons_self, (List.forall_mem_cons.mpr ⟨(List.mem_cons_of_mem _ List.mem_cons_self), (fun _ h => nomatch h)⟩)⟩) (List.forall_mem_cons.mpr ⟨Or.inl List.mem_cons_self, (List.forall_mem_cons.mpr ⟨Or.inl (List.mem_cons_of_mem _ List.mem_cons_self), (List.forall_mem_cons.mpr ⟨Or.inr rfl, (fun _ h => nomatch h)⟩)⟩)⟩)) h
  · obtain ⟨f, h⟩ := h2 hc
    refine ⟨f + 3, ?_⟩
    rw [key, if_neg hc]
    exact h
set_option maxRecDepth 100000 in
set_option maxHeartbeats 4000000 in
theorem bk_457_8 {b : Bool} {d : Nat} {x1 x2 : Int32} {e : Nat → x_E} {g : Nat → Int32} {q : Nat → Int64} {c : Nat → Nat → Int32} {l : Nat → Nat → Int64} {R : Option Value × List x_E} (hz0 : ¬ (x2 < 0 ∨ 16 ≤ (x2).toNatClampNeg)) (h : rr b e d 457 2 [(0, .ref 49), (1, .int x1), (2, .int (x2 + Int32.ofInt (1)))] [] g q (updA c 120 (upd (c 120) (x2).toNatClampNeg ((Int32.ofInt (0))))) l R) : rr b e d 457 8 [(0, .ref 49), (1, .int x1), (2, .int x2)] [] g q c l R := by
  obtain ⟨f, h⟩ := h
  refine ⟨f + 7, ?_⟩
  obtain ⟨y, cb, hj⟩ := mq_457
  rw [n_step (st' := [.ref 49]) (pc' := 9) (lv' := [(0, .ref 49), (1, .int x1), (2, .int x2)]) (hp' := rH e g q c l) (i := .aload_n 0) (len := 1) rfl hj rfl rfl rfl]
  rw [n_get (st' := [.ref 120]) (pc' := 12) (lv' := [(0, .ref 49), (1, .int x1), (2, .int x2)]) (hp' := rH e g q c l) (i := .getfield 231) (len := 3) rfl hj rfl rfl rfl rfl]
  rw [n_step (st' := [.int x2, .ref 120]) (pc' := 13) (lv' := [(0, .ref 49), (1, .int x1), (2, .int x2)]) (hp' := rH e g q c l) (i := .iload_n 2) (len := 1) rfl hj rfl rfl rfl]
  rw [n_step (st' := [.int (Int32.ofInt (0)), .int x2, .ref 120]) (pc' := 14) (lv' := [(0, .ref 49), (1, .int x1), (2, .int x2)]) (hp' := rH e g q c l) (i := .iconst 0) (len := 1) rfl hj rfl rfl rfl]
  rw [n_ias (st' := []) (hp' := rH e g q (updA c 120 (upd (c 120) (x2).toNatClampNeg ((Int32.ofInt (0))))) l) rfl hj (ast_120 hz0)]
  rw [n_step (st' := []) (pc' := 18) (lv' := [(2, .int (x2 + Int32.ofInt (1))), (0, .ref 49), (1, .int x1)]) (hp' := rH e g q (updA c 120 (upd (c 120) (x2).toNatClampNeg ((Int32.ofInt (0))))) l) (i := .iinc 2 1) (len := 3) rfl hj rfl rfl rfl]
  rw [n_step (st' := []) (pc' := 2) (lv' := [(2, .int (x2 + Int32.ofInt (1))), (0, .ref 49), (1, .int x1)]) (hp' := rH e g q (updA c 120 (upd (c 120) (x2).toNatClampNeg ((Int32.ofInt (0))))) l) (i := .goto (-16)) (len := 3) rfl hj rfl rfl rfl]
  exact nrun_ext f f _ _ R 457 2 [(0, .ref 49), (1, .int x1), (2, .int (x2 + Int32.ofInt (1)))] [(2, .int (x2 + Int32.ofInt (1))), (0, .ref 49), (1, .int x1)] [] _ 0 0 122 (Nat.le_refl _) (Nat.le_refl _) (Nat.le_of_ble_eq_true rfl) (lvR_mk [0, 1, 2] [2, 0, 1] rfl rfl (by decide) (by decide) (List.forall_mem_cons.mpr ⟨(List.mem_cons_of_mem _ List.mem_cons_self), (List.forall_mem_cons.mpr ⟨(List.mem_cons_of_mem _ (List.mem_cons_of_mem _ List.mem_cons_self)), (List.forall_mem_cons.mpr ⟨List.mem_cons_self, (fun _ h => nomatch h)⟩)⟩)⟩) (List.forall_mem_cons.mpr ⟨Or.inl (List.mem_cons_of_mem _ (List.mem_cons_of_mem _ List.mem_cons_self)), (List.forall_mem_cons.mpr ⟨Or.inl List.mem_cons_self, (List.forall_mem_cons.mpr ⟨Or.inl (List.mem_cons_of_mem _ List.mem_cons_self), (fun _ h => nomatch h)⟩)⟩)⟩)) h
set_option maxRecDepth 100000 in
set_option maxHeartbeats 4000000 in
theorem bk_457_21 {b : Bool} {d : Nat} {x1 : Int32} {e : Nat → x_E} {g : Nat → Int32} {q : Nat → Int64} {c : Nat → Nat → Int32} {l : Nat → Nat → Int64} {R : Option Value × List x_E} (h : rr b e d 457 23 [(0, .ref 49), (1, .int x1), (2, .int (Int32.ofInt (0)))] [] g q c l R) : rr b e d 457 21 [(0, .ref 49), (1, .int x1)] [] g q c l R := by
  obtain ⟨f, h⟩ := h
  refine ⟨f + 2, ?_⟩
  obtain ⟨y, cb, hj⟩ := mq_457
  rw [n_step (st' := [.int (Int32.ofInt (0))]) (pc' := 22) (lv' := [(0, .ref 49), (1, .int x1)]) (hp' := rH e g q c l) (i := .iconst 0) (len := 1) rfl hj rfl rfl rfl]
  rw [n_step (st' := []) (pc' := 23) (lv' := [(2, .int (Int32.ofInt (0))), (0, .ref 49), (1, .int x1)]) (hp' := rH e g q c l) (i := .istore_n 2) (len := 1) rfl hj rfl rfl rfl]
  exact nrun_ext f f _ _ R 457 23 [(0, .ref 49), (1, .int x1), (2, .int (Int32.ofInt (0)))] [(2, .int (Int32.ofInt (0))), (0, .ref 49), (1, .int x1)] [] _ 0 0 122 (Nat.le_refl _) (Nat.le_refl _) (Nat.le_of_ble_eq_true rfl) (lvR_mk [0, 1, 2] [2, 0, 1] rfl rfl (by decide) (by decide) (List.forall_mem_cons.mpr ⟨(List.mem_cons_of_mem _ List.mem_cons_self), (List.forall_mem_cons.mpr ⟨(List.mem_cons_of_mem _ (List.mem_cons_of_mem _ List.mem_cons_self)), (List.forall_mem_cons.mpr ⟨List.mem_cons_self, (fun _ h => nomatch h)⟩)⟩)⟩) (List.forall_mem_cons.mpr ⟨Or.inl (List.mem_cons_of_mem _ (List.mem_cons_of_mem _ List.mem_cons_self)), (List.forall_mem_cons.mpr ⟨Or.inl List.mem_cons_self, (List.forall_mem_cons.mpr ⟨Or.inl (List.mem_cons_of_mem _ List.mem_cons_self), (fun _ h => nomatch h)⟩)⟩)⟩)) h
set_option maxRecDepth 100000 in
set_option maxHeartbeats 4000000 in
theorem bk_457_23 {b : Bool} {d : Nat} {x1 x2 : Int32} {e : Nat → x_E} {g : Nat → Int32} {q : Nat → Int64} {c : Nat → Nat → Int32} {l : Nat → Nat → Int64} {R : Option Value × List x_E} (h1 : xCn .gt x2 ((Int16.ofInt (20000)).toInt32) = true → rr b e d 457 43 [(0, .ref 49), (1, .int x1)] [] g q c l R) (h2 : ¬ xCn .gt x2 ((Int16.ofInt (20000)).toInt32) = true → rr b e d 457 30 [(0, .ref 49), (1, .int x1), (2, .int x2)] [] g q c l R) : rr b e d 457 23 [(0, .ref 49), (1, .int x1), (2, .int x2)] [] g q c l R := by
  have key : ∀ f, nrun xZ (xY (xfm b)) xDT (f + 3) d 457 23 [(0, .ref 49), (1, .int x1), (2, .int x2)] [] (rH e g q c l) 0 0 = nrun xZ (xY (xfm b)) xDT f d 457 (if xCn .gt x2 ((Int16.ofInt (20000)).toInt32) = true then 43 else 30) [(0, .ref 49), (1, .int x1), (2, .int x2)] [] (rH e g q c l) 0 0 := by
    intro f
    obtain ⟨y, cb, hj⟩ := mq_457
    rw [n_step (st' := [.int x2]) (pc' := 24) (lv' := [(0, .ref 49), (1, .int x1), (2, .int x2)]) (hp' := rH e g q c l) (i := .iload_n 2) (len := 1) rfl hj rfl rfl rfl]
    rw [n_step (st' := [.int (Int16.ofInt (20000)).toInt32, .int x2]) (pc' := 27) (lv' := [(0, .ref 49), (1, .int x1), (2, .int x2)]) (hp' := rH e g q c l) (i := .sipush 20000) (len := 3) rfl hj rfl rfl rfl]
    rw [n_step (st' := []) (pc' := (if xCn .gt x2 ((Int16.ofInt (20000)).toInt32) = true then 43 else 30)) (lv' := [(0, .ref 49), (1, .int x1), (2, .int x2)]) (hp' := rH e g q c l) (i := .if_icmp .gt 16) (len := 3) rfl hj rfl rfl rfl]
  by_cases hc : xCn .gt x2 ((Int16.ofInt (20000)).toInt32) = true
  · obtain ⟨f, h⟩ := h1 hc
    refine ⟨f + 3, ?_⟩
    rw [key, if_pos hc]
    exact nrun_ext f f _ _ R 457 43 [(0, .ref 49), (1, .int x1)] [(0, .ref 49), (1, .int x1), (2, .int x2)] [] _ 0 0 122 (Nat.le_refl _) (Nat.le_refl _) (Nat.le_of_ble_eq_true rfl) (lvR_mk [0, 1] [0, 1, 2] rfl rfl (by decide) (by decide) (List.forall_mem_cons.mpr ⟨List.mem_cons_self, (List.forall_mem_cons.mpr ⟨(List.mem_cons_of_mem _ List.mem_cons_self), (fun _ h => nomatch h)⟩)⟩) (List.forall_mem_cons.mpr ⟨Or.inl List.mem_cons_self, (List.forall_mem_cons.mpr ⟨Or.inl (List.mem_cons_of_mem _ List.mem_cons_self), (List.forall_mem_cons.mpr ⟨Or.inr rfl, (fun _ h => nomatch h)⟩)⟩)⟩)) h
  · obtain ⟨f, h⟩ := h2 hc
    refine ⟨f + 3, ?_⟩
    rw [key, if_neg hc]
    exact h
set_option maxRecDepth 100000 in
set_option maxHeartbeats 4000000 in
theorem bk_457_30 {b : Bool} {d : Nat} {x1 x2 : Int32} {e : Nat → x_E} {g : Nat → Int32} {q : Nat → Int64} {c : Nat → Nat → Int32} {l : Nat → Nat → Int64} {R : Option Value × List x_E} (hz0 : ¬ (x2 < 0 ∨ 20001 ≤ (x2).toNatClampNeg)) (h : rr b e d 457 23 [(0, .ref 49), (1, .int x1), (2, .int (x2 + Int32.ofInt (1)))] [] g q (updA c 121 (upd (c 121) (x2).toNatClampNeg ((Int32.ofInt (0))))) l R) : rr b e d 457 30 [(0, .ref 49), (1, .int x1), (2, .int x2)] [] g q c l R := by
  obtain ⟨f, h⟩ := h
  refine ⟨f + 7, ?_⟩
  obtain ⟨y, cb, hj⟩ := mq_457
  rw [n_step (st' := [.ref 49]) (pc' := 31) (lv' := [(0, .ref 49), (1, .int x1), (2, .int x2)]) (hp' := rH e g q c l) (i := .aload_n 0) (len := 1) rfl hj rfl rfl rfl]
  rw [n_get (st' := [.ref 121]) (pc' := 34) (lv' := [(0, .ref 49), (1, .int x1), (2, .int x2)]) (hp' := rH e g q c l) (i := .getfield 234) (len := 3) rfl hj rfl rfl rfl rfl]
  rw [n_step (st' := [.int x2, .ref 121]) (pc' := 35) (lv' := [(0, .ref 49), (1, .int x1), (2, .int x2)]) (hp' := rH e g q c l) (i := .iload_n 2) (len := 1) rfl hj rfl rfl rfl]
  rw [n_step (st' := [.int (Int32.ofInt (0)), .int x2, .ref 121]) (pc' := 36) (lv' := [(0, .ref 49), (1, .int x1), (2, .int x2)]) (hp' := rH e g q c l) (i := .iconst 0) (len := 1) rfl hj rfl rfl rfl]
  rw [n_ias (st' := []) (hp' := rH e g q (updA c 121 (upd (c 121) (x2).toNatClampNeg ((Int32.ofInt (0))))) l) rfl hj (ast_121 hz0)]
  rw [n_step (st' := []) (pc' := 40) (lv' := [(2, .int (x2 + Int32.ofInt (1))), (0, .ref 49), (1, .int x1)]) (hp' := rH e g q (updA c 121 (upd (c 121) (x2).toNatClampNeg ((Int32.ofInt (0))))) l) (i := .iinc 2 1) (len := 3) rfl hj rfl rfl rfl]
  rw [n_step (st' := []) (pc' := 23) (lv' := [(2, .int (x2 + Int32.ofInt (1))), (0, .ref 49), (1, .int x1)]) (hp' := rH e g q (updA c 121 (upd (c 121) (x2).toNatClampNeg ((Int32.ofInt (0))))) l) (i := .goto (-17)) (len := 3) rfl hj rfl rfl rfl]
  exact nrun_ext f f _ _ R 457 23 [(0, .ref 49), (1, .int x1), (2, .int (x2 + Int32.ofInt (1)))] [(2, .int (x2 + Int32.ofInt (1))), (0, .ref 49), (1, .int x1)] [] _ 0 0 122 (Nat.le_refl _) (Nat.le_refl _) (Nat.le_of_ble_eq_true rfl) (lvR_mk [0, 1, 2] [2, 0, 1] rfl rfl (by decide) (by decide) (List.forall_mem_cons.mpr ⟨(List.mem_cons_of_mem _ List.mem_cons_self), (List.forall_mem_cons.mpr ⟨(List.mem_cons_of_mem _ (List.mem_cons_of_mem _ List.mem_cons_self)), (List.forall_mem_cons.mpr ⟨List.mem_cons_self, (fun _ h => nomatch h)⟩)⟩)⟩) (List.forall_mem_cons.mpr ⟨Or.inl (List.mem_cons_of_mem _ (List.mem_cons_of_mem _ List.mem_cons_self)), (List.forall_mem_cons.mpr ⟨Or.inl List.mem_cons_self, (List.forall_mem_cons.mpr ⟨Or.inl (List.mem_cons_of_mem _ List.mem_cons_self), (fun _ h => nomatch h)⟩)⟩)⟩)) h
set_option maxRecDepth 100000 in
set_option maxHeartbeats 4000000 in
theorem bk_457_43 {b : Bool} {d : Nat} {x1 : Int32} {e : Nat → x_E} {g : Nat → Int32} {q : Nat → Int64} {c : Nat → Nat → Int32} {l : Nat → Nat → Int64} {R : Option Value × List x_E} (h : rr b e d 457 45 [(0, .ref 49), (1, .int x1), (2, .int (Int32.ofInt (0)))] [] g q c l R) : rr b e d 457 43 [(0, .ref 49), (1, .int x1)] [] g q c l R := by
  obtain ⟨f, h⟩ := h
  refine ⟨f + 2, ?_⟩
  obtain ⟨y, cb, hj⟩ := mq_457
  rw [n_step (st' := [.int (Int32.ofInt (0))]) (pc' := 44) (lv' := [(0, .ref 49), (1, .int x1)]) (hp' := rH e g q c l) (i := .iconst 0) (len := 1) rfl hj rfl rfl rfl]
  rw [n_step (st' := []) (pc' := 45) (lv' := [(2, .int (Int32.ofInt (0))), (0, .ref 49), (1, .int x1)]) (hp' := rH e g q c l) (i := .istore_n 2) (len := 1) rfl hj rfl rfl rfl]
  exact nrun_ext f f _ _ R 457 45 [(0, .ref 49), (1, .int x1), (2, .int (Int32.ofInt (0)))] [(2, .int (Int32.ofInt (0))), (0, .ref 49), (1, .int x1)] [] _ 0 0 122 (Nat.le_refl _) (Nat.le_refl _) (Nat.le_of_ble_eq_true rfl) (lvR_mk [0, 1, 2] [2, 0, 1] rfl rfl (by decide) (by decide) (List.forall_mem_cons.mpr ⟨(List.mem_cons_of_mem _ List.mem_cons_self), (List.forall_mem_cons.mpr ⟨(List.mem_cons_of_mem _ (List.mem_cons_of_mem _ List.mem_cons_self)), (List.forall_mem_cons.mpr ⟨List.mem_cons_self, (fun _ h => nomatch h)⟩)⟩)⟩) (List.forall_mem_cons.mpr ⟨Or.inl (List.mem_cons_of_mem _ (List.mem_cons_of_mem _ List.mem_cons_self)), (List.forall_mem_cons.mpr ⟨Or.inl List.mem_cons_self, (List.forall_mem_cons.mpr ⟨Or.inl (List.mem_cons_of_mem _ List.mem_cons_self), (fun _ h => nomatch h)⟩)⟩)⟩)) h
set_option maxRecDepth 100000 in
set_option maxHeartbeats 4000000 in
theorem bk_457_45 {b : Bool} {d : Nat} {x1 x2 : Int32} {e : Nat → x_E} {g : Nat → Int32} {q : Nat → Int64} {c : Nat → Nat → Int32} {l : Nat → Nat → Int64} {R : Option Value × List x_E} (h1 : xCn .ne ((g 66)) x1 = true → rr b e d 457 55 [(0, .ref 49), (1, .int x1), (2, .int x2)] [] g q c l R) (h2 : ¬ xCn .ne ((g 66)) x1 = true → rr b e d 457 53 [] [] g q c l R) : rr b e d 457 45 [(0, .ref 49), (1, .int x1), (2, .int x2)] [] g q c l R := by
  have key : ∀ f, nrun xZ (xY (xfm b)) xDT (f + 4) d 457 45 [(0, .ref 49), (1, .int x1), (2, .int x2)] [] (rH e g q c l) 0 0 = nrun xZ (xY (xfm b)) xDT f d 457 (if xCn .ne ((g 66)) x1 = true then 55 else 53) [(0, .ref 49), (1, .int x1), (2, .int x2)] [] (rH e g q c l) 0 0 := by
    intro f
    obtain ⟨y, cb, hj⟩ := mq_457
    rw [n_step (st' := [.ref 49]) (pc' := 46) (lv' := [(0, .ref 49), (1, .int x1), (2, .int x2)]) (hp' := rH e g q c l) (i := .aload_n 0) (len := 1) rfl hj rfl rfl rfl]
    rw [n_get (st' := [.int (g 66)]) (pc' := 49) (lv' := [(0, .ref 49), (1, .int x1), (2, .int x2)]) (hp' := rH e g q c l) (i := .getfield 641) (len := 3) rfl hj rfl rfl rfl rfl]
    rw [n_step (st' := [.int x1, .int (g 66)]) (pc' := 50) (lv' := [(0, .ref 49), (1, .int x1), (2, .int x2)]) (hp' := rH e g q c l) (i := .iload_n 1) (len := 1) rfl hj rfl rfl rfl]
    rw [n_step (st' := []) (pc' := (if xCn .ne ((g 66)) x1 = true then 55 else 53)) (lv' := [(0, .ref 49), (1, .int x1), (2, .int x2)]) (hp' := rH e g q c l) (i := .if_icmp .ne 5) (len := 3) rfl hj rfl rfl rfl]
  by_cases hc : xCn .ne ((g 66)) x1 = true
  · obtain ⟨f, h⟩ := h1 hc
    refine ⟨f + 4, ?_⟩
    rw [key, if_pos hc]
    exact h
  · obtain ⟨f, h⟩ := h2 hc
    refine ⟨f + 4, ?_⟩
    rw [key, if_neg hc]
    exact nrun_ext f f _ _ R 457 53 [] [(0, .ref 49), (1, .int x1), (2, .int x2)] [] _ 0 0 122 (Nat.le_refl _) (Nat.le_refl _) (Nat.le_of_ble_eq_true rfl) (lvR_mk [] [0, 1, 2] rfl rfl (by decide) (by decide) (fun _ h => nomatch h) (List.forall_mem_cons.mpr ⟨Or.inr rfl, (List.forall_mem_cons.mpr ⟨Or.inr rfl, (List.forall_mem_cons.mpr ⟨Or.inr rfl, (fun _ h => nomatch h)⟩)⟩)⟩)) h
set_option maxRecDepth 100000 in
set_option maxHeartbeats 4000000 in
theorem bk_457_53 {b : Bool} {d : Nat} {e : Nat → x_E} {g : Nat → Int32} {q : Nat → Int64} {c : Nat → Nat → Int32} {l : Nat → Nat → Int64} : rr b e d 457 53 [] [] g q c l (some (.int (Int32.ofInt (1))), rH e g q c l) := by
  refine ⟨0 + 2, ?_⟩
  obtain ⟨y, cb, hj⟩ := mq_457
  rw [n_step (st' := [.int (Int32.ofInt (1))]) (pc' := 54) (lv' := []) (hp' := rH e g q c l) (i := .iconst 1) (len := 1) rfl hj rfl rfl rfl]
  exact n_ret rfl hj rfl rfl (x_ret rfl)
set_option maxRecDepth 100000 in
set_option maxHeartbeats 4000000 in
theorem bk_457_55 {b : Bool} {d : Nat} {x1 x2 : Int32} {e : Nat → x_E} {g : Nat → Int32} {q : Nat → Int64} {c : Nat → Nat → Int32} {l : Nat → Nat → Int64} {R : Option Value × List x_E} (hz0 : ¬ (x2 < 0 ∨ 700 ≤ (x2).toNatClampNeg)) (hz1 : ¬ (x2 < 0 ∨ 700 ≤ (x2).toNatClampNeg)) (hd : (((c 111 (x2).toNatClampNeg)).toInt < 5 ∨ 14 < ((c 111 (x2).toNatClampNeg)).toInt) → rr b e d 457 407 [(0, .ref 49)] [] g q c l R) (h_5 : ((c 111 (x2).toNatClampNeg)) = 5 → rr b e d 457 128 [(0, .ref 49), (1, .int x1), (2, .int x2), (3, .int (x2 + (Int32.ofInt (1)))), (4, .int (c 112 (x2).toNatClampNeg))] [] g q c l R) (h_6 : ((c 111 (x2).toNatClampNeg)) = 6 → rr b e d 457 143 [(0, .ref 49), (1, .int x1), (2, .int x2), (3, .int (x2 + (Int32.ofInt (1)))), (4, .int (c 112 (x2).toNatClampNeg))] [] g q c l R) (h_7 : ((c 111 (x2).toNatClampNeg)) = 7 → rr b e d 457 170 [(0, .ref 49), (1, .int x1), (2, .int x2), (3, .int (x2 + (Int32.ofInt (1)))), (4, .int (c 112 (x2).toNatClampNeg))] [] g q c l R) (h_8 : ((c 111 (x2).toNatClampNeg)) = 8 → rr b e d 457 197 [(0, .ref 49), (1, .int x1), (2, .int x2), (3, .int (x2 + (Int32.ofInt (1)))), (4, .int (c 112 (x2).toNatClampNeg))] [] g q c l R) (h_9 : ((c 111 (x2).toNatClampNeg)) = 9 → rr b e d 457 224 [(0, .ref 49), (1, .int x1), (2, .int x2), (3, .int (x2 + (Int32.ofInt (1)))), (4, .int (c 112 (x2).toNatClampNeg))] [] g q c l R) (h_10 : ((c 111 (x2).toNatClampNeg)) = 10 → rr b e d 457 263 [(0, .ref 49), (1, .int x1), (2, .int x2), (3, .int (x2 + (Int32.ofInt (1)))), (4, .int (c 112 (x2).toNatClampNeg))] [] g q c l R) (h_11 : ((c 111 (x2).toNatClampNeg)) = 11 → rr b e d 457 302 [(0, .ref 49), (1, .int x1), (2, .int x2), (3, .int (x2 + (Int32.ofInt (1)))), (4, .int (c 112 (x2).toNatClampNeg))] [] g q c l R) (h_12 : ((c 111 (x2).toNatClampNeg)) = 12 → rr b e d 457 341 [(0, .ref 49), (1, .int x1), (2, .int x2), (3, .int (x2 + (Int32.ofInt (1)))), (4, .int (c 112 (x2).toNatClampNeg))] [] g q c l R) (h_13 : ((c 111 (x2).toNatClampNeg)) = 13 → rr b e d 457 128 [(0, .ref 49), (1, .int x1), (2, .int x2), (3, .int (x2 + (Int32.ofInt (1)))), (4, .int (c 112 (x2).toNatClampNeg))] [] g q c l R) (h_14 : ((c 111 (x2).toNatClampNeg)) = 14 → rr b e d 457 384 [(0, .ref 49), (1, .int x1), (2, .int x2)] [] g q c l R) : rr b e d 457 55 [(0, .ref 49), (1, .int x1), (2, .int x2)] [] g q c l R := by
  have key : ∀ f t, (xTab 334 5 14 #[55, 70, 97, 124, 151, 190, 229, 268, 55, 311] ((c 111 (x2).toNatClampNeg))) = some t → ∀ p, xTg 73 t = some p → nrun xZ (xY (xfm b)) xDT (f + 14) d 457 55 [(0, .ref 49), (1, .int x1), (2, .int x2)] [] (rH e g q c l) 0 0 = nrun xZ (xY (xfm b)) xDT f d 457 p [(4, .int (c 112 (x2).toNatClampNeg)), (3, .int (x2 + (Int32.ofInt (1)))), (0, .ref 49), (1, .int x1), (2, .int x2)] [] (rH e g q c l) 0 0 := by
    intro f t ht p hp
    obtain ⟨y, cb, hj⟩ := mq_457
    rw [n_step (st' := [.int x2]) (pc' := 56) (lv' := [(0, .ref 49), (1, .int x1), (2, .int x2)]) (hp' := rH e g q c l) (i := .iload_n 2) (len := 1) rfl hj rfl rfl rfl]
    rw [n_step (st' := [.int (Int32.ofInt (1)), .int x2]) (pc' := 57) (lv' := [(0, .ref 49), (1, .int x1), (2, .int x2)]) (hp' := rH e g q c l) (i := .iconst 1) (len := 1) rfl hj rfl rfl rfl]
    rw [n_step (st' := [.int (x2 + (Int32.ofInt (1)))]) (pc' := 58) (lv' := [(0, .ref 49), (1, .int x1), (2, .int x2)]) (hp' := rH e g q c l) (i := .iadd) (len := 1) rfl hj rfl rfl rfl]
    rw [n_step (st' := []) (pc' := 59) (lv' := [(3, .int (x2 + (Int32.ofInt (1)))), (0, .ref 49), (1, .int x1), (2, .int x2)]) (hp' := rH e g q c l) (i := .istore_n 3) (len := 1) rfl hj rfl rfl rfl]
    rw [n_step (st' := [.ref 49]) (pc' := 60) (lv' := [(3, .int (x2 + (Int32.ofInt (1)))), (0, .ref 49), (1, .int x1), (2, .int x2)]) (hp' := rH e g q c l) (i := .aload_n 0) (len := 1) rfl hj rfl rfl rfl]
    rw [n_get (st' := [.ref 112]) (pc' := 63) (lv' := [(3, .int (x2 + (Int32.ofInt (1)))), (0, .ref 49), (1, .int x1), (2, .int x2)]) (hp' := rH e g q c l) (i := .getfield 207) (len := 3) rfl hj rfl rfl rfl rfl]
    rw [n_step (st' := [.int x2, .ref 112]) (pc' := 64) (lv' := [(3, .int (x2 + (Int32.ofInt (1)))), (0, .ref 49), (1, .int x1), (2, .int x2)]) (hp' := rH e g q c l) (i := .iload_n 2) (len := 1) rfl hj rfl rfl rfl]
    rw [n_ial (st' := [.int (c 112 (x2).toNatClampNeg)]) rfl hj (ald_112 hz0)]
    rw [n_step (st' := []) (pc' := 67) (lv' := [(4, .int (c 112 (x2).toNatClampNeg)), (3, .int (x2 + (Int32.ofInt (1)))), (0, .ref 49), (1, .int x1), (2, .int x2)]) (hp' := rH e g q c l) (i := .istore 4) (len := 2) rfl hj rfl rfl rfl]
    rw [n_step (st' := [.ref 49]) (pc' := 68) (lv' := [(4, .int (c 112 (x2).toNatClampNeg)), (3, .int (x2 + (Int32.ofInt (1)))), (0, .ref 49), (1, .int x1), (2, .int x2)]) (hp' := rH e g q c l) (i := .aload_n 0) (len := 1) rfl hj rfl rfl rfl]
    rw [n_get (st' := [.ref 111]) (pc' := 71) (lv' := [(4, .int (c 112 (x2).toNatClampNeg)), (3, .int (x2 + (Int32.ofInt (1)))), (0, .ref 49), (1, .int x1), (2, .int x2)]) (hp' := rH e g q c l) (i := .getfield 204) (len := 3) rfl hj rfl rfl rfl rfl]
    rw [n_step (st' := [.int x2, .ref 111]) (pc' := 72) (lv' := [(4, .int (c 112 (x2).toNatClampNeg)), (3, .int (x2 + (Int32.ofInt (1)))), (0, .ref 49), (1, .int x1), (2, .int x2)]) (hp' := rH e g q c l) (i := .iload_n 2) (len := 1) rfl hj rfl rfl rfl]
    rw [n_ial (st' := [.int (c 111 (x2).toNatClampNeg)]) rfl hj (ald_111 hz1)]
    rw [n_step (st' := []) (pc' := p) (lv' := [(4, .int (c 112 (x2).toNatClampNeg)), (3, .int (x2 + (Int32.ofInt (1)))), (0, .ref 49), (1, .int x1), (2, .int x2)]) (hp' := rH e g q c l) (i := .tableswitch 334 5 14 #[55, 70, 97, 124, 151, 190, 229, 268, 55, 311]) (len := 55) rfl hj rfl rfl (x_sw ht hp)]
  by_cases hc : ((c 111 (x2).toNatClampNeg)).toInt < 5 ∨ 14 < ((c 111 (x2).toNatClampNeg)).toInt
  · obtain ⟨f, h⟩ := hd hc
    refine ⟨f + 14, ?_⟩
    rw [key f (334) (by unfold xTab; rw [if_pos hc]) 407 rfl]
    exact nrun_ext f f _ _ R 457 407 [(0, .ref 49)] [(4, .int (c 112 (x2).toNatClampNeg)), (3, .int (x2 + (Int32.ofInt (1)))), (0, .ref 49), (1, .int x1), (2, .int x2)] [] _ 0 0 122 (Nat.le_refl _) (Nat.le_refl _) (Nat.le_of_ble_eq_true rfl) (lvR_mk [0] [4, 3, 0, 1, 2] rfl rfl (by decide) (by decide) (List.forall_mem_cons.mpr ⟨(List.mem_cons_of_mem _ (List.mem_cons_of_mem _ List.mem_cons_self)), (fun _ h => nomatch h)⟩) (List.forall_mem_cons.mpr ⟨Or.inr rfl, (List.forall_mem_cons.mpr ⟨Or.inr rfl, (List.forall_mem_cons.mpr ⟨Or.inl List.mem_cons_self, (List.forall_mem_cons.mpr ⟨Or.inr rfl, (List.forall_mem_cons.mpr ⟨Or.inr rfl, (fun _ h => nomatch h)⟩)⟩)⟩)⟩)⟩)) h
  have hx : ((c 111 (x2).toNatClampNeg)).toInt = 5 ∨ ((c 111 (x2).toNatClampNeg)).toInt = 6 ∨ ((c 111 (x2).toNatClampNeg)).toInt = 7 ∨ ((c 111 (x2).toNatClampNeg)).toInt = 8 ∨ ((c 111 (x2).toNatClampNeg)).toInt = 9 ∨ ((c 111 (x2).toNatClampNeg)).toInt = 10 ∨ ((c 111 (x2).toNatClampNeg)).toInt = 11 ∨ ((c 111 (x2).toNatClampNeg)).toInt = 12 ∨ ((c 111 (x2).toNatClampNeg)).toInt = 13 ∨ ((c 111 (x2).toNatClampNeg)).toInt = 14 := by omega
  rcases hx with hx | hx | hx | hx | hx | hx | hx | hx | hx | hx
  · have hv : ((c 111 (x2).toNatClampNeg)) = 5 := Int32.toInt_inj.mp (hx.trans rfl)
    obtain ⟨f, h⟩ := h_5 hv
    refine ⟨f + 14, ?_⟩
    rw [key f (55) (by rw [hv]; rfl) 128 rfl]
    exact nrun_ext f f _ _ R 457 128 [(0, .ref 49), (1, .int x1), (2, .int x2), (3, .int (x2 + (Int32.ofInt (1)))), (4, .int (c 112 (x2).toNatClampNeg))] [(4, .int (c 112 (x2).toNatClampNeg)), (3, .int (x2 + (Int32.ofInt (1)))), (0, .ref 49), (1, .int x1), (2, .int x2)] [] _ 0 0 122 (Nat.le_refl _) (Nat.le_refl _) (Nat.le_of_ble_eq_true rfl) (lvR_mk [0, 1, 2, 3, 4] [4, 3, 0, 1, 2] rfl rfl (by decide) (by decide) (List.forall_mem_cons.mpr ⟨(List.mem_cons_of_mem _ (List.mem_cons_of_mem _ List.mem_cons_self)), (List.forall_mem_cons.mpr ⟨(List.mem_cons_of_mem _ (List.mem_cons_of_mem _ (List.mem_cons_of_mem _ List.mem_cons_self))), (List.forall_mem_cons.mpr ⟨(List.mem_cons_of_mem _ (List.mem_cons_of_mem _ (List.mem_cons_of_mem _ (List.mem_cons_of_mem _ List.mem_cons_self)))), (List.forall_mem_cons.mpr ⟨(List.mem_cons_of_mem _ List.mem_cons_self), (List.forall_mem_cons.mpr ⟨List.mem_cons_self, (fun _ h => nomatch h)⟩)⟩)⟩)⟩)⟩) (List.forall_mem_cons.mpr ⟨Or.inl (List.mem_cons_of_mem _ (List.mem_cons_of_mem _ (List.mem_cons_of_mem _ (List.mem_cons_of_mem _ List.mem_cons_self)))), (List.forall_mem_cons.mpr ⟨Or.inl (List.mem_cons_of_mem _ (List.mem_cons_of_mem _ (List.mem_cons_of_mem _ List.mem_cons_self))), (List.forall_mem_cons.mpr ⟨Or.inl List.mem_cons_self, (List.forall_mem_cons.mpr ⟨Or.inl (List.mem_cons_of_mem _ List.mem_cons_self), (List.forall_mem_cons.mpr ⟨Or.inl (List.mem_cons_of_mem _ (List.mem_cons_of_mem _ List.mem_cons_self)), (fun _ h => nomatch h)⟩)⟩)⟩)⟩)⟩)) h
  · have hv : ((c 111 (x2).toNatClampNeg)) = 6 := Int32.toInt_inj.mp (hx.trans rfl)
    obtain ⟨f, h⟩ := h_6 hv
    refine ⟨f + 14, ?_⟩
    rw [key f (70) (by rw [hv]; rfl) 143 rfl]
    exact nrun_ext f f _ _ R 457 143 [(0, .ref 49), (1, .int x1), (2, .int x2), (3, .int (x2 + (Int32.ofInt (1)))), (4, .int (c 112 (x2).toNatClampNeg))] [(4, .int (c 112 (x2).toNatClampNeg)), (3, .int (x2 + (Int32.ofInt (1)))), (0, .ref 49), (1, .int x1), (2, .int x2)] [] _ 0 0 122 (Nat.le_refl _) (Nat.le_refl _) (Nat.le_of_ble_eq_true rfl) (lvR_mk [0, 1, 2, 3, 4] [4, 3, 0, 1, 2] rfl rfl (by decide) (by decide) (List.forall_mem_cons.mpr ⟨(List.mem_cons_of_mem _ (List.mem_cons_of_mem _ List.mem_cons_self)), (List.forall_mem_cons.mpr ⟨(List.mem_cons_of_mem _ (List.mem_cons_of_mem _ (List.mem_cons_of_mem _ List.mem_cons_self))), (List.forall_mem_cons.mpr ⟨(List.mem_cons_of_mem _ (List.mem_cons_of_mem _ (List.mem_cons_of_mem _ (List.mem_cons_of_mem _ List.mem_cons_self)))), (List.forall_mem_cons.mpr ⟨(List.mem_cons_of_mem _ List.mem_cons_self), (List.forall_mem_cons.mpr ⟨List.mem_cons_self, (fun _ h => nomatch h)⟩)⟩)⟩)⟩)⟩) (List.forall_mem_cons.mpr ⟨Or.inl (List.mem_cons_of_mem _ (List.mem_cons_of_mem _ (List.mem_cons_of_mem _ (List.mem_cons_of_mem _ List.mem_cons_self)))), (List.forall_mem_cons.mpr ⟨Or.inl (List.mem_cons_of_mem _ (List.mem_cons_of_mem _ (List.mem_cons_of_mem _ List.mem_cons_self))), (List.forall_mem_cons.mpr ⟨Or.inl List.mem_cons_self, (List.forall_mem_cons.mpr ⟨Or.inl (List.mem_cons_of_mem _ List.mem_cons_self), (List.forall_mem_cons.mpr ⟨Or.inl (List.mem_cons_of_mem _ (List.mem_cons_of_mem _ List.mem_cons_self)), (fun _ h => nomatch h)⟩)⟩)⟩)⟩)⟩)) h
  · have hv : ((c 111 (x2).toNatClampNeg)) = 7 := Int32.toInt_inj.mp (hx.trans rfl)
    obtain ⟨f, h⟩ := h_7 hv
    refine ⟨f + 14, ?_⟩
    rw [key f (97) (by rw [hv]; rfl) 170 rfl]
    exact nrun_ext f f _ _ R 457 170 [(0, .ref 49), (1, .int x1), (2, .int x2), (3, .int (x2 + (Int32.ofInt (1)))), (4, .int (c 112 (x2).toNatClampNeg))] [(4, .int (c 112 (x2).toNatClampNeg)), (3, .int (x2 + (Int32.ofInt (1)))), (0, .ref 49), (1, .int x1), (2, .int x2)] [] _ 0 0 122 (Nat.le_refl _) (Nat.le_refl _) (Nat.le_of_ble_eq_true rfl) (lvR_mk [0, 1, 2, 3, 4] [4, 3, 0, 1, 2] rfl rfl (by decide) (by decide) (List.forall_mem_cons.mpr ⟨(List.mem_cons_of_mem _ (List.mem_cons_of_mem _ List.mem_cons_self)), (List.forall_mem_cons.mpr ⟨(List.mem_cons_of_mem _ (List.mem_cons_of_mem _ (List.mem_cons_of_mem _ List.mem_cons_self))), (List.forall_mem_cons.mpr ⟨(List.mem_cons_of_mem _ (List.mem_cons_of_mem _ (List.mem_cons_of_mem _ (List.mem_cons_of_mem _ List.mem_cons_self)))), (List.forall_mem_cons.mpr ⟨(List.mem_cons_of_mem _ List.mem_cons_self), (List.forall_mem_cons.mpr ⟨List.mem_cons_self, (fun _ h => nomatch h)⟩)⟩)⟩)⟩)⟩) (List.forall_mem_cons.mpr ⟨Or.inl (List.mem_cons_of_mem _ (List.mem_cons_of_mem _ (List.mem_cons_of_mem _ (List.mem_cons_of_mem _ List.mem_cons_self)))), (List.forall_mem_cons.mpr ⟨Or.inl (List.mem_cons_of_mem _ (List.mem_cons_of_mem _ (List.mem_cons_of_mem _ List.mem_cons_self))), (List.forall_mem_cons.mpr ⟨Or.inl List.mem_cons_self, (List.forall_mem_cons.mpr ⟨Or.inl (List.mem_cons_of_mem _ List.mem_cons_self), (List.forall_mem_cons.mpr ⟨Or.inl (List.mem_cons_of_mem _ (List.mem_cons_of_mem _ List.mem_cons_self)), (fun _ h => nomatch h)⟩)⟩)⟩)⟩)⟩)) h
  · have hv : ((c 111 (x2).toNatClampNeg)) = 8 := Int32.toInt_inj.mp (hx.trans rfl)
    obtain ⟨f, h⟩ := h_8 hv
    refine ⟨f + 14, ?_⟩
    rw [key f (124) (by rw [hv]; rfl) 197 rfl]
    exact nrun_ext f f _ _ R 457 197 [(0, .ref 49), (1, .int x1), (2, .int x2), (3, .int (x2 + (Int32.ofInt (1)))), (4, .int (c 112 (x2).toNatClampNeg))] [(4, .int (c 112 (x2).toNatClampNeg)), (3, .int (x2 + (Int32.ofInt (1)))), (0, .ref 49), (1, .int x1), (2, .int x2)] [] _ 0 0 122 (Nat.le_refl _) (Nat.le_refl _) (Nat.le_of_ble_eq_true rfl) (lvR_mk [0, 1, 2, 3, 4] [4, 3, 0, 1, 2] rfl rfl (by decide) (by decide) (List.forall_mem_cons.mpr ⟨(List.mem_cons_of_mem _ (List.mem_cons_of_mem _ List.mem_cons_self)), (List.forall_mem_cons.mpr ⟨(List.mem_cons_of_mem _ (List.mem_cons_of_mem _ (List.mem_cons_of_mem _ List.mem_cons_self))), (List.forall_mem_cons.mpr ⟨(List.mem_cons_of_mem _ (List.mem_cons_of_mem _ (List.mem_cons_of_mem _ (List.mem_cons_of_mem _ List.mem_cons_self)))), (List.forall_mem_cons.mpr ⟨(List.mem_cons_of_mem _ List.mem_cons_self), (List.forall_mem_cons.mpr ⟨List.mem_cons_self, (fun _ h => nomatch h)⟩)⟩)⟩)⟩)⟩) (List.forall_mem_cons.mpr ⟨Or.inl (List.mem_cons_of_mem _ (List.mem_cons_of_mem _ (List.mem_cons_of_mem _ (List.mem_cons_of_mem _ List.mem_cons_self)))), (List.forall_mem_cons.mpr ⟨Or.inl (List.mem_cons_of_mem _ (List.mem_cons_of_mem _ (List.mem_cons_of_mem _ List.mem_cons_self))), (List.forall_mem_cons.mpr ⟨Or.inl List.mem_cons_self, (List.forall_mem_cons.mpr ⟨Or.inl (List.mem_cons_of_mem _ List.mem_cons_self), (List.forall_mem_cons.mpr ⟨Or.inl (List.mem_cons_of_mem _ (List.mem_cons_of_mem _ List.mem_cons_self)), (fun _ h => nomatch h)⟩)⟩)⟩)⟩)⟩)) h
  · have hv : ((c 111 (x2).toNatClampNeg)) = 9 := Int32.toInt_inj.mp (hx.trans rfl)
    obtain ⟨f, h⟩ := h_9 hv
    refine ⟨f + 14, ?_⟩
    rw [key f (151) (by rw [hv]; rfl) 224 rfl]
    exact nrun_ext f f _ _ R 457 224 [(0, .ref 49), (1, .int x1), (2, .int x2), (3, .int (x2 + (Int32.ofInt (1)))), (4, .int (c 112 (x2).toNatClampNeg))] [(4, .int (c 112 (x2).toNatClampNeg)), (3, .int (x2 + (Int32.ofInt (1)))), (0, .ref 49), (1, .int x1), (2, .int x2)] [] _ 0 0 122 (Nat.le_refl _) (Nat.le_refl _) (Nat.le_of_ble_eq_true rfl) (lvR_mk [0, 1, 2, 3, 4] [4, 3, 0, 1, 2] rfl rfl (by decide) (by decide) (List.forall_mem_cons.mpr ⟨(List.mem_cons_of_mem _ (List.mem_cons_of_mem _ List.mem_cons_self)), (List.forall_mem_cons.mpr ⟨(List.mem_cons_of_mem _ (List.mem_cons_of_mem _ (List.mem_cons_of_mem _ List.mem_cons_self))), (List.forall_mem_cons.mpr ⟨(List.mem_cons_of_mem _ (List.mem_cons_of_mem _ (List.mem_cons_of_mem _ (List.mem_cons_of_mem _ List.mem_cons_self)))), (List.forall_mem_cons.mpr ⟨(List.mem_cons_of_mem _ List.mem_cons_self), (List.forall_mem_cons.mpr ⟨List.mem_cons_self, (fun _ h => nomatch h)⟩)⟩)⟩)⟩)⟩) (List.forall_mem_cons.mpr ⟨Or.inl (List.mem_cons_of_mem _ (List.mem_cons_of_mem _ (List.mem_cons_of_mem _ (List.mem_cons_of_mem _ List.mem_cons_self)))), (List.forall_mem_cons.mpr ⟨Or.inl (List.mem_cons_of_mem _ (List.mem_cons_of_mem _ (List.mem_cons_of_mem _ List.mem_cons_self))), (List.forall_mem_cons.mpr ⟨Or.inl List.mem_cons_self, (List.forall_mem_cons.mpr ⟨Or.inl (List.mem_cons_of_mem _ List.mem_cons_self), (List.forall_mem_cons.mpr ⟨Or.inl (List.mem_cons_of_mem _ (List.mem_cons_of_mem _ List.mem_cons_self)), (fun _ h => nomatch h)⟩)⟩)⟩)⟩)⟩)) h
  · have hv : ((c 111 (x2).toNatClampNeg)) = 10 := Int32.toInt_inj.mp (hx.trans rfl)
    obtain ⟨f, h⟩ := h_10 hv
    refine ⟨f + 14, ?_⟩
    rw [key f (190) (by rw [hv]; rfl) 263 rfl]
    exact nrun_ext f f _ _ R 457 263 [(0, .ref 49), (1, .int x1), (2, .int x2), (3, .int (x2 + (Int32.ofInt (1)))), (4, .int (c 112 (x2).toNatClampNeg))] [(4, .int (c 112 (x2).toNatClampNeg)), (3, .int (x2 + (Int32.ofInt (1)))), (0, .ref 49), (1, .int x1), (2, .int x2)] [] _ 0 0 122 (Nat.le_refl _) (Nat.le_refl _) (Nat.le_of_ble_eq_true rfl) (lvR_mk [0, 1, 2, 3, 4] [4, 3, 0, 1, 2] rfl rfl (by decide) (by decide) (List.forall_mem_cons.mpr ⟨(List.mem_cons_of_mem _ (List.mem_cons_of_mem _ List.mem_cons_self)), (List.forall_mem_cons.mpr ⟨(List.mem_cons_of_mem _ (List.mem_cons_of_mem _ (List.mem_cons_of_mem _ List.mem_cons_self))), (List.forall_mem_cons.mpr ⟨(List.mem_cons_of_mem _ (List.mem_cons_of_mem _ (List.mem_cons_of_mem _ (List.mem_cons_of_mem _ List.mem_cons_self)))), (List.forall_mem_cons.mpr ⟨(List.mem_cons_of_mem _ List.mem_cons_self), (List.forall_mem_cons.mpr ⟨List.mem_cons_self, (fun _ h => nomatch h)⟩)⟩)⟩)⟩)⟩) (List.forall_mem_cons.mpr ⟨Or.inl (List.mem_cons_of_mem _ (List.mem_cons_of_mem _ (List.mem_cons_of_mem _ (List.mem_cons_of_mem _ List.mem_cons_self)))), (List.forall_mem_cons.mpr ⟨Or.inl (List.mem_cons_of_mem _ (List.mem_cons_of_mem _ (List.mem_cons_of_mem _ List.mem_cons_self))), (List.forall_mem_cons.mpr ⟨Or.inl List.mem_cons_self, (List.forall_mem_cons.mpr ⟨Or.inl (List.mem_cons_of_mem _ List.mem_cons_self), (List.forall_mem_cons.mpr ⟨Or.inl (List.mem_cons_of_mem _ (List.mem_cons_of_mem _ List.mem_cons_self)), (fun _ h => nomatch h)⟩)⟩)⟩)⟩)⟩)) h
  · have hv : ((c 111 (x2).toNatClampNeg)) = 11 := Int32.toInt_inj.mp (hx.trans rfl)
    obtain ⟨f, h⟩ := h_11 hv
    refine ⟨f + 14, ?_⟩
    rw [key f (229) (by rw [hv]; rfl) 302 rfl]
    exact nrun_ext f f _ _ R 457 302 [(0, .ref 49), (1, .int x1), (2, .int x2), (3, .int (x2 + (Int32.ofInt (1)))), (4, .int (c 112 (x2).toNatClampNeg))] [(4, .int (c 112 (x2).toNatClampNeg)), (3, .int (x2 + (Int32.ofInt (1)))), (0, .ref 49), (1, .int x1), (2, .int x2)] [] _ 0 0 122 (Nat.le_refl _) (Nat.le_refl _) (Nat.le_of_ble_eq_true rfl) (lvR_mk [0, 1, 2, 3, 4] [4, 3, 0, 1, 2] rfl rfl (by decide) (by decide) (List.forall_mem_cons.mpr ⟨(List.mem_cons_of_mem _ (List.mem_cons_of_mem _ List.mem_cons_self)), (List.forall_mem_cons.mpr ⟨(List.mem_cons_of_mem _ (List.mem_cons_of_mem _ (List.mem_cons_of_mem _ List.mem_cons_self))), (List.forall_mem_cons.mpr ⟨(List.mem_cons_of_mem _ (List.mem_cons_of_mem _ (List.mem_cons_of_mem _ (List.mem_cons_of_mem _ List.mem_cons_self)))), (List.forall_mem_cons.mpr ⟨(List.mem_cons_of_mem _ List.mem_cons_self), (List.forall_mem_cons.mpr ⟨List.mem_cons_self, (fun _ h => nomatch h)⟩)⟩)⟩)⟩)⟩) (List.forall_mem_cons.mpr ⟨Or.inl (List.mem_cons_of_mem _ (List.mem_cons_of_mem _ (List.mem_cons_of_mem _ (List.mem_cons_of_mem _ List.mem_cons_self)))), (List.forall_mem_cons.mpr ⟨Or.inl (List.mem_cons_of_mem _ (List.mem_cons_of_mem _ (List.mem_cons_of_mem _ List.mem_cons_self))), (List.forall_mem_cons.mpr ⟨Or.inl List.mem_cons_self, (List.forall_mem_cons.mpr ⟨Or.inl (List.mem_cons_of_mem _ List.mem_cons_self), (List.forall_mem_cons.mpr ⟨Or.inl (List.mem_cons_of_mem _ (List.mem_cons_of_mem _ List.mem_cons_self)), (fun _ h => nomatch h)⟩)⟩)⟩)⟩)⟩)) h
  · have hv : ((c 111 (x2).toNatClampNeg)) = 12 := Int32.toInt_inj.mp (hx.trans rfl)
    obtain ⟨f, h⟩ := h_12 hv
    refine ⟨f + 14, ?_⟩
    rw [key f (268) (by rw [hv]; rfl) 341 rfl]
    exact nrun_ext f f _ _ R 457 341 [(0, .ref 49), (1, .int x1), (2, .int x2), (3, .int (x2 + (Int32.ofInt (1)))), (4, .int (c 112 (x2).toNatClampNeg))] [(4, .int (c 112 (x2).toNatClampNeg)), (3, .int (x2 + (Int32.ofInt (1)))), (0, .ref 49), (1, .int x1), (2, .int x2)] [] _ 0 0 122 (Nat.le_refl _) (Nat.le_refl _) (Nat.le_of_ble_eq_true rfl) (lvR_mk [0, 1, 2, 3, 4] [4, 3, 0, 1, 2] rfl rfl (by decide) (by decide) (List.forall_mem_cons.mpr ⟨(List.mem_cons_of_mem _ (List.mem_cons_of_mem _ List.mem_cons_self)), (List.forall_mem_cons.mpr ⟨(List.mem_cons_of_mem _ (List.mem_cons_of_mem _ (List.mem_cons_of_mem _ List.mem_cons_self))), (List.forall_mem_cons.mpr ⟨(List.mem_cons_of_mem _ (List.mem_cons_of_mem _ (List.mem_cons_of_mem _ (List.mem_cons_of_mem _ List.mem_cons_self)))), (List.forall_mem_cons.mpr ⟨(List.mem_cons_of_mem _ List.mem_cons_self), (List.forall_mem_cons.mpr ⟨List.mem_cons_self, (fun _ h => nomatch h)⟩)⟩)⟩)⟩)⟩) (List.forall_mem_cons.mpr ⟨Or.inl (List.mem_cons_of_mem _ (List.mem_cons_of_mem _ (List.mem_cons_of_mem _ (List.mem_cons_of_mem _ List.mem_cons_self)))), (List.forall_mem_cons.mpr ⟨Or.inl (List.mem_cons_of_mem _ (List.mem_cons_of_mem _ (List.mem_cons_of_mem _ List.mem_cons_self))), (List.forall_mem_cons.mpr ⟨Or.inl List.mem_cons_self, (List.forall_mem_cons.mpr ⟨Or.inl (List.mem_cons_of_mem _ List.mem_cons_self), (List.forall_mem_cons.mpr ⟨Or.inl (List.mem_cons_of_mem _ (List.mem_cons_of_mem _ List.mem_cons_self)), (fun _ h => nomatch h)⟩)⟩)⟩)⟩)⟩)) h
  · have hv : ((c 111 (x2).toNatClampNeg)) = 13 := Int32.toInt_inj.mp (hx.trans rfl)
    obtain ⟨f, h⟩ := h_13 hv
    refine ⟨f + 14, ?_⟩
    rw [key f (55) (by rw [hv]; rfl) 128 rfl]
    exact nrun_ext f f _ _ R 457 128 [(0, .ref 49), (1, .int x1), (2, .int x2), (3, .int (x2 + (Int32.ofInt (1)))), (4, .int (c 112 (x2).toNatClampNeg))] [(4, .int (c 112 (x2).toNatClampNeg)), (3, .int (x2 + (Int32.ofInt (1)))), (0, .ref 49), (1, .int x1), (2, .int x2)] [] _ 0 0 122 (Nat.le_refl _) (Nat.le_refl _) (Nat.le_of_ble_eq_true rfl) (lvR_mk [0, 1, 2, 3, 4] [4, 3, 0, 1, 2] rfl rfl (by decide) (by decide) (List.forall_mem_cons.mpr ⟨(List.mem_cons_of_mem _ (List.mem_cons_of_mem _ List.mem_cons_self)), (List.forall_mem_cons.mpr ⟨(List.mem_cons_of_mem _ (List.mem_cons_of_mem _ (List.mem_cons_of_mem _ List.mem_cons_self))), (List.forall_mem_cons.mpr ⟨(List.mem_cons_of_mem _ (List.mem_cons_of_mem _ (List.mem_cons_of_mem _ (List.mem_cons_of_mem _ List.mem_cons_self)))), (List.forall_mem_cons.mpr ⟨(List.mem_cons_of_mem _ List.mem_cons_self), (List.forall_mem_cons.mpr ⟨List.mem_cons_self, (fun _ h => nomatch h)⟩)⟩)⟩)⟩)⟩) (List.forall_mem_cons.mpr ⟨Or.inl (List.mem_cons_of_mem _ (List.mem_cons_of_mem _ (List.mem_cons_of_mem _ (List.mem_cons_of_mem _ List.mem_cons_self)))), (List.forall_mem_cons.mpr ⟨Or.inl (List.mem_cons_of_mem _ (List.mem_cons_of_mem _ (List.mem_cons_of_mem _ List.mem_cons_self))), (List.forall_mem_cons.mpr ⟨Or.inl List.mem_cons_self, (List.forall_mem_cons.mpr ⟨Or.inl (List.mem_cons_of_mem _ List.mem_cons_self), (List.forall_mem_cons.mpr ⟨Or.inl (List.mem_cons_of_mem _ (List.mem_cons_of_mem _ List.mem_cons_self)), (fun _ h => nomatch h)⟩)⟩)⟩)⟩)⟩)) h
  · have hv : ((c 111 (x2).toNatClampNeg)) = 14 := Int32.toInt_inj.mp (hx.trans rfl)
    obtain ⟨f, h⟩ := h_14 hv
    refine ⟨f + 14, ?_⟩
    rw [key f (311) (by rw [hv]; rfl) 384 rfl]
    exact nrun_ext f f _ _ R 457 384 [(0, .ref 49), (1, .int x1), (2, .int x2)] [(4, .int (c 112 (x2).toNatClampNeg)), (3, .int (x2 + (Int32.ofInt (1)))), (0, .ref 49), (1, .int x1), (2, .int x2)] [] _ 0 0 122 (Nat.le_refl _) (Nat.le_refl _) (Nat.le_of_ble_eq_true rfl) (lvR_mk [0, 1, 2] [4, 3, 0, 1, 2] rfl rfl (by decide) (by decide) (List.forall_mem_cons.mpr ⟨(List.mem_cons_of_mem _ (List.mem_cons_of_mem _ List.mem_cons_self)), (List.forall_mem_cons.mpr ⟨(List.mem_cons_of_mem _ (List.mem_cons_of_mem _ (List.mem_cons_of_mem _ List.mem_cons_self))), (List.forall_mem_cons.mpr ⟨(List.mem_cons_of_mem _ (List.mem_cons_of_mem _ (List.mem_cons_of_mem _ (List.mem_cons_of_mem _ List.mem_cons_self)))), (fun _ h => nomatch h)⟩)⟩)⟩) (List.forall_mem_cons.mpr ⟨Or.inr rfl, (List.forall_mem_cons.mpr ⟨Or.inr rfl, (List.forall_mem_cons.mpr ⟨Or.inl List.mem_cons_self, (List.forall_mem_cons.mpr ⟨Or.inl (List.mem_cons_of_mem _ List.mem_cons_self), (List.forall_mem_cons.mpr ⟨Or.inl (List.mem_cons_of_mem _ (List.mem_cons_of_mem _ List.mem_cons_self)), (fun _ h => nomatch h)⟩)⟩)⟩)⟩)⟩)) h
