set_option maxRecDepth 100000 in
set_option maxHeartbeats 4000000 in
theorem bk_329s52_93 {b : Bool} {d : Nat} {x2 x3 x4 x5 x7 : Int32} {e : Nat → x_E} {g : Nat → Int32} {q : Nat → Int64} {c : Nat → Nat → Int32} {l : Nat → Nat → Int64} {R : Option Value × List x_E} (h : rr b e d 329 94 [(0, .ref 49), (1, .ref 52), (2, .int x2), (3, .int x3), (4, .int x4), (5, .int x5), (7, .int x7)] [.int (Int32.ofInt (0))] g q c l R) : rr b e d 329 93 [(0, .ref 49), (1, .ref 52), (2, .int x2), (3, .int x3), (4, .int x4), (5, .int x5), (7, .int x7)] [] g q c l R := by
  obtain ⟨f, h⟩ := h
  refine ⟨f + 1, ?_⟩
  obtain ⟨y, cb, hj⟩ := mq_329
  rw [n_step (st' := [.int (Int32.ofInt (0))]) (pc' := 94) (lv' := [(0, .ref 49), (1, .ref 52), (2, .int x2), (3, .int x3), (4, .int x4), (5, .int x5), (7, .int x7)]) (hp' := rH e g q c l) (i := .iconst 0) (len := 1) rfl hj rfl rfl rfl]
  exact h
set_option maxRecDepth 100000 in
set_option maxHeartbeats 4000000 in
theorem bk_329s52_94 {b : Bool} {d : Nat} {t0 x2 x3 x4 x5 x7 : Int32} {e : Nat → x_E} {g : Nat → Int32} {q : Nat → Int64} {c : Nat → Nat → Int32} {l : Nat → Nat → Int64} {R : Option Value × List x_E} (h : rr b e d 329 56 [(0, .ref 49), (1, .ref 52), (2, .int x2), (3, .int x3), (4, .int x4), (5, .int x5), (6, .int t0), (7, .int (x7 + Int32.ofInt (1)))] [] g q c l R) : rr b e d 329 94 [(0, .ref 49), (1, .ref 52), (2, .int x2), (3, .int x3), (4, .int x4), (5, .int x5), (7, .int x7)] [.int t0] g q c l R := by
  obtain ⟨f, h⟩ := h
  refine ⟨f + 3, ?_⟩
  obtain ⟨y, cb, hj⟩ := mq_329
  rw [n_step (st' := []) (pc' := 96) (lv' := [(6, .int t0), (0, .ref 49), (1, .ref 52), (2, .int x2), (3, .int x3), (4, .int x4), (5, .int x5), (7, .int x7)]) (hp' := rH e g q c l) (i := .istore 6) (len := 2) rfl hj rfl rfl rfl]
  rw [n_step (st' := []) (pc' := 99) (lv' := [(7, .int (x7 + Int32.ofInt (1))), (6, .int t0), (0, .ref 49), (1, .ref 52), (2, .int x2), (3, .int x3), (4, .int x4), (5, .int x5)]) (hp' := rH e g q c l) (i := .iinc 7 1) (len := 3) rfl hj rfl rfl rfl]
  rw [n_step (st' := []) (pc' := 56) (lv' := [(7, .int (x7 + Int32.ofInt (1))), (6, .int t0), (0, .ref 49), (1, .ref 52), (2, .int x2), (3, .int x3), (4, .int x4), (5, .int x5)]) (hp' := rH e g q c l) (i := .goto (-43)) (len := 3) rfl hj rfl rfl rfl]
  exact nrun_ext f f _ _ R 329 56 [(0, .ref 49), (1, .ref 52), (2, .int x2), (3, .int x3), (4, .int x4), (5, .int x5), (6, .int t0), (7, .int (x7 + Int32.ofInt (1)))] [(7, .int (x7 + Int32.ofInt (1))), (6, .int t0), (0, .ref 49), (1, .ref 52), (2, .int x2), (3, .int x3), (4, .int x4), (5, .int x5)] [] _ 0 0 122 (Nat.le_refl _) (Nat.le_refl _) (Nat.le_of_ble_eq_true rfl) (lvR_mk [0, 1, 2, 3, 4, 5, 6, 7] [7, 6, 0, 1, 2, 3, 4, 5] rfl rfl (by decide) (by decide) (List.forall_mem_cons.mpr ⟨(List.mem_cons_of_mem _ (List.mem_cons_of_mem _ List.mem_cons_self)), (List.forall_mem_cons.mpr ⟨(List.mem_cons_of_mem _ (List.mem_cons_of_mem _ (List.mem_cons_of_mem _ List.mem_cons_self))), (List.forall_mem_cons.mpr ⟨(List.mem_cons_of_mem _ (List.mem_cons_of_mem _ (List.mem_cons_of_mem _ (List.mem_cons_of_mem _ List.mem_cons_self)))), (List.forall_mem_cons.mpr ⟨(List.mem_cons_of_mem _ (List.mem_cons_of_mem _ (List.mem_cons_of_mem _ (List.mem_cons_of_mem _ (List.mem_cons_of_mem _ List.mem_cons_self))))), (List.forall_mem_cons.mpr ⟨(List.mem_cons_of_mem _ (List.mem_cons_of_mem _ (List.mem_cons_of_mem _ (List.mem_cons_of_mem _ (List.mem_cons_of_mem _ (List.mem_cons_of_mem _ List.mem_cons_self)))))), (List.forall_mem_cons.mpr ⟨(List.mem_cons_of_mem _ (List.mem_cons_of_mem _ (List.mem_cons_of_mem _ (List.mem_cons_of_mem _ (List.mem_cons_of_mem _ (List.mem_cons_of_mem _ (List.mem_cons_of_mem _ List.mem_cons_self))))))), (List.forall_mem_cons.mpr ⟨(List.mem_cons_of_mem _ List.mem_cons_self), (List.forall_mem_cons.mpr ⟨List.mem_cons_self, (fun _ h => nomatch h)⟩)⟩)⟩)⟩)⟩)⟩)⟩)⟩) (List.forall_mem_cons.mpr ⟨Or.inl (List.mem_cons_of_mem _ (List.mem_cons_of_mem _ (List.mem_cons_of_mem _ (List.mem_cons_of_mem _ (List.mem_cons_of_mem _ (List.mem_cons_of_mem _ (List.mem_cons_of_mem _ List.mem_cons_self))))))), (List.forall_mem_cons.mpr ⟨Or.inl (List.mem_cons_of_mem _ (List.mem_cons_of_mem _ (List.mem_cons_of_mem _ (List.mem_cons_of_mem _ (List.mem_cons_of_mem _ (List.mem_cons_of_mem _ List.mem_cons_self)))))), (List.forall_mem_cons.mpr ⟨Or.inl List.mem_cons_self, (List.forall_mem_cons.mpr ⟨Or.inl (List.mem_cons_of_mem _ List.mem_cons_self), (List.forall_mem_cons.mpr ⟨Or.inl (List.mem_cons_of_mem _ (List.mem_cons_of_mem _ List.mem_cons_self)), (List.forall_mem_cons.mpr ⟨Or.inl (List.mem_cons_of_mem _ (List.mem_cons_of_mem _ (List.mem_cons_of_mem _ List.mem_cons_self))), (List.forall_mem_cons.mpr ⟨Or.inl (List.mem_cons_of_mem _ (List.mem_cons_of_mem _ (List.mem_cons_of_mem _ (List.mem_cons_of_mem _ List.mem_cons_self)))), (List.forall_mem_cons.mpr ⟨Or.inl (List.mem_cons_of_mem _ (List.mem_cons_of_mem _ (List.mem_cons_of_mem _ (List.mem_cons_of_mem _ (List.mem_cons_of_mem _ List.mem_cons_self))))), (fun _ h => nomatch h)⟩)⟩)⟩)⟩)⟩)⟩)⟩)⟩)) h
set_option maxRecDepth 100000 in
set_option maxHeartbeats 4000000 in
theorem bk_329s52_102 {b : Bool} {d : Nat} {x2 x3 x5 x6 : Int32} {e : Nat → x_E} {g : Nat → Int32} {q : Nat → Int64} {c : Nat → Nat → Int32} {l : Nat → Nat → Int64} {R : Option Value × List x_E} (h1 : xCn .eq x6 0 = true → rr b e d 329 109 [(0, .ref 49), (1, .ref 52), (2, .int x2), (3, .int x3), (5, .int x5)] [] g q c l R) (h2 : ¬ xCn .eq x6 0 = true → rr b e d 329 107 [(3, .int x3)] [] g q c l R) : rr b e d 329 102 [(0, .ref 49), (1, .ref 52), (2, .int x2), (3, .int x3), (5, .int x5), (6, .int x6)] [] g q c l R := by
  have key : ∀ f, nrun xZ (xY (xfm b)) xDT (f + 2) d 329 102 [(0, .ref 49), (1, .ref 52), (2, .int x2), (3, .int x3), (5, .int x5), (6, .int x6)] [] (rH e g q c l) 0 0 = nrun xZ (xY (xfm b)) xDT f d 329 (if xCn .eq x6 0 = true then 109 else 107) [(0, .ref 49), (1, .ref 52), (2, .int x2), (3, .int x3), (5, .int x5), (6, .int x6)] [] (rH e g q c l) 0 0 := by
    intro f
    obtain ⟨y, cb, hj⟩ := mq_329
    rw [n_step (st' := [.int x6]) (pc' := 104) (lv' := [(0, .ref 49), (1, .ref 52), (2, .int x2), (3, .int x3), (5, .int x5), (6, .int x6)]) (hp' := rH e g q c l) (i := .iload 6) (len := 2) rfl hj rfl rfl rfl]
    rw [n_step (st' := []) (pc' := (if xCn .eq x6 0 = true then 109 else 107)) (lv' := [(0, .ref 49), (1, .ref 52), (2, .int x2), (3, .int x3), (5, .int x5), (6, .int x6)]) (hp' := rH e g q c l) (i := .ifCond .eq 5) (len := 3) rfl hj rfl rfl rfl]
  by_cases hc : xCn .eq x6 0 = true
  · obtain ⟨f, h⟩ := h1 hc
    refine ⟨f + 2, ?_⟩
    rw [key, if_pos hc]
    exact nrun_ext f f _ _ R 329 109 [(0, .ref 49), (1, .ref 52), (2, .int x2), (3, .int x3), (5, .int x5)] [(0, .ref 49), (1, .ref 52), (2, .int x2), (3, .int x3), (5, .int x5), (6, .int x6)] [] _ 0 0 122 (Nat.le_refl _) (Nat.le_refl _) (Nat.le_of_ble_eq_true rfl) (lvR_mk [0, 1, 2, 3, 5] [0, 1, 2, 3, 5, 6] rfl rfl (by decide) (by decide) (List.forall_mem_cons.mpr ⟨List.mem_cons_self, (List.forall_mem_cons.mpr ⟨(List.mem_cons_of_mem _ List.mem_cons_self), (List.forall_mem_cons.mpr ⟨(List.mem_cons_of_mem _ (List.mem_cons_of_mem _ List.mem_cons_self)), (List.forall_mem_cons.mpr ⟨(List.mem_cons_of_mem _ (List.mem_cons_of_mem _ (List.mem_cons_of_mem _ List.mem_cons_self))), (List.forall_mem_cons.mpr ⟨(List.mem_cons_of_mem _ (List.mem_cons_of_mem _ (List.mem_cons_of_mem _ (List.mem_cons_of_mem _ List.mem_cons_self)))), (fun _ h => nomatch h)⟩)⟩)⟩)⟩)⟩) (List.forall_mem_cons.mpr ⟨Or.inl List.mem_cons_self, (List.forall_mem_cons.mpr ⟨Or.inl (List.mem_cons_of_mem _ List.mem_cons_self), (List.forall_mem_cons.mpr ⟨Or.inl (List.mem_cons_of_mem _ (List.mem_cons_of_mem _ List.mem_cons_self)), (List.forall_mem_cons.mpr ⟨Or.inl (List.mem_cons_of_mem _ (List.mem_cons_of_mem _ (List.mem_cons_of_mem _ List.mem_cons_self))), (List.forall_mem_cons.mpr ⟨Or.inl (List.mem_cons_of_mem _ (List.mem_cons_of_mem _ (List.mem_cons_of_mem _ (List.mem_cons_of_mem _ List.mem_cons_self)))), (List.forall_mem_cons.mpr ⟨Or.inr rfl, (fun _ h => nomatch h)⟩)⟩)⟩)⟩)⟩)⟩)) h
  · obtain ⟨f, h⟩ := h2 hc
    refine ⟨f + 2, ?_⟩
    rw [key, if_neg hc]
    exact nrun_ext f f _ _ R 329 107 [(3, .int x3)] [(0, .ref 49), (1, .ref 52), (2, .int x2), (3, .int x3), (5, .int x5), (6, .int x6)] [] _ 0 0 122 (Nat.le_refl _) (Nat.le_refl _) (Nat.le_of_ble_eq_true rfl) (lvR_mk [3] [0, 1, 2, 3, 5, 6] rfl rfl (by decide) (by decide) (List.forall_mem_cons.mpr ⟨(List.mem_cons_of_mem _ (List.mem_cons_of_mem _ (List.mem_cons_of_mem _ List.mem_cons_self))), (fun _ h => nomatch h)⟩) (List.forall_mem_cons.mpr ⟨Or.inr rfl, (List.forall_mem_cons.mpr ⟨Or.inr rfl, (List.forall_mem_cons.mpr ⟨Or.inr rfl, (List.forall_mem_cons.mpr ⟨Or.inl List.mem_cons_self, (List.forall_mem_cons.mpr ⟨Or.inr rfl, (List.forall_mem_cons.mpr ⟨Or.inr rfl, (fun _ h => nomatch h)⟩)⟩)⟩)⟩)⟩)⟩)) h
set_option maxRecDepth 100000 in
set_option maxHeartbeats 4000000 in
theorem bk_329s52_107 {b : Bool} {d : Nat} {x3 : Int32} {e : Nat → x_E} {g : Nat → Int32} {q : Nat → Int64} {c : Nat → Nat → Int32} {l : Nat → Nat → Int64} : rr b e d 329 107 [(3, .int x3)] [] g q c l (some (.int x3), rH e g q c l) := by
  refine ⟨0 + 2, ?_⟩
  obtain ⟨y, cb, hj⟩ := mq_329
  rw [n_step (st' := [.int x3]) (pc' := 108) (lv' := [(3, .int x3)]) (hp' := rH e g q c l) (i := .iload_n 3) (len := 1) rfl hj rfl rfl rfl]
  exact n_ret rfl hj rfl rfl (x_ret rfl)
set_option maxRecDepth 100000 in
set_option maxHeartbeats 4000000 in
theorem bk_329s52_109 {b : Bool} {d : Nat} {x2 x3 x5 : Int32} {e : Nat → x_E} {g : Nat → Int32} {q : Nat → Int64} {c : Nat → Nat → Int32} {l : Nat → Nat → Int64} {R : Option Value × List x_E} (h : rr b e d 329 119 [(0, .ref 49), (1, .ref 52), (2, .int x2), (3, .int (x3 + (Int32.ofInt (1)))), (4, .int (x5 + (Int32.ofInt (1)))), (5, .int x5)] [] g q c l R) : rr b e d 329 109 [(0, .ref 49), (1, .ref 52), (2, .int x2), (3, .int x3), (5, .int x5)] [] g q c l R := by
  obtain ⟨f, h⟩ := h
  refine ⟨f + 8, ?_⟩
  obtain ⟨y, cb, hj⟩ := mq_329
  rw [n_step (st' := [.int x3]) (pc' := 110) (lv' := [(0, .ref 49), (1, .ref 52), (2, .int x2), (3, .int x3), (5, .int x5)]) (hp' := rH e g q c l) (i := .iload_n 3) (len := 1) rfl hj rfl rfl rfl]
  rw [n_step (st' := [.int (Int32.ofInt (1)), .int x3]) (pc' := 111) (lv' := [(0, .ref 49), (1, .ref 52), (2, .int x2), (3, .int x3), (5, .int x5)]) (hp' := rH e g q c l) (i := .iconst 1) (len := 1) rfl hj rfl rfl rfl]
  rw [n_step (st' := [.int (x3 + (Int32.ofInt (1)))]) (pc' := 112) (lv' := [(0, .ref 49), (1, .ref 52), (2, .int x2), (3, .int x3), (5, .int x5)]) (hp' := rH e g q c l) (i := .iadd) (len := 1) rfl hj rfl rfl rfl]
  rw [n_step (st' := []) (pc' := 113) (lv' := [(3, .int (x3 + (Int32.ofInt (1)))), (0, .ref 49), (1, .ref 52), (2, .int x2), (5, .int x5)]) (hp' := rH e g q c l) (i := .istore_n 3) (len := 1) rfl hj rfl rfl rfl]
  rw [n_step (st' := [.int x5]) (pc' := 115) (lv' := [(3, .int (x3 + (Int32.ofInt (1)))), (0, .ref 49), (1, .ref 52), (2, .int x2), (5, .int x5)]) (hp' := rH e g q c l) (i := .iload 5) (len := 2) rfl hj rfl rfl rfl]
  rw [n_step (st' := [.int (Int32.ofInt (1)), .int x5]) (pc' := 116) (lv' := [(3, .int (x3 + (Int32.ofInt (1)))), (0, .ref 49), (1, .ref 52), (2, .int x2), (5, .int x5)]) (hp' := rH e g q c l) (i := .iconst 1) (len := 1) rfl hj rfl rfl rfl]
  rw [n_step (st' := [.int (x5 + (Int32.ofInt (1)))]) (pc' := 117) (lv' := [(3, .int (x3 + (Int32.ofInt (1)))), (0, .ref 49), (1, .ref 52), (2, .int x2), (5, .int x5)]) (hp' := rH e g q c l) (i := .iadd) (len := 1) rfl hj rfl rfl rfl]
  rw [n_step (st' := []) (pc' := 119) (lv' := [(4, .int (x5 + (Int32.ofInt (1)))), (3, .int (x3 + (Int32.ofInt (1)))), (0, .ref 49), (1, .ref 52), (2, .int x2), (5, .int x5)]) (hp' := rH e g q c l) (i := .istore 4) (len := 2) rfl hj rfl rfl rfl]
  exact nrun_ext f f _ _ R 329 119 [(0, .ref 49), (1, .ref 52), (2, .int x2), (3, .int (x3 + (Int32.ofInt (1)))), (4, .int (x5 + (Int32.ofInt (1)))), (5, .int x5)] [(4, .int (x5 + (Int32.ofInt (1)))), (3, .int (x3 + (Int32.ofInt (1)))), (0, .ref 49), (1, .ref 52), (2, .int x2), (5, .int x5)] [] _ 0 0 122 (Nat.le_refl _) (Nat.le_refl _) (Nat.le_of_ble_eq_true rfl) (lvR_mk [0, 1, 2, 3, 4, 5] [4, 3, 0, 1, 2, 5] rfl rfl (by decide) (by decide) (List.forall_mem_cons.mpr ⟨(List.mem_cons_of_mem _ (List.mem_cons_of_mem _ List.mem_cons_self)), (List.forall_mem_cons.mpr ⟨(List.mem_cons_of_mem _ (List.mem_cons_of_mem _ (List.mem_cons_of_mem _ List.mem_cons_self))), (List.forall_mem_cons.mpr ⟨(List.mem_cons_of_mem _ (List.mem_cons_of_mem _ (List.mem_cons_of_mem _ (List.mem_cons_of_mem _ List.mem_cons_self)))), (List.forall_mem_cons.mpr ⟨(List.mem_cons_of_mem _ List.mem_cons_self), (List.forall_mem_cons.mpr ⟨List.mem_cons_self, (List.forall_mem_cons.mpr ⟨(List.mem_cons_of_mem _ (List.mem_cons_of_mem _ (List.mem_cons_of_mem _ (List.mem_cons_of_mem _ (List.mem_cons_of_mem _ List.mem_cons_self))))), (fun _ h => nomatch h)⟩)⟩)⟩)⟩)⟩)⟩) (List.forall_mem_cons.mpr ⟨Or.inl (List.mem_cons_of_mem _ (List.mem_cons_of_mem _ (List.mem_cons_of_mem _ (List.mem_cons_of_mem _ List.mem_cons_self)))), (List.forall_mem_cons.mpr ⟨Or.inl (List.mem_cons_of_mem _ (List.mem_cons_of_mem _ (List.mem_cons_of_mem _ List.mem_cons_self))), (List.forall_mem_cons.mpr ⟨Or.inl List.mem_cons_self, (List.forall_mem_cons.mpr ⟨Or.inl (List.mem_cons_of_mem _ List.mem_cons_self), (List.forall_mem_cons.mpr ⟨Or.inl (List.mem_cons_of_mem _ (List.mem_cons_of_mem _ List.mem_cons_self)), (List.forall_mem_cons.mpr ⟨Or.inl (List.mem_cons_of_mem _ (List.mem_cons_of_mem _ (List.mem_cons_of_mem _ (List.mem_cons_of_mem _ (List.mem_cons_of_mem _ List.mem_cons_self))))), (fun _ h => nomatch h)⟩)⟩)⟩)⟩)⟩)⟩)) h
set_option maxRecDepth 100000 in
set_option maxHeartbeats 4000000 in
theorem bk_329s52_119 {b : Bool} {d : Nat} {x2 x3 x4 x5 : Int32} {e : Nat → x_E} {g : Nat → Int32} {q : Nat → Int64} {c : Nat → Nat → Int32} {l : Nat → Nat → Int64} {R : Option Value × List x_E} (h : rr b e d 329 18 [(0, .ref 49), (1, .ref 52), (2, .int x2), (3, .int x3), (4, .int x4), (5, .int (x5 + Int32.ofInt (1)))] [] g q c l R) : rr b e d 329 119 [(0, .ref 49), (1, .ref 52), (2, .int x2), (3, .int x3), (4, .int x4), (5, .int x5)] [] g q c l R := by
  obtain ⟨f, h⟩ := h
  refine ⟨f + 2, ?_⟩
  obtain ⟨y, cb, hj⟩ := mq_329
  rw [n_step (st' := []) (pc' := 122) (lv' := [(5, .int (x5 + Int32.ofInt (1))), (0, .ref 49), (1, .ref 52), (2, .int x2), (3, .int x3), (4, .int x4)]) (hp' := rH e g q c l) (i := .iinc 5 1) (len := 3) rfl hj rfl rfl rfl]
  rw [n_step (st' := []) (pc' := 18) (lv' := [(5, .int (x5 + Int32.ofInt (1))), (0, .ref 49), (1, .ref 52), (2, .int x2), (3, .int x3), (4, .int x4)]) (hp' := rH e g q c l) (i := .goto (-104)) (len := 3) rfl hj rfl rfl rfl]
  exact nrun_ext f f _ _ R 329 18 [(0, .ref 49), (1, .ref 52), (2, .int x2), (3, .int x3), (4, .int x4), (5, .int (x5 + Int32.ofInt (1)))] [(5, .int (x5 + Int32.ofInt (1))), (0, .ref 49), (1, .ref 52), (2, .int x2), (3, .int x3), (4, .int x4)] [] _ 0 0 122 (Nat.le_refl _) (Nat.le_refl _) (Nat.le_of_ble_eq_true rfl) (lvR_mk [0, 1, 2, 3, 4, 5] [5, 0, 1, 2, 3, 4] rfl rfl (by decide) (by decide) (List.forall_mem_cons.mpr ⟨(List.mem_cons_of_mem _ List.mem_cons_self), (List.forall_mem_cons.mpr ⟨(List.mem_cons_of_mem _ (List.mem_cons_of_mem _ List.mem_cons_self)), (List.forall_mem_cons.mpr ⟨(List.mem_cons_of_mem _ (List.mem_cons_of_mem _ (List.mem_cons_of_mem _ List.mem_cons_self))), (List.forall_mem_cons.mpr ⟨(List.mem_cons_of_mem _ (List.mem_cons_of_mem _ (List.mem_cons_of_mem _ (List.mem_cons_of_mem _ List.mem_cons_self)))), (List.forall_mem_cons.mpr ⟨(List.mem_cons_of_mem _ (List.mem_cons_of_mem _ (List.mem_cons_of_mem _ (List.mem_cons_of_mem _ (List.mem_cons_of_mem _ List.mem_cons_self))))), (List.forall_mem_cons.mpr ⟨List.mem_cons_self, (fun _ h => nomatch h)⟩)⟩)⟩)⟩)⟩)⟩) (List.forall_mem_cons.mpr ⟨Or.inl (List.mem_cons_of_mem _ (List.mem_cons_of_mem _ (List.mem_cons_of_mem _ (List.mem_cons_of_mem _ (List.mem_cons_of_mem _ List.mem_cons_self))))), (List.forall_mem_cons.mpr ⟨Or.inl List.mem_cons_self, (List.forall_mem_cons.mpr ⟨Or.inl (List.mem_cons_of_mem _ List.mem_cons_self), (List.forall_mem_cons.mpr ⟨Or.inl (List.mem_cons_of_mem _ (List.mem_cons_of_mem _ List.mem_cons_self)), (List.forall_mem_cons.mpr ⟨Or.inl (List.mem_cons_of_mem _ (List.mem_cons_of_mem _ (List.mem_cons_of_mem _ List.mem_cons_self))), (List.forall_mem_cons.mpr ⟨Or.inl (List.mem_cons_of_mem _ (List.mem_cons_of_mem _ (List.mem_cons_of_mem _ (List.mem_cons_of_mem _ List.mem_cons_self)))), (fun _ h => nomatch h)⟩)⟩)⟩)⟩)⟩)⟩)) h
set_option maxRecDepth 100000 in
set_option maxHeartbeats 4000000 in
theorem bk_329s52_125 {b : Bool} {d : Nat} {e : Nat → x_E} {g : Nat → Int32} {q : Nat → Int64} {c : Nat → Nat → Int32} {l : Nat → Nat → Int64} : rr b e d 329 125 [] [] g q c l (some (.int (Int32.ofInt (-1))), rH e g q c l) := by
  refine ⟨0 + 2, ?_⟩
  obtain ⟨y, cb, hj⟩ := mq_329
  rw [n_step (st' := [.int (Int32.ofInt (-1))]) (pc' := 126) (lv' := []) (hp' := rH e g q c l) (i := .iconst (-1)) (len := 1) rfl hj rfl rfl rfl]
  exact n_ret rfl hj rfl rfl (x_ret rfl)
set_option maxRecDepth 100000 in
set_option maxHeartbeats 4000000 in
theorem bk_330_0 {b : Bool} {d : Nat} {e : Nat → x_E} {g : Nat → Int32} {q : Nat → Int64} {c : Nat → Nat → Int32} {l : Nat → Nat → Int64} {R : Option Value × List x_E} (hz0 : ¬ ((g 11) < 0 ∨ 6000 ≤ ((g 11)).toNatClampNeg)) (h1 : xCn .ne ((c 51 ((g 11)).toNatClampNeg)) ((Int8.ofInt (114)).toInt32) = true → rr b e d 330 67 [] [] g q c l R) (h2 : ¬ xCn .ne ((c 51 ((g 11)).toNatClampNeg)) ((Int8.ofInt (114)).toInt32) = true → rr b e d 330 24 [(0, .ref 49), (1, .int ((g 12) - (g 11)))] [] g q c l R) : rr b e d 330 0 [(0, .ref 49)] [] g q c l R := by
  have key : ∀ f, nrun xZ (xY (xfm b)) xDT (f + 13) d 330 0 [(0, .ref 49)] [] (rH e g q c l) 0 0 = nrun xZ (xY (xfm b)) xDT f d 330 (if xCn .ne ((c 51 ((g 11)).toNatClampNeg)) ((Int8.ofInt (114)).toInt32) = true then 67 else 24) [(1, .int ((g 12) - (g 11))), (0, .ref 49)] [] (rH e g q c l) 0 0 := by
    intro f
    obtain ⟨y, cb, hj⟩ := mq_330
    rw [n_step (st' := [.ref 49]) (pc' := 1) (lv' := [(0, .ref 49)]) (hp' := rH e g q c l) (i := .aload_n 0) (len := 1) rfl hj rfl rfl rfl]
    rw [n_get (st' := [.int (g 12)]) (pc' := 4) (lv' := [(0, .ref 49)]) (hp' := rH e g q c l) (i := .getfield 264) (len := 3) rfl hj rfl rfl rfl rfl]
    rw [n_step (st' := [.ref 49, .int (g 12)]) (pc' := 5) (lv' := [(0, .ref 49)]) (hp' := rH e g q c l) (i := .aload_n 0) (len := 1) rfl hj rfl rfl rfl]
    rw [n_get (st' := [.int (g 11), .int (g 12)]) (pc' := 8) (lv' := [(0, .ref 49)]) (hp' := rH e g q c l) (i := .getfield 257) (len := 3) rfl hj rfl rfl rfl rfl]
    rw [n_step (st' := [.int ((g 12) - (g 11))]) (pc' := 9) (lv' := [(0, .ref 49)]) (hp' := rH e g q c l) (i := .isub) (len := 1) rfl hj rfl rfl rfl]
    rw [n_step (st' := []) (pc' := 10) (lv' := [(1, .int ((g 12) - (g 11))), (0, .ref 49)]) (hp' := rH e g q c l) (i := .istore_n 1) (len := 1) rfl hj rfl rfl rfl]
    rw [n_step (st' := [.ref 49]) (pc' := 11) (lv' := [(1, .int ((g 12) - (g 11))), (0, .ref 49)]) (hp' := rH e g q c l) (i := .aload_n 0) (len := 1) rfl hj rfl rfl rfl]
    rw [n_get (st' := [.ref 51]) (pc' := 14) (lv' := [(1, .int ((g 12) - (g 11))), (0, .ref 49)]) (hp' := rH e g q c l) (i := .getfield 13) (len := 3) rfl hj rfl rfl rfl rfl]
    rw [n_step (st' := [.ref 49, .ref 51]) (pc' := 15) (lv' := [(1, .int ((g 12) - (g 11))), (0, .ref 49)]) (hp' := rH e g q c l) (i := .aload_n 0) (len := 1) rfl hj rfl rfl rfl]
    rw [n_get (st' := [.int (g 11), .ref 51]) (pc' := 18) (lv' := [(1, .int ((g 12) - (g 11))), (0, .ref 49)]) (hp' := rH e g q c l) (i := .getfield 257) (len := 3) rfl hj rfl rfl rfl rfl]
    rw [n_ial (st' := [.int (c 51 ((g 11)).toNatClampNeg)]) rfl hj (ald_51 hz0)]
    rw [n_step (st' := [.int (Int8.ofInt (114)).toInt32, .int (c 51 ((g 11)).toNatClampNeg)]) (pc' := 21) (lv' := [(1, .int ((g 12) - (g 11))), (0, .ref 49)]) (hp' := rH e g q c l) (i := .bipush 114) (len := 2) rfl hj rfl rfl rfl]
    rw [n_step (st' := []) (pc' := (if xCn .ne ((c 51 ((g 11)).toNatClampNeg)) ((Int8.ofInt (114)).toInt32) = true then 67 else 24)) (lv' := [(1, .int ((g 12) - (g 11))), (0, .ref 49)]) (hp' := rH e g q c l) (i := .if_icmp .ne 46) (len := 3) rfl hj rfl rfl rfl]
  by_cases hc : xCn .ne ((c 51 ((g 11)).toNatClampNeg)) ((Int8.ofInt (114)).toInt32) = true
  · obtain ⟨f, h⟩ := h1 hc
    refine ⟨f + 13, ?_⟩
    rw [key, if_pos hc]
    exact nrun_ext f f _ _ R 330 67 [] [(1, .int ((g 12) - (g 11))), (0, .ref 49)] [] _ 0 0 122 (Nat.le_refl _) (Nat.le_refl _) (Nat.le_of_ble_eq_true rfl) (lvR_mk [] [1, 0] rfl rfl (by decide) (by decide) (fun _ h => nomatch h) (List.forall_mem_cons.mpr ⟨Or.inr rfl, (List.forall_mem_cons.mpr ⟨Or.inr rfl, (fun _ h => nomatch h)⟩)⟩)) h
  · obtain ⟨f, h⟩ := h2 hc
    refine ⟨f + 13, ?_⟩
    rw [key, if_neg hc]
    exact nrun_ext f f _ _ R 330 24 [(0, .ref 49), (1, .int ((g 12) - (g 11)))] [(1, .int ((g 12) - (g 11))), (0, .ref 49)] [] _ 0 0 122 (Nat.le_refl _) (Nat.le_refl _) (Nat.le_of_ble_eq_true rfl) (lvR_mk [0, 1] [1, 0] rfl rfl (by decide) (by decide) (List.forall_mem_cons.mpr ⟨(List.mem_cons_of_mem _ List.mem_cons_self), (List.forall_mem_cons.mpr ⟨List.mem_cons_self, (fun _ h => nomatch h)⟩)⟩) (List.forall_mem_cons.mpr ⟨Or.inl (List.mem_cons_of_mem _ List.mem_cons_self), (List.forall_mem_cons.mpr ⟨Or.inl List.mem_cons_self, (fun _ h => nomatch h)⟩)⟩)) h
set_option maxRecDepth 100000 in
set_option maxHeartbeats 4000000 in
theorem bk_330_24 {b : Bool} {d : Nat} {x1 : Int32} {e : Nat → x_E} {g : Nat → Int32} {q : Nat → Int64} {c : Nat → Nat → Int32} {l : Nat → Nat → Int64} {R : Option Value × List x_E} (h1 : xCn .lt x1 ((Int32.ofInt (2))) = true → rr b e d 330 67 [] [] g q c l R) (h2 : ¬ xCn .lt x1 ((Int32.ofInt (2))) = true → rr b e d 330 29 [(0, .ref 49), (1, .int x1)] [] g q c l R) : rr b e d 330 24 [(0, .ref 49), (1, .int x1)] [] g q c l R := by
  have key : ∀ f, nrun xZ (xY (xfm b)) xDT (f + 3) d 330 24 [(0, .ref 49), (1, .int x1)] [] (rH e g q c l) 0 0 = nrun xZ (xY (xfm b)) xDT f d 330 (if xCn .lt x1 ((Int32.ofInt (2))) = true then 67 else 29) [(0, .ref 49), (1, .int x1)] [] (rH e g q c l) 0 0 := by
    intro f
    obtain ⟨y, cb, hj⟩ := mq_330
    rw [n_step (st' := [.int x1]) (pc' := 25) (lv' := [(0, .ref 49), (1, .int x1)]) (hp' := rH e g q c l) (i := .iload_n 1) (len := 1) rfl hj rfl rfl rfl]
    rw [n_step (st' := [.int (Int32.ofInt (2)), .int x1]) (pc' := 26) (lv' := [(0, .ref 49), (1, .int x1)]) (hp' := rH e g q c l) (i := .iconst 2) (len := 1) rfl hj rfl rfl rfl]
    rw [n_step (st' := []) (pc' := (if xCn .lt x1 ((Int32.ofInt (2))) = true then 67 else 29)) (lv' := [(0, .ref 49), (1, .int x1)]) (hp' := rH e g q c l) (i := .if_icmp .lt 41) (len := 3) rfl hj rfl rfl rfl]
  by_cases hc : xCn .lt x1 ((Int32.ofInt (2))) = true
  · obtain ⟨f, h⟩ := h1 hc
    refine ⟨f + 3, ?_⟩
    rw [key, if_pos hc]
    exact nrun_ext f f _ _ R 330 67 [] [(0, .ref 49), (1, .int x1)] [] _ 0 0 122 (Nat.le_refl _) (Nat.le_refl _) (Nat.le_of_ble_eq_true rfl) (lvR_mk [] [0, 1] rfl rfl (by decide) (by decide) (fun _ h => nomatch h) (List.forall_mem_cons.mpr ⟨Or.inr rfl, (List.forall_mem_cons.mpr ⟨Or.inr rfl, (fun _ h => nomatch h)⟩)⟩)) h
  · obtain ⟨f, h⟩ := h2 hc
    refine ⟨f + 3, ?_⟩
    rw [key, if_neg hc]
    exact h
set_option maxRecDepth 100000 in
set_option maxHeartbeats 4000000 in
theorem bk_330_29 {b : Bool} {d : Nat} {x1 : Int32} {e : Nat → x_E} {g : Nat → Int32} {q : Nat → Int64} {c : Nat → Nat → Int32} {l : Nat → Nat → Int64} {R : Option Value × List x_E} (h1 : xCn .gt x1 ((Int32.ofInt (3))) = true → rr b e d 330 67 [] [] g q c l R) (h2 : ¬ xCn .gt x1 ((Int32.ofInt (3))) = true → rr b e d 330 34 [(0, .ref 49), (1, .int x1)] [] g q c l R) : rr b e d 330 29 [(0, .ref 49), (1, .int x1)] [] g q c l R := by
  have key : ∀ f, nrun xZ (xY (xfm b)) xDT (f + 3) d 330 29 [(0, .ref 49), (1, .int x1)] [] (rH e g q c l) 0 0 = nrun xZ (xY (xfm b)) xDT f d 330 (if xCn .gt x1 ((Int32.ofInt (3))) = true then 67 else 34) [(0, .ref 49), (1, .int x1)] [] (rH e g q c l) 0 0 := by
    intro f
    obtain ⟨y, cb, hj⟩ := mq_330
    rw [n_step (st' := [.int x1]) (pc' := 30) (lv' := [(0, .ref 49), (1, .int x1)]) (hp' := rH e g q c l) (i := .iload_n 1) (len := 1) rfl hj rfl rfl rfl]
    rw [n_step (st' := [.int (Int32.ofInt (3)), .int x1]) (pc' := 31) (lv' := [(0, .ref 49), (1, .int x1)]) (hp' := rH e g q c l) (i := .iconst 3) (len := 1) rfl hj rfl rfl rfl]
    rw [n_step (st' := []) (pc' := (if xCn .gt x1 ((Int32.ofInt (3))) = true then 67 else 34)) (lv' := [(0, .ref 49), (1, .int x1)]) (hp' := rH e g q c l) (i := .if_icmp .gt 36) (len := 3) rfl hj rfl rfl rfl]
  by_cases hc : xCn .gt x1 ((Int32.ofInt (3))) = true
  · obtain ⟨f, h⟩ := h1 hc
    refine ⟨f + 3, ?_⟩
    rw [key, if_pos hc]
    exact nrun_ext f f _ _ R 330 67 [] [(0, .ref 49), (1, .int x1)] [] _ 0 0 122 (Nat.le_refl _) (Nat.le_refl _) (Nat.le_of_ble_eq_true rfl) (lvR_mk [] [0, 1] rfl rfl (by decide) (by decide) (fun _ h => nomatch h) (List.forall_mem_cons.mpr ⟨Or.inr rfl, (List.forall_mem_cons.mpr ⟨Or.inr rfl, (fun _ h => nomatch h)⟩)⟩)) h
  · obtain ⟨f, h⟩ := h2 hc
    refine ⟨f + 3, ?_⟩
    rw [key, if_neg hc]
    exact h
set_option maxRecDepth 100000 in
set_option maxHeartbeats 4000000 in
theorem bk_330_34 {b : Bool} {d : Nat} {x1 : Int32} {e : Nat → x_E} {g : Nat → Int32} {q : Nat → Int64} {c : Nat → Nat → Int32} {l : Nat → Nat → Int64} {g' : Nat → Int32} {q' : Nat → Int64} {c' : Nat → Nat → Int32} {l' : Nat → Nat → Int64} {v : Int32} {R : Option Value × List x_E} (hz0 : ¬ (((g 11) + (Int32.ofInt (1))) < 0 ∨ 6000 ≤ (((g 11) + (Int32.ofInt (1)))).toNatClampNeg)) (hc : rr b e d 328 0 [(0, .int (c 51 (((g 11) + (Int32.ofInt (1)))).toNatClampNeg))] [] g q c l (some (.int v), rH e g' q' c' l')) (h : rr b e (d + 1) 330 48 [(0, .ref 49), (1, .int x1)] [.int v] g' q' c' l' R) : rr b e (d + 1) 330 34 [(0, .ref 49), (1, .int x1)] [] g q c l R := by
  obtain ⟨f1, hc⟩ := hc
  obtain ⟨f2, h⟩ := h
  obtain ⟨f, hf1, hf2⟩ : ∃ f, f1 ≤ f ∧ f2 ≤ f := ⟨max f1 f2, Nat.le_max_left _ _, Nat.le_max_right _ _⟩
  have hc := nrun_fuel f1 f _ _ _ _ _ _ _ _ _ hf1 hc
  have h := nrun_fuel f2 f _ _ _ _ _ _ _ _ _ hf2 h
  refine ⟨f + 8, ?_⟩
  obtain ⟨y, cb, hj⟩ := mq_330
  rw [n_step (st' := [.ref 49]) (pc' := 35) (lv' := [(0, .ref 49), (1, .int x1)]) (hp' := rH e g q c l) (i := .aload_n 0) (len := 1) rfl hj rfl rfl rfl]
  rw [n_get (st' := [.ref 51]) (pc' := 38) (lv' := [(0, .ref 49), (1, .int x1)]) (hp' := rH e g q c l) (i := .getfield 13) (len := 3) rfl hj rfl rfl rfl rfl]
  rw [n_step (st' := [.ref 49, .ref 51]) (pc' := 39) (lv' := [(0, .ref 49), (1, .int x1)]) (hp' := rH e g q c l) (i := .aload_n 0) (len := 1) rfl hj rfl rfl rfl]
  rw [n_get (st' := [.int (g 11), .ref 51]) (pc' := 42) (lv' := [(0, .ref 49), (1, .int x1)]) (hp' := rH e g q c l) (i := .getfield 257) (len := 3) rfl hj rfl rfl rfl rfl]
  rw [n_step (st' := [.int (Int32.ofInt (1)), .int (g 11), .ref 51]) (pc' := 43) (lv' := [(0, .ref 49), (1, .int x1)]) (hp' := rH e g q c l) (i := .iconst 1) (len := 1) rfl hj rfl rfl rfl]
  rw [n_step (st' := [.int ((g 11) + (Int32.ofInt (1))), .ref 51]) (pc' := 44) (lv' := [(0, .ref 49), (1, .int x1)]) (hp' := rH e g q c l) (i := .iadd) (len := 1) rfl hj rfl rfl rfl]
  rw [n_ial (st' := [.int (c 51 (((g 11) + (Int32.ofInt (1)))).toNatClampNeg)]) rfl hj (ald_51 hz0)]
  obtain ⟨y2, cb2, hj2⟩ := mq_328
  rw [n_call (f := f) (d := d) (ki := 1) (idx := 283) (j' := 328) (kd := 1) (M' := (y2, cb2, 1, some .boolean, 12, 1, 0, 0)) (avs := [.int (c 51 (((g 11) + (Int32.ofInt (1)))).toNatClampNeg)]) (r := []) (rv := some (.int v)) (hp1 := rH e g' q' c' l') rfl hj rfl rfl rfl rfl (rq_t rfl rfl hj2 rfl) rfl hc (Nat.le_of_ble_eq_true rfl)]
  exact h
set_option maxRecDepth 100000 in
set_option maxHeartbeats 4000000 in
theorem bk_330_48 {b : Bool} {d : Nat} {t0 x1 : Int32} {e : Nat → x_E} {g : Nat → Int32} {q : Nat → Int64} {c : Nat → Nat → Int32} {l : Nat → Nat → Int64} {R : Option Value × List x_E} (h1 : xCn .eq t0 0 = true → rr b e d 330 67 [] [] g q c l R) (h2 : ¬ xCn .eq t0 0 = true → rr b e d 330 51 [(0, .ref 49), (1, .int x1)] [] g q c l R) : rr b e d 330 48 [(0, .ref 49), (1, .int x1)] [.int t0] g q c l R := by
  have key : ∀ f, nrun xZ (xY (xfm b)) xDT (f + 1) d 330 48 [(0, .ref 49), (1, .int x1)] [.int t0] (rH e g q c l) 0 0 = nrun xZ (xY (xfm b)) xDT f d 330 (if xCn .eq t0 0 = true then 67 else 51) [(0, .ref 49), (1, .int x1)] [] (rH e g q c l) 0 0 := by
    intro f
    obtain ⟨y, cb, hj⟩ := mq_330
    rw [n_step (st' := []) (pc' := (if xCn .eq t0 0 = true then 67 else 51)) (lv' := [(0, .ref 49), (1, .int x1)]) (hp' := rH e g q c l) (i := .ifCond .eq 19) (len := 3) rfl hj rfl rfl rfl]
  by_cases hc : xCn .eq t0 0 = true
  · obtain ⟨f, h⟩ := h1 hc
    refine ⟨f + 1, ?_⟩
    rw [key, if_pos hc]
    exact nrun_ext f f _ _ R 330 67 [] [(0, .ref 49), (1, .int x1)] [] _ 0 0 122 (Nat.le_refl _) (Nat.le_refl _) (Nat.le_of_ble_eq_true rfl) (lvR_mk [] [0, 1] rfl rfl (by decide) (by decide) (fun _ h => nomatch h) (List.forall_mem_cons.mpr ⟨Or.inr rfl, (List.forall_mem_cons.mpr ⟨Or.inr rfl, (fun _ h => nomatch h)⟩)⟩)) h
  · obtain ⟨f, h⟩ := h2 hc
    refine ⟨f + 1, ?_⟩
    rw [key, if_neg hc]
    exact h
set_option maxRecDepth 100000 in
set_option maxHeartbeats 4000000 in
theorem bk_330_51 {b : Bool} {d : Nat} {x1 : Int32} {e : Nat → x_E} {g : Nat → Int32} {q : Nat → Int64} {c : Nat → Nat → Int32} {l : Nat → Nat → Int64} {R : Option Value × List x_E} (hz0 : ¬ (((g 11) + (Int32.ofInt (1))) < 0 ∨ 6000 ≤ (((g 11) + (Int32.ofInt (1)))).toNatClampNeg)) (h1 : xCn .ne ((c 51 (((g 11) + (Int32.ofInt (1)))).toNatClampNeg)) ((Int8.ofInt (48)).toInt32) = true → rr b e d 330 68 [(0, .ref 49), (1, .int x1)] [] g q c l R) (h2 : ¬ xCn .ne ((c 51 (((g 11) + (Int32.ofInt (1)))).toNatClampNeg)) ((Int8.ofInt (48)).toInt32) = true → rr b e d 330 67 [] [] g q c l R) : rr b e d 330 51 [(0, .ref 49), (1, .int x1)] [] g q c l R := by
  have key : ∀ f, nrun xZ (xY (xfm b)) xDT (f + 9) d 330 51 [(0, .ref 49), (1, .int x1)] [] (rH e g q c l) 0 0 = nrun xZ (xY (xfm b)) xDT f d 330 (if xCn .ne ((c 51 (((g 11) + (Int32.ofInt (1)))).toNatClampNeg)) ((Int8.ofInt (48)).toInt32) = true then 68 else 67) [(0, .ref 49), (1, .int x1)] [] (rH e g q c l) 0 0 := by
    intro f
    obtain ⟨y, cb, hj⟩ := mq_330
    rw [n_step (st' := [.ref 49]) (pc' := 52) (lv' := [(0, .ref 49), (1, .int x1)]) (hp' := rH e g q c l) (i := .aload_n 0) (len := 1) rfl hj rfl rfl rfl]
    rw [n_get (st' := [.ref 51]) (pc' := 55) (lv' := [(0, .ref 49), (1, .int x1)]) (hp' := rH e g q c l) (i := .getfield 13) (len := 3) rfl hj rfl rfl rfl rfl]
    rw [n_step (st' := [.ref 49, .ref 51]) (pc' := 56) (lv' := [(0, .ref 49), (1, .int x1)]) (hp' := rH e g q c l) (i := .aload_n 0) (len := 1) rfl hj rfl rfl rfl]
    rw [n_get (st' := [.int (g 11), .ref 51]) (pc' := 59) (lv' := [(0, .ref 49), (1, .int x1)]) (hp' := rH e g q c l) (i := .getfield 257) (len := 3) rfl hj rfl rfl rfl rfl]
    rw [n_step (st' := [.int (Int32.ofInt (1)), .int (g 11), .ref 51]) (pc' := 60) (lv' := [(0, .ref 49), (1, .int x1)]) (hp' := rH e g q c l) (i := .iconst 1) (len := 1) rfl hj rfl rfl rfl]
    rw [n_step (st' := [.int ((g 11) + (Int32.ofInt (1))), .ref 51]) (pc' := 61) (lv' := [(0, .ref 49), (1, .int x1)]) (hp' := rH e g q c l) (i := .iadd) (len := 1) rfl hj rfl rfl rfl]
    rw [n_ial (st' := [.int (c 51 (((g 11) + (Int32.ofInt (1)))).toNatClampNeg)]) rfl hj (ald_51 hz0)]
    rw [n_step (st' := [.int (Int8.ofInt (48)).toInt32, .int (c 51 (((g 11) + (Int32.ofInt (1)))).toNatClampNeg)]) (pc' := 64) (lv' := [(0, .ref 49), (1, .int x1)]) (hp' := rH e g q c l) (i := .bipush 48) (len := 2) rfl hj rfl rfl rfl]
    rw [n_step (st' := []) (pc' := (if xCn .ne ((c 51 (((g 11) + (Int32.ofInt (1)))).toNatClampNeg)) ((Int8.ofInt (48)).toInt32) = true then 68 else 67)) (lv' := [(0, .ref 49), (1, .int x1)]) (hp' := rH e g q c l) (i := .if_icmp .ne 4) (len := 3) rfl hj rfl rfl rfl]
  by_cases hc : xCn .ne ((c 51 (((g 11) + (Int32.ofInt (1)))).toNatClampNeg)) ((Int8.ofInt (48)).toInt32) = true
  · obtain ⟨f, h⟩ := h1 hc
    refine ⟨f + 9, ?_⟩
    rw [key, if_pos hc]
    exact h
  · obtain ⟨f, h⟩ := h2 hc
    refine ⟨f + 9, ?_⟩
    rw [key, if_neg hc]
    exact nrun_ext f f _ _ R 330 67 [] [(0, .ref 49), (1, .int x1)] [] _ 0 0 122 (Nat.le_refl _) (Nat.le_refl _) (Nat.le_of_ble_eq_true rfl) (lvR_mk [] [0, 1] rfl rfl (by decide) (by decide) (fun _ h => nomatch h) (List.forall_mem_cons.mpr ⟨Or.inr rfl, (List.forall_mem_cons.mpr ⟨Or.inr rfl, (fun _ h => nomatch h)⟩)⟩)) h
set_option maxRecDepth 100000 in
set_option maxHeartbeats 4000000 in
theorem bk_330_67 {b : Bool} {d : Nat} {e : Nat → x_E} {g : Nat → Int32} {q : Nat → Int64} {c : Nat → Nat → Int32} {l : Nat → Nat → Int64} : rr b e d 330 67 [] [] g q c l (none, rH e g q c l) := by
  refine ⟨0 + 1, ?_⟩
  obtain ⟨y, cb, hj⟩ := mq_330
  exact n_ret rfl hj rfl rfl rfl
set_option maxRecDepth 100000 in
set_option maxHeartbeats 4000000 in
theorem bk_330_68 {b : Bool} {d : Nat} {x1 : Int32} {e : Nat → x_E} {g : Nat → Int32} {q : Nat → Int64} {c : Nat → Nat → Int32} {l : Nat → Nat → Int64} {R : Option Value × List x_E} (h1 : xCn .ne x1 ((Int32.ofInt (3))) = true → rr b e d 330 123 [(0, .ref 49), (1, .int x1)] [] g q c l R) (h2 : ¬ xCn .ne x1 ((Int32.ofInt (3))) = true → rr b e d 330 73 [(0, .ref 49), (1, .int x1)] [] g q c l R) : rr b e d 330 68 [(0, .ref 49), (1, .int x1)] [] g q c l R := by
  have key : ∀ f, nrun xZ (xY (xfm b)) xDT (f + 3) d 330 68 [(0, .ref 49), (1, .int x1)] [] (rH e g q c l) 0 0 = nrun xZ (xY (xfm b)) xDT f d 330 (if xCn .ne x1 ((Int32.ofInt (3))) = true then 123 else 73) [(0, .ref 49), (1, .int x1)] [] (rH e g q c l) 0 0 := by
    intro f
    obtain ⟨y, cb, hj⟩ := mq_330
    rw [n_step (st' := [.int x1]) (pc' := 69) (lv' := [(0, .ref 49), (1, .int x1)]) (hp' := rH e g q c l) (i := .iload_n 1) (len := 1) rfl hj rfl rfl rfl]
    rw [n_step (st' := [.int (Int32.ofInt (3)), .int x1]) (pc' := 70) (lv' := [(0, .ref 49), (1, .int x1)]) (hp' := rH e g q c l) (i := .iconst 3) (len := 1) rfl hj rfl rfl rfl]
    rw [n_step (st' := []) (pc' := (if xCn .ne x1 ((Int32.ofInt (3))) = true then 123 else 73)) (lv' := [(0, .ref 49), (1, .int x1)]) (hp' := rH e g q c l) (i := .if_icmp .ne 53) (len := 3) rfl hj rfl rfl rfl]
  by_cases hc : xCn .ne x1 ((Int32.ofInt (3))) = true
  · obtain ⟨f, h⟩ := h1 hc
    refine ⟨f + 3, ?_⟩
    rw [key, if_pos hc]
    exact h
  · obtain ⟨f, h⟩ := h2 hc
    refine ⟨f + 3, ?_⟩
    rw [key, if_neg hc]
    exact h
set_option maxRecDepth 100000 in
set_option maxHeartbeats 4000000 in
theorem bk_330_73 {b : Bool} {d : Nat} {x1 : Int32} {e : Nat → x_E} {g : Nat → Int32} {q : Nat → Int64} {c : Nat → Nat → Int32} {l : Nat → Nat → Int64} {R : Option Value × List x_E} (hz0 : ¬ (((g 11) + (Int32.ofInt (1))) < 0 ∨ 6000 ≤ (((g 11) + (Int32.ofInt (1)))).toNatClampNeg)) (h1 : xCn .ne ((c 51 (((g 11) + (Int32.ofInt (1)))).toNatClampNeg)) ((Int8.ofInt (49)).toInt32) = true → rr b e d 330 122 [] [] g q c l R) (h2 : ¬ xCn .ne ((c 51 (((g 11) + (Int32.ofInt (1)))).toNatClampNeg)) ((Int8.ofInt (49)).toInt32) = true → rr b e d 330 89 [(0, .ref 49), (1, .int x1)] [] g q c l R) : rr b e d 330 73 [(0, .ref 49), (1, .int x1)] [] g q c l R := by
  have key : ∀ f, nrun xZ (xY (xfm b)) xDT (f + 9) d 330 73 [(0, .ref 49), (1, .int x1)] [] (rH e g q c l) 0 0 = nrun xZ (xY (xfm b)) xDT f d 330 (if xCn .ne ((c 51 (((g 11) + (Int32.ofInt (1)))).toNatClampNeg)) ((Int8.ofInt (49)).toInt32) = true then 122 else 89) [(0, .ref 49), (1, .int x1)] [] (rH e g q c l) 0 0 := by
    intro f
    obtain ⟨y, cb, hj⟩ := mq_330
    rw [n_step (st' := [.ref 49]) (pc' := 74) (lv' := [(0, .ref 49), (1, .int x1)]) (hp' := rH e g q c l) (i := .aload_n 0) (len := 1) rfl hj rfl rfl rfl]
    rw [n_get (st' := [.ref 51]) (pc' := 77) (lv' := [(0, .ref 49), (1, .int x1)]) (hp' := rH e g q c l) (i := .getfield 13) (len := 3) rfl hj rfl rfl rfl rfl]
    rw [n_step (st' := [.ref 49, .ref 51]) (pc' := 78) (lv' := [(0, .ref 49), (1, .int x1)]) (hp' := rH e g q c l) (i := .aload_n 0) (len := 1) rfl hj rfl rfl rfl]
    rw [n_get (st' := [.int (g 11), .ref 51]) (pc' := 81) (lv' := [(0, .ref 49), (1, .int x1)]) (hp' := rH e g q c l) (i := .getfield 257) (len := 3) rfl hj rfl rfl rfl rfl]
    rw [n_step (st' := [.int (Int32.ofInt (1)), .int (g 11), .ref 51]) (pc' := 82) (lv' := [(0, .ref 49), (1, .int x1)]) (hp' := rH e g q c l) (i := .iconst 1) (len := 1) rfl hj rfl rfl rfl]
    rw [n_step (st' := [.int ((g 11) + (Int32.ofInt (1))), .ref 51]) (pc' := 83) (lv' := [(0, .ref 49), (1, .int x1)]) (hp' := rH e g q c l) (i := .iadd) (len := 1) rfl hj rfl rfl rfl]
    rw [n_ial (st' := [.int (c 51 (((g 11) + (Int32.ofInt (1)))).toNatClampNeg)]) rfl hj (ald_51 hz0)]
    rw [n_step (st' := [.int (Int8.ofInt (49)).toInt32, .int (c 51 (((g 11) + (Int32.ofInt (1)))).toNatClampNeg)]) (pc' := 86) (lv' := [(0, .ref 49), (1, .int x1)]) (hp' := rH e g q c l) (i := .bipush 49) (len := 2) rfl hj rfl rfl rfl]
    rw [n_step (st' := []) (pc' := (if xCn .ne ((c 51 (((g 11) + (Int32.ofInt (1)))).toNatClampNeg)) ((Int8.ofInt (49)).toInt32) = true then 122 else 89)) (lv' := [(0, .ref 49), (1, .int x1)]) (hp' := rH e g q c l) (i := .if_icmp .ne 36) (len := 3) rfl hj rfl rfl rfl]
  by_cases hc : xCn .ne ((c 51 (((g 11) + (Int32.ofInt (1)))).toNatClampNeg)) ((Int8.ofInt (49)).toInt32) = true
  · obtain ⟨f, h⟩ := h1 hc
    refine ⟨f + 9, ?_⟩
    rw [key, if_pos hc]
    exact nrun_ext f f _ _ R 330 122 [] [(0, .ref 49), (1, .int x1)] [] _ 0 0 122 (Nat.le_refl _) (Nat.le_refl _) (Nat.le_of_ble_eq_true rfl) (lvR_mk [] [0, 1] rfl rfl (by decide) (by decide) (fun _ h => nomatch h) (List.forall_mem_cons.mpr ⟨Or.inr rfl, (List.forall_mem_cons.mpr ⟨Or.inr rfl, (fun _ h => nomatch h)⟩)⟩)) h
  · obtain ⟨f, h⟩ := h2 hc
    refine ⟨f + 9, ?_⟩
    rw [key, if_neg hc]
    exact h
set_option maxRecDepth 100000 in
set_option maxHeartbeats 4000000 in
theorem bk_330_89 {b : Bool} {d : Nat} {x1 : Int32} {e : Nat → x_E} {g : Nat → Int32} {q : Nat → Int64} {c : Nat → Nat → Int32} {l : Nat → Nat → Int64} {g' : Nat → Int32} {q' : Nat → Int64} {c' : Nat → Nat → Int32} {l' : Nat → Nat → Int64} {v : Int32} {R : Option Value × List x_E} (hz0 : ¬ (((g 11) + (Int32.ofInt (2))) < 0 ∨ 6000 ≤ (((g 11) + (Int32.ofInt (2)))).toNatClampNeg)) (hc : rr b e d 328 0 [(0, .int (c 51 (((g 11) + (Int32.ofInt (2)))).toNatClampNeg))] [] g q c l (some (.int v), rH e g' q' c' l')) (h : rr b e (d + 1) 330 103 [(0, .ref 49), (1, .int x1)] [.int v] g' q' c' l' R) : rr b e (d + 1) 330 89 [(0, .ref 49), (1, .int x1)] [] g q c l R := by
  obtain ⟨f1, hc⟩ := hc
  obtain ⟨f2, h⟩ := h
  obtain ⟨f, hf1, hf2⟩ : ∃ f, f1 ≤ f ∧ f2 ≤ f := ⟨max f1 f2, Nat.le_max_left _ _, Nat.le_max_right _ _⟩
  have hc := nrun_fuel f1 f _ _ _ _ _ _ _ _ _ hf1 hc
  have h := nrun_fuel f2 f _ _ _ _ _ _ _ _ _ hf2 h
  refine ⟨f + 8, ?_⟩
  obtain ⟨y, cb, hj⟩ := mq_330
  rw [n_step (st' := [.ref 49]) (pc' := 90) (lv' := [(0, .ref 49), (1, .int x1)]) (hp' := rH e g q c l) (i := .aload_n 0) (len := 1) rfl hj rfl rfl rfl]
  rw [n_get (st' := [.ref 51]) (pc' := 93) (lv' := [(0, .ref 49), (1, .int x1)]) (hp' := rH e g q c l) (i := .getfield 13) (len := 3) rfl hj rfl rfl rfl rfl]
  rw [n_step (st' := [.ref 49, .ref 51]) (pc' := 94) (lv' := [(0, .ref 49), (1, .int x1)]) (hp' := rH e g q c l) (i := .aload_n 0) (len := 1) rfl hj rfl rfl rfl]
  rw [n_get (st' := [.int (g 11), .ref 51]) (pc' := 97) (lv' := [(0, .ref 49), (1, .int x1)]) (hp' := rH e g q c l) (i := .getfield 257) (len := 3) rfl hj rfl rfl rfl rfl]
  rw [n_step (st' := [.int (Int32.ofInt (2)), .int (g 11), .ref 51]) (pc' := 98) (lv' := [(0, .ref 49), (1, .int x1)]) (hp' := rH e g q c l) (i := .iconst 2) (len := 1) rfl hj rfl rfl rfl]
  rw [n_step (st' := [.int ((g 11) + (Int32.ofInt (2))), .ref 51]) (pc' := 99) (lv' := [(0, .ref 49), (1, .int x1)]) (hp' := rH e g q c l) (i := .iadd) (len := 1) rfl hj rfl rfl rfl]
  rw [n_ial (st' := [.int (c 51 (((g 11) + (Int32.ofInt (2)))).toNatClampNeg)]) rfl hj (ald_51 hz0)]
  obtain ⟨y2, cb2, hj2⟩ := mq_328
  rw [n_call (f := f) (d := d) (ki := 1) (idx := 283) (j' := 328) (kd := 1) (M' := (y2, cb2, 1, some .boolean, 12, 1, 0, 0)) (avs := [.int (c 51 (((g 11) + (Int32.ofInt (2)))).toNatClampNeg)]) (r := []) (rv := some (.int v)) (hp1 := rH e g' q' c' l') rfl hj rfl rfl rfl rfl (rq_t rfl rfl hj2 rfl) rfl hc (Nat.le_of_ble_eq_true rfl)]
  exact h
set_option maxRecDepth 100000 in
set_option maxHeartbeats 4000000 in
theorem bk_330_103 {b : Bool} {d : Nat} {t0 x1 : Int32} {e : Nat → x_E} {g : Nat → Int32} {q : Nat → Int64} {c : Nat → Nat → Int32} {l : Nat → Nat → Int64} {R : Option Value × List x_E} (h1 : xCn .eq t0 0 = true → rr b e d 330 122 [] [] g q c l R) (h2 : ¬ xCn .eq t0 0 = true → rr b e d 330 106 [(0, .ref 49), (1, .int x1)] [] g q c l R) : rr b e d 330 103 [(0, .ref 49), (1, .int x1)] [.int t0] g q c l R := by
  have key : ∀ f, nrun xZ (xY (xfm b)) xDT (f + 1) d 330 103 [(0, .ref 49), (1, .int x1)] [.int t0] (rH e g q c l) 0 0 = nrun xZ (xY (xfm b)) xDT f d 330 (if xCn .eq t0 0 = true then 122 else 106) [(0, .ref 49), (1, .int x1)] [] (rH e g q c l) 0 0 := by
    intro f
    obtain ⟨y, cb, hj⟩ := mq_330
    rw [n_step (st' := []) (pc' := (if xCn .eq t0 0 = true then 122 else 106)) (lv' := [(0, .ref 49), (1, .int x1)]) (hp' := rH e g q c l) (i := .ifCond .eq 19) (len := 3) rfl hj rfl rfl rfl]
  by_cases hc : xCn .eq t0 0 = true
  · obtain ⟨f, h⟩ := h1 hc
    refine ⟨f + 1, ?_⟩
    rw [key, if_pos hc]
    exact nrun_ext f f _ _ R 330 122 [] [(0, .ref 49), (1, .int x1)] [] _ 0 0 122 (Nat.le_refl _) (Nat.le_refl _) (Nat.le_of_ble_eq_true rfl) (lvR_mk [] [0, 1] rfl rfl (by decide) (by decide) (fun _ h => nomatch h) (List.forall_mem_cons.mpr ⟨Or.inr rfl, (List.forall_mem_cons.mpr ⟨Or.inr rfl, (fun _ h => nomatch h)⟩)⟩)) h
  · obtain ⟨f, h⟩ := h2 hc
    refine ⟨f + 1, ?_⟩
    rw [key, if_neg hc]
    exact h
set_option maxRecDepth 100000 in
set_option maxHeartbeats 4000000 in
theorem bk_330_106 {b : Bool} {d : Nat} {x1 : Int32} {e : Nat → x_E} {g : Nat → Int32} {q : Nat → Int64} {c : Nat → Nat → Int32} {l : Nat → Nat → Int64} {R : Option Value × List x_E} (hz0 : ¬ (((g 11) + (Int32.ofInt (2))) < 0 ∨ 6000 ≤ (((g 11) + (Int32.ofInt (2)))).toNatClampNeg)) (h1 : xCn .le ((c 51 (((g 11) + (Int32.ofInt (2)))).toNatClampNeg)) ((Int8.ofInt (53)).toInt32) = true → rr b e d 330 123 [(0, .ref 49), (1, .int x1)] [] g q c l R) (h2 : ¬ xCn .le ((c 51 (((g 11) + (Int32.ofInt (2)))).toNatClampNeg)) ((Int8.ofInt (53)).toInt32) = true → rr b e d 330 122 [] [] g q c l R) : rr b e d 330 106 [(0, .ref 49), (1, .int x1)] [] g q c l R := by
  have key : ∀ f, nrun xZ (xY (xfm b)) xDT (f + 9) d 330 106 [(0, .ref 49), (1, .int x1)] [] (rH e g q c l) 0 0 = nrun xZ (xY (xfm b)) xDT f d 330 (if xCn .le ((c 51 (((g 11) + (Int32.ofInt (2)))).toNatClampNeg)) ((Int8.ofInt (53)).toInt32) = true then 123 else 122) [(0, .ref 49), (1, .int x1)] [] (rH e g q c l) 0 0 := by
    intro f
    obtain ⟨y, cb, hj⟩ := mq_330
    rw [n_step (st' := [.ref 49]) (pc' := 107) (lv' := [(0, .ref 49), (1, .int x1)]) (hp' := rH e g q c l) (i := .aload_n 0) (len := 1) rfl hj rfl rfl rfl]
    rw [n_get (st' := [.ref 51]) (pc' := 110) (lv' := [(0, .ref 49), (1, .int x1)]) (hp' := rH e g q c l) (i := .getfield 13) (len := 3) rfl hj rfl rfl rfl rfl]
    rw [n_step (st' := [.ref 49, .ref 51]) (pc' := 111) (lv' := [(0, .ref 49), (1, .int x1)]) (hp' := rH e g q c l) (i := .aload_n 0) (len := 1) rfl hj rfl rfl rfl]
    rw [n_get (st' := [.int (g 11), .ref 51]) (pc' := 114) (lv' := [(0, .ref 49), (1, .int x1)]) (hp' := rH e g q c l) (i := .getfield 257) (len := 3) rfl hj rfl rfl rfl rfl]
    rw [n_step (st' := [.int (Int32.ofInt (2)), .int (g 11), .ref 51]) (pc' := 115) (lv' := [(0, .ref 49), (1, .int x1)]) (hp' := rH e g q c l) (i := .iconst 2) (len := 1) rfl hj rfl rfl rfl]
    rw [n_step (st' := [.int ((g 11) + (Int32.ofInt (2))), .ref 51]) (pc' := 116) (lv' := [(0, .ref 49), (1, .int x1)]) (hp' := rH e g q c l) (i := .iadd) (len := 1) rfl hj rfl rfl rfl]
    rw [n_ial (st' := [.int (c 51 (((g 11) + (Int32.ofInt (2)))).toNatClampNeg)]) rfl hj (ald_51 hz0)]
    rw [n_step (st' := [.int (Int8.ofInt (53)).toInt32, .int (c 51 (((g 11) + (Int32.ofInt (2)))).toNatClampNeg)]) (pc' := 119) (lv' := [(0, .ref 49), (1, .int x1)]) (hp' := rH e g q c l) (i := .bipush 53) (len := 2) rfl hj rfl rfl rfl]
    rw [n_step (st' := []) (pc' := (if xCn .le ((c 51 (((g 11) + (Int32.ofInt (2)))).toNatClampNeg)) ((Int8.ofInt (53)).toInt32) = true then 123 else 122)) (lv' := [(0, .ref 49), (1, .int x1)]) (hp' := rH e g q c l) (i := .if_icmp .le 4) (len := 3) rfl hj rfl rfl rfl]
  by_cases hc : xCn .le ((c 51 (((g 11) + (Int32.ofInt (2)))).toNatClampNeg)) ((Int8.ofInt (53)).toInt32) = true
  · obtain ⟨f, h⟩ := h1 hc
    refine ⟨f + 9, ?_⟩
    rw [key, if_pos hc]
    exact h
  · obtain ⟨f, h⟩ := h2 hc
    refine ⟨f + 9, ?_⟩
    rw [key, if_neg hc]
    exact nrun_ext f f _ _ R 330 122 [] [(0, .ref 49), (1, .int x1)] [] _ 0 0 122 (Nat.le_refl _) (Nat.le_refl _) (Nat.le_of_ble_eq_true rfl) (lvR_mk [] [0, 1] rfl rfl (by decide) (by decide) (fun _ h => nomatch h) (List.forall_mem_cons.mpr ⟨Or.inr rfl, (List.forall_mem_cons.mpr ⟨Or.inr rfl, (fun _ h => nomatch h)⟩)⟩)) h
set_option maxRecDepth 100000 in
set_option maxHeartbeats 4000000 in
theorem bk_330_122 {b : Bool} {d : Nat} {e : Nat → x_E} {g : Nat → Int32} {q : Nat → Int64} {c : Nat → Nat → Int32} {l : Nat → Nat → Int64} : rr b e d 330 122 [] [] g q c l (none, rH e g q c l) := by
  refine ⟨0 + 1, ?_⟩
  obtain ⟨y, cb, hj⟩ := mq_330
  exact n_ret rfl hj rfl rfl rfl
set_option maxRecDepth 100000 in
set_option maxHeartbeats 4000000 in
theorem bk_330_123 {b : Bool} {d : Nat} {x1 : Int32} {e : Nat → x_E} {g : Nat → Int32} {q : Nat → Int64} {c : Nat → Nat → Int32} {l : Nat → Nat → Int64} {R : Option Value × List x_E} (h1 : xCn .ne x1 ((Int32.ofInt (2))) = true → rr b e d 330 151 [(0, .ref 49)] [.ref 49] (upd g 10 ((Int32.ofInt (5)))) q c l R) (h2 : ¬ xCn .ne x1 ((Int32.ofInt (2))) = true → rr b e d 330 134 [(0, .ref 49)] [.ref 49] (upd g 10 ((Int32.ofInt (5)))) q c l R) : rr b e d 330 123 [(0, .ref 49), (1, .int x1)] [] g q c l R := by
  have key : ∀ f, nrun xZ (xY (xfm b)) xDT (f + 7) d 330 123 [(0, .ref 49), (1, .int x1)] [] (rH e g q c l) 0 0 = nrun xZ (xY (xfm b)) xDT f d 330 (if xCn .ne x1 ((Int32.ofInt (2))) = true then 151 else 134) [(0, .ref 49), (1, .int x1)] [.ref 49] (rH e (upd g 10 ((Int32.ofInt (5)))) q c l) 0 0 := by
    intro f
    obtain ⟨y, cb, hj⟩ := mq_330
    rw [n_step (st' := [.ref 49]) (pc' := 124) (lv' := [(0, .ref 49), (1, .int x1)]) (hp' := rH e g q c l) (i := .aload_n 0) (len := 1) rfl hj rfl rfl rfl]
    rw [n_step (st' := [.int (Int32.ofInt (5)), .ref 49]) (pc' := 125) (lv' := [(0, .ref 49), (1, .int x1)]) (hp' := rH e g q c l) (i := .iconst 5) (len := 1) rfl hj rfl rfl rfl]
    rw [n_put (st' := []) (hp' := rH e (upd g 10 ((Int32.ofInt (5)))) q c l) rfl hj pf_10]
    rw [n_step (st' := [.ref 49]) (pc' := 129) (lv' := [(0, .ref 49), (1, .int x1)]) (hp' := rH e (upd g 10 ((Int32.ofInt (5)))) q c l) (i := .aload_n 0) (len := 1) rfl hj rfl rfl rfl]
    rw [n_step (st' := [.int x1, .ref 49]) (pc' := 130) (lv' := [(0, .ref 49), (1, .int x1)]) (hp' := rH e (upd g 10 ((Int32.ofInt (5)))) q c l) (i := .iload_n 1) (len := 1) rfl hj rfl rfl rfl]
    rw [n_step (st' := [.int (Int32.ofInt (2)), .int x1, .ref 49]) (pc' := 131) (lv' := [(0, .ref 49), (1, .int x1)]) (hp' := rH e (upd g 10 ((Int32.ofInt (5)))) q c l) (i := .iconst 2) (len := 1) rfl hj rfl rfl rfl]
    rw [n_step (st' := [.ref 49]) (pc' := (if xCn .ne x1 ((Int32.ofInt (2))) = true then 151 else 134)) (lv' := [(0, .ref 49), (1, .int x1)]) (hp' := rH e (upd g 10 ((Int32.ofInt (5)))) q c l) (i := .if_icmp .ne 20) (len := 3) rfl hj rfl rfl rfl]
  by_cases hc : xCn .ne x1 ((Int32.ofInt (2))) = true
  · obtain ⟨f, h⟩ := h1 hc
    refine ⟨f + 7, ?_⟩
    rw [key, if_pos hc]
    exact nrun_ext f f _ _ R 330 151 [(0, .ref 49)] [(0, .ref 49), (1, .int x1)] [.ref 49] _ 0 0 122 (Nat.le_refl _) (Nat.le_refl _) (Nat.le_of_ble_eq_true rfl) (lvR_mk [0] [0, 1] rfl rfl (by decide) (by decide) (List.forall_mem_cons.mpr ⟨List.mem_cons_self, (fun _ h => nomatch h)⟩) (List.forall_mem_cons.mpr ⟨Or.inl List.mem_cons_self, (List.forall_mem_cons.mpr ⟨Or.inr rfl, (fun _ h => nomatch h)⟩)⟩)) h
  · obtain ⟨f, h⟩ := h2 hc
    refine ⟨f + 7, ?_⟩
    rw [key, if_neg hc]
    exact nrun_ext f f _ _ R 330 134 [(0, .ref 49)] [(0, .ref 49), (1, .int x1)] [.ref 49] _ 0 0 122 (Nat.le_refl _) (Nat.le_refl _) (Nat.le_of_ble_eq_true rfl) (lvR_mk [0] [0, 1] rfl rfl (by decide) (by decide) (List.forall_mem_cons.mpr ⟨List.mem_cons_self, (fun _ h => nomatch h)⟩) (List.forall_mem_cons.mpr ⟨Or.inl List.mem_cons_self, (List.forall_mem_cons.mpr ⟨Or.inr rfl, (fun _ h => nomatch h)⟩)⟩)) h
set_option maxRecDepth 100000 in
set_option maxHeartbeats 4000000 in
theorem bk_330_134 {b : Bool} {d : Nat} {e : Nat → x_E} {g : Nat → Int32} {q : Nat → Int64} {c : Nat → Nat → Int32} {l : Nat → Nat → Int64} {R : Option Value × List x_E} (hz0 : ¬ (((g 11) + (Int32.ofInt (1))) < 0 ∨ 6000 ≤ (((g 11) + (Int32.ofInt (1)))).toNatClampNeg)) (h : rr b e d 330 168 [] [.int ((c 51 (((g 11) + (Int32.ofInt (1)))).toNatClampNeg) - (Int8.ofInt (48)).toInt32), .ref 49] g q c l R) : rr b e d 330 134 [(0, .ref 49)] [.ref 49] g q c l R := by
  obtain ⟨f, h⟩ := h
  refine ⟨f + 10, ?_⟩
  obtain ⟨y, cb, hj⟩ := mq_330
  rw [n_step (st' := [.ref 49, .ref 49]) (pc' := 135) (lv' := [(0, .ref 49)]) (hp' := rH e g q c l) (i := .aload_n 0) (len := 1) rfl hj rfl rfl rfl]
  rw [n_get (st' := [.ref 51, .ref 49]) (pc' := 138) (lv' := [(0, .ref 49)]) (hp' := rH e g q c l) (i := .getfield 13) (len := 3) rfl hj rfl rfl rfl rfl]
  rw [n_step (st' := [.ref 49, .ref 51, .ref 49]) (pc' := 139) (lv' := [(0, .ref 49)]) (hp' := rH e g q c l) (i := .aload_n 0) (len := 1) rfl hj rfl rfl rfl]
  rw [n_get (st' := [.int (g 11), .ref 51, .ref 49]) (pc' := 142) (lv' := [(0, .ref 49)]) (hp' := rH e g q c l) (i := .getfield 257) (len := 3) rfl hj rfl rfl rfl rfl]
  rw [n_step (st' := [.int (Int32.ofInt (1)), .int (g 11), .ref 51, .ref 49]) (pc' := 143) (lv' := [(0, .ref 49)]) (hp' := rH e g q c l) (i := .iconst 1) (len := 1) rfl hj rfl rfl rfl]
  rw [n_step (st' := [.int ((g 11) + (Int32.ofInt (1))), .ref 51, .ref 49]) (pc' := 144) (lv' := [(0, .ref 49)]) (hp' := rH e g q c l) (i := .iadd) (len := 1) rfl hj rfl rfl rfl]
  rw [n_ial (st' := [.int (c 51 (((g 11) + (Int32.ofInt (1)))).toNatClampNeg), .ref 49]) rfl hj (ald_51 hz0)]
  rw [n_step (st' := [.int (Int8.ofInt (48)).toInt32, .int (c 51 (((g 11) + (Int32.ofInt (1)))).toNatClampNeg), .ref 49]) (pc' := 147) (lv' := [(0, .ref 49)]) (hp' := rH e g q c l) (i := .bipush 48) (len := 2) rfl hj rfl rfl rfl]
  rw [n_step (st' := [.int ((c 51 (((g 11) + (Int32.ofInt (1)))).toNatClampNeg) - (Int8.ofInt (48)).toInt32), .ref 49]) (pc' := 148) (lv' := [(0, .ref 49)]) (hp' := rH e g q c l) (i := .isub) (len := 1) rfl hj rfl rfl rfl]
  rw [n_step (st' := [.int ((c 51 (((g 11) + (Int32.ofInt (1)))).toNatClampNeg) - (Int8.ofInt (48)).toInt32), .ref 49]) (pc' := 168) (lv' := [(0, .ref 49)]) (hp' := rH e g q c l) (i := .goto 20) (len := 3) rfl hj rfl rfl rfl]
  exact nrun_ext f f _ _ R 330 168 [] [(0, .ref 49)] [.int ((c 51 (((g 11) + (Int32.ofInt (1)))).toNatClampNeg) - (Int8.ofInt (48)).toInt32), .ref 49] _ 0 0 122 (Nat.le_refl _) (Nat.le_refl _) (Nat.le_of_ble_eq_true rfl) (lvR_mk [] [0] rfl rfl (by decide) (by decide) (fun _ h => nomatch h) (List.forall_mem_cons.mpr ⟨Or.inr rfl, (fun _ h => nomatch h)⟩)) h
set_option maxRecDepth 100000 in
set_option maxHeartbeats 4000000 in
theorem bk_330_151 {b : Bool} {d : Nat} {e : Nat → x_E} {g : Nat → Int32} {q : Nat → Int64} {c : Nat → Nat → Int32} {l : Nat → Nat → Int64} {R : Option Value × List x_E} (hz0 : ¬ (((g 11) + (Int32.ofInt (2))) < 0 ∨ 6000 ≤ (((g 11) + (Int32.ofInt (2)))).toNatClampNeg)) (h : rr b e d 330 168 [] [.int (((Int8.ofInt (10)).toInt32 + (c 51 (((g 11) + (Int32.ofInt (2)))).toNatClampNeg)) - (Int8.ofInt (48)).toInt32), .ref 49] g q c l R) : rr b e d 330 151 [(0, .ref 49)] [.ref 49] g q c l R := by
  obtain ⟨f, h⟩ := h
  refine ⟨f + 11, ?_⟩
  obtain ⟨y, cb, hj⟩ := mq_330
  rw [n_step (st' := [.int (Int8.ofInt (10)).toInt32, .ref 49]) (pc' := 153) (lv' := [(0, .ref 49)]) (hp' := rH e g q c l) (i := .bipush 10) (len := 2) rfl hj rfl rfl rfl]
  rw [n_step (st' := [.ref 49, .int (Int8.ofInt (10)).toInt32, .ref 49]) (pc' := 154) (lv' := [(0, .ref 49)]) (hp' := rH e g q c l) (i := .aload_n 0) (len := 1) rfl hj rfl rfl rfl]
  rw [n_get (st' := [.ref 51, .int (Int8.ofInt (10)).toInt32, .ref 49]) (pc' := 157) (lv' := [(0, .ref 49)]) (hp' := rH e g q c l) (i := .getfield 13) (len := 3) rfl hj rfl rfl rfl rfl]
  rw [n_step (st' := [.ref 49, .ref 51, .int (Int8.ofInt (10)).toInt32, .ref 49]) (pc' := 158) (lv' := [(0, .ref 49)]) (hp' := rH e g q c l) (i := .aload_n 0) (len := 1) rfl hj rfl rfl rfl]
  rw [n_get (st' := [.int (g 11), .ref 51, .int (Int8.ofInt (10)).toInt32, .ref 49]) (pc' := 161) (lv' := [(0, .ref 49)]) (hp' := rH e g q c l) (i := .getfield 257) (len := 3) rfl hj rfl rfl rfl rfl]
  rw [n_step (st' := [.int (Int32.ofInt (2)), .int (g 11), .ref 51, .int (Int8.ofInt (10)).toInt32, .ref 49]) (pc' := 162) (lv' := [(0, .ref 49)]) (hp' := rH e g q c l) (i := .iconst 2) (len := 1) rfl hj rfl rfl rfl]
  rw [n_step (st' := [.int ((g 11) + (Int32.ofInt (2))), .ref 51, .int (Int8.ofInt (10)).toInt32, .ref 49]) (pc' := 163) (lv' := [(0, .ref 49)]) (hp' := rH e g q c l) (i := .iadd) (len := 1) rfl hj rfl rfl rfl]
  rw [n_ial (st' := [.int (c 51 (((g 11) + (Int32.ofInt (2)))).toNatClampNeg), .int (Int8.ofInt (10)).toInt32, .ref 49]) rfl hj (ald_51 hz0)]
  rw [n_step (st' := [.int ((Int8.ofInt (10)).toInt32 + (c 51 (((g 11) + (Int32.ofInt (2)))).toNatClampNeg)), .ref 49]) (pc' := 165) (lv' := [(0, .ref 49)]) (hp' := rH e g q c l) (i := .iadd) (len := 1) rfl hj rfl rfl rfl]
  rw [n_step (st' := [.int (Int8.ofInt (48)).toInt32, .int ((Int8.ofInt (10)).toInt32 + (c 51 (((g 11) + (Int32.ofInt (2)))).toNatClampNeg)), .ref 49]) (pc' := 167) (lv' := [(0, .ref 49)]) (hp' := rH e g q c l) (i := .bipush 48) (len := 2) rfl hj rfl rfl rfl]
  rw [n_step (st' := [.int (((Int8.ofInt (10)).toInt32 + (c 51 (((g 11) + (Int32.ofInt (2)))).toNatClampNeg)) - (Int8.ofInt (48)).toInt32), .ref 49]) (pc' := 168) (lv' := [(0, .ref 49)]) (hp' := rH e g q c l) (i := .isub) (len := 1) rfl hj rfl rfl rfl]
  exact nrun_ext f f _ _ R 330 168 [] [(0, .ref 49)] [.int (((Int8.ofInt (10)).toInt32 + (c 51 (((g 11) + (Int32.ofInt (2)))).toNatClampNeg)) - (Int8.ofInt (48)).toInt32), .ref 49] _ 0 0 122 (Nat.le_refl _) (Nat.le_refl _) (Nat.le_of_ble_eq_true rfl) (lvR_mk [] [0] rfl rfl (by decide) (by decide) (fun _ h => nomatch h) (List.forall_mem_cons.mpr ⟨Or.inr rfl, (fun _ h => nomatch h)⟩)) h
set_option maxRecDepth 100000 in
set_option maxHeartbeats 4000000 in
theorem bk_330_168 {b : Bool} {d : Nat} {t0 : Int32} {e : Nat → x_E} {g : Nat → Int32} {q : Nat → Int64} {c : Nat → Nat → Int32} {l : Nat → Nat → Int64} : rr b e d 330 168 [] [.int t0, .ref 49] g q c l (none, rH e (upd g 13 t0) q c l) := by
  refine ⟨0 + 2, ?_⟩
  obtain ⟨y, cb, hj⟩ := mq_330
  rw [n_put (st' := []) (hp' := rH e (upd g 13 t0) q c l) rfl hj pf_13]
  exact n_ret rfl hj rfl rfl rfl
set_option maxRecDepth 100000 in
set_option maxHeartbeats 4000000 in
theorem bk_331_0 {b : Bool} {d : Nat} {e : Nat → x_E} {g : Nat → Int32} {q : Nat → Int64} {c : Nat → Nat → Int32} {l : Nat → Nat → Int64} {R : Option Value × List x_E} (h : rr b e d 331 12 [(0, .ref 49), (1, .long (Int64.ofNat 0)), (3, .int (Int32.ofInt (1)))] [] (upd g 12 ((g 11))) q c l R) : rr b e d 331 0 [(0, .ref 49)] [] g q c l R := by
  obtain ⟨f, h⟩ := h
  refine ⟨f + 8, ?_⟩
  obtain ⟨y, cb, hj⟩ := mq_331
  rw [n_step (st' := [.ref 49]) (pc' := 1) (lv' := [(0, .ref 49)]) (hp' := rH e g q c l) (i := .aload_n 0) (len := 1) rfl hj rfl rfl rfl]
  rw [n_step (st' := [.ref 49, .ref 49]) (pc' := 2) (lv' := [(0, .ref 49)]) (hp' := rH e g q c l) (i := .aload_n 0) (len := 1) rfl hj rfl rfl rfl]
  rw [n_get (st' := [.int (g 11), .ref 49]) (pc' := 5) (lv' := [(0, .ref 49)]) (hp' := rH e g q c l) (i := .getfield 257) (len := 3) rfl hj rfl rfl rfl rfl]
  rw [n_put (st' := []) (hp' := rH e (upd g 12 ((g 11))) q c l) rfl hj pf_12]
  rw [n_step (st' := [.long (Int64.ofNat 0)]) (pc' := 9) (lv' := [(0, .ref 49)]) (hp' := rH e (upd g 12 ((g 11))) q c l) (i := .lconst 0) (len := 1) rfl hj rfl rfl rfl]
  rw [n_step (st' := []) (pc' := 10) (lv' := [(1, .long (Int64.ofNat 0)), (0, .ref 49)]) (hp' := rH e (upd g 12 ((g 11))) q c l) (i := .lstore_n 1) (len := 1) rfl hj rfl rfl rfl]
  rw [n_step (st' := [.int (Int32.ofInt (1))]) (pc' := 11) (lv' := [(1, .long (Int64.ofNat 0)), (0, .ref 49)]) (hp' := rH e (upd g 12 ((g 11))) q c l) (i := .iconst 1) (len := 1) rfl hj rfl rfl rfl]
  rw [n_step (st' := []) (pc' := 12) (lv' := [(3, .int (Int32.ofInt (1))), (1, .long (Int64.ofNat 0)), (0, .ref 49)]) (hp' := rH e (upd g 12 ((g 11))) q c l) (i := .istore_n 3) (len := 1) rfl hj rfl rfl rfl]
  exact nrun_ext f f _ _ R 331 12 [(0, .ref 49), (1, .long (Int64.ofNat 0)), (3, .int (Int32.ofInt (1)))] [(3, .int (Int32.ofInt (1))), (1, .long (Int64.ofNat 0)), (0, .ref 49)] [] _ 0 0 122 (Nat.le_refl _) (Nat.le_refl _) (Nat.le_of_ble_eq_true rfl) (lvR_mk [0, 1, 3] [3, 1, 0] rfl rfl (by decide) (by decide) (List.forall_mem_cons.mpr ⟨(List.mem_cons_of_mem _ (List.mem_cons_of_mem _ List.mem_cons_self)), (List.forall_mem_cons.mpr ⟨(List.mem_cons_of_mem _ List.mem_cons_self), (List.forall_mem_cons.mpr ⟨List.mem_cons_self, (fun _ h => nomatch h)⟩)⟩)⟩) (List.forall_mem_cons.mpr ⟨Or.inl (List.mem_cons_of_mem _ (List.mem_cons_of_mem _ List.mem_cons_self)), (List.forall_mem_cons.mpr ⟨Or.inl (List.mem_cons_of_mem _ List.mem_cons_self), (List.forall_mem_cons.mpr ⟨Or.inl List.mem_cons_self, (fun _ h => nomatch h)⟩)⟩)⟩)) h
set_option maxRecDepth 100000 in
set_option maxHeartbeats 4000000 in
theorem bk_331_12 {b : Bool} {d : Nat} {x3 : Int32} {x1 : Int64} {e : Nat → x_E} {g : Nat → Int32} {q : Nat → Int64} {c : Nat → Nat → Int32} {l : Nat → Nat → Int64} {g' : Nat → Int32} {q' : Nat → Int64} {c' : Nat → Nat → Int32} {l' : Nat → Nat → Int64} {v : Int32} {R : Option Value × List x_E} (hc : rr b e d 325 0 [(0, .ref 49), (1, .int (g 12))] [] g q c l (some (.int v), rH e g' q' c' l')) (h : rr b e (d + 1) 331 20 [(0, .ref 49), (1, .long x1), (3, .int x3)] [.int v] g' q' c' l' R) : rr b e (d + 1) 331 12 [(0, .ref 49), (1, .long x1), (3, .int x3)] [] g q c l R := by
  obtain ⟨f1, hc⟩ := hc
  obtain ⟨f2, h⟩ := h
  obtain ⟨f, hf1, hf2⟩ : ∃ f, f1 ≤ f ∧ f2 ≤ f := ⟨max f1 f2, Nat.le_max_left _ _, Nat.le_max_right _ _⟩
  have hc := nrun_fuel f1 f _ _ _ _ _ _ _ _ _ hf1 hc
  have h := nrun_fuel f2 f _ _ _ _ _ _ _ _ _ hf2 h
  refine ⟨f + 4, ?_⟩
  obtain ⟨y, cb, hj⟩ := mq_331
  rw [n_step (st' := [.ref 49]) (pc' := 13) (lv' := [(0, .ref 49), (1, .long x1), (3, .int x3)]) (hp' := rH e g q c l) (i := .aload_n 0) (len := 1) rfl hj rfl rfl rfl]
  rw [n_step (st' := [.ref 49, .ref 49]) (pc' := 14) (lv' := [(0, .ref 49), (1, .long x1), (3, .int x3)]) (hp' := rH e g q c l) (i := .aload_n 0) (len := 1) rfl hj rfl rfl rfl]
  rw [n_get (st' := [.int (g 12), .ref 49]) (pc' := 17) (lv' := [(0, .ref 49), (1, .long x1), (3, .int x3)]) (hp' := rH e g q c l) (i := .getfield 264) (len := 3) rfl hj rfl rfl rfl rfl]
  obtain ⟨y2, cb2, hj2⟩ := mq_325
  rw [n_call (f := f) (d := d) (ki := 0) (idx := 247) (j' := 325) (kd := 0) (M' := (y2, cb2, 2, some .int, 12, 1, 0, 0)) (avs := [.ref 49, .int (g 12)]) (r := []) (rv := some (.int v)) (hp1 := rH e g' q' c' l') rfl hj rfl rfl rfl rfl (rq_n rfl rfl hj2 rfl rfl) rfl hc (Nat.le_of_ble_eq_true rfl)]
  exact h
set_option maxRecDepth 100000 in
set_option maxHeartbeats 4000000 in
theorem bk_331_20 {b : Bool} {d : Nat} {t0 x3 : Int32} {x1 : Int64} {e : Nat → x_E} {g : Nat → Int32} {q : Nat → Int64} {c : Nat → Nat → Int32} {l : Nat → Nat → Int64} {g' : Nat → Int32} {q' : Nat → Int64} {c' : Nat → Nat → Int32} {l' : Nat → Nat → Int64} {v : Int32} {R : Option Value × List x_E} (hc : rr b e d 328 0 [(0, .int t0)] [] g q c l (some (.int v), rH e g' q' c' l')) (h : rr b e (d + 1) 331 23 [(0, .ref 49), (1, .long x1), (3, .int x3)] [.int v] g' q' c' l' R) : rr b e (d + 1) 331 20 [(0, .ref 49), (1, .long x1), (3, .int x3)] [.int t0] g q c l R := by
  obtain ⟨f1, hc⟩ := hc
  obtain ⟨f2, h⟩ := h
  obtain ⟨f, hf1, hf2⟩ : ∃ f, f1 ≤ f ∧ f2 ≤ f := ⟨max f1 f2, Nat.le_max_left _ _, Nat.le_max_right _ _⟩
  have hc := nrun_fuel f1 f _ _ _ _ _ _ _ _ _ hf1 hc
  have h := nrun_fuel f2 f _ _ _ _ _ _ _ _ _ hf2 h
  refine ⟨f + 1, ?_⟩
  obtain ⟨y, cb, hj⟩ := mq_331
  obtain ⟨y2, cb2, hj2⟩ := mq_328
  rw [n_call (f := f) (d := d) (ki := 1) (idx := 283) (j' := 328) (kd := 1) (M' := (y2, cb2, 1, some .boolean, 12, 1, 0, 0)) (avs := [.int t0]) (r := []) (rv := some (.int v)) (hp1 := rH e g' q' c' l') rfl hj rfl rfl rfl rfl (rq_t rfl rfl hj2 rfl) rfl hc (Nat.le_of_ble_eq_true rfl)]
  exact h
set_option maxRecDepth 100000 in
set_option maxHeartbeats 4000000 in
theorem bk_331_23 {b : Bool} {d : Nat} {t0 x3 : Int32} {x1 : Int64} {e : Nat → x_E} {g : Nat → Int32} {q : Nat → Int64} {c : Nat → Nat → Int32} {l : Nat → Nat → Int64} {R : Option Value × List x_E} (h1 : xCn .eq t0 0 = true → rr b e d 331 86 [(0, .ref 49), (1, .long x1), (3, .int x3)] [] g q c l R) (h2 : ¬ xCn .eq t0 0 = true → rr b e d 331 26 [(0, .ref 49), (1, .long x1), (3, .int x3)] [] g q c l R) : rr b e d 331 23 [(0, .ref 49), (1, .long x1), (3, .int x3)] [.int t0] g q c l R := by
  have key : ∀ f, nrun xZ (xY (xfm b)) xDT (f + 1) d 331 23 [(0, .ref 49), (1, .long x1), (3, .int x3)] [.int t0] (rH e g q c l) 0 0 = nrun xZ (xY (xfm b)) xDT f d 331 (if xCn .eq t0 0 = true then 86 else 26) [(0, .ref 49), (1, .long x1), (3, .int x3)] [] (rH e g q c l) 0 0 := by
    intro f
    obtain ⟨y, cb, hj⟩ := mq_331
    rw [n_step (st' := []) (pc' := (if xCn .eq t0 0 = true then 86 else 26)) (lv' := [(0, .ref 49), (1, .long x1), (3, .int x3)]) (hp' := rH e g q c l) (i := .ifCond .eq 63) (len := 3) rfl hj rfl rfl rfl]
  by_cases hc : xCn .eq t0 0 = true
  · obtain ⟨f, h⟩ := h1 hc
    refine ⟨f + 1, ?_⟩
    rw [key, if_pos hc]
    exact h
  · obtain ⟨f, h⟩ := h2 hc
    refine ⟨f + 1, ?_⟩
    rw [key, if_neg hc]
    exact h
set_option maxRecDepth 100000 in
set_option maxHeartbeats 4000000 in
theorem bk_331_26 {b : Bool} {d : Nat} {x3 : Int32} {x1 : Int64} {e : Nat → x_E} {g : Nat → Int32} {q : Nat → Int64} {c : Nat → Nat → Int32} {l : Nat → Nat → Int64} {R : Option Value × List x_E} (h1 : xCn .eq x3 0 = true → rr b e d 331 53 [(0, .ref 49), (1, .long x1), (3, .int x3)] [] g q c l R) (h2 : ¬ xCn .eq x3 0 = true → rr b e d 331 30 [(0, .ref 49), (1, .long x1), (3, .int x3)] [] g q c l R) : rr b e d 331 26 [(0, .ref 49), (1, .long x1), (3, .int x3)] [] g q c l R := by
  have key : ∀ f, nrun xZ (xY (xfm b)) xDT (f + 2) d 331 26 [(0, .ref 49), (1, .long x1), (3, .int x3)] [] (rH e g q c l) 0 0 = nrun xZ (xY (xfm b)) xDT f d 331 (if xCn .eq x3 0 = true then 53 else 30) [(0, .ref 49), (1, .long x1), (3, .int x3)] [] (rH e g q c l) 0 0 := by
    intro f
    obtain ⟨y, cb, hj⟩ := mq_331
    rw [n_step (st' := [.int x3]) (pc' := 27) (lv' := [(0, .ref 49), (1, .long x1), (3, .int x3)]) (hp' := rH e g q c l) (i := .iload_n 3) (len := 1) rfl hj rfl rfl rfl]
    rw [n_step (st' := []) (pc' := (if xCn .eq x3 0 = true then 53 else 30)) (lv' := [(0, .ref 49), (1, .long x1), (3, .int x3)]) (hp' := rH e g q c l) (i := .ifCond .eq 26) (len := 3) rfl hj rfl rfl rfl]
  by_cases hc : xCn .eq x3 0 = true
  · obtain ⟨f, h⟩ := h1 hc
    refine ⟨f + 2, ?_⟩
    rw [key, if_pos hc]
    exact h
  · obtain ⟨f, h⟩ := h2 hc
    refine ⟨f + 2, ?_⟩
    rw [key, if_neg hc]
    exact h
set_option maxRecDepth 100000 in
set_option maxHeartbeats 4000000 in
theorem bk_331_30 {b : Bool} {d : Nat} {x3 : Int32} {x1 : Int64} {e : Nat → x_E} {g : Nat → Int32} {q : Nat → Int64} {c : Nat → Nat → Int32} {l : Nat → Nat → Int64} {R : Option Value × List x_E} (hz0 : ¬ ((g 12) < 0 ∨ 6000 ≤ ((g 12)).toNatClampNeg)) (h : rr b e d 331 54 [(0, .ref 49), (3, .int x3)] [.long ((((10) * x1) + (Int32.toInt64 ((c 51 ((g 12)).toNatClampNeg)))) - (48))] g q c l R) : rr b e d 331 30 [(0, .ref 49), (1, .long x1), (3, .int x3)] [] g q c l R := by
  obtain ⟨f, h⟩ := h
  refine ⟨f + 13, ?_⟩
  obtain ⟨y, cb, hj⟩ := mq_331
  rw [n_step (st' := [.long (10)]) (pc' := 33) (lv' := [(0, .ref 49), (1, .long x1), (3, .int x3)]) (hp' := rH e g q c l) (i := .ldc2_w 310) (len := 3) rfl hj rfl rfl rfl]
  rw [n_step (st' := [.long x1, .long (10)]) (pc' := 34) (lv' := [(0, .ref 49), (1, .long x1), (3, .int x3)]) (hp' := rH e g q c l) (i := .lload_n 1) (len := 1) rfl hj rfl rfl rfl]
  rw [n_step (st' := [.long ((10) * x1)]) (pc' := 35) (lv' := [(0, .ref 49), (1, .long x1), (3, .int x3)]) (hp' := rH e g q c l) (i := .lmul) (len := 1) rfl hj rfl rfl rfl]
  rw [n_step (st' := [.ref 49, .long ((10) * x1)]) (pc' := 36) (lv' := [(0, .ref 49), (1, .long x1), (3, .int x3)]) (hp' := rH e g q c l) (i := .aload_n 0) (len := 1) rfl hj rfl rfl rfl]
  rw [n_get (st' := [.ref 51, .long ((10) * x1)]) (pc' := 39) (lv' := [(0, .ref 49), (1, .long x1), (3, .int x3)]) (hp' := rH e g q c l) (i := .getfield 13) (len := 3) rfl hj rfl rfl rfl rfl]
  rw [n_step (st' := [.ref 49, .ref 51, .long ((10) * x1)]) (pc' := 40) (lv' := [(0, .ref 49), (1, .long x1), (3, .int x3)]) (hp' := rH e g q c l) (i := .aload_n 0) (len := 1) rfl hj rfl rfl rfl]
  rw [n_get (st' := [.int (g 12), .ref 51, .long ((10) * x1)]) (pc' := 43) (lv' := [(0, .ref 49), (1, .long x1), (3, .int x3)]) (hp' := rH e g q c l) (i := .getfield 264) (len := 3) rfl hj rfl rfl rfl rfl]
  rw [n_ial (st' := [.int (c 51 ((g 12)).toNatClampNeg), .long ((10) * x1)]) rfl hj (ald_51 hz0)]
  rw [n_step (st' := [.long (Int32.toInt64 ((c 51 ((g 12)).toNatClampNeg))), .long ((10) * x1)]) (pc' := 45) (lv' := [(0, .ref 49), (1, .long x1), (3, .int x3)]) (hp' := rH e g q c l) (i := .i2l) (len := 1) rfl hj rfl rfl rfl]
  rw [n_step (st' := [.long (((10) * x1) + (Int32.toInt64 ((c 51 ((g 12)).toNatClampNeg))))]) (pc' := 46) (lv' := [(0, .ref 49), (1, .long x1), (3, .int x3)]) (hp' := rH e g q c l) (i := .ladd) (len := 1) rfl hj rfl rfl rfl]
  rw [n_step (st' := [.long (48), .long (((10) * x1) + (Int32.toInt64 ((c 51 ((g 12)).toNatClampNeg))))]) (pc' := 49) (lv' := [(0, .ref 49), (1, .long x1), (3, .int x3)]) (hp' := rH e g q c l) (i := .ldc2_w 312) (len := 3) rfl hj rfl rfl rfl]
  rw [n_step (st' := [.long ((((10) * x1) + (Int32.toInt64 ((c 51 ((g 12)).toNatClampNeg)))) - (48))]) (pc' := 50) (lv' := [(0, .ref 49), (1, .long x1), (3, .int x3)]) (hp' := rH e g q c l) (i := .lsub) (len := 1) rfl hj rfl rfl rfl]
  rw [n_step (st' := [.long ((((10) * x1) + (Int32.toInt64 ((c 51 ((g 12)).toNatClampNeg)))) - (48))]) (pc' := 54) (lv' := [(0, .ref 49), (1, .long x1), (3, .int x3)]) (hp' := rH e g q c l) (i := .goto 4) (len := 3) rfl hj rfl rfl rfl]
  exact nrun_ext f f _ _ R 331 54 [(0, .ref 49), (3, .int x3)] [(0, .ref 49), (1, .long x1), (3, .int x3)] [.long ((((10) * x1) + (Int32.toInt64 ((c 51 ((g 12)).toNatClampNeg)))) - (48))] _ 0 0 122 (Nat.le_refl _) (Nat.le_refl _) (Nat.le_of_ble_eq_true rfl) (lvR_mk [0, 3] [0, 1, 3] rfl rfl (by decide) (by decide) (List.forall_mem_cons.mpr ⟨List.mem_cons_self, (List.forall_mem_cons.mpr ⟨(List.mem_cons_of_mem _ (List.mem_cons_of_mem _ List.mem_cons_self)), (fun _ h => nomatch h)⟩)⟩) (List.forall_mem_cons.mpr ⟨Or.inl List.mem_cons_self, (List.forall_mem_cons.mpr ⟨Or.inr rfl, (List.forall_mem_cons.mpr ⟨Or.inl (List.mem_cons_of_mem _ List.mem_cons_self), (fun _ h => nomatch h)⟩)⟩)⟩)) h
set_option maxRecDepth 100000 in
set_option maxHeartbeats 4000000 in
theorem bk_331_53 {b : Bool} {d : Nat} {x3 : Int32} {x1 : Int64} {e : Nat → x_E} {g : Nat → Int32} {q : Nat → Int64} {c : Nat → Nat → Int32} {l : Nat → Nat → Int64} {R : Option Value × List x_E} (h : rr b e d 331 54 [(0, .ref 49), (3, .int x3)] [.long x1] g q c l R) : rr b e d 331 53 [(0, .ref 49), (1, .long x1), (3, .int x3)] [] g q c l R := by
  obtain ⟨f, h⟩ := h
  refine ⟨f + 1, ?_⟩
  obtain ⟨y, cb, hj⟩ := mq_331
  rw [n_step (st' := [.long x1]) (pc' := 54) (lv' := [(0, .ref 49), (1, .long x1), (3, .int x3)]) (hp' := rH e g q c l) (i := .lload_n 1) (len := 1) rfl hj rfl rfl rfl]
  exact nrun_ext f f _ _ R 331 54 [(0, .ref 49), (3, .int x3)] [(0, .ref 49), (1, .long x1), (3, .int x3)] [.long x1] _ 0 0 122 (Nat.le_refl _) (Nat.le_refl _) (Nat.le_of_ble_eq_true rfl) (lvR_mk [0, 3] [0, 1, 3] rfl rfl (by decide) (by decide) (List.forall_mem_cons.mpr ⟨List.mem_cons_self, (List.forall_mem_cons.mpr ⟨(List.mem_cons_of_mem _ (List.mem_cons_of_mem _ List.mem_cons_self)), (fun _ h => nomatch h)⟩)⟩) (List.forall_mem_cons.mpr ⟨Or.inl List.mem_cons_self, (List.forall_mem_cons.mpr ⟨Or.inr rfl, (List.forall_mem_cons.mpr ⟨Or.inl (List.mem_cons_of_mem _ List.mem_cons_self), (fun _ h => nomatch h)⟩)⟩)⟩)) h
set_option maxRecDepth 100000 in
set_option maxHeartbeats 4000000 in
theorem bk_331_54 {b : Bool} {d : Nat} {x3 : Int32} {t0 : Int64} {e : Nat → x_E} {g : Nat → Int32} {q : Nat → Int64} {c : Nat → Nat → Int32} {l : Nat → Nat → Int64} {R : Option Value × List x_E} (h1 : xCn .eq x3 0 = true → rr b e d 331 71 [(0, .ref 49), (1, .long t0)] [] g q c l R) (h2 : ¬ xCn .eq x3 0 = true → rr b e d 331 59 [(0, .ref 49), (1, .long t0)] [] g q c l R) : rr b e d 331 54 [(0, .ref 49), (3, .int x3)] [.long t0] g q c l R := by
  have key : ∀ f, nrun xZ (xY (xfm b)) xDT (f + 3) d 331 54 [(0, .ref 49), (3, .int x3)] [.long t0] (rH e g q c l) 0 0 = nrun xZ (xY (xfm b)) xDT f d 331 (if xCn .eq x3 0 = true then 71 else 59) [(1, .long t0), (0, .ref 49), (3, .int x3)] [] (rH e g q c l) 0 0 := by
    intro f
    obtain ⟨y, cb, hj⟩ := mq_331
    rw [n_step (st' := []) (pc' := 55) (lv' := [(1, .long t0), (0, .ref 49), (3, .int x3)]) (hp' := rH e g q c l) (i := .lstore_n 1) (len := 1) rfl hj rfl rfl rfl]
    rw [n_step (st' := [.int x3]) (pc' := 56) (lv' := [(1, .long t0), (0, .ref 49), (3, .int x3)]) (hp' := rH e g q c l) (i := .iload_n 3) (len := 1) rfl hj rfl rfl rfl]
    rw [n_step (st' := []) (pc' := (if xCn .eq x3 0 = true then 71 else 59)) (lv' := [(1, .long t0), (0, .ref 49), (3, .int x3)]) (hp' := rH e g q c l) (i := .ifCond .eq 15) (len := 3) rfl hj rfl rfl rfl]
  by_cases hc : xCn .eq x3 0 = true
  · obtain ⟨f, h⟩ := h1 hc
    refine ⟨f + 3, ?_⟩
    rw [key, if_pos hc]
    exact nrun_ext f f _ _ R 331 71 [(0, .ref 49), (1, .long t0)] [(1, .long t0), (0, .ref 49), (3, .int x3)] [] _ 0 0 122 (Nat.le_refl _) (Nat.le_refl _) (Nat.le_of_ble_eq_true rfl) (lvR_mk [0, 1] [1, 0, 3] rfl rfl (by decide) (by decide) (List.forall_mem_cons.mpr ⟨(List.mem_cons_of_mem _ List.mem_cons_self), (List.forall_mem_cons.mpr ⟨List.mem_cons_self, (fun _ h => nomatch h)⟩)⟩) (List.forall_mem_cons.mpr ⟨Or.inl (List.mem_cons_of_mem _ List.mem_cons_self), (List.forall_mem_cons.mpr ⟨Or.inl List.mem_cons_self, (List.forall_mem_cons.mpr ⟨Or.inr rfl, (fun _ h => nomatch h)⟩)⟩)⟩)) h
  · obtain ⟨f, h⟩ := h2 hc
    refine ⟨f + 3, ?_⟩
    rw [key, if_neg hc]
    exact nrun_ext f f _ _ R 331 59 [(0, .ref 49), (1, .long t0)] [(1, .long t0), (0, .ref 49), (3, .int x3)] [] _ 0 0 122 (Nat.le_refl _) (Nat.le_refl _) (Nat.le_of_ble_eq_true rfl) (lvR_mk [0, 1] [1, 0, 3] rfl rfl (by decide) (by decide) (List.forall_mem_cons.mpr ⟨(List.mem_cons_of_mem _ List.mem_cons_self), (List.forall_mem_cons.mpr ⟨List.mem_cons_self, (fun _ h => nomatch h)⟩)⟩) (List.forall_mem_cons.mpr ⟨Or.inl (List.mem_cons_of_mem _ List.mem_cons_self), (List.forall_mem_cons.mpr ⟨Or.inl List.mem_cons_self, (List.forall_mem_cons.mpr ⟨Or.inr rfl, (fun _ h => nomatch h)⟩)⟩)⟩)) h
set_option maxRecDepth 100000 in
set_option maxHeartbeats 4000000 in
theorem bk_331_59 {b : Bool} {d : Nat} {x1 : Int64} {e : Nat → x_E} {g : Nat → Int32} {q : Nat → Int64} {c : Nat → Nat → Int32} {l : Nat → Nat → Int64} {R : Option Value × List x_E} (h1 : xCn .gt ((lg_cmp x1 ((2147483647)))) 0 = true → rr b e d 331 71 [(0, .ref 49), (1, .long x1)] [] g q c l R) (h2 : ¬ xCn .gt ((lg_cmp x1 ((2147483647)))) 0 = true → rr b e d 331 67 [(0, .ref 49), (1, .long x1)] [] g q c l R) : rr b e d 331 59 [(0, .ref 49), (1, .long x1)] [] g q c l R := by
  have key : ∀ f, nrun xZ (xY (xfm b)) xDT (f + 4) d 331 59 [(0, .ref 49), (1, .long x1)] [] (rH e g q c l) 0 0 = nrun xZ (xY (xfm b)) xDT f d 331 (if xCn .gt ((lg_cmp x1 ((2147483647)))) 0 = true then 71 else 67) [(0, .ref 49), (1, .long x1)] [] (rH e g q c l) 0 0 := by
    intro f
    obtain ⟨y, cb, hj⟩ := mq_331
    rw [n_step (st' := [.long x1]) (pc' := 60) (lv' := [(0, .ref 49), (1, .long x1)]) (hp' := rH e g q c l) (i := .lload_n 1) (len := 1) rfl hj rfl rfl rfl]
    rw [n_step (st' := [.long (2147483647), .long x1]) (pc' := 63) (lv' := [(0, .ref 49), (1, .long x1)]) (hp' := rH e g q c l) (i := .ldc2_w 314) (len := 3) rfl hj rfl rfl rfl]
    rw [n_step (st' := [.int (lg_cmp x1 ((2147483647)))]) (pc' := 64) (lv' := [(0, .ref 49), (1, .long x1)]) (hp' := rH e g q c l) (i := .lcmp) (len := 1) rfl hj rfl rfl rfl]
    rw [n_step (st' := []) (pc' := (if xCn .gt ((lg_cmp x1 ((2147483647)))) 0 = true then 71 else 67)) (lv' := [(0, .ref 49), (1, .long x1)]) (hp' := rH e g q c l) (i := .ifCond .gt 7) (len := 3) rfl hj rfl rfl rfl]
  by_cases hc : xCn .gt ((lg_cmp x1 ((2147483647)))) 0 = true
  · obtain ⟨f, h⟩ := h1 hc
    refine ⟨f + 4, ?_⟩
    rw [key, if_pos hc]
    exact h
  · obtain ⟨f, h⟩ := h2 hc
    refine ⟨f + 4, ?_⟩
    rw [key, if_neg hc]
    exact h
set_option maxRecDepth 100000 in
set_option maxHeartbeats 4000000 in
theorem bk_331_67 {b : Bool} {d : Nat} {x1 : Int64} {e : Nat → x_E} {g : Nat → Int32} {q : Nat → Int64} {c : Nat → Nat → Int32} {l : Nat → Nat → Int64} {R : Option Value × List x_E} (h : rr b e d 331 72 [(0, .ref 49), (1, .long x1)] [.int (Int32.ofInt (1))] g q c l R) : rr b e d 331 67 [(0, .ref 49), (1, .long x1)] [] g q c l R := by
  obtain ⟨f, h⟩ := h
  refine ⟨f + 2, ?_⟩
  obtain ⟨y, cb, hj⟩ := mq_331
  rw [n_step (st' := [.int (Int32.ofInt (1))]) (pc' := 68) (lv' := [(0, .ref 49), (1, .long x1)]) (hp' := rH e g q c l) (i := .iconst 1) (len := 1) rfl hj rfl rfl rfl]
  rw [n_step (st' := [.int (Int32.ofInt (1))]) (pc' := 72) (lv' := [(0, .ref 49), (1, .long x1)]) (hp' := rH e g q c l) (i := .goto 4) (len := 3) rfl hj rfl rfl rfl]
  exact h
set_option maxRecDepth 100000 in
set_option maxHeartbeats 4000000 in
theorem bk_331_71 {b : Bool} {d : Nat} {x1 : Int64} {e : Nat → x_E} {g : Nat → Int32} {q : Nat → Int64} {c : Nat → Nat → Int32} {l : Nat → Nat → Int64} {R : Option Value × List x_E} (h : rr b e d 331 72 [(0, .ref 49), (1, .long x1)] [.int (Int32.ofInt (0))] g q c l R) : rr b e d 331 71 [(0, .ref 49), (1, .long x1)] [] g q c l R := by
  obtain ⟨f, h⟩ := h
  refine ⟨f + 1, ?_⟩
  obtain ⟨y, cb, hj⟩ := mq_331
  rw [n_step (st' := [.int (Int32.ofInt (0))]) (pc' := 72) (lv' := [(0, .ref 49), (1, .long x1)]) (hp' := rH e g q c l) (i := .iconst 0) (len := 1) rfl hj rfl rfl rfl]
  exact h
set_option maxRecDepth 100000 in
set_option maxHeartbeats 4000000 in
theorem bk_331_72 {b : Bool} {d : Nat} {t0 : Int32} {x1 : Int64} {e : Nat → x_E} {g : Nat → Int32} {q : Nat → Int64} {c : Nat → Nat → Int32} {l : Nat → Nat → Int64} {R : Option Value × List x_E} (h : rr b e d 331 12 [(0, .ref 49), (1, .long x1), (3, .int t0)] [] (upd g 12 (((g 12) + (Int32.ofInt (1))))) q c l R) : rr b e d 331 72 [(0, .ref 49), (1, .long x1)] [.int t0] g q c l R := by
  obtain ⟨f, h⟩ := h
  refine ⟨f + 8, ?_⟩
  obtain ⟨y, cb, hj⟩ := mq_331
  rw [n_step (st' := []) (pc' := 73) (lv' := [(3, .int t0), (0, .ref 49), (1, .long x1)]) (hp' := rH e g q c l) (i := .istore_n 3) (len := 1) rfl hj rfl rfl rfl]
  rw [n_step (st' := [.ref 49]) (pc' := 74) (lv' := [(3, .int t0), (0, .ref 49), (1, .long x1)]) (hp' := rH e g q c l) (i := .aload_n 0) (len := 1) rfl hj rfl rfl rfl]
  rw [n_step (st' := [.ref 49, .ref 49]) (pc' := 75) (lv' := [(3, .int t0), (0, .ref 49), (1, .long x1)]) (hp' := rH e g q c l) (i := .aload_n 0) (len := 1) rfl hj rfl rfl rfl]
  rw [n_get (st' := [.int (g 12), .ref 49]) (pc' := 78) (lv' := [(3, .int t0), (0, .ref 49), (1, .long x1)]) (hp' := rH e g q c l) (i := .getfield 264) (len := 3) rfl hj rfl rfl rfl rfl]
  rw [n_step (st' := [.int (Int32.ofInt (1)), .int (g 12), .ref 49]) (pc' := 79) (lv' := [(3, .int t0), (0, .ref 49), (1, .long x1)]) (hp' := rH e g q c l) (i := .iconst 1) (len := 1) rfl hj rfl rfl rfl]
  rw [n_step (st' := [.int ((g 12) + (Int32.ofInt (1))), .ref 49]) (pc' := 80) (lv' := [(3, .int t0), (0, .ref 49), (1, .long x1)]) (hp' := rH e g q c l) (i := .iadd) (len := 1) rfl hj rfl rfl rfl]
  rw [n_put (st' := []) (hp' := rH e (upd g 12 (((g 12) + (Int32.ofInt (1))))) q c l) rfl hj pf_12]
  rw [n_step (st' := []) (pc' := 12) (lv' := [(3, .int t0), (0, .ref 49), (1, .long x1)]) (hp' := rH e (upd g 12 (((g 12) + (Int32.ofInt (1))))) q c l) (i := .goto (-71)) (len := 3) rfl hj rfl rfl rfl]
  exact nrun_ext f f _ _ R 331 12 [(0, .ref 49), (1, .long x1), (3, .int t0)] [(3, .int t0), (0, .ref 49), (1, .long x1)] [] _ 0 0 122 (Nat.le_refl _) (Nat.le_refl _) (Nat.le_of_ble_eq_true rfl) (lvR_mk [0, 1, 3] [3, 0, 1] rfl rfl (by decide) (by decide) (List.forall_mem_cons.mpr ⟨(List.mem_cons_of_mem _ List.mem_cons_self), (List.forall_mem_cons.mpr ⟨(List.mem_cons_of_mem _ (List.mem_cons_of_mem _ List.mem_cons_self)), (List.forall_mem_cons.mpr ⟨List.mem_cons_self, (fun _ h => nomatch h)⟩)⟩)⟩) (List.forall_mem_cons.mpr ⟨Or.inl (List.mem_cons_of_mem _ (List.mem_cons_of_mem _ List.mem_cons_self)), (List.forall_mem_cons.mpr ⟨Or.inl List.mem_cons_self, (List.forall_mem_cons.mpr ⟨Or.inl (List.mem_cons_of_mem _ List.mem_cons_self), (fun _ h => nomatch h)⟩)⟩)⟩)) h
set_option maxRecDepth 100000 in
set_option maxHeartbeats 4000000 in
theorem bk_331_86 {b : Bool} {d : Nat} {x3 : Int32} {x1 : Int64} {e : Nat → x_E} {g : Nat → Int32} {q : Nat → Int64} {c : Nat → Nat → Int32} {l : Nat → Nat → Int64} {R : Option Value × List x_E} (h1 : xCn .eq x3 0 = true → rr b e d 331 108 [(0, .ref 49), (1, .long x1)] [] g q c l R) (h2 : ¬ xCn .eq x3 0 = true → rr b e d 331 90 [(0, .ref 49), (1, .long x1)] [] g q c l R) : rr b e d 331 86 [(0, .ref 49), (1, .long x1), (3, .int x3)] [] g q c l R := by
  have key : ∀ f, nrun xZ (xY (xfm b)) xDT (f + 2) d 331 86 [(0, .ref 49), (1, .long x1), (3, .int x3)] [] (rH e g q c l) 0 0 = nrun xZ (xY (xfm b)) xDT f d 331 (if xCn .eq x3 0 = true then 108 else 90) [(0, .ref 49), (1, .long x1), (3, .int x3)] [] (rH e g q c l) 0 0 := by
    intro f
    obtain ⟨y, cb, hj⟩ := mq_331
    rw [n_step (st' := [.int x3]) (pc' := 87) (lv' := [(0, .ref 49), (1, .long x1), (3, .int x3)]) (hp' := rH e g q c l) (i := .iload_n 3) (len := 1) rfl hj rfl rfl rfl]
    rw [n_step (st' := []) (pc' := (if xCn .eq x3 0 = true then 108 else 90)) (lv' := [(0, .ref 49), (1, .long x1), (3, .int x3)]) (hp' := rH e g q c l) (i := .ifCond .eq 21) (len := 3) rfl hj rfl rfl rfl]
  by_cases hc : xCn .eq x3 0 = true
  · obtain ⟨f, h⟩ := h1 hc
    refine ⟨f + 2, ?_⟩
    rw [key, if_pos hc]
    exact nrun_ext f f _ _ R 331 108 [(0, .ref 49), (1, .long x1)] [(0, .ref 49), (1, .long x1), (3, .int x3)] [] _ 0 0 122 (Nat.le_refl _) (Nat.le_refl _) (Nat.le_of_ble_eq_true rfl) (lvR_mk [0, 1] [0, 1, 3] rfl rfl (by decide) (by decide) (List.forall_mem_cons.mpr ⟨List.mem_cons_self, (List.forall_mem_cons.mpr ⟨(List.mem_cons_of_mem _ List.mem_cons_self), (fun _ h => nomatch h)⟩)⟩) (List.forall_mem_cons.mpr ⟨Or.inl List.mem_cons_self, (List.forall_mem_cons.mpr ⟨Or.inl (List.mem_cons_of_mem _ List.mem_cons_self), (List.forall_mem_cons.mpr ⟨Or.inr rfl, (fun _ h => nomatch h)⟩)⟩)⟩)) h
  · obtain ⟨f, h⟩ := h2 hc
    refine ⟨f + 2, ?_⟩
    rw [key, if_neg hc]
    exact nrun_ext f f _ _ R 331 90 [(0, .ref 49), (1, .long x1)] [(0, .ref 49), (1, .long x1), (3, .int x3)] [] _ 0 0 122 (Nat.le_refl _) (Nat.le_refl _) (Nat.le_of_ble_eq_true rfl) (lvR_mk [0, 1] [0, 1, 3] rfl rfl (by decide) (by decide) (List.forall_mem_cons.mpr ⟨List.mem_cons_self, (List.forall_mem_cons.mpr ⟨(List.mem_cons_of_mem _ List.mem_cons_self), (fun _ h => nomatch h)⟩)⟩) (List.forall_mem_cons.mpr ⟨Or.inl List.mem_cons_self, (List.forall_mem_cons.mpr ⟨Or.inl (List.mem_cons_of_mem _ List.mem_cons_self), (List.forall_mem_cons.mpr ⟨Or.inr rfl, (fun _ h => nomatch h)⟩)⟩)⟩)) h
set_option maxRecDepth 100000 in
set_option maxHeartbeats 4000000 in
theorem bk_331_90 {b : Bool} {d : Nat} {x1 : Int64} {e : Nat → x_E} {g : Nat → Int32} {q : Nat → Int64} {c : Nat → Nat → Int32} {l : Nat → Nat → Int64} {g' : Nat → Int32} {q' : Nat → Int64} {c' : Nat → Nat → Int32} {l' : Nat → Nat → Int64} {v : Int32} {R : Option Value × List x_E} (hc : rr b e d 325 0 [(0, .ref 49), (1, .int (g 12))] [] g q c l (some (.int v), rH e g' q' c' l')) (h : rr b e (d + 1) 331 98 [(0, .ref 49), (1, .long x1)] [.int v] g' q' c' l' R) : rr b e (d + 1) 331 90 [(0, .ref 49), (1, .long x1)] [] g q c l R := by
  obtain ⟨f1, hc⟩ := hc
  obtain ⟨f2, h⟩ := h
  obtain ⟨f, hf1, hf2⟩ : ∃ f, f1 ≤ f ∧ f2 ≤ f := ⟨max f1 f2, Nat.le_max_left _ _, Nat.le_max_right _ _⟩
  have hc := nrun_fuel f1 f _ _ _ _ _ _ _ _ _ hf1 hc
  have h := nrun_fuel f2 f _ _ _ _ _ _ _ _ _ hf2 h
  refine ⟨f + 4, ?_⟩
  obtain ⟨y, cb, hj⟩ := mq_331
  rw [n_step (st' := [.ref 49]) (pc' := 91) (lv' := [(0, .ref 49), (1, .long x1)]) (hp' := rH e g q c l) (i := .aload_n 0) (len := 1) rfl hj rfl rfl rfl]
  rw [n_step (st' := [.ref 49, .ref 49]) (pc' := 92) (lv' := [(0, .ref 49), (1, .long x1)]) (hp' := rH e g q c l) (i := .aload_n 0) (len := 1) rfl hj rfl rfl rfl]
  rw [n_get (st' := [.int (g 12), .ref 49]) (pc' := 95) (lv' := [(0, .ref 49), (1, .long x1)]) (hp' := rH e g q c l) (i := .getfield 264) (len := 3) rfl hj rfl rfl rfl rfl]
  obtain ⟨y2, cb2, hj2⟩ := mq_325
  rw [n_call (f := f) (d := d) (ki := 0) (idx := 247) (j' := 325) (kd := 0) (M' := (y2, cb2, 2, some .int, 12, 1, 0, 0)) (avs := [.ref 49, .int (g 12)]) (r := []) (rv := some (.int v)) (hp1 := rH e g' q' c' l') rfl hj rfl rfl rfl rfl (rq_n rfl rfl hj2 rfl rfl) rfl hc (Nat.le_of_ble_eq_true rfl)]
  exact h
set_option maxRecDepth 100000 in
set_option maxHeartbeats 4000000 in
theorem bk_331_98 {b : Bool} {d : Nat} {t0 : Int32} {x1 : Int64} {e : Nat → x_E} {g : Nat → Int32} {q : Nat → Int64} {c : Nat → Nat → Int32} {l : Nat → Nat → Int64} {g' : Nat → Int32} {q' : Nat → Int64} {c' : Nat → Nat → Int32} {l' : Nat → Nat → Int64} {v : Int32} {R : Option Value × List x_E} (hc : rr b e d 326 0 [(0, .int t0)] [] g q c l (some (.int v), rH e g' q' c' l')) (h : rr b e (d + 1) 331 101 [(0, .ref 49), (1, .long x1)] [.int v] g' q' c' l' R) : rr b e (d + 1) 331 98 [(0, .ref 49), (1, .long x1)] [.int t0] g q c l R := by
  obtain ⟨f1, hc⟩ := hc
  obtain ⟨f2, h⟩ := h
  obtain ⟨f, hf1, hf2⟩ : ∃ f, f1 ≤ f ∧ f2 ≤ f := ⟨max f1 f2, Nat.le_max_left _ _, Nat.le_max_right _ _⟩
  have hc := nrun_fuel f1 f _ _ _ _ _ _ _ _ _ hf1 hc
  have h := nrun_fuel f2 f _ _ _ _ _ _ _ _ _ hf2 h
  refine ⟨f + 1, ?_⟩
  obtain ⟨y, cb, hj⟩ := mq_331
  obtain ⟨y2, cb2, hj2⟩ := mq_326
  rw [n_call (f := f) (d := d) (ki := 1) (idx := 276) (j' := 326) (kd := 1) (M' := (y2, cb2, 1, some .boolean, 12, 1, 0, 0)) (avs := [.int t0]) (r := []) (rv := some (.int v)) (hp1 := rH e g' q' c' l') rfl hj rfl rfl rfl rfl (rq_t rfl rfl hj2 rfl) rfl hc (Nat.le_of_ble_eq_true rfl)]
  exact h
set_option maxRecDepth 100000 in
set_option maxHeartbeats 4000000 in
theorem bk_331_101 {b : Bool} {d : Nat} {t0 : Int32} {x1 : Int64} {e : Nat → x_E} {g : Nat → Int32} {q : Nat → Int64} {c : Nat → Nat → Int32} {l : Nat → Nat → Int64} {R : Option Value × List x_E} (h1 : xCn .ne t0 0 = true → rr b e d 331 108 [(0, .ref 49), (1, .long x1)] [] g q c l R) (h2 : ¬ xCn .ne t0 0 = true → rr b e d 331 104 [(0, .ref 49), (1, .long x1)] [] g q c l R) : rr b e d 331 101 [(0, .ref 49), (1, .long x1)] [.int t0] g q c l R := by
  have key : ∀ f, nrun xZ (xY (xfm b)) xDT (f + 1) d 331 101 [(0, .ref 49), (1, .long x1)] [.int t0] (rH e g q c l) 0 0 = nrun xZ (xY (xfm b)) xDT f d 331 (if xCn .ne t0 0 = true then 108 else 104) [(0, .ref 49), (1, .long x1)] [] (rH e g q c l) 0 0 := by
    intro f
    obtain ⟨y, cb, hj⟩ := mq_331
    rw [n_step (st' := []) (pc' := (if xCn .ne t0 0 = true then 108 else 104)) (lv' := [(0, .ref 49), (1, .long x1)]) (hp' := rH e g q c l) (i := .ifCond .ne 7) (len := 3) rfl hj rfl rfl rfl]
  by_cases hc : xCn .ne t0 0 = true
  · obtain ⟨f, h⟩ := h1 hc
    refine ⟨f + 1, ?_⟩
    rw [key, if_pos hc]
    exact h
  · obtain ⟨f, h⟩ := h2 hc
    refine ⟨f + 1, ?_⟩
    rw [key, if_neg hc]
    exact h
set_option maxRecDepth 100000 in
set_option maxHeartbeats 4000000 in
theorem bk_331_104 {b : Bool} {d : Nat} {x1 : Int64} {e : Nat → x_E} {g : Nat → Int32} {q : Nat → Int64} {c : Nat → Nat → Int32} {l : Nat → Nat → Int64} {R : Option Value × List x_E} (h : rr b e d 331 109 [(0, .ref 49), (1, .long x1)] [.int (Int32.ofInt (1))] g q c l R) : rr b e d 331 104 [(0, .ref 49), (1, .long x1)] [] g q c l R := by
  obtain ⟨f, h⟩ := h
  refine ⟨f + 2, ?_⟩
  obtain ⟨y, cb, hj⟩ := mq_331
  rw [n_step (st' := [.int (Int32.ofInt (1))]) (pc' := 105) (lv' := [(0, .ref 49), (1, .long x1)]) (hp' := rH e g q c l) (i := .iconst 1) (len := 1) rfl hj rfl rfl rfl]
  rw [n_step (st' := [.int (Int32.ofInt (1))]) (pc' := 109) (lv' := [(0, .ref 49), (1, .long x1)]) (hp' := rH e g q c l) (i := .goto 4) (len := 3) rfl hj rfl rfl rfl]
  exact h
set_option maxRecDepth 100000 in
set_option maxHeartbeats 4000000 in
theorem bk_331_108 {b : Bool} {d : Nat} {x1 : Int64} {e : Nat → x_E} {g : Nat → Int32} {q : Nat → Int64} {c : Nat → Nat → Int32} {l : Nat → Nat → Int64} {R : Option Value × List x_E} (h : rr b e d 331 109 [(0, .ref 49), (1, .long x1)] [.int (Int32.ofInt (0))] g q c l R) : rr b e d 331 108 [(0, .ref 49), (1, .long x1)] [] g q c l R := by
  obtain ⟨f, h⟩ := h
  refine ⟨f + 1, ?_⟩
  obtain ⟨y, cb, hj⟩ := mq_331
  rw [n_step (st' := [.int (Int32.ofInt (0))]) (pc' := 109) (lv' := [(0, .ref 49), (1, .long x1)]) (hp' := rH e g q c l) (i := .iconst 0) (len := 1) rfl hj rfl rfl rfl]
  exact h
set_option maxRecDepth 100000 in
set_option maxHeartbeats 4000000 in
theorem bk_331_109 {b : Bool} {d : Nat} {t0 : Int32} {x1 : Int64} {e : Nat → x_E} {g : Nat → Int32} {q : Nat → Int64} {c : Nat → Nat → Int32} {l : Nat → Nat → Int64} {R : Option Value × List x_E} (h1 : xCn .eq t0 0 = true → rr b e d 331 120 [(0, .ref 49), (3, .int t0)] [.ref 49] g q c l R) (h2 : ¬ xCn .eq t0 0 = true → rr b e d 331 115 [(0, .ref 49), (1, .long x1), (3, .int t0)] [.ref 49] g q c l R) : rr b e d 331 109 [(0, .ref 49), (1, .long x1)] [.int t0] g q c l R := by
  have key : ∀ f, nrun xZ (xY (xfm b)) xDT (f + 4) d 331 109 [(0, .ref 49), (1, .long x1)] [.int t0] (rH e g q c l) 0 0 = nrun xZ (xY (xfm b)) xDT f d 331 (if xCn .eq t0 0 = true then 120 else 115) [(3, .int t0), (0, .ref 49), (1, .long x1)] [.ref 49] (rH e g q c l) 0 0 := by
    intro f
    obtain ⟨y, cb, hj⟩ := mq_331
    rw [n_step (st' := []) (pc' := 110) (lv' := [(3, .int t0), (0, .ref 49), (1, .long x1)]) (hp' := rH e g q c l) (i := .istore_n 3) (len := 1) rfl hj rfl rfl rfl]
    rw [n_step (st' := [.ref 49]) (pc' := 111) (lv' := [(3, .int t0), (0, .ref 49), (1, .long x1)]) (hp' := rH e g q c l) (i := .aload_n 0) (len := 1) rfl hj rfl rfl rfl]
    rw [n_step (st' := [.int t0, .ref 49]) (pc' := 112) (lv' := [(3, .int t0), (0, .ref 49), (1, .long x1)]) (hp' := rH e g q c l) (i := .iload_n 3) (len := 1) rfl hj rfl rfl rfl]
    rw [n_step (st' := [.ref 49]) (pc' := (if xCn .eq t0 0 = true then 120 else 115)) (lv' := [(3, .int t0), (0, .ref 49), (1, .long x1)]) (hp' := rH e g q c l) (i := .ifCond .eq 8) (len := 3) rfl hj rfl rfl rfl]
  by_cases hc : xCn .eq t0 0 = true
  · obtain ⟨f, h⟩ := h1 hc
    refine ⟨f + 4, ?_⟩
    rw [key, if_pos hc]
    exact nrun_ext f f _ _ R 331 120 [(0, .ref 49), (3, .int t0)] [(3, .int t0), (0, .ref 49), (1, .long x1)] [.ref 49] _ 0 0 122 (Nat.le_refl _) (Nat.le_refl _) (Nat.le_of_ble_eq_true rfl) (lvR_mk [0, 3] [3, 0, 1] rfl rfl (by decide) (by decide) (List.forall_mem_cons.mpr ⟨(List.mem_cons_of_mem _ List.mem_cons_self), (List.forall_mem_cons.mpr ⟨List.mem_cons_self, (fun _ h => nomatch h)⟩)⟩) (List.forall_mem_cons.mpr ⟨Or.inl (List.mem_cons_of_mem _ List.mem_cons_self), (List.forall_mem_cons.mpr ⟨Or.inl List.mem_cons_self, (List.forall_mem_cons.mpr ⟨Or.inr rfl, (fun _ h => nomatch h)⟩)⟩)⟩)) h
  · obtain ⟨f, h⟩ := h2 hc
    refine ⟨f + 4, ?_⟩
    rw [key, if_neg hc]
    exact nrun_ext f f _ _ R 331 115 [(0, .ref 49), (1, .long x1), (3, .int t0)] [(3, .int t0), (0, .ref 49), (1, .long x1)] [.ref 49] _ 0 0 122 (Nat.le_refl _) (Nat.le_refl _) (Nat.le_of_ble_eq_true rfl) (lvR_mk [0, 1, 3] [3, 0, 1] rfl rfl (by decide) (by decide) (List.forall_mem_cons.mpr ⟨(List.mem_cons_of_mem _ List.mem_cons_self), (List.forall_mem_cons.mpr ⟨(List.mem_cons_of_mem _ (List.mem_cons_of_mem _ List.mem_cons_self)), (List.forall_mem_cons.mpr ⟨List.mem_cons_self, (fun _ h => nomatch h)⟩)⟩)⟩) (List.forall_mem_cons.mpr ⟨Or.inl (List.mem_cons_of_mem _ (List.mem_cons_of_mem _ List.mem_cons_self)), (List.forall_mem_cons.mpr ⟨Or.inl List.mem_cons_self, (List.forall_mem_cons.mpr ⟨Or.inl (List.mem_cons_of_mem _ List.mem_cons_self), (fun _ h => nomatch h)⟩)⟩)⟩)) h
set_option maxRecDepth 100000 in
set_option maxHeartbeats 4000000 in
theorem bk_331_115 {b : Bool} {d : Nat} {x3 : Int32} {x1 : Int64} {e : Nat → x_E} {g : Nat → Int32} {q : Nat → Int64} {c : Nat → Nat → Int32} {l : Nat → Nat → Int64} {R : Option Value × List x_E} (h : rr b e d 331 121 [(0, .ref 49), (3, .int x3)] [.int (Int64.toInt32 x1), .ref 49] g q c l R) : rr b e d 331 115 [(0, .ref 49), (1, .long x1), (3, .int x3)] [.ref 49] g q c l R := by
  obtain ⟨f, h⟩ := h
  refine ⟨f + 3, ?_⟩
  obtain ⟨y, cb, hj⟩ := mq_331
  rw [n_step (st' := [.long x1, .ref 49]) (pc' := 116) (lv' := [(0, .ref 49), (1, .long x1), (3, .int x3)]) (hp' := rH e g q c l) (i := .lload_n 1) (len := 1) rfl hj rfl rfl rfl]
  rw [n_step (st' := [.int (Int64.toInt32 x1), .ref 49]) (pc' := 117) (lv' := [(0, .ref 49), (1, .long x1), (3, .int x3)]) (hp' := rH e g q c l) (i := .l2i) (len := 1) rfl hj rfl rfl rfl]
  rw [n_step (st' := [.int (Int64.toInt32 x1), .ref 49]) (pc' := 121) (lv' := [(0, .ref 49), (1, .long x1), (3, .int x3)]) (hp' := rH e g q c l) (i := .goto 4) (len := 3) rfl hj rfl rfl rfl]
  exact nrun_ext f f _ _ R 331 121 [(0, .ref 49), (3, .int x3)] [(0, .ref 49), (1, .long x1), (3, .int x3)] [.int (Int64.toInt32 x1), .ref 49] _ 0 0 122 (Nat.le_refl _) (Nat.le_refl _) (Nat.le_of_ble_eq_true rfl) (lvR_mk [0, 3] [0, 1, 3] rfl rfl (by decide) (by decide) (List.forall_mem_cons.mpr ⟨List.mem_cons_self, (List.forall_mem_cons.mpr ⟨(List.mem_cons_of_mem _ (List.mem_cons_of_mem _ List.mem_cons_self)), (fun _ h => nomatch h)⟩)⟩) (List.forall_mem_cons.mpr ⟨Or.inl List.mem_cons_self, (List.forall_mem_cons.mpr ⟨Or.inr rfl, (List.forall_mem_cons.mpr ⟨Or.inl (List.mem_cons_of_mem _ List.mem_cons_self), (fun _ h => nomatch h)⟩)⟩)⟩)) h
set_option maxRecDepth 100000 in
set_option maxHeartbeats 4000000 in
theorem bk_331_120 {b : Bool} {d : Nat} {x3 : Int32} {e : Nat → x_E} {g : Nat → Int32} {q : Nat → Int64} {c : Nat → Nat → Int32} {l : Nat → Nat → Int64} {R : Option Value × List x_E} (h : rr b e d 331 121 [(0, .ref 49), (3, .int x3)] [.int (Int32.ofInt (0)), .ref 49] g q c l R) : rr b e d 331 120 [(0, .ref 49), (3, .int x3)] [.ref 49] g q c l R := by
  obtain ⟨f, h⟩ := h
  refine ⟨f + 1, ?_⟩
  obtain ⟨y, cb, hj⟩ := mq_331
  rw [n_step (st' := [.int (Int32.ofInt (0)), .ref 49]) (pc' := 121) (lv' := [(0, .ref 49), (3, .int x3)]) (hp' := rH e g q c l) (i := .iconst 0) (len := 1) rfl hj rfl rfl rfl]
  exact h
set_option maxRecDepth 100000 in
set_option maxHeartbeats 4000000 in
theorem bk_331_121 {b : Bool} {d : Nat} {t0 x3 : Int32} {e : Nat → x_E} {g : Nat → Int32} {q : Nat → Int64} {c : Nat → Nat → Int32} {l : Nat → Nat → Int64} {R : Option Value × List x_E} (h1 : xCn .eq x3 0 = true → rr b e d 331 133 [] [.ref 49] (upd g 14 t0) q c l R) (h2 : ¬ xCn .eq x3 0 = true → rr b e d 331 129 [] [.ref 49] (upd g 14 t0) q c l R) : rr b e d 331 121 [(0, .ref 49), (3, .int x3)] [.int t0, .ref 49] g q c l R := by
  have key : ∀ f, nrun xZ (xY (xfm b)) xDT (f + 4) d 331 121 [(0, .ref 49), (3, .int x3)] [.int t0, .ref 49] (rH e g q c l) 0 0 = nrun xZ (xY (xfm b)) xDT f d 331 (if xCn .eq x3 0 = true then 133 else 129) [(0, .ref 49), (3, .int x3)] [.ref 49] (rH e (upd g 14 t0) q c l) 0 0 := by
    intro f
    obtain ⟨y, cb, hj⟩ := mq_331
    rw [n_put (st' := []) (hp' := rH e (upd g 14 t0) q c l) rfl hj pf_14]
    rw [n_step (st' := [.ref 49]) (pc' := 125) (lv' := [(0, .ref 49), (3, .int x3)]) (hp' := rH e (upd g 14 t0) q c l) (i := .aload_n 0) (len := 1) rfl hj rfl rfl rfl]
    rw [n_step (st' := [.int x3, .ref 49]) (pc' := 126) (lv' := [(0, .ref 49), (3, .int x3)]) (hp' := rH e (upd g 14 t0) q c l) (i := .iload_n 3) (len := 1) rfl hj rfl rfl rfl]
    rw [n_step (st' := [.ref 49]) (pc' := (if xCn .eq x3 0 = true then 133 else 129)) (lv' := [(0, .ref 49), (3, .int x3)]) (hp' := rH e (upd g 14 t0) q c l) (i := .ifCond .eq 7) (len := 3) rfl hj rfl rfl rfl]
  by_cases hc : xCn .eq x3 0 = true
  · obtain ⟨f, h⟩ := h1 hc
    refine ⟨f + 4, ?_⟩
    rw [key, if_pos hc]
    exact nrun_ext f f _ _ R 331 133 [] [(0, .ref 49), (3, .int x3)] [.ref 49] _ 0 0 122 (Nat.le_refl _) (Nat.le_refl _) (Nat.le_of_ble_eq_true rfl) (lvR_mk [] [0, 3] rfl rfl (by decide) (by decide) (fun _ h => nomatch h) (List.forall_mem_cons.mpr ⟨Or.inr rfl, (List.forall_mem_cons.mpr ⟨Or.inr rfl, (fun _ h => nomatch h)⟩)⟩)) h
  · obtain ⟨f, h⟩ := h2 hc
    refine ⟨f + 4, ?_⟩
    rw [key, if_neg hc]
    exact nrun_ext f f _ _ R 331 129 [] [(0, .ref 49), (3, .int x3)] [.ref 49] _ 0 0 122 (Nat.le_refl _) (Nat.le_refl _) (Nat.le_of_ble_eq_true rfl) (lvR_mk [] [0, 3] rfl rfl (by decide) (by decide) (fun _ h => nomatch h) (List.forall_mem_cons.mpr ⟨Or.inr rfl, (List.forall_mem_cons.mpr ⟨Or.inr rfl, (fun _ h => nomatch h)⟩)⟩)) h
set_option maxRecDepth 100000 in
set_option maxHeartbeats 4000000 in
theorem bk_331_129 {b : Bool} {d : Nat} {e : Nat → x_E} {g : Nat → Int32} {q : Nat → Int64} {c : Nat → Nat → Int32} {l : Nat → Nat → Int64} {R : Option Value × List x_E} (h : rr b e d 331 135 [] [.int (Int32.ofInt (2)), .ref 49] g q c l R) : rr b e d 331 129 [] [.ref 49] g q c l R := by
  obtain ⟨f, h⟩ := h
  refine ⟨f + 2, ?_⟩
  obtain ⟨y, cb, hj⟩ := mq_331
  rw [n_step (st' := [.int (Int32.ofInt (2)), .ref 49]) (pc' := 130) (lv' := []) (hp' := rH e g q c l) (i := .iconst 2) (len := 1) rfl hj rfl rfl rfl]
  rw [n_step (st' := [.int (Int32.ofInt (2)), .ref 49]) (pc' := 135) (lv' := []) (hp' := rH e g q c l) (i := .goto 5) (len := 3) rfl hj rfl rfl rfl]
  exact h
set_option maxRecDepth 100000 in
set_option maxHeartbeats 4000000 in
theorem bk_331_133 {b : Bool} {d : Nat} {e : Nat → x_E} {g : Nat → Int32} {q : Nat → Int64} {c : Nat → Nat → Int32} {l : Nat → Nat → Int64} {R : Option Value × List x_E} (h : rr b e d 331 135 [] [.int (Int8.ofInt (6)).toInt32, .ref 49] g q c l R) : rr b e d 331 133 [] [.ref 49] g q c l R := by
  obtain ⟨f, h⟩ := h
  refine ⟨f + 1, ?_⟩
  obtain ⟨y, cb, hj⟩ := mq_331
  rw [n_step (st' := [.int (Int8.ofInt (6)).toInt32, .ref 49]) (pc' := 135) (lv' := []) (hp' := rH e g q c l) (i := .bipush 6) (len := 2) rfl hj rfl rfl rfl]
  exact h
set_option maxRecDepth 100000 in
set_option maxHeartbeats 4000000 in
theorem bk_331_135 {b : Bool} {d : Nat} {t0 : Int32} {e : Nat → x_E} {g : Nat → Int32} {q : Nat → Int64} {c : Nat → Nat → Int32} {l : Nat → Nat → Int64} : rr b e d 331 135 [] [.int t0, .ref 49] g q c l (none, rH e (upd g 10 t0) q c l) := by
  refine ⟨0 + 2, ?_⟩
  obtain ⟨y, cb, hj⟩ := mq_331
  rw [n_put (st' := []) (hp' := rH e (upd g 10 t0) q c l) rfl hj pf_10]
  exact n_ret rfl hj rfl rfl rfl
set_option maxRecDepth 100000 in
set_option maxHeartbeats 4000000 in
theorem bk_332_0 {b : Bool} {d : Nat} {x1 : Int32} {e : Nat → x_E} {g : Nat → Int32} {q : Nat → Int64} {c : Nat → Nat → Int32} {l : Nat → Nat → Int64} {R : Option Value × List x_E} (h1 : xCn .ne x1 ((Int8.ofInt (45)).toInt32) = true → rr b e d 332 52 [(0, .ref 49), (1, .int x1)] [] (upd (upd g 13 x1) 12 ((((upd g 13 x1) 11) + (Int32.ofInt (1))))) q c l R) (h2 : ¬ xCn .ne x1 ((Int8.ofInt (45)).toInt32) = true → rr b e d 332 21 [(0, .ref 49), (1, .int x1)] [] (upd (upd g 13 x1) 12 ((((upd g 13 x1) 11) + (Int32.ofInt (1))))) q c l R) : rr b e d 332 0 [(0, .ref 49), (1, .int x1)] [] g q c l R := by
  have key : ∀ f, nrun xZ (xY (xfm b)) xDT (f + 12) d 332 0 [(0, .ref 49), (1, .int x1)] [] (rH e g q c l) 0 0 = nrun xZ (xY (xfm b)) xDT f d 332 (if xCn .ne x1 ((Int8.ofInt (45)).toInt32) = true then 52 else 21) [(0, .ref 49), (1, .int x1)] [] (rH e (upd (upd g 13 x1) 12 ((((upd g 13 x1) 11) + (Int32.ofInt (1))))) q c l) 0 0 := by
    intro f
    obtain ⟨y, cb, hj⟩ := mq_332
    rw [n_step (st' := [.ref 49]) (pc' := 1) (lv' := [(0, .ref 49), (1, .int x1)]) (hp' := rH e g q c l) (i := .aload_n 0) (len := 1) rfl hj rfl rfl rfl]
    rw [n_step (st' := [.int x1, .ref 49]) (pc' := 2) (lv' := [(0, .ref 49), (1, .int x1)]) (hp' := rH e g q c l) (i := .iload_n 1) (len := 1) rfl hj rfl rfl rfl]
    rw [n_put (st' := []) (hp' := rH e (upd g 13 x1) q c l) rfl hj pf_13]
    rw [n_step (st' := [.ref 49]) (pc' := 6) (lv' := [(0, .ref 49), (1, .int x1)]) (hp' := rH e (upd g 13 x1) q c l) (i := .aload_n 0) (len := 1) rfl hj rfl rfl rfl]
    rw [n_step (st' := [.ref 49, .ref 49]) (pc' := 7) (lv' := [(0, .ref 49), (1, .int x1)]) (hp' := rH e (upd g 13 x1) q c l) (i := .aload_n 0) (len := 1) rfl hj rfl rfl rfl]
    rw [n_get (st' := [.int ((upd g 13 x1) 11), .ref 49]) (pc' := 10) (lv' := [(0, .ref 49), (1, .int x1)]) (hp' := rH e (upd g 13 x1) q c l) (i := .getfield 257) (len := 3) rfl hj rfl rfl rfl rfl]
    rw [n_step (st' := [.int (Int32.ofInt (1)), .int ((upd g 13 x1) 11), .ref 49]) (pc' := 11) (lv' := [(0, .ref 49), (1, .int x1)]) (hp' := rH e (upd g 13 x1) q c l) (i := .iconst 1) (len := 1) rfl hj rfl rfl rfl]
    rw [n_step (st' := [.int (((upd g 13 x1) 11) + (Int32.ofInt (1))), .ref 49]) (pc' := 12) (lv' := [(0, .ref 49), (1, .int x1)]) (hp' := rH e (upd g 13 x1) q c l) (i := .iadd) (len := 1) rfl hj rfl rfl rfl]
    rw [n_put (st' := []) (hp' := rH e (upd (upd g 13 x1) 12 ((((upd g 13 x1) 11) + (Int32.ofInt (1))))) q c l) rfl hj pf_12]
    rw [n_step (st' := [.int x1]) (pc' := 16) (lv' := [(0, .ref 49), (1, .int x1)]) (hp' := rH e (upd (upd g 13 x1) 12 ((((upd g 13 x1) 11) + (Int32.ofInt (1))))) q c l) (i := .iload_n 1) (len := 1) rfl hj rfl rfl rfl]
    rw [n_step (st' := [.int (Int8.ofInt (45)).toInt32, .int x1]) (pc' := 18) (lv' := [(0, .ref 49), (1, .int x1)]) (hp' := rH e (upd (upd g 13 x1) 12 ((((upd g 13 x1) 11) + (Int32.ofInt (1))))) q c l) (i := .bipush 45) (len := 2) rfl hj rfl rfl rfl]
    rw [n_step (st' := []) (pc' := (if xCn .ne x1 ((Int8.ofInt (45)).toInt32) = true then 52 else 21)) (lv' := [(0, .ref 49), (1, .int x1)]) (hp' := rH e (upd (upd g 13 x1) 12 ((((upd g 13 x1) 11) + (Int32.ofInt (1))))) q c l) (i := .if_icmp .ne 34) (len := 3) rfl hj rfl rfl rfl]
  by_cases hc : xCn .ne x1 ((Int8.ofInt (45)).toInt32) = true
  · obtain ⟨f, h⟩ := h1 hc
    refine ⟨f + 12, ?_⟩
    rw [key, if_pos hc]
    exact h
  · obtain ⟨f, h⟩ := h2 hc
    refine ⟨f + 12, ?_⟩
    rw [key, if_neg hc]
    exact h
set_option maxRecDepth 100000 in
set_option maxHeartbeats 4000000 in
theorem bk_332_21 {b : Bool} {d : Nat} {x1 : Int32} {e : Nat → x_E} {g : Nat → Int32} {q : Nat → Int64} {c : Nat → Nat → Int32} {l : Nat → Nat → Int64} {g' : Nat → Int32} {q' : Nat → Int64} {c' : Nat → Nat → Int32} {l' : Nat → Nat → Int64} {v : Int32} {R : Option Value × List x_E} (hc : rr b e d 325 0 [(0, .ref 49), (1, .int ((g 11) + (Int32.ofInt (1))))] [] g q c l (some (.int v), rH e g' q' c' l')) (h : rr b e (d + 1) 332 31 [(0, .ref 49), (1, .int x1)] [.int v] g' q' c' l' R) : rr b e (d + 1) 332 21 [(0, .ref 49), (1, .int x1)] [] g q c l R := by
  obtain ⟨f1, hc⟩ := hc
  obtain ⟨f2, h⟩ := h
  obtain ⟨f, hf1, hf2⟩ : ∃ f, f1 ≤ f ∧ f2 ≤ f := ⟨max f1 f2, Nat.le_max_left _ _, Nat.le_max_right _ _⟩
  have hc := nrun_fuel f1 f _ _ _ _ _ _ _ _ _ hf1 hc
  have h := nrun_fuel f2 f _ _ _ _ _ _ _ _ _ hf2 h
  refine ⟨f + 6, ?_⟩
  obtain ⟨y, cb, hj⟩ := mq_332
  rw [n_step (st' := [.ref 49]) (pc' := 22) (lv' := [(0, .ref 49), (1, .int x1)]) (hp' := rH e g q c l) (i := .aload_n 0) (len := 1) rfl hj rfl rfl rfl]
  rw [n_step (st' := [.ref 49, .ref 49]) (pc' := 23) (lv' := [(0, .ref 49), (1, .int x1)]) (hp' := rH e g q c l) (i := .aload_n 0) (len := 1) rfl hj rfl rfl rfl]
  rw [n_get (st' := [.int (g 11), .ref 49]) (pc' := 26) (lv' := [(0, .ref 49), (1, .int x1)]) (hp' := rH e g q c l) (i := .getfield 257) (len := 3) rfl hj rfl rfl rfl rfl]
  rw [n_step (st' := [.int (Int32.ofInt (1)), .int (g 11), .ref 49]) (pc' := 27) (lv' := [(0, .ref 49), (1, .int x1)]) (hp' := rH e g q c l) (i := .iconst 1) (len := 1) rfl hj rfl rfl rfl]
  rw [n_step (st' := [.int ((g 11) + (Int32.ofInt (1))), .ref 49]) (pc' := 28) (lv' := [(0, .ref 49), (1, .int x1)]) (hp' := rH e g q c l) (i := .iadd) (len := 1) rfl hj rfl rfl rfl]
  obtain ⟨y2, cb2, hj2⟩ := mq_325
  rw [n_call (f := f) (d := d) (ki := 0) (idx := 247) (j' := 325) (kd := 0) (M' := (y2, cb2, 2, some .int, 12, 1, 0, 0)) (avs := [.ref 49, .int ((g 11) + (Int32.ofInt (1)))]) (r := []) (rv := some (.int v)) (hp1 := rH e g' q' c' l') rfl hj rfl rfl rfl rfl (rq_n rfl rfl hj2 rfl rfl) rfl hc (Nat.le_of_ble_eq_true rfl)]
  exact h
set_option maxRecDepth 100000 in
set_option maxHeartbeats 4000000 in
theorem bk_332_31 {b : Bool} {d : Nat} {t0 x1 : Int32} {e : Nat → x_E} {g : Nat → Int32} {q : Nat → Int64} {c : Nat → Nat → Int32} {l : Nat → Nat → Int64} {R : Option Value × List x_E} (h1 : xCn .ne t0 ((Int8.ofInt (62)).toInt32) = true → rr b e d 332 52 [(0, .ref 49), (1, .int x1)] [] g q c l R) (h2 : ¬ xCn .ne t0 ((Int8.ofInt (62)).toInt32) = true → rr b e d 332 36 [(0, .ref 49), (1, .int x1)] [] g q c l R) : rr b e d 332 31 [(0, .ref 49), (1, .int x1)] [.int t0] g q c l R := by
  have key : ∀ f, nrun xZ (xY (xfm b)) xDT (f + 2) d 332 31 [(0, .ref 49), (1, .int x1)] [.int t0] (rH e g q c l) 0 0 = nrun xZ (xY (xfm b)) xDT f d 332 (if xCn .ne t0 ((Int8.ofInt (62)).toInt32) = true then 52 else 36) [(0, .ref 49), (1, .int x1)] [] (rH e g q c l) 0 0 := by
    intro f
    obtain ⟨y, cb, hj⟩ := mq_332
    rw [n_step (st' := [.int (Int8.ofInt (62)).toInt32, .int t0]) (pc' := 33) (lv' := [(0, .ref 49), (1, .int x1)]) (hp' := rH e g q c l) (i := .bipush 62) (len := 2) rfl hj rfl rfl rfl]
    rw [n_step (st' := []) (pc' := (if xCn .ne t0 ((Int8.ofInt (62)).toInt32) = true then 52 else 36)) (lv' := [(0, .ref 49), (1, .int x1)]) (hp' := rH e g q c l) (i := .if_icmp .ne 19) (len := 3) rfl hj rfl rfl rfl]
  by_cases hc : xCn .ne t0 ((Int8.ofInt (62)).toInt32) = true
  · obtain ⟨f, h⟩ := h1 hc
    refine ⟨f + 2, ?_⟩
    rw [key, if_pos hc]
    exact h
  · obtain ⟨f, h⟩ := h2 hc
    refine ⟨f + 2, ?_⟩
    rw [key, if_neg hc]
    exact h
set_option maxRecDepth 100000 in
set_option maxHeartbeats 4000000 in
theorem bk_332_36 {b : Bool} {d : Nat} {x1 : Int32} {e : Nat → x_E} {g : Nat → Int32} {q : Nat → Int64} {c : Nat → Nat → Int32} {l : Nat → Nat → Int64} {R : Option Value × List x_E} (h : rr b e d 332 52 [(0, .ref 49), (1, .int x1)] [] (upd (upd g 13 ((Int8.ofInt (97)).toInt32)) 12 ((((upd g 13 ((Int8.ofInt (97)).toInt32)) 11) + (Int32.ofInt (2))))) q c l R) : rr b e d 332 36 [(0, .ref 49), (1, .int x1)] [] g q c l R := by
  obtain ⟨f, h⟩ := h
  refine ⟨f + 9, ?_⟩
  obtain ⟨y, cb, hj⟩ := mq_332
  rw [n_step (st' := [.ref 49]) (pc' := 37) (lv' := [(0, .ref 49), (1, .int x1)]) (hp' := rH e g q c l) (i := .aload_n 0) (len := 1) rfl hj rfl rfl rfl]
  rw [n_step (st' := [.int (Int8.ofInt (97)).toInt32, .ref 49]) (pc' := 39) (lv' := [(0, .ref 49), (1, .int x1)]) (hp' := rH e g q c l) (i := .bipush 97) (len := 2) rfl hj rfl rfl rfl]
  rw [n_put (st' := []) (hp' := rH e (upd g 13 ((Int8.ofInt (97)).toInt32)) q c l) rfl hj pf_13]
  rw [n_step (st' := [.ref 49]) (pc' := 43) (lv' := [(0, .ref 49), (1, .int x1)]) (hp' := rH e (upd g 13 ((Int8.ofInt (97)).toInt32)) q c l) (i := .aload_n 0) (len := 1) rfl hj rfl rfl rfl]
  rw [n_step (st' := [.ref 49, .ref 49]) (pc' := 44) (lv' := [(0, .ref 49), (1, .int x1)]) (hp' := rH e (upd g 13 ((Int8.ofInt (97)).toInt32)) q c l) (i := .aload_n 0) (len := 1) rfl hj rfl rfl rfl]
  rw [n_get (st' := [.int ((upd g 13 ((Int8.ofInt (97)).toInt32)) 11), .ref 49]) (pc' := 47) (lv' := [(0, .ref 49), (1, .int x1)]) (hp' := rH e (upd g 13 ((Int8.ofInt (97)).toInt32)) q c l) (i := .getfield 257) (len := 3) rfl hj rfl rfl rfl rfl]
  rw [n_step (st' := [.int (Int32.ofInt (2)), .int ((upd g 13 ((Int8.ofInt (97)).toInt32)) 11), .ref 49]) (pc' := 48) (lv' := [(0, .ref 49), (1, .int x1)]) (hp' := rH e (upd g 13 ((Int8.ofInt (97)).toInt32)) q c l) (i := .iconst 2) (len := 1) rfl hj rfl rfl rfl]
  rw [n_step (st' := [.int (((upd g 13 ((Int8.ofInt (97)).toInt32)) 11) + (Int32.ofInt (2))), .ref 49]) (pc' := 49) (lv' := [(0, .ref 49), (1, .int x1)]) (hp' := rH e (upd g 13 ((Int8.ofInt (97)).toInt32)) q c l) (i := .iadd) (len := 1) rfl hj rfl rfl rfl]
  rw [n_put (st' := []) (hp' := rH e (upd (upd g 13 ((Int8.ofInt (97)).toInt32)) 12 ((((upd g 13 ((Int8.ofInt (97)).toInt32)) 11) + (Int32.ofInt (2))))) q c l) rfl hj pf_12]
  exact h
set_option maxRecDepth 100000 in
set_option maxHeartbeats 4000000 in
theorem bk_332_52 {b : Bool} {d : Nat} {x1 : Int32} {e : Nat → x_E} {g : Nat → Int32} {q : Nat → Int64} {c : Nat → Nat → Int32} {l : Nat → Nat → Int64} {R : Option Value × List x_E} (h : rr b e d 332 56 [(0, .ref 49), (1, .int x1), (2, .int (Int32.ofInt (0))), (3, .int (Int32.ofInt (0)))] [] g q c l R) : rr b e d 332 52 [(0, .ref 49), (1, .int x1)] [] g q c l R := by
  obtain ⟨f, h⟩ := h
  refine ⟨f + 4, ?_⟩
  obtain ⟨y, cb, hj⟩ := mq_332
  rw [n_step (st' := [.int (Int32.ofInt (0))]) (pc' := 53) (lv' := [(0, .ref 49), (1, .int x1)]) (hp' := rH e g q c l) (i := .iconst 0) (len := 1) rfl hj rfl rfl rfl]
  rw [n_step (st' := []) (pc' := 54) (lv' := [(2, .int (Int32.ofInt (0))), (0, .ref 49), (1, .int x1)]) (hp' := rH e g q c l) (i := .istore_n 2) (len := 1) rfl hj rfl rfl rfl]
  rw [n_step (st' := [.int (Int32.ofInt (0))]) (pc' := 55) (lv' := [(2, .int (Int32.ofInt (0))), (0, .ref 49), (1, .int x1)]) (hp' := rH e g q c l) (i := .iconst 0) (len := 1) rfl hj rfl rfl rfl]
  rw [n_step (st' := []) (pc' := 56) (lv' := [(3, .int (Int32.ofInt (0))), (2, .int (Int32.ofInt (0))), (0, .ref 49), (1, .int x1)]) (hp' := rH e g q c l) (i := .istore_n 3) (len := 1) rfl hj rfl rfl rfl]
  exact nrun_ext f f _ _ R 332 56 [(0, .ref 49), (1, .int x1), (2, .int (Int32.ofInt (0))), (3, .int (Int32.ofInt (0)))] [(3, .int (Int32.ofInt (0))), (2, .int (Int32.ofInt (0))), (0, .ref 49), (1, .int x1)] [] _ 0 0 122 (Nat.le_refl _) (Nat.le_refl _) (Nat.le_of_ble_eq_true rfl) (lvR_mk [0, 1, 2, 3] [3, 2, 0, 1] rfl rfl (by decide) (by decide) (List.forall_mem_cons.mpr ⟨(List.mem_cons_of_mem _ (List.mem_cons_of_mem _ List.mem_cons_self)), (List.forall_mem_cons.mpr ⟨(List.mem_cons_of_mem _ (List.mem_cons_of_mem _ (List.mem_cons_of_mem _ List.mem_cons_self))), (List.forall_mem_cons.mpr ⟨(List.mem_cons_of_mem _ List.mem_cons_self), (List.forall_mem_cons.mpr ⟨List.mem_cons_self, (fun _ h => nomatch h)⟩)⟩)⟩)⟩) (List.forall_mem_cons.mpr ⟨Or.inl (List.mem_cons_of_mem _ (List.mem_cons_of_mem _ (List.mem_cons_of_mem _ List.mem_cons_self))), (List.forall_mem_cons.mpr ⟨Or.inl (List.mem_cons_of_mem _ (List.mem_cons_of_mem _ List.mem_cons_self)), (List.forall_mem_cons.mpr ⟨Or.inl List.mem_cons_self, (List.forall_mem_cons.mpr ⟨Or.inl (List.mem_cons_of_mem _ List.mem_cons_self), (fun _ h => nomatch h)⟩)⟩)⟩)⟩)) h
set_option maxRecDepth 100000 in
set_option maxHeartbeats 4000000 in
theorem bk_332_56 {b : Bool} {d : Nat} {x1 x2 x3 : Int32} {e : Nat → x_E} {g : Nat → Int32} {q : Nat → Int64} {c : Nat → Nat → Int32} {l : Nat → Nat → Int64} {R : Option Value × List x_E} (h1 : xCn .ge x3 ((Int32.ofNat 18)) = true → rr b e d 332 91 [(0, .ref 49), (2, .int x2)] [] g q c l R) (h2 : ¬ xCn .ge x3 ((Int32.ofNat 18)) = true → rr b e d 332 65 [(0, .ref 49), (1, .int x1), (2, .int x2), (3, .int x3)] [] g q c l R) : rr b e d 332 56 [(0, .ref 49), (1, .int x1), (2, .int x2), (3, .int x3)] [] g q c l R := by
  have key : ∀ f, nrun xZ (xY (xfm b)) xDT (f + 5) d 332 56 [(0, .ref 49), (1, .int x1), (2, .int x2), (3, .int x3)] [] (rH e g q c l) 0 0 = nrun xZ (xY (xfm b)) xDT f d 332 (if xCn .ge x3 ((Int32.ofNat 18)) = true then 91 else 65) [(0, .ref 49), (1, .int x1), (2, .int x2), (3, .int x3)] [] (rH e g q c l) 0 0 := by
    intro f
    obtain ⟨y, cb, hj⟩ := mq_332
    rw [n_step (st' := [.int x3]) (pc' := 57) (lv' := [(0, .ref 49), (1, .int x1), (2, .int x2), (3, .int x3)]) (hp' := rH e g q c l) (i := .iload_n 3) (len := 1) rfl hj rfl rfl rfl]
    rw [n_step (st' := [.ref 49, .int x3]) (pc' := 58) (lv' := [(0, .ref 49), (1, .int x1), (2, .int x2), (3, .int x3)]) (hp' := rH e g q c l) (i := .aload_n 0) (len := 1) rfl hj rfl rfl rfl]
    rw [n_get (st' := [.ref 54, .int x3]) (pc' := 61) (lv' := [(0, .ref 49), (1, .int x1), (2, .int x2), (3, .int x3)]) (hp' := rH e g q c l) (i := .getfield 27) (len := 3) rfl hj rfl rfl rfl rfl]
    rw [n_get (st' := [.int (Int32.ofNat 18), .int x3]) (pc' := 62) (lv' := [(0, .ref 49), (1, .int x1), (2, .int x2), (3, .int x3)]) (hp' := rH e g q c l) (i := .arraylength) (len := 1) rfl hj rfl rfl rfl rfl]
    rw [n_step (st' := []) (pc' := (if xCn .ge x3 ((Int32.ofNat 18)) = true then 91 else 65)) (lv' := [(0, .ref 49), (1, .int x1), (2, .int x2), (3, .int x3)]) (hp' := rH e g q c l) (i := .if_icmp .ge 29) (len := 3) rfl hj rfl rfl rfl]
  by_cases hc : xCn .ge x3 ((Int32.ofNat 18)) = true
  · obtain ⟨f, h⟩ := h1 hc
    refine ⟨f + 5, ?_⟩
    rw [key, if_pos hc]
    exact nrun_ext f f _ _ R 332 91 [(0, .ref 49), (2, .int x2)] [(0, .ref 49), (1, .int x1), (2, .int x2), (3, .int x3)] [] _ 0 0 122 (Nat.le_refl _) (Nat.le_refl _) (Nat.le_of_ble_eq_true rfl) (lvR_mk [0, 2] [0, 1, 2, 3] rfl rfl (by decide) (by decide) (List.forall_mem_cons.mpr ⟨List.mem_cons_self, (List.forall_mem_cons.mpr ⟨(List.mem_cons_of_mem _ (List.mem_cons_of_mem _ List.mem_cons_self)), (fun _ h => nomatch h)⟩)⟩) (List.forall_mem_cons.mpr ⟨Or.inl List.mem_cons_self, (List.forall_mem_cons.mpr ⟨Or.inr rfl, (List.forall_mem_cons.mpr ⟨Or.inl (List.mem_cons_of_mem _ List.mem_cons_self), (List.forall_mem_cons.mpr ⟨Or.inr rfl, (fun _ h => nomatch h)⟩)⟩)⟩)⟩)) h
  · obtain ⟨f, h⟩ := h2 hc
    refine ⟨f + 5, ?_⟩
    rw [key, if_neg hc]
    exact h
set_option maxRecDepth 100000 in
set_option maxHeartbeats 4000000 in
theorem bk_332_65 {b : Bool} {d : Nat} {x1 x2 x3 : Int32} {e : Nat → x_E} {g : Nat → Int32} {q : Nat → Int64} {c : Nat → Nat → Int32} {l : Nat → Nat → Int64} {R : Option Value × List x_E} (h1 : xCn .ne x2 0 = true → rr b e d 332 79 [(0, .ref 49), (1, .int x1), (3, .int x3)] [] g q c l R) (h2 : ¬ xCn .ne x2 0 = true → rr b e d 332 69 [(0, .ref 49), (1, .int x1), (3, .int x3)] [] g q c l R) : rr b e d 332 65 [(0, .ref 49), (1, .int x1), (2, .int x2), (3, .int x3)] [] g q c l R := by
  have key : ∀ f, nrun xZ (xY (xfm b)) xDT (f + 2) d 332 65 [(0, .ref 49), (1, .int x1), (2, .int x2), (3, .int x3)] [] (rH e g q c l) 0 0 = nrun xZ (xY (xfm b)) xDT f d 332 (if xCn .ne x2 0 = true then 79 else 69) [(0, .ref 49), (1, .int x1), (2, .int x2), (3, .int x3)] [] (rH e g q c l) 0 0 := by
    intro f
    obtain ⟨y, cb, hj⟩ := mq_332
    rw [n_step (st' := [.int x2]) (pc' := 66) (lv' := [(0, .ref 49), (1, .int x1), (2, .int x2), (3, .int x3)]) (hp' := rH e g q c l) (i := .iload_n 2) (len := 1) rfl hj rfl rfl rfl]
    rw [n_step (st' := []) (pc' := (if xCn .ne x2 0 = true then 79 else 69)) (lv' := [(0, .ref 49), (1, .int x1), (2, .int x2), (3, .int x3)]) (hp' := rH e g q c l) (i := .ifCond .ne 13) (len := 3) rfl hj rfl rfl rfl]
  by_cases hc : xCn .ne x2 0 = true
  · obtain ⟨f, h⟩ := h1 hc
    refine ⟨f + 2, ?_⟩
    rw [key, if_pos hc]
    exact nrun_ext f f _ _ R 332 79 [(0, .ref 49), (1, .int x1), (3, .int x3)] [(0, .ref 49), (1, .int x1), (2, .int x2), (3, .int x3)] [] _ 0 0 122 (Nat.le_refl _) (Nat.le_refl _) (Nat.le_of_ble_eq_true rfl) (lvR_mk [0, 1, 3] [0, 1, 2, 3] rfl rfl (by decide) (by decide) (List.forall_mem_cons.mpr ⟨List.mem_cons_self, (List.forall_mem_cons.mpr ⟨(List.mem_cons_of_mem _ List.mem_cons_self), (List.forall_mem_cons.mpr ⟨(List.mem_cons_of_mem _ (List.mem_cons_of_mem _ (List.mem_cons_of_mem _ List.mem_cons_self))), (fun _ h => nomatch h)⟩)⟩)⟩) (List.forall_mem_cons.mpr ⟨Or.inl List.mem_cons_self, (List.forall_mem_cons.mpr ⟨Or.inl (List.mem_cons_of_mem _ List.mem_cons_self), (List.forall_mem_cons.mpr ⟨Or.inr rfl, (List.forall_mem_cons.mpr ⟨Or.inl (List.mem_cons_of_mem _ (List.mem_cons_of_mem _ List.mem_cons_self)), (fun _ h => nomatch h)⟩)⟩)⟩)⟩)) h
  · obtain ⟨f, h⟩ := h2 hc
    refine ⟨f + 2, ?_⟩
    rw [key, if_neg hc]
    exact nrun_ext f f _ _ R 332 69 [(0, .ref 49), (1, .int x1), (3, .int x3)] [(0, .ref 49), (1, .int x1), (2, .int x2), (3, .int x3)] [] _ 0 0 122 (Nat.le_refl _) (Nat.le_refl _) (Nat.le_of_ble_eq_true rfl) (lvR_mk [0, 1, 3] [0, 1, 2, 3] rfl rfl (by decide) (by decide) (List.forall_mem_cons.mpr ⟨List.mem_cons_self, (List.forall_mem_cons.mpr ⟨(List.mem_cons_of_mem _ List.mem_cons_self), (List.forall_mem_cons.mpr ⟨(List.mem_cons_of_mem _ (List.mem_cons_of_mem _ (List.mem_cons_of_mem _ List.mem_cons_self))), (fun _ h => nomatch h)⟩)⟩)⟩) (List.forall_mem_cons.mpr ⟨Or.inl List.mem_cons_self, (List.forall_mem_cons.mpr ⟨Or.inl (List.mem_cons_of_mem _ List.mem_cons_self), (List.forall_mem_cons.mpr ⟨Or.inr rfl, (List.forall_mem_cons.mpr ⟨Or.inl (List.mem_cons_of_mem _ (List.mem_cons_of_mem _ List.mem_cons_self)), (fun _ h => nomatch h)⟩)⟩)⟩)⟩)) h
set_option maxRecDepth 100000 in
set_option maxHeartbeats 4000000 in
theorem bk_332_69 {b : Bool} {d : Nat} {x1 x3 : Int32} {e : Nat → x_E} {g : Nat → Int32} {q : Nat → Int64} {c : Nat → Nat → Int32} {l : Nat → Nat → Int64} {R : Option Value × List x_E} (hz0 : ¬ (x3 < 0 ∨ 18 ≤ (x3).toNatClampNeg)) (h1 : xCn .ne ((c 54 (x3).toNatClampNeg)) x1 = true → rr b e d 332 83 [(0, .ref 49), (1, .int x1), (3, .int x3)] [] g q c l R) (h2 : ¬ xCn .ne ((c 54 (x3).toNatClampNeg)) x1 = true → rr b e d 332 79 [(0, .ref 49), (1, .int x1), (3, .int x3)] [] g q c l R) : rr b e d 332 69 [(0, .ref 49), (1, .int x1), (3, .int x3)] [] g q c l R := by
  have key : ∀ f, nrun xZ (xY (xfm b)) xDT (f + 6) d 332 69 [(0, .ref 49), (1, .int x1), (3, .int x3)] [] (rH e g q c l) 0 0 = nrun xZ (xY (xfm b)) xDT f d 332 (if xCn .ne ((c 54 (x3).toNatClampNeg)) x1 = true then 83 else 79) [(0, .ref 49), (1, .int x1), (3, .int x3)] [] (rH e g q c l) 0 0 := by
    intro f
    obtain ⟨y, cb, hj⟩ := mq_332
    rw [n_step (st' := [.ref 49]) (pc' := 70) (lv' := [(0, .ref 49), (1, .int x1), (3, .int x3)]) (hp' := rH e g q c l) (i := .aload_n 0) (len := 1) rfl hj rfl rfl rfl]
    rw [n_get (st' := [.ref 54]) (pc' := 73) (lv' := [(0, .ref 49), (1, .int x1), (3, .int x3)]) (hp' := rH e g q c l) (i := .getfield 27) (len := 3) rfl hj rfl rfl rfl rfl]
    rw [n_step (st' := [.int x3, .ref 54]) (pc' := 74) (lv' := [(0, .ref 49), (1, .int x1), (3, .int x3)]) (hp' := rH e g q c l) (i := .iload_n 3) (len := 1) rfl hj rfl rfl rfl]
    rw [n_cal (st' := [.int (c 54 (x3).toNatClampNeg)]) rfl hj (ald_54 hz0)]
    rw [n_step (st' := [.int x1, .int (c 54 (x3).toNatClampNeg)]) (pc' := 76) (lv' := [(0, .ref 49), (1, .int x1), (3, .int x3)]) (hp' := rH e g q c l) (i := .iload_n 1) (len := 1) rfl hj rfl rfl rfl]
    rw [n_step (st' := []) (pc' := (if xCn .ne ((c 54 (x3).toNatClampNeg)) x1 = true then 83 else 79)) (lv' := [(0, .ref 49), (1, .int x1), (3, .int x3)]) (hp' := rH e g q c l) (i := .if_icmp .ne 7) (len := 3) rfl hj rfl rfl rfl]
  by_cases hc : xCn .ne ((c 54 (x3).toNatClampNeg)) x1 = true
  · obtain ⟨f, h⟩ := h1 hc
    refine ⟨f + 6, ?_⟩
    rw [key, if_pos hc]
    exact h
  · obtain ⟨f, h⟩ := h2 hc
    refine ⟨f + 6, ?_⟩
    rw [key, if_neg hc]
    exact h
set_option maxRecDepth 100000 in
set_option maxHeartbeats 4000000 in
theorem bk_332_79 {b : Bool} {d : Nat} {x1 x3 : Int32} {e : Nat → x_E} {g : Nat → Int32} {q : Nat → Int64} {c : Nat → Nat → Int32} {l : Nat → Nat → Int64} {R : Option Value × List x_E} (h : rr b e d 332 84 [(0, .ref 49), (1, .int x1), (3, .int x3)] [.int (Int32.ofInt (1))] g q c l R) : rr b e d 332 79 [(0, .ref 49), (1, .int x1), (3, .int x3)] [] g q c l R := by
  obtain ⟨f, h⟩ := h
  refine ⟨f + 2, ?_⟩
  obtain ⟨y, cb, hj⟩ := mq_332
  rw [n_step (st' := [.int (Int32.ofInt (1))]) (pc' := 80) (lv' := [(0, .ref 49), (1, .int x1), (3, .int x3)]) (hp' := rH e g q c l) (i := .iconst 1) (len := 1) rfl hj rfl rfl rfl]
  rw [n_step (st' := [.int (Int32.ofInt (1))]) (pc' := 84) (lv' := [(0, .ref 49), (1, .int x1), (3, .int x3)]) (hp' := rH e g q c l) (i := .goto 4) (len := 3) rfl hj rfl rfl rfl]
  exact h
set_option maxRecDepth 100000 in
set_option maxHeartbeats 4000000 in
theorem bk_332_83 {b : Bool} {d : Nat} {x1 x3 : Int32} {e : Nat → x_E} {g : Nat → Int32} {q : Nat → Int64} {c : Nat → Nat → Int32} {l : Nat → Nat → Int64} {R : Option Value × List x_E} (h : rr b e d 332 84 [(0, .ref 49), (1, .int x1), (3, .int x3)] [.int (Int32.ofInt (0))] g q c l R) : rr b e d 332 83 [(0, .ref 49), (1, .int x1), (3, .int x3)] [] g q c l R := by
  obtain ⟨f, h⟩ := h
  refine ⟨f + 1, ?_⟩
  obtain ⟨y, cb, hj⟩ := mq_332
  rw [n_step (st' := [.int (Int32.ofInt (0))]) (pc' := 84) (lv' := [(0, .ref 49), (1, .int x1), (3, .int x3)]) (hp' := rH e g q c l) (i := .iconst 0) (len := 1) rfl hj rfl rfl rfl]
  exact h
set_option maxRecDepth 100000 in
set_option maxHeartbeats 4000000 in
theorem bk_332_84 {b : Bool} {d : Nat} {t0 x1 x3 : Int32} {e : Nat → x_E} {g : Nat → Int32} {q : Nat → Int64} {c : Nat → Nat → Int32} {l : Nat → Nat → Int64} {R : Option Value × List x_E} (h : rr b e d 332 56 [(0, .ref 49), (1, .int x1), (2, .int t0), (3, .int (x3 + Int32.ofInt (1)))] [] g q c l R) : rr b e d 332 84 [(0, .ref 49), (1, .int x1), (3, .int x3)] [.int t0] g q c l R := by
  obtain ⟨f, h⟩ := h
  refine ⟨f + 3, ?_⟩
  obtain ⟨y, cb, hj⟩ := mq_332
  rw [n_step (st' := []) (pc' := 85) (lv' := [(2, .int t0), (0, .ref 49), (1, .int x1), (3, .int x3)]) (hp' := rH e g q c l) (i := .istore_n 2) (len := 1) rfl hj rfl rfl rfl]
  rw [n_step (st' := []) (pc' := 88) (lv' := [(3, .int (x3 + Int32.ofInt (1))), (2, .int t0), (0, .ref 49), (1, .int x1)]) (hp' := rH e g q c l) (i := .iinc 3 1) (len := 3) rfl hj rfl rfl rfl]
  rw [n_step (st' := []) (pc' := 56) (lv' := [(3, .int (x3 + Int32.ofInt (1))), (2, .int t0), (0, .ref 49), (1, .int x1)]) (hp' := rH e g q c l) (i := .goto (-32)) (len := 3) rfl hj rfl rfl rfl]
  exact nrun_ext f f _ _ R 332 56 [(0, .ref 49), (1, .int x1), (2, .int t0), (3, .int (x3 + Int32.ofInt (1)))] [(3, .int (x3 + Int32.ofInt (1))), (2, .int t0), (0, .ref 49), (1, .int x1)] [] _ 0 0 122 (Nat.le_refl _) (Nat.le_refl _) (Nat.le_of_ble_eq_true rfl) (lvR_mk [0, 1, 2, 3] [3, 2, 0, 1] rfl rfl (by decide) (by decide) (List.forall_mem_cons.mpr ⟨(List.mem_cons_of_mem _ (List.mem_cons_of_mem _ List.mem_cons_self)), (List.forall_mem_cons.mpr ⟨(List.mem_cons_of_mem _ (List.mem_cons_of_mem _ (List.mem_cons_of_mem _ List.mem_cons_self))), (List.forall_mem_cons.mpr ⟨(List.mem_cons_of_mem _ List.mem_cons_self), (List.forall_mem_cons.mpr ⟨List.mem_cons_self, (fun _ h => nomatch h)⟩)⟩)⟩)⟩) (List.forall_mem_cons.mpr ⟨Or.inl (List.mem_cons_of_mem _ (List.mem_cons_of_mem _ (List.mem_cons_of_mem _ List.mem_cons_self))), (List.forall_mem_cons.mpr ⟨Or.inl (List.mem_cons_of_mem _ (List.mem_cons_of_mem _ List.mem_cons_self)), (List.forall_mem_cons.mpr ⟨Or.inl List.mem_cons_self, (List.forall_mem_cons.mpr ⟨Or.inl (List.mem_cons_of_mem _ List.mem_cons_self), (fun _ h => nomatch h)⟩)⟩)⟩)⟩)) h
set_option maxRecDepth 100000 in
set_option maxHeartbeats 4000000 in
theorem bk_332_91 {b : Bool} {d : Nat} {x2 : Int32} {e : Nat → x_E} {g : Nat → Int32} {q : Nat → Int64} {c : Nat → Nat → Int32} {l : Nat → Nat → Int64} {R : Option Value × List x_E} (h1 : xCn .eq x2 0 = true → rr b e d 332 100 [] [.ref 49] g q c l R) (h2 : ¬ xCn .eq x2 0 = true → rr b e d 332 96 [] [.ref 49] g q c l R) : rr b e d 332 91 [(0, .ref 49), (2, .int x2)] [] g q c l R := by
  have key : ∀ f, nrun xZ (xY (xfm b)) xDT (f + 3) d 332 91 [(0, .ref 49), (2, .int x2)] [] (rH e g q c l) 0 0 = nrun xZ (xY (xfm b)) xDT f d 332 (if xCn .eq x2 0 = true then 100 else 96) [(0, .ref 49), (2, .int x2)] [.ref 49] (rH e g q c l) 0 0 := by
    intro f
    obtain ⟨y, cb, hj⟩ := mq_332
    rw [n_step (st' := [.ref 49]) (pc' := 92) (lv' := [(0, .ref 49), (2, .int x2)]) (hp' := rH e g q c l) (i := .aload_n 0) (len := 1) rfl hj rfl rfl rfl]
    rw [n_step (st' := [.int x2, .ref 49]) (pc' := 93) (lv' := [(0, .ref 49), (2, .int x2)]) (hp' := rH e g q c l) (i := .iload_n 2) (len := 1) rfl hj rfl rfl rfl]
    rw [n_step (st' := [.ref 49]) (pc' := (if xCn .eq x2 0 = true then 100 else 96)) (lv' := [(0, .ref 49), (2, .int x2)]) (hp' := rH e g q c l) (i := .ifCond .eq 7) (len := 3) rfl hj rfl rfl rfl]
  by_cases hc : xCn .eq x2 0 = true
  · obtain ⟨f, h⟩ := h1 hc
    refine ⟨f + 3, ?_⟩
    rw [key, if_pos hc]
    exact nrun_ext f f _ _ R 332 100 [] [(0, .ref 49), (2, .int x2)] [.ref 49] _ 0 0 122 (Nat.le_refl _) (Nat.le_refl _) (Nat.le_of_ble_eq_true rfl) (lvR_mk [] [0, 2] rfl rfl (by decide) (by decide) (fun _ h => nomatch h) (List.forall_mem_cons.mpr ⟨Or.inr rfl, (List.forall_mem_cons.mpr ⟨Or.inr rfl, (fun _ h => nomatch h)⟩)⟩)) h
  · obtain ⟨f, h⟩ := h2 hc
    refine ⟨f + 3, ?_⟩
    rw [key, if_neg hc]
    exact nrun_ext f f _ _ R 332 96 [] [(0, .ref 49), (2, .int x2)] [.ref 49] _ 0 0 122 (Nat.le_refl _) (Nat.le_refl _) (Nat.le_of_ble_eq_true rfl) (lvR_mk [] [0, 2] rfl rfl (by decide) (by decide) (fun _ h => nomatch h) (List.forall_mem_cons.mpr ⟨Or.inr rfl, (List.forall_mem_cons.mpr ⟨Or.inr rfl, (fun _ h => nomatch h)⟩)⟩)) h
set_option maxRecDepth 100000 in
set_option maxHeartbeats 4000000 in
theorem bk_332_96 {b : Bool} {d : Nat} {e : Nat → x_E} {g : Nat → Int32} {q : Nat → Int64} {c : Nat → Nat → Int32} {l : Nat → Nat → Int64} {R : Option Value × List x_E} (h : rr b e d 332 102 [] [.int (Int32.ofInt (3)), .ref 49] g q c l R) : rr b e d 332 96 [] [.ref 49] g q c l R := by
  obtain ⟨f, h⟩ := h
  refine ⟨f + 2, ?_⟩
  obtain ⟨y, cb, hj⟩ := mq_332
  rw [n_step (st' := [.int (Int32.ofInt (3)), .ref 49]) (pc' := 97) (lv' := []) (hp' := rH e g q c l) (i := .iconst 3) (len := 1) rfl hj rfl rfl rfl]
  rw [n_step (st' := [.int (Int32.ofInt (3)), .ref 49]) (pc' := 102) (lv' := []) (hp' := rH e g q c l) (i := .goto 5) (len := 3) rfl hj rfl rfl rfl]
  exact h
set_option maxRecDepth 100000 in
set_option maxHeartbeats 4000000 in
theorem bk_332_100 {b : Bool} {d : Nat} {e : Nat → x_E} {g : Nat → Int32} {q : Nat → Int64} {c : Nat → Nat → Int32} {l : Nat → Nat → Int64} {R : Option Value × List x_E} (h : rr b e d 332 102 [] [.int (Int8.ofInt (6)).toInt32, .ref 49] g q c l R) : rr b e d 332 100 [] [.ref 49] g q c l R := by
  obtain ⟨f, h⟩ := h
  refine ⟨f + 1, ?_⟩
  obtain ⟨y, cb, hj⟩ := mq_332
  rw [n_step (st' := [.int (Int8.ofInt (6)).toInt32, .ref 49]) (pc' := 102) (lv' := []) (hp' := rH e g q c l) (i := .bipush 6) (len := 2) rfl hj rfl rfl rfl]
  exact h
set_option maxRecDepth 100000 in
set_option maxHeartbeats 4000000 in
theorem bk_332_102 {b : Bool} {d : Nat} {t0 : Int32} {e : Nat → x_E} {g : Nat → Int32} {q : Nat → Int64} {c : Nat → Nat → Int32} {l : Nat → Nat → Int64} : rr b e d 332 102 [] [.int t0, .ref 49] g q c l (none, rH e (upd g 10 t0) q c l) := by
  refine ⟨0 + 2, ?_⟩
  obtain ⟨y, cb, hj⟩ := mq_332
  rw [n_put (st' := []) (hp' := rH e (upd g 10 t0) q c l) rfl hj pf_10]
  exact n_ret rfl hj rfl rfl rfl
set_option maxRecDepth 100000 in
set_option maxHeartbeats 4000000 in
theorem bk_333_0 {b : Bool} {d : Nat} {e : Nat → x_E} {g : Nat → Int32} {q : Nat → Int64} {c : Nat → Nat → Int32} {l : Nat → Nat → Int64} (hz0 : ¬ ((g 31) < 0 ∨ 1300 ≤ ((g 31)).toNatClampNeg)) : rr b e d 333 0 [(0, .ref 49)] [] g q c l (some (.int (((upd g 31 (((g 31) + (Int32.ofInt (1))))) 31) - (Int32.ofInt (1)))), rH e (upd g 31 (((g 31) + (Int32.ofInt (1))))) q (updA c 56 (upd (c 56) ((g 31)).toNatClampNeg ((g 30)))) l) := by
  refine ⟨0 + 18, ?_⟩
  obtain ⟨y, cb, hj⟩ := mq_333
  rw [n_step (st' := [.ref 49]) (pc' := 1) (lv' := [(0, .ref 49)]) (hp' := rH e g q c l) (i := .aload_n 0) (len := 1) rfl hj rfl rfl rfl]
  rw [n_get (st' := [.ref 56]) (pc' := 4) (lv' := [(0, .ref 49)]) (hp' := rH e g q c l) (i := .getfield 34) (len := 3) rfl hj rfl rfl rfl rfl]
  rw [n_step (st' := [.ref 49, .ref 56]) (pc' := 5) (lv' := [(0, .ref 49)]) (hp' := rH e g q c l) (i := .aload_n 0) (len := 1) rfl hj rfl rfl rfl]
  rw [n_get (st' := [.int (g 31), .ref 56]) (pc' := 8) (lv' := [(0, .ref 49)]) (hp' := rH e g q c l) (i := .getfield 371) (len := 3) rfl hj rfl rfl rfl rfl]
  rw [n_step (st' := [.ref 49, .int (g 31), .ref 56]) (pc' := 9) (lv' := [(0, .ref 49)]) (hp' := rH e g q c l) (i := .aload_n 0) (len := 1) rfl hj rfl rfl rfl]
  rw [n_get (st' := [.int (g 30), .int (g 31), .ref 56]) (pc' := 12) (lv' := [(0, .ref 49)]) (hp' := rH e g q c l) (i := .getfield 374) (len := 3) rfl hj rfl rfl rfl rfl]
  rw [n_ias (st' := []) (hp' := rH e g q (updA c 56 (upd (c 56) ((g 31)).toNatClampNeg ((g 30)))) l) rfl hj (ast_56 hz0)]
  rw [n_step (st' := [.ref 49]) (pc' := 14) (lv' := [(0, .ref 49)]) (hp' := rH e g q (updA c 56 (upd (c 56) ((g 31)).toNatClampNeg ((g 30)))) l) (i := .aload_n 0) (len := 1) rfl hj rfl rfl rfl]
  rw [n_step (st' := [.ref 49, .ref 49]) (pc' := 15) (lv' := [(0, .ref 49)]) (hp' := rH e g q (updA c 56 (upd (c 56) ((g 31)).toNatClampNeg ((g 30)))) l) (i := .aload_n 0) (len := 1) rfl hj rfl rfl rfl]
  rw [n_get (st' := [.int (g 31), .ref 49]) (pc' := 18) (lv' := [(0, .ref 49)]) (hp' := rH e g q (updA c 56 (upd (c 56) ((g 31)).toNatClampNeg ((g 30)))) l) (i := .getfield 371) (len := 3) rfl hj rfl rfl rfl rfl]
  rw [n_step (st' := [.int (Int32.ofInt (1)), .int (g 31), .ref 49]) (pc' := 19) (lv' := [(0, .ref 49)]) (hp' := rH e g q (updA c 56 (upd (c 56) ((g 31)).toNatClampNeg ((g 30)))) l) (i := .iconst 1) (len := 1) rfl hj rfl rfl rfl]
  rw [n_step (st' := [.int ((g 31) + (Int32.ofInt (1))), .ref 49]) (pc' := 20) (lv' := [(0, .ref 49)]) (hp' := rH e g q (updA c 56 (upd (c 56) ((g 31)).toNatClampNeg ((g 30)))) l) (i := .iadd) (len := 1) rfl hj rfl rfl rfl]
  rw [n_put (st' := []) (hp' := rH e (upd g 31 (((g 31) + (Int32.ofInt (1))))) q (updA c 56 (upd (c 56) ((g 31)).toNatClampNeg ((g 30)))) l) rfl hj pf_31]
  rw [n_step (st' := [.ref 49]) (pc' := 24) (lv' := [(0, .ref 49)]) (hp' := rH e (upd g 31 (((g 31) + (Int32.ofInt (1))))) q (updA c 56 (upd (c 56) ((g 31)).toNatClampNeg ((g 30)))) l) (i := .aload_n 0) (len := 1) rfl hj rfl rfl rfl]
  rw [n_get (st' := [.int ((upd g 31 (((g 31) + (Int32.ofInt (1))))) 31)]) (pc' := 27) (lv' := [(0, .ref 49)]) (hp' := rH e (upd g 31 (((g 31) + (Int32.ofInt (1))))) q (updA c 56 (upd (c 56) ((g 31)).toNatClampNeg ((g 30)))) l) (i := .getfield 371) (len := 3) rfl hj rfl rfl rfl rfl]
  rw [n_step (st' := [.int (Int32.ofInt (1)), .int ((upd g 31 (((g 31) + (Int32.ofInt (1))))) 31)]) (pc' := 28) (lv' := [(0, .ref 49)]) (hp' := rH e (upd g 31 (((g 31) + (Int32.ofInt (1))))) q (updA c 56 (upd (c 56) ((g 31)).toNatClampNeg ((g 30)))) l) (i := .iconst 1) (len := 1) rfl hj rfl rfl rfl]
  rw [n_step (st' := [.int (((upd g 31 (((g 31) + (Int32.ofInt (1))))) 31) - (Int32.ofInt (1)))]) (pc' := 29) (lv' := [(0, .ref 49)]) (hp' := rH e (upd g 31 (((g 31) + (Int32.ofInt (1))))) q (updA c 56 (upd (c 56) ((g 31)).toNatClampNeg ((g 30)))) l) (i := .isub) (len := 1) rfl hj rfl rfl rfl]
  exact n_ret rfl hj rfl rfl (x_ret rfl)
set_option maxRecDepth 100000 in
set_option maxHeartbeats 4000000 in
theorem bk_334_0 {b : Bool} {d : Nat} {x1 : Int32} {e : Nat → x_E} {g : Nat → Int32} {q : Nat → Int64} {c : Nat → Nat → Int32} {l : Nat → Nat → Int64} (hz0 : ¬ ((g 30) < 0 ∨ 66000 ≤ ((g 30)).toNatClampNeg)) : rr b e d 334 0 [(0, .ref 49), (1, .int x1)] [] g q c l (none, rH e (upd g 30 (((g 30) + (Int32.ofInt (1))))) q (updA c 55 (upd (c 55) ((g 30)).toNatClampNeg x1)) l) := by
  refine ⟨0 + 13, ?_⟩
  obtain ⟨y, cb, hj⟩ := mq_334
  rw [n_step (st' := [.ref 49]) (pc' := 1) (lv' := [(0, .ref 49), (1, .int x1)]) (hp' := rH e g q c l) (i := .aload_n 0) (len := 1) rfl hj rfl rfl rfl]
  rw [n_get (st' := [.ref 55]) (pc' := 4) (lv' := [(0, .ref 49), (1, .int x1)]) (hp' := rH e g q c l) (i := .getfield 31) (len := 3) rfl hj rfl rfl rfl rfl]
  rw [n_step (st' := [.ref 49, .ref 55]) (pc' := 5) (lv' := [(0, .ref 49), (1, .int x1)]) (hp' := rH e g q c l) (i := .aload_n 0) (len := 1) rfl hj rfl rfl rfl]
  rw [n_get (st' := [.int (g 30), .ref 55]) (pc' := 8) (lv' := [(0, .ref 49), (1, .int x1)]) (hp' := rH e g q c l) (i := .getfield 374) (len := 3) rfl hj rfl rfl rfl rfl]
  rw [n_step (st' := [.int x1, .int (g 30), .ref 55]) (pc' := 9) (lv' := [(0, .ref 49), (1, .int x1)]) (hp' := rH e g q c l) (i := .iload_n 1) (len := 1) rfl hj rfl rfl rfl]
  rw [n_ias (st' := []) (hp' := rH e g q (updA c 55 (upd (c 55) ((g 30)).toNatClampNeg x1)) l) rfl hj (ast_55 hz0)]
  rw [n_step (st' := [.ref 49]) (pc' := 11) (lv' := [(0, .ref 49), (1, .int x1)]) (hp' := rH e g q (updA c 55 (upd (c 55) ((g 30)).toNatClampNeg x1)) l) (i := .aload_n 0) (len := 1) rfl hj rfl rfl rfl]
  rw [n_step (st' := [.ref 49, .ref 49]) (pc' := 12) (lv' := [(0, .ref 49), (1, .int x1)]) (hp' := rH e g q (updA c 55 (upd (c 55) ((g 30)).toNatClampNeg x1)) l) (i := .aload_n 0) (len := 1) rfl hj rfl rfl rfl]
  rw [n_get (st' := [.int (g 30), .ref 49]) (pc' := 15) (lv' := [(0, .ref 49), (1, .int x1)]) (hp' := rH e g q (updA c 55 (upd (c 55) ((g 30)).toNatClampNeg x1)) l) (i := .getfield 374) (len := 3) rfl hj rfl rfl rfl rfl]
  rw [n_step (st' := [.int (Int32.ofInt (1)), .int (g 30), .ref 49]) (pc' := 16) (lv' := [(0, .ref 49), (1, .int x1)]) (hp' := rH e g q (updA c 55 (upd (c 55) ((g 30)).toNatClampNeg x1)) l) (i := .iconst 1) (len := 1) rfl hj rfl rfl rfl]
  rw [n_step (st' := [.int ((g 30) + (Int32.ofInt (1))), .ref 49]) (pc' := 17) (lv' := [(0, .ref 49), (1, .int x1)]) (hp' := rH e g q (updA c 55 (upd (c 55) ((g 30)).toNatClampNeg x1)) l) (i := .iadd) (len := 1) rfl hj rfl rfl rfl]
  rw [n_put (st' := []) (hp' := rH e (upd g 30 (((g 30) + (Int32.ofInt (1))))) q (updA c 55 (upd (c 55) ((g 30)).toNatClampNeg x1)) l) rfl hj pf_30]
  exact n_ret rfl hj rfl rfl rfl
set_option maxRecDepth 100000 in
set_option maxHeartbeats 4000000 in
theorem bk_335_0 {b : Bool} {d : Nat} {x1 : Int32} {e : Nat → x_E} {g : Nat → Int32} {q : Nat → Int64} {c : Nat → Nat → Int32} {l : Nat → Nat → Int64} (hz0 : ¬ (x1 < 0 ∨ 1300 ≤ (x1).toNatClampNeg)) (hz1 : ¬ (x1 < 0 ∨ 1300 ≤ (x1).toNatClampNeg)) : rr b e d 335 0 [(0, .ref 49), (1, .int x1)] [] g q c l (some (.int x1), rH e g q (updA c 57 (upd (c 57) (x1).toNatClampNeg (((g 30) - (c 56 (x1).toNatClampNeg))))) l) := by
  refine ⟨0 + 13, ?_⟩
  obtain ⟨y, cb, hj⟩ := mq_335
  rw [n_step (st' := [.ref 49]) (pc' := 1) (lv' := [(0, .ref 49), (1, .int x1)]) (hp' := rH e g q c l) (i := .aload_n 0) (len := 1) rfl hj rfl rfl rfl]
  rw [n_get (st' := [.ref 57]) (pc' := 4) (lv' := [(0, .ref 49), (1, .int x1)]) (hp' := rH e g q c l) (i := .getfield 37) (len := 3) rfl hj rfl rfl rfl rfl]
  rw [n_step (st' := [.int x1, .ref 57]) (pc' := 5) (lv' := [(0, .ref 49), (1, .int x1)]) (hp' := rH e g q c l) (i := .iload_n 1) (len := 1) rfl hj rfl rfl rfl]
  rw [n_step (st' := [.ref 49, .int x1, .ref 57]) (pc' := 6) (lv' := [(0, .ref 49), (1, .int x1)]) (hp' := rH e g q c l) (i := .aload_n 0) (len := 1) rfl hj rfl rfl rfl]
  rw [n_get (st' := [.int (g 30), .int x1, .ref 57]) (pc' := 9) (lv' := [(0, .ref 49), (1, .int x1)]) (hp' := rH e g q c l) (i := .getfield 374) (len := 3) rfl hj rfl rfl rfl rfl]
  rw [n_step (st' := [.ref 49, .int (g 30), .int x1, .ref 57]) (pc' := 10) (lv' := [(0, .ref 49), (1, .int x1)]) (hp' := rH e g q c l) (i := .aload_n 0) (len := 1) rfl hj rfl rfl rfl]
  rw [n_get (st' := [.ref 56, .int (g 30), .int x1, .ref 57]) (pc' := 13) (lv' := [(0, .ref 49), (1, .int x1)]) (hp' := rH e g q c l) (i := .getfield 34) (len := 3) rfl hj rfl rfl rfl rfl]
  rw [n_step (st' := [.int x1, .ref 56, .int (g 30), .int x1, .ref 57]) (pc' := 14) (lv' := [(0, .ref 49), (1, .int x1)]) (hp' := rH e g q c l) (i := .iload_n 1) (len := 1) rfl hj rfl rfl rfl]
  rw [n_ial (st' := [.int (c 56 (x1).toNatClampNeg), .int (g 30), .int x1, .ref 57]) rfl hj (ald_56 hz0)]
  rw [n_step (st' := [.int ((g 30) - (c 56 (x1).toNatClampNeg)), .int x1, .ref 57]) (pc' := 16) (lv' := [(0, .ref 49), (1, .int x1)]) (hp' := rH e g q c l) (i := .isub) (len := 1) rfl hj rfl rfl rfl]
  rw [n_ias (st' := []) (hp' := rH e g q (updA c 57 (upd (c 57) (x1).toNatClampNeg (((g 30) - (c 56 (x1).toNatClampNeg))))) l) rfl hj (ast_57 hz1)]
  rw [n_step (st' := [.int x1]) (pc' := 18) (lv' := [(0, .ref 49), (1, .int x1)]) (hp' := rH e g q (updA c 57 (upd (c 57) (x1).toNatClampNeg (((g 30) - (c 56 (x1).toNatClampNeg))))) l) (i := .iload_n 1) (len := 1) rfl hj rfl rfl rfl]
  exact n_ret rfl hj rfl rfl (x_ret rfl)
