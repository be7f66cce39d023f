set_option maxRecDepth 100000 in
set_option maxHeartbeats 4000000 in
theorem bk_379_192 {b : Bool} {d : Nat} {e : Nat → x_E} {g : Nat → Int32} {q : Nat → Int64} {c : Nat → Nat → Int32} {l : Nat → Nat → Int64} : rr b e d 379 192 [] [] g q c l (some (.int (Int32.ofInt (-1))), rH e g q c l) := by
  refine ⟨0 + 2, ?_⟩
  obtain ⟨y, cb, hj⟩ := mq_379
  rw [n_step (st' := [.int (Int32.ofInt (-1))]) (pc' := 193) (lv' := []) (hp' := rH e g q c l) (i := .iconst (-1)) (len := 1) rfl hj rfl rfl rfl]
  exact n_ret rfl hj rfl rfl (x_ret rfl)
set_option maxRecDepth 100000 in
set_option maxHeartbeats 4000000 in
theorem bk_379_194 {b : Bool} {d : Nat} {x1 x2 x3 : Int32} {e : Nat → x_E} {g : Nat → Int32} {q : Nat → Int64} {c : Nat → Nat → Int32} {l : Nat → Nat → Int64} {R : Option Value × List x_E} (h : rr b e d 379 200 [(0, .ref 49), (1, .int x1), (2, .int x2), (3, .int x3), (6, .int (Int32.ofInt (1))), (7, .int (Int32.ofInt (0)))] [] g q c l R) : rr b e d 379 194 [(0, .ref 49), (1, .int x1), (2, .int x2), (3, .int x3)] [] g q c l R := by
  obtain ⟨f, h⟩ := h
  refine ⟨f + 4, ?_⟩
  obtain ⟨y, cb, hj⟩ := mq_379
  rw [n_step (st' := [.int (Int32.ofInt (1))]) (pc' := 195) (lv' := [(0, .ref 49), (1, .int x1), (2, .int x2), (3, .int x3)]) (hp' := rH e g q c l) (i := .iconst 1) (len := 1) rfl hj rfl rfl rfl]
  rw [n_step (st' := []) (pc' := 197) (lv' := [(6, .int (Int32.ofInt (1))), (0, .ref 49), (1, .int x1), (2, .int x2), (3, .int x3)]) (hp' := rH e g q c l) (i := .istore 6) (len := 2) rfl hj rfl rfl rfl]
  rw [n_step (st' := [.int (Int32.ofInt (0))]) (pc' := 198) (lv' := [(6, .int (Int32.ofInt (1))), (0, .ref 49), (1, .int x1), (2, .int x2), (3, .int x3)]) (hp' := rH e g q c l) (i := .iconst 0) (len := 1) rfl hj rfl rfl rfl]
  rw [n_step (st' := []) (pc' := 200) (lv' := [(7, .int (Int32.ofInt (0))), (6, .int (Int32.ofInt (1))), (0, .ref 49), (1, .int x1), (2, .int x2), (3, .int x3)]) (hp' := rH e g q c l) (i := .istore 7) (len := 2) rfl hj rfl rfl rfl]
  exact nrun_ext f f _ _ R 379 200 [(0, .ref 49), (1, .int x1), (2, .int x2), (3, .int x3), (6, .int (Int32.ofInt (1))), (7, .int (Int32.ofInt (0)))] [(7, .int (Int32.ofInt (0))), (6, .int (Int32.ofInt (1))), (0, .ref 49), (1, .int x1), (2, .int x2), (3, .int x3)] [] _ 0 0 122 (Nat.le_refl _) (Nat.le_refl _) (Nat.le_of_ble_eq_true rfl) (lvR_mk [0, 1, 2, 3, 6, 7] [7, 6, 0, 1, 2, 3] rfl rfl (by decide) (by decide) (List.forall_mem_cons.mpr ⟨(List.mem_cons_of_mem _ (List.mem_cons_of_mem _ List.mem_cons_self)), (List.forall_mem_cons.mpr ⟨(List.mem_cons_of_mem _ (List.mem_cons_of_mem _ (List.mem_cons_of_mem _ List.mem_cons_self))), (List.forall_mem_cons.mpr ⟨(List.mem_cons_of_mem _ (List.mem_cons_of_mem _ (List.mem_cons_of_mem _ (List.mem_cons_of_mem _ List.mem_cons_self)))), (List.forall_mem_cons.mpr ⟨(List.mem_cons_of_mem _ (List.mem_cons_of_mem _ (List.mem_cons_of_mem _ (List.mem_cons_of_mem _ (List.mem_cons_of_mem _ List.mem_cons_self))))), (List.forall_mem_cons.mpr ⟨(List.mem_cons_of_mem _ List.mem_cons_self), (List.forall_mem_cons.mpr ⟨List.mem_cons_self, (fun _ h => nomatch h)⟩)⟩)⟩)⟩)⟩)⟩) (List.forall_mem_cons.mpr ⟨Or.inl (List.mem_cons_of_mem _ (List.mem_cons_of_mem _ (List.mem_cons_of_mem _ (List.mem_cons_of_mem _ (List.mem_cons_of_mem _ List.mem_cons_self))))), (List.forall_mem_cons.mpr ⟨Or.inl (List.mem_cons_of_mem _ (List.mem_cons_of_mem _ (List.mem_cons_of_mem _ (List.mem_cons_of_mem _ List.mem_cons_self)))), (List.forall_mem_cons.mpr ⟨Or.inl List.mem_cons_self, (List.forall_mem_cons.mpr ⟨Or.inl (List.mem_cons_of_mem _ List.mem_cons_self), (List.forall_mem_cons.mpr ⟨Or.inl (List.mem_cons_of_mem _ (List.mem_cons_of_mem _ List.mem_cons_self)), (List.forall_mem_cons.mpr ⟨Or.inl (List.mem_cons_of_mem _ (List.mem_cons_of_mem _ (List.mem_cons_of_mem _ List.mem_cons_self))), (fun _ h => nomatch h)⟩)⟩)⟩)⟩)⟩)⟩)) h
set_option maxRecDepth 100000 in
set_option maxHeartbeats 4000000 in
theorem bk_379_200 {b : Bool} {d : Nat} {x1 x2 x3 x6 x7 : Int32} {e : Nat → x_E} {g : Nat → Int32} {q : Nat → Int64} {c : Nat → Nat → Int32} {l : Nat → Nat → Int64} {R : Option Value × List x_E} (h1 : xCn .ge x7 x3 = true → rr b e d 379 231 [(0, .ref 49), (1, .int x1), (2, .int x2), (3, .int x3), (6, .int x6)] [] g q c l R) (h2 : ¬ xCn .ge x7 x3 = true → rr b e d 379 206 [(0, .ref 49), (1, .int x1), (2, .int x2), (3, .int x3), (6, .int x6), (7, .int x7)] [] g q c l R) : rr b e d 379 200 [(0, .ref 49), (1, .int x1), (2, .int x2), (3, .int x3), (6, .int x6), (7, .int x7)] [] g q c l R := by
  have key : ∀ f, nrun xZ (xY (xfm b)) xDT (f + 3) d 379 200 [(0, .ref 49), (1, .int x1), (2, .int x2), (3, .int x3), (6, .int x6), (7, .int x7)] [] (rH e g q c l) 0 0 = nrun xZ (xY (xfm b)) xDT f d 379 (if xCn .ge x7 x3 = true then 231 else 206) [(0, .ref 49), (1, .int x1), (2, .int x2), (3, .int x3), (6, .int x6), (7, .int x7)] [] (rH e g q c l) 0 0 := by
    intro f
    obtain ⟨y, cb, hj⟩ := mq_379
    rw [n_step (st' := [.int x7]) (pc' := 202) (lv' := [(0, .ref 49), (1, .int x1), (2, .int x2), (3, .int x3), (6, .int x6), (7, .int x7)]) (hp' := rH e g q c l) (i := .iload 7) (len := 2) rfl hj rfl rfl rfl]
    rw [n_step (st' := [.int x3, .int x7]) (pc' := 203) (lv' := [(0, .ref 49), (1, .int x1), (2, .int x2), (3, .int x3), (6, .int x6), (7, .int x7)]) (hp' := rH e g q c l) (i := .iload_n 3) (len := 1) rfl hj rfl rfl rfl]
    rw [n_step (st' := []) (pc' := (if xCn .ge x7 x3 = true then 231 else 206)) (lv' := [(0, .ref 49), (1, .int x1), (2, .int x2), (3, .int x3), (6, .int x6), (7, .int x7)]) (hp' := rH e g q c l) (i := .if_icmp .ge 28) (len := 3) rfl hj rfl rfl rfl]
  by_cases hc : xCn .ge x7 x3 = true
  · obtain ⟨f, h⟩ := h1 hc
    refine ⟨f + 3, ?_⟩
    rw [key, if_pos hc]
    exact nrun_ext f f _ _ R 379 231 [(0, .ref 49), (1, .int x1), (2, .int x2), (3, .int x3), (6, .int x6)] [(0, .ref 49), (1, .int x1), (2, .int x2), (3, .int x3), (6, .int x6), (7, .int x7)] [] _ 0 0 122 (Nat.le_refl _) (Nat.le_refl _) (Nat.le_of_ble_eq_true rfl) (lvR_mk [0, 1, 2, 3, 6] [0, 1, 2, 3, 6, 7] rfl rfl (by decide) (by decide) (List.forall_mem_cons.mpr ⟨List.mem_cons_self, (List.forall_mem_cons.mpr ⟨(List.mem_cons_of_mem _ List.mem_cons_self), (List.forall_mem_cons.mpr ⟨(List.mem_cons_of_mem _ (List.mem_cons_of_mem _ List.mem_cons_self)), (List.forall_mem_cons.mpr ⟨(List.mem_cons_of_mem _ (List.mem_cons_of_mem _ (List.mem_cons_of_mem _ List.mem_cons_self))), (List.forall_mem_cons.mpr ⟨(List.mem_cons_of_mem _ (List.mem_cons_of_mem _ (List.mem_cons_of_mem _ (List.mem_cons_of_mem _ List.mem_cons_self)))), (fun _ h => nomatch h)⟩)⟩)⟩)⟩)⟩) (List.forall_mem_cons.mpr ⟨Or.inl List.mem_cons_self, (List.forall_mem_cons.mpr ⟨Or.inl (List.mem_cons_of_mem _ List.mem_cons_self), (List.forall_mem_cons.mpr ⟨Or.inl (List.mem_cons_of_mem _ (List.mem_cons_of_mem _ List.mem_cons_self)), (List.forall_mem_cons.mpr ⟨Or.inl (List.mem_cons_of_mem _ (List.mem_cons_of_mem _ (List.mem_cons_of_mem _ List.mem_cons_self))), (List.forall_mem_cons.mpr ⟨Or.inl (List.mem_cons_of_mem _ (List.mem_cons_of_mem _ (List.mem_cons_of_mem _ (List.mem_cons_of_mem _ List.mem_cons_self)))), (List.forall_mem_cons.mpr ⟨Or.inr rfl, (fun _ h => nomatch h)⟩)⟩)⟩)⟩)⟩)⟩)) h
  · obtain ⟨f, h⟩ := h2 hc
    refine ⟨f + 3, ?_⟩
    rw [key, if_neg hc]
    exact h
set_option maxRecDepth 100000 in
set_option maxHeartbeats 4000000 in
theorem bk_379_206 {b : Bool} {d : Nat} {x1 x2 x3 x6 x7 : Int32} {e : Nat → x_E} {g : Nat → Int32} {q : Nat → Int64} {c : Nat → Nat → Int32} {l : Nat → Nat → Int64} {R : Option Value × List x_E} (hz0 : ¬ ((x2 + x7) < 0 ∨ 400 ≤ ((x2 + x7)).toNatClampNeg)) (hz1 : ¬ ((c 75 ((x2 + x7)).toNatClampNeg) < 0 ∨ 1300 ≤ ((c 75 ((x2 + x7)).toNatClampNeg)).toNatClampNeg)) (h : rr b e d 379 200 [(0, .ref 49), (1, .int x1), (2, .int x2), (3, .int x3), (6, .int (x6 + (c 57 ((c 75 ((x2 + x7)).toNatClampNeg)).toNatClampNeg))), (7, .int (x7 + Int32.ofInt (1)))] [] g q c l R) : rr b e d 379 206 [(0, .ref 49), (1, .int x1), (2, .int x2), (3, .int x3), (6, .int x6), (7, .int x7)] [] g q c l R := by
  obtain ⟨f, h⟩ := h
  refine ⟨f + 14, ?_⟩
  obtain ⟨y, cb, hj⟩ := mq_379
  rw [n_step (st' := [.int x6]) (pc' := 208) (lv' := [(0, .ref 49), (1, .int x1), (2, .int x2), (3, .int x3), (6, .int x6), (7, .int x7)]) (hp' := rH e g q c l) (i := .iload 6) (len := 2) rfl hj rfl rfl rfl]
  rw [n_step (st' := [.ref 49, .int x6]) (pc' := 209) (lv' := [(0, .ref 49), (1, .int x1), (2, .int x2), (3, .int x3), (6, .int x6), (7, .int x7)]) (hp' := rH e g q c l) (i := .aload_n 0) (len := 1) rfl hj rfl rfl rfl]
  rw [n_get (st' := [.ref 57, .int x6]) (pc' := 212) (lv' := [(0, .ref 49), (1, .int x1), (2, .int x2), (3, .int x3), (6, .int x6), (7, .int x7)]) (hp' := rH e g q c l) (i := .getfield 37) (len := 3) rfl hj rfl rfl rfl rfl]
  rw [n_step (st' := [.ref 49, .ref 57, .int x6]) (pc' := 213) (lv' := [(0, .ref 49), (1, .int x1), (2, .int x2), (3, .int x3), (6, .int x6), (7, .int x7)]) (hp' := rH e g q c l) (i := .aload_n 0) (len := 1) rfl hj rfl rfl rfl]
  rw [n_get (st' := [.ref 75, .ref 57, .int x6]) (pc' := 216) (lv' := [(0, .ref 49), (1, .int x1), (2, .int x2), (3, .int x3), (6, .int x6), (7, .int x7)]) (hp' := rH e g q c l) (i := .getfield 93) (len := 3) rfl hj rfl rfl rfl rfl]
  rw [n_step (st' := [.int x2, .ref 75, .ref 57, .int x6]) (pc' := 217) (lv' := [(0, .ref 49), (1, .int x1), (2, .int x2), (3, .int x3), (6, .int x6), (7, .int x7)]) (hp' := rH e g q c l) (i := .iload_n 2) (len := 1) rfl hj rfl rfl rfl]
  rw [n_step (st' := [.int x7, .int x2, .ref 75, .ref 57, .int x6]) (pc' := 219) (lv' := [(0, .ref 49), (1, .int x1), (2, .int x2), (3, .int x3), (6, .int x6), (7, .int x7)]) (hp' := rH e g q c l) (i := .iload 7) (len := 2) rfl hj rfl rfl rfl]
  rw [n_step (st' := [.int (x2 + x7), .ref 75, .ref 57, .int x6]) (pc' := 220) (lv' := [(0, .ref 49), (1, .int x1), (2, .int x2), (3, .int x3), (6, .int x6), (7, .int x7)]) (hp' := rH e g q c l) (i := .iadd) (len := 1) rfl hj rfl rfl rfl]
  rw [n_ial (st' := [.int (c 75 ((x2 + x7)).toNatClampNeg), .ref 57, .int x6]) rfl hj (ald_75 hz0)]
  rw [n_ial (st' := [.int (c 57 ((c 75 ((x2 + x7)).toNatClampNeg)).toNatClampNeg), .int x6]) rfl hj (ald_57 hz1)]
  rw [n_step (st' := [.int (x6 + (c 57 ((c 75 ((x2 + x7)).toNatClampNeg)).toNatClampNeg))]) (pc' := 223) (lv' := [(0, .ref 49), (1, .int x1), (2, .int x2), (3, .int x3), (6, .int x6), (7, .int x7)]) (hp' := rH e g q c l) (i := .iadd) (len := 1) rfl hj rfl rfl rfl]
  rw [n_step (st' := []) (pc' := 225) (lv' := [(6, .int (x6 + (c 57 ((c 75 ((x2 + x7)).toNatClampNeg)).toNatClampNeg))), (0, .ref 49), (1, .int x1), (2, .int x2), (3, .int x3), (7, .int x7)]) (hp' := rH e g q c l) (i := .istore 6) (len := 2) rfl hj rfl rfl rfl]
  rw [n_step (st' := []) (pc' := 228) (lv' := [(7, .int (x7 + Int32.ofInt (1))), (6, .int (x6 + (c 57 ((c 75 ((x2 + x7)).toNatClampNeg)).toNatClampNeg))), (0, .ref 49), (1, .int x1), (2, .int x2), (3, .int x3)]) (hp' := rH e g q c l) (i := .iinc 7 1) (len := 3) rfl hj rfl rfl rfl]
  rw [n_step (st' := []) (pc' := 200) (lv' := [(7, .int (x7 + Int32.ofInt (1))), (6, .int (x6 + (c 57 ((c 75 ((x2 + x7)).toNatClampNeg)).toNatClampNeg))), (0, .ref 49), (1, .int x1), (2, .int x2), (3, .int x3)]) (hp' := rH e g q c l) (i := .goto (-28)) (len := 3) rfl hj rfl rfl rfl]
  exact nrun_ext f f _ _ R 379 200 [(0, .ref 49), (1, .int x1), (2, .int x2), (3, .int x3), (6, .int (x6 + (c 57 ((c 75 ((x2 + x7)).toNatClampNeg)).toNatClampNeg))), (7, .int (x7 + Int32.ofInt (1)))] [(7, .int (x7 + Int32.ofInt (1))), (6, .int (x6 + (c 57 ((c 75 ((x2 + x7)).toNatClampNeg)).toNatClampNeg))), (0, .ref 49), (1, .int x1), (2, .int x2), (3, .int x3)] [] _ 0 0 122 (Nat.le_refl _) (Nat.le_refl _) (Nat.le_of_ble_eq_true rfl) (lvR_mk [0, 1, 2, 3, 6, 7] [7, 6, 0, 1, 2, 3] rfl rfl (by decide) (by decide) (List.forall_mem_cons.mpr ⟨(List.mem_cons_of_mem _ (List.mem_cons_of_mem _ List.mem_cons_self)), (List.forall_mem_cons.mpr ⟨(List.mem_cons_of_mem _ (List.mem_cons_of_mem _ (List.mem_cons_of_mem _ List.mem_cons_self))), (List.forall_mem_cons.mpr ⟨(List.mem_cons_of_mem _ (List.mem_cons_of_mem _ (List.mem_cons_of_mem _ (List.mem_cons_of_mem _ List.mem_cons_self)))), (List.forall_mem_cons.mpr ⟨(List.mem_cons_of_mem _ (List.mem_cons_of_mem _ (List.mem_cons_of_mem _ (List.mem_cons_of_mem _ (List.mem_cons_of_mem _ List.mem_cons_self))))), (List.forall_mem_cons.mpr ⟨(List.mem_cons_of_mem _ List.mem_cons_self), (List.forall_mem_cons.mpr ⟨List.mem_cons_self, (fun _ h => nomatch h)⟩)⟩)⟩)⟩)⟩)⟩) (List.forall_mem_cons.mpr ⟨Or.inl (List.mem_cons_of_mem _ (List.mem_cons_of_mem _ (List.mem_cons_of_mem _ (List.mem_cons_of_mem _ (List.mem_cons_of_mem _ List.mem_cons_self))))), (List.forall_mem_cons.mpr ⟨Or.inl (List.mem_cons_of_mem _ (List.mem_cons_of_mem _ (List.mem_cons_of_mem _ (List.mem_cons_of_mem _ List.mem_cons_self)))), (List.forall_mem_cons.mpr ⟨Or.inl List.mem_cons_self, (List.forall_mem_cons.mpr ⟨Or.inl (List.mem_cons_of_mem _ List.mem_cons_self), (List.forall_mem_cons.mpr ⟨Or.inl (List.mem_cons_of_mem _ (List.mem_cons_of_mem _ List.mem_cons_self)), (List.forall_mem_cons.mpr ⟨Or.inl (List.mem_cons_of_mem _ (List.mem_cons_of_mem _ (List.mem_cons_of_mem _ List.mem_cons_self))), (fun _ h => nomatch h)⟩)⟩)⟩)⟩)⟩)⟩)) h
set_option maxRecDepth 100000 in
set_option maxHeartbeats 4000000 in
theorem bk_379_231 {b : Bool} {d : Nat} {x1 x2 x3 x6 : Int32} {e : Nat → x_E} {g : Nat → Int32} {q : Nat → Int64} {c : Nat → Nat → Int32} {l : Nat → Nat → Int64} {R : Option Value × List x_E} (h1 : xCn .le x6 ((Int8.ofInt (80)).toInt32) = true → rr b e d 379 246 [(0, .ref 49), (2, .int x2), (3, .int x3)] [] g q c l R) (h2 : ¬ xCn .le x6 ((Int8.ofInt (80)).toInt32) = true → rr b e d 379 238 [(0, .ref 49), (1, .int x1)] [] g q c l R) : rr b e d 379 231 [(0, .ref 49), (1, .int x1), (2, .int x2), (3, .int x3), (6, .int x6)] [] g q c l R := by
  have key : ∀ f, nrun xZ (xY (xfm b)) xDT (f + 3) d 379 231 [(0, .ref 49), (1, .int x1), (2, .int x2), (3, .int x3), (6, .int x6)] [] (rH e g q c l) 0 0 = nrun xZ (xY (xfm b)) xDT f d 379 (if xCn .le x6 ((Int8.ofInt (80)).toInt32) = true then 246 else 238) [(0, .ref 49), (1, .int x1), (2, .int x2), (3, .int x3), (6, .int x6)] [] (rH e g q c l) 0 0 := by
    intro f
    obtain ⟨y, cb, hj⟩ := mq_379
    rw [n_step (st' := [.int x6]) (pc' := 233) (lv' := [(0, .ref 49), (1, .int x1), (2, .int x2), (3, .int x3), (6, .int x6)]) (hp' := rH e g q c l) (i := .iload 6) (len := 2) rfl hj rfl rfl rfl]
    rw [n_step (st' := [.int (Int8.ofInt (80)).toInt32, .int x6]) (pc' := 235) (lv' := [(0, .ref 49), (1, .int x1), (2, .int x2), (3, .int x3), (6, .int x6)]) (hp' := rH e g q c l) (i := .bipush 80) (len := 2) rfl hj rfl rfl rfl]
    rw [n_step (st' := []) (pc' := (if xCn .le x6 ((Int8.ofInt (80)).toInt32) = true then 246 else 238)) (lv' := [(0, .ref 49), (1, .int x1), (2, .int x2), (3, .int x3), (6, .int x6)]) (hp' := rH e g q c l) (i := .if_icmp .le 11) (len := 3) rfl hj rfl rfl rfl]
  by_cases hc : xCn .le x6 ((Int8.ofInt (80)).toInt32) = true
  · obtain ⟨f, h⟩ := h1 hc
    refine ⟨f + 3, ?_⟩
    rw [key, if_pos hc]
    exact nrun_ext f f _ _ R 379 246 [(0, .ref 49), (2, .int x2), (3, .int x3)] [(0, .ref 49), (1, .int x1), (2, .int x2), (3, .int x3), (6, .int x6)] [] _ 0 0 122 (Nat.le_refl _) (Nat.le_refl _) (Nat.le_of_ble_eq_true rfl) (lvR_mk [0, 2, 3] [0, 1, 2, 3, 6] rfl rfl (by decide) (by decide) (List.forall_mem_cons.mpr ⟨List.mem_cons_self, (List.forall_mem_cons.mpr ⟨(List.mem_cons_of_mem _ (List.mem_cons_of_mem _ List.mem_cons_self)), (List.forall_mem_cons.mpr ⟨(List.mem_cons_of_mem _ (List.mem_cons_of_mem _ (List.mem_cons_of_mem _ List.mem_cons_self))), (fun _ h => nomatch h)⟩)⟩)⟩) (List.forall_mem_cons.mpr ⟨Or.inl List.mem_cons_self, (List.forall_mem_cons.mpr ⟨Or.inr rfl, (List.forall_mem_cons.mpr ⟨Or.inl (List.mem_cons_of_mem _ List.mem_cons_self), (List.forall_mem_cons.mpr ⟨Or.inl (List.mem_cons_of_mem _ (List.mem_cons_of_mem _ List.mem_cons_self)), (List.forall_mem_cons.mpr ⟨Or.inr rfl, (fun _ h => nomatch h)⟩)⟩)⟩)⟩)⟩)) h
  · obtain ⟨f, h⟩ := h2 hc
    refine ⟨f + 3, ?_⟩
    rw [key, if_neg hc]
    exact nrun_ext f f _ _ R 379 238 [(0, .ref 49), (1, .int x1)] [(0, .ref 49), (1, .int x1), (2, .int x2), (3, .int x3), (6, .int x6)] [] _ 0 0 122 (Nat.le_refl _) (Nat.le_refl _) (Nat.le_of_ble_eq_true rfl) (lvR_mk [0, 1] [0, 1, 2, 3, 6] rfl rfl (by decide) (by decide) (List.forall_mem_cons.mpr ⟨List.mem_cons_self, (List.forall_mem_cons.mpr ⟨(List.mem_cons_of_mem _ List.mem_cons_self), (fun _ h => nomatch h)⟩)⟩) (List.forall_mem_cons.mpr ⟨Or.inl List.mem_cons_self, (List.forall_mem_cons.mpr ⟨Or.inl (List.mem_cons_of_mem _ List.mem_cons_self), (List.forall_mem_cons.mpr ⟨Or.inr rfl, (List.forall_mem_cons.mpr ⟨Or.inr rfl, (List.forall_mem_cons.mpr ⟨Or.inr rfl, (fun _ h => nomatch h)⟩)⟩)⟩)⟩)⟩)) h
set_option maxRecDepth 100000 in
set_option maxHeartbeats 4000000 in
theorem bk_379_238 {b : Bool} {d : Nat} {x1 : Int32} {e : Nat → x_E} {g : Nat → Int32} {q : Nat → Int64} {c : Nat → Nat → Int32} {l : Nat → Nat → Int64} {g' : Nat → Int32} {q' : Nat → Int64} {c' : Nat → Nat → Int32} {l' : Nat → Nat → Int64} {R : Option Value × List x_E} (hc : rr b e d 349 0 [(0, .ref 49), (1, .int (Int32.ofInt (5))), (2, .int x1)] [] g q c l (none, rH e g' q' c' l')) (h : rr b e (d + 1) 379 244 [] [] g' q' c' l' R) : rr b e (d + 1) 379 238 [(0, .ref 49), (1, .int x1)] [] g q c l R := by
  obtain ⟨f1, hc⟩ := hc
  obtain ⟨f2, h⟩ := h
  obtain ⟨f, hf1, hf2⟩ : ∃ f, f1 ≤ f ∧ f2 ≤ f := ⟨max f1 f2, Nat.le_max_left _ _, Nat.le_max_right _ _⟩
  have hc := nrun_fuel f1 f _ _ _ _ _ _ _ _ _ hf1 hc
  have h := nrun_fuel f2 f _ _ _ _ _ _ _ _ _ hf2 h
  refine ⟨f + 4, ?_⟩
  obtain ⟨y, cb, hj⟩ := mq_379
  rw [n_step (st' := [.ref 49]) (pc' := 239) (lv' := [(0, .ref 49), (1, .int x1)]) (hp' := rH e g q c l) (i := .aload_n 0) (len := 1) rfl hj rfl rfl rfl]
  rw [n_step (st' := [.int (Int32.ofInt (5)), .ref 49]) (pc' := 240) (lv' := [(0, .ref 49), (1, .int x1)]) (hp' := rH e g q c l) (i := .iconst 5) (len := 1) rfl hj rfl rfl rfl]
  rw [n_step (st' := [.int x1, .int (Int32.ofInt (5)), .ref 49]) (pc' := 241) (lv' := [(0, .ref 49), (1, .int x1)]) (hp' := rH e g q c l) (i := .iload_n 1) (len := 1) rfl hj rfl rfl rfl]
  obtain ⟨y2, cb2, hj2⟩ := mq_349
  rw [n_call (f := f) (d := d) (ki := 0) (idx := 427) (j' := 349) (kd := 0) (M' := (y2, cb2, 3, none, 12, 2, 0, 0)) (avs := [.ref 49, .int (Int32.ofInt (5)), .int x1]) (r := []) (rv := none) (hp1 := rH e g' q' c' l') rfl hj rfl rfl rfl rfl (rq_n rfl rfl hj2 rfl rfl) rfl hc (Nat.le_of_ble_eq_true rfl)]
  exact nrun_ext f f _ _ R 379 244 [] [(0, .ref 49), (1, .int x1)] [] _ 0 0 122 (Nat.le_refl _) (Nat.le_refl _) (Nat.le_of_ble_eq_true rfl) (lvR_mk [] [0, 1] rfl rfl (by decide) (by decide) (fun _ h => nomatch h) (List.forall_mem_cons.mpr ⟨Or.inr rfl, (List.forall_mem_cons.mpr ⟨Or.inr rfl, (fun _ h => nomatch h)⟩)⟩)) h
set_option maxRecDepth 100000 in
set_option maxHeartbeats 4000000 in
theorem bk_379_244 {b : Bool} {d : Nat} {e : Nat → x_E} {g : Nat → Int32} {q : Nat → Int64} {c : Nat → Nat → Int32} {l : Nat → Nat → Int64} : rr b e d 379 244 [] [] g q c l (some (.int (Int32.ofInt (-1))), rH e g q c l) := by
  refine ⟨0 + 2, ?_⟩
  obtain ⟨y, cb, hj⟩ := mq_379
  rw [n_step (st' := [.int (Int32.ofInt (-1))]) (pc' := 245) (lv' := []) (hp' := rH e g q c l) (i := .iconst (-1)) (len := 1) rfl hj rfl rfl rfl]
  exact n_ret rfl hj rfl rfl (x_ret rfl)
set_option maxRecDepth 100000 in
set_option maxHeartbeats 4000000 in
theorem bk_379_246 {b : Bool} {d : Nat} {x2 x3 : Int32} {e : Nat → x_E} {g : Nat → Int32} {q : Nat → Int64} {c : Nat → Nat → Int32} {l : Nat → Nat → Int64} {g' : Nat → Int32} {q' : Nat → Int64} {c' : Nat → Nat → Int32} {l' : Nat → Nat → Int64} {v : Int32} {R : Option Value × List x_E} (hc : rr b e d 333 0 [(0, .ref 49)] [] g q c l (some (.int v), rH e g' q' c' l')) (h : rr b e (d + 1) 379 250 [(0, .ref 49), (2, .int x2), (3, .int x3)] [.int v] g' q' c' l' R) : rr b e (d + 1) 379 246 [(0, .ref 49), (2, .int x2), (3, .int x3)] [] g q c l R := by
  obtain ⟨f1, hc⟩ := hc
  obtain ⟨f2, h⟩ := h
  obtain ⟨f, hf1, hf2⟩ : ∃ f, f1 ≤ f ∧ f2 ≤ f := ⟨max f1 f2, Nat.le_max_left _ _, Nat.le_max_right _ _⟩
  have hc := nrun_fuel f1 f _ _ _ _ _ _ _ _ _ hf1 hc
  have h := nrun_fuel f2 f _ _ _ _ _ _ _ _ _ hf2 h
  refine ⟨f + 2, ?_⟩
  obtain ⟨y, cb, hj⟩ := mq_379
  rw [n_step (st' := [.ref 49]) (pc' := 247) (lv' := [(0, .ref 49), (2, .int x2), (3, .int x3)]) (hp' := rH e g q c l) (i := .aload_n 0) (len := 1) rfl hj rfl rfl rfl]
  obtain ⟨y2, cb2, hj2⟩ := mq_333
  rw [n_call (f := f) (d := d) (ki := 0) (idx := 380) (j' := 333) (kd := 0) (M' := (y2, cb2, 1, some .int, 12, 0, 0, 0)) (avs := [.ref 49]) (r := []) (rv := some (.int v)) (hp1 := rH e g' q' c' l') rfl hj rfl rfl rfl rfl (rq_n rfl rfl hj2 rfl rfl) rfl hc (Nat.le_of_ble_eq_true rfl)]
  exact h
set_option maxRecDepth 100000 in
set_option maxHeartbeats 4000000 in
theorem bk_379_250 {b : Bool} {d : Nat} {t0 x2 x3 : Int32} {e : Nat → x_E} {g : Nat → Int32} {q : Nat → Int64} {c : Nat → Nat → Int32} {l : Nat → Nat → Int64} {g' : Nat → Int32} {q' : Nat → Int64} {c' : Nat → Nat → Int32} {l' : Nat → Nat → Int64} {R : Option Value × List x_E} (hc : rr b e d 334 0 [(0, .ref 49), (1, .int ((Int8.ofInt (10)).toInt32 + x3))] [] g q c l (none, rH e g' q' c' l')) (h : rr b e (d + 1) 379 260 [(0, .ref 49), (2, .int x2), (3, .int x3), (7, .int t0)] [] g' q' c' l' R) : rr b e (d + 1) 379 250 [(0, .ref 49), (2, .int x2), (3, .int x3)] [.int t0] g q c l R := by
  obtain ⟨f1, hc⟩ := hc
  obtain ⟨f2, h⟩ := h
  obtain ⟨f, hf1, hf2⟩ : ∃ f, f1 ≤ f ∧ f2 ≤ f := ⟨max f1 f2, Nat.le_max_left _ _, Nat.le_max_right _ _⟩
  have hc := nrun_fuel f1 f _ _ _ _ _ _ _ _ _ hf1 hc
  have h := nrun_fuel f2 f _ _ _ _ _ _ _ _ _ hf2 h
  refine ⟨f + 6, ?_⟩
  obtain ⟨y, cb, hj⟩ := mq_379
  rw [n_step (st' := []) (pc' := 252) (lv' := [(7, .int t0), (0, .ref 49), (2, .int x2), (3, .int x3)]) (hp' := rH e g q c l) (i := .istore 7) (len := 2) rfl hj rfl rfl rfl]
  rw [n_step (st' := [.ref 49]) (pc' := 253) (lv' := [(7, .int t0), (0, .ref 49), (2, .int x2), (3, .int x3)]) (hp' := rH e g q c l) (i := .aload_n 0) (len := 1) rfl hj rfl rfl rfl]
  rw [n_step (st' := [.int (Int8.ofInt (10)).toInt32, .ref 49]) (pc' := 255) (lv' := [(7, .int t0), (0, .ref 49), (2, .int x2), (3, .int x3)]) (hp' := rH e g q c l) (i := .bipush 10) (len := 2) rfl hj rfl rfl rfl]
  rw [n_step (st' := [.int x3, .int (Int8.ofInt (10)).toInt32, .ref 49]) (pc' := 256) (lv' := [(7, .int t0), (0, .ref 49), (2, .int x2), (3, .int x3)]) (hp' := rH e g q c l) (i := .iload_n 3) (len := 1) rfl hj rfl rfl rfl]
  rw [n_step (st' := [.int ((Int8.ofInt (10)).toInt32 + x3), .ref 49]) (pc' := 257) (lv' := [(7, .int t0), (0, .ref 49), (2, .int x2), (3, .int x3)]) (hp' := rH e g q c l) (i := .iadd) (len := 1) rfl hj rfl rfl rfl]
  obtain ⟨y2, cb2, hj2⟩ := mq_334
  rw [n_call (f := f) (d := d) (ki := 0) (idx := 377) (j' := 334) (kd := 0) (M' := (y2, cb2, 2, none, 12, 1, 0, 0)) (avs := [.ref 49, .int ((Int8.ofInt (10)).toInt32 + x3)]) (r := []) (rv := none) (hp1 := rH e g' q' c' l') rfl hj rfl rfl rfl rfl (rq_n rfl rfl hj2 rfl rfl) rfl hc (Nat.le_of_ble_eq_true rfl)]
  exact nrun_ext f f _ _ R 379 260 [(0, .ref 49), (2, .int x2), (3, .int x3), (7, .int t0)] [(7, .int t0), (0, .ref 49), (2, .int x2), (3, .int x3)] [] _ 0 0 122 (Nat.le_refl _) (Nat.le_refl _) (Nat.le_of_ble_eq_true rfl) (lvR_mk [0, 2, 3, 7] [7, 0, 2, 3] rfl rfl (by decide) (by decide) (List.forall_mem_cons.mpr ⟨(List.mem_cons_of_mem _ List.mem_cons_self), (List.forall_mem_cons.mpr ⟨(List.mem_cons_of_mem _ (List.mem_cons_of_mem _ List.mem_cons_self)), (List.forall_mem_cons.mpr ⟨(List.mem_cons_of_mem _ (List.mem_cons_of_mem _ (List.mem_cons_of_mem _ List.mem_cons_self))), (List.forall_mem_cons.mpr ⟨List.mem_cons_self, (fun _ h => nomatch h)⟩)⟩)⟩)⟩) (List.forall_mem_cons.mpr ⟨Or.inl (List.mem_cons_of_mem _ (List.mem_cons_of_mem _ (List.mem_cons_of_mem _ List.mem_cons_self))), (List.forall_mem_cons.mpr ⟨Or.inl List.mem_cons_self, (List.forall_mem_cons.mpr ⟨Or.inl (List.mem_cons_of_mem _ List.mem_cons_self), (List.forall_mem_cons.mpr ⟨Or.inl (List.mem_cons_of_mem _ (List.mem_cons_of_mem _ List.mem_cons_self)), (fun _ h => nomatch h)⟩)⟩)⟩)⟩)) h
set_option maxRecDepth 100000 in
set_option maxHeartbeats 4000000 in
theorem bk_379_260 {b : Bool} {d : Nat} {x2 x3 x7 : Int32} {e : Nat → x_E} {g : Nat → Int32} {q : Nat → Int64} {c : Nat → Nat → Int32} {l : Nat → Nat → Int64} {R : Option Value × List x_E} (h : rr b e d 379 263 [(0, .ref 49), (2, .int x2), (3, .int x3), (7, .int x7), (8, .int (Int32.ofInt (0)))] [] g q c l R) : rr b e d 379 260 [(0, .ref 49), (2, .int x2), (3, .int x3), (7, .int x7)] [] g q c l R := by
  obtain ⟨f, h⟩ := h
  refine ⟨f + 2, ?_⟩
  obtain ⟨y, cb, hj⟩ := mq_379
  rw [n_step (st' := [.int (Int32.ofInt (0))]) (pc' := 261) (lv' := [(0, .ref 49), (2, .int x2), (3, .int x3), (7, .int x7)]) (hp' := rH e g q c l) (i := .iconst 0) (len := 1) rfl hj rfl rfl rfl]
  rw [n_step (st' := []) (pc' := 263) (lv' := [(8, .int (Int32.ofInt (0))), (0, .ref 49), (2, .int x2), (3, .int x3), (7, .int x7)]) (hp' := rH e g q c l) (i := .istore 8) (len := 2) rfl hj rfl rfl rfl]
  exact nrun_ext f f _ _ R 379 263 [(0, .ref 49), (2, .int x2), (3, .int x3), (7, .int x7), (8, .int (Int32.ofInt (0)))] [(8, .int (Int32.ofInt (0))), (0, .ref 49), (2, .int x2), (3, .int x3), (7, .int x7)] [] _ 0 0 122 (Nat.le_refl _) (Nat.le_refl _) (Nat.le_of_ble_eq_true rfl) (lvR_mk [0, 2, 3, 7, 8] [8, 0, 2, 3, 7] rfl rfl (by decide) (by decide) (List.forall_mem_cons.mpr ⟨(List.mem_cons_of_mem _ List.mem_cons_self), (List.forall_mem_cons.mpr ⟨(List.mem_cons_of_mem _ (List.mem_cons_of_mem _ List.mem_cons_self)), (List.forall_mem_cons.mpr ⟨(List.mem_cons_of_mem _ (List.mem_cons_of_mem _ (List.mem_cons_of_mem _ List.mem_cons_self))), (List.forall_mem_cons.mpr ⟨(List.mem_cons_of_mem _ (List.mem_cons_of_mem _ (List.mem_cons_of_mem _ (List.mem_cons_of_mem _ List.mem_cons_self)))), (List.forall_mem_cons.mpr ⟨List.mem_cons_self, (fun _ h => nomatch h)⟩)⟩)⟩)⟩)⟩) (List.forall_mem_cons.mpr ⟨Or.inl (List.mem_cons_of_mem _ (List.mem_cons_of_mem _ (List.mem_cons_of_mem _ (List.mem_cons_of_mem _ List.mem_cons_self)))), (List.forall_mem_cons.mpr ⟨Or.inl List.mem_cons_self, (List.forall_mem_cons.mpr ⟨Or.inl (List.mem_cons_of_mem _ List.mem_cons_self), (List.forall_mem_cons.mpr ⟨Or.inl (List.mem_cons_of_mem _ (List.mem_cons_of_mem _ List.mem_cons_self)), (List.forall_mem_cons.mpr ⟨Or.inl (List.mem_cons_of_mem _ (List.mem_cons_of_mem _ (List.mem_cons_of_mem _ List.mem_cons_self))), (fun _ h => nomatch h)⟩)⟩)⟩)⟩)⟩)) h
set_option maxRecDepth 100000 in
set_option maxHeartbeats 4000000 in
theorem bk_379_263 {b : Bool} {d : Nat} {x2 x3 x7 x8 : Int32} {e : Nat → x_E} {g : Nat → Int32} {q : Nat → Int64} {c : Nat → Nat → Int32} {l : Nat → Nat → Int64} {R : Option Value × List x_E} (h1 : xCn .ge x8 x3 = true → rr b e d 379 288 [(0, .ref 49), (7, .int x7)] [] g q c l R) (h2 : ¬ xCn .ge x8 x3 = true → rr b e d 379 269 [(0, .ref 49), (2, .int x2), (3, .int x3), (7, .int x7), (8, .int x8)] [] g q c l R) : rr b e d 379 263 [(0, .ref 49), (2, .int x2), (3, .int x3), (7, .int x7), (8, .int x8)] [] g q c l R := by
  have key : ∀ f, nrun xZ (xY (xfm b)) xDT (f + 3) d 379 263 [(0, .ref 49), (2, .int x2), (3, .int x3), (7, .int x7), (8, .int x8)] [] (rH e g q c l) 0 0 = nrun xZ (xY (xfm b)) xDT f d 379 (if xCn .ge x8 x3 = true then 288 else 269) [(0, .ref 49), (2, .int x2), (3, .int x3), (7, .int x7), (8, .int x8)] [] (rH e g q c l) 0 0 := by
    intro f
    obtain ⟨y, cb, hj⟩ := mq_379
    rw [n_step (st' := [.int x8]) (pc' := 265) (lv' := [(0, .ref 49), (2, .int x2), (3, .int x3), (7, .int x7), (8, .int x8)]) (hp' := rH e g q c l) (i := .iload 8) (len := 2) rfl hj rfl rfl rfl]
    rw [n_step (st' := [.int x3, .int x8]) (pc' := 266) (lv' := [(0, .ref 49), (2, .int x2), (3, .int x3), (7, .int x7), (8, .int x8)]) (hp' := rH e g q c l) (i := .iload_n 3) (len := 1) rfl hj rfl rfl rfl]
    rw [n_step (st' := []) (pc' := (if xCn .ge x8 x3 = true then 288 else 269)) (lv' := [(0, .ref 49), (2, .int x2), (3, .int x3), (7, .int x7), (8, .int x8)]) (hp' := rH e g q c l) (i := .if_icmp .ge 22) (len := 3) rfl hj rfl rfl rfl]
  by_cases hc : xCn .ge x8 x3 = true
  · obtain ⟨f, h⟩ := h1 hc
    refine ⟨f + 3, ?_⟩
    rw [key, if_pos hc]
    exact nrun_ext f f _ _ R 379 288 [(0, .ref 49), (7, .int x7)] [(0, .ref 49), (2, .int x2), (3, .int x3), (7, .int x7), (8, .int x8)] [] _ 0 0 122 (Nat.le_refl _) (Nat.le_refl _) (Nat.le_of_ble_eq_true rfl) (lvR_mk [0, 7] [0, 2, 3, 7, 8] rfl rfl (by decide) (by decide) (List.forall_mem_cons.mpr ⟨List.mem_cons_self, (List.forall_mem_cons.mpr ⟨(List.mem_cons_of_mem _ (List.mem_cons_of_mem _ (List.mem_cons_of_mem _ List.mem_cons_self))), (fun _ h => nomatch h)⟩)⟩) (List.forall_mem_cons.mpr ⟨Or.inl List.mem_cons_self, (List.forall_mem_cons.mpr ⟨Or.inr rfl, (List.forall_mem_cons.mpr ⟨Or.inr rfl, (List.forall_mem_cons.mpr ⟨Or.inl (List.mem_cons_of_mem _ List.mem_cons_self), (List.forall_mem_cons.mpr ⟨Or.inr rfl, (fun _ h => nomatch h)⟩)⟩)⟩)⟩)⟩)) h
  · obtain ⟨f, h⟩ := h2 hc
    refine ⟨f + 3, ?_⟩
    rw [key, if_neg hc]
    exact h
set_option maxRecDepth 100000 in
set_option maxHeartbeats 4000000 in
theorem bk_379_269 {b : Bool} {d : Nat} {x2 x3 x7 x8 : Int32} {e : Nat → x_E} {g : Nat → Int32} {q : Nat → Int64} {c : Nat → Nat → Int32} {l : Nat → Nat → Int64} {g' : Nat → Int32} {q' : Nat → Int64} {c' : Nat → Nat → Int32} {l' : Nat → Nat → Int64} {R : Option Value × List x_E} (hz0 : ¬ ((x2 + x8) < 0 ∨ 400 ≤ ((x2 + x8)).toNatClampNeg)) (hc : rr b e d 364 0 [(0, .ref 49), (1, .int (c 75 ((x2 + x8)).toNatClampNeg))] [] g q c l (none, rH e g' q' c' l')) (h : rr b e (d + 1) 379 282 [(0, .ref 49), (2, .int x2), (3, .int x3), (7, .int x7), (8, .int x8)] [] g' q' c' l' R) : rr b e (d + 1) 379 269 [(0, .ref 49), (2, .int x2), (3, .int x3), (7, .int x7), (8, .int x8)] [] g q c l R := by
  obtain ⟨f1, hc⟩ := hc
  obtain ⟨f2, h⟩ := h
  obtain ⟨f, hf1, hf2⟩ : ∃ f, f1 ≤ f ∧ f2 ≤ f := ⟨max f1 f2, Nat.le_max_left _ _, Nat.le_max_right _ _⟩
  have hc := nrun_fuel f1 f _ _ _ _ _ _ _ _ _ hf1 hc
  have h := nrun_fuel f2 f _ _ _ _ _ _ _ _ _ hf2 h
  refine ⟨f + 8, ?_⟩
  obtain ⟨y, cb, hj⟩ := mq_379
  rw [n_step (st' := [.ref 49]) (pc' := 270) (lv' := [(0, .ref 49), (2, .int x2), (3, .int x3), (7, .int x7), (8, .int x8)]) (hp' := rH e g q c l) (i := .aload_n 0) (len := 1) rfl hj rfl rfl rfl]
  rw [n_step (st' := [.ref 49, .ref 49]) (pc' := 271) (lv' := [(0, .ref 49), (2, .int x2), (3, .int x3), (7, .int x7), (8, .int x8)]) (hp' := rH e g q c l) (i := .aload_n 0) (len := 1) rfl hj rfl rfl rfl]
  rw [n_get (st' := [.ref 75, .ref 49]) (pc' := 274) (lv' := [(0, .ref 49), (2, .int x2), (3, .int x3), (7, .int x7), (8, .int x8)]) (hp' := rH e g q c l) (i := .getfield 93) (len := 3) rfl hj rfl rfl rfl rfl]
  rw [n_step (st' := [.int x2, .ref 75, .ref 49]) (pc' := 275) (lv' := [(0, .ref 49), (2, .int x2), (3, .int x3), (7, .int x7), (8, .int x8)]) (hp' := rH e g q c l) (i := .iload_n 2) (len := 1) rfl hj rfl rfl rfl]
  rw [n_step (st' := [.int x8, .int x2, .ref 75, .ref 49]) (pc' := 277) (lv' := [(0, .ref 49), (2, .int x2), (3, .int x3), (7, .int x7), (8, .int x8)]) (hp' := rH e g q c l) (i := .iload 8) (len := 2) rfl hj rfl rfl rfl]
  rw [n_step (st' := [.int (x2 + x8), .ref 75, .ref 49]) (pc' := 278) (lv' := [(0, .ref 49), (2, .int x2), (3, .int x3), (7, .int x7), (8, .int x8)]) (hp' := rH e g q c l) (i := .iadd) (len := 1) rfl hj rfl rfl rfl]
  rw [n_ial (st' := [.int (c 75 ((x2 + x8)).toNatClampNeg), .ref 49]) rfl hj (ald_75 hz0)]
  obtain ⟨y2, cb2, hj2⟩ := mq_364
  rw [n_call (f := f) (d := d) (ki := 0) (idx := 387) (j' := 364) (kd := 0) (M' := (y2, cb2, 3, none, 12, 1, 0, 0)) (avs := [.ref 49, .int (c 75 ((x2 + x8)).toNatClampNeg)]) (r := []) (rv := none) (hp1 := rH e g' q' c' l') rfl hj rfl rfl rfl rfl (rq_n rfl rfl hj2 rfl rfl) rfl hc (Nat.le_of_ble_eq_true rfl)]
  exact h
set_option maxRecDepth 100000 in
set_option maxHeartbeats 4000000 in
theorem bk_379_282 {b : Bool} {d : Nat} {x2 x3 x7 x8 : Int32} {e : Nat → x_E} {g : Nat → Int32} {q : Nat → Int64} {c : Nat → Nat → Int32} {l : Nat → Nat → Int64} {R : Option Value × List x_E} (h : rr b e d 379 263 [(0, .ref 49), (2, .int x2), (3, .int x3), (7, .int x7), (8, .int (x8 + Int32.ofInt (1)))] [] g q c l R) : rr b e d 379 282 [(0, .ref 49), (2, .int x2), (3, .int x3), (7, .int x7), (8, .int x8)] [] g q c l R := by
  obtain ⟨f, h⟩ := h
  refine ⟨f + 2, ?_⟩
  obtain ⟨y, cb, hj⟩ := mq_379
  rw [n_step (st' := []) (pc' := 285) (lv' := [(8, .int (x8 + Int32.ofInt (1))), (0, .ref 49), (2, .int x2), (3, .int x3), (7, .int x7)]) (hp' := rH e g q c l) (i := .iinc 8 1) (len := 3) rfl hj rfl rfl rfl]
  rw [n_step (st' := []) (pc' := 263) (lv' := [(8, .int (x8 + Int32.ofInt (1))), (0, .ref 49), (2, .int x2), (3, .int x3), (7, .int x7)]) (hp' := rH e g q c l) (i := .goto (-22)) (len := 3) rfl hj rfl rfl rfl]
  exact nrun_ext f f _ _ R 379 263 [(0, .ref 49), (2, .int x2), (3, .int x3), (7, .int x7), (8, .int (x8 + Int32.ofInt (1)))] [(8, .int (x8 + Int32.ofInt (1))), (0, .ref 49), (2, .int x2), (3, .int x3), (7, .int x7)] [] _ 0 0 122 (Nat.le_refl _) (Nat.le_refl _) (Nat.le_of_ble_eq_true rfl) (lvR_mk [0, 2, 3, 7, 8] [8, 0, 2, 3, 7] rfl rfl (by decide) (by decide) (List.forall_mem_cons.mpr ⟨(List.mem_cons_of_mem _ List.mem_cons_self), (List.forall_mem_cons.mpr ⟨(List.mem_cons_of_mem _ (List.mem_cons_of_mem _ List.mem_cons_self)), (List.forall_mem_cons.mpr ⟨(List.mem_cons_of_mem _ (List.mem_cons_of_mem _ (List.mem_cons_of_mem _ List.mem_cons_self))), (List.forall_mem_cons.mpr ⟨(List.mem_cons_of_mem _ (List.mem_cons_of_mem _ (List.mem_cons_of_mem _ (List.mem_cons_of_mem _ List.mem_cons_self)))), (List.forall_mem_cons.mpr ⟨List.mem_cons_self, (fun _ h => nomatch h)⟩)⟩)⟩)⟩)⟩) (List.forall_mem_cons.mpr ⟨Or.inl (List.mem_cons_of_mem _ (List.mem_cons_of_mem _ (List.mem_cons_of_mem _ (List.mem_cons_of_mem _ List.mem_cons_self)))), (List.forall_mem_cons.mpr ⟨Or.inl List.mem_cons_self, (List.forall_mem_cons.mpr ⟨Or.inl (List.mem_cons_of_mem _ List.mem_cons_self), (List.forall_mem_cons.mpr ⟨Or.inl (List.mem_cons_of_mem _ (List.mem_cons_of_mem _ List.mem_cons_self)), (List.forall_mem_cons.mpr ⟨Or.inl (List.mem_cons_of_mem _ (List.mem_cons_of_mem _ (List.mem_cons_of_mem _ List.mem_cons_self))), (fun _ h => nomatch h)⟩)⟩)⟩)⟩)⟩)) h
set_option maxRecDepth 100000 in
set_option maxHeartbeats 4000000 in
theorem bk_379_288 {b : Bool} {d : Nat} {x7 : Int32} {e : Nat → x_E} {g : Nat → Int32} {q : Nat → Int64} {c : Nat → Nat → Int32} {l : Nat → Nat → Int64} {g' : Nat → Int32} {q' : Nat → Int64} {c' : Nat → Nat → Int32} {l' : Nat → Nat → Int64} {v : Int32} {R : Option Value × List x_E} (hc : rr b e d 335 0 [(0, .ref 49), (1, .int x7)] [] g q c l (some (.int v), rH e g' q' c' l')) (h : rr b e (d + 1) 379 294 [] [.int v] g' q' c' l' R) : rr b e (d + 1) 379 288 [(0, .ref 49), (7, .int x7)] [] g q c l R := by
  obtain ⟨f1, hc⟩ := hc
  obtain ⟨f2, h⟩ := h
  obtain ⟨f, hf1, hf2⟩ : ∃ f, f1 ≤ f ∧ f2 ≤ f := ⟨max f1 f2, Nat.le_max_left _ _, Nat.le_max_right _ _⟩
  have hc := nrun_fuel f1 f _ _ _ _ _ _ _ _ _ hf1 hc
  have h := nrun_fuel f2 f _ _ _ _ _ _ _ _ _ hf2 h
  refine ⟨f + 3, ?_⟩
  obtain ⟨y, cb, hj⟩ := mq_379
  rw [n_step (st' := [.ref 49]) (pc' := 289) (lv' := [(0, .ref 49), (7, .int x7)]) (hp' := rH e g q c l) (i := .aload_n 0) (len := 1) rfl hj rfl rfl rfl]
  rw [n_step (st' := [.int x7, .ref 49]) (pc' := 291) (lv' := [(0, .ref 49), (7, .int x7)]) (hp' := rH e g q c l) (i := .iload 7) (len := 2) rfl hj rfl rfl rfl]
  obtain ⟨y2, cb2, hj2⟩ := mq_335
  rw [n_call (f := f) (d := d) (ki := 0) (idx := 384) (j' := 335) (kd := 0) (M' := (y2, cb2, 2, some .int, 12, 1, 0, 0)) (avs := [.ref 49, .int x7]) (r := []) (rv := some (.int v)) (hp1 := rH e g' q' c' l') rfl hj rfl rfl rfl rfl (rq_n rfl rfl hj2 rfl rfl) rfl hc (Nat.le_of_ble_eq_true rfl)]
  exact nrun_ext f f _ _ R 379 294 [] [(0, .ref 49), (7, .int x7)] [.int v] _ 0 0 122 (Nat.le_refl _) (Nat.le_refl _) (Nat.le_of_ble_eq_true rfl) (lvR_mk [] [0, 7] rfl rfl (by decide) (by decide) (fun _ h => nomatch h) (List.forall_mem_cons.mpr ⟨Or.inr rfl, (List.forall_mem_cons.mpr ⟨Or.inr rfl, (fun _ h => nomatch h)⟩)⟩)) h
set_option maxRecDepth 100000 in
set_option maxHeartbeats 4000000 in
theorem bk_379_294 {b : Bool} {d : Nat} {t0 : Int32} {e : Nat → x_E} {g : Nat → Int32} {q : Nat → Int64} {c : Nat → Nat → Int32} {l : Nat → Nat → Int64} : rr b e d 379 294 [] [.int t0] g q c l (some (.int t0), rH e g q c l) := by
  refine ⟨0 + 1, ?_⟩
  obtain ⟨y, cb, hj⟩ := mq_379
  exact n_ret rfl hj rfl rfl (x_ret rfl)
set_option maxRecDepth 100000 in
set_option maxHeartbeats 4000000 in
theorem bk_380_0 {b : Bool} {d : Nat} {e : Nat → x_E} {g : Nat → Int32} {q : Nat → Int64} {c : Nat → Nat → Int32} {l : Nat → Nat → Int64} {R : Option Value × List x_E} (h1 : xCn .eq ((g 10)) ((Int32.ofInt (2))) = true → rr b e d 380 52 [] [] g q c l R) (h2 : ¬ xCn .eq ((g 10)) ((Int32.ofInt (2))) = true → rr b e d 380 8 [(0, .ref 49)] [] g q c l R) : rr b e d 380 0 [(0, .ref 49)] [] g q c l R := by
  have key : ∀ f, nrun xZ (xY (xfm b)) xDT (f + 4) d 380 0 [(0, .ref 49)] [] (rH e g q c l) 0 0 = nrun xZ (xY (xfm b)) xDT f d 380 (if xCn .eq ((g 10)) ((Int32.ofInt (2))) = true then 52 else 8) [(0, .ref 49)] [] (rH e g q c l) 0 0 := by
    intro f
    obtain ⟨y, cb, hj⟩ := mq_380
    rw [n_step (st' := [.ref 49]) (pc' := 1) (lv' := [(0, .ref 49)]) (hp' := rH e g q c l) (i := .aload_n 0) (len := 1) rfl hj rfl rfl rfl]
    rw [n_get (st' := [.int (g 10)]) (pc' := 4) (lv' := [(0, .ref 49)]) (hp' := rH e g q c l) (i := .getfield 273) (len := 3) rfl hj rfl rfl rfl rfl]
    rw [n_step (st' := [.int (Int32.ofInt (2)), .int (g 10)]) (pc' := 5) (lv' := [(0, .ref 49)]) (hp' := rH e g q c l) (i := .iconst 2) (len := 1) rfl hj rfl rfl rfl]
    rw [n_step (st' := []) (pc' := (if xCn .eq ((g 10)) ((Int32.ofInt (2))) = true then 52 else 8)) (lv' := [(0, .ref 49)]) (hp' := rH e g q c l) (i := .if_icmp .eq 47) (len := 3) rfl hj rfl rfl rfl]
  by_cases hc : xCn .eq ((g 10)) ((Int32.ofInt (2))) = true
  · obtain ⟨f, h⟩ := h1 hc
    refine ⟨f + 4, ?_⟩
    rw [key, if_pos hc]
    exact nrun_ext f f _ _ R 380 52 [] [(0, .ref 49)] [] _ 0 0 122 (Nat.le_refl _) (Nat.le_refl _) (Nat.le_of_ble_eq_true rfl) (lvR_mk [] [0] rfl rfl (by decide) (by decide) (fun _ h => nomatch h) (List.forall_mem_cons.mpr ⟨Or.inr rfl, (fun _ h => nomatch h)⟩)) h
  · obtain ⟨f, h⟩ := h2 hc
    refine ⟨f + 4, ?_⟩
    rw [key, if_neg hc]
    exact h
set_option maxRecDepth 100000 in
set_option maxHeartbeats 4000000 in
theorem bk_380_8 {b : Bool} {d : Nat} {e : Nat → x_E} {g : Nat → Int32} {q : Nat → Int64} {c : Nat → Nat → Int32} {l : Nat → Nat → Int64} {R : Option Value × List x_E} (h1 : xCn .eq ((g 10)) ((Int32.ofInt (1))) = true → rr b e d 380 52 [] [] g q c l R) (h2 : ¬ xCn .eq ((g 10)) ((Int32.ofInt (1))) = true → rr b e d 380 16 [(0, .ref 49)] [] g q c l R) : rr b e d 380 8 [(0, .ref 49)] [] g q c l R := by
  have key : ∀ f, nrun xZ (xY (xfm b)) xDT (f + 4) d 380 8 [(0, .ref 49)] [] (rH e g q c l) 0 0 = nrun xZ (xY (xfm b)) xDT f d 380 (if xCn .eq ((g 10)) ((Int32.ofInt (1))) = true then 52 else 16) [(0, .ref 49)] [] (rH e g q c l) 0 0 := by
    intro f
    obtain ⟨y, cb, hj⟩ := mq_380
    rw [n_step (st' := [.ref 49]) (pc' := 9) (lv' := [(0, .ref 49)]) (hp' := rH e g q c l) (i := .aload_n 0) (len := 1) rfl hj rfl rfl rfl]
    rw [n_get (st' := [.int (g 10)]) (pc' := 12) (lv' := [(0, .ref 49)]) (hp' := rH e g q c l) (i := .getfield 273) (len := 3) rfl hj rfl rfl rfl rfl]
    rw [n_step (st' := [.int (Int32.ofInt (1)), .int (g 10)]) (pc' := 13) (lv' := [(0, .ref 49)]) (hp' := rH e g q c l) (i := .iconst 1) (len := 1) rfl hj rfl rfl rfl]
    rw [n_step (st' := []) (pc' := (if xCn .eq ((g 10)) ((Int32.ofInt (1))) = true then 52 else 16)) (lv' := [(0, .ref 49)]) (hp' := rH e g q c l) (i := .if_icmp .eq 39) (len := 3) rfl hj rfl rfl rfl]
  by_cases hc : xCn .eq ((g 10)) ((Int32.ofInt (1))) = true
  · obtain ⟨f, h⟩ := h1 hc
    refine ⟨f + 4, ?_⟩
    rw [key, if_pos hc]
    exact nrun_ext f f _ _ R 380 52 [] [(0, .ref 49)] [] _ 0 0 122 (Nat.le_refl _) (Nat.le_refl _) (Nat.le_of_ble_eq_true rfl) (lvR_mk [] [0] rfl rfl (by decide) (by decide) (fun _ h => nomatch h) (List.forall_mem_cons.mpr ⟨Or.inr rfl, (fun _ h => nomatch h)⟩)) h
  · obtain ⟨f, h⟩ := h2 hc
    refine ⟨f + 4, ?_⟩
    rw [key, if_neg hc]
    exact h
set_option maxRecDepth 100000 in
set_option maxHeartbeats 4000000 in
theorem bk_380_16 {b : Bool} {d : Nat} {e : Nat → x_E} {g : Nat → Int32} {q : Nat → Int64} {c : Nat → Nat → Int32} {l : Nat → Nat → Int64} {g' : Nat → Int32} {q' : Nat → Int64} {c' : Nat → Nat → Int32} {l' : Nat → Nat → Int64} {v : Int32} {R : Option Value × List x_E} (hc : rr b e d 338 0 [(0, .ref 49), (1, .int (Int8.ofInt (7)).toInt32)] [] g q c l (some (.int v), rH e g' q' c' l')) (h : rr b e (d + 1) 380 22 [(0, .ref 49)] [.int v] g' q' c' l' R) : rr b e (d + 1) 380 16 [(0, .ref 49)] [] g q c l R := by
  obtain ⟨f1, hc⟩ := hc
  obtain ⟨f2, h⟩ := h
  obtain ⟨f, hf1, hf2⟩ : ∃ f, f1 ≤ f ∧ f2 ≤ f := ⟨max f1 f2, Nat.le_max_left _ _, Nat.le_max_right _ _⟩
  have hc := nrun_fuel f1 f _ _ _ _ _ _ _ _ _ hf1 hc
  have h := nrun_fuel f2 f _ _ _ _ _ _ _ _ _ hf2 h
  refine ⟨f + 3, ?_⟩
  obtain ⟨y, cb, hj⟩ := mq_380
  rw [n_step (st' := [.ref 49]) (pc' := 17) (lv' := [(0, .ref 49)]) (hp' := rH e g q c l) (i := .aload_n 0) (len := 1) rfl hj rfl rfl rfl]
  rw [n_step (st' := [.int (Int8.ofInt (7)).toInt32, .ref 49]) (pc' := 19) (lv' := [(0, .ref 49)]) (hp' := rH e g q c l) (i := .bipush 7) (len := 2) rfl hj rfl rfl rfl]
  obtain ⟨y2, cb2, hj2⟩ := mq_338
  rw [n_call (f := f) (d := d) (ki := 0) (idx := 350) (j' := 338) (kd := 0) (M' := (y2, cb2, 2, some .boolean, 12, 1, 0, 0)) (avs := [.ref 49, .int (Int8.ofInt (7)).toInt32]) (r := []) (rv := some (.int v)) (hp1 := rH e g' q' c' l') rfl hj rfl rfl rfl rfl (rq_n rfl rfl hj2 rfl rfl) rfl hc (Nat.le_of_ble_eq_true rfl)]
  exact h
set_option maxRecDepth 100000 in
set_option maxHeartbeats 4000000 in
theorem bk_380_22 {b : Bool} {d : Nat} {t0 : Int32} {e : Nat → x_E} {g : Nat → Int32} {q : Nat → Int64} {c : Nat → Nat → Int32} {l : Nat → Nat → Int64} {R : Option Value × List x_E} (h1 : xCn .ne t0 0 = true → rr b e d 380 52 [] [] g q c l R) (h2 : ¬ xCn .ne t0 0 = true → rr b e d 380 25 [(0, .ref 49)] [] g q c l R) : rr b e d 380 22 [(0, .ref 49)] [.int t0] g q c l R := by
  have key : ∀ f, nrun xZ (xY (xfm b)) xDT (f + 1) d 380 22 [(0, .ref 49)] [.int t0] (rH e g q c l) 0 0 = nrun xZ (xY (xfm b)) xDT f d 380 (if xCn .ne t0 0 = true then 52 else 25) [(0, .ref 49)] [] (rH e g q c l) 0 0 := by
    intro f
    obtain ⟨y, cb, hj⟩ := mq_380
    rw [n_step (st' := []) (pc' := (if xCn .ne t0 0 = true then 52 else 25)) (lv' := [(0, .ref 49)]) (hp' := rH e g q c l) (i := .ifCond .ne 30) (len := 3) rfl hj rfl rfl rfl]
  by_cases hc : xCn .ne t0 0 = true
  · obtain ⟨f, h⟩ := h1 hc
    refine ⟨f + 1, ?_⟩
    rw [key, if_pos hc]
    exact nrun_ext f f _ _ R 380 52 [] [(0, .ref 49)] [] _ 0 0 122 (Nat.le_refl _) (Nat.le_refl _) (Nat.le_of_ble_eq_true rfl) (lvR_mk [] [0] rfl rfl (by decide) (by decide) (fun _ h => nomatch h) (List.forall_mem_cons.mpr ⟨Or.inr rfl, (fun _ h => nomatch h)⟩)) h
  · obtain ⟨f, h⟩ := h2 hc
    refine ⟨f + 1, ?_⟩
    rw [key, if_neg hc]
    exact h
set_option maxRecDepth 100000 in
set_option maxHeartbeats 4000000 in
theorem bk_380_25 {b : Bool} {d : Nat} {e : Nat → x_E} {g : Nat → Int32} {q : Nat → Int64} {c : Nat → Nat → Int32} {l : Nat → Nat → Int64} {g' : Nat → Int32} {q' : Nat → Int64} {c' : Nat → Nat → Int32} {l' : Nat → Nat → Int64} {v : Int32} {R : Option Value × List x_E} (hc : rr b e d 344 0 [(0, .ref 49), (1, .int (Int8.ofInt (40)).toInt32)] [] g q c l (some (.int v), rH e g' q' c' l')) (h : rr b e (d + 1) 380 31 [(0, .ref 49)] [.int v] g' q' c' l' R) : rr b e (d + 1) 380 25 [(0, .ref 49)] [] g q c l R := by
  obtain ⟨f1, hc⟩ := hc
  obtain ⟨f2, h⟩ := h
  obtain ⟨f, hf1, hf2⟩ : ∃ f, f1 ≤ f ∧ f2 ≤ f := ⟨max f1 f2, Nat.le_max_left _ _, Nat.le_max_right _ _⟩
  have hc := nrun_fuel f1 f _ _ _ _ _ _ _ _ _ hf1 hc
  have h := nrun_fuel f2 f _ _ _ _ _ _ _ _ _ hf2 h
  refine ⟨f + 3, ?_⟩
  obtain ⟨y, cb, hj⟩ := mq_380
  rw [n_step (st' := [.ref 49]) (pc' := 26) (lv' := [(0, .ref 49)]) (hp' := rH e g q c l) (i := .aload_n 0) (len := 1) rfl hj rfl rfl rfl]
  rw [n_step (st' := [.int (Int8.ofInt (40)).toInt32, .ref 49]) (pc' := 28) (lv' := [(0, .ref 49)]) (hp' := rH e g q c l) (i := .bipush 40) (len := 2) rfl hj rfl rfl rfl]
  obtain ⟨y2, cb2, hj2⟩ := mq_344
  rw [n_call (f := f) (d := d) (ki := 0) (idx := 341) (j' := 344) (kd := 0) (M' := (y2, cb2, 2, some .boolean, 12, 1, 0, 0)) (avs := [.ref 49, .int (Int8.ofInt (40)).toInt32]) (r := []) (rv := some (.int v)) (hp1 := rH e g' q' c' l') rfl hj rfl rfl rfl rfl (rq_n rfl rfl hj2 rfl rfl) rfl hc (Nat.le_of_ble_eq_true rfl)]
  exact h
set_option maxRecDepth 100000 in
set_option maxHeartbeats 4000000 in
theorem bk_380_31 {b : Bool} {d : Nat} {t0 : Int32} {e : Nat → x_E} {g : Nat → Int32} {q : Nat → Int64} {c : Nat → Nat → Int32} {l : Nat → Nat → Int64} {R : Option Value × List x_E} (h1 : xCn .ne t0 0 = true → rr b e d 380 52 [] [] g q c l R) (h2 : ¬ xCn .ne t0 0 = true → rr b e d 380 34 [(0, .ref 49)] [] g q c l R) : rr b e d 380 31 [(0, .ref 49)] [.int t0] g q c l R := by
  have key : ∀ f, nrun xZ (xY (xfm b)) xDT (f + 1) d 380 31 [(0, .ref 49)] [.int t0] (rH e g q c l) 0 0 = nrun xZ (xY (xfm b)) xDT f d 380 (if xCn .ne t0 0 = true then 52 else 34) [(0, .ref 49)] [] (rH e g q c l) 0 0 := by
    intro f
    obtain ⟨y, cb, hj⟩ := mq_380
    rw [n_step (st' := []) (pc' := (if xCn .ne t0 0 = true then 52 else 34)) (lv' := [(0, .ref 49)]) (hp' := rH e g q c l) (i := .ifCond .ne 21) (len := 3) rfl hj rfl rfl rfl]
  by_cases hc : xCn .ne t0 0 = true
  · obtain ⟨f, h⟩ := h1 hc
    refine ⟨f + 1, ?_⟩
    rw [key, if_pos hc]
    exact nrun_ext f f _ _ R 380 52 [] [(0, .ref 49)] [] _ 0 0 122 (Nat.le_refl _) (Nat.le_refl _) (Nat.le_of_ble_eq_true rfl) (lvR_mk [] [0] rfl rfl (by decide) (by decide) (fun _ h => nomatch h) (List.forall_mem_cons.mpr ⟨Or.inr rfl, (fun _ h => nomatch h)⟩)) h
  · obtain ⟨f, h⟩ := h2 hc
    refine ⟨f + 1, ?_⟩
    rw [key, if_neg hc]
    exact h
set_option maxRecDepth 100000 in
set_option maxHeartbeats 4000000 in
theorem bk_380_34 {b : Bool} {d : Nat} {e : Nat → x_E} {g : Nat → Int32} {q : Nat → Int64} {c : Nat → Nat → Int32} {l : Nat → Nat → Int64} {g' : Nat → Int32} {q' : Nat → Int64} {c' : Nat → Nat → Int32} {l' : Nat → Nat → Int64} {v : Int32} {R : Option Value × List x_E} (hc : rr b e d 344 0 [(0, .ref 49), (1, .int (Int8.ofInt (60)).toInt32)] [] g q c l (some (.int v), rH e g' q' c' l')) (h : rr b e (d + 1) 380 40 [(0, .ref 49)] [.int v] g' q' c' l' R) : rr b e (d + 1) 380 34 [(0, .ref 49)] [] g q c l R := by
  obtain ⟨f1, hc⟩ := hc
  obtain ⟨f2, h⟩ := h
  obtain ⟨f, hf1, hf2⟩ : ∃ f, f1 ≤ f ∧ f2 ≤ f := ⟨max f1 f2, Nat.le_max_left _ _, Nat.le_max_right _ _⟩
  have hc := nrun_fuel f1 f _ _ _ _ _ _ _ _ _ hf1 hc
  have h := nrun_fuel f2 f _ _ _ _ _ _ _ _ _ hf2 h
  refine ⟨f + 3, ?_⟩
  obtain ⟨y, cb, hj⟩ := mq_380
  rw [n_step (st' := [.ref 49]) (pc' := 35) (lv' := [(0, .ref 49)]) (hp' := rH e g q c l) (i := .aload_n 0) (len := 1) rfl hj rfl rfl rfl]
  rw [n_step (st' := [.int (Int8.ofInt (60)).toInt32, .ref 49]) (pc' := 37) (lv' := [(0, .ref 49)]) (hp' := rH e g q c l) (i := .bipush 60) (len := 2) rfl hj rfl rfl rfl]
  obtain ⟨y2, cb2, hj2⟩ := mq_344
  rw [n_call (f := f) (d := d) (ki := 0) (idx := 341) (j' := 344) (kd := 0) (M' := (y2, cb2, 2, some .boolean, 12, 1, 0, 0)) (avs := [.ref 49, .int (Int8.ofInt (60)).toInt32]) (r := []) (rv := some (.int v)) (hp1 := rH e g' q' c' l') rfl hj rfl rfl rfl rfl (rq_n rfl rfl hj2 rfl rfl) rfl hc (Nat.le_of_ble_eq_true rfl)]
  exact h
set_option maxRecDepth 100000 in
set_option maxHeartbeats 4000000 in
theorem bk_380_40 {b : Bool} {d : Nat} {t0 : Int32} {e : Nat → x_E} {g : Nat → Int32} {q : Nat → Int64} {c : Nat → Nat → Int32} {l : Nat → Nat → Int64} {R : Option Value × List x_E} (h1 : xCn .ne t0 0 = true → rr b e d 380 52 [] [] g q c l R) (h2 : ¬ xCn .ne t0 0 = true → rr b e d 380 43 [(0, .ref 49)] [] g q c l R) : rr b e d 380 40 [(0, .ref 49)] [.int t0] g q c l R := by
  have key : ∀ f, nrun xZ (xY (xfm b)) xDT (f + 1) d 380 40 [(0, .ref 49)] [.int t0] (rH e g q c l) 0 0 = nrun xZ (xY (xfm b)) xDT f d 380 (if xCn .ne t0 0 = true then 52 else 43) [(0, .ref 49)] [] (rH e g q c l) 0 0 := by
    intro f
    obtain ⟨y, cb, hj⟩ := mq_380
    rw [n_step (st' := []) (pc' := (if xCn .ne t0 0 = true then 52 else 43)) (lv' := [(0, .ref 49)]) (hp' := rH e g q c l) (i := .ifCond .ne 12) (len := 3) rfl hj rfl rfl rfl]
  by_cases hc : xCn .ne t0 0 = true
  · obtain ⟨f, h⟩ := h1 hc
    refine ⟨f + 1, ?_⟩
    rw [key, if_pos hc]
    exact nrun_ext f f _ _ R 380 52 [] [(0, .ref 49)] [] _ 0 0 122 (Nat.le_refl _) (Nat.le_refl _) (Nat.le_of_ble_eq_true rfl) (lvR_mk [] [0] rfl rfl (by decide) (by decide) (fun _ h => nomatch h) (List.forall_mem_cons.mpr ⟨Or.inr rfl, (fun _ h => nomatch h)⟩)) h
  · obtain ⟨f, h⟩ := h2 hc
    refine ⟨f + 1, ?_⟩
    rw [key, if_neg hc]
    exact h
set_option maxRecDepth 100000 in
set_option maxHeartbeats 4000000 in
theorem bk_380_43 {b : Bool} {d : Nat} {e : Nat → x_E} {g : Nat → Int32} {q : Nat → Int64} {c : Nat → Nat → Int32} {l : Nat → Nat → Int64} {g' : Nat → Int32} {q' : Nat → Int64} {c' : Nat → Nat → Int32} {l' : Nat → Nat → Int64} {v : Int32} {R : Option Value × List x_E} (hc : rr b e d 344 0 [(0, .ref 49), (1, .int (Int8.ofInt (35)).toInt32)] [] g q c l (some (.int v), rH e g' q' c' l')) (h : rr b e (d + 1) 380 49 [] [.int v] g' q' c' l' R) : rr b e (d + 1) 380 43 [(0, .ref 49)] [] g q c l R := by
  obtain ⟨f1, hc⟩ := hc
  obtain ⟨f2, h⟩ := h
  obtain ⟨f, hf1, hf2⟩ : ∃ f, f1 ≤ f ∧ f2 ≤ f := ⟨max f1 f2, Nat.le_max_left _ _, Nat.le_max_right _ _⟩
  have hc := nrun_fuel f1 f _ _ _ _ _ _ _ _ _ hf1 hc
  have h := nrun_fuel f2 f _ _ _ _ _ _ _ _ _ hf2 h
  refine ⟨f + 3, ?_⟩
  obtain ⟨y, cb, hj⟩ := mq_380
  rw [n_step (st' := [.ref 49]) (pc' := 44) (lv' := [(0, .ref 49)]) (hp' := rH e g q c l) (i := .aload_n 0) (len := 1) rfl hj rfl rfl rfl]
  rw [n_step (st' := [.int (Int8.ofInt (35)).toInt32, .ref 49]) (pc' := 46) (lv' := [(0, .ref 49)]) (hp' := rH e g q c l) (i := .bipush 35) (len := 2) rfl hj rfl rfl rfl]
  obtain ⟨y2, cb2, hj2⟩ := mq_344
  rw [n_call (f := f) (d := d) (ki := 0) (idx := 341) (j' := 344) (kd := 0) (M' := (y2, cb2, 2, some .boolean, 12, 1, 0, 0)) (avs := [.ref 49, .int (Int8.ofInt (35)).toInt32]) (r := []) (rv := some (.int v)) (hp1 := rH e g' q' c' l') rfl hj rfl rfl rfl rfl (rq_n rfl rfl hj2 rfl rfl) rfl hc (Nat.le_of_ble_eq_true rfl)]
  exact nrun_ext f f _ _ R 380 49 [] [(0, .ref 49)] [.int v] _ 0 0 122 (Nat.le_refl _) (Nat.le_refl _) (Nat.le_of_ble_eq_true rfl) (lvR_mk [] [0] rfl rfl (by decide) (by decide) (fun _ h => nomatch h) (List.forall_mem_cons.mpr ⟨Or.inr rfl, (fun _ h => nomatch h)⟩)) h
set_option maxRecDepth 100000 in
set_option maxHeartbeats 4000000 in
theorem bk_380_49 {b : Bool} {d : Nat} {t0 : Int32} {e : Nat → x_E} {g : Nat → Int32} {q : Nat → Int64} {c : Nat → Nat → Int32} {l : Nat → Nat → Int64} {R : Option Value × List x_E} (h1 : xCn .eq t0 0 = true → rr b e d 380 56 [] [] g q c l R) (h2 : ¬ xCn .eq t0 0 = true → rr b e d 380 52 [] [] g q c l R) : rr b e d 380 49 [] [.int t0] g q c l R := by
  have key : ∀ f, nrun xZ (xY (xfm b)) xDT (f + 1) d 380 49 [] [.int t0] (rH e g q c l) 0 0 = nrun xZ (xY (xfm b)) xDT f d 380 (if xCn .eq t0 0 = true then 56 else 52) [] [] (rH e g q c l) 0 0 := by
    intro f
    obtain ⟨y, cb, hj⟩ := mq_380
    rw [n_step (st' := []) (pc' := (if xCn .eq t0 0 = true then 56 else 52)) (lv' := []) (hp' := rH e g q c l) (i := .ifCond .eq 7) (len := 3) rfl hj rfl rfl rfl]
  by_cases hc : xCn .eq t0 0 = true
  · obtain ⟨f, h⟩ := h1 hc
    refine ⟨f + 1, ?_⟩
    rw [key, if_pos hc]
    exact h
  · obtain ⟨f, h⟩ := h2 hc
    refine ⟨f + 1, ?_⟩
    rw [key, if_neg hc]
    exact h
set_option maxRecDepth 100000 in
set_option maxHeartbeats 4000000 in
theorem bk_380_52 {b : Bool} {d : Nat} {e : Nat → x_E} {g : Nat → Int32} {q : Nat → Int64} {c : Nat → Nat → Int32} {l : Nat → Nat → Int64} {R : Option Value × List x_E} (h : rr b e d 380 57 [] [.int (Int32.ofInt (1))] g q c l R) : rr b e d 380 52 [] [] g q c l R := by
  obtain ⟨f, h⟩ := h
  refine ⟨f + 2, ?_⟩
  obtain ⟨y, cb, hj⟩ := mq_380
  rw [n_step (st' := [.int (Int32.ofInt (1))]) (pc' := 53) (lv' := []) (hp' := rH e g q c l) (i := .iconst 1) (len := 1) rfl hj rfl rfl rfl]
  rw [n_step (st' := [.int (Int32.ofInt (1))]) (pc' := 57) (lv' := []) (hp' := rH e g q c l) (i := .goto 4) (len := 3) rfl hj rfl rfl rfl]
  exact h
set_option maxRecDepth 100000 in
set_option maxHeartbeats 4000000 in
theorem bk_380_56 {b : Bool} {d : Nat} {e : Nat → x_E} {g : Nat → Int32} {q : Nat → Int64} {c : Nat → Nat → Int32} {l : Nat → Nat → Int64} {R : Option Value × List x_E} (h : rr b e d 380 57 [] [.int (Int32.ofInt (0))] g q c l R) : rr b e d 380 56 [] [] g q c l R := by
  obtain ⟨f, h⟩ := h
  refine ⟨f + 1, ?_⟩
  obtain ⟨y, cb, hj⟩ := mq_380
  rw [n_step (st' := [.int (Int32.ofInt (0))]) (pc' := 57) (lv' := []) (hp' := rH e g q c l) (i := .iconst 0) (len := 1) rfl hj rfl rfl rfl]
  exact h
set_option maxRecDepth 100000 in
set_option maxHeartbeats 4000000 in
theorem bk_380_57 {b : Bool} {d : Nat} {t0 : Int32} {e : Nat → x_E} {g : Nat → Int32} {q : Nat → Int64} {c : Nat → Nat → Int32} {l : Nat → Nat → Int64} (hv : t0 = 0 ∨ t0 = 1) : rr b e d 380 57 [] [.int t0] g q c l (some (.int t0), rH e g q c l) := by
  refine ⟨0 + 1, ?_⟩
  obtain ⟨y, cb, hj⟩ := mq_380
  exact n_ret rfl hj rfl rfl (x_ret (nb_01 hv))
set_option maxRecDepth 100000 in
set_option maxHeartbeats 4000000 in
theorem bk_381_0 {b : Bool} {d : Nat} {e : Nat → x_E} {g : Nat → Int32} {q : Nat → Int64} {c : Nat → Nat → Int32} {l : Nat → Nat → Int64} {g' : Nat → Int32} {q' : Nat → Int64} {c' : Nat → Nat → Int32} {l' : Nat → Nat → Int64} {R : Option Value × List x_E} (hc : rr b e d 340 0 [(0, .ref 49)] [] g q c l (none, rH e g' q' c' l')) (h : rr b e (d + 1) 381 9 [(0, .ref 49), (1, .int (g 11))] [] g' q' c' l' R) : rr b e (d + 1) 381 0 [(0, .ref 49)] [] g q c l R := by
  obtain ⟨f1, hc⟩ := hc
  obtain ⟨f2, h⟩ := h
  obtain ⟨f, hf1, hf2⟩ : ∃ f, f1 ≤ f ∧ f2 ≤ f := ⟨max f1 f2, Nat.le_max_left _ _, Nat.le_max_right _ _⟩
  have hc := nrun_fuel f1 f _ _ _ _ _ _ _ _ _ hf1 hc
  have h := nrun_fuel f2 f _ _ _ _ _ _ _ _ _ hf2 h
  refine ⟨f + 5, ?_⟩
  obtain ⟨y, cb, hj⟩ := mq_381
  rw [n_step (st' := [.ref 49]) (pc' := 1) (lv' := [(0, .ref 49)]) (hp' := rH e g q c l) (i := .aload_n 0) (len := 1) rfl hj rfl rfl rfl]
  rw [n_get (st' := [.int (g 11)]) (pc' := 4) (lv' := [(0, .ref 49)]) (hp' := rH e g q c l) (i := .getfield 257) (len := 3) rfl hj rfl rfl rfl rfl]
  rw [n_step (st' := []) (pc' := 5) (lv' := [(1, .int (g 11)), (0, .ref 49)]) (hp' := rH e g q c l) (i := .istore_n 1) (len := 1) rfl hj rfl rfl rfl]
  rw [n_step (st' := [.ref 49]) (pc' := 6) (lv' := [(1, .int (g 11)), (0, .ref 49)]) (hp' := rH e g q c l) (i := .aload_n 0) (len := 1) rfl hj rfl rfl rfl]
  obtain ⟨y2, cb2, hj2⟩ := mq_340
  rw [n_call (f := f) (d := d) (ki := 0) (idx := 356) (j' := 340) (kd := 0) (M' := (y2, cb2, 1, none, 12, 0, 0, 0)) (avs := [.ref 49]) (r := []) (rv := none) (hp1 := rH e g' q' c' l') rfl hj rfl rfl rfl rfl (rq_n rfl rfl hj2 rfl rfl) rfl hc (Nat.le_of_ble_eq_true rfl)]
  exact nrun_ext f f _ _ R 381 9 [(0, .ref 49), (1, .int (g 11))] [(1, .int (g 11)), (0, .ref 49)] [] _ 0 0 122 (Nat.le_refl _) (Nat.le_refl _) (Nat.le_of_ble_eq_true rfl) (lvR_mk [0, 1] [1, 0] rfl rfl (by decide) (by decide) (List.forall_mem_cons.mpr ⟨(List.mem_cons_of_mem _ List.mem_cons_self), (List.forall_mem_cons.mpr ⟨List.mem_cons_self, (fun _ h => nomatch h)⟩)⟩) (List.forall_mem_cons.mpr ⟨Or.inl (List.mem_cons_of_mem _ List.mem_cons_self), (List.forall_mem_cons.mpr ⟨Or.inl List.mem_cons_self, (fun _ h => nomatch h)⟩)⟩)) h
set_option maxRecDepth 100000 in
set_option maxHeartbeats 4000000 in
theorem bk_381_9 {b : Bool} {d : Nat} {x1 : Int32} {e : Nat → x_E} {g : Nat → Int32} {q : Nat → Int64} {c : Nat → Nat → Int32} {l : Nat → Nat → Int64} {g' : Nat → Int32} {q' : Nat → Int64} {c' : Nat → Nat → Int32} {l' : Nat → Nat → Int64} {v : Int32} {R : Option Value × List x_E} (hc : rr b e d 337 0 [(0, .ref 49)] [] g q c l (some (.int v), rH e g' q' c' l')) (h : rr b e (d + 1) 381 18 [(0, .ref 49), (1, .int x1), (2, .int (g 14))] [.int v] g' q' c' l' R) : rr b e (d + 1) 381 9 [(0, .ref 49), (1, .int x1)] [] g q c l R := by
  obtain ⟨f1, hc⟩ := hc
  obtain ⟨f2, h⟩ := h
  obtain ⟨f, hf1, hf2⟩ : ∃ f, f1 ≤ f ∧ f2 ≤ f := ⟨max f1 f2, Nat.le_max_left _ _, Nat.le_max_right _ _⟩
  have hc := nrun_fuel f1 f _ _ _ _ _ _ _ _ _ hf1 hc
  have h := nrun_fuel f2 f _ _ _ _ _ _ _ _ _ hf2 h
  refine ⟨f + 5, ?_⟩
  obtain ⟨y, cb, hj⟩ := mq_381
  rw [n_step (st' := [.ref 49]) (pc' := 10) (lv' := [(0, .ref 49), (1, .int x1)]) (hp' := rH e g q c l) (i := .aload_n 0) (len := 1) rfl hj rfl rfl rfl]
  rw [n_get (st' := [.int (g 14)]) (pc' := 13) (lv' := [(0, .ref 49), (1, .int x1)]) (hp' := rH e g q c l) (i := .getfield 316) (len := 3) rfl hj rfl rfl rfl rfl]
  rw [n_step (st' := []) (pc' := 14) (lv' := [(2, .int (g 14)), (0, .ref 49), (1, .int x1)]) (hp' := rH e g q c l) (i := .istore_n 2) (len := 1) rfl hj rfl rfl rfl]
  rw [n_step (st' := [.ref 49]) (pc' := 15) (lv' := [(2, .int (g 14)), (0, .ref 49), (1, .int x1)]) (hp' := rH e g q c l) (i := .aload_n 0) (len := 1) rfl hj rfl rfl rfl]
  obtain ⟨y2, cb2, hj2⟩ := mq_337
  rw [n_call (f := f) (d := d) (ki := 0) (idx := 337) (j' := 337) (kd := 0) (M' := (y2, cb2, 1, some .boolean, 12, 0, 0, 0)) (avs := [.ref 49]) (r := []) (rv := some (.int v)) (hp1 := rH e g' q' c' l') rfl hj rfl rfl rfl rfl (rq_n rfl rfl hj2 rfl rfl) rfl hc (Nat.le_of_ble_eq_true rfl)]
  exact nrun_ext f f _ _ R 381 18 [(0, .ref 49), (1, .int x1), (2, .int (g 14))] [(2, .int (g 14)), (0, .ref 49), (1, .int x1)] [.int v] _ 0 0 122 (Nat.le_refl _) (Nat.le_refl _) (Nat.le_of_ble_eq_true rfl) (lvR_mk [0, 1, 2] [2, 0, 1] rfl rfl (by decide) (by decide) (List.forall_mem_cons.mpr ⟨(List.mem_cons_of_mem _ List.mem_cons_self), (List.forall_mem_cons.mpr ⟨(List.mem_cons_of_mem _ (List.mem_cons_of_mem _ List.mem_cons_self)), (List.forall_mem_cons.mpr ⟨List.mem_cons_self, (fun _ h => nomatch h)⟩)⟩)⟩) (List.forall_mem_cons.mpr ⟨Or.inl (List.mem_cons_of_mem _ (List.mem_cons_of_mem _ List.mem_cons_self)), (List.forall_mem_cons.mpr ⟨Or.inl List.mem_cons_self, (List.forall_mem_cons.mpr ⟨Or.inl (List.mem_cons_of_mem _ List.mem_cons_self), (fun _ h => nomatch h)⟩)⟩)⟩)) h
set_option maxRecDepth 100000 in
set_option maxHeartbeats 4000000 in
theorem bk_381_18 {b : Bool} {d : Nat} {t0 x1 x2 : Int32} {e : Nat → x_E} {g : Nat → Int32} {q : Nat → Int64} {c : Nat → Nat → Int32} {l : Nat → Nat → Int64} {R : Option Value × List x_E} (h1 : xCn .ne t0 0 = true → rr b e d 381 37 [(0, .ref 49), (1, .int x1), (2, .int x2)] [] g q c l R) (h2 : ¬ xCn .ne t0 0 = true → rr b e d 381 21 [(0, .ref 49), (1, .int x1), (2, .int x2)] [] g q c l R) : rr b e d 381 18 [(0, .ref 49), (1, .int x1), (2, .int x2)] [.int t0] g q c l R := by
  have key : ∀ f, nrun xZ (xY (xfm b)) xDT (f + 1) d 381 18 [(0, .ref 49), (1, .int x1), (2, .int x2)] [.int t0] (rH e g q c l) 0 0 = nrun xZ (xY (xfm b)) xDT f d 381 (if xCn .ne t0 0 = true then 37 else 21) [(0, .ref 49), (1, .int x1), (2, .int x2)] [] (rH e g q c l) 0 0 := by
    intro f
    obtain ⟨y, cb, hj⟩ := mq_381
    rw [n_step (st' := []) (pc' := (if xCn .ne t0 0 = true then 37 else 21)) (lv' := [(0, .ref 49), (1, .int x1), (2, .int x2)]) (hp' := rH e g q c l) (i := .ifCond .ne 19) (len := 3) rfl hj rfl rfl rfl]
  by_cases hc : xCn .ne t0 0 = true
  · obtain ⟨f, h⟩ := h1 hc
    refine ⟨f + 1, ?_⟩
    rw [key, if_pos hc]
    exact h
  · obtain ⟨f, h⟩ := h2 hc
    refine ⟨f + 1, ?_⟩
    rw [key, if_neg hc]
    exact h
set_option maxRecDepth 100000 in
set_option maxHeartbeats 4000000 in
theorem bk_381_21 {b : Bool} {d : Nat} {x1 x2 : Int32} {e : Nat → x_E} {g : Nat → Int32} {q : Nat → Int64} {c : Nat → Nat → Int32} {l : Nat → Nat → Int64} {R : Option Value × List x_E} (h1 : xCn .ne ((g 10)) ((Int32.ofInt (2))) = true → rr b e d 381 33 [(0, .ref 49), (1, .int x1), (2, .int x2)] [] g q c l R) (h2 : ¬ xCn .ne ((g 10)) ((Int32.ofInt (2))) = true → rr b e d 381 29 [(0, .ref 49), (1, .int x1), (2, .int x2)] [] g q c l R) : rr b e d 381 21 [(0, .ref 49), (1, .int x1), (2, .int x2)] [] g q c l R := by
  have key : ∀ f, nrun xZ (xY (xfm b)) xDT (f + 4) d 381 21 [(0, .ref 49), (1, .int x1), (2, .int x2)] [] (rH e g q c l) 0 0 = nrun xZ (xY (xfm b)) xDT f d 381 (if xCn .ne ((g 10)) ((Int32.ofInt (2))) = true then 33 else 29) [(0, .ref 49), (1, .int x1), (2, .int x2)] [] (rH e g q c l) 0 0 := by
    intro f
    obtain ⟨y, cb, hj⟩ := mq_381
    rw [n_step (st' := [.ref 49]) (pc' := 22) (lv' := [(0, .ref 49), (1, .int x1), (2, .int x2)]) (hp' := rH e g q c l) (i := .aload_n 0) (len := 1) rfl hj rfl rfl rfl]
    rw [n_get (st' := [.int (g 10)]) (pc' := 25) (lv' := [(0, .ref 49), (1, .int x1), (2, .int x2)]) (hp' := rH e g q c l) (i := .getfield 273) (len := 3) rfl hj rfl rfl rfl rfl]
    rw [n_step (st' := [.int (Int32.ofInt (2)), .int (g 10)]) (pc' := 26) (lv' := [(0, .ref 49), (1, .int x1), (2, .int x2)]) (hp' := rH e g q c l) (i := .iconst 2) (len := 1) rfl hj rfl rfl rfl]
    rw [n_step (st' := []) (pc' := (if xCn .ne ((g 10)) ((Int32.ofInt (2))) = true then 33 else 29)) (lv' := [(0, .ref 49), (1, .int x1), (2, .int x2)]) (hp' := rH e g q c l) (i := .if_icmp .ne 7) (len := 3) rfl hj rfl rfl rfl]
  by_cases hc : xCn .ne ((g 10)) ((Int32.ofInt (2))) = true
  · obtain ⟨f, h⟩ := h1 hc
    refine ⟨f + 4, ?_⟩
    rw [key, if_pos hc]
    exact h
  · obtain ⟨f, h⟩ := h2 hc
    refine ⟨f + 4, ?_⟩
    rw [key, if_neg hc]
    exact h
set_option maxRecDepth 100000 in
set_option maxHeartbeats 4000000 in
theorem bk_381_29 {b : Bool} {d : Nat} {x1 x2 : Int32} {e : Nat → x_E} {g : Nat → Int32} {q : Nat → Int64} {c : Nat → Nat → Int32} {l : Nat → Nat → Int64} {R : Option Value × List x_E} (h1 : xCn .ne x2 0 = true → rr b e d 381 37 [(0, .ref 49), (1, .int x1), (2, .int x2)] [] g q c l R) (h2 : ¬ xCn .ne x2 0 = true → rr b e d 381 33 [(0, .ref 49), (1, .int x1), (2, .int x2)] [] g q c l R) : rr b e d 381 29 [(0, .ref 49), (1, .int x1), (2, .int x2)] [] g q c l R := by
  have key : ∀ f, nrun xZ (xY (xfm b)) xDT (f + 2) d 381 29 [(0, .ref 49), (1, .int x1), (2, .int x2)] [] (rH e g q c l) 0 0 = nrun xZ (xY (xfm b)) xDT f d 381 (if xCn .ne x2 0 = true then 37 else 33) [(0, .ref 49), (1, .int x1), (2, .int x2)] [] (rH e g q c l) 0 0 := by
    intro f
    obtain ⟨y, cb, hj⟩ := mq_381
    rw [n_step (st' := [.int x2]) (pc' := 30) (lv' := [(0, .ref 49), (1, .int x1), (2, .int x2)]) (hp' := rH e g q c l) (i := .iload_n 2) (len := 1) rfl hj rfl rfl rfl]
    rw [n_step (st' := []) (pc' := (if xCn .ne x2 0 = true then 37 else 33)) (lv' := [(0, .ref 49), (1, .int x1), (2, .int x2)]) (hp' := rH e g q c l) (i := .ifCond .ne 7) (len := 3) rfl hj rfl rfl rfl]
  by_cases hc : xCn .ne x2 0 = true
  · obtain ⟨f, h⟩ := h1 hc
    refine ⟨f + 2, ?_⟩
    rw [key, if_pos hc]
    exact h
  · obtain ⟨f, h⟩ := h2 hc
    refine ⟨f + 2, ?_⟩
    rw [key, if_neg hc]
    exact h
set_option maxRecDepth 100000 in
set_option maxHeartbeats 4000000 in
theorem bk_381_33 {b : Bool} {d : Nat} {x1 x2 : Int32} {e : Nat → x_E} {g : Nat → Int32} {q : Nat → Int64} {c : Nat → Nat → Int32} {l : Nat → Nat → Int64} {g' : Nat → Int32} {q' : Nat → Int64} {c' : Nat → Nat → Int32} {l' : Nat → Nat → Int64} {R : Option Value × List x_E} (hc : rr b e d 342 0 [(0, .ref 49)] [] g q c l (none, rH e g' q' c' l')) (h : rr b e (d + 1) 381 37 [(0, .ref 49), (1, .int x1), (2, .int x2)] [] g' q' c' l' R) : rr b e (d + 1) 381 33 [(0, .ref 49), (1, .int x1), (2, .int x2)] [] g q c l R := by
  obtain ⟨f1, hc⟩ := hc
  obtain ⟨f2, h⟩ := h
  obtain ⟨f, hf1, hf2⟩ : ∃ f, f1 ≤ f ∧ f2 ≤ f := ⟨max f1 f2, Nat.le_max_left _ _, Nat.le_max_right _ _⟩
  have hc := nrun_fuel f1 f _ _ _ _ _ _ _ _ _ hf1 hc
  have h := nrun_fuel f2 f _ _ _ _ _ _ _ _ _ hf2 h
  refine ⟨f + 2, ?_⟩
  obtain ⟨y, cb, hj⟩ := mq_381
  rw [n_step (st' := [.ref 49]) (pc' := 34) (lv' := [(0, .ref 49), (1, .int x1), (2, .int x2)]) (hp' := rH e g q c l) (i := .aload_n 0) (len := 1) rfl hj rfl rfl rfl]
  obtain ⟨y2, cb2, hj2⟩ := mq_342
  rw [n_call (f := f) (d := d) (ki := 0) (idx := 347) (j' := 342) (kd := 0) (M' := (y2, cb2, 1, none, 12, 0, 0, 0)) (avs := [.ref 49]) (r := []) (rv := none) (hp1 := rH e g' q' c' l') rfl hj rfl rfl rfl rfl (rq_n rfl rfl hj2 rfl rfl) rfl hc (Nat.le_of_ble_eq_true rfl)]
  exact h
set_option maxRecDepth 100000 in
set_option maxHeartbeats 4000000 in
theorem bk_381_37 {b : Bool} {d : Nat} {x1 x2 : Int32} {e : Nat → x_E} {g : Nat → Int32} {q : Nat → Int64} {c : Nat → Nat → Int32} {l : Nat → Nat → Int64} {g' : Nat → Int32} {q' : Nat → Int64} {c' : Nat → Nat → Int32} {l' : Nat → Nat → Int64} {v : Int32} {R : Option Value × List x_E} (hc : rr b e d 337 0 [(0, .ref 49)] [] g q c l (some (.int v), rH e g' q' c' l')) (h : rr b e (d + 1) 381 41 [(0, .ref 49), (1, .int x1), (2, .int x2)] [.int v] g' q' c' l' R) : rr b e (d + 1) 381 37 [(0, .ref 49), (1, .int x1), (2, .int x2)] [] g q c l R := by
  obtain ⟨f1, hc⟩ := hc
  obtain ⟨f2, h⟩ := h
  obtain ⟨f, hf1, hf2⟩ : ∃ f, f1 ≤ f ∧ f2 ≤ f := ⟨max f1 f2, Nat.le_max_left _ _, Nat.le_max_right _ _⟩
  have hc := nrun_fuel f1 f _ _ _ _ _ _ _ _ _ hf1 hc
  have h := nrun_fuel f2 f _ _ _ _ _ _ _ _ _ hf2 h
  refine ⟨f + 2, ?_⟩
  obtain ⟨y, cb, hj⟩ := mq_381
  rw [n_step (st' := [.ref 49]) (pc' := 38) (lv' := [(0, .ref 49), (1, .int x1), (2, .int x2)]) (hp' := rH e g q c l) (i := .aload_n 0) (len := 1) rfl hj rfl rfl rfl]
  obtain ⟨y2, cb2, hj2⟩ := mq_337
  rw [n_call (f := f) (d := d) (ki := 0) (idx := 337) (j' := 337) (kd := 0) (M' := (y2, cb2, 1, some .boolean, 12, 0, 0, 0)) (avs := [.ref 49]) (r := []) (rv := some (.int v)) (hp1 := rH e g' q' c' l') rfl hj rfl rfl rfl rfl (rq_n rfl rfl hj2 rfl rfl) rfl hc (Nat.le_of_ble_eq_true rfl)]
  exact h
set_option maxRecDepth 100000 in
set_option maxHeartbeats 4000000 in
theorem bk_381_41 {b : Bool} {d : Nat} {t0 x1 x2 : Int32} {e : Nat → x_E} {g : Nat → Int32} {q : Nat → Int64} {c : Nat → Nat → Int32} {l : Nat → Nat → Int64} {R : Option Value × List x_E} (h1 : xCn .ne t0 0 = true → rr b e d 381 59 [(0, .ref 49), (1, .int x1), (2, .int x2)] [] g q c l R) (h2 : ¬ xCn .ne t0 0 = true → rr b e d 381 44 [(0, .ref 49), (1, .int x1), (2, .int x2)] [] g q c l R) : rr b e d 381 41 [(0, .ref 49), (1, .int x1), (2, .int x2)] [.int t0] g q c l R := by
  have key : ∀ f, nrun xZ (xY (xfm b)) xDT (f + 1) d 381 41 [(0, .ref 49), (1, .int x1), (2, .int x2)] [.int t0] (rH e g q c l) 0 0 = nrun xZ (xY (xfm b)) xDT f d 381 (if xCn .ne t0 0 = true then 59 else 44) [(0, .ref 49), (1, .int x1), (2, .int x2)] [] (rH e g q c l) 0 0 := by
    intro f
    obtain ⟨y, cb, hj⟩ := mq_381
    rw [n_step (st' := []) (pc' := (if xCn .ne t0 0 = true then 59 else 44)) (lv' := [(0, .ref 49), (1, .int x1), (2, .int x2)]) (hp' := rH e g q c l) (i := .ifCond .ne 18) (len := 3) rfl hj rfl rfl rfl]
  by_cases hc : xCn .ne t0 0 = true
  · obtain ⟨f, h⟩ := h1 hc
    refine ⟨f + 1, ?_⟩
    rw [key, if_pos hc]
    exact h
  · obtain ⟨f, h⟩ := h2 hc
    refine ⟨f + 1, ?_⟩
    rw [key, if_neg hc]
    exact h
set_option maxRecDepth 100000 in
set_option maxHeartbeats 4000000 in
theorem bk_381_44 {b : Bool} {d : Nat} {x1 x2 : Int32} {e : Nat → x_E} {g : Nat → Int32} {q : Nat → Int64} {c : Nat → Nat → Int32} {l : Nat → Nat → Int64} {R : Option Value × List x_E} (h1 : xCn .le x2 ((Int8.ofInt (8)).toInt32) = true → rr b e d 381 59 [(0, .ref 49), (1, .int x1), (2, .int x2)] [] g q c l R) (h2 : ¬ xCn .le x2 ((Int8.ofInt (8)).toInt32) = true → rr b e d 381 50 [(0, .ref 49), (1, .int x1), (2, .int x2)] [] g q c l R) : rr b e d 381 44 [(0, .ref 49), (1, .int x1), (2, .int x2)] [] g q c l R := by
  have key : ∀ f, nrun xZ (xY (xfm b)) xDT (f + 3) d 381 44 [(0, .ref 49), (1, .int x1), (2, .int x2)] [] (rH e g q c l) 0 0 = nrun xZ (xY (xfm b)) xDT f d 381 (if xCn .le x2 ((Int8.ofInt (8)).toInt32) = true then 59 else 50) [(0, .ref 49), (1, .int x1), (2, .int x2)] [] (rH e g q c l) 0 0 := by
    intro f
    obtain ⟨y, cb, hj⟩ := mq_381
    rw [n_step (st' := [.int x2]) (pc' := 45) (lv' := [(0, .ref 49), (1, .int x1), (2, .int x2)]) (hp' := rH e g q c l) (i := .iload_n 2) (len := 1) rfl hj rfl rfl rfl]
    rw [n_step (st' := [.int (Int8.ofInt (8)).toInt32, .int x2]) (pc' := 47) (lv' := [(0, .ref 49), (1, .int x1), (2, .int x2)]) (hp' := rH e g q c l) (i := .bipush 8) (len := 2) rfl hj rfl rfl rfl]
    rw [n_step (st' := []) (pc' := (if xCn .le x2 ((Int8.ofInt (8)).toInt32) = true then 59 else 50)) (lv' := [(0, .ref 49), (1, .int x1), (2, .int x2)]) (hp' := rH e g q c l) (i := .if_icmp .le 12) (len := 3) rfl hj rfl rfl rfl]
  by_cases hc : xCn .le x2 ((Int8.ofInt (8)).toInt32) = true
  · obtain ⟨f, h⟩ := h1 hc
    refine ⟨f + 3, ?_⟩
    rw [key, if_pos hc]
    exact h
  · obtain ⟨f, h⟩ := h2 hc
    refine ⟨f + 3, ?_⟩
    rw [key, if_neg hc]
    exact h
set_option maxRecDepth 100000 in
set_option maxHeartbeats 4000000 in
theorem bk_381_50 {b : Bool} {d : Nat} {x1 x2 : Int32} {e : Nat → x_E} {g : Nat → Int32} {q : Nat → Int64} {c : Nat → Nat → Int32} {l : Nat → Nat → Int64} {g' : Nat → Int32} {q' : Nat → Int64} {c' : Nat → Nat → Int32} {l' : Nat → Nat → Int64} {R : Option Value × List x_E} (hc : rr b e d 323 0 [(0, .ref 49), (1, .int (Int32.ofInt (2))), (2, .int (g 11))] [] g q c l (none, rH e g' q' c' l')) (h : rr b e (d + 1) 381 59 [(0, .ref 49), (1, .int x1), (2, .int x2)] [] g' q' c' l' R) : rr b e (d + 1) 381 50 [(0, .ref 49), (1, .int x1), (2, .int x2)] [] g q c l R := by
  obtain ⟨f1, hc⟩ := hc
  obtain ⟨f2, h⟩ := h
  obtain ⟨f, hf1, hf2⟩ : ∃ f, f1 ≤ f ∧ f2 ≤ f := ⟨max f1 f2, Nat.le_max_left _ _, Nat.le_max_right _ _⟩
  have hc := nrun_fuel f1 f _ _ _ _ _ _ _ _ _ hf1 hc
  have h := nrun_fuel f2 f _ _ _ _ _ _ _ _ _ hf2 h
  refine ⟨f + 5, ?_⟩
  obtain ⟨y, cb, hj⟩ := mq_381
  rw [n_step (st' := [.ref 49]) (pc' := 51) (lv' := [(0, .ref 49), (1, .int x1), (2, .int x2)]) (hp' := rH e g q c l) (i := .aload_n 0) (len := 1) rfl hj rfl rfl rfl]
  rw [n_step (st' := [.int (Int32.ofInt (2)), .ref 49]) (pc' := 52) (lv' := [(0, .ref 49), (1, .int x1), (2, .int x2)]) (hp' := rH e g q c l) (i := .iconst 2) (len := 1) rfl hj rfl rfl rfl]
  rw [n_step (st' := [.ref 49, .int (Int32.ofInt (2)), .ref 49]) (pc' := 53) (lv' := [(0, .ref 49), (1, .int x1), (2, .int x2)]) (hp' := rH e g q c l) (i := .aload_n 0) (len := 1) rfl hj rfl rfl rfl]
  rw [n_get (st' := [.int (g 11), .int (Int32.ofInt (2)), .ref 49]) (pc' := 56) (lv' := [(0, .ref 49), (1, .int x1), (2, .int x2)]) (hp' := rH e g q c l) (i := .getfield 257) (len := 3) rfl hj rfl rfl rfl rfl]
  obtain ⟨y2, cb2, hj2⟩ := mq_323
  rw [n_call (f := f) (d := d) (ki := 0) (idx := 260) (j' := 323) (kd := 0) (M' := (y2, cb2, 3, none, 12, 2, 0, 0)) (avs := [.ref 49, .int (Int32.ofInt (2)), .int (g 11)]) (r := []) (rv := none) (hp1 := rH e g' q' c' l') rfl hj rfl rfl rfl rfl (rq_n rfl rfl hj2 rfl rfl) rfl hc (Nat.le_of_ble_eq_true rfl)]
  exact h
set_option maxRecDepth 100000 in
set_option maxHeartbeats 4000000 in
theorem bk_381_59 {b : Bool} {d : Nat} {x1 x2 : Int32} {e : Nat → x_E} {g : Nat → Int32} {q : Nat → Int64} {c : Nat → Nat → Int32} {l : Nat → Nat → Int64} {g' : Nat → Int32} {q' : Nat → Int64} {c' : Nat → Nat → Int32} {l' : Nat → Nat → Int64} {v : Int32} {R : Option Value × List x_E} (hc : rr b e d 337 0 [(0, .ref 49)] [] g q c l (some (.int v), rH e g' q' c' l')) (h : rr b e (d + 1) 381 63 [(0, .ref 49), (1, .int x1), (2, .int x2)] [.int v] g' q' c' l' R) : rr b e (d + 1) 381 59 [(0, .ref 49), (1, .int x1), (2, .int x2)] [] g q c l R := by
  obtain ⟨f1, hc⟩ := hc
  obtain ⟨f2, h⟩ := h
  obtain ⟨f, hf1, hf2⟩ : ∃ f, f1 ≤ f ∧ f2 ≤ f := ⟨max f1 f2, Nat.le_max_left _ _, Nat.le_max_right _ _⟩
  have hc := nrun_fuel f1 f _ _ _ _ _ _ _ _ _ hf1 hc
  have h := nrun_fuel f2 f _ _ _ _ _ _ _ _ _ hf2 h
  refine ⟨f + 2, ?_⟩
  obtain ⟨y, cb, hj⟩ := mq_381
  rw [n_step (st' := [.ref 49]) (pc' := 60) (lv' := [(0, .ref 49), (1, .int x1), (2, .int x2)]) (hp' := rH e g q c l) (i := .aload_n 0) (len := 1) rfl hj rfl rfl rfl]
  obtain ⟨y2, cb2, hj2⟩ := mq_337
  rw [n_call (f := f) (d := d) (ki := 0) (idx := 337) (j' := 337) (kd := 0) (M' := (y2, cb2, 1, some .boolean, 12, 0, 0, 0)) (avs := [.ref 49]) (r := []) (rv := some (.int v)) (hp1 := rH e g' q' c' l') rfl hj rfl rfl rfl rfl (rq_n rfl rfl hj2 rfl rfl) rfl hc (Nat.le_of_ble_eq_true rfl)]
  exact h
set_option maxRecDepth 100000 in
set_option maxHeartbeats 4000000 in
theorem bk_381_63 {b : Bool} {d : Nat} {t0 x1 x2 : Int32} {e : Nat → x_E} {g : Nat → Int32} {q : Nat → Int64} {c : Nat → Nat → Int32} {l : Nat → Nat → Int64} {R : Option Value × List x_E} (h1 : xCn .ne t0 0 = true → rr b e d 381 70 [(0, .ref 49), (1, .int x1), (2, .int x2)] [] g q c l R) (h2 : ¬ xCn .ne t0 0 = true → rr b e d 381 66 [(0, .ref 49), (1, .int x1), (2, .int x2)] [] g q c l R) : rr b e d 381 63 [(0, .ref 49), (1, .int x1), (2, .int x2)] [.int t0] g q c l R := by
  have key : ∀ f, nrun xZ (xY (xfm b)) xDT (f + 1) d 381 63 [(0, .ref 49), (1, .int x1), (2, .int x2)] [.int t0] (rH e g q c l) 0 0 = nrun xZ (xY (xfm b)) xDT f d 381 (if xCn .ne t0 0 = true then 70 else 66) [(0, .ref 49), (1, .int x1), (2, .int x2)] [] (rH e g q c l) 0 0 := by
    intro f
    obtain ⟨y, cb, hj⟩ := mq_381
    rw [n_step (st' := []) (pc' := (if xCn .ne t0 0 = true then 70 else 66)) (lv' := [(0, .ref 49), (1, .int x1), (2, .int x2)]) (hp' := rH e g q c l) (i := .ifCond .ne 7) (len := 3) rfl hj rfl rfl rfl]
  by_cases hc : xCn .ne t0 0 = true
  · obtain ⟨f, h⟩ := h1 hc
    refine ⟨f + 1, ?_⟩
    rw [key, if_pos hc]
    exact h
  · obtain ⟨f, h⟩ := h2 hc
    refine ⟨f + 1, ?_⟩
    rw [key, if_neg hc]
    exact h
set_option maxRecDepth 100000 in
set_option maxHeartbeats 4000000 in
theorem bk_381_66 {b : Bool} {d : Nat} {x1 x2 : Int32} {e : Nat → x_E} {g : Nat → Int32} {q : Nat → Int64} {c : Nat → Nat → Int32} {l : Nat → Nat → Int64} {g' : Nat → Int32} {q' : Nat → Int64} {c' : Nat → Nat → Int32} {l' : Nat → Nat → Int64} {R : Option Value × List x_E} (hc : rr b e d 322 0 [(0, .ref 49)] [] g q c l (none, rH e g' q' c' l')) (h : rr b e (d + 1) 381 70 [(0, .ref 49), (1, .int x1), (2, .int x2)] [] g' q' c' l' R) : rr b e (d + 1) 381 66 [(0, .ref 49), (1, .int x1), (2, .int x2)] [] g q c l R := by
  obtain ⟨f1, hc⟩ := hc
  obtain ⟨f2, h⟩ := h
  obtain ⟨f, hf1, hf2⟩ : ∃ f, f1 ≤ f ∧ f2 ≤ f := ⟨max f1 f2, Nat.le_max_left _ _, Nat.le_max_right _ _⟩
  have hc := nrun_fuel f1 f _ _ _ _ _ _ _ _ _ hf1 hc
  have h := nrun_fuel f2 f _ _ _ _ _ _ _ _ _ hf2 h
  refine ⟨f + 2, ?_⟩
  obtain ⟨y, cb, hj⟩ := mq_381
  rw [n_step (st' := [.ref 49]) (pc' := 67) (lv' := [(0, .ref 49), (1, .int x1), (2, .int x2)]) (hp' := rH e g q c l) (i := .aload_n 0) (len := 1) rfl hj rfl rfl rfl]
  obtain ⟨y2, cb2, hj2⟩ := mq_322
  rw [n_call (f := f) (d := d) (ki := 0) (idx := 344) (j' := 322) (kd := 0) (M' := (y2, cb2, 2, none, 12, 0, 0, 0)) (avs := [.ref 49]) (r := []) (rv := none) (hp1 := rH e g' q' c' l') rfl hj rfl rfl rfl rfl (rq_n rfl rfl hj2 rfl rfl) rfl hc (Nat.le_of_ble_eq_true rfl)]
  exact h
set_option maxRecDepth 100000 in
set_option maxHeartbeats 4000000 in
theorem bk_381_70 {b : Bool} {d : Nat} {x1 x2 : Int32} {e : Nat → x_E} {g : Nat → Int32} {q : Nat → Int64} {c : Nat → Nat → Int32} {l : Nat → Nat → Int64} {g' : Nat → Int32} {q' : Nat → Int64} {c' : Nat → Nat → Int32} {l' : Nat → Nat → Int64} {v : Int32} {R : Option Value × List x_E} (hc : rr b e d 376 0 [(0, .ref 49)] [] g q c l (some (.int v), rH e g' q' c' l')) (h : rr b e (d + 1) 381 74 [(0, .ref 49), (1, .int x1), (2, .int x2)] [.int v] g' q' c' l' R) : rr b e (d + 1) 381 70 [(0, .ref 49), (1, .int x1), (2, .int x2)] [] g q c l R := by
  obtain ⟨f1, hc⟩ := hc
  obtain ⟨f2, h⟩ := h
  obtain ⟨f, hf1, hf2⟩ : ∃ f, f1 ≤ f ∧ f2 ≤ f := ⟨max f1 f2, Nat.le_max_left _ _, Nat.le_max_right _ _⟩
  have hc := nrun_fuel f1 f _ _ _ _ _ _ _ _ _ hf1 hc
  have h := nrun_fuel f2 f _ _ _ _ _ _ _ _ _ hf2 h
  refine ⟨f + 2, ?_⟩
  obtain ⟨y, cb, hj⟩ := mq_381
  rw [n_step (st' := [.ref 49]) (pc' := 71) (lv' := [(0, .ref 49), (1, .int x1), (2, .int x2)]) (hp' := rH e g q c l) (i := .aload_n 0) (len := 1) rfl hj rfl rfl rfl]
  obtain ⟨y2, cb2, hj2⟩ := mq_376
  rw [n_call (f := f) (d := d) (ki := 0) (idx := 514) (j' := 376) (kd := 0) (M' := (y2, cb2, 3, some .int, 12, 0, 0, 0)) (avs := [.ref 49]) (r := []) (rv := some (.int v)) (hp1 := rH e g' q' c' l') rfl hj rfl rfl rfl rfl (rq_n rfl rfl hj2 rfl rfl) rfl hc (Nat.le_of_ble_eq_true rfl)]
  exact h
set_option maxRecDepth 100000 in
set_option maxHeartbeats 4000000 in
theorem bk_381_74 {b : Bool} {d : Nat} {t0 x1 x2 : Int32} {e : Nat → x_E} {g : Nat → Int32} {q : Nat → Int64} {c : Nat → Nat → Int32} {l : Nat → Nat → Int64} {g' : Nat → Int32} {q' : Nat → Int64} {c' : Nat → Nat → Int32} {l' : Nat → Nat → Int64} {R : Option Value × List x_E} (hc : rr b e d 351 0 [(0, .ref 49)] [] g q c l (none, rH e g' q' c' l')) (h : rr b e (d + 1) 381 79 [(0, .ref 49), (1, .int x1), (2, .int x2), (3, .int t0)] [] g' q' c' l' R) : rr b e (d + 1) 381 74 [(0, .ref 49), (1, .int x1), (2, .int x2)] [.int t0] g q c l R := by
  obtain ⟨f1, hc⟩ := hc
  obtain ⟨f2, h⟩ := h
  obtain ⟨f, hf1, hf2⟩ : ∃ f, f1 ≤ f ∧ f2 ≤ f := ⟨max f1 f2, Nat.le_max_left _ _, Nat.le_max_right _ _⟩
  have hc := nrun_fuel f1 f _ _ _ _ _ _ _ _ _ hf1 hc
  have h := nrun_fuel f2 f _ _ _ _ _ _ _ _ _ hf2 h
  refine ⟨f + 3, ?_⟩
  obtain ⟨y, cb, hj⟩ := mq_381
  rw [n_step (st' := []) (pc' := 75) (lv' := [(3, .int t0), (0, .ref 49), (1, .int x1), (2, .int x2)]) (hp' := rH e g q c l) (i := .istore_n 3) (len := 1) rfl hj rfl rfl rfl]
  rw [n_step (st' := [.ref 49]) (pc' := 76) (lv' := [(3, .int t0), (0, .ref 49), (1, .int x1), (2, .int x2)]) (hp' := rH e g q c l) (i := .aload_n 0) (len := 1) rfl hj rfl rfl rfl]
  obtain ⟨y2, cb2, hj2⟩ := mq_351
  rw [n_call (f := f) (d := d) (ki := 0) (idx := 405) (j' := 351) (kd := 0) (M' := (y2, cb2, 1, none, 12, 0, 0, 0)) (avs := [.ref 49]) (r := []) (rv := none) (hp1 := rH e g' q' c' l') rfl hj rfl rfl rfl rfl (rq_n rfl rfl hj2 rfl rfl) rfl hc (Nat.le_of_ble_eq_true rfl)]
  exact nrun_ext f f _ _ R 381 79 [(0, .ref 49), (1, .int x1), (2, .int x2), (3, .int t0)] [(3, .int t0), (0, .ref 49), (1, .int x1), (2, .int x2)] [] _ 0 0 122 (Nat.le_refl _) (Nat.le_refl _) (Nat.le_of_ble_eq_true rfl) (lvR_mk [0, 1, 2, 3] [3, 0, 1, 2] rfl rfl (by decide) (by decide) (List.forall_mem_cons.mpr ⟨(List.mem_cons_of_mem _ List.mem_cons_self), (List.forall_mem_cons.mpr ⟨(List.mem_cons_of_mem _ (List.mem_cons_of_mem _ List.mem_cons_self)), (List.forall_mem_cons.mpr ⟨(List.mem_cons_of_mem _ (List.mem_cons_of_mem _ (List.mem_cons_of_mem _ List.mem_cons_self))), (List.forall_mem_cons.mpr ⟨List.mem_cons_self, (fun _ h => nomatch h)⟩)⟩)⟩)⟩) (List.forall_mem_cons.mpr ⟨Or.inl (List.mem_cons_of_mem _ (List.mem_cons_of_mem _ (List.mem_cons_of_mem _ List.mem_cons_self))), (List.forall_mem_cons.mpr ⟨Or.inl List.mem_cons_self, (List.forall_mem_cons.mpr ⟨Or.inl (List.mem_cons_of_mem _ List.mem_cons_self), (List.forall_mem_cons.mpr ⟨Or.inl (List.mem_cons_of_mem _ (List.mem_cons_of_mem _ List.mem_cons_self)), (fun _ h => nomatch h)⟩)⟩)⟩)⟩)) h
set_option maxRecDepth 100000 in
set_option maxHeartbeats 4000000 in
theorem bk_381_79 {b : Bool} {d : Nat} {x1 x2 x3 : Int32} {e : Nat → x_E} {g : Nat → Int32} {q : Nat → Int64} {c : Nat → Nat → Int32} {l : Nat → Nat → Int64} {g' : Nat → Int32} {q' : Nat → Int64} {c' : Nat → Nat → Int32} {l' : Nat → Nat → Int64} {v : Int32} {R : Option Value × List x_E} (hc : rr b e d 355 0 [(0, .ref 49), (1, .int (Int32.ofInt (4))), (2, .int (x2 - (Int32.ofInt (1))))] [] g q c l (some (.int v), rH e g' q' c' l')) (h : rr b e (d + 1) 381 87 [(0, .ref 49), (1, .int x1), (2, .int x2), (3, .int x3)] [.int v] g' q' c' l' R) : rr b e (d + 1) 381 79 [(0, .ref 49), (1, .int x1), (2, .int x2), (3, .int x3)] [] g q c l R := by
  obtain ⟨f1, hc⟩ := hc
  obtain ⟨f2, h⟩ := h
  obtain ⟨f, hf1, hf2⟩ : ∃ f, f1 ≤ f ∧ f2 ≤ f := ⟨max f1 f2, Nat.le_max_left _ _, Nat.le_max_right _ _⟩
  have hc := nrun_fuel f1 f _ _ _ _ _ _ _ _ _ hf1 hc
  have h := nrun_fuel f2 f _ _ _ _ _ _ _ _ _ hf2 h
  refine ⟨f + 6, ?_⟩
  obtain ⟨y, cb, hj⟩ := mq_381
  rw [n_step (st' := [.ref 49]) (pc' := 80) (lv' := [(0, .ref 49), (1, .int x1), (2, .int x2), (3, .int x3)]) (hp' := rH e g q c l) (i := .aload_n 0) (len := 1) rfl hj rfl rfl rfl]
  rw [n_step (st' := [.int (Int32.ofInt (4)), .ref 49]) (pc' := 81) (lv' := [(0, .ref 49), (1, .int x1), (2, .int x2), (3, .int x3)]) (hp' := rH e g q c l) (i := .iconst 4) (len := 1) rfl hj rfl rfl rfl]
  rw [n_step (st' := [.int x2, .int (Int32.ofInt (4)), .ref 49]) (pc' := 82) (lv' := [(0, .ref 49), (1, .int x1), (2, .int x2), (3, .int x3)]) (hp' := rH e g q c l) (i := .iload_n 2) (len := 1) rfl hj rfl rfl rfl]
  rw [n_step (st' := [.int (Int32.ofInt (1)), .int x2, .int (Int32.ofInt (4)), .ref 49]) (pc' := 83) (lv' := [(0, .ref 49), (1, .int x1), (2, .int x2), (3, .int x3)]) (hp' := rH e g q c l) (i := .iconst 1) (len := 1) rfl hj rfl rfl rfl]
  rw [n_step (st' := [.int (x2 - (Int32.ofInt (1))), .int (Int32.ofInt (4)), .ref 49]) (pc' := 84) (lv' := [(0, .ref 49), (1, .int x1), (2, .int x2), (3, .int x3)]) (hp' := rH e g q c l) (i := .isub) (len := 1) rfl hj rfl rfl rfl]
  obtain ⟨y2, cb2, hj2⟩ := mq_355
  rw [n_call (f := f) (d := d) (ki := 0) (idx := 496) (j' := 355) (kd := 0) (M' := (y2, cb2, 3, some .int, 12, 2, 0, 0)) (avs := [.ref 49, .int (Int32.ofInt (4)), .int (x2 - (Int32.ofInt (1)))]) (r := []) (rv := some (.int v)) (hp1 := rH e g' q' c' l') rfl hj rfl rfl rfl rfl (rq_n rfl rfl hj2 rfl rfl) rfl hc (Nat.le_of_ble_eq_true rfl)]
  exact h
set_option maxRecDepth 100000 in
set_option maxHeartbeats 4000000 in
theorem bk_381_87 {b : Bool} {d : Nat} {t0 x1 x2 x3 : Int32} {e : Nat → x_E} {g : Nat → Int32} {q : Nat → Int64} {c : Nat → Nat → Int32} {l : Nat → Nat → Int64} {R : Option Value × List x_E} (h1 : xCn .ge x3 0 = true → rr b e d 381 94 [(0, .ref 49), (1, .int x1), (2, .int x2), (3, .int x3)] [] g q c l R) (h2 : ¬ xCn .ge x3 0 = true → rr b e d 381 92 [] [] g q c l R) : rr b e d 381 87 [(0, .ref 49), (1, .int x1), (2, .int x2), (3, .int x3)] [.int t0] g q c l R := by
  have key : ∀ f, nrun xZ (xY (xfm b)) xDT (f + 3) d 381 87 [(0, .ref 49), (1, .int x1), (2, .int x2), (3, .int x3)] [.int t0] (rH e g q c l) 0 0 = nrun xZ (xY (xfm b)) xDT f d 381 (if xCn .ge x3 0 = true then 94 else 92) [(0, .ref 49), (1, .int x1), (2, .int x2), (3, .int x3)] [] (rH e g q c l) 0 0 := by
    intro f
    obtain ⟨y, cb, hj⟩ := mq_381
    rw [n_step (st' := []) (pc' := 88) (lv' := [(0, .ref 49), (1, .int x1), (2, .int x2), (3, .int x3)]) (hp' := rH e g q c l) (i := .pop) (len := 1) rfl hj rfl rfl rfl]
    rw [n_step (st' := [.int x3]) (pc' := 89) (lv' := [(0, .ref 49), (1, .int x1), (2, .int x2), (3, .int x3)]) (hp' := rH e g q c l) (i := .iload_n 3) (len := 1) rfl hj rfl rfl rfl]
    rw [n_step (st' := []) (pc' := (if xCn .ge x3 0 = true then 94 else 92)) (lv' := [(0, .ref 49), (1, .int x1), (2, .int x2), (3, .int x3)]) (hp' := rH e g q c l) (i := .ifCond .ge 5) (len := 3) rfl hj rfl rfl rfl]
  by_cases hc : xCn .ge x3 0 = true
  · obtain ⟨f, h⟩ := h1 hc
    refine ⟨f + 3, ?_⟩
    rw [key, if_pos hc]
    exact h
  · obtain ⟨f, h⟩ := h2 hc
    refine ⟨f + 3, ?_⟩
    rw [key, if_neg hc]
    exact nrun_ext f f _ _ R 381 92 [] [(0, .ref 49), (1, .int x1), (2, .int x2), (3, .int x3)] [] _ 0 0 122 (Nat.le_refl _) (Nat.le_refl _) (Nat.le_of_ble_eq_true rfl) (lvR_mk [] [0, 1, 2, 3] rfl rfl (by decide) (by decide) (fun _ h => nomatch h) (List.forall_mem_cons.mpr ⟨Or.inr rfl, (List.forall_mem_cons.mpr ⟨Or.inr rfl, (List.forall_mem_cons.mpr ⟨Or.inr rfl, (List.forall_mem_cons.mpr ⟨Or.inr rfl, (fun _ h => nomatch h)⟩)⟩)⟩)⟩)) h
set_option maxRecDepth 100000 in
set_option maxHeartbeats 4000000 in
theorem bk_381_92 {b : Bool} {d : Nat} {e : Nat → x_E} {g : Nat → Int32} {q : Nat → Int64} {c : Nat → Nat → Int32} {l : Nat → Nat → Int64} : rr b e d 381 92 [] [] g q c l (some (.int (Int32.ofInt (-1))), rH e g q c l) := by
  refine ⟨0 + 2, ?_⟩
  obtain ⟨y, cb, hj⟩ := mq_381
  rw [n_step (st' := [.int (Int32.ofInt (-1))]) (pc' := 93) (lv' := []) (hp' := rH e g q c l) (i := .iconst (-1)) (len := 1) rfl hj rfl rfl rfl]
  exact n_ret rfl hj rfl rfl (x_ret rfl)
set_option maxRecDepth 100000 in
set_option maxHeartbeats 4000000 in
theorem bk_381_94 {b : Bool} {d : Nat} {x1 x2 x3 : Int32} {e : Nat → x_E} {g : Nat → Int32} {q : Nat → Int64} {c : Nat → Nat → Int32} {l : Nat → Nat → Int64} {g' : Nat → Int32} {q' : Nat → Int64} {c' : Nat → Nat → Int32} {l' : Nat → Nat → Int64} {v : Int32} {R : Option Value × List x_E} (hc : rr b e d 382 0 [(0, .ref 49), (1, .int x3)] [] g q c l (some (.int v), rH e g' q' c' l')) (h : rr b e (d + 1) 381 99 [(0, .ref 49), (1, .int x1), (2, .int x2), (3, .int x3)] [.int v] g' q' c' l' R) : rr b e (d + 1) 381 94 [(0, .ref 49), (1, .int x1), (2, .int x2), (3, .int x3)] [] g q c l R := by
  obtain ⟨f1, hc⟩ := hc
  obtain ⟨f2, h⟩ := h
  obtain ⟨f, hf1, hf2⟩ : ∃ f, f1 ≤ f ∧ f2 ≤ f := ⟨max f1 f2, Nat.le_max_left _ _, Nat.le_max_right _ _⟩
  have hc := nrun_fuel f1 f _ _ _ _ _ _ _ _ _ hf1 hc
  have h := nrun_fuel f2 f _ _ _ _ _ _ _ _ _ hf2 h
  refine ⟨f + 3, ?_⟩
  obtain ⟨y, cb, hj⟩ := mq_381
  rw [n_step (st' := [.ref 49]) (pc' := 95) (lv' := [(0, .ref 49), (1, .int x1), (2, .int x2), (3, .int x3)]) (hp' := rH e g q c l) (i := .aload_n 0) (len := 1) rfl hj rfl rfl rfl]
  rw [n_step (st' := [.int x3, .ref 49]) (pc' := 96) (lv' := [(0, .ref 49), (1, .int x1), (2, .int x2), (3, .int x3)]) (hp' := rH e g q c l) (i := .iload_n 3) (len := 1) rfl hj rfl rfl rfl]
  obtain ⟨y2, cb2, hj2⟩ := mq_382
  rw [n_call (f := f) (d := d) (ki := 0) (idx := 439) (j' := 382) (kd := 0) (M' := (y2, cb2, 2, some .int, 12, 1, 0, 0)) (avs := [.ref 49, .int x3]) (r := []) (rv := some (.int v)) (hp1 := rH e g' q' c' l') rfl hj rfl rfl rfl rfl (rq_n rfl rfl hj2 rfl rfl) rfl hc (Nat.le_of_ble_eq_true rfl)]
  exact h
set_option maxRecDepth 100000 in
set_option maxHeartbeats 4000000 in
theorem bk_381_99 {b : Bool} {d : Nat} {t0 x1 x2 x3 : Int32} {e : Nat → x_E} {g : Nat → Int32} {q : Nat → Int64} {c : Nat → Nat → Int32} {l : Nat → Nat → Int64} {R : Option Value × List x_E} (h1 : xCn .lt t0 ((Int8.ofInt (10)).toInt32) = true → rr b e d 381 124 [(0, .ref 49), (1, .int x1)] [] g q c l R) (h2 : ¬ xCn .lt t0 ((Int8.ofInt (10)).toInt32) = true → rr b e d 381 108 [(0, .ref 49), (1, .int x1), (2, .int x2), (3, .int x3), (4, .int t0)] [] g q c l R) : rr b e d 381 99 [(0, .ref 49), (1, .int x1), (2, .int x2), (3, .int x3)] [.int t0] g q c l R := by
  have key : ∀ f, nrun xZ (xY (xfm b)) xDT (f + 4) d 381 99 [(0, .ref 49), (1, .int x1), (2, .int x2), (3, .int x3)] [.int t0] (rH e g q c l) 0 0 = nrun xZ (xY (xfm b)) xDT f d 381 (if xCn .lt t0 ((Int8.ofInt (10)).toInt32) = true then 124 else 108) [(4, .int t0), (0, .ref 49), (1, .int x1), (2, .int x2), (3, .int x3)] [] (rH e g q c l) 0 0 := by
    intro f
    obtain ⟨y, cb, hj⟩ := mq_381
    rw [n_step (st' := []) (pc' := 101) (lv' := [(4, .int t0), (0, .ref 49), (1, .int x1), (2, .int x2), (3, .int x3)]) (hp' := rH e g q c l) (i := .istore 4) (len := 2) rfl hj rfl rfl rfl]
    rw [n_step (st' := [.int t0]) (pc' := 103) (lv' := [(4, .int t0), (0, .ref 49), (1, .int x1), (2, .int x2), (3, .int x3)]) (hp' := rH e g q c l) (i := .iload 4) (len := 2) rfl hj rfl rfl rfl]
    rw [n_step (st' := [.int (Int8.ofInt (10)).toInt32, .int t0]) (pc' := 105) (lv' := [(4, .int t0), (0, .ref 49), (1, .int x1), (2, .int x2), (3, .int x3)]) (hp' := rH e g q c l) (i := .bipush 10) (len := 2) rfl hj rfl rfl rfl]
    rw [n_step (st' := []) (pc' := (if xCn .lt t0 ((Int8.ofInt (10)).toInt32) = true then 124 else 108)) (lv' := [(4, .int t0), (0, .ref 49), (1, .int x1), (2, .int x2), (3, .int x3)]) (hp' := rH e g q c l) (i := .if_icmp .lt 19) (len := 3) rfl hj rfl rfl rfl]
  by_cases hc : xCn .lt t0 ((Int8.ofInt (10)).toInt32) = true
  · obtain ⟨f, h⟩ := h1 hc
    refine ⟨f + 4, ?_⟩
    rw [key, if_pos hc]
    exact nrun_ext f f _ _ R 381 124 [(0, .ref 49), (1, .int x1)] [(4, .int t0), (0, .ref 49), (1, .int x1), (2, .int x2), (3, .int x3)] [] _ 0 0 122 (Nat.le_refl _) (Nat.le_refl _) (Nat.le_of_ble_eq_true rfl) (lvR_mk [0, 1] [4, 0, 1, 2, 3] rfl rfl (by decide) (by decide) (List.forall_mem_cons.mpr ⟨(List.mem_cons_of_mem _ List.mem_cons_self), (List.forall_mem_cons.mpr ⟨(List.mem_cons_of_mem _ (List.mem_cons_of_mem _ List.mem_cons_self)), (fun _ h => nomatch h)⟩)⟩) (List.forall_mem_cons.mpr ⟨Or.inr rfl, (List.forall_mem_cons.mpr ⟨Or.inl List.mem_cons_self, (List.forall_mem_cons.mpr ⟨Or.inl (List.mem_cons_of_mem _ List.mem_cons_self), (List.forall_mem_cons.mpr ⟨Or.inr rfl, (List.forall_mem_cons.mpr ⟨Or.inr rfl, (fun _ h => nomatch h)⟩)⟩)⟩)⟩)⟩)) h
  · obtain ⟨f, h⟩ := h2 hc
    refine ⟨f + 4, ?_⟩
    rw [key, if_neg hc]
    exact nrun_ext f f _ _ R 381 108 [(0, .ref 49), (1, .int x1), (2, .int x2), (3, .int x3), (4, .int t0)] [(4, .int t0), (0, .ref 49), (1, .int x1), (2, .int x2), (3, .int x3)] [] _ 0 0 122 (Nat.le_refl _) (Nat.le_refl _) (Nat.le_of_ble_eq_true rfl) (lvR_mk [0, 1, 2, 3, 4] [4, 0, 1, 2, 3] rfl rfl (by decide) (by decide) (List.forall_mem_cons.mpr ⟨(List.mem_cons_of_mem _ List.mem_cons_self), (List.forall_mem_cons.mpr ⟨(List.mem_cons_of_mem _ (List.mem_cons_of_mem _ List.mem_cons_self)), (List.forall_mem_cons.mpr ⟨(List.mem_cons_of_mem _ (List.mem_cons_of_mem _ (List.mem_cons_of_mem _ List.mem_cons_self))), (List.forall_mem_cons.mpr ⟨(List.mem_cons_of_mem _ (List.mem_cons_of_mem _ (List.mem_cons_of_mem _ (List.mem_cons_of_mem _ List.mem_cons_self)))), (List.forall_mem_cons.mpr ⟨List.mem_cons_self, (fun _ h => nomatch h)⟩)⟩)⟩)⟩)⟩) (List.forall_mem_cons.mpr ⟨Or.inl (List.mem_cons_of_mem _ (List.mem_cons_of_mem _ (List.mem_cons_of_mem _ (List.mem_cons_of_mem _ List.mem_cons_self)))), (List.forall_mem_cons.mpr ⟨Or.inl List.mem_cons_self, (List.forall_mem_cons.mpr ⟨Or.inl (List.mem_cons_of_mem _ List.mem_cons_self), (List.forall_mem_cons.mpr ⟨Or.inl (List.mem_cons_of_mem _ (List.mem_cons_of_mem _ List.mem_cons_self)), (List.forall_mem_cons.mpr ⟨Or.inl (List.mem_cons_of_mem _ (List.mem_cons_of_mem _ (List.mem_cons_of_mem _ List.mem_cons_self))), (fun _ h => nomatch h)⟩)⟩)⟩)⟩)⟩)) h
set_option maxRecDepth 100000 in
set_option maxHeartbeats 4000000 in
theorem bk_381_108 {b : Bool} {d : Nat} {x1 x2 x3 x4 : Int32} {e : Nat → x_E} {g : Nat → Int32} {q : Nat → Int64} {c : Nat → Nat → Int32} {l : Nat → Nat → Int64} {R : Option Value × List x_E} (h1 : xCn .ge x4 ((Int8.ofInt (100)).toInt32) = true → rr b e d 381 124 [(0, .ref 49), (1, .int x1)] [] g q c l R) (h2 : ¬ xCn .ge x4 ((Int8.ofInt (100)).toInt32) = true → rr b e d 381 115 [(0, .ref 49), (1, .int x1), (2, .int x2), (3, .int x3), (4, .int x4)] [] g q c l R) : rr b e d 381 108 [(0, .ref 49), (1, .int x1), (2, .int x2), (3, .int x3), (4, .int x4)] [] g q c l R := by
  have key : ∀ f, nrun xZ (xY (xfm b)) xDT (f + 3) d 381 108 [(0, .ref 49), (1, .int x1), (2, .int x2), (3, .int x3), (4, .int x4)] [] (rH e g q c l) 0 0 = nrun xZ (xY (xfm b)) xDT f d 381 (if xCn .ge x4 ((Int8.ofInt (100)).toInt32) = true then 124 else 115) [(0, .ref 49), (1, .int x1), (2, .int x2), (3, .int x3), (4, .int x4)] [] (rH e g q c l) 0 0 := by
    intro f
    obtain ⟨y, cb, hj⟩ := mq_381
    rw [n_step (st' := [.int x4]) (pc' := 110) (lv' := [(0, .ref 49), (1, .int x1), (2, .int x2), (3, .int x3), (4, .int x4)]) (hp' := rH e g q c l) (i := .iload 4) (len := 2) rfl hj rfl rfl rfl]
    rw [n_step (st' := [.int (Int8.ofInt (100)).toInt32, .int x4]) (pc' := 112) (lv' := [(0, .ref 49), (1, .int x1), (2, .int x2), (3, .int x3), (4, .int x4)]) (hp' := rH e g q c l) (i := .bipush 100) (len := 2) rfl hj rfl rfl rfl]
    rw [n_step (st' := []) (pc' := (if xCn .ge x4 ((Int8.ofInt (100)).toInt32) = true then 124 else 115)) (lv' := [(0, .ref 49), (1, .int x1), (2, .int x2), (3, .int x3), (4, .int x4)]) (hp' := rH e g q c l) (i := .if_icmp .ge 12) (len := 3) rfl hj rfl rfl rfl]
  by_cases hc : xCn .ge x4 ((Int8.ofInt (100)).toInt32) = true
  · obtain ⟨f, h⟩ := h1 hc
    refine ⟨f + 3, ?_⟩
    rw [key, if_pos hc]
    exact nrun_ext f f _ _ R 381 124 [(0, .ref 49), (1, .int x1)] [(0, .ref 49), (1, .int x1), (2, .int x2), (3, .int x3), (4, .int x4)] [] _ 0 0 122 (Nat.le_refl _) (Nat.le_refl _) (Nat.le_of_ble_eq_true rfl) (lvR_mk [0, 1] [0, 1, 2, 3, 4] rfl rfl (by decide) (by decide) (List.forall_mem_cons.mpr ⟨List.mem_cons_self, (List.forall_mem_cons.mpr ⟨(List.mem_cons_of_mem _ List.mem_cons_self), (fun _ h => nomatch h)⟩)⟩) (List.forall_mem_cons.mpr ⟨Or.inl List.mem_cons_self, (List.forall_mem_cons.mpr ⟨Or.inl (List.mem_cons_of_mem _ List.mem_cons_self), (List.forall_mem_cons.mpr ⟨Or.inr rfl, (List.forall_mem_cons.mpr ⟨Or.inr rfl, (List.forall_mem_cons.mpr ⟨Or.inr rfl, (fun _ h => nomatch h)⟩)⟩)⟩)⟩)⟩)) h
  · obtain ⟨f, h⟩ := h2 hc
    refine ⟨f + 3, ?_⟩
    rw [key, if_neg hc]
    exact h
set_option maxRecDepth 100000 in
set_option maxHeartbeats 4000000 in
theorem bk_381_115 {b : Bool} {d : Nat} {x1 x2 x3 x4 : Int32} {e : Nat → x_E} {g : Nat → Int32} {q : Nat → Int64} {c : Nat → Nat → Int32} {l : Nat → Nat → Int64} {R : Option Value × List x_E} (h1 : xCn .le x2 ((x4 - (Int8.ofInt (10)).toInt32)) = true → rr b e d 381 132 [(0, .ref 49), (2, .int x2), (3, .int x3)] [] g q c l R) (h2 : ¬ xCn .le x2 ((x4 - (Int8.ofInt (10)).toInt32)) = true → rr b e d 381 124 [(0, .ref 49), (1, .int x1)] [] g q c l R) : rr b e d 381 115 [(0, .ref 49), (1, .int x1), (2, .int x2), (3, .int x3), (4, .int x4)] [] g q c l R := by
  have key : ∀ f, nrun xZ (xY (xfm b)) xDT (f + 5) d 381 115 [(0, .ref 49), (1, .int x1), (2, .int x2), (3, .int x3), (4, .int x4)] [] (rH e g q c l) 0 0 = nrun xZ (xY (xfm b)) xDT f d 381 (if xCn .le x2 ((x4 - (Int8.ofInt (10)).toInt32)) = true then 132 else 124) [(0, .ref 49), (1, .int x1), (2, .int x2), (3, .int x3), (4, .int x4)] [] (rH e g q c l) 0 0 := by
    intro f
    obtain ⟨y, cb, hj⟩ := mq_381
    rw [n_step (st' := [.int x2]) (pc' := 116) (lv' := [(0, .ref 49), (1, .int x1), (2, .int x2), (3, .int x3), (4, .int x4)]) (hp' := rH e g q c l) (i := .iload_n 2) (len := 1) rfl hj rfl rfl rfl]
    rw [n_step (st' := [.int x4, .int x2]) (pc' := 118) (lv' := [(0, .ref 49), (1, .int x1), (2, .int x2), (3, .int x3), (4, .int x4)]) (hp' := rH e g q c l) (i := .iload 4) (len := 2) rfl hj rfl rfl rfl]
    rw [n_step (st' := [.int (Int8.ofInt (10)).toInt32, .int x4, .int x2]) (pc' := 120) (lv' := [(0, .ref 49), (1, .int x1), (2, .int x2), (3, .int x3), (4, .int x4)]) (hp' := rH e g q c l) (i := .bipush 10) (len := 2) rfl hj rfl rfl rfl]
    rw [n_step (st' := [.int (x4 - (Int8.ofInt (10)).toInt32), .int x2]) (pc' := 121) (lv' := [(0, .ref 49), (1, .int x1), (2, .int x2), (3, .int x3), (4, .int x4)]) (hp' := rH e g q c l) (i := .isub) (len := 1) rfl hj rfl rfl rfl]
    rw [n_step (st' := []) (pc' := (if xCn .le x2 ((x4 - (Int8.ofInt (10)).toInt32)) = true then 132 else 124)) (lv' := [(0, .ref 49), (1, .int x1), (2, .int x2), (3, .int x3), (4, .int x4)]) (hp' := rH e g q c l) (i := .if_icmp .le 11) (len := 3) rfl hj rfl rfl rfl]
  by_cases hc : xCn .le x2 ((x4 - (Int8.ofInt (10)).toInt32)) = true
  · obtain ⟨f, h⟩ := h1 hc
    refine ⟨f + 5, ?_⟩
    rw [key, if_pos hc]
    exact nrun_ext f f _ _ R 381 132 [(0, .ref 49), (2, .int x2), (3, .int x3)] [(0, .ref 49), (1, .int x1), (2, .int x2), (3, .int x3), (4, .int x4)] [] _ 0 0 122 (Nat.le_refl _) (Nat.le_refl _) (Nat.le_of_ble_eq_true rfl) (lvR_mk [0, 2, 3] [0, 1, 2, 3, 4] rfl rfl (by decide) (by decide) (List.forall_mem_cons.mpr ⟨List.mem_cons_self, (List.forall_mem_cons.mpr ⟨(List.mem_cons_of_mem _ (List.mem_cons_of_mem _ List.mem_cons_self)), (List.forall_mem_cons.mpr ⟨(List.mem_cons_of_mem _ (List.mem_cons_of_mem _ (List.mem_cons_of_mem _ List.mem_cons_self))), (fun _ h => nomatch h)⟩)⟩)⟩) (List.forall_mem_cons.mpr ⟨Or.inl List.mem_cons_self, (List.forall_mem_cons.mpr ⟨Or.inr rfl, (List.forall_mem_cons.mpr ⟨Or.inl (List.mem_cons_of_mem _ List.mem_cons_self), (List.forall_mem_cons.mpr ⟨Or.inl (List.mem_cons_of_mem _ (List.mem_cons_of_mem _ List.mem_cons_self)), (List.forall_mem_cons.mpr ⟨Or.inr rfl, (fun _ h => nomatch h)⟩)⟩)⟩)⟩)⟩)) h
  · obtain ⟨f, h⟩ := h2 hc
    refine ⟨f + 5, ?_⟩
    rw [key, if_neg hc]
    exact nrun_ext f f _ _ R 381 124 [(0, .ref 49), (1, .int x1)] [(0, .ref 49), (1, .int x1), (2, .int x2), (3, .int x3), (4, .int x4)] [] _ 0 0 122 (Nat.le_refl _) (Nat.le_refl _) (Nat.le_of_ble_eq_true rfl) (lvR_mk [0, 1] [0, 1, 2, 3, 4] rfl rfl (by decide) (by decide) (List.forall_mem_cons.mpr ⟨List.mem_cons_self, (List.forall_mem_cons.mpr ⟨(List.mem_cons_of_mem _ List.mem_cons_self), (fun _ h => nomatch h)⟩)⟩) (List.forall_mem_cons.mpr ⟨Or.inl List.mem_cons_self, (List.forall_mem_cons.mpr ⟨Or.inl (List.mem_cons_of_mem _ List.mem_cons_self), (List.forall_mem_cons.mpr ⟨Or.inr rfl, (List.forall_mem_cons.mpr ⟨Or.inr rfl, (List.forall_mem_cons.mpr ⟨Or.inr rfl, (fun _ h => nomatch h)⟩)⟩)⟩)⟩)⟩)) h
set_option maxRecDepth 100000 in
set_option maxHeartbeats 4000000 in
theorem bk_381_124 {b : Bool} {d : Nat} {x1 : Int32} {e : Nat → x_E} {g : Nat → Int32} {q : Nat → Int64} {c : Nat → Nat → Int32} {l : Nat → Nat → Int64} {g' : Nat → Int32} {q' : Nat → Int64} {c' : Nat → Nat → Int32} {l' : Nat → Nat → Int64} {R : Option Value × List x_E} (hc : rr b e d 349 0 [(0, .ref 49), (1, .int (Int32.ofInt (4))), (2, .int x1)] [] g q c l (none, rH e g' q' c' l')) (h : rr b e (d + 1) 381 130 [] [] g' q' c' l' R) : rr b e (d + 1) 381 124 [(0, .ref 49), (1, .int x1)] [] g q c l R := by
  obtain ⟨f1, hc⟩ := hc
  obtain ⟨f2, h⟩ := h
  obtain ⟨f, hf1, hf2⟩ : ∃ f, f1 ≤ f ∧ f2 ≤ f := ⟨max f1 f2, Nat.le_max_left _ _, Nat.le_max_right _ _⟩
  have hc := nrun_fuel f1 f _ _ _ _ _ _ _ _ _ hf1 hc
  have h := nrun_fuel f2 f _ _ _ _ _ _ _ _ _ hf2 h
  refine ⟨f + 4, ?_⟩
  obtain ⟨y, cb, hj⟩ := mq_381
  rw [n_step (st' := [.ref 49]) (pc' := 125) (lv' := [(0, .ref 49), (1, .int x1)]) (hp' := rH e g q c l) (i := .aload_n 0) (len := 1) rfl hj rfl rfl rfl]
  rw [n_step (st' := [.int (Int32.ofInt (4)), .ref 49]) (pc' := 126) (lv' := [(0, .ref 49), (1, .int x1)]) (hp' := rH e g q c l) (i := .iconst 4) (len := 1) rfl hj rfl rfl rfl]
  rw [n_step (st' := [.int x1, .int (Int32.ofInt (4)), .ref 49]) (pc' := 127) (lv' := [(0, .ref 49), (1, .int x1)]) (hp' := rH e g q c l) (i := .iload_n 1) (len := 1) rfl hj rfl rfl rfl]
  obtain ⟨y2, cb2, hj2⟩ := mq_349
  rw [n_call (f := f) (d := d) (ki := 0) (idx := 427) (j' := 349) (kd := 0) (M' := (y2, cb2, 3, none, 12, 2, 0, 0)) (avs := [.ref 49, .int (Int32.ofInt (4)), .int x1]) (r := []) (rv := none) (hp1 := rH e g' q' c' l') rfl hj rfl rfl rfl rfl (rq_n rfl rfl hj2 rfl rfl) rfl hc (Nat.le_of_ble_eq_true rfl)]
  exact nrun_ext f f _ _ R 381 130 [] [(0, .ref 49), (1, .int x1)] [] _ 0 0 122 (Nat.le_refl _) (Nat.le_refl _) (Nat.le_of_ble_eq_true rfl) (lvR_mk [] [0, 1] rfl rfl (by decide) (by decide) (fun _ h => nomatch h) (List.forall_mem_cons.mpr ⟨Or.inr rfl, (List.forall_mem_cons.mpr ⟨Or.inr rfl, (fun _ h => nomatch h)⟩)⟩)) h
set_option maxRecDepth 100000 in
set_option maxHeartbeats 4000000 in
theorem bk_381_130 {b : Bool} {d : Nat} {e : Nat → x_E} {g : Nat → Int32} {q : Nat → Int64} {c : Nat → Nat → Int32} {l : Nat → Nat → Int64} : rr b e d 381 130 [] [] g q c l (some (.int (Int32.ofInt (-1))), rH e g q c l) := by
  refine ⟨0 + 2, ?_⟩
  obtain ⟨y, cb, hj⟩ := mq_381
  rw [n_step (st' := [.int (Int32.ofInt (-1))]) (pc' := 131) (lv' := []) (hp' := rH e g q c l) (i := .iconst (-1)) (len := 1) rfl hj rfl rfl rfl]
  exact n_ret rfl hj rfl rfl (x_ret rfl)
set_option maxRecDepth 100000 in
set_option maxHeartbeats 4000000 in
theorem bk_381_132 {b : Bool} {d : Nat} {x2 x3 : Int32} {e : Nat → x_E} {g : Nat → Int32} {q : Nat → Int64} {c : Nat → Nat → Int32} {l : Nat → Nat → Int64} {R : Option Value × List x_E} (hz0 : ¬ (x3 < 0 ∨ 1300 ≤ (x3).toNatClampNeg)) (h : rr b e d 381 145 [(0, .ref 49), (2, .int x2), (5, .int ((c 56 (x3).toNatClampNeg) + (Int32.ofInt (1)))), (6, .int (Int32.ofInt (1)))] [] g q c l R) : rr b e d 381 132 [(0, .ref 49), (2, .int x2), (3, .int x3)] [] g q c l R := by
  obtain ⟨f, h⟩ := h
  refine ⟨f + 9, ?_⟩
  obtain ⟨y, cb, hj⟩ := mq_381
  rw [n_step (st' := [.ref 49]) (pc' := 133) (lv' := [(0, .ref 49), (2, .int x2), (3, .int x3)]) (hp' := rH e g q c l) (i := .aload_n 0) (len := 1) rfl hj rfl rfl rfl]
  rw [n_get (st' := [.ref 56]) (pc' := 136) (lv' := [(0, .ref 49), (2, .int x2), (3, .int x3)]) (hp' := rH e g q c l) (i := .getfield 34) (len := 3) rfl hj rfl rfl rfl rfl]
  rw [n_step (st' := [.int x3, .ref 56]) (pc' := 137) (lv' := [(0, .ref 49), (2, .int x2), (3, .int x3)]) (hp' := rH e g q c l) (i := .iload_n 3) (len := 1) rfl hj rfl rfl rfl]
  rw [n_ial (st' := [.int (c 56 (x3).toNatClampNeg)]) rfl hj (ald_56 hz0)]
  rw [n_step (st' := [.int (Int32.ofInt (1)), .int (c 56 (x3).toNatClampNeg)]) (pc' := 139) (lv' := [(0, .ref 49), (2, .int x2), (3, .int x3)]) (hp' := rH e g q c l) (i := .iconst 1) (len := 1) rfl hj rfl rfl rfl]
  rw [n_step (st' := [.int ((c 56 (x3).toNatClampNeg) + (Int32.ofInt (1)))]) (pc' := 140) (lv' := [(0, .ref 49), (2, .int x2), (3, .int x3)]) (hp' := rH e g q c l) (i := .iadd) (len := 1) rfl hj rfl rfl rfl]
  rw [n_step (st' := []) (pc' := 142) (lv' := [(5, .int ((c 56 (x3).toNatClampNeg) + (Int32.ofInt (1)))), (0, .ref 49), (2, .int x2), (3, .int x3)]) (hp' := rH e g q c l) (i := .istore 5) (len := 2) rfl hj rfl rfl rfl]
  rw [n_step (st' := [.int (Int32.ofInt (1))]) (pc' := 143) (lv' := [(5, .int ((c 56 (x3).toNatClampNeg) + (Int32.ofInt (1)))), (0, .ref 49), (2, .int x2), (3, .int x3)]) (hp' := rH e g q c l) (i := .iconst 1) (len := 1) rfl hj rfl rfl rfl]
  rw [n_step (st' := []) (pc' := 145) (lv' := [(6, .int (Int32.ofInt (1))), (5, .int ((c 56 (x3).toNatClampNeg) + (Int32.ofInt (1)))), (0, .ref 49), (2, .int x2), (3, .int x3)]) (hp' := rH e g q c l) (i := .istore 6) (len := 2) rfl hj rfl rfl rfl]
  exact nrun_ext f f _ _ R 381 145 [(0, .ref 49), (2, .int x2), (5, .int ((c 56 (x3).toNatClampNeg) + (Int32.ofInt (1)))), (6, .int (Int32.ofInt (1)))] [(6, .int (Int32.ofInt (1))), (5, .int ((c 56 (x3).toNatClampNeg) + (Int32.ofInt (1)))), (0, .ref 49), (2, .int x2), (3, .int x3)] [] _ 0 0 122 (Nat.le_refl _) (Nat.le_refl _) (Nat.le_of_ble_eq_true rfl) (lvR_mk [0, 2, 5, 6] [6, 5, 0, 2, 3] rfl rfl (by decide) (by decide) (List.forall_mem_cons.mpr ⟨(List.mem_cons_of_mem _ (List.mem_cons_of_mem _ List.mem_cons_self)), (List.forall_mem_cons.mpr ⟨(List.mem_cons_of_mem _ (List.mem_cons_of_mem _ (List.mem_cons_of_mem _ List.mem_cons_self))), (List.forall_mem_cons.mpr ⟨(List.mem_cons_of_mem _ List.mem_cons_self), (List.forall_mem_cons.mpr ⟨List.mem_cons_self, (fun _ h => nomatch h)⟩)⟩)⟩)⟩) (List.forall_mem_cons.mpr ⟨Or.inl (List.mem_cons_of_mem _ (List.mem_cons_of_mem _ (List.mem_cons_of_mem _ List.mem_cons_self))), (List.forall_mem_cons.mpr ⟨Or.inl (List.mem_cons_of_mem _ (List.mem_cons_of_mem _ List.mem_cons_self)), (List.forall_mem_cons.mpr ⟨Or.inl List.mem_cons_self, (List.forall_mem_cons.mpr ⟨Or.inl (List.mem_cons_of_mem _ List.mem_cons_self), (List.forall_mem_cons.mpr ⟨Or.inr rfl, (fun _ h => nomatch h)⟩)⟩)⟩)⟩)⟩)) h
set_option maxRecDepth 100000 in
set_option maxHeartbeats 4000000 in
theorem bk_381_145 {b : Bool} {d : Nat} {x2 x5 x6 : Int32} {e : Nat → x_E} {g : Nat → Int32} {q : Nat → Int64} {c : Nat → Nat → Int32} {l : Nat → Nat → Int64} {R : Option Value × List x_E} (h1 : xCn .ge x6 x2 = true → rr b e d 381 165 [(0, .ref 49), (5, .int x5)] [] g q c l R) (h2 : ¬ xCn .ge x6 x2 = true → rr b e d 381 151 [(0, .ref 49), (2, .int x2), (5, .int x5), (6, .int x6)] [] g q c l R) : rr b e d 381 145 [(0, .ref 49), (2, .int x2), (5, .int x5), (6, .int x6)] [] g q c l R := by
  have key : ∀ f, nrun xZ (xY (xfm b)) xDT (f + 3) d 381 145 [(0, .ref 49), (2, .int x2), (5, .int x5), (6, .int x6)] [] (rH e g q c l) 0 0 = nrun xZ (xY (xfm b)) xDT f d 381 (if xCn .ge x6 x2 = true then 165 else 151) [(0, .ref 49), (2, .int x2), (5, .int x5), (6, .int x6)] [] (rH e g q c l) 0 0 := by
    intro f
    obtain ⟨y, cb, hj⟩ := mq_381
    rw [n_step (st' := [.int x6]) (pc' := 147) (lv' := [(0, .ref 49), (2, .int x2), (5, .int x5), (6, .int x6)]) (hp' := rH e g q c l) (i := .iload 6) (len := 2) rfl hj rfl rfl rfl]
    rw [n_step (st' := [.int x2, .int x6]) (pc' := 148) (lv' := [(0, .ref 49), (2, .int x2), (5, .int x5), (6, .int x6)]) (hp' := rH e g q c l) (i := .iload_n 2) (len := 1) rfl hj rfl rfl rfl]
    rw [n_step (st' := []) (pc' := (if xCn .ge x6 x2 = true then 165 else 151)) (lv' := [(0, .ref 49), (2, .int x2), (5, .int x5), (6, .int x6)]) (hp' := rH e g q c l) (i := .if_icmp .ge 17) (len := 3) rfl hj rfl rfl rfl]
  by_cases hc : xCn .ge x6 x2 = true
  · obtain ⟨f, h⟩ := h1 hc
    refine ⟨f + 3, ?_⟩
    rw [key, if_pos hc]
    exact nrun_ext f f _ _ R 381 165 [(0, .ref 49), (5, .int x5)] [(0, .ref 49), (2, .int x2), (5, .int x5), (6, .int x6)] [] _ 0 0 122 (Nat.le_refl _) (Nat.le_refl _) (Nat.le_of_ble_eq_true rfl) (lvR_mk [0, 5] [0, 2, 5, 6] rfl rfl (by decide) (by decide) (List.forall_mem_cons.mpr ⟨List.mem_cons_self, (List.forall_mem_cons.mpr ⟨(List.mem_cons_of_mem _ (List.mem_cons_of_mem _ List.mem_cons_self)), (fun _ h => nomatch h)⟩)⟩) (List.forall_mem_cons.mpr ⟨Or.inl List.mem_cons_self, (List.forall_mem_cons.mpr ⟨Or.inr rfl, (List.forall_mem_cons.mpr ⟨Or.inl (List.mem_cons_of_mem _ List.mem_cons_self), (List.forall_mem_cons.mpr ⟨Or.inr rfl, (fun _ h => nomatch h)⟩)⟩)⟩)⟩)) h
  · obtain ⟨f, h⟩ := h2 hc
    refine ⟨f + 3, ?_⟩
    rw [key, if_neg hc]
    exact h
set_option maxRecDepth 100000 in
set_option maxHeartbeats 4000000 in
theorem bk_381_151 {b : Bool} {d : Nat} {x2 x5 x6 : Int32} {e : Nat → x_E} {g : Nat → Int32} {q : Nat → Int64} {c : Nat → Nat → Int32} {l : Nat → Nat → Int64} {g' : Nat → Int32} {q' : Nat → Int64} {c' : Nat → Nat → Int32} {l' : Nat → Nat → Int64} {v : Int32} {R : Option Value × List x_E} (hc : rr b e d 370 0 [(0, .ref 49), (1, .int x5)] [] g q c l (some (.int v), rH e g' q' c' l')) (h : rr b e (d + 1) 381 157 [(0, .ref 49), (2, .int x2), (6, .int x6)] [.int v] g' q' c' l' R) : rr b e (d + 1) 381 151 [(0, .ref 49), (2, .int x2), (5, .int x5), (6, .int x6)] [] g q c l R := by
  obtain ⟨f1, hc⟩ := hc
  obtain ⟨f2, h⟩ := h
  obtain ⟨f, hf1, hf2⟩ : ∃ f, f1 ≤ f ∧ f2 ≤ f := ⟨max f1 f2, Nat.le_max_left _ _, Nat.le_max_right _ _⟩
  have hc := nrun_fuel f1 f _ _ _ _ _ _ _ _ _ hf1 hc
  have h := nrun_fuel f2 f _ _ _ _ _ _ _ _ _ hf2 h
  refine ⟨f + 3, ?_⟩
  obtain ⟨y, cb, hj⟩ := mq_381
  rw [n_step (st' := [.ref 49]) (pc' := 152) (lv' := [(0, .ref 49), (2, .int x2), (5, .int x5), (6, .int x6)]) (hp' := rH e g q c l) (i := .aload_n 0) (len := 1) rfl hj rfl rfl rfl]
  rw [n_step (st' := [.int x5, .ref 49]) (pc' := 154) (lv' := [(0, .ref 49), (2, .int x2), (5, .int x5), (6, .int x6)]) (hp' := rH e g q c l) (i := .iload 5) (len := 2) rfl hj rfl rfl rfl]
  obtain ⟨y2, cb2, hj2⟩ := mq_370
  rw [n_call (f := f) (d := d) (ki := 0) (idx := 390) (j' := 370) (kd := 0) (M' := (y2, cb2, 5, some .int, 12, 1, 0, 0)) (avs := [.ref 49, .int x5]) (r := []) (rv := some (.int v)) (hp1 := rH e g' q' c' l') rfl hj rfl rfl rfl rfl (rq_n rfl rfl hj2 rfl rfl) rfl hc (Nat.le_of_ble_eq_true rfl)]
  exact nrun_ext f f _ _ R 381 157 [(0, .ref 49), (2, .int x2), (6, .int x6)] [(0, .ref 49), (2, .int x2), (5, .int x5), (6, .int x6)] [.int v] _ 0 0 122 (Nat.le_refl _) (Nat.le_refl _) (Nat.le_of_ble_eq_true rfl) (lvR_mk [0, 2, 6] [0, 2, 5, 6] rfl rfl (by decide) (by decide) (List.forall_mem_cons.mpr ⟨List.mem_cons_self, (List.forall_mem_cons.mpr ⟨(List.mem_cons_of_mem _ List.mem_cons_self), (List.forall_mem_cons.mpr ⟨(List.mem_cons_of_mem _ (List.mem_cons_of_mem _ (List.mem_cons_of_mem _ List.mem_cons_self))), (fun _ h => nomatch h)⟩)⟩)⟩) (List.forall_mem_cons.mpr ⟨Or.inl List.mem_cons_self, (List.forall_mem_cons.mpr ⟨Or.inl (List.mem_cons_of_mem _ List.mem_cons_self), (List.forall_mem_cons.mpr ⟨Or.inr rfl, (List.forall_mem_cons.mpr ⟨Or.inl (List.mem_cons_of_mem _ (List.mem_cons_of_mem _ List.mem_cons_self)), (fun _ h => nomatch h)⟩)⟩)⟩)⟩)) h
set_option maxRecDepth 100000 in
set_option maxHeartbeats 4000000 in
theorem bk_381_157 {b : Bool} {d : Nat} {t0 x2 x6 : Int32} {e : Nat → x_E} {g : Nat → Int32} {q : Nat → Int64} {c : Nat → Nat → Int32} {l : Nat → Nat → Int64} {R : Option Value × List x_E} (h : rr b e d 381 145 [(0, .ref 49), (2, .int x2), (5, .int t0), (6, .int (x6 + Int32.ofInt (1)))] [] g q c l R) : rr b e d 381 157 [(0, .ref 49), (2, .int x2), (6, .int x6)] [.int t0] g q c l R := by
  obtain ⟨f, h⟩ := h
  refine ⟨f + 3, ?_⟩
  obtain ⟨y, cb, hj⟩ := mq_381
  rw [n_step (st' := []) (pc' := 159) (lv' := [(5, .int t0), (0, .ref 49), (2, .int x2), (6, .int x6)]) (hp' := rH e g q c l) (i := .istore 5) (len := 2) rfl hj rfl rfl rfl]
  rw [n_step (st' := []) (pc' := 162) (lv' := [(6, .int (x6 + Int32.ofInt (1))), (5, .int t0), (0, .ref 49), (2, .int x2)]) (hp' := rH e g q c l) (i := .iinc 6 1) (len := 3) rfl hj rfl rfl rfl]
  rw [n_step (st' := []) (pc' := 145) (lv' := [(6, .int (x6 + Int32.ofInt (1))), (5, .int t0), (0, .ref 49), (2, .int x2)]) (hp' := rH e g q c l) (i := .goto (-17)) (len := 3) rfl hj rfl rfl rfl]
  exact nrun_ext f f _ _ R 381 145 [(0, .ref 49), (2, .int x2), (5, .int t0), (6, .int (x6 + Int32.ofInt (1)))] [(6, .int (x6 + Int32.ofInt (1))), (5, .int t0), (0, .ref 49), (2, .int x2)] [] _ 0 0 122 (Nat.le_refl _) (Nat.le_refl _) (Nat.le_of_ble_eq_true rfl) (lvR_mk [0, 2, 5, 6] [6, 5, 0, 2] rfl rfl (by decide) (by decide) (List.forall_mem_cons.mpr ⟨(List.mem_cons_of_mem _ (List.mem_cons_of_mem _ List.mem_cons_self)), (List.forall_mem_cons.mpr ⟨(List.mem_cons_of_mem _ (List.mem_cons_of_mem _ (List.mem_cons_of_mem _ List.mem_cons_self))), (List.forall_mem_cons.mpr ⟨(List.mem_cons_of_mem _ List.mem_cons_self), (List.forall_mem_cons.mpr ⟨List.mem_cons_self, (fun _ h => nomatch h)⟩)⟩)⟩)⟩) (List.forall_mem_cons.mpr ⟨Or.inl (List.mem_cons_of_mem _ (List.mem_cons_of_mem _ (List.mem_cons_of_mem _ List.mem_cons_self))), (List.forall_mem_cons.mpr ⟨Or.inl (List.mem_cons_of_mem _ (List.mem_cons_of_mem _ List.mem_cons_self)), (List.forall_mem_cons.mpr ⟨Or.inl List.mem_cons_self, (List.forall_mem_cons.mpr ⟨Or.inl (List.mem_cons_of_mem _ List.mem_cons_self), (fun _ h => nomatch h)⟩)⟩)⟩)⟩)) h
set_option maxRecDepth 100000 in
set_option maxHeartbeats 4000000 in
theorem bk_381_165 {b : Bool} {d : Nat} {x5 : Int32} {e : Nat → x_E} {g : Nat → Int32} {q : Nat → Int64} {c : Nat → Nat → Int32} {l : Nat → Nat → Int64} {g' : Nat → Int32} {q' : Nat → Int64} {c' : Nat → Nat → Int32} {l' : Nat → Nat → Int64} {v : Int32} {R : Option Value × List x_E} (hc : rr b e d 370 0 [(0, .ref 49), (1, .int x5)] [] g q c l (some (.int v), rH e g' q' c' l')) (h : rr b e (d + 1) 381 174 [] [.int v, .int x5, .ref 49] g' q' c' l' R) : rr b e (d + 1) 381 165 [(0, .ref 49), (5, .int x5)] [] g q c l R := by
  obtain ⟨f1, hc⟩ := hc
  obtain ⟨f2, h⟩ := h
  obtain ⟨f, hf1, hf2⟩ : ∃ f, f1 ≤ f ∧ f2 ≤ f := ⟨max f1 f2, Nat.le_max_left _ _, Nat.le_max_right _ _⟩
  have hc := nrun_fuel f1 f _ _ _ _ _ _ _ _ _ hf1 hc
  have h := nrun_fuel f2 f _ _ _ _ _ _ _ _ _ hf2 h
  refine ⟨f + 5, ?_⟩
  obtain ⟨y, cb, hj⟩ := mq_381
  rw [n_step (st' := [.ref 49]) (pc' := 166) (lv' := [(0, .ref 49), (5, .int x5)]) (hp' := rH e g q c l) (i := .aload_n 0) (len := 1) rfl hj rfl rfl rfl]
  rw [n_step (st' := [.int x5, .ref 49]) (pc' := 168) (lv' := [(0, .ref 49), (5, .int x5)]) (hp' := rH e g q c l) (i := .iload 5) (len := 2) rfl hj rfl rfl rfl]
  rw [n_step (st' := [.ref 49, .int x5, .ref 49]) (pc' := 169) (lv' := [(0, .ref 49), (5, .int x5)]) (hp' := rH e g q c l) (i := .aload_n 0) (len := 1) rfl hj rfl rfl rfl]
  rw [n_step (st' := [.int x5, .ref 49, .int x5, .ref 49]) (pc' := 171) (lv' := [(0, .ref 49), (5, .int x5)]) (hp' := rH e g q c l) (i := .iload 5) (len := 2) rfl hj rfl rfl rfl]
  obtain ⟨y2, cb2, hj2⟩ := mq_370
  rw [n_call (f := f) (d := d) (ki := 0) (idx := 390) (j' := 370) (kd := 0) (M' := (y2, cb2, 5, some .int, 12, 1, 0, 0)) (avs := [.ref 49, .int x5]) (r := [.int x5, .ref 49]) (rv := some (.int v)) (hp1 := rH e g' q' c' l') rfl hj rfl rfl rfl rfl (rq_n rfl rfl hj2 rfl rfl) rfl hc (Nat.le_of_ble_eq_true rfl)]
  exact nrun_ext f f _ _ R 381 174 [] [(0, .ref 49), (5, .int x5)] [.int v, .int x5, .ref 49] _ 0 0 122 (Nat.le_refl _) (Nat.le_refl _) (Nat.le_of_ble_eq_true rfl) (lvR_mk [] [0, 5] rfl rfl (by decide) (by decide) (fun _ h => nomatch h) (List.forall_mem_cons.mpr ⟨Or.inr rfl, (List.forall_mem_cons.mpr ⟨Or.inr rfl, (fun _ h => nomatch h)⟩)⟩)) h
set_option maxRecDepth 100000 in
set_option maxHeartbeats 4000000 in
theorem bk_381_174 {b : Bool} {d : Nat} {t0 t1 : Int32} {e : Nat → x_E} {g : Nat → Int32} {q : Nat → Int64} {c : Nat → Nat → Int32} {l : Nat → Nat → Int64} {g' : Nat → Int32} {q' : Nat → Int64} {c' : Nat → Nat → Int32} {l' : Nat → Nat → Int64} {v : Int32} {R : Option Value × List x_E} (hc : rr b e d 383 0 [(0, .ref 49), (1, .int t1), (2, .int t0)] [] g q c l (some (.int v), rH e g' q' c' l')) (h : rr b e (d + 1) 381 177 [] [.int v] g' q' c' l' R) : rr b e (d + 1) 381 174 [] [.int t0, .int t1, .ref 49] g q c l R := by
  obtain ⟨f1, hc⟩ := hc
  obtain ⟨f2, h⟩ := h
  obtain ⟨f, hf1, hf2⟩ : ∃ f, f1 ≤ f ∧ f2 ≤ f := ⟨max f1 f2, Nat.le_max_left _ _, Nat.le_max_right _ _⟩
  have hc := nrun_fuel f1 f _ _ _ _ _ _ _ _ _ hf1 hc
  have h := nrun_fuel f2 f _ _ _ _ _ _ _ _ _ hf2 h
  refine ⟨f + 1, ?_⟩
  obtain ⟨y, cb, hj⟩ := mq_381
  obtain ⟨y2, cb2, hj2⟩ := mq_383
  rw [n_call (f := f) (d := d) (ki := 0) (idx := 530) (j' := 383) (kd := 0) (M' := (y2, cb2, 5, some .int, 12, 2, 0, 0)) (avs := [.ref 49, .int t1, .int t0]) (r := []) (rv := some (.int v)) (hp1 := rH e g' q' c' l') rfl hj rfl rfl rfl rfl (rq_n rfl rfl hj2 rfl rfl) rfl hc (Nat.le_of_ble_eq_true rfl)]
  exact h
set_option maxRecDepth 100000 in
set_option maxHeartbeats 4000000 in
theorem bk_381_177 {b : Bool} {d : Nat} {t0 : Int32} {e : Nat → x_E} {g : Nat → Int32} {q : Nat → Int64} {c : Nat → Nat → Int32} {l : Nat → Nat → Int64} : rr b e d 381 177 [] [.int t0] g q c l (some (.int t0), rH e g q c l) := by
  refine ⟨0 + 1, ?_⟩
  obtain ⟨y, cb, hj⟩ := mq_381
  exact n_ret rfl hj rfl rfl (x_ret rfl)
set_option maxRecDepth 100000 in
set_option maxHeartbeats 4000000 in
theorem bk_382_0 {b : Bool} {d : Nat} {x1 : Int32} {e : Nat → x_E} {g : Nat → Int32} {q : Nat → Int64} {c : Nat → Nat → Int32} {l : Nat → Nat → Int64} (hz0 : ¬ (x1 < 0 ∨ 1300 ≤ (x1).toNatClampNeg)) (hz1 : ¬ ((c 56 (x1).toNatClampNeg) < 0 ∨ 66000 ≤ ((c 56 (x1).toNatClampNeg)).toNatClampNeg)) : rr b e d 382 0 [(0, .ref 49), (1, .int x1)] [] g q c l (some (.int (c 55 ((c 56 (x1).toNatClampNeg)).toNatClampNeg)), rH e g q c l) := by
  refine ⟨0 + 8, ?_⟩
  obtain ⟨y, cb, hj⟩ := mq_382
  rw [n_step (st' := [.ref 49]) (pc' := 1) (lv' := [(0, .ref 49), (1, .int x1)]) (hp' := rH e g q c l) (i := .aload_n 0) (len := 1) rfl hj rfl rfl rfl]
  rw [n_get (st' := [.ref 55]) (pc' := 4) (lv' := [(0, .ref 49), (1, .int x1)]) (hp' := rH e g q c l) (i := .getfield 31) (len := 3) rfl hj rfl rfl rfl rfl]
  rw [n_step (st' := [.ref 49, .ref 55]) (pc' := 5) (lv' := [(0, .ref 49), (1, .int x1)]) (hp' := rH e g q c l) (i := .aload_n 0) (len := 1) rfl hj rfl rfl rfl]
  rw [n_get (st' := [.ref 56, .ref 55]) (pc' := 8) (lv' := [(0, .ref 49), (1, .int x1)]) (hp' := rH e g q c l) (i := .getfield 34) (len := 3) rfl hj rfl rfl rfl rfl]
  rw [n_step (st' := [.int x1, .ref 56, .ref 55]) (pc' := 9) (lv' := [(0, .ref 49), (1, .int x1)]) (hp' := rH e g q c l) (i := .iload_n 1) (len := 1) rfl hj rfl rfl rfl]
  rw [n_ial (st' := [.int (c 56 (x1).toNatClampNeg), .ref 55]) rfl hj (ald_56 hz0)]
  rw [n_ial (st' := [.int (c 55 ((c 56 (x1).toNatClampNeg)).toNatClampNeg)]) rfl hj (ald_55 hz1)]
  exact n_ret rfl hj rfl rfl (x_ret rfl)
set_option maxRecDepth 100000 in
set_option maxHeartbeats 4000000 in
theorem bk_383_0 {b : Bool} {d : Nat} {x1 x2 : Int32} {e : Nat → x_E} {g : Nat → Int32} {q : Nat → Int64} {c : Nat → Nat → Int32} {l : Nat → Nat → Int64} {g' : Nat → Int32} {q' : Nat → Int64} {c' : Nat → Nat → Int32} {l' : Nat → Nat → Int64} {v : Int32} {R : Option Value × List x_E} (hc : rr b e d 333 0 [(0, .ref 49)] [] g q c l (some (.int v), rH e g' q' c' l')) (h : rr b e (d + 1) 383 4 [(0, .ref 49), (1, .int x1), (2, .int x2)] [.int v] g' q' c' l' R) : rr b e (d + 1) 383 0 [(0, .ref 49), (1, .int x1), (2, .int x2)] [] g q c l R := by
  obtain ⟨f1, hc⟩ := hc
  obtain ⟨f2, h⟩ := h
  obtain ⟨f, hf1, hf2⟩ : ∃ f, f1 ≤ f ∧ f2 ≤ f := ⟨max f1 f2, Nat.le_max_left _ _, Nat.le_max_right _ _⟩
  have hc := nrun_fuel f1 f _ _ _ _ _ _ _ _ _ hf1 hc
  have h := nrun_fuel f2 f _ _ _ _ _ _ _ _ _ hf2 h
  refine ⟨f + 2, ?_⟩
  obtain ⟨y, cb, hj⟩ := mq_383
  rw [n_step (st' := [.ref 49]) (pc' := 1) (lv' := [(0, .ref 49), (1, .int x1), (2, .int x2)]) (hp' := rH e g q c l) (i := .aload_n 0) (len := 1) rfl hj rfl rfl rfl]
  obtain ⟨y2, cb2, hj2⟩ := mq_333
  rw [n_call (f := f) (d := d) (ki := 0) (idx := 380) (j' := 333) (kd := 0) (M' := (y2, cb2, 1, some .int, 12, 0, 0, 0)) (avs := [.ref 49]) (r := []) (rv := some (.int v)) (hp1 := rH e g' q' c' l') rfl hj rfl rfl rfl rfl (rq_n rfl rfl hj2 rfl rfl) rfl hc (Nat.le_of_ble_eq_true rfl)]
  exact h
set_option maxRecDepth 100000 in
set_option maxHeartbeats 4000000 in
theorem bk_383_4 {b : Bool} {d : Nat} {t0 x1 x2 : Int32} {e : Nat → x_E} {g : Nat → Int32} {q : Nat → Int64} {c : Nat → Nat → Int32} {l : Nat → Nat → Int64} {R : Option Value × List x_E} (h : rr b e d 383 8 [(0, .ref 49), (2, .int x2), (3, .int t0), (4, .int x1)] [] g q c l R) : rr b e d 383 4 [(0, .ref 49), (1, .int x1), (2, .int x2)] [.int t0] g q c l R := by
  obtain ⟨f, h⟩ := h
  refine ⟨f + 3, ?_⟩
  obtain ⟨y, cb, hj⟩ := mq_383
  rw [n_step (st' := []) (pc' := 5) (lv' := [(3, .int t0), (0, .ref 49), (1, .int x1), (2, .int x2)]) (hp' := rH e g q c l) (i := .istore_n 3) (len := 1) rfl hj rfl rfl rfl]
  rw [n_step (st' := [.int x1]) (pc' := 6) (lv' := [(3, .int t0), (0, .ref 49), (1, .int x1), (2, .int x2)]) (hp' := rH e g q c l) (i := .iload_n 1) (len := 1) rfl hj rfl rfl rfl]
  rw [n_step (st' := []) (pc' := 8) (lv' := [(4, .int x1), (3, .int t0), (0, .ref 49), (1, .int x1), (2, .int x2)]) (hp' := rH e g q c l) (i := .istore 4) (len := 2) rfl hj rfl rfl rfl]
  exact nrun_ext f f _ _ R 383 8 [(0, .ref 49), (2, .int x2), (3, .int t0), (4, .int x1)] [(4, .int x1), (3, .int t0), (0, .ref 49), (1, .int x1), (2, .int x2)] [] _ 0 0 122 (Nat.le_refl _) (Nat.le_refl _) (Nat.le_of_ble_eq_true rfl) (lvR_mk [0, 2, 3, 4] [4, 3, 0, 1, 2] rfl rfl (by decide) (by decide) (List.forall_mem_cons.mpr ⟨(List.mem_cons_of_mem _ (List.mem_cons_of_mem _ List.mem_cons_self)), (List.forall_mem_cons.mpr ⟨(List.mem_cons_of_mem _ (List.mem_cons_of_mem _ (List.mem_cons_of_mem _ (List.mem_cons_of_mem _ List.mem_cons_self)))), (List.forall_mem_cons.mpr ⟨(List.mem_cons_of_mem _ List.mem_cons_self), (List.forall_mem_cons.mpr ⟨List.mem_cons_self, (fun _ h => nomatch h)⟩)⟩)⟩)⟩) (List.forall_mem_cons.mpr ⟨Or.inl (List.mem_cons_of_mem _ (List.mem_cons_of_mem _ (List.mem_cons_of_mem _ List.mem_cons_self))), (List.forall_mem_cons.mpr ⟨Or.inl (List.mem_cons_of_mem _ (List.mem_cons_of_mem _ List.mem_cons_self)), (List.forall_mem_cons.mpr ⟨Or.inl List.mem_cons_self, (List.forall_mem_cons.mpr ⟨Or.inr rfl, (List.forall_mem_cons.mpr ⟨Or.inl (List.mem_cons_of_mem _ List.mem_cons_self), (fun _ h => nomatch h)⟩)⟩)⟩)⟩)⟩)) h
set_option maxRecDepth 100000 in
set_option maxHeartbeats 4000000 in
theorem bk_383_8 {b : Bool} {d : Nat} {x2 x3 x4 : Int32} {e : Nat → x_E} {g : Nat → Int32} {q : Nat → Int64} {c : Nat → Nat → Int32} {l : Nat → Nat → Int64} {R : Option Value × List x_E} (h1 : xCn .ge x4 x2 = true → rr b e d 383 31 [(0, .ref 49), (3, .int x3)] [] g q c l R) (h2 : ¬ xCn .ge x4 x2 = true → rr b e d 383 14 [(0, .ref 49), (2, .int x2), (3, .int x3), (4, .int x4)] [] g q c l R) : rr b e d 383 8 [(0, .ref 49), (2, .int x2), (3, .int x3), (4, .int x4)] [] g q c l R := by
  have key : ∀ f, nrun xZ (xY (xfm b)) xDT (f + 3) d 383 8 [(0, .ref 49), (2, .int x2), (3, .int x3), (4, .int x4)] [] (rH e g q c l) 0 0 = nrun xZ (xY (xfm b)) xDT f d 383 (if xCn .ge x4 x2 = true then 31 else 14) [(0, .ref 49), (2, .int x2), (3, .int x3), (4, .int x4)] [] (rH e g q c l) 0 0 := by
    intro f
    obtain ⟨y, cb, hj⟩ := mq_383
    rw [n_step (st' := [.int x4]) (pc' := 10) (lv' := [(0, .ref 49), (2, .int x2), (3, .int x3), (4, .int x4)]) (hp' := rH e g q c l) (i := .iload 4) (len := 2) rfl hj rfl rfl rfl]
    rw [n_step (st' := [.int x2, .int x4]) (pc' := 11) (lv' := [(0, .ref 49), (2, .int x2), (3, .int x3), (4, .int x4)]) (hp' := rH e g q c l) (i := .iload_n 2) (len := 1) rfl hj rfl rfl rfl]
    rw [n_step (st' := []) (pc' := (if xCn .ge x4 x2 = true then 31 else 14)) (lv' := [(0, .ref 49), (2, .int x2), (3, .int x3), (4, .int x4)]) (hp' := rH e g q c l) (i := .if_icmp .ge 20) (len := 3) rfl hj rfl rfl rfl]
  by_cases hc : xCn .ge x4 x2 = true
  · obtain ⟨f, h⟩ := h1 hc
    refine ⟨f + 3, ?_⟩
    rw [key, if_pos hc]
    exact nrun_ext f f _ _ R 383 31 [(0, .ref 49), (3, .int x3)] [(0, .ref 49), (2, .int x2), (3, .int x3), (4, .int x4)] [] _ 0 0 122 (Nat.le_refl _) (Nat.le_refl _) (Nat.le_of_ble_eq_true rfl) (lvR_mk [0, 3] [0, 2, 3, 4] rfl rfl (by decide) (by decide) (List.forall_mem_cons.mpr ⟨List.mem_cons_self, (List.forall_mem_cons.mpr ⟨(List.mem_cons_of_mem _ (List.mem_cons_of_mem _ List.mem_cons_self)), (fun _ h => nomatch h)⟩)⟩) (List.forall_mem_cons.mpr ⟨Or.inl List.mem_cons_self, (List.forall_mem_cons.mpr ⟨Or.inr rfl, (List.forall_mem_cons.mpr ⟨Or.inl (List.mem_cons_of_mem _ List.mem_cons_self), (List.forall_mem_cons.mpr ⟨Or.inr rfl, (fun _ h => nomatch h)⟩)⟩)⟩)⟩)) h
  · obtain ⟨f, h⟩ := h2 hc
    refine ⟨f + 3, ?_⟩
    rw [key, if_neg hc]
    exact h
set_option maxRecDepth 100000 in
set_option maxHeartbeats 4000000 in
theorem bk_383_14 {b : Bool} {d : Nat} {x2 x3 x4 : Int32} {e : Nat → x_E} {g : Nat → Int32} {q : Nat → Int64} {c : Nat → Nat → Int32} {l : Nat → Nat → Int64} {g' : Nat → Int32} {q' : Nat → Int64} {c' : Nat → Nat → Int32} {l' : Nat → Nat → Int64} {R : Option Value × List x_E} (hz0 : ¬ (x4 < 0 ∨ 66000 ≤ (x4).toNatClampNeg)) (hc : rr b e d 334 0 [(0, .ref 49), (1, .int (c 55 (x4).toNatClampNeg))] [] g q c l (none, rH e g' q' c' l')) (h : rr b e (d + 1) 383 25 [(0, .ref 49), (2, .int x2), (3, .int x3), (4, .int x4)] [] g' q' c' l' R) : rr b e (d + 1) 383 14 [(0, .ref 49), (2, .int x2), (3, .int x3), (4, .int x4)] [] g q c l R := by
  obtain ⟨f1, hc⟩ := hc
  obtain ⟨f2, h⟩ := h
  obtain ⟨f, hf1, hf2⟩ : ∃ f, f1 ≤ f ∧ f2 ≤ f := ⟨max f1 f2, Nat.le_max_left _ _, Nat.le_max_right _ _⟩
  have hc := nrun_fuel f1 f _ _ _ _ _ _ _ _ _ hf1 hc
  have h := nrun_fuel f2 f _ _ _ _ _ _ _ _ _ hf2 h
  refine ⟨f + 6, ?_⟩
  obtain ⟨y, cb, hj⟩ := mq_383
  rw [n_step (st' := [.ref 49]) (pc' := 15) (lv' := [(0, .ref 49), (2, .int x2), (3, .int x3), (4, .int x4)]) (hp' := rH e g q c l) (i := .aload_n 0) (len := 1) rfl hj rfl rfl rfl]
  rw [n_step (st' := [.ref 49, .ref 49]) (pc' := 16) (lv' := [(0, .ref 49), (2, .int x2), (3, .int x3), (4, .int x4)]) (hp' := rH e g q c l) (i := .aload_n 0) (len := 1) rfl hj rfl rfl rfl]
  rw [n_get (st' := [.ref 55, .ref 49]) (pc' := 19) (lv' := [(0, .ref 49), (2, .int x2), (3, .int x3), (4, .int x4)]) (hp' := rH e g q c l) (i := .getfield 31) (len := 3) rfl hj rfl rfl rfl rfl]
  rw [n_step (st' := [.int x4, .ref 55, .ref 49]) (pc' := 21) (lv' := [(0, .ref 49), (2, .int x2), (3, .int x3), (4, .int x4)]) (hp' := rH e g q c l) (i := .iload 4) (len := 2) rfl hj rfl rfl rfl]
  rw [n_ial (st' := [.int (c 55 (x4).toNatClampNeg), .ref 49]) rfl hj (ald_55 hz0)]
  obtain ⟨y2, cb2, hj2⟩ := mq_334
  rw [n_call (f := f) (d := d) (ki := 0) (idx := 377) (j' := 334) (kd := 0) (M' := (y2, cb2, 2, none, 12, 1, 0, 0)) (avs := [.ref 49, .int (c 55 (x4).toNatClampNeg)]) (r := []) (rv := none) (hp1 := rH e g' q' c' l') rfl hj rfl rfl rfl rfl (rq_n rfl rfl hj2 rfl rfl) rfl hc (Nat.le_of_ble_eq_true rfl)]
  exact h
set_option maxRecDepth 100000 in
set_option maxHeartbeats 4000000 in
theorem bk_383_25 {b : Bool} {d : Nat} {x2 x3 x4 : Int32} {e : Nat → x_E} {g : Nat → Int32} {q : Nat → Int64} {c : Nat → Nat → Int32} {l : Nat → Nat → Int64} {R : Option Value × List x_E} (h : rr b e d 383 8 [(0, .ref 49), (2, .int x2), (3, .int x3), (4, .int (x4 + Int32.ofInt (1)))] [] g q c l R) : rr b e d 383 25 [(0, .ref 49), (2, .int x2), (3, .int x3), (4, .int x4)] [] g q c l R := by
  obtain ⟨f, h⟩ := h
  refine ⟨f + 2, ?_⟩
  obtain ⟨y, cb, hj⟩ := mq_383
  rw [n_step (st' := []) (pc' := 28) (lv' := [(4, .int (x4 + Int32.ofInt (1))), (0, .ref 49), (2, .int x2), (3, .int x3)]) (hp' := rH e g q c l) (i := .iinc 4 1) (len := 3) rfl hj rfl rfl rfl]
  rw [n_step (st' := []) (pc' := 8) (lv' := [(4, .int (x4 + Int32.ofInt (1))), (0, .ref 49), (2, .int x2), (3, .int x3)]) (hp' := rH e g q c l) (i := .goto (-20)) (len := 3) rfl hj rfl rfl rfl]
  exact nrun_ext f f _ _ R 383 8 [(0, .ref 49), (2, .int x2), (3, .int x3), (4, .int (x4 + Int32.ofInt (1)))] [(4, .int (x4 + Int32.ofInt (1))), (0, .ref 49), (2, .int x2), (3, .int x3)] [] _ 0 0 122 (Nat.le_refl _) (Nat.le_refl _) (Nat.le_of_ble_eq_true rfl) (lvR_mk [0, 2, 3, 4] [4, 0, 2, 3] rfl rfl (by decide) (by decide) (List.forall_mem_cons.mpr ⟨(List.mem_cons_of_mem _ List.mem_cons_self), (List.forall_mem_cons.mpr ⟨(List.mem_cons_of_mem _ (List.mem_cons_of_mem _ List.mem_cons_self)), (List.forall_mem_cons.mpr ⟨(List.mem_cons_of_mem _ (List.mem_cons_of_mem _ (List.mem_cons_of_mem _ List.mem_cons_self))), (List.forall_mem_cons.mpr ⟨List.mem_cons_self, (fun _ h => nomatch h)⟩)⟩)⟩)⟩) (List.forall_mem_cons.mpr ⟨Or.inl (List.mem_cons_of_mem _ (List.mem_cons_of_mem _ (List.mem_cons_of_mem _ List.mem_cons_self))), (List.forall_mem_cons.mpr ⟨Or.inl List.mem_cons_self, (List.forall_mem_cons.mpr ⟨Or.inl (List.mem_cons_of_mem _ List.mem_cons_self), (List.forall_mem_cons.mpr ⟨Or.inl (List.mem_cons_of_mem _ (List.mem_cons_of_mem _ List.mem_cons_self)), (fun _ h => nomatch h)⟩)⟩)⟩)⟩)) h
set_option maxRecDepth 100000 in
set_option maxHeartbeats 4000000 in
theorem bk_383_31 {b : Bool} {d : Nat} {x3 : Int32} {e : Nat → x_E} {g : Nat → Int32} {q : Nat → Int64} {c : Nat → Nat → Int32} {l : Nat → Nat → Int64} {g' : Nat → Int32} {q' : Nat → Int64} {c' : Nat → Nat → Int32} {l' : Nat → Nat → Int64} {v : Int32} {R : Option Value × List x_E} (hc : rr b e d 335 0 [(0, .ref 49), (1, .int x3)] [] g q c l (some (.int v), rH e g' q' c' l')) (h : rr b e (d + 1) 383 36 [] [.int v] g' q' c' l' R) : rr b e (d + 1) 383 31 [(0, .ref 49), (3, .int x3)] [] g q c l R := by
  obtain ⟨f1, hc⟩ := hc
  obtain ⟨f2, h⟩ := h
  obtain ⟨f, hf1, hf2⟩ : ∃ f, f1 ≤ f ∧ f2 ≤ f := ⟨max f1 f2, Nat.le_max_left _ _, Nat.le_max_right _ _⟩
  have hc := nrun_fuel f1 f _ _ _ _ _ _ _ _ _ hf1 hc
  have h := nrun_fuel f2 f _ _ _ _ _ _ _ _ _ hf2 h
  refine ⟨f + 3, ?_⟩
  obtain ⟨y, cb, hj⟩ := mq_383
  rw [n_step (st' := [.ref 49]) (pc' := 32) (lv' := [(0, .ref 49), (3, .int x3)]) (hp' := rH e g q c l) (i := .aload_n 0) (len := 1) rfl hj rfl rfl rfl]
  rw [n_step (st' := [.int x3, .ref 49]) (pc' := 33) (lv' := [(0, .ref 49), (3, .int x3)]) (hp' := rH e g q c l) (i := .iload_n 3) (len := 1) rfl hj rfl rfl rfl]
  obtain ⟨y2, cb2, hj2⟩ := mq_335
  rw [n_call (f := f) (d := d) (ki := 0) (idx := 384) (j' := 335) (kd := 0) (M' := (y2, cb2, 2, some .int, 12, 1, 0, 0)) (avs := [.ref 49, .int x3]) (r := []) (rv := some (.int v)) (hp1 := rH e g' q' c' l') rfl hj rfl rfl rfl rfl (rq_n rfl rfl hj2 rfl rfl) rfl hc (Nat.le_of_ble_eq_true rfl)]
  exact nrun_ext f f _ _ R 383 36 [] [(0, .ref 49), (3, .int x3)] [.int v] _ 0 0 122 (Nat.le_refl _) (Nat.le_refl _) (Nat.le_of_ble_eq_true rfl) (lvR_mk [] [0, 3] rfl rfl (by decide) (by decide) (fun _ h => nomatch h) (List.forall_mem_cons.mpr ⟨Or.inr rfl, (List.forall_mem_cons.mpr ⟨Or.inr rfl, (fun _ h => nomatch h)⟩)⟩)) h
set_option maxRecDepth 100000 in
set_option maxHeartbeats 4000000 in
theorem bk_383_36 {b : Bool} {d : Nat} {t0 : Int32} {e : Nat → x_E} {g : Nat → Int32} {q : Nat → Int64} {c : Nat → Nat → Int32} {l : Nat → Nat → Int64} : rr b e d 383 36 [] [.int t0] g q c l (some (.int t0), rH e g q c l) := by
  refine ⟨0 + 1, ?_⟩
  obtain ⟨y, cb, hj⟩ := mq_383
  exact n_ret rfl hj rfl rfl (x_ret rfl)
set_option maxRecDepth 100000 in
set_option maxHeartbeats 4000000 in
theorem bk_384_0 {b : Bool} {d : Nat} {e : Nat → x_E} {g : Nat → Int32} {q : Nat → Int64} {c : Nat → Nat → Int32} {l : Nat → Nat → Int64} {g' : Nat → Int32} {q' : Nat → Int64} {c' : Nat → Nat → Int32} {l' : Nat → Nat → Int64} {R : Option Value × List x_E} (hc : rr b e d 322 0 [(0, .ref 49)] [] g q c l (none, rH e g' q' c' l')) (h : rr b e (d + 1) 384 4 [(0, .ref 49)] [] g' q' c' l' R) : rr b e (d + 1) 384 0 [(0, .ref 49)] [] g q c l R := by
  obtain ⟨f1, hc⟩ := hc
  obtain ⟨f2, h⟩ := h
  obtain ⟨f, hf1, hf2⟩ : ∃ f, f1 ≤ f ∧ f2 ≤ f := ⟨max f1 f2, Nat.le_max_left _ _, Nat.le_max_right _ _⟩
  have hc := nrun_fuel f1 f _ _ _ _ _ _ _ _ _ hf1 hc
  have h := nrun_fuel f2 f _ _ _ _ _ _ _ _ _ hf2 h
  refine ⟨f + 2, ?_⟩
  obtain ⟨y, cb, hj⟩ := mq_384
  rw [n_step (st' := [.ref 49]) (pc' := 1) (lv' := [(0, .ref 49)]) (hp' := rH e g q c l) (i := .aload_n 0) (len := 1) rfl hj rfl rfl rfl]
  obtain ⟨y2, cb2, hj2⟩ := mq_322
  rw [n_call (f := f) (d := d) (ki := 0) (idx := 344) (j' := 322) (kd := 0) (M' := (y2, cb2, 2, none, 12, 0, 0, 0)) (avs := [.ref 49]) (r := []) (rv := none) (hp1 := rH e g' q' c' l') rfl hj rfl rfl rfl rfl (rq_n rfl rfl hj2 rfl rfl) rfl hc (Nat.le_of_ble_eq_true rfl)]
  exact h
set_option maxRecDepth 100000 in
set_option maxHeartbeats 4000000 in
theorem bk_384_4 {b : Bool} {d : Nat} {e : Nat → x_E} {g : Nat → Int32} {q : Nat → Int64} {c : Nat → Nat → Int32} {l : Nat → Nat → Int64} {g' : Nat → Int32} {q' : Nat → Int64} {c' : Nat → Nat → Int32} {l' : Nat → Nat → Int64} {R : Option Value × List x_E} (hc : rr b e d 366 0 [(0, .ref 49), (1, .int (Int8.ofInt (40)).toInt32)] [] g q c l (none, rH e g' q' c' l')) (h : rr b e (d + 1) 384 10 [(0, .ref 49)] [] g' q' c' l' R) : rr b e (d + 1) 384 4 [(0, .ref 49)] [] g q c l R := by
  obtain ⟨f1, hc⟩ := hc
  obtain ⟨f2, h⟩ := h
  obtain ⟨f, hf1, hf2⟩ : ∃ f, f1 ≤ f ∧ f2 ≤ f := ⟨max f1 f2, Nat.le_max_left _ _, Nat.le_max_right _ _⟩
  have hc := nrun_fuel f1 f _ _ _ _ _ _ _ _ _ hf1 hc
  have h := nrun_fuel f2 f _ _ _ _ _ _ _ _ _ hf2 h
  refine ⟨f + 3, ?_⟩
  obtain ⟨y, cb, hj⟩ := mq_384
  rw [n_step (st' := [.ref 49]) (pc' := 5) (lv' := [(0, .ref 49)]) (hp' := rH e g q c l) (i := .aload_n 0) (len := 1) rfl hj rfl rfl rfl]
  rw [n_step (st' := [.int (Int8.ofInt (40)).toInt32, .ref 49]) (pc' := 7) (lv' := [(0, .ref 49)]) (hp' := rH e g q c l) (i := .bipush 40) (len := 2) rfl hj rfl rfl rfl]
  obtain ⟨y2, cb2, hj2⟩ := mq_366
  rw [n_call (f := f) (d := d) (ki := 0) (idx := 483) (j' := 366) (kd := 0) (M' := (y2, cb2, 2, none, 12, 1, 0, 0)) (avs := [.ref 49, .int (Int8.ofInt (40)).toInt32]) (r := []) (rv := none) (hp1 := rH e g' q' c' l') rfl hj rfl rfl rfl rfl (rq_n rfl rfl hj2 rfl rfl) rfl hc (Nat.le_of_ble_eq_true rfl)]
  exact h
