set_option maxRecDepth 100000 in
set_option maxHeartbeats 4000000 in
theorem bk_324_4 {b : Bool} {d : Nat} {x2 x3 : Int32} {e : Nat → x_E} {g : Nat → Int32} {q : Nat → Int64} {c : Nat → Nat → Int32} {l : Nat → Nat → Int64} {R : Option Value × List x_E} (h1 : xCn .eq x3 0 = true → rr b e d 324 88 [(2, .int x2)] [] g q c l R) (h2 : ¬ xCn .eq x3 0 = true → rr b e d 324 8 [(0, .ref 49), (2, .int x2), (3, .int x3)] [] g q c l R) : rr b e d 324 4 [(0, .ref 49), (2, .int x2), (3, .int x3)] [] g q c l R := by
  have key : ∀ f, nrun xZ (xY (xfm b)) xDT (f + 2) d 324 4 [(0, .ref 49), (2, .int x2), (3, .int x3)] [] (rH e g q c l) 0 0 = nrun xZ (xY (xfm b)) xDT f d 324 (if xCn .eq x3 0 = true then 88 else 8) [(0, .ref 49), (2, .int x2), (3, .int x3)] [] (rH e g q c l) 0 0 := by
    intro f
    obtain ⟨y, cb, hj⟩ := mq_324
    rw [n_step (st' := [.int x3]) (pc' := 5) (lv' := [(0, .ref 49), (2, .int x2), (3, .int x3)]) (hp' := rH e g q c l) (i := .iload_n 3) (len := 1) rfl hj rfl rfl rfl]
    rw [n_step (st' := []) (pc' := (if xCn .eq x3 0 = true then 88 else 8)) (lv' := [(0, .ref 49), (2, .int x2), (3, .int x3)]) (hp' := rH e g q c l) (i := .ifCond .eq 83) (len := 3) rfl hj rfl rfl rfl]
  by_cases hc : xCn .eq x3 0 = true
  · obtain ⟨f, h⟩ := h1 hc
    refine ⟨f + 2, ?_⟩
    rw [key, if_pos hc]
    exact nrun_ext f f _ _ R 324 88 [(2, .int x2)] [(0, .ref 49), (2, .int x2), (3, .int x3)] [] _ 0 0 122 (Nat.le_refl _) (Nat.le_refl _) (Nat.le_of_ble_eq_true rfl) (lvR_mk [2] [0, 2, 3] rfl rfl (by decide) (by decide) (List.forall_mem_cons.mpr ⟨(List.mem_cons_of_mem _ List.mem_cons_self), (fun _ h => nomatch h)⟩) (List.forall_mem_cons.mpr ⟨Or.inr rfl, (List.forall_mem_cons.mpr ⟨Or.inl List.mem_cons_self, (List.forall_mem_cons.mpr ⟨Or.inr rfl, (fun _ h => nomatch h)⟩)⟩)⟩)) h
  · obtain ⟨f, h⟩ := h2 hc
    refine ⟨f + 2, ?_⟩
    rw [key, if_neg hc]
    exact h
set_option maxRecDepth 100000 in
set_option maxHeartbeats 4000000 in
theorem bk_324_8 {b : Bool} {d : Nat} {x2 x3 : Int32} {e : Nat → x_E} {g : Nat → Int32} {q : Nat → Int64} {c : Nat → Nat → Int32} {l : Nat → Nat → Int64} {g' : Nat → Int32} {q' : Nat → Int64} {c' : Nat → Nat → Int32} {l' : Nat → Nat → Int64} {v : Int32} {R : Option Value × List x_E} (hc : rr b e d 325 0 [(0, .ref 49), (1, .int x2)] [] g q c l (some (.int v), rH e g' q' c' l')) (h : rr b e (d + 1) 324 13 [(0, .ref 49), (2, .int x2), (3, .int x3)] [.int v] g' q' c' l' R) : rr b e (d + 1) 324 8 [(0, .ref 49), (2, .int x2), (3, .int x3)] [] g q c l R := by
  obtain ⟨f1, hc⟩ := hc
  obtain ⟨f2, h⟩ := h
  obtain ⟨f, hf1, hf2⟩ : ∃ f, f1 ≤ f ∧ f2 ≤ f := ⟨max f1 f2, Nat.le_max_left _ _, Nat.le_max_right _ _⟩
  have hc := nrun_fuel f1 f _ _ _ _ _ _ _ _ _ hf1 hc
  have h := nrun_fuel f2 f _ _ _ _ _ _ _ _ _ hf2 h
  refine ⟨f + 3, ?_⟩
  obtain ⟨y, cb, hj⟩ := mq_324
  rw [n_step (st' := [.ref 49]) (pc' := 9) (lv' := [(0, .ref 49), (2, .int x2), (3, .int x3)]) (hp' := rH e g q c l) (i := .aload_n 0) (len := 1) rfl hj rfl rfl rfl]
  rw [n_step (st' := [.int x2, .ref 49]) (pc' := 10) (lv' := [(0, .ref 49), (2, .int x2), (3, .int x3)]) (hp' := rH e g q c l) (i := .iload_n 2) (len := 1) rfl hj rfl rfl rfl]
  obtain ⟨y2, cb2, hj2⟩ := mq_325
  rw [n_call (f := f) (d := d) (ki := 0) (idx := 247) (j' := 325) (kd := 0) (M' := (y2, cb2, 2, some .int, 12, 1, 0, 0)) (avs := [.ref 49, .int x2]) (r := []) (rv := some (.int v)) (hp1 := rH e g' q' c' l') rfl hj rfl rfl rfl rfl (rq_n rfl rfl hj2 rfl rfl) rfl hc (Nat.le_of_ble_eq_true rfl)]
  exact h
set_option maxRecDepth 100000 in
set_option maxHeartbeats 4000000 in
theorem bk_324_13 {b : Bool} {d : Nat} {t0 x2 x3 : Int32} {e : Nat → x_E} {g : Nat → Int32} {q : Nat → Int64} {c : Nat → Nat → Int32} {l : Nat → Nat → Int64} {R : Option Value × List x_E} (h1 : xCn .eq t0 ((Int8.ofInt (9)).toInt32) = true → rr b e d 324 43 [(0, .ref 49), (2, .int x2), (3, .int x3)] [] g q c l R) (h2 : ¬ xCn .eq t0 ((Int8.ofInt (9)).toInt32) = true → rr b e d 324 22 [(0, .ref 49), (2, .int x2), (3, .int x3), (4, .int t0)] [] g q c l R) : rr b e d 324 13 [(0, .ref 49), (2, .int x2), (3, .int x3)] [.int t0] g q c l R := by
  have key : ∀ f, nrun xZ (xY (xfm b)) xDT (f + 4) d 324 13 [(0, .ref 49), (2, .int x2), (3, .int x3)] [.int t0] (rH e g q c l) 0 0 = nrun xZ (xY (xfm b)) xDT f d 324 (if xCn .eq t0 ((Int8.ofInt (9)).toInt32) = true then 43 else 22) [(4, .int t0), (0, .ref 49), (2, .int x2), (3, .int x3)] [] (rH e g q c l) 0 0 := by
    intro f
    obtain ⟨y, cb, hj⟩ := mq_324
    rw [n_step (st' := []) (pc' := 15) (lv' := [(4, .int t0), (0, .ref 49), (2, .int x2), (3, .int x3)]) (hp' := rH e g q c l) (i := .istore 4) (len := 2) rfl hj rfl rfl rfl]
    rw [n_step (st' := [.int t0]) (pc' := 17) (lv' := [(4, .int t0), (0, .ref 49), (2, .int x2), (3, .int x3)]) (hp' := rH e g q c l) (i := .iload 4) (len := 2) rfl hj rfl rfl rfl]
    rw [n_step (st' := [.int (Int8.ofInt (9)).toInt32, .int t0]) (pc' := 19) (lv' := [(4, .int t0), (0, .ref 49), (2, .int x2), (3, .int x3)]) (hp' := rH e g q c l) (i := .bipush 9) (len := 2) rfl hj rfl rfl rfl]
    rw [n_step (st' := []) (pc' := (if xCn .eq t0 ((Int8.ofInt (9)).toInt32) = true then 43 else 22)) (lv' := [(4, .int t0), (0, .ref 49), (2, .int x2), (3, .int x3)]) (hp' := rH e g q c l) (i := .if_icmp .eq 24) (len := 3) rfl hj rfl rfl rfl]
  by_cases hc : xCn .eq t0 ((Int8.ofInt (9)).toInt32) = true
  · obtain ⟨f, h⟩ := h1 hc
    refine ⟨f + 4, ?_⟩
    rw [key, if_pos hc]
    exact nrun_ext f f _ _ R 324 43 [(0, .ref 49), (2, .int x2), (3, .int x3)] [(4, .int t0), (0, .ref 49), (2, .int x2), (3, .int x3)] [] _ 0 0 122 (Nat.le_refl _) (Nat.le_refl _) (Nat.le_of_ble_eq_true rfl) (lvR_mk [0, 2, 3] [4, 0, 2, 3] rfl rfl (by decide) (by decide) (List.forall_mem_cons.mpr ⟨(List.mem_cons_of_mem _ List.mem_cons_self), (List.forall_mem_cons.mpr ⟨(List.mem_cons_of_mem _ (List.mem_cons_of_mem _ List.mem_cons_self)), (List.forall_mem_cons.mpr ⟨(List.mem_cons_of_mem _ (List.mem_cons_of_mem _ (List.mem_cons_of_mem _ List.mem_cons_self))), (fun _ h => nomatch h)⟩)⟩)⟩) (List.forall_mem_cons.mpr ⟨Or.inr rfl, (List.forall_mem_cons.mpr ⟨Or.inl List.mem_cons_self, (List.forall_mem_cons.mpr ⟨Or.inl (List.mem_cons_of_mem _ List.mem_cons_self), (List.forall_mem_cons.mpr ⟨Or.inl (List.mem_cons_of_mem _ (List.mem_cons_of_mem _ List.mem_cons_self)), (fun _ h => nomatch h)⟩)⟩)⟩)⟩)) h
  · obtain ⟨f, h⟩ := h2 hc
    refine ⟨f + 4, ?_⟩
    rw [key, if_neg hc]
    exact nrun_ext f f _ _ R 324 22 [(0, .ref 49), (2, .int x2), (3, .int x3), (4, .int t0)] [(4, .int t0), (0, .ref 49), (2, .int x2), (3, .int x3)] [] _ 0 0 122 (Nat.le_refl _) (Nat.le_refl _) (Nat.le_of_ble_eq_true rfl) (lvR_mk [0, 2, 3, 4] [4, 0, 2, 3] rfl rfl (by decide) (by decide) (List.forall_mem_cons.mpr ⟨(List.mem_cons_of_mem _ List.mem_cons_self), (List.forall_mem_cons.mpr ⟨(List.mem_cons_of_mem _ (List.mem_cons_of_mem _ List.mem_cons_self)), (List.forall_mem_cons.mpr ⟨(List.mem_cons_of_mem _ (List.mem_cons_of_mem _ (List.mem_cons_of_mem _ List.mem_cons_self))), (List.forall_mem_cons.mpr ⟨List.mem_cons_self, (fun _ h => nomatch h)⟩)⟩)⟩)⟩) (List.forall_mem_cons.mpr ⟨Or.inl (List.mem_cons_of_mem _ (List.mem_cons_of_mem _ (List.mem_cons_of_mem _ List.mem_cons_self))), (List.forall_mem_cons.mpr ⟨Or.inl List.mem_cons_self, (List.forall_mem_cons.mpr ⟨Or.inl (List.mem_cons_of_mem _ List.mem_cons_self), (List.forall_mem_cons.mpr ⟨Or.inl (List.mem_cons_of_mem _ (List.mem_cons_of_mem _ List.mem_cons_self)), (fun _ h => nomatch h)⟩)⟩)⟩)⟩)) h
set_option maxRecDepth 100000 in
set_option maxHeartbeats 4000000 in
theorem bk_324_22 {b : Bool} {d : Nat} {x2 x3 x4 : Int32} {e : Nat → x_E} {g : Nat → Int32} {q : Nat → Int64} {c : Nat → Nat → Int32} {l : Nat → Nat → Int64} {R : Option Value × List x_E} (h1 : xCn .eq x4 ((Int8.ofInt (10)).toInt32) = true → rr b e d 324 43 [(0, .ref 49), (2, .int x2), (3, .int x3)] [] g q c l R) (h2 : ¬ xCn .eq x4 ((Int8.ofInt (10)).toInt32) = true → rr b e d 324 29 [(0, .ref 49), (2, .int x2), (3, .int x3), (4, .int x4)] [] g q c l R) : rr b e d 324 22 [(0, .ref 49), (2, .int x2), (3, .int x3), (4, .int x4)] [] g q c l R := by
  have key : ∀ f, nrun xZ (xY (xfm b)) xDT (f + 3) d 324 22 [(0, .ref 49), (2, .int x2), (3, .int x3), (4, .int x4)] [] (rH e g q c l) 0 0 = nrun xZ (xY (xfm b)) xDT f d 324 (if xCn .eq x4 ((Int8.ofInt (10)).toInt32) = true then 43 else 29) [(0, .ref 49), (2, .int x2), (3, .int x3), (4, .int x4)] [] (rH e g q c l) 0 0 := by
    intro f
    obtain ⟨y, cb, hj⟩ := mq_324
    rw [n_step (st' := [.int x4]) (pc' := 24) (lv' := [(0, .ref 49), (2, .int x2), (3, .int x3), (4, .int x4)]) (hp' := rH e g q c l) (i := .iload 4) (len := 2) rfl hj rfl rfl rfl]
    rw [n_step (st' := [.int (Int8.ofInt (10)).toInt32, .int x4]) (pc' := 26) (lv' := [(0, .ref 49), (2, .int x2), (3, .int x3), (4, .int x4)]) (hp' := rH e g q c l) (i := .bipush 10) (len := 2) rfl hj rfl rfl rfl]
    rw [n_step (st' := []) (pc' := (if xCn .eq x4 ((Int8.ofInt (10)).toInt32) = true then 43 else 29)) (lv' := [(0, .ref 49), (2, .int x2), (3, .int x3), (4, .int x4)]) (hp' := rH e g q c l) (i := .if_icmp .eq 17) (len := 3) rfl hj rfl rfl rfl]
  by_cases hc : xCn .eq x4 ((Int8.ofInt (10)).toInt32) = true
  · obtain ⟨f, h⟩ := h1 hc
    refine ⟨f + 3, ?_⟩
    rw [key, if_pos hc]
    exact nrun_ext f f _ _ R 324 43 [(0, .ref 49), (2, .int x2), (3, .int x3)] [(0, .ref 49), (2, .int x2), (3, .int x3), (4, .int x4)] [] _ 0 0 122 (Nat.le_refl _) (Nat.le_refl _) (Nat.le_of_ble_eq_true rfl) (lvR_mk [0, 2, 3] [0, 2, 3, 4] rfl rfl (by decide) (by decide) (List.forall_mem_cons.mpr ⟨List.mem_cons_self, (List.forall_mem_cons.mpr ⟨(List.mem_cons_of_mem _ List.mem_cons_self), (List.forall_mem_cons.mpr ⟨(List.mem_cons_of_mem _ (List.mem_cons_of_mem _ List.mem_cons_self)), (fun _ h => nomatch h)⟩)⟩)⟩) (List.forall_mem_cons.mpr ⟨Or.inl List.mem_cons_self, (List.forall_mem_cons.mpr ⟨Or.inl (List.mem_cons_of_mem _ List.mem_cons_self), (List.forall_mem_cons.mpr ⟨Or.inl (List.mem_cons_of_mem _ (List.mem_cons_of_mem _ List.mem_cons_self)), (List.forall_mem_cons.mpr ⟨Or.inr rfl, (fun _ h => nomatch h)⟩)⟩)⟩)⟩)) h
  · obtain ⟨f, h⟩ := h2 hc
    refine ⟨f + 3, ?_⟩
    rw [key, if_neg hc]
    exact h
set_option maxRecDepth 100000 in
set_option maxHeartbeats 4000000 in
theorem bk_324_29 {b : Bool} {d : Nat} {x2 x3 x4 : Int32} {e : Nat → x_E} {g : Nat → Int32} {q : Nat → Int64} {c : Nat → Nat → Int32} {l : Nat → Nat → Int64} {R : Option Value × List x_E} (h1 : xCn .eq x4 ((Int8.ofInt (13)).toInt32) = true → rr b e d 324 43 [(0, .ref 49), (2, .int x2), (3, .int x3)] [] g q c l R) (h2 : ¬ xCn .eq x4 ((Int8.ofInt (13)).toInt32) = true → rr b e d 324 36 [(0, .ref 49), (2, .int x2), (3, .int x3), (4, .int x4)] [] g q c l R) : rr b e d 324 29 [(0, .ref 49), (2, .int x2), (3, .int x3), (4, .int x4)] [] g q c l R := by
  have key : ∀ f, nrun xZ (xY (xfm b)) xDT (f + 3) d 324 29 [(0, .ref 49), (2, .int x2), (3, .int x3), (4, .int x4)] [] (rH e g q c l) 0 0 = nrun xZ (xY (xfm b)) xDT f d 324 (if xCn .eq x4 ((Int8.ofInt (13)).toInt32) = true then 43 else 36) [(0, .ref 49), (2, .int x2), (3, .int x3), (4, .int x4)] [] (rH e g q c l) 0 0 := by
    intro f
    obtain ⟨y, cb, hj⟩ := mq_324
    rw [n_step (st' := [.int x4]) (pc' := 31) (lv' := [(0, .ref 49), (2, .int x2), (3, .int x3), (4, .int x4)]) (hp' := rH e g q c l) (i := .iload 4) (len := 2) rfl hj rfl rfl rfl]
    rw [n_step (st' := [.int (Int8.ofInt (13)).toInt32, .int x4]) (pc' := 33) (lv' := [(0, .ref 49), (2, .int x2), (3, .int x3), (4, .int x4)]) (hp' := rH e g q c l) (i := .bipush 13) (len := 2) rfl hj rfl rfl rfl]
    rw [n_step (st' := []) (pc' := (if xCn .eq x4 ((Int8.ofInt (13)).toInt32) = true then 43 else 36)) (lv' := [(0, .ref 49), (2, .int x2), (3, .int x3), (4, .int x4)]) (hp' := rH e g q c l) (i := .if_icmp .eq 10) (len := 3) rfl hj rfl rfl rfl]
  by_cases hc : xCn .eq x4 ((Int8.ofInt (13)).toInt32) = true
  · obtain ⟨f, h⟩ := h1 hc
    refine ⟨f + 3, ?_⟩
    rw [key, if_pos hc]
    exact nrun_ext f f _ _ R 324 43 [(0, .ref 49), (2, .int x2), (3, .int x3)] [(0, .ref 49), (2, .int x2), (3, .int x3), (4, .int x4)] [] _ 0 0 122 (Nat.le_refl _) (Nat.le_refl _) (Nat.le_of_ble_eq_true rfl) (lvR_mk [0, 2, 3] [0, 2, 3, 4] rfl rfl (by decide) (by decide) (List.forall_mem_cons.mpr ⟨List.mem_cons_self, (List.forall_mem_cons.mpr ⟨(List.mem_cons_of_mem _ List.mem_cons_self), (List.forall_mem_cons.mpr ⟨(List.mem_cons_of_mem _ (List.mem_cons_of_mem _ List.mem_cons_self)), (fun _ h => nomatch h)⟩)⟩)⟩) (List.forall_mem_cons.mpr ⟨Or.inl List.mem_cons_self, (List.forall_mem_cons.mpr ⟨Or.inl (List.mem_cons_of_mem _ List.mem_cons_self), (List.forall_mem_cons.mpr ⟨Or.inl (List.mem_cons_of_mem _ (List.mem_cons_of_mem _ List.mem_cons_self)), (List.forall_mem_cons.mpr ⟨Or.inr rfl, (fun _ h => nomatch h)⟩)⟩)⟩)⟩)) h
  · obtain ⟨f, h⟩ := h2 hc
    refine ⟨f + 3, ?_⟩
    rw [key, if_neg hc]
    exact h
set_option maxRecDepth 100000 in
set_option maxHeartbeats 4000000 in
theorem bk_324_36 {b : Bool} {d : Nat} {x2 x3 x4 : Int32} {e : Nat → x_E} {g : Nat → Int32} {q : Nat → Int64} {c : Nat → Nat → Int32} {l : Nat → Nat → Int64} {R : Option Value × List x_E} (h1 : xCn .ne x4 ((Int8.ofInt (32)).toInt32) = true → rr b e d 324 50 [(0, .ref 49), (2, .int x2), (3, .int x3), (4, .int x4)] [] g q c l R) (h2 : ¬ xCn .ne x4 ((Int8.ofInt (32)).toInt32) = true → rr b e d 324 43 [(0, .ref 49), (2, .int x2), (3, .int x3)] [] g q c l R) : rr b e d 324 36 [(0, .ref 49), (2, .int x2), (3, .int x3), (4, .int x4)] [] g q c l R := by
  have key : ∀ f, nrun xZ (xY (xfm b)) xDT (f + 3) d 324 36 [(0, .ref 49), (2, .int x2), (3, .int x3), (4, .int x4)] [] (rH e g q c l) 0 0 = nrun xZ (xY (xfm b)) xDT f d 324 (if xCn .ne x4 ((Int8.ofInt (32)).toInt32) = true then 50 else 43) [(0, .ref 49), (2, .int x2), (3, .int x3), (4, .int x4)] [] (rH e g q c l) 0 0 := by
    intro f
    obtain ⟨y, cb, hj⟩ := mq_324
    rw [n_step (st' := [.int x4]) (pc' := 38) (lv' := [(0, .ref 49), (2, .int x2), (3, .int x3), (4, .int x4)]) (hp' := rH e g q c l) (i := .iload 4) (len := 2) rfl hj rfl rfl rfl]
    rw [n_step (st' := [.int (Int8.ofInt (32)).toInt32, .int x4]) (pc' := 40) (lv' := [(0, .ref 49), (2, .int x2), (3, .int x3), (4, .int x4)]) (hp' := rH e g q c l) (i := .bipush 32) (len := 2) rfl hj rfl rfl rfl]
    rw [n_step (st' := []) (pc' := (if xCn .ne x4 ((Int8.ofInt (32)).toInt32) = true then 50 else 43)) (lv' := [(0, .ref 49), (2, .int x2), (3, .int x3), (4, .int x4)]) (hp' := rH e g q c l) (i := .if_icmp .ne 10) (len := 3) rfl hj rfl rfl rfl]
  by_cases hc : xCn .ne x4 ((Int8.ofInt (32)).toInt32) = true
  · obtain ⟨f, h⟩ := h1 hc
    refine ⟨f + 3, ?_⟩
    rw [key, if_pos hc]
    exact h
  · obtain ⟨f, h⟩ := h2 hc
    refine ⟨f + 3, ?_⟩
    rw [key, if_neg hc]
    exact nrun_ext f f _ _ R 324 43 [(0, .ref 49), (2, .int x2), (3, .int x3)] [(0, .ref 49), (2, .int x2), (3, .int x3), (4, .int x4)] [] _ 0 0 122 (Nat.le_refl _) (Nat.le_refl _) (Nat.le_of_ble_eq_true rfl) (lvR_mk [0, 2, 3] [0, 2, 3, 4] rfl rfl (by decide) (by decide) (List.forall_mem_cons.mpr ⟨List.mem_cons_self, (List.forall_mem_cons.mpr ⟨(List.mem_cons_of_mem _ List.mem_cons_self), (List.forall_mem_cons.mpr ⟨(List.mem_cons_of_mem _ (List.mem_cons_of_mem _ List.mem_cons_self)), (fun _ h => nomatch h)⟩)⟩)⟩) (List.forall_mem_cons.mpr ⟨Or.inl List.mem_cons_self, (List.forall_mem_cons.mpr ⟨Or.inl (List.mem_cons_of_mem _ List.mem_cons_self), (List.forall_mem_cons.mpr ⟨Or.inl (List.mem_cons_of_mem _ (List.mem_cons_of_mem _ List.mem_cons_self)), (List.forall_mem_cons.mpr ⟨Or.inr rfl, (fun _ h => nomatch h)⟩)⟩)⟩)⟩)) h
set_option maxRecDepth 100000 in
set_option maxHeartbeats 4000000 in
theorem bk_324_43 {b : Bool} {d : Nat} {x2 x3 : Int32} {e : Nat → x_E} {g : Nat → Int32} {q : Nat → Int64} {c : Nat → Nat → Int32} {l : Nat → Nat → Int64} {R : Option Value × List x_E} (h : rr b e d 324 85 [(0, .ref 49), (2, .int (x2 + (Int32.ofInt (1)))), (3, .int x3)] [] g q c l R) : rr b e d 324 43 [(0, .ref 49), (2, .int x2), (3, .int x3)] [] g q c l R := by
  obtain ⟨f, h⟩ := h
  refine ⟨f + 5, ?_⟩
  obtain ⟨y, cb, hj⟩ := mq_324
  rw [n_step (st' := [.int x2]) (pc' := 44) (lv' := [(0, .ref 49), (2, .int x2), (3, .int x3)]) (hp' := rH e g q c l) (i := .iload_n 2) (len := 1) rfl hj rfl rfl rfl]
  rw [n_step (st' := [.int (Int32.ofInt (1)), .int x2]) (pc' := 45) (lv' := [(0, .ref 49), (2, .int x2), (3, .int x3)]) (hp' := rH e g q c l) (i := .iconst 1) (len := 1) rfl hj rfl rfl rfl]
  rw [n_step (st' := [.int (x2 + (Int32.ofInt (1)))]) (pc' := 46) (lv' := [(0, .ref 49), (2, .int x2), (3, .int x3)]) (hp' := rH e g q c l) (i := .iadd) (len := 1) rfl hj rfl rfl rfl]
  rw [n_step (st' := []) (pc' := 47) (lv' := [(2, .int (x2 + (Int32.ofInt (1)))), (0, .ref 49), (3, .int x3)]) (hp' := rH e g q c l) (i := .istore_n 2) (len := 1) rfl hj rfl rfl rfl]
  rw [n_step (st' := []) (pc' := 85) (lv' := [(2, .int (x2 + (Int32.ofInt (1)))), (0, .ref 49), (3, .int x3)]) (hp' := rH e g q c l) (i := .goto 38) (len := 3) rfl hj rfl rfl rfl]
  exact nrun_ext f f _ _ R 324 85 [(0, .ref 49), (2, .int (x2 + (Int32.ofInt (1)))), (3, .int x3)] [(2, .int (x2 + (Int32.ofInt (1)))), (0, .ref 49), (3, .int x3)] [] _ 0 0 122 (Nat.le_refl _) (Nat.le_refl _) (Nat.le_of_ble_eq_true rfl) (lvR_mk [0, 2, 3] [2, 0, 3] rfl rfl (by decide) (by decide) (List.forall_mem_cons.mpr ⟨(List.mem_cons_of_mem _ List.mem_cons_self), (List.forall_mem_cons.mpr ⟨List.mem_cons_self, (List.forall_mem_cons.mpr ⟨(List.mem_cons_of_mem _ (List.mem_cons_of_mem _ List.mem_cons_self)), (fun _ h => nomatch h)⟩)⟩)⟩) (List.forall_mem_cons.mpr ⟨Or.inl (List.mem_cons_of_mem _ List.mem_cons_self), (List.forall_mem_cons.mpr ⟨Or.inl List.mem_cons_self, (List.forall_mem_cons.mpr ⟨Or.inl (List.mem_cons_of_mem _ (List.mem_cons_of_mem _ List.mem_cons_self)), (fun _ h => nomatch h)⟩)⟩)⟩)) h
set_option maxRecDepth 100000 in
set_option maxHeartbeats 4000000 in
theorem bk_324_50 {b : Bool} {d : Nat} {x2 x3 x4 : Int32} {e : Nat → x_E} {g : Nat → Int32} {q : Nat → Int64} {c : Nat → Nat → Int32} {l : Nat → Nat → Int64} {R : Option Value × List x_E} (h1 : xCn .ne x4 ((Int8.ofInt (37)).toInt32) = true → rr b e d 324 83 [(0, .ref 49), (2, .int x2)] [] g q c l R) (h2 : ¬ xCn .ne x4 ((Int8.ofInt (37)).toInt32) = true → rr b e d 324 57 [(0, .ref 49), (2, .int x2), (3, .int x3)] [] g q c l R) : rr b e d 324 50 [(0, .ref 49), (2, .int x2), (3, .int x3), (4, .int x4)] [] g q c l R := by
  have key : ∀ f, nrun xZ (xY (xfm b)) xDT (f + 3) d 324 50 [(0, .ref 49), (2, .int x2), (3, .int x3), (4, .int x4)] [] (rH e g q c l) 0 0 = nrun xZ (xY (xfm b)) xDT f d 324 (if xCn .ne x4 ((Int8.ofInt (37)).toInt32) = true then 83 else 57) [(0, .ref 49), (2, .int x2), (3, .int x3), (4, .int x4)] [] (rH e g q c l) 0 0 := by
    intro f
    obtain ⟨y, cb, hj⟩ := mq_324
    rw [n_step (st' := [.int x4]) (pc' := 52) (lv' := [(0, .ref 49), (2, .int x2), (3, .int x3), (4, .int x4)]) (hp' := rH e g q c l) (i := .iload 4) (len := 2) rfl hj rfl rfl rfl]
    rw [n_step (st' := [.int (Int8.ofInt (37)).toInt32, .int x4]) (pc' := 54) (lv' := [(0, .ref 49), (2, .int x2), (3, .int x3), (4, .int x4)]) (hp' := rH e g q c l) (i := .bipush 37) (len := 2) rfl hj rfl rfl rfl]
    rw [n_step (st' := []) (pc' := (if xCn .ne x4 ((Int8.ofInt (37)).toInt32) = true then 83 else 57)) (lv' := [(0, .ref 49), (2, .int x2), (3, .int x3), (4, .int x4)]) (hp' := rH e g q c l) (i := .if_icmp .ne 29) (len := 3) rfl hj rfl rfl rfl]
  by_cases hc : xCn .ne x4 ((Int8.ofInt (37)).toInt32) = true
  · obtain ⟨f, h⟩ := h1 hc
    refine ⟨f + 3, ?_⟩
    rw [key, if_pos hc]
    exact nrun_ext f f _ _ R 324 83 [(0, .ref 49), (2, .int x2)] [(0, .ref 49), (2, .int x2), (3, .int x3), (4, .int x4)] [] _ 0 0 122 (Nat.le_refl _) (Nat.le_refl _) (Nat.le_of_ble_eq_true rfl) (lvR_mk [0, 2] [0, 2, 3, 4] rfl rfl (by decide) (by decide) (List.forall_mem_cons.mpr ⟨List.mem_cons_self, (List.forall_mem_cons.mpr ⟨(List.mem_cons_of_mem _ List.mem_cons_self), (fun _ h => nomatch h)⟩)⟩) (List.forall_mem_cons.mpr ⟨Or.inl List.mem_cons_self, (List.forall_mem_cons.mpr ⟨Or.inl (List.mem_cons_of_mem _ List.mem_cons_self), (List.forall_mem_cons.mpr ⟨Or.inr rfl, (List.forall_mem_cons.mpr ⟨Or.inr rfl, (fun _ h => nomatch h)⟩)⟩)⟩)⟩)) h
  · obtain ⟨f, h⟩ := h2 hc
    refine ⟨f + 3, ?_⟩
    rw [key, if_neg hc]
    exact nrun_ext f f _ _ R 324 57 [(0, .ref 49), (2, .int x2), (3, .int x3)] [(0, .ref 49), (2, .int x2), (3, .int x3), (4, .int x4)] [] _ 0 0 122 (Nat.le_refl _) (Nat.le_refl _) (Nat.le_of_ble_eq_true rfl) (lvR_mk [0, 2, 3] [0, 2, 3, 4] rfl rfl (by decide) (by decide) (List.forall_mem_cons.mpr ⟨List.mem_cons_self, (List.forall_mem_cons.mpr ⟨(List.mem_cons_of_mem _ List.mem_cons_self), (List.forall_mem_cons.mpr ⟨(List.mem_cons_of_mem _ (List.mem_cons_of_mem _ List.mem_cons_self)), (fun _ h => nomatch h)⟩)⟩)⟩) (List.forall_mem_cons.mpr ⟨Or.inl List.mem_cons_self, (List.forall_mem_cons.mpr ⟨Or.inl (List.mem_cons_of_mem _ List.mem_cons_self), (List.forall_mem_cons.mpr ⟨Or.inl (List.mem_cons_of_mem _ (List.mem_cons_of_mem _ List.mem_cons_self)), (List.forall_mem_cons.mpr ⟨Or.inr rfl, (fun _ h => nomatch h)⟩)⟩)⟩)⟩)) h
set_option maxRecDepth 100000 in
set_option maxHeartbeats 4000000 in
theorem bk_324_57 {b : Bool} {d : Nat} {x2 x3 : Int32} {e : Nat → x_E} {g : Nat → Int32} {q : Nat → Int64} {c : Nat → Nat → Int32} {l : Nat → Nat → Int64} {R : Option Value × List x_E} (h1 : xCn .ge x2 ((g 3)) = true → rr b e d 324 85 [(0, .ref 49), (2, .int x2), (3, .int x3)] [] g q c l R) (h2 : ¬ xCn .ge x2 ((g 3)) = true → rr b e d 324 65 [(0, .ref 49), (2, .int x2), (3, .int x3)] [] g q c l R) : rr b e d 324 57 [(0, .ref 49), (2, .int x2), (3, .int x3)] [] g q c l R := by
  have key : ∀ f, nrun xZ (xY (xfm b)) xDT (f + 4) d 324 57 [(0, .ref 49), (2, .int x2), (3, .int x3)] [] (rH e g q c l) 0 0 = nrun xZ (xY (xfm b)) xDT f d 324 (if xCn .ge x2 ((g 3)) = true then 85 else 65) [(0, .ref 49), (2, .int x2), (3, .int x3)] [] (rH e g q c l) 0 0 := by
    intro f
    obtain ⟨y, cb, hj⟩ := mq_324
    rw [n_step (st' := [.int x2]) (pc' := 58) (lv' := [(0, .ref 49), (2, .int x2), (3, .int x3)]) (hp' := rH e g q c l) (i := .iload_n 2) (len := 1) rfl hj rfl rfl rfl]
    rw [n_step (st' := [.ref 49, .int x2]) (pc' := 59) (lv' := [(0, .ref 49), (2, .int x2), (3, .int x3)]) (hp' := rH e g q c l) (i := .aload_n 0) (len := 1) rfl hj rfl rfl rfl]
    rw [n_get (st' := [.int (g 3), .int x2]) (pc' := 62) (lv' := [(0, .ref 49), (2, .int x2), (3, .int x3)]) (hp' := rH e g q c l) (i := .getfield 244) (len := 3) rfl hj rfl rfl rfl rfl]
    rw [n_step (st' := []) (pc' := (if xCn .ge x2 ((g 3)) = true then 85 else 65)) (lv' := [(0, .ref 49), (2, .int x2), (3, .int x3)]) (hp' := rH e g q c l) (i := .if_icmp .ge 23) (len := 3) rfl hj rfl rfl rfl]
  by_cases hc : xCn .ge x2 ((g 3)) = true
  · obtain ⟨f, h⟩ := h1 hc
    refine ⟨f + 4, ?_⟩
    rw [key, if_pos hc]
    exact h
  · obtain ⟨f, h⟩ := h2 hc
    refine ⟨f + 4, ?_⟩
    rw [key, if_neg hc]
    exact h
set_option maxRecDepth 100000 in
set_option maxHeartbeats 4000000 in
theorem bk_324_65 {b : Bool} {d : Nat} {x2 x3 : Int32} {e : Nat → x_E} {g : Nat → Int32} {q : Nat → Int64} {c : Nat → Nat → Int32} {l : Nat → Nat → Int64} {R : Option Value × List x_E} (hz0 : ¬ (x2 < 0 ∨ 6000 ≤ (x2).toNatClampNeg)) (h1 : xCn .eq ((c 51 (x2).toNatClampNeg)) ((Int8.ofInt (10)).toInt32) = true → rr b e d 324 85 [(0, .ref 49), (2, .int x2), (3, .int x3)] [] g q c l R) (h2 : ¬ xCn .eq ((c 51 (x2).toNatClampNeg)) ((Int8.ofInt (10)).toInt32) = true → rr b e d 324 76 [(0, .ref 49), (2, .int x2), (3, .int x3)] [] g q c l R) : rr b e d 324 65 [(0, .ref 49), (2, .int x2), (3, .int x3)] [] g q c l R := by
  have key : ∀ f, nrun xZ (xY (xfm b)) xDT (f + 6) d 324 65 [(0, .ref 49), (2, .int x2), (3, .int x3)] [] (rH e g q c l) 0 0 = nrun xZ (xY (xfm b)) xDT f d 324 (if xCn .eq ((c 51 (x2).toNatClampNeg)) ((Int8.ofInt (10)).toInt32) = true then 85 else 76) [(0, .ref 49), (2, .int x2), (3, .int x3)] [] (rH e g q c l) 0 0 := by
    intro f
    obtain ⟨y, cb, hj⟩ := mq_324
    rw [n_step (st' := [.ref 49]) (pc' := 66) (lv' := [(0, .ref 49), (2, .int x2), (3, .int x3)]) (hp' := rH e g q c l) (i := .aload_n 0) (len := 1) rfl hj rfl rfl rfl]
    rw [n_get (st' := [.ref 51]) (pc' := 69) (lv' := [(0, .ref 49), (2, .int x2), (3, .int x3)]) (hp' := rH e g q c l) (i := .getfield 13) (len := 3) rfl hj rfl rfl rfl rfl]
    rw [n_step (st' := [.int x2, .ref 51]) (pc' := 70) (lv' := [(0, .ref 49), (2, .int x2), (3, .int x3)]) (hp' := rH e g q c l) (i := .iload_n 2) (len := 1) rfl hj rfl rfl rfl]
    rw [n_ial (st' := [.int (c 51 (x2).toNatClampNeg)]) rfl hj (ald_51 hz0)]
    rw [n_step (st' := [.int (Int8.ofInt (10)).toInt32, .int (c 51 (x2).toNatClampNeg)]) (pc' := 73) (lv' := [(0, .ref 49), (2, .int x2), (3, .int x3)]) (hp' := rH e g q c l) (i := .bipush 10) (len := 2) rfl hj rfl rfl rfl]
    rw [n_step (st' := []) (pc' := (if xCn .eq ((c 51 (x2).toNatClampNeg)) ((Int8.ofInt (10)).toInt32) = true then 85 else 76)) (lv' := [(0, .ref 49), (2, .int x2), (3, .int x3)]) (hp' := rH e g q c l) (i := .if_icmp .eq 12) (len := 3) rfl hj rfl rfl rfl]
  by_cases hc : xCn .eq ((c 51 (x2).toNatClampNeg)) ((Int8.ofInt (10)).toInt32) = true
  · obtain ⟨f, h⟩ := h1 hc
    refine ⟨f + 6, ?_⟩
    rw [key, if_pos hc]
    exact h
  · obtain ⟨f, h⟩ := h2 hc
    refine ⟨f + 6, ?_⟩
    rw [key, if_neg hc]
    exact h
set_option maxRecDepth 100000 in
set_option maxHeartbeats 4000000 in
theorem bk_324_76 {b : Bool} {d : Nat} {x2 x3 : Int32} {e : Nat → x_E} {g : Nat → Int32} {q : Nat → Int64} {c : Nat → Nat → Int32} {l : Nat → Nat → Int64} {R : Option Value × List x_E} (h : rr b e d 324 57 [(0, .ref 49), (2, .int (x2 + (Int32.ofInt (1)))), (3, .int x3)] [] g q c l R) : rr b e d 324 76 [(0, .ref 49), (2, .int x2), (3, .int x3)] [] g q c l R := by
  obtain ⟨f, h⟩ := h
  refine ⟨f + 5, ?_⟩
  obtain ⟨y, cb, hj⟩ := mq_324
  rw [n_step (st' := [.int x2]) (pc' := 77) (lv' := [(0, .ref 49), (2, .int x2), (3, .int x3)]) (hp' := rH e g q c l) (i := .iload_n 2) (len := 1) rfl hj rfl rfl rfl]
  rw [n_step (st' := [.int (Int32.ofInt (1)), .int x2]) (pc' := 78) (lv' := [(0, .ref 49), (2, .int x2), (3, .int x3)]) (hp' := rH e g q c l) (i := .iconst 1) (len := 1) rfl hj rfl rfl rfl]
  rw [n_step (st' := [.int (x2 + (Int32.ofInt (1)))]) (pc' := 79) (lv' := [(0, .ref 49), (2, .int x2), (3, .int x3)]) (hp' := rH e g q c l) (i := .iadd) (len := 1) rfl hj rfl rfl rfl]
  rw [n_step (st' := []) (pc' := 80) (lv' := [(2, .int (x2 + (Int32.ofInt (1)))), (0, .ref 49), (3, .int x3)]) (hp' := rH e g q c l) (i := .istore_n 2) (len := 1) rfl hj rfl rfl rfl]
  rw [n_step (st' := []) (pc' := 57) (lv' := [(2, .int (x2 + (Int32.ofInt (1)))), (0, .ref 49), (3, .int x3)]) (hp' := rH e g q c l) (i := .goto (-23)) (len := 3) rfl hj rfl rfl rfl]
  exact nrun_ext f f _ _ R 324 57 [(0, .ref 49), (2, .int (x2 + (Int32.ofInt (1)))), (3, .int x3)] [(2, .int (x2 + (Int32.ofInt (1)))), (0, .ref 49), (3, .int x3)] [] _ 0 0 122 (Nat.le_refl _) (Nat.le_refl _) (Nat.le_of_ble_eq_true rfl) (lvR_mk [0, 2, 3] [2, 0, 3] rfl rfl (by decide) (by decide) (List.forall_mem_cons.mpr ⟨(List.mem_cons_of_mem _ List.mem_cons_self), (List.forall_mem_cons.mpr ⟨List.mem_cons_self, (List.forall_mem_cons.mpr ⟨(List.mem_cons_of_mem _ (List.mem_cons_of_mem _ List.mem_cons_self)), (fun _ h => nomatch h)⟩)⟩)⟩) (List.forall_mem_cons.mpr ⟨Or.inl (List.mem_cons_of_mem _ List.mem_cons_self), (List.forall_mem_cons.mpr ⟨Or.inl List.mem_cons_self, (List.forall_mem_cons.mpr ⟨Or.inl (List.mem_cons_of_mem _ (List.mem_cons_of_mem _ List.mem_cons_self)), (fun _ h => nomatch h)⟩)⟩)⟩)) h
set_option maxRecDepth 100000 in
set_option maxHeartbeats 4000000 in
theorem bk_324_83 {b : Bool} {d : Nat} {x2 : Int32} {e : Nat → x_E} {g : Nat → Int32} {q : Nat → Int64} {c : Nat → Nat → Int32} {l : Nat → Nat → Int64} {R : Option Value × List x_E} (h : rr b e d 324 85 [(0, .ref 49), (2, .int x2), (3, .int (Int32.ofInt (0)))] [] g q c l R) : rr b e d 324 83 [(0, .ref 49), (2, .int x2)] [] g q c l R := by
  obtain ⟨f, h⟩ := h
  refine ⟨f + 2, ?_⟩
  obtain ⟨y, cb, hj⟩ := mq_324
  rw [n_step (st' := [.int (Int32.ofInt (0))]) (pc' := 84) (lv' := [(0, .ref 49), (2, .int x2)]) (hp' := rH e g q c l) (i := .iconst 0) (len := 1) rfl hj rfl rfl rfl]
  rw [n_step (st' := []) (pc' := 85) (lv' := [(3, .int (Int32.ofInt (0))), (0, .ref 49), (2, .int x2)]) (hp' := rH e g q c l) (i := .istore_n 3) (len := 1) rfl hj rfl rfl rfl]
  exact nrun_ext f f _ _ R 324 85 [(0, .ref 49), (2, .int x2), (3, .int (Int32.ofInt (0)))] [(3, .int (Int32.ofInt (0))), (0, .ref 49), (2, .int x2)] [] _ 0 0 122 (Nat.le_refl _) (Nat.le_refl _) (Nat.le_of_ble_eq_true rfl) (lvR_mk [0, 2, 3] [3, 0, 2] rfl rfl (by decide) (by decide) (List.forall_mem_cons.mpr ⟨(List.mem_cons_of_mem _ List.mem_cons_self), (List.forall_mem_cons.mpr ⟨(List.mem_cons_of_mem _ (List.mem_cons_of_mem _ List.mem_cons_self)), (List.forall_mem_cons.mpr ⟨List.mem_cons_self, (fun _ h => nomatch h)⟩)⟩)⟩) (List.forall_mem_cons.mpr ⟨Or.inl (List.mem_cons_of_mem _ (List.mem_cons_of_mem _ List.mem_cons_self)), (List.forall_mem_cons.mpr ⟨Or.inl List.mem_cons_self, (List.forall_mem_cons.mpr ⟨Or.inl (List.mem_cons_of_mem _ List.mem_cons_self), (fun _ h => nomatch h)⟩)⟩)⟩)) h
set_option maxRecDepth 100000 in
set_option maxHeartbeats 4000000 in
theorem bk_324_85 {b : Bool} {d : Nat} {x2 x3 : Int32} {e : Nat → x_E} {g : Nat → Int32} {q : Nat → Int64} {c : Nat → Nat → Int32} {l : Nat → Nat → Int64} {R : Option Value × List x_E} (h : rr b e d 324 4 [(0, .ref 49), (2, .int x2), (3, .int x3)] [] g q c l R) : rr b e d 324 85 [(0, .ref 49), (2, .int x2), (3, .int x3)] [] g q c l R := by
  obtain ⟨f, h⟩ := h
  refine ⟨f + 1, ?_⟩
  obtain ⟨y, cb, hj⟩ := mq_324
  rw [n_step (st' := []) (pc' := 4) (lv' := [(0, .ref 49), (2, .int x2), (3, .int x3)]) (hp' := rH e g q c l) (i := .goto (-81)) (len := 3) rfl hj rfl rfl rfl]
  exact h
set_option maxRecDepth 100000 in
set_option maxHeartbeats 4000000 in
theorem bk_324_88 {b : Bool} {d : Nat} {x2 : Int32} {e : Nat → x_E} {g : Nat → Int32} {q : Nat → Int64} {c : Nat → Nat → Int32} {l : Nat → Nat → Int64} : rr b e d 324 88 [(2, .int x2)] [] g q c l (some (.int x2), rH e g q c l) := by
  refine ⟨0 + 2, ?_⟩
  obtain ⟨y, cb, hj⟩ := mq_324
  rw [n_step (st' := [.int x2]) (pc' := 89) (lv' := [(2, .int x2)]) (hp' := rH e g q c l) (i := .iload_n 2) (len := 1) rfl hj rfl rfl rfl]
  exact n_ret rfl hj rfl rfl (x_ret rfl)
set_option maxRecDepth 100000 in
set_option maxHeartbeats 4000000 in
theorem bk_325_0 {b : Bool} {d : Nat} {x1 : Int32} {e : Nat → x_E} {g : Nat → Int32} {q : Nat → Int64} {c : Nat → Nat → Int32} {l : Nat → Nat → Int64} {R : Option Value × List x_E} (h1 : xCn .ge x1 ((g 3)) = true → rr b e d 325 17 [] [] g q c l R) (h2 : ¬ xCn .ge x1 ((g 3)) = true → rr b e d 325 8 [(0, .ref 49), (1, .int x1)] [] g q c l R) : rr b e d 325 0 [(0, .ref 49), (1, .int x1)] [] g q c l R := by
  have key : ∀ f, nrun xZ (xY (xfm b)) xDT (f + 4) d 325 0 [(0, .ref 49), (1, .int x1)] [] (rH e g q c l) 0 0 = nrun xZ (xY (xfm b)) xDT f d 325 (if xCn .ge x1 ((g 3)) = true then 17 else 8) [(0, .ref 49), (1, .int x1)] [] (rH e g q c l) 0 0 := by
    intro f
    obtain ⟨y, cb, hj⟩ := mq_325
    rw [n_step (st' := [.int x1]) (pc' := 1) (lv' := [(0, .ref 49), (1, .int x1)]) (hp' := rH e g q c l) (i := .iload_n 1) (len := 1) rfl hj rfl rfl rfl]
    rw [n_step (st' := [.ref 49, .int x1]) (pc' := 2) (lv' := [(0, .ref 49), (1, .int x1)]) (hp' := rH e g q c l) (i := .aload_n 0) (len := 1) rfl hj rfl rfl rfl]
    rw [n_get (st' := [.int (g 3), .int x1]) (pc' := 5) (lv' := [(0, .ref 49), (1, .int x1)]) (hp' := rH e g q c l) (i := .getfield 244) (len := 3) rfl hj rfl rfl rfl rfl]
    rw [n_step (st' := []) (pc' := (if xCn .ge x1 ((g 3)) = true then 17 else 8)) (lv' := [(0, .ref 49), (1, .int x1)]) (hp' := rH e g q c l) (i := .if_icmp .ge 12) (len := 3) rfl hj rfl rfl rfl]
  by_cases hc : xCn .ge x1 ((g 3)) = true
  · obtain ⟨f, h⟩ := h1 hc
    refine ⟨f + 4, ?_⟩
    rw [key, if_pos hc]
    exact nrun_ext f f _ _ R 325 17 [] [(0, .ref 49), (1, .int x1)] [] _ 0 0 122 (Nat.le_refl _) (Nat.le_refl _) (Nat.le_of_ble_eq_true rfl) (lvR_mk [] [0, 1] rfl rfl (by decide) (by decide) (fun _ h => nomatch h) (List.forall_mem_cons.mpr ⟨Or.inr rfl, (List.forall_mem_cons.mpr ⟨Or.inr rfl, (fun _ h => nomatch h)⟩)⟩)) h
  · obtain ⟨f, h⟩ := h2 hc
    refine ⟨f + 4, ?_⟩
    rw [key, if_neg hc]
    exact h
set_option maxRecDepth 100000 in
set_option maxHeartbeats 4000000 in
theorem bk_325_8 {b : Bool} {d : Nat} {x1 : Int32} {e : Nat → x_E} {g : Nat → Int32} {q : Nat → Int64} {c : Nat → Nat → Int32} {l : Nat → Nat → Int64} {R : Option Value × List x_E} (hz0 : ¬ (x1 < 0 ∨ 6000 ≤ (x1).toNatClampNeg)) (h : rr b e d 325 18 [] [.int (c 51 (x1).toNatClampNeg)] g q c l R) : rr b e d 325 8 [(0, .ref 49), (1, .int x1)] [] g q c l R := by
  obtain ⟨f, h⟩ := h
  refine ⟨f + 5, ?_⟩
  obtain ⟨y, cb, hj⟩ := mq_325
  rw [n_step (st' := [.ref 49]) (pc' := 9) (lv' := [(0, .ref 49), (1, .int x1)]) (hp' := rH e g q c l) (i := .aload_n 0) (len := 1) rfl hj rfl rfl rfl]
  rw [n_get (st' := [.ref 51]) (pc' := 12) (lv' := [(0, .ref 49), (1, .int x1)]) (hp' := rH e g q c l) (i := .getfield 13) (len := 3) rfl hj rfl rfl rfl rfl]
  rw [n_step (st' := [.int x1, .ref 51]) (pc' := 13) (lv' := [(0, .ref 49), (1, .int x1)]) (hp' := rH e g q c l) (i := .iload_n 1) (len := 1) rfl hj rfl rfl rfl]
  rw [n_ial (st' := [.int (c 51 (x1).toNatClampNeg)]) rfl hj (ald_51 hz0)]
  rw [n_step (st' := [.int (c 51 (x1).toNatClampNeg)]) (pc' := 18) (lv' := [(0, .ref 49), (1, .int x1)]) (hp' := rH e g q c l) (i := .goto 4) (len := 3) rfl hj rfl rfl rfl]
  exact nrun_ext f f _ _ R 325 18 [] [(0, .ref 49), (1, .int x1)] [.int (c 51 (x1).toNatClampNeg)] _ 0 0 122 (Nat.le_refl _) (Nat.le_refl _) (Nat.le_of_ble_eq_true rfl) (lvR_mk [] [0, 1] rfl rfl (by decide) (by decide) (fun _ h => nomatch h) (List.forall_mem_cons.mpr ⟨Or.inr rfl, (List.forall_mem_cons.mpr ⟨Or.inr rfl, (fun _ h => nomatch h)⟩)⟩)) h
set_option maxRecDepth 100000 in
set_option maxHeartbeats 4000000 in
theorem bk_325_17 {b : Bool} {d : Nat} {e : Nat → x_E} {g : Nat → Int32} {q : Nat → Int64} {c : Nat → Nat → Int32} {l : Nat → Nat → Int64} {R : Option Value × List x_E} (h : rr b e d 325 18 [] [.int (Int32.ofInt (-1))] g q c l R) : rr b e d 325 17 [] [] g q c l R := by
  obtain ⟨f, h⟩ := h
  refine ⟨f + 1, ?_⟩
  obtain ⟨y, cb, hj⟩ := mq_325
  rw [n_step (st' := [.int (Int32.ofInt (-1))]) (pc' := 18) (lv' := []) (hp' := rH e g q c l) (i := .iconst (-1)) (len := 1) rfl hj rfl rfl rfl]
  exact h
set_option maxRecDepth 100000 in
set_option maxHeartbeats 4000000 in
theorem bk_325_18 {b : Bool} {d : Nat} {t0 : Int32} {e : Nat → x_E} {g : Nat → Int32} {q : Nat → Int64} {c : Nat → Nat → Int32} {l : Nat → Nat → Int64} : rr b e d 325 18 [] [.int t0] g q c l (some (.int t0), rH e g q c l) := by
  refine ⟨0 + 1, ?_⟩
  obtain ⟨y, cb, hj⟩ := mq_325
  exact n_ret rfl hj rfl rfl (x_ret rfl)
set_option maxRecDepth 100000 in
set_option maxHeartbeats 4000000 in
theorem bk_326_0 {b : Bool} {d : Nat} {x0 : Int32} {e : Nat → x_E} {g : Nat → Int32} {q : Nat → Int64} {c : Nat → Nat → Int32} {l : Nat → Nat → Int64} {R : Option Value × List x_E} (h1 : xCn .lt x0 ((Int8.ofInt (65)).toInt32) = true → rr b e d 326 12 [(0, .int x0)] [] g q c l R) (h2 : ¬ xCn .lt x0 ((Int8.ofInt (65)).toInt32) = true → rr b e d 326 6 [(0, .int x0)] [] g q c l R) : rr b e d 326 0 [(0, .int x0)] [] g q c l R := by
  have key : ∀ f, nrun xZ (xY (xfm b)) xDT (f + 3) d 326 0 [(0, .int x0)] [] (rH e g q c l) 0 0 = nrun xZ (xY (xfm b)) xDT f d 326 (if xCn .lt x0 ((Int8.ofInt (65)).toInt32) = true then 12 else 6) [(0, .int x0)] [] (rH e g q c l) 0 0 := by
    intro f
    obtain ⟨y, cb, hj⟩ := mq_326
    rw [n_step (st' := [.int x0]) (pc' := 1) (lv' := [(0, .int x0)]) (hp' := rH e g q c l) (i := .iload_n 0) (len := 1) rfl hj rfl rfl rfl]
    rw [n_step (st' := [.int (Int8.ofInt (65)).toInt32, .int x0]) (pc' := 3) (lv' := [(0, .int x0)]) (hp' := rH e g q c l) (i := .bipush 65) (len := 2) rfl hj rfl rfl rfl]
    rw [n_step (st' := []) (pc' := (if xCn .lt x0 ((Int8.ofInt (65)).toInt32) = true then 12 else 6)) (lv' := [(0, .int x0)]) (hp' := rH e g q c l) (i := .if_icmp .lt 9) (len := 3) rfl hj rfl rfl rfl]
  by_cases hc : xCn .lt x0 ((Int8.ofInt (65)).toInt32) = true
  · obtain ⟨f, h⟩ := h1 hc
    refine ⟨f + 3, ?_⟩
    rw [key, if_pos hc]
    exact h
  · obtain ⟨f, h⟩ := h2 hc
    refine ⟨f + 3, ?_⟩
    rw [key, if_neg hc]
    exact h
set_option maxRecDepth 100000 in
set_option maxHeartbeats 4000000 in
theorem bk_326_6 {b : Bool} {d : Nat} {x0 : Int32} {e : Nat → x_E} {g : Nat → Int32} {q : Nat → Int64} {c : Nat → Nat → Int32} {l : Nat → Nat → Int64} {R : Option Value × List x_E} (h1 : xCn .le x0 ((Int8.ofInt (90)).toInt32) = true → rr b e d 326 24 [] [] g q c l R) (h2 : ¬ xCn .le x0 ((Int8.ofInt (90)).toInt32) = true → rr b e d 326 12 [(0, .int x0)] [] g q c l R) : rr b e d 326 6 [(0, .int x0)] [] g q c l R := by
  have key : ∀ f, nrun xZ (xY (xfm b)) xDT (f + 3) d 326 6 [(0, .int x0)] [] (rH e g q c l) 0 0 = nrun xZ (xY (xfm b)) xDT f d 326 (if xCn .le x0 ((Int8.ofInt (90)).toInt32) = true then 24 else 12) [(0, .int x0)] [] (rH e g q c l) 0 0 := by
    intro f
    obtain ⟨y, cb, hj⟩ := mq_326
    rw [n_step (st' := [.int x0]) (pc' := 7) (lv' := [(0, .int x0)]) (hp' := rH e g q c l) (i := .iload_n 0) (len := 1) rfl hj rfl rfl rfl]
    rw [n_step (st' := [.int (Int8.ofInt (90)).toInt32, .int x0]) (pc' := 9) (lv' := [(0, .int x0)]) (hp' := rH e g q c l) (i := .bipush 90) (len := 2) rfl hj rfl rfl rfl]
    rw [n_step (st' := []) (pc' := (if xCn .le x0 ((Int8.ofInt (90)).toInt32) = true then 24 else 12)) (lv' := [(0, .int x0)]) (hp' := rH e g q c l) (i := .if_icmp .le 15) (len := 3) rfl hj rfl rfl rfl]
  by_cases hc : xCn .le x0 ((Int8.ofInt (90)).toInt32) = true
  · obtain ⟨f, h⟩ := h1 hc
    refine ⟨f + 3, ?_⟩
    rw [key, if_pos hc]
    exact nrun_ext f f _ _ R 326 24 [] [(0, .int x0)] [] _ 0 0 122 (Nat.le_refl _) (Nat.le_refl _) (Nat.le_of_ble_eq_true rfl) (lvR_mk [] [0] rfl rfl (by decide) (by decide) (fun _ h => nomatch h) (List.forall_mem_cons.mpr ⟨Or.inr rfl, (fun _ h => nomatch h)⟩)) h
  · obtain ⟨f, h⟩ := h2 hc
    refine ⟨f + 3, ?_⟩
    rw [key, if_neg hc]
    exact h
set_option maxRecDepth 100000 in
set_option maxHeartbeats 4000000 in
theorem bk_326_12 {b : Bool} {d : Nat} {x0 : Int32} {e : Nat → x_E} {g : Nat → Int32} {q : Nat → Int64} {c : Nat → Nat → Int32} {l : Nat → Nat → Int64} {R : Option Value × List x_E} (h1 : xCn .lt x0 ((Int8.ofInt (97)).toInt32) = true → rr b e d 326 28 [] [] g q c l R) (h2 : ¬ xCn .lt x0 ((Int8.ofInt (97)).toInt32) = true → rr b e d 326 18 [(0, .int x0)] [] g q c l R) : rr b e d 326 12 [(0, .int x0)] [] g q c l R := by
  have key : ∀ f, nrun xZ (xY (xfm b)) xDT (f + 3) d 326 12 [(0, .int x0)] [] (rH e g q c l) 0 0 = nrun xZ (xY (xfm b)) xDT f d 326 (if xCn .lt x0 ((Int8.ofInt (97)).toInt32) = true then 28 else 18) [(0, .int x0)] [] (rH e g q c l) 0 0 := by
    intro f
    obtain ⟨y, cb, hj⟩ := mq_326
    rw [n_step (st' := [.int x0]) (pc' := 13) (lv' := [(0, .int x0)]) (hp' := rH e g q c l) (i := .iload_n 0) (len := 1) rfl hj rfl rfl rfl]
    rw [n_step (st' := [.int (Int8.ofInt (97)).toInt32, .int x0]) (pc' := 15) (lv' := [(0, .int x0)]) (hp' := rH e g q c l) (i := .bipush 97) (len := 2) rfl hj rfl rfl rfl]
    rw [n_step (st' := []) (pc' := (if xCn .lt x0 ((Int8.ofInt (97)).toInt32) = true then 28 else 18)) (lv' := [(0, .int x0)]) (hp' := rH e g q c l) (i := .if_icmp .lt 13) (len := 3) rfl hj rfl rfl rfl]
  by_cases hc : xCn .lt x0 ((Int8.ofInt (97)).toInt32) = true
  · obtain ⟨f, h⟩ := h1 hc
    refine ⟨f + 3, ?_⟩
    rw [key, if_pos hc]
    exact nrun_ext f f _ _ R 326 28 [] [(0, .int x0)] [] _ 0 0 122 (Nat.le_refl _) (Nat.le_refl _) (Nat.le_of_ble_eq_true rfl) (lvR_mk [] [0] rfl rfl (by decide) (by decide) (fun _ h => nomatch h) (List.forall_mem_cons.mpr ⟨Or.inr rfl, (fun _ h => nomatch h)⟩)) h
  · obtain ⟨f, h⟩ := h2 hc
    refine ⟨f + 3, ?_⟩
    rw [key, if_neg hc]
    exact h
set_option maxRecDepth 100000 in
set_option maxHeartbeats 4000000 in
theorem bk_326_18 {b : Bool} {d : Nat} {x0 : Int32} {e : Nat → x_E} {g : Nat → Int32} {q : Nat → Int64} {c : Nat → Nat → Int32} {l : Nat → Nat → Int64} {R : Option Value × List x_E} (h1 : xCn .gt x0 ((Int8.ofInt (122)).toInt32) = true → rr b e d 326 28 [] [] g q c l R) (h2 : ¬ xCn .gt x0 ((Int8.ofInt (122)).toInt32) = true → rr b e d 326 24 [] [] g q c l R) : rr b e d 326 18 [(0, .int x0)] [] g q c l R := by
  have key : ∀ f, nrun xZ (xY (xfm b)) xDT (f + 3) d 326 18 [(0, .int x0)] [] (rH e g q c l) 0 0 = nrun xZ (xY (xfm b)) xDT f d 326 (if xCn .gt x0 ((Int8.ofInt (122)).toInt32) = true then 28 else 24) [(0, .int x0)] [] (rH e g q c l) 0 0 := by
    intro f
    obtain ⟨y, cb, hj⟩ := mq_326
    rw [n_step (st' := [.int x0]) (pc' := 19) (lv' := [(0, .int x0)]) (hp' := rH e g q c l) (i := .iload_n 0) (len := 1) rfl hj rfl rfl rfl]
    rw [n_step (st' := [.int (Int8.ofInt (122)).toInt32, .int x0]) (pc' := 21) (lv' := [(0, .int x0)]) (hp' := rH e g q c l) (i := .bipush 122) (len := 2) rfl hj rfl rfl rfl]
    rw [n_step (st' := []) (pc' := (if xCn .gt x0 ((Int8.ofInt (122)).toInt32) = true then 28 else 24)) (lv' := [(0, .int x0)]) (hp' := rH e g q c l) (i := .if_icmp .gt 7) (len := 3) rfl hj rfl rfl rfl]
  by_cases hc : xCn .gt x0 ((Int8.ofInt (122)).toInt32) = true
  · obtain ⟨f, h⟩ := h1 hc
    refine ⟨f + 3, ?_⟩
    rw [key, if_pos hc]
    exact nrun_ext f f _ _ R 326 28 [] [(0, .int x0)] [] _ 0 0 122 (Nat.le_refl _) (Nat.le_refl _) (Nat.le_of_ble_eq_true rfl) (lvR_mk [] [0] rfl rfl (by decide) (by decide) (fun _ h => nomatch h) (List.forall_mem_cons.mpr ⟨Or.inr rfl, (fun _ h => nomatch h)⟩)) h
  · obtain ⟨f, h⟩ := h2 hc
    refine ⟨f + 3, ?_⟩
    rw [key, if_neg hc]
    exact nrun_ext f f _ _ R 326 24 [] [(0, .int x0)] [] _ 0 0 122 (Nat.le_refl _) (Nat.le_refl _) (Nat.le_of_ble_eq_true rfl) (lvR_mk [] [0] rfl rfl (by decide) (by decide) (fun _ h => nomatch h) (List.forall_mem_cons.mpr ⟨Or.inr rfl, (fun _ h => nomatch h)⟩)) h
set_option maxRecDepth 100000 in
set_option maxHeartbeats 4000000 in
theorem bk_326_24 {b : Bool} {d : Nat} {e : Nat → x_E} {g : Nat → Int32} {q : Nat → Int64} {c : Nat → Nat → Int32} {l : Nat → Nat → Int64} {R : Option Value × List x_E} (h : rr b e d 326 29 [] [.int (Int32.ofInt (1))] g q c l R) : rr b e d 326 24 [] [] g q c l R := by
  obtain ⟨f, h⟩ := h
  refine ⟨f + 2, ?_⟩
  obtain ⟨y, cb, hj⟩ := mq_326
  rw [n_step (st' := [.int (Int32.ofInt (1))]) (pc' := 25) (lv' := []) (hp' := rH e g q c l) (i := .iconst 1) (len := 1) rfl hj rfl rfl rfl]
  rw [n_step (st' := [.int (Int32.ofInt (1))]) (pc' := 29) (lv' := []) (hp' := rH e g q c l) (i := .goto 4) (len := 3) rfl hj rfl rfl rfl]
  exact h
set_option maxRecDepth 100000 in
set_option maxHeartbeats 4000000 in
theorem bk_326_28 {b : Bool} {d : Nat} {e : Nat → x_E} {g : Nat → Int32} {q : Nat → Int64} {c : Nat → Nat → Int32} {l : Nat → Nat → Int64} {R : Option Value × List x_E} (h : rr b e d 326 29 [] [.int (Int32.ofInt (0))] g q c l R) : rr b e d 326 28 [] [] g q c l R := by
  obtain ⟨f, h⟩ := h
  refine ⟨f + 1, ?_⟩
  obtain ⟨y, cb, hj⟩ := mq_326
  rw [n_step (st' := [.int (Int32.ofInt (0))]) (pc' := 29) (lv' := []) (hp' := rH e g q c l) (i := .iconst 0) (len := 1) rfl hj rfl rfl rfl]
  exact h
set_option maxRecDepth 100000 in
set_option maxHeartbeats 4000000 in
theorem bk_326_29 {b : Bool} {d : Nat} {t0 : Int32} {e : Nat → x_E} {g : Nat → Int32} {q : Nat → Int64} {c : Nat → Nat → Int32} {l : Nat → Nat → Int64} (hv : t0 = 0 ∨ t0 = 1) : rr b e d 326 29 [] [.int t0] g q c l (some (.int t0), rH e g q c l) := by
  refine ⟨0 + 1, ?_⟩
  obtain ⟨y, cb, hj⟩ := mq_326
  exact n_ret rfl hj rfl rfl (x_ret (nb_01 hv))
set_option maxRecDepth 100000 in
set_option maxHeartbeats 4000000 in
theorem bk_327_0 {b : Bool} {d : Nat} {e : Nat → x_E} {g : Nat → Int32} {q : Nat → Int64} {c : Nat → Nat → Int32} {l : Nat → Nat → Int64} {R : Option Value × List x_E} (h : rr b e d 327 18 [(0, .ref 49)] [] (upd (upd g 16 ((Int32.ofInt (0)))) 12 (((upd g 16 ((Int32.ofInt (0)))) 11))) (updQ q 15 ((Int64.ofNat 0))) c l R) : rr b e d 327 0 [(0, .ref 49)] [] g q c l R := by
  obtain ⟨f, h⟩ := h
  refine ⟨f + 10, ?_⟩
  obtain ⟨y, cb, hj⟩ := mq_327
  rw [n_step (st' := [.ref 49]) (pc' := 1) (lv' := [(0, .ref 49)]) (hp' := rH e g q c l) (i := .aload_n 0) (len := 1) rfl hj rfl rfl rfl]
  rw [n_step (st' := [.long (Int64.ofNat 0), .ref 49]) (pc' := 2) (lv' := [(0, .ref 49)]) (hp' := rH e g q c l) (i := .lconst 0) (len := 1) rfl hj rfl rfl rfl]
  rw [n_put (st' := []) (hp' := rH e g (updQ q 15 ((Int64.ofNat 0))) c l) rfl hj pf_15]
  rw [n_step (st' := [.ref 49]) (pc' := 6) (lv' := [(0, .ref 49)]) (hp' := rH e g (updQ q 15 ((Int64.ofNat 0))) c l) (i := .aload_n 0) (len := 1) rfl hj rfl rfl rfl]
  rw [n_step (st' := [.int (Int32.ofInt (0)), .ref 49]) (pc' := 7) (lv' := [(0, .ref 49)]) (hp' := rH e g (updQ q 15 ((Int64.ofNat 0))) c l) (i := .iconst 0) (len := 1) rfl hj rfl rfl rfl]
  rw [n_put (st' := []) (hp' := rH e (upd g 16 ((Int32.ofInt (0)))) (updQ q 15 ((Int64.ofNat 0))) c l) rfl hj pf_16]
  rw [n_step (st' := [.ref 49]) (pc' := 11) (lv' := [(0, .ref 49)]) (hp' := rH e (upd g 16 ((Int32.ofInt (0)))) (updQ q 15 ((Int64.ofNat 0))) c l) (i := .aload_n 0) (len := 1) rfl hj rfl rfl rfl]
  rw [n_step (st' := [.ref 49, .ref 49]) (pc' := 12) (lv' := [(0, .ref 49)]) (hp' := rH e (upd g 16 ((Int32.ofInt (0)))) (updQ q 15 ((Int64.ofNat 0))) c l) (i := .aload_n 0) (len := 1) rfl hj rfl rfl rfl]
  rw [n_get (st' := [.int ((upd g 16 ((Int32.ofInt (0)))) 11), .ref 49]) (pc' := 15) (lv' := [(0, .ref 49)]) (hp' := rH e (upd g 16 ((Int32.ofInt (0)))) (updQ q 15 ((Int64.ofNat 0))) c l) (i := .getfield 257) (len := 3) rfl hj rfl rfl rfl rfl]
  rw [n_put (st' := []) (hp' := rH e (upd (upd g 16 ((Int32.ofInt (0)))) 12 (((upd g 16 ((Int32.ofInt (0)))) 11))) (updQ q 15 ((Int64.ofNat 0))) c l) rfl hj pf_12]
  exact h
set_option maxRecDepth 100000 in
set_option maxHeartbeats 4000000 in
theorem bk_327_18 {b : Bool} {d : Nat} {e : Nat → x_E} {g : Nat → Int32} {q : Nat → Int64} {c : Nat → Nat → Int32} {l : Nat → Nat → Int64} {g' : Nat → Int32} {q' : Nat → Int64} {c' : Nat → Nat → Int32} {l' : Nat → Nat → Int64} {v : Int32} {R : Option Value × List x_E} (hc : rr b e d 325 0 [(0, .ref 49), (1, .int (g 12))] [] g q c l (some (.int v), rH e g' q' c' l')) (h : rr b e (d + 1) 327 26 [(0, .ref 49)] [.int v] g' q' c' l' R) : rr b e (d + 1) 327 18 [(0, .ref 49)] [] g q c l R := by
  obtain ⟨f1, hc⟩ := hc
  obtain ⟨f2, h⟩ := h
  obtain ⟨f, hf1, hf2⟩ : ∃ f, f1 ≤ f ∧ f2 ≤ f := ⟨max f1 f2, Nat.le_max_left _ _, Nat.le_max_right _ _⟩
  have hc := nrun_fuel f1 f _ _ _ _ _ _ _ _ _ hf1 hc
  have h := nrun_fuel f2 f _ _ _ _ _ _ _ _ _ hf2 h
  refine ⟨f + 4, ?_⟩
  obtain ⟨y, cb, hj⟩ := mq_327
  rw [n_step (st' := [.ref 49]) (pc' := 19) (lv' := [(0, .ref 49)]) (hp' := rH e g q c l) (i := .aload_n 0) (len := 1) rfl hj rfl rfl rfl]
  rw [n_step (st' := [.ref 49, .ref 49]) (pc' := 20) (lv' := [(0, .ref 49)]) (hp' := rH e g q c l) (i := .aload_n 0) (len := 1) rfl hj rfl rfl rfl]
  rw [n_get (st' := [.int (g 12), .ref 49]) (pc' := 23) (lv' := [(0, .ref 49)]) (hp' := rH e g q c l) (i := .getfield 264) (len := 3) rfl hj rfl rfl rfl rfl]
  obtain ⟨y2, cb2, hj2⟩ := mq_325
  rw [n_call (f := f) (d := d) (ki := 0) (idx := 247) (j' := 325) (kd := 0) (M' := (y2, cb2, 2, some .int, 12, 1, 0, 0)) (avs := [.ref 49, .int (g 12)]) (r := []) (rv := some (.int v)) (hp1 := rH e g' q' c' l') rfl hj rfl rfl rfl rfl (rq_n rfl rfl hj2 rfl rfl) rfl hc (Nat.le_of_ble_eq_true rfl)]
  exact h
set_option maxRecDepth 100000 in
set_option maxHeartbeats 4000000 in
theorem bk_327_26 {b : Bool} {d : Nat} {t0 : Int32} {e : Nat → x_E} {g : Nat → Int32} {q : Nat → Int64} {c : Nat → Nat → Int32} {l : Nat → Nat → Int64} {g' : Nat → Int32} {q' : Nat → Int64} {c' : Nat → Nat → Int32} {l' : Nat → Nat → Int64} {v : Int32} {R : Option Value × List x_E} (hc : rr b e d 326 0 [(0, .int t0)] [] g q c l (some (.int v), rH e g' q' c' l')) (h : rr b e (d + 1) 327 29 [(0, .ref 49)] [.int v] g' q' c' l' R) : rr b e (d + 1) 327 26 [(0, .ref 49)] [.int t0] g q c l R := by
  obtain ⟨f1, hc⟩ := hc
  obtain ⟨f2, h⟩ := h
  obtain ⟨f, hf1, hf2⟩ : ∃ f, f1 ≤ f ∧ f2 ≤ f := ⟨max f1 f2, Nat.le_max_left _ _, Nat.le_max_right _ _⟩
  have hc := nrun_fuel f1 f _ _ _ _ _ _ _ _ _ hf1 hc
  have h := nrun_fuel f2 f _ _ _ _ _ _ _ _ _ hf2 h
  refine ⟨f + 1, ?_⟩
  obtain ⟨y, cb, hj⟩ := mq_327
  obtain ⟨y2, cb2, hj2⟩ := mq_326
  rw [n_call (f := f) (d := d) (ki := 1) (idx := 276) (j' := 326) (kd := 1) (M' := (y2, cb2, 1, some .boolean, 12, 1, 0, 0)) (avs := [.int t0]) (r := []) (rv := some (.int v)) (hp1 := rH e g' q' c' l') rfl hj rfl rfl rfl rfl (rq_t rfl rfl hj2 rfl) rfl hc (Nat.le_of_ble_eq_true rfl)]
  exact h
set_option maxRecDepth 100000 in
set_option maxHeartbeats 4000000 in
theorem bk_327_29 {b : Bool} {d : Nat} {t0 : Int32} {e : Nat → x_E} {g : Nat → Int32} {q : Nat → Int64} {c : Nat → Nat → Int32} {l : Nat → Nat → Int64} {R : Option Value × List x_E} (h1 : xCn .ne t0 0 = true → rr b e d 327 46 [(0, .ref 49)] [] g q c l R) (h2 : ¬ xCn .ne t0 0 = true → rr b e d 327 32 [(0, .ref 49)] [] g q c l R) : rr b e d 327 29 [(0, .ref 49)] [.int t0] g q c l R := by
  have key : ∀ f, nrun xZ (xY (xfm b)) xDT (f + 1) d 327 29 [(0, .ref 49)] [.int t0] (rH e g q c l) 0 0 = nrun xZ (xY (xfm b)) xDT f d 327 (if xCn .ne t0 0 = true then 46 else 32) [(0, .ref 49)] [] (rH e g q c l) 0 0 := by
    intro f
    obtain ⟨y, cb, hj⟩ := mq_327
    rw [n_step (st' := []) (pc' := (if xCn .ne t0 0 = true then 46 else 32)) (lv' := [(0, .ref 49)]) (hp' := rH e g q c l) (i := .ifCond .ne 17) (len := 3) rfl hj rfl rfl rfl]
  by_cases hc : xCn .ne t0 0 = true
  · obtain ⟨f, h⟩ := h1 hc
    refine ⟨f + 1, ?_⟩
    rw [key, if_pos hc]
    exact h
  · obtain ⟨f, h⟩ := h2 hc
    refine ⟨f + 1, ?_⟩
    rw [key, if_neg hc]
    exact h
set_option maxRecDepth 100000 in
set_option maxHeartbeats 4000000 in
theorem bk_327_32 {b : Bool} {d : Nat} {e : Nat → x_E} {g : Nat → Int32} {q : Nat → Int64} {c : Nat → Nat → Int32} {l : Nat → Nat → Int64} {g' : Nat → Int32} {q' : Nat → Int64} {c' : Nat → Nat → Int32} {l' : Nat → Nat → Int64} {v : Int32} {R : Option Value × List x_E} (hc : rr b e d 325 0 [(0, .ref 49), (1, .int (g 12))] [] g q c l (some (.int v), rH e g' q' c' l')) (h : rr b e (d + 1) 327 40 [(0, .ref 49)] [.int v] g' q' c' l' R) : rr b e (d + 1) 327 32 [(0, .ref 49)] [] g q c l R := by
  obtain ⟨f1, hc⟩ := hc
  obtain ⟨f2, h⟩ := h
  obtain ⟨f, hf1, hf2⟩ : ∃ f, f1 ≤ f ∧ f2 ≤ f := ⟨max f1 f2, Nat.le_max_left _ _, Nat.le_max_right _ _⟩
  have hc := nrun_fuel f1 f _ _ _ _ _ _ _ _ _ hf1 hc
  have h := nrun_fuel f2 f _ _ _ _ _ _ _ _ _ hf2 h
  refine ⟨f + 4, ?_⟩
  obtain ⟨y, cb, hj⟩ := mq_327
  rw [n_step (st' := [.ref 49]) (pc' := 33) (lv' := [(0, .ref 49)]) (hp' := rH e g q c l) (i := .aload_n 0) (len := 1) rfl hj rfl rfl rfl]
  rw [n_step (st' := [.ref 49, .ref 49]) (pc' := 34) (lv' := [(0, .ref 49)]) (hp' := rH e g q c l) (i := .aload_n 0) (len := 1) rfl hj rfl rfl rfl]
  rw [n_get (st' := [.int (g 12), .ref 49]) (pc' := 37) (lv' := [(0, .ref 49)]) (hp' := rH e g q c l) (i := .getfield 264) (len := 3) rfl hj rfl rfl rfl rfl]
  obtain ⟨y2, cb2, hj2⟩ := mq_325
  rw [n_call (f := f) (d := d) (ki := 0) (idx := 247) (j' := 325) (kd := 0) (M' := (y2, cb2, 2, some .int, 12, 1, 0, 0)) (avs := [.ref 49, .int (g 12)]) (r := []) (rv := some (.int v)) (hp1 := rH e g' q' c' l') rfl hj rfl rfl rfl rfl (rq_n rfl rfl hj2 rfl rfl) rfl hc (Nat.le_of_ble_eq_true rfl)]
  exact h
set_option maxRecDepth 100000 in
set_option maxHeartbeats 4000000 in
theorem bk_327_40 {b : Bool} {d : Nat} {t0 : Int32} {e : Nat → x_E} {g : Nat → Int32} {q : Nat → Int64} {c : Nat → Nat → Int32} {l : Nat → Nat → Int64} {g' : Nat → Int32} {q' : Nat → Int64} {c' : Nat → Nat → Int32} {l' : Nat → Nat → Int64} {v : Int32} {R : Option Value × List x_E} (hc : rr b e d 328 0 [(0, .int t0)] [] g q c l (some (.int v), rH e g' q' c' l')) (h : rr b e (d + 1) 327 43 [(0, .ref 49)] [.int v] g' q' c' l' R) : rr b e (d + 1) 327 40 [(0, .ref 49)] [.int t0] g q c l R := by
  obtain ⟨f1, hc⟩ := hc
  obtain ⟨f2, h⟩ := h
  obtain ⟨f, hf1, hf2⟩ : ∃ f, f1 ≤ f ∧ f2 ≤ f := ⟨max f1 f2, Nat.le_max_left _ _, Nat.le_max_right _ _⟩
  have hc := nrun_fuel f1 f _ _ _ _ _ _ _ _ _ hf1 hc
  have h := nrun_fuel f2 f _ _ _ _ _ _ _ _ _ hf2 h
  refine ⟨f + 1, ?_⟩
  obtain ⟨y, cb, hj⟩ := mq_327
  obtain ⟨y2, cb2, hj2⟩ := mq_328
  rw [n_call (f := f) (d := d) (ki := 1) (idx := 283) (j' := 328) (kd := 1) (M' := (y2, cb2, 1, some .boolean, 12, 1, 0, 0)) (avs := [.int t0]) (r := []) (rv := some (.int v)) (hp1 := rH e g' q' c' l') rfl hj rfl rfl rfl rfl (rq_t rfl rfl hj2 rfl) rfl hc (Nat.le_of_ble_eq_true rfl)]
  exact h
set_option maxRecDepth 100000 in
set_option maxHeartbeats 4000000 in
theorem bk_327_43 {b : Bool} {d : Nat} {t0 : Int32} {e : Nat → x_E} {g : Nat → Int32} {q : Nat → Int64} {c : Nat → Nat → Int32} {l : Nat → Nat → Int64} {R : Option Value × List x_E} (h1 : xCn .eq t0 0 = true → rr b e d 327 140 [(0, .ref 49)] [] g q c l R) (h2 : ¬ xCn .eq t0 0 = true → rr b e d 327 46 [(0, .ref 49)] [] g q c l R) : rr b e d 327 43 [(0, .ref 49)] [.int t0] g q c l R := by
  have key : ∀ f, nrun xZ (xY (xfm b)) xDT (f + 1) d 327 43 [(0, .ref 49)] [.int t0] (rH e g q c l) 0 0 = nrun xZ (xY (xfm b)) xDT f d 327 (if xCn .eq t0 0 = true then 140 else 46) [(0, .ref 49)] [] (rH e g q c l) 0 0 := by
    intro f
    obtain ⟨y, cb, hj⟩ := mq_327
    rw [n_step (st' := []) (pc' := (if xCn .eq t0 0 = true then 140 else 46)) (lv' := [(0, .ref 49)]) (hp' := rH e g q c l) (i := .ifCond .eq 97) (len := 3) rfl hj rfl rfl rfl]
  by_cases hc : xCn .eq t0 0 = true
  · obtain ⟨f, h⟩ := h1 hc
    refine ⟨f + 1, ?_⟩
    rw [key, if_pos hc]
    exact h
  · obtain ⟨f, h⟩ := h2 hc
    refine ⟨f + 1, ?_⟩
    rw [key, if_neg hc]
    exact h
set_option maxRecDepth 100000 in
set_option maxHeartbeats 4000000 in
theorem bk_327_46 {b : Bool} {d : Nat} {e : Nat → x_E} {g : Nat → Int32} {q : Nat → Int64} {c : Nat → Nat → Int32} {l : Nat → Nat → Int64} {R : Option Value × List x_E} (h1 : xCn .ge (((g 12) - (g 11))) ((Int8.ofInt (8)).toInt32) = true → rr b e d 327 92 [(0, .ref 49), (1, .int ((g 12) - (g 11)))] [] g q c l R) (h2 : ¬ xCn .ge (((g 12) - (g 11))) ((Int8.ofInt (8)).toInt32) = true → rr b e d 327 62 [(0, .ref 49), (1, .int ((g 12) - (g 11)))] [] g q c l R) : rr b e d 327 46 [(0, .ref 49)] [] g q c l R := by
  have key : ∀ f, nrun xZ (xY (xfm b)) xDT (f + 9) d 327 46 [(0, .ref 49)] [] (rH e g q c l) 0 0 = nrun xZ (xY (xfm b)) xDT f d 327 (if xCn .ge (((g 12) - (g 11))) ((Int8.ofInt (8)).toInt32) = true then 92 else 62) [(1, .int ((g 12) - (g 11))), (0, .ref 49)] [] (rH e g q c l) 0 0 := by
    intro f
    obtain ⟨y, cb, hj⟩ := mq_327
    rw [n_step (st' := [.ref 49]) (pc' := 47) (lv' := [(0, .ref 49)]) (hp' := rH e g q c l) (i := .aload_n 0) (len := 1) rfl hj rfl rfl rfl]
    rw [n_get (st' := [.int (g 12)]) (pc' := 50) (lv' := [(0, .ref 49)]) (hp' := rH e g q c l) (i := .getfield 264) (len := 3) rfl hj rfl rfl rfl rfl]
    rw [n_step (st' := [.ref 49, .int (g 12)]) (pc' := 51) (lv' := [(0, .ref 49)]) (hp' := rH e g q c l) (i := .aload_n 0) (len := 1) rfl hj rfl rfl rfl]
    rw [n_get (st' := [.int (g 11), .int (g 12)]) (pc' := 54) (lv' := [(0, .ref 49)]) (hp' := rH e g q c l) (i := .getfield 257) (len := 3) rfl hj rfl rfl rfl rfl]
    rw [n_step (st' := [.int ((g 12) - (g 11))]) (pc' := 55) (lv' := [(0, .ref 49)]) (hp' := rH e g q c l) (i := .isub) (len := 1) rfl hj rfl rfl rfl]
    rw [n_step (st' := []) (pc' := 56) (lv' := [(1, .int ((g 12) - (g 11))), (0, .ref 49)]) (hp' := rH e g q c l) (i := .istore_n 1) (len := 1) rfl hj rfl rfl rfl]
    rw [n_step (st' := [.int ((g 12) - (g 11))]) (pc' := 57) (lv' := [(1, .int ((g 12) - (g 11))), (0, .ref 49)]) (hp' := rH e g q c l) (i := .iload_n 1) (len := 1) rfl hj rfl rfl rfl]
    rw [n_step (st' := [.int (Int8.ofInt (8)).toInt32, .int ((g 12) - (g 11))]) (pc' := 59) (lv' := [(1, .int ((g 12) - (g 11))), (0, .ref 49)]) (hp' := rH e g q c l) (i := .bipush 8) (len := 2) rfl hj rfl rfl rfl]
    rw [n_step (st' := []) (pc' := (if xCn .ge (((g 12) - (g 11))) ((Int8.ofInt (8)).toInt32) = true then 92 else 62)) (lv' := [(1, .int ((g 12) - (g 11))), (0, .ref 49)]) (hp' := rH e g q c l) (i := .if_icmp .ge 33) (len := 3) rfl hj rfl rfl rfl]
  by_cases hc : xCn .ge (((g 12) - (g 11))) ((Int8.ofInt (8)).toInt32) = true
  · obtain ⟨f, h⟩ := h1 hc
    refine ⟨f + 9, ?_⟩
    rw [key, if_pos hc]
    exact nrun_ext f f _ _ R 327 92 [(0, .ref 49), (1, .int ((g 12) - (g 11)))] [(1, .int ((g 12) - (g 11))), (0, .ref 49)] [] _ 0 0 122 (Nat.le_refl _) (Nat.le_refl _) (Nat.le_of_ble_eq_true rfl) (lvR_mk [0, 1] [1, 0] rfl rfl (by decide) (by decide) (List.forall_mem_cons.mpr ⟨(List.mem_cons_of_mem _ List.mem_cons_self), (List.forall_mem_cons.mpr ⟨List.mem_cons_self, (fun _ h => nomatch h)⟩)⟩) (List.forall_mem_cons.mpr ⟨Or.inl (List.mem_cons_of_mem _ List.mem_cons_self), (List.forall_mem_cons.mpr ⟨Or.inl List.mem_cons_self, (fun _ h => nomatch h)⟩)⟩)) h
  · obtain ⟨f, h⟩ := h2 hc
    refine ⟨f + 9, ?_⟩
    rw [key, if_neg hc]
    exact nrun_ext f f _ _ R 327 62 [(0, .ref 49), (1, .int ((g 12) - (g 11)))] [(1, .int ((g 12) - (g 11))), (0, .ref 49)] [] _ 0 0 122 (Nat.le_refl _) (Nat.le_refl _) (Nat.le_of_ble_eq_true rfl) (lvR_mk [0, 1] [1, 0] rfl rfl (by decide) (by decide) (List.forall_mem_cons.mpr ⟨(List.mem_cons_of_mem _ List.mem_cons_self), (List.forall_mem_cons.mpr ⟨List.mem_cons_self, (fun _ h => nomatch h)⟩)⟩) (List.forall_mem_cons.mpr ⟨Or.inl (List.mem_cons_of_mem _ List.mem_cons_self), (List.forall_mem_cons.mpr ⟨Or.inl List.mem_cons_self, (fun _ h => nomatch h)⟩)⟩)) h
set_option maxRecDepth 100000 in
set_option maxHeartbeats 4000000 in
theorem bk_327_62 {b : Bool} {d : Nat} {x1 : Int32} {e : Nat → x_E} {g : Nat → Int32} {q : Nat → Int64} {c : Nat → Nat → Int32} {l : Nat → Nat → Int64} {R : Option Value × List x_E} (hz0 : ¬ ((g 12) < 0 ∨ 6000 ≤ ((g 12)).toNatClampNeg)) (h : rr b e d 327 127 [(0, .ref 49)] [] g (updQ q 15 (((q 15) ||| ((Int32.toInt64 ((c 51 ((g 12)).toNatClampNeg))) <<< ((((Int8.ofInt (56)).toInt32 - ((Int8.ofInt (8)).toInt32 * x1))).toInt64 &&& 63))))) c l R) : rr b e d 327 62 [(0, .ref 49), (1, .int x1)] [] g q c l R := by
  obtain ⟨f, h⟩ := h
  refine ⟨f + 18, ?_⟩
  obtain ⟨y, cb, hj⟩ := mq_327
  rw [n_step (st' := [.ref 49]) (pc' := 63) (lv' := [(0, .ref 49), (1, .int x1)]) (hp' := rH e g q c l) (i := .aload_n 0) (len := 1) rfl hj rfl rfl rfl]
  rw [n_step (st' := [.ref 49, .ref 49]) (pc' := 64) (lv' := [(0, .ref 49), (1, .int x1)]) (hp' := rH e g q c l) (i := .aload_n 0) (len := 1) rfl hj rfl rfl rfl]
  rw [n_get (st' := [.long (q 15), .ref 49]) (pc' := 67) (lv' := [(0, .ref 49), (1, .int x1)]) (hp' := rH e g q c l) (i := .getfield 292) (len := 3) rfl hj rfl rfl rfl rfl]
  rw [n_step (st' := [.ref 49, .long (q 15), .ref 49]) (pc' := 68) (lv' := [(0, .ref 49), (1, .int x1)]) (hp' := rH e g q c l) (i := .aload_n 0) (len := 1) rfl hj rfl rfl rfl]
  rw [n_get (st' := [.ref 51, .long (q 15), .ref 49]) (pc' := 71) (lv' := [(0, .ref 49), (1, .int x1)]) (hp' := rH e g q c l) (i := .getfield 13) (len := 3) rfl hj rfl rfl rfl rfl]
  rw [n_step (st' := [.ref 49, .ref 51, .long (q 15), .ref 49]) (pc' := 72) (lv' := [(0, .ref 49), (1, .int x1)]) (hp' := rH e g q c l) (i := .aload_n 0) (len := 1) rfl hj rfl rfl rfl]
  rw [n_get (st' := [.int (g 12), .ref 51, .long (q 15), .ref 49]) (pc' := 75) (lv' := [(0, .ref 49), (1, .int x1)]) (hp' := rH e g q c l) (i := .getfield 264) (len := 3) rfl hj rfl rfl rfl rfl]
  rw [n_ial (st' := [.int (c 51 ((g 12)).toNatClampNeg), .long (q 15), .ref 49]) rfl hj (ald_51 hz0)]
  rw [n_step (st' := [.long (Int32.toInt64 ((c 51 ((g 12)).toNatClampNeg))), .long (q 15), .ref 49]) (pc' := 77) (lv' := [(0, .ref 49), (1, .int x1)]) (hp' := rH e g q c l) (i := .i2l) (len := 1) rfl hj rfl rfl rfl]
  rw [n_step (st' := [.int (Int8.ofInt (56)).toInt32, .long (Int32.toInt64 ((c 51 ((g 12)).toNatClampNeg))), .long (q 15), .ref 49]) (pc' := 79) (lv' := [(0, .ref 49), (1, .int x1)]) (hp' := rH e g q c l) (i := .bipush 56) (len := 2) rfl hj rfl rfl rfl]
  rw [n_step (st' := [.int (Int8.ofInt (8)).toInt32, .int (Int8.ofInt (56)).toInt32, .long (Int32.toInt64 ((c 51 ((g 12)).toNatClampNeg))), .long (q 15), .ref 49]) (pc' := 81) (lv' := [(0, .ref 49), (1, .int x1)]) (hp' := rH e g q c l) (i := .bipush 8) (len := 2) rfl hj rfl rfl rfl]
  rw [n_step (st' := [.int x1, .int (Int8.ofInt (8)).toInt32, .int (Int8.ofInt (56)).toInt32, .long (Int32.toInt64 ((c 51 ((g 12)).toNatClampNeg))), .long (q 15), .ref 49]) (pc' := 82) (lv' := [(0, .ref 49), (1, .int x1)]) (hp' := rH e g q c l) (i := .iload_n 1) (len := 1) rfl hj rfl rfl rfl]
  rw [n_step (st' := [.int ((Int8.ofInt (8)).toInt32 * x1), .int (Int8.ofInt (56)).toInt32, .long (Int32.toInt64 ((c 51 ((g 12)).toNatClampNeg))), .long (q 15), .ref 49]) (pc' := 83) (lv' := [(0, .ref 49), (1, .int x1)]) (hp' := rH e g q c l) (i := .imul) (len := 1) rfl hj rfl rfl rfl]
  rw [n_step (st' := [.int ((Int8.ofInt (56)).toInt32 - ((Int8.ofInt (8)).toInt32 * x1)), .long (Int32.toInt64 ((c 51 ((g 12)).toNatClampNeg))), .long (q 15), .ref 49]) (pc' := 84) (lv' := [(0, .ref 49), (1, .int x1)]) (hp' := rH e g q c l) (i := .isub) (len := 1) rfl hj rfl rfl rfl]
  rw [n_step (st' := [.long ((Int32.toInt64 ((c 51 ((g 12)).toNatClampNeg))) <<< ((((Int8.ofInt (56)).toInt32 - ((Int8.ofInt (8)).toInt32 * x1))).toInt64 &&& 63)), .long (q 15), .ref 49]) (pc' := 85) (lv' := [(0, .ref 49), (1, .int x1)]) (hp' := rH e g q c l) (i := .lshl) (len := 1) rfl hj rfl rfl rfl]
  rw [n_step (st' := [.long ((q 15) ||| ((Int32.toInt64 ((c 51 ((g 12)).toNatClampNeg))) <<< ((((Int8.ofInt (56)).toInt32 - ((Int8.ofInt (8)).toInt32 * x1))).toInt64 &&& 63))), .ref 49]) (pc' := 86) (lv' := [(0, .ref 49), (1, .int x1)]) (hp' := rH e g q c l) (i := .lor) (len := 1) rfl hj rfl rfl rfl]
  rw [n_put (st' := []) (hp' := rH e g (updQ q 15 (((q 15) ||| ((Int32.toInt64 ((c 51 ((g 12)).toNatClampNeg))) <<< ((((Int8.ofInt (56)).toInt32 - ((Int8.ofInt (8)).toInt32 * x1))).toInt64 &&& 63))))) c l) rfl hj pf_15]
  rw [n_step (st' := []) (pc' := 127) (lv' := [(0, .ref 49), (1, .int x1)]) (hp' := rH e g (updQ q 15 (((q 15) ||| ((Int32.toInt64 ((c 51 ((g 12)).toNatClampNeg))) <<< ((((Int8.ofInt (56)).toInt32 - ((Int8.ofInt (8)).toInt32 * x1))).toInt64 &&& 63))))) c l) (i := .goto 38) (len := 3) rfl hj rfl rfl rfl]
  exact nrun_ext f f _ _ R 327 127 [(0, .ref 49)] [(0, .ref 49), (1, .int x1)] [] _ 0 0 122 (Nat.le_refl _) (Nat.le_refl _) (Nat.le_of_ble_eq_true rfl) (lvR_mk [0] [0, 1] rfl rfl (by decide) (by decide) (List.forall_mem_cons.mpr ⟨List.mem_cons_self, (fun _ h => nomatch h)⟩) (List.forall_mem_cons.mpr ⟨Or.inl List.mem_cons_self, (List.forall_mem_cons.mpr ⟨Or.inr rfl, (fun _ h => nomatch h)⟩)⟩)) h
set_option maxRecDepth 100000 in
set_option maxHeartbeats 4000000 in
theorem bk_327_92 {b : Bool} {d : Nat} {x1 : Int32} {e : Nat → x_E} {g : Nat → Int32} {q : Nat → Int64} {c : Nat → Nat → Int32} {l : Nat → Nat → Int64} {R : Option Value × List x_E} (h1 : xCn .ge x1 ((Int8.ofInt (10)).toInt32) = true → rr b e d 327 127 [(0, .ref 49)] [] g q c l R) (h2 : ¬ xCn .ge x1 ((Int8.ofInt (10)).toInt32) = true → rr b e d 327 98 [(0, .ref 49), (1, .int x1)] [] g q c l R) : rr b e d 327 92 [(0, .ref 49), (1, .int x1)] [] g q c l R := by
  have key : ∀ f, nrun xZ (xY (xfm b)) xDT (f + 3) d 327 92 [(0, .ref 49), (1, .int x1)] [] (rH e g q c l) 0 0 = nrun xZ (xY (xfm b)) xDT f d 327 (if xCn .ge x1 ((Int8.ofInt (10)).toInt32) = true then 127 else 98) [(0, .ref 49), (1, .int x1)] [] (rH e g q c l) 0 0 := by
    intro f
    obtain ⟨y, cb, hj⟩ := mq_327
    rw [n_step (st' := [.int x1]) (pc' := 93) (lv' := [(0, .ref 49), (1, .int x1)]) (hp' := rH e g q c l) (i := .iload_n 1) (len := 1) rfl hj rfl rfl rfl]
    rw [n_step (st' := [.int (Int8.ofInt (10)).toInt32, .int x1]) (pc' := 95) (lv' := [(0, .ref 49), (1, .int x1)]) (hp' := rH e g q c l) (i := .bipush 10) (len := 2) rfl hj rfl rfl rfl]
    rw [n_step (st' := []) (pc' := (if xCn .ge x1 ((Int8.ofInt (10)).toInt32) = true then 127 else 98)) (lv' := [(0, .ref 49), (1, .int x1)]) (hp' := rH e g q c l) (i := .if_icmp .ge 32) (len := 3) rfl hj rfl rfl rfl]
  by_cases hc : xCn .ge x1 ((Int8.ofInt (10)).toInt32) = true
  · obtain ⟨f, h⟩ := h1 hc
    refine ⟨f + 3, ?_⟩
    rw [key, if_pos hc]
    exact nrun_ext f f _ _ R 327 127 [(0, .ref 49)] [(0, .ref 49), (1, .int x1)] [] _ 0 0 122 (Nat.le_refl _) (Nat.le_refl _) (Nat.le_of_ble_eq_true rfl) (lvR_mk [0] [0, 1] rfl rfl (by decide) (by decide) (List.forall_mem_cons.mpr ⟨List.mem_cons_self, (fun _ h => nomatch h)⟩) (List.forall_mem_cons.mpr ⟨Or.inl List.mem_cons_self, (List.forall_mem_cons.mpr ⟨Or.inr rfl, (fun _ h => nomatch h)⟩)⟩)) h
  · obtain ⟨f, h⟩ := h2 hc
    refine ⟨f + 3, ?_⟩
    rw [key, if_neg hc]
    exact h
set_option maxRecDepth 100000 in
set_option maxHeartbeats 4000000 in
theorem bk_327_98 {b : Bool} {d : Nat} {x1 : Int32} {e : Nat → x_E} {g : Nat → Int32} {q : Nat → Int64} {c : Nat → Nat → Int32} {l : Nat → Nat → Int64} {R : Option Value × List x_E} (hz0 : ¬ ((g 12) < 0 ∨ 6000 ≤ ((g 12)).toNatClampNeg)) (h : rr b e d 327 127 [(0, .ref 49)] [] (upd g 16 (((g 16) ||| ((c 51 ((g 12)).toNatClampNeg) <<< (((Int8.ofInt (24)).toInt32 - ((Int8.ofInt (8)).toInt32 * (x1 - (Int8.ofInt (8)).toInt32))) &&& 31))))) q c l R) : rr b e d 327 98 [(0, .ref 49), (1, .int x1)] [] g q c l R := by
  obtain ⟨f, h⟩ := h
  refine ⟨f + 18, ?_⟩
  obtain ⟨y, cb, hj⟩ := mq_327
  rw [n_step (st' := [.ref 49]) (pc' := 99) (lv' := [(0, .ref 49), (1, .int x1)]) (hp' := rH e g q c l) (i := .aload_n 0) (len := 1) rfl hj rfl rfl rfl]
  rw [n_step (st' := [.ref 49, .ref 49]) (pc' := 100) (lv' := [(0, .ref 49), (1, .int x1)]) (hp' := rH e g q c l) (i := .aload_n 0) (len := 1) rfl hj rfl rfl rfl]
  rw [n_get (st' := [.int (g 16), .ref 49]) (pc' := 103) (lv' := [(0, .ref 49), (1, .int x1)]) (hp' := rH e g q c l) (i := .getfield 296) (len := 3) rfl hj rfl rfl rfl rfl]
  rw [n_step (st' := [.ref 49, .int (g 16), .ref 49]) (pc' := 104) (lv' := [(0, .ref 49), (1, .int x1)]) (hp' := rH e g q c l) (i := .aload_n 0) (len := 1) rfl hj rfl rfl rfl]
  rw [n_get (st' := [.ref 51, .int (g 16), .ref 49]) (pc' := 107) (lv' := [(0, .ref 49), (1, .int x1)]) (hp' := rH e g q c l) (i := .getfield 13) (len := 3) rfl hj rfl rfl rfl rfl]
  rw [n_step (st' := [.ref 49, .ref 51, .int (g 16), .ref 49]) (pc' := 108) (lv' := [(0, .ref 49), (1, .int x1)]) (hp' := rH e g q c l) (i := .aload_n 0) (len := 1) rfl hj rfl rfl rfl]
  rw [n_get (st' := [.int (g 12), .ref 51, .int (g 16), .ref 49]) (pc' := 111) (lv' := [(0, .ref 49), (1, .int x1)]) (hp' := rH e g q c l) (i := .getfield 264) (len := 3) rfl hj rfl rfl rfl rfl]
  rw [n_ial (st' := [.int (c 51 ((g 12)).toNatClampNeg), .int (g 16), .ref 49]) rfl hj (ald_51 hz0)]
  rw [n_step (st' := [.int (Int8.ofInt (24)).toInt32, .int (c 51 ((g 12)).toNatClampNeg), .int (g 16), .ref 49]) (pc' := 114) (lv' := [(0, .ref 49), (1, .int x1)]) (hp' := rH e g q c l) (i := .bipush 24) (len := 2) rfl hj rfl rfl rfl]
  rw [n_step (st' := [.int (Int8.ofInt (8)).toInt32, .int (Int8.ofInt (24)).toInt32, .int (c 51 ((g 12)).toNatClampNeg), .int (g 16), .ref 49]) (pc' := 116) (lv' := [(0, .ref 49), (1, .int x1)]) (hp' := rH e g q c l) (i := .bipush 8) (len := 2) rfl hj rfl rfl rfl]
  rw [n_step (st' := [.int x1, .int (Int8.ofInt (8)).toInt32, .int (Int8.ofInt (24)).toInt32, .int (c 51 ((g 12)).toNatClampNeg), .int (g 16), .ref 49]) (pc' := 117) (lv' := [(0, .ref 49), (1, .int x1)]) (hp' := rH e g q c l) (i := .iload_n 1) (len := 1) rfl hj rfl rfl rfl]
  rw [n_step (st' := [.int (Int8.ofInt (8)).toInt32, .int x1, .int (Int8.ofInt (8)).toInt32, .int (Int8.ofInt (24)).toInt32, .int (c 51 ((g 12)).toNatClampNeg), .int (g 16), .ref 49]) (pc' := 119) (lv' := [(0, .ref 49), (1, .int x1)]) (hp' := rH e g q c l) (i := .bipush 8) (len := 2) rfl hj rfl rfl rfl]
  rw [n_step (st' := [.int (x1 - (Int8.ofInt (8)).toInt32), .int (Int8.ofInt (8)).toInt32, .int (Int8.ofInt (24)).toInt32, .int (c 51 ((g 12)).toNatClampNeg), .int (g 16), .ref 49]) (pc' := 120) (lv' := [(0, .ref 49), (1, .int x1)]) (hp' := rH e g q c l) (i := .isub) (len := 1) rfl hj rfl rfl rfl]
  rw [n_step (st' := [.int ((Int8.ofInt (8)).toInt32 * (x1 - (Int8.ofInt (8)).toInt32)), .int (Int8.ofInt (24)).toInt32, .int (c 51 ((g 12)).toNatClampNeg), .int (g 16), .ref 49]) (pc' := 121) (lv' := [(0, .ref 49), (1, .int x1)]) (hp' := rH e g q c l) (i := .imul) (len := 1) rfl hj rfl rfl rfl]
  rw [n_step (st' := [.int ((Int8.ofInt (24)).toInt32 - ((Int8.ofInt (8)).toInt32 * (x1 - (Int8.ofInt (8)).toInt32))), .int (c 51 ((g 12)).toNatClampNeg), .int (g 16), .ref 49]) (pc' := 122) (lv' := [(0, .ref 49), (1, .int x1)]) (hp' := rH e g q c l) (i := .isub) (len := 1) rfl hj rfl rfl rfl]
  rw [n_step (st' := [.int ((c 51 ((g 12)).toNatClampNeg) <<< (((Int8.ofInt (24)).toInt32 - ((Int8.ofInt (8)).toInt32 * (x1 - (Int8.ofInt (8)).toInt32))) &&& 31)), .int (g 16), .ref 49]) (pc' := 123) (lv' := [(0, .ref 49), (1, .int x1)]) (hp' := rH e g q c l) (i := .ishl) (len := 1) rfl hj rfl rfl rfl]
  rw [n_step (st' := [.int ((g 16) ||| ((c 51 ((g 12)).toNatClampNeg) <<< (((Int8.ofInt (24)).toInt32 - ((Int8.ofInt (8)).toInt32 * (x1 - (Int8.ofInt (8)).toInt32))) &&& 31))), .ref 49]) (pc' := 124) (lv' := [(0, .ref 49), (1, .int x1)]) (hp' := rH e g q c l) (i := .ior) (len := 1) rfl hj rfl rfl rfl]
  rw [n_put (st' := []) (hp' := rH e (upd g 16 (((g 16) ||| ((c 51 ((g 12)).toNatClampNeg) <<< (((Int8.ofInt (24)).toInt32 - ((Int8.ofInt (8)).toInt32 * (x1 - (Int8.ofInt (8)).toInt32))) &&& 31))))) q c l) rfl hj pf_16]
  exact nrun_ext f f _ _ R 327 127 [(0, .ref 49)] [(0, .ref 49), (1, .int x1)] [] _ 0 0 122 (Nat.le_refl _) (Nat.le_refl _) (Nat.le_of_ble_eq_true rfl) (lvR_mk [0] [0, 1] rfl rfl (by decide) (by decide) (List.forall_mem_cons.mpr ⟨List.mem_cons_self, (fun _ h => nomatch h)⟩) (List.forall_mem_cons.mpr ⟨Or.inl List.mem_cons_self, (List.forall_mem_cons.mpr ⟨Or.inr rfl, (fun _ h => nomatch h)⟩)⟩)) h
set_option maxRecDepth 100000 in
set_option maxHeartbeats 4000000 in
theorem bk_327_127 {b : Bool} {d : Nat} {e : Nat → x_E} {g : Nat → Int32} {q : Nat → Int64} {c : Nat → Nat → Int32} {l : Nat → Nat → Int64} {R : Option Value × List x_E} (h : rr b e d 327 18 [(0, .ref 49)] [] (upd g 12 (((g 12) + (Int32.ofInt (1))))) q c l R) : rr b e d 327 127 [(0, .ref 49)] [] g q c l R := by
  obtain ⟨f, h⟩ := h
  refine ⟨f + 7, ?_⟩
  obtain ⟨y, cb, hj⟩ := mq_327
  rw [n_step (st' := [.ref 49]) (pc' := 128) (lv' := [(0, .ref 49)]) (hp' := rH e g q c l) (i := .aload_n 0) (len := 1) rfl hj rfl rfl rfl]
  rw [n_step (st' := [.ref 49, .ref 49]) (pc' := 129) (lv' := [(0, .ref 49)]) (hp' := rH e g q c l) (i := .aload_n 0) (len := 1) rfl hj rfl rfl rfl]
  rw [n_get (st' := [.int (g 12), .ref 49]) (pc' := 132) (lv' := [(0, .ref 49)]) (hp' := rH e g q c l) (i := .getfield 264) (len := 3) rfl hj rfl rfl rfl rfl]
  rw [n_step (st' := [.int (Int32.ofInt (1)), .int (g 12), .ref 49]) (pc' := 133) (lv' := [(0, .ref 49)]) (hp' := rH e g q c l) (i := .iconst 1) (len := 1) rfl hj rfl rfl rfl]
  rw [n_step (st' := [.int ((g 12) + (Int32.ofInt (1))), .ref 49]) (pc' := 134) (lv' := [(0, .ref 49)]) (hp' := rH e g q c l) (i := .iadd) (len := 1) rfl hj rfl rfl rfl]
  rw [n_put (st' := []) (hp' := rH e (upd g 12 (((g 12) + (Int32.ofInt (1))))) q c l) rfl hj pf_12]
  rw [n_step (st' := []) (pc' := 18) (lv' := [(0, .ref 49)]) (hp' := rH e (upd g 12 (((g 12) + (Int32.ofInt (1))))) q c l) (i := .goto (-119)) (len := 3) rfl hj rfl rfl rfl]
  exact h
set_option maxRecDepth 100000 in
set_option maxHeartbeats 4000000 in
theorem bk_327_140 {b : Bool} {d : Nat} {e : Nat → x_E} {g : Nat → Int32} {q : Nat → Int64} {c : Nat → Nat → Int32} {l : Nat → Nat → Int64} {R : Option Value × List x_E} (h1 : xCn .le (((g 12) - (g 11))) ((Int8.ofInt (10)).toInt32) = true → rr b e d 327 161 [(0, .ref 49)] [] g q c l R) (h2 : ¬ xCn .le (((g 12) - (g 11))) ((Int8.ofInt (10)).toInt32) = true → rr b e d 327 154 [(0, .ref 49)] [] g q c l R) : rr b e d 327 140 [(0, .ref 49)] [] g q c l R := by
  have key : ∀ f, nrun xZ (xY (xfm b)) xDT (f + 7) d 327 140 [(0, .ref 49)] [] (rH e g q c l) 0 0 = nrun xZ (xY (xfm b)) xDT f d 327 (if xCn .le (((g 12) - (g 11))) ((Int8.ofInt (10)).toInt32) = true then 161 else 154) [(0, .ref 49)] [] (rH e g q c l) 0 0 := by
    intro f
    obtain ⟨y, cb, hj⟩ := mq_327
    rw [n_step (st' := [.ref 49]) (pc' := 141) (lv' := [(0, .ref 49)]) (hp' := rH e g q c l) (i := .aload_n 0) (len := 1) rfl hj rfl rfl rfl]
    rw [n_get (st' := [.int (g 12)]) (pc' := 144) (lv' := [(0, .ref 49)]) (hp' := rH e g q c l) (i := .getfield 264) (len := 3) rfl hj rfl rfl rfl rfl]
    rw [n_step (st' := [.ref 49, .int (g 12)]) (pc' := 145) (lv' := [(0, .ref 49)]) (hp' := rH e g q c l) (i := .aload_n 0) (len := 1) rfl hj rfl rfl rfl]
    rw [n_get (st' := [.int (g 11), .int (g 12)]) (pc' := 148) (lv' := [(0, .ref 49)]) (hp' := rH e g q c l) (i := .getfield 257) (len := 3) rfl hj rfl rfl rfl rfl]
    rw [n_step (st' := [.int ((g 12) - (g 11))]) (pc' := 149) (lv' := [(0, .ref 49)]) (hp' := rH e g q c l) (i := .isub) (len := 1) rfl hj rfl rfl rfl]
    rw [n_step (st' := [.int (Int8.ofInt (10)).toInt32, .int ((g 12) - (g 11))]) (pc' := 151) (lv' := [(0, .ref 49)]) (hp' := rH e g q c l) (i := .bipush 10) (len := 2) rfl hj rfl rfl rfl]
    rw [n_step (st' := []) (pc' := (if xCn .le (((g 12) - (g 11))) ((Int8.ofInt (10)).toInt32) = true then 161 else 154)) (lv' := [(0, .ref 49)]) (hp' := rH e g q c l) (i := .if_icmp .le 10) (len := 3) rfl hj rfl rfl rfl]
  by_cases hc : xCn .le (((g 12) - (g 11))) ((Int8.ofInt (10)).toInt32) = true
  · obtain ⟨f, h⟩ := h1 hc
    refine ⟨f + 7, ?_⟩
    rw [key, if_pos hc]
    exact h
  · obtain ⟨f, h⟩ := h2 hc
    refine ⟨f + 7, ?_⟩
    rw [key, if_neg hc]
    exact h
set_option maxRecDepth 100000 in
set_option maxHeartbeats 4000000 in
theorem bk_327_154 {b : Bool} {d : Nat} {e : Nat → x_E} {g : Nat → Int32} {q : Nat → Int64} {c : Nat → Nat → Int32} {l : Nat → Nat → Int64} : rr b e d 327 154 [(0, .ref 49)] [] g q c l (none, rH e (upd g 10 ((Int8.ofInt (6)).toInt32)) q c l) := by
  refine ⟨0 + 4, ?_⟩
  obtain ⟨y, cb, hj⟩ := mq_327
  rw [n_step (st' := [.ref 49]) (pc' := 155) (lv' := [(0, .ref 49)]) (hp' := rH e g q c l) (i := .aload_n 0) (len := 1) rfl hj rfl rfl rfl]
  rw [n_step (st' := [.int (Int8.ofInt (6)).toInt32, .ref 49]) (pc' := 157) (lv' := [(0, .ref 49)]) (hp' := rH e g q c l) (i := .bipush 6) (len := 2) rfl hj rfl rfl rfl]
  rw [n_put (st' := []) (hp' := rH e (upd g 10 ((Int8.ofInt (6)).toInt32)) q c l) rfl hj pf_10]
  exact n_ret rfl hj rfl rfl rfl
set_option maxRecDepth 100000 in
set_option maxHeartbeats 4000000 in
theorem bk_327_161 {b : Bool} {d : Nat} {e : Nat → x_E} {g : Nat → Int32} {q : Nat → Int64} {c : Nat → Nat → Int32} {l : Nat → Nat → Int64} {R : Option Value × List x_E} (h1 : xCn .eq ((g 9)) 0 = true → rr b e d 327 180 [(0, .ref 49)] [.ref 49] g q c l R) (h2 : ¬ xCn .eq ((g 9)) 0 = true → rr b e d 327 169 [(0, .ref 49)] [.ref 49] g q c l R) : rr b e d 327 161 [(0, .ref 49)] [] g q c l R := by
  have key : ∀ f, nrun xZ (xY (xfm b)) xDT (f + 4) d 327 161 [(0, .ref 49)] [] (rH e g q c l) 0 0 = nrun xZ (xY (xfm b)) xDT f d 327 (if xCn .eq ((g 9)) 0 = true then 180 else 169) [(0, .ref 49)] [.ref 49] (rH e g q c l) 0 0 := by
    intro f
    obtain ⟨y, cb, hj⟩ := mq_327
    rw [n_step (st' := [.ref 49]) (pc' := 162) (lv' := [(0, .ref 49)]) (hp' := rH e g q c l) (i := .aload_n 0) (len := 1) rfl hj rfl rfl rfl]
    rw [n_step (st' := [.ref 49, .ref 49]) (pc' := 163) (lv' := [(0, .ref 49)]) (hp' := rH e g q c l) (i := .aload_n 0) (len := 1) rfl hj rfl rfl rfl]
    rw [n_get (st' := [.int (g 9), .ref 49]) (pc' := 166) (lv' := [(0, .ref 49)]) (hp' := rH e g q c l) (i := .getfield 299) (len := 3) rfl hj rfl rfl rfl rfl]
    rw [n_step (st' := [.ref 49]) (pc' := (if xCn .eq ((g 9)) 0 = true then 180 else 169)) (lv' := [(0, .ref 49)]) (hp' := rH e g q c l) (i := .ifCond .eq 14) (len := 3) rfl hj rfl rfl rfl]
  by_cases hc : xCn .eq ((g 9)) 0 = true
  · obtain ⟨f, h⟩ := h1 hc
    refine ⟨f + 4, ?_⟩
    rw [key, if_pos hc]
    exact h
  · obtain ⟨f, h⟩ := h2 hc
    refine ⟨f + 4, ?_⟩
    rw [key, if_neg hc]
    exact h
set_option maxRecDepth 100000 in
set_option maxHeartbeats 4000000 in
theorem bk_327_169 {b : Bool} {d : Nat} {e : Nat → x_E} {g : Nat → Int32} {q : Nat → Int64} {c : Nat → Nat → Int32} {l : Nat → Nat → Int64} {g' : Nat → Int32} {q' : Nat → Int64} {c' : Nat → Nat → Int32} {l' : Nat → Nat → Int64} {v : Int32} {R : Option Value × List x_E} (hc : rr b e d 329 0 [(0, .ref 49), (1, .ref 53)] [] g q c l (some (.int v), rH e g' q' c' l')) (h : rr b e (d + 1) 327 177 [(0, .ref 49)] [.int v, .ref 49] g' q' c' l' R) : rr b e (d + 1) 327 169 [(0, .ref 49)] [.ref 49] g q c l R := by
  obtain ⟨f1, hc⟩ := hc
  obtain ⟨f2, h⟩ := h
  obtain ⟨f, hf1, hf2⟩ : ∃ f, f1 ≤ f ∧ f2 ≤ f := ⟨max f1 f2, Nat.le_max_left _ _, Nat.le_max_right _ _⟩
  have hc := nrun_fuel f1 f _ _ _ _ _ _ _ _ _ hf1 hc
  have h := nrun_fuel f2 f _ _ _ _ _ _ _ _ _ hf2 h
  refine ⟨f + 4, ?_⟩
  obtain ⟨y, cb, hj⟩ := mq_327
  rw [n_step (st' := [.ref 49, .ref 49]) (pc' := 170) (lv' := [(0, .ref 49)]) (hp' := rH e g q c l) (i := .aload_n 0) (len := 1) rfl hj rfl rfl rfl]
  rw [n_step (st' := [.ref 49, .ref 49, .ref 49]) (pc' := 171) (lv' := [(0, .ref 49)]) (hp' := rH e g q c l) (i := .aload_n 0) (len := 1) rfl hj rfl rfl rfl]
  rw [n_get (st' := [.ref 53, .ref 49, .ref 49]) (pc' := 174) (lv' := [(0, .ref 49)]) (hp' := rH e g q c l) (i := .getfield 24) (len := 3) rfl hj rfl rfl rfl rfl]
  obtain ⟨y2, cb2, hj2⟩ := mq_329
  rw [n_call (f := f) (d := d) (ki := 0) (idx := 303) (j' := 329) (kd := 0) (M' := (y2, cb2, 8, some .int, 12, 1, 0, 0)) (avs := [.ref 49, .ref 53]) (r := [.ref 49]) (rv := some (.int v)) (hp1 := rH e g' q' c' l') rfl hj rfl rfl rfl rfl (rq_n rfl rfl hj2 rfl rfl) rfl hc (Nat.le_of_ble_eq_true rfl)]
  exact h
set_option maxRecDepth 100000 in
set_option maxHeartbeats 4000000 in
theorem bk_327_177 {b : Bool} {d : Nat} {t0 : Int32} {e : Nat → x_E} {g : Nat → Int32} {q : Nat → Int64} {c : Nat → Nat → Int32} {l : Nat → Nat → Int64} {R : Option Value × List x_E} (h : rr b e d 327 188 [(0, .ref 49)] [.int t0, .ref 49] g q c l R) : rr b e d 327 177 [(0, .ref 49)] [.int t0, .ref 49] g q c l R := by
  obtain ⟨f, h⟩ := h
  refine ⟨f + 1, ?_⟩
  obtain ⟨y, cb, hj⟩ := mq_327
  rw [n_step (st' := [.int t0, .ref 49]) (pc' := 188) (lv' := [(0, .ref 49)]) (hp' := rH e g q c l) (i := .goto 11) (len := 3) rfl hj rfl rfl rfl]
  exact h
set_option maxRecDepth 100000 in
set_option maxHeartbeats 4000000 in
theorem bk_327_180 {b : Bool} {d : Nat} {e : Nat → x_E} {g : Nat → Int32} {q : Nat → Int64} {c : Nat → Nat → Int32} {l : Nat → Nat → Int64} {g' : Nat → Int32} {q' : Nat → Int64} {c' : Nat → Nat → Int32} {l' : Nat → Nat → Int64} {v : Int32} {R : Option Value × List x_E} (hc : rr b e d 329 0 [(0, .ref 49), (1, .ref 52)] [] g q c l (some (.int v), rH e g' q' c' l')) (h : rr b e (d + 1) 327 188 [(0, .ref 49)] [.int v, .ref 49] g' q' c' l' R) : rr b e (d + 1) 327 180 [(0, .ref 49)] [.ref 49] g q c l R := by
  obtain ⟨f1, hc⟩ := hc
  obtain ⟨f2, h⟩ := h
  obtain ⟨f, hf1, hf2⟩ : ∃ f, f1 ≤ f ∧ f2 ≤ f := ⟨max f1 f2, Nat.le_max_left _ _, Nat.le_max_right _ _⟩
  have hc := nrun_fuel f1 f _ _ _ _ _ _ _ _ _ hf1 hc
  have h := nrun_fuel f2 f _ _ _ _ _ _ _ _ _ hf2 h
  refine ⟨f + 4, ?_⟩
  obtain ⟨y, cb, hj⟩ := mq_327
  rw [n_step (st' := [.ref 49, .ref 49]) (pc' := 181) (lv' := [(0, .ref 49)]) (hp' := rH e g q c l) (i := .aload_n 0) (len := 1) rfl hj rfl rfl rfl]
  rw [n_step (st' := [.ref 49, .ref 49, .ref 49]) (pc' := 182) (lv' := [(0, .ref 49)]) (hp' := rH e g q c l) (i := .aload_n 0) (len := 1) rfl hj rfl rfl rfl]
  rw [n_get (st' := [.ref 52, .ref 49, .ref 49]) (pc' := 185) (lv' := [(0, .ref 49)]) (hp' := rH e g q c l) (i := .getfield 20) (len := 3) rfl hj rfl rfl rfl rfl]
  obtain ⟨y2, cb2, hj2⟩ := mq_329
  rw [n_call (f := f) (d := d) (ki := 0) (idx := 303) (j' := 329) (kd := 0) (M' := (y2, cb2, 8, some .int, 12, 1, 0, 0)) (avs := [.ref 49, .ref 52]) (r := [.ref 49]) (rv := some (.int v)) (hp1 := rH e g' q' c' l') rfl hj rfl rfl rfl rfl (rq_n rfl rfl hj2 rfl rfl) rfl hc (Nat.le_of_ble_eq_true rfl)]
  exact h
set_option maxRecDepth 100000 in
set_option maxHeartbeats 4000000 in
theorem bk_327_188 {b : Bool} {d : Nat} {t0 : Int32} {e : Nat → x_E} {g : Nat → Int32} {q : Nat → Int64} {c : Nat → Nat → Int32} {l : Nat → Nat → Int64} {R : Option Value × List x_E} (h1 : xCn .lt (((upd g 13 t0) 13)) 0 = true → rr b e d 327 203 [(0, .ref 49)] [.ref 49] (upd g 13 t0) q c l R) (h2 : ¬ xCn .lt (((upd g 13 t0) 13)) 0 = true → rr b e d 327 199 [(0, .ref 49)] [.ref 49] (upd g 13 t0) q c l R) : rr b e d 327 188 [(0, .ref 49)] [.int t0, .ref 49] g q c l R := by
  have key : ∀ f, nrun xZ (xY (xfm b)) xDT (f + 5) d 327 188 [(0, .ref 49)] [.int t0, .ref 49] (rH e g q c l) 0 0 = nrun xZ (xY (xfm b)) xDT f d 327 (if xCn .lt (((upd g 13 t0) 13)) 0 = true then 203 else 199) [(0, .ref 49)] [.ref 49] (rH e (upd g 13 t0) q c l) 0 0 := by
    intro f
    obtain ⟨y, cb, hj⟩ := mq_327
    rw [n_put (st' := []) (hp' := rH e (upd g 13 t0) q c l) rfl hj pf_13]
    rw [n_step (st' := [.ref 49]) (pc' := 192) (lv' := [(0, .ref 49)]) (hp' := rH e (upd g 13 t0) q c l) (i := .aload_n 0) (len := 1) rfl hj rfl rfl rfl]
    rw [n_step (st' := [.ref 49, .ref 49]) (pc' := 193) (lv' := [(0, .ref 49)]) (hp' := rH e (upd g 13 t0) q c l) (i := .aload_n 0) (len := 1) rfl hj rfl rfl rfl]
    rw [n_get (st' := [.int ((upd g 13 t0) 13), .ref 49]) (pc' := 196) (lv' := [(0, .ref 49)]) (hp' := rH e (upd g 13 t0) q c l) (i := .getfield 270) (len := 3) rfl hj rfl rfl rfl rfl]
    rw [n_step (st' := [.ref 49]) (pc' := (if xCn .lt (((upd g 13 t0) 13)) 0 = true then 203 else 199)) (lv' := [(0, .ref 49)]) (hp' := rH e (upd g 13 t0) q c l) (i := .ifCond .lt 7) (len := 3) rfl hj rfl rfl rfl]
  by_cases hc : xCn .lt (((upd g 13 t0) 13)) 0 = true
  · obtain ⟨f, h⟩ := h1 hc
    refine ⟨f + 5, ?_⟩
    rw [key, if_pos hc]
    exact h
  · obtain ⟨f, h⟩ := h2 hc
    refine ⟨f + 5, ?_⟩
    rw [key, if_neg hc]
    exact h
set_option maxRecDepth 100000 in
set_option maxHeartbeats 4000000 in
theorem bk_327_199 {b : Bool} {d : Nat} {e : Nat → x_E} {g : Nat → Int32} {q : Nat → Int64} {c : Nat → Nat → Int32} {l : Nat → Nat → Int64} {R : Option Value × List x_E} (h : rr b e d 327 204 [(0, .ref 49)] [.int (Int32.ofInt (4)), .ref 49] g q c l R) : rr b e d 327 199 [(0, .ref 49)] [.ref 49] g q c l R := by
  obtain ⟨f, h⟩ := h
  refine ⟨f + 2, ?_⟩
  obtain ⟨y, cb, hj⟩ := mq_327
  rw [n_step (st' := [.int (Int32.ofInt (4)), .ref 49]) (pc' := 200) (lv' := [(0, .ref 49)]) (hp' := rH e g q c l) (i := .iconst 4) (len := 1) rfl hj rfl rfl rfl]
  rw [n_step (st' := [.int (Int32.ofInt (4)), .ref 49]) (pc' := 204) (lv' := [(0, .ref 49)]) (hp' := rH e g q c l) (i := .goto 4) (len := 3) rfl hj rfl rfl rfl]
  exact h
set_option maxRecDepth 100000 in
set_option maxHeartbeats 4000000 in
theorem bk_327_203 {b : Bool} {d : Nat} {e : Nat → x_E} {g : Nat → Int32} {q : Nat → Int64} {c : Nat → Nat → Int32} {l : Nat → Nat → Int64} {R : Option Value × List x_E} (h : rr b e d 327 204 [(0, .ref 49)] [.int (Int32.ofInt (1)), .ref 49] g q c l R) : rr b e d 327 203 [(0, .ref 49)] [.ref 49] g q c l R := by
  obtain ⟨f, h⟩ := h
  refine ⟨f + 1, ?_⟩
  obtain ⟨y, cb, hj⟩ := mq_327
  rw [n_step (st' := [.int (Int32.ofInt (1)), .ref 49]) (pc' := 204) (lv' := [(0, .ref 49)]) (hp' := rH e g q c l) (i := .iconst 1) (len := 1) rfl hj rfl rfl rfl]
  exact h
set_option maxRecDepth 100000 in
set_option maxHeartbeats 4000000 in
theorem bk_327_204 {b : Bool} {d : Nat} {t0 : Int32} {e : Nat → x_E} {g : Nat → Int32} {q : Nat → Int64} {c : Nat → Nat → Int32} {l : Nat → Nat → Int64} {R : Option Value × List x_E} (h1 : xCn .ne (((upd g 10 t0) 10)) ((Int32.ofInt (1))) = true → rr b e d 327 226 [] [] (upd g 10 t0) q c l R) (h2 : ¬ xCn .ne (((upd g 10 t0) 10)) ((Int32.ofInt (1))) = true → rr b e d 327 215 [(0, .ref 49)] [] (upd g 10 t0) q c l R) : rr b e d 327 204 [(0, .ref 49)] [.int t0, .ref 49] g q c l R := by
  have key : ∀ f, nrun xZ (xY (xfm b)) xDT (f + 5) d 327 204 [(0, .ref 49)] [.int t0, .ref 49] (rH e g q c l) 0 0 = nrun xZ (xY (xfm b)) xDT f d 327 (if xCn .ne (((upd g 10 t0) 10)) ((Int32.ofInt (1))) = true then 226 else 215) [(0, .ref 49)] [] (rH e (upd g 10 t0) q c l) 0 0 := by
    intro f
    obtain ⟨y, cb, hj⟩ := mq_327
    rw [n_put (st' := []) (hp' := rH e (upd g 10 t0) q c l) rfl hj pf_10]
    rw [n_step (st' := [.ref 49]) (pc' := 208) (lv' := [(0, .ref 49)]) (hp' := rH e (upd g 10 t0) q c l) (i := .aload_n 0) (len := 1) rfl hj rfl rfl rfl]
    rw [n_get (st' := [.int ((upd g 10 t0) 10)]) (pc' := 211) (lv' := [(0, .ref 49)]) (hp' := rH e (upd g 10 t0) q c l) (i := .getfield 273) (len := 3) rfl hj rfl rfl rfl rfl]
    rw [n_step (st' := [.int (Int32.ofInt (1)), .int ((upd g 10 t0) 10)]) (pc' := 212) (lv' := [(0, .ref 49)]) (hp' := rH e (upd g 10 t0) q c l) (i := .iconst 1) (len := 1) rfl hj rfl rfl rfl]
    rw [n_step (st' := []) (pc' := (if xCn .ne (((upd g 10 t0) 10)) ((Int32.ofInt (1))) = true then 226 else 215)) (lv' := [(0, .ref 49)]) (hp' := rH e (upd g 10 t0) q c l) (i := .if_icmp .ne 14) (len := 3) rfl hj rfl rfl rfl]
  by_cases hc : xCn .ne (((upd g 10 t0) 10)) ((Int32.ofInt (1))) = true
  · obtain ⟨f, h⟩ := h1 hc
    refine ⟨f + 5, ?_⟩
    rw [key, if_pos hc]
    exact nrun_ext f f _ _ R 327 226 [] [(0, .ref 49)] [] _ 0 0 122 (Nat.le_refl _) (Nat.le_refl _) (Nat.le_of_ble_eq_true rfl) (lvR_mk [] [0] rfl rfl (by decide) (by decide) (fun _ h => nomatch h) (List.forall_mem_cons.mpr ⟨Or.inr rfl, (fun _ h => nomatch h)⟩)) h
  · obtain ⟨f, h⟩ := h2 hc
    refine ⟨f + 5, ?_⟩
    rw [key, if_neg hc]
    exact h
set_option maxRecDepth 100000 in
set_option maxHeartbeats 4000000 in
theorem bk_327_215 {b : Bool} {d : Nat} {e : Nat → x_E} {g : Nat → Int32} {q : Nat → Int64} {c : Nat → Nat → Int32} {l : Nat → Nat → Int64} {R : Option Value × List x_E} (h1 : xCn .eq ((g 9)) 0 = true → rr b e d 327 226 [] [] g q c l R) (h2 : ¬ xCn .eq ((g 9)) 0 = true → rr b e d 327 222 [(0, .ref 49)] [] g q c l R) : rr b e d 327 215 [(0, .ref 49)] [] g q c l R := by
  have key : ∀ f, nrun xZ (xY (xfm b)) xDT (f + 3) d 327 215 [(0, .ref 49)] [] (rH e g q c l) 0 0 = nrun xZ (xY (xfm b)) xDT f d 327 (if xCn .eq ((g 9)) 0 = true then 226 else 222) [(0, .ref 49)] [] (rH e g q c l) 0 0 := by
    intro f
    obtain ⟨y, cb, hj⟩ := mq_327
    rw [n_step (st' := [.ref 49]) (pc' := 216) (lv' := [(0, .ref 49)]) (hp' := rH e g q c l) (i := .aload_n 0) (len := 1) rfl hj rfl rfl rfl]
    rw [n_get (st' := [.int (g 9)]) (pc' := 219) (lv' := [(0, .ref 49)]) (hp' := rH e g q c l) (i := .getfield 299) (len := 3) rfl hj rfl rfl rfl rfl]
    rw [n_step (st' := []) (pc' := (if xCn .eq ((g 9)) 0 = true then 226 else 222)) (lv' := [(0, .ref 49)]) (hp' := rH e g q c l) (i := .ifCond .eq 7) (len := 3) rfl hj rfl rfl rfl]
  by_cases hc : xCn .eq ((g 9)) 0 = true
  · obtain ⟨f, h⟩ := h1 hc
    refine ⟨f + 3, ?_⟩
    rw [key, if_pos hc]
    exact nrun_ext f f _ _ R 327 226 [] [(0, .ref 49)] [] _ 0 0 122 (Nat.le_refl _) (Nat.le_refl _) (Nat.le_of_ble_eq_true rfl) (lvR_mk [] [0] rfl rfl (by decide) (by decide) (fun _ h => nomatch h) (List.forall_mem_cons.mpr ⟨Or.inr rfl, (fun _ h => nomatch h)⟩)) h
  · obtain ⟨f, h⟩ := h2 hc
    refine ⟨f + 3, ?_⟩
    rw [key, if_neg hc]
    exact h
set_option maxRecDepth 100000 in
set_option maxHeartbeats 4000000 in
theorem bk_327_222 {b : Bool} {d : Nat} {e : Nat → x_E} {g : Nat → Int32} {q : Nat → Int64} {c : Nat → Nat → Int32} {l : Nat → Nat → Int64} {g' : Nat → Int32} {q' : Nat → Int64} {c' : Nat → Nat → Int32} {l' : Nat → Nat → Int64} {R : Option Value × List x_E} (hc : rr b e d 330 0 [(0, .ref 49)] [] g q c l (none, rH e g' q' c' l')) (h : rr b e (d + 1) 327 226 [] [] g' q' c' l' R) : rr b e (d + 1) 327 222 [(0, .ref 49)] [] g q c l R := by
  obtain ⟨f1, hc⟩ := hc
  obtain ⟨f2, h⟩ := h
  obtain ⟨f, hf1, hf2⟩ : ∃ f, f1 ≤ f ∧ f2 ≤ f := ⟨max f1 f2, Nat.le_max_left _ _, Nat.le_max_right _ _⟩
  have hc := nrun_fuel f1 f _ _ _ _ _ _ _ _ _ hf1 hc
  have h := nrun_fuel f2 f _ _ _ _ _ _ _ _ _ hf2 h
  refine ⟨f + 2, ?_⟩
  obtain ⟨y, cb, hj⟩ := mq_327
  rw [n_step (st' := [.ref 49]) (pc' := 223) (lv' := [(0, .ref 49)]) (hp' := rH e g q c l) (i := .aload_n 0) (len := 1) rfl hj rfl rfl rfl]
  obtain ⟨y2, cb2, hj2⟩ := mq_330
  rw [n_call (f := f) (d := d) (ki := 0) (idx := 307) (j' := 330) (kd := 0) (M' := (y2, cb2, 2, none, 12, 0, 0, 0)) (avs := [.ref 49]) (r := []) (rv := none) (hp1 := rH e g' q' c' l') rfl hj rfl rfl rfl rfl (rq_n rfl rfl hj2 rfl rfl) rfl hc (Nat.le_of_ble_eq_true rfl)]
  exact nrun_ext f f _ _ R 327 226 [] [(0, .ref 49)] [] _ 0 0 122 (Nat.le_refl _) (Nat.le_refl _) (Nat.le_of_ble_eq_true rfl) (lvR_mk [] [0] rfl rfl (by decide) (by decide) (fun _ h => nomatch h) (List.forall_mem_cons.mpr ⟨Or.inr rfl, (fun _ h => nomatch h)⟩)) h
set_option maxRecDepth 100000 in
set_option maxHeartbeats 4000000 in
theorem bk_327_226 {b : Bool} {d : Nat} {e : Nat → x_E} {g : Nat → Int32} {q : Nat → Int64} {c : Nat → Nat → Int32} {l : Nat → Nat → Int64} : rr b e d 327 226 [] [] g q c l (none, rH e g q c l) := by
  refine ⟨0 + 1, ?_⟩
  obtain ⟨y, cb, hj⟩ := mq_327
  exact n_ret rfl hj rfl rfl rfl
set_option maxRecDepth 100000 in
set_option maxHeartbeats 4000000 in
theorem bk_328_0 {b : Bool} {d : Nat} {x0 : Int32} {e : Nat → x_E} {g : Nat → Int32} {q : Nat → Int64} {c : Nat → Nat → Int32} {l : Nat → Nat → Int64} {R : Option Value × List x_E} (h1 : xCn .lt x0 ((Int8.ofInt (48)).toInt32) = true → rr b e d 328 16 [] [] g q c l R) (h2 : ¬ xCn .lt x0 ((Int8.ofInt (48)).toInt32) = true → rr b e d 328 6 [(0, .int x0)] [] g q c l R) : rr b e d 328 0 [(0, .int x0)] [] g q c l R := by
  have key : ∀ f, nrun xZ (xY (xfm b)) xDT (f + 3) d 328 0 [(0, .int x0)] [] (rH e g q c l) 0 0 = nrun xZ (xY (xfm b)) xDT f d 328 (if xCn .lt x0 ((Int8.ofInt (48)).toInt32) = true then 16 else 6) [(0, .int x0)] [] (rH e g q c l) 0 0 := by
    intro f
    obtain ⟨y, cb, hj⟩ := mq_328
    rw [n_step (st' := [.int x0]) (pc' := 1) (lv' := [(0, .int x0)]) (hp' := rH e g q c l) (i := .iload_n 0) (len := 1) rfl hj rfl rfl rfl]
    rw [n_step (st' := [.int (Int8.ofInt (48)).toInt32, .int x0]) (pc' := 3) (lv' := [(0, .int x0)]) (hp' := rH e g q c l) (i := .bipush 48) (len := 2) rfl hj rfl rfl rfl]
    rw [n_step (st' := []) (pc' := (if xCn .lt x0 ((Int8.ofInt (48)).toInt32) = true then 16 else 6)) (lv' := [(0, .int x0)]) (hp' := rH e g q c l) (i := .if_icmp .lt 13) (len := 3) rfl hj rfl rfl rfl]
  by_cases hc : xCn .lt x0 ((Int8.ofInt (48)).toInt32) = true
  · obtain ⟨f, h⟩ := h1 hc
    refine ⟨f + 3, ?_⟩
    rw [key, if_pos hc]
    exact nrun_ext f f _ _ R 328 16 [] [(0, .int x0)] [] _ 0 0 122 (Nat.le_refl _) (Nat.le_refl _) (Nat.le_of_ble_eq_true rfl) (lvR_mk [] [0] rfl rfl (by decide) (by decide) (fun _ h => nomatch h) (List.forall_mem_cons.mpr ⟨Or.inr rfl, (fun _ h => nomatch h)⟩)) h
  · obtain ⟨f, h⟩ := h2 hc
    refine ⟨f + 3, ?_⟩
    rw [key, if_neg hc]
    exact h
set_option maxRecDepth 100000 in
set_option maxHeartbeats 4000000 in
theorem bk_328_6 {b : Bool} {d : Nat} {x0 : Int32} {e : Nat → x_E} {g : Nat → Int32} {q : Nat → Int64} {c : Nat → Nat → Int32} {l : Nat → Nat → Int64} {R : Option Value × List x_E} (h1 : xCn .gt x0 ((Int8.ofInt (57)).toInt32) = true → rr b e d 328 16 [] [] g q c l R) (h2 : ¬ xCn .gt x0 ((Int8.ofInt (57)).toInt32) = true → rr b e d 328 12 [] [] g q c l R) : rr b e d 328 6 [(0, .int x0)] [] g q c l R := by
  have key : ∀ f, nrun xZ (xY (xfm b)) xDT (f + 3) d 328 6 [(0, .int x0)] [] (rH e g q c l) 0 0 = nrun xZ (xY (xfm b)) xDT f d 328 (if xCn .gt x0 ((Int8.ofInt (57)).toInt32) = true then 16 else 12) [(0, .int x0)] [] (rH e g q c l) 0 0 := by
    intro f
    obtain ⟨y, cb, hj⟩ := mq_328
    rw [n_step (st' := [.int x0]) (pc' := 7) (lv' := [(0, .int x0)]) (hp' := rH e g q c l) (i := .iload_n 0) (len := 1) rfl hj rfl rfl rfl]
    rw [n_step (st' := [.int (Int8.ofInt (57)).toInt32, .int x0]) (pc' := 9) (lv' := [(0, .int x0)]) (hp' := rH e g q c l) (i := .bipush 57) (len := 2) rfl hj rfl rfl rfl]
    rw [n_step (st' := []) (pc' := (if xCn .gt x0 ((Int8.ofInt (57)).toInt32) = true then 16 else 12)) (lv' := [(0, .int x0)]) (hp' := rH e g q c l) (i := .if_icmp .gt 7) (len := 3) rfl hj rfl rfl rfl]
  by_cases hc : xCn .gt x0 ((Int8.ofInt (57)).toInt32) = true
  · obtain ⟨f, h⟩ := h1 hc
    refine ⟨f + 3, ?_⟩
    rw [key, if_pos hc]
    exact nrun_ext f f _ _ R 328 16 [] [(0, .int x0)] [] _ 0 0 122 (Nat.le_refl _) (Nat.le_refl _) (Nat.le_of_ble_eq_true rfl) (lvR_mk [] [0] rfl rfl (by decide) (by decide) (fun _ h => nomatch h) (List.forall_mem_cons.mpr ⟨Or.inr rfl, (fun _ h => nomatch h)⟩)) h
  · obtain ⟨f, h⟩ := h2 hc
    refine ⟨f + 3, ?_⟩
    rw [key, if_neg hc]
    exact nrun_ext f f _ _ R 328 12 [] [(0, .int x0)] [] _ 0 0 122 (Nat.le_refl _) (Nat.le_refl _) (Nat.le_of_ble_eq_true rfl) (lvR_mk [] [0] rfl rfl (by decide) (by decide) (fun _ h => nomatch h) (List.forall_mem_cons.mpr ⟨Or.inr rfl, (fun _ h => nomatch h)⟩)) h
set_option maxRecDepth 100000 in
set_option maxHeartbeats 4000000 in
theorem bk_328_12 {b : Bool} {d : Nat} {e : Nat → x_E} {g : Nat → Int32} {q : Nat → Int64} {c : Nat → Nat → Int32} {l : Nat → Nat → Int64} {R : Option Value × List x_E} (h : rr b e d 328 17 [] [.int (Int32.ofInt (1))] g q c l R) : rr b e d 328 12 [] [] g q c l R := by
  obtain ⟨f, h⟩ := h
  refine ⟨f + 2, ?_⟩
  obtain ⟨y, cb, hj⟩ := mq_328
  rw [n_step (st' := [.int (Int32.ofInt (1))]) (pc' := 13) (lv' := []) (hp' := rH e g q c l) (i := .iconst 1) (len := 1) rfl hj rfl rfl rfl]
  rw [n_step (st' := [.int (Int32.ofInt (1))]) (pc' := 17) (lv' := []) (hp' := rH e g q c l) (i := .goto 4) (len := 3) rfl hj rfl rfl rfl]
  exact h
set_option maxRecDepth 100000 in
set_option maxHeartbeats 4000000 in
theorem bk_328_16 {b : Bool} {d : Nat} {e : Nat → x_E} {g : Nat → Int32} {q : Nat → Int64} {c : Nat → Nat → Int32} {l : Nat → Nat → Int64} {R : Option Value × List x_E} (h : rr b e d 328 17 [] [.int (Int32.ofInt (0))] g q c l R) : rr b e d 328 16 [] [] g q c l R := by
  obtain ⟨f, h⟩ := h
  refine ⟨f + 1, ?_⟩
  obtain ⟨y, cb, hj⟩ := mq_328
  rw [n_step (st' := [.int (Int32.ofInt (0))]) (pc' := 17) (lv' := []) (hp' := rH e g q c l) (i := .iconst 0) (len := 1) rfl hj rfl rfl rfl]
  exact h
set_option maxRecDepth 100000 in
set_option maxHeartbeats 4000000 in
theorem bk_328_17 {b : Bool} {d : Nat} {t0 : Int32} {e : Nat → x_E} {g : Nat → Int32} {q : Nat → Int64} {c : Nat → Nat → Int32} {l : Nat → Nat → Int64} (hv : t0 = 0 ∨ t0 = 1) : rr b e d 328 17 [] [.int t0] g q c l (some (.int t0), rH e g q c l) := by
  refine ⟨0 + 1, ?_⟩
  obtain ⟨y, cb, hj⟩ := mq_328
  exact n_ret rfl hj rfl rfl (x_ret (nb_01 hv))
set_option maxRecDepth 100000 in
set_option maxHeartbeats 4000000 in
theorem bk_329s52_0 {b : Bool} {d : Nat} {e : Nat → x_E} {g : Nat → Int32} {q : Nat → Int64} {c : Nat → Nat → Int32} {l : Nat → Nat → Int64} {R : Option Value × List x_E} (h : rr b e d 329 18 [(0, .ref 49), (1, .ref 52), (2, .int ((g 12) - (g 11))), (3, .int (Int32.ofInt (0))), (4, .int (Int32.ofInt (0))), (5, .int (Int32.ofInt (0)))] [] g q c l R) : rr b e d 329 0 [(0, .ref 49), (1, .ref 52)] [] g q c l R := by
  obtain ⟨f, h⟩ := h
  refine ⟨f + 12, ?_⟩
  obtain ⟨y, cb, hj⟩ := mq_329
  rw [n_step (st' := [.ref 49]) (pc' := 1) (lv' := [(0, .ref 49), (1, .ref 52)]) (hp' := rH e g q c l) (i := .aload_n 0) (len := 1) rfl hj rfl rfl rfl]
  rw [n_get (st' := [.int (g 12)]) (pc' := 4) (lv' := [(0, .ref 49), (1, .ref 52)]) (hp' := rH e g q c l) (i := .getfield 264) (len := 3) rfl hj rfl rfl rfl rfl]
  rw [n_step (st' := [.ref 49, .int (g 12)]) (pc' := 5) (lv' := [(0, .ref 49), (1, .ref 52)]) (hp' := rH e g q c l) (i := .aload_n 0) (len := 1) rfl hj rfl rfl rfl]
  rw [n_get (st' := [.int (g 11), .int (g 12)]) (pc' := 8) (lv' := [(0, .ref 49), (1, .ref 52)]) (hp' := rH e g q c l) (i := .getfield 257) (len := 3) rfl hj rfl rfl rfl rfl]
  rw [n_step (st' := [.int ((g 12) - (g 11))]) (pc' := 9) (lv' := [(0, .ref 49), (1, .ref 52)]) (hp' := rH e g q c l) (i := .isub) (len := 1) rfl hj rfl rfl rfl]
  rw [n_step (st' := []) (pc' := 10) (lv' := [(2, .int ((g 12) - (g 11))), (0, .ref 49), (1, .ref 52)]) (hp' := rH e g q c l) (i := .istore_n 2) (len := 1) rfl hj rfl rfl rfl]
  rw [n_step (st' := [.int (Int32.ofInt (0))]) (pc' := 11) (lv' := [(2, .int ((g 12) - (g 11))), (0, .ref 49), (1, .ref 52)]) (hp' := rH e g q c l) (i := .iconst 0) (len := 1) rfl hj rfl rfl rfl]
  rw [n_step (st' := []) (pc' := 12) (lv' := [(3, .int (Int32.ofInt (0))), (2, .int ((g 12) - (g 11))), (0, .ref 49), (1, .ref 52)]) (hp' := rH e g q c l) (i := .istore_n 3) (len := 1) rfl hj rfl rfl rfl]
  rw [n_step (st' := [.int (Int32.ofInt (0))]) (pc' := 13) (lv' := [(3, .int (Int32.ofInt (0))), (2, .int ((g 12) - (g 11))), (0, .ref 49), (1, .ref 52)]) (hp' := rH e g q c l) (i := .iconst 0) (len := 1) rfl hj rfl rfl rfl]
  rw [n_step (st' := []) (pc' := 15) (lv' := [(4, .int (Int32.ofInt (0))), (3, .int (Int32.ofInt (0))), (2, .int ((g 12) - (g 11))), (0, .ref 49), (1, .ref 52)]) (hp' := rH e g q c l) (i := .istore 4) (len := 2) rfl hj rfl rfl rfl]
  rw [n_step (st' := [.int (Int32.ofInt (0))]) (pc' := 16) (lv' := [(4, .int (Int32.ofInt (0))), (3, .int (Int32.ofInt (0))), (2, .int ((g 12) - (g 11))), (0, .ref 49), (1, .ref 52)]) (hp' := rH e g q c l) (i := .iconst 0) (len := 1) rfl hj rfl rfl rfl]
  rw [n_step (st' := []) (pc' := 18) (lv' := [(5, .int (Int32.ofInt (0))), (4, .int (Int32.ofInt (0))), (3, .int (Int32.ofInt (0))), (2, .int ((g 12) - (g 11))), (0, .ref 49), (1, .ref 52)]) (hp' := rH e g q c l) (i := .istore 5) (len := 2) rfl hj rfl rfl rfl]
  exact nrun_ext f f _ _ R 329 18 [(0, .ref 49), (1, .ref 52), (2, .int ((g 12) - (g 11))), (3, .int (Int32.ofInt (0))), (4, .int (Int32.ofInt (0))), (5, .int (Int32.ofInt (0)))] [(5, .int (Int32.ofInt (0))), (4, .int (Int32.ofInt (0))), (3, .int (Int32.ofInt (0))), (2, .int ((g 12) - (g 11))), (0, .ref 49), (1, .ref 52)] [] _ 0 0 122 (Nat.le_refl _) (Nat.le_refl _) (Nat.le_of_ble_eq_true rfl) (lvR_mk [0, 1, 2, 3, 4, 5] [5, 4, 3, 2, 0, 1] rfl rfl (by decide) (by decide) (List.forall_mem_cons.mpr ⟨(List.mem_cons_of_mem _ (List.mem_cons_of_mem _ (List.mem_cons_of_mem _ (List.mem_cons_of_mem _ List.mem_cons_self)))), (List.forall_mem_cons.mpr ⟨(List.mem_cons_of_mem _ (List.mem_cons_of_mem _ (List.mem_cons_of_mem _ (List.mem_cons_of_mem _ (List.mem_cons_of_mem _ List.mem_cons_self))))), (List.forall_mem_cons.mpr ⟨(List.mem_cons_of_mem _ (List.mem_cons_of_mem _ (List.mem_cons_of_mem _ List.mem_cons_self))), (List.forall_mem_cons.mpr ⟨(List.mem_cons_of_mem _ (List.mem_cons_of_mem _ List.mem_cons_self)), (List.forall_mem_cons.mpr ⟨(List.mem_cons_of_mem _ List.mem_cons_self), (List.forall_mem_cons.mpr ⟨List.mem_cons_self, (fun _ h => nomatch h)⟩)⟩)⟩)⟩)⟩)⟩) (List.forall_mem_cons.mpr ⟨Or.inl (List.mem_cons_of_mem _ (List.mem_cons_of_mem _ (List.mem_cons_of_mem _ (List.mem_cons_of_mem _ (List.mem_cons_of_mem _ List.mem_cons_self))))), (List.forall_mem_cons.mpr ⟨Or.inl (List.mem_cons_of_mem _ (List.mem_cons_of_mem _ (List.mem_cons_of_mem _ (List.mem_cons_of_mem _ List.mem_cons_self)))), (List.forall_mem_cons.mpr ⟨Or.inl (List.mem_cons_of_mem _ (List.mem_cons_of_mem _ (List.mem_cons_of_mem _ List.mem_cons_self))), (List.forall_mem_cons.mpr ⟨Or.inl (List.mem_cons_of_mem _ (List.mem_cons_of_mem _ List.mem_cons_self)), (List.forall_mem_cons.mpr ⟨Or.inl List.mem_cons_self, (List.forall_mem_cons.mpr ⟨Or.inl (List.mem_cons_of_mem _ List.mem_cons_self), (fun _ h => nomatch h)⟩)⟩)⟩)⟩)⟩)⟩)) h
set_option maxRecDepth 100000 in
set_option maxHeartbeats 4000000 in
theorem bk_329s52_18 {b : Bool} {d : Nat} {x2 x3 x4 x5 : Int32} {e : Nat → x_E} {g : Nat → Int32} {q : Nat → Int64} {c : Nat → Nat → Int32} {l : Nat → Nat → Int64} {R : Option Value × List x_E} (h1 : xCn .ge x5 ((Int32.ofNat 31)) = true → rr b e d 329 125 [] [] g q c l R) (h2 : ¬ xCn .ge x5 ((Int32.ofNat 31)) = true → rr b e d 329 25 [(0, .ref 49), (1, .ref 52), (2, .int x2), (3, .int x3), (4, .int x4), (5, .int x5)] [] g q c l R) : rr b e d 329 18 [(0, .ref 49), (1, .ref 52), (2, .int x2), (3, .int x3), (4, .int x4), (5, .int x5)] [] g q c l R := by
  have key : ∀ f, nrun xZ (xY (xfm b)) xDT (f + 4) d 329 18 [(0, .ref 49), (1, .ref 52), (2, .int x2), (3, .int x3), (4, .int x4), (5, .int x5)] [] (rH e g q c l) 0 0 = nrun xZ (xY (xfm b)) xDT f d 329 (if xCn .ge x5 ((Int32.ofNat 31)) = true then 125 else 25) [(0, .ref 49), (1, .ref 52), (2, .int x2), (3, .int x3), (4, .int x4), (5, .int x5)] [] (rH e g q c l) 0 0 := by
    intro f
    obtain ⟨y, cb, hj⟩ := mq_329
    rw [n_step (st' := [.int x5]) (pc' := 20) (lv' := [(0, .ref 49), (1, .ref 52), (2, .int x2), (3, .int x3), (4, .int x4), (5, .int x5)]) (hp' := rH e g q c l) (i := .iload 5) (len := 2) rfl hj rfl rfl rfl]
    rw [n_step (st' := [.ref 52, .int x5]) (pc' := 21) (lv' := [(0, .ref 49), (1, .ref 52), (2, .int x2), (3, .int x3), (4, .int x4), (5, .int x5)]) (hp' := rH e g q c l) (i := .aload_n 1) (len := 1) rfl hj rfl rfl rfl]
    rw [n_get (st' := [.int (Int32.ofNat 31), .int x5]) (pc' := 22) (lv' := [(0, .ref 49), (1, .ref 52), (2, .int x2), (3, .int x3), (4, .int x4), (5, .int x5)]) (hp' := rH e g q c l) (i := .arraylength) (len := 1) rfl hj rfl rfl rfl rfl]
    rw [n_step (st' := []) (pc' := (if xCn .ge x5 ((Int32.ofNat 31)) = true then 125 else 25)) (lv' := [(0, .ref 49), (1, .ref 52), (2, .int x2), (3, .int x3), (4, .int x4), (5, .int x5)]) (hp' := rH e g q c l) (i := .if_icmp .ge 103) (len := 3) rfl hj rfl rfl rfl]
  by_cases hc : xCn .ge x5 ((Int32.ofNat 31)) = true
  · obtain ⟨f, h⟩ := h1 hc
    refine ⟨f + 4, ?_⟩
    rw [key, if_pos hc]
    exact nrun_ext f f _ _ R 329 125 [] [(0, .ref 49), (1, .ref 52), (2, .int x2), (3, .int x3), (4, .int x4), (5, .int x5)] [] _ 0 0 122 (Nat.le_refl _) (Nat.le_refl _) (Nat.le_of_ble_eq_true rfl) (lvR_mk [] [0, 1, 2, 3, 4, 5] rfl rfl (by decide) (by decide) (fun _ h => nomatch h) (List.forall_mem_cons.mpr ⟨Or.inr rfl, (List.forall_mem_cons.mpr ⟨Or.inr rfl, (List.forall_mem_cons.mpr ⟨Or.inr rfl, (List.forall_mem_cons.mpr ⟨Or.inr rfl, (List.forall_mem_cons.mpr ⟨Or.inr rfl, (List.forall_mem_cons.mpr ⟨Or.inr rfl, (fun _ h => nomatch h)⟩)⟩)⟩)⟩)⟩)⟩)) h
  · obtain ⟨f, h⟩ := h2 hc
    refine ⟨f + 4, ?_⟩
    rw [key, if_neg hc]
    exact h
set_option maxRecDepth 100000 in
set_option maxHeartbeats 4000000 in
theorem bk_329s52_25 {b : Bool} {d : Nat} {x2 x3 x4 x5 : Int32} {e : Nat → x_E} {g : Nat → Int32} {q : Nat → Int64} {c : Nat → Nat → Int32} {l : Nat → Nat → Int64} {R : Option Value × List x_E} (hz0 : ¬ (x5 < 0 ∨ 31 ≤ (x5).toNatClampNeg)) (h1 : xCn .eq ((c 52 (x5).toNatClampNeg)) ((Int8.ofInt (32)).toInt32) = true → rr b e d 329 37 [(0, .ref 49), (1, .ref 52), (2, .int x2), (3, .int x3), (4, .int x4), (5, .int x5)] [] g q c l R) (h2 : ¬ xCn .eq ((c 52 (x5).toNatClampNeg)) ((Int8.ofInt (32)).toInt32) = true → rr b e d 329 34 [(0, .ref 49), (1, .ref 52), (2, .int x2), (3, .int x3), (4, .int x4), (5, .int x5)] [] g q c l R) : rr b e d 329 25 [(0, .ref 49), (1, .ref 52), (2, .int x2), (3, .int x3), (4, .int x4), (5, .int x5)] [] g q c l R := by
  have key : ∀ f, nrun xZ (xY (xfm b)) xDT (f + 5) d 329 25 [(0, .ref 49), (1, .ref 52), (2, .int x2), (3, .int x3), (4, .int x4), (5, .int x5)] [] (rH e g q c l) 0 0 = nrun xZ (xY (xfm b)) xDT f d 329 (if xCn .eq ((c 52 (x5).toNatClampNeg)) ((Int8.ofInt (32)).toInt32) = true then 37 else 34) [(0, .ref 49), (1, .ref 52), (2, .int x2), (3, .int x3), (4, .int x4), (5, .int x5)] [] (rH e g q c l) 0 0 := by
    intro f
    obtain ⟨y, cb, hj⟩ := mq_329
    rw [n_step (st' := [.ref 52]) (pc' := 26) (lv' := [(0, .ref 49), (1, .ref 52), (2, .int x2), (3, .int x3), (4, .int x4), (5, .int x5)]) (hp' := rH e g q c l) (i := .aload_n 1) (len := 1) rfl hj rfl rfl rfl]
    rw [n_step (st' := [.int x5, .ref 52]) (pc' := 28) (lv' := [(0, .ref 49), (1, .ref 52), (2, .int x2), (3, .int x3), (4, .int x4), (5, .int x5)]) (hp' := rH e g q c l) (i := .iload 5) (len := 2) rfl hj rfl rfl rfl]
    rw [n_cal (st' := [.int (c 52 (x5).toNatClampNeg)]) rfl hj (ald_52 hz0)]
    rw [n_step (st' := [.int (Int8.ofInt (32)).toInt32, .int (c 52 (x5).toNatClampNeg)]) (pc' := 31) (lv' := [(0, .ref 49), (1, .ref 52), (2, .int x2), (3, .int x3), (4, .int x4), (5, .int x5)]) (hp' := rH e g q c l) (i := .bipush 32) (len := 2) rfl hj rfl rfl rfl]
    rw [n_step (st' := []) (pc' := (if xCn .eq ((c 52 (x5).toNatClampNeg)) ((Int8.ofInt (32)).toInt32) = true then 37 else 34)) (lv' := [(0, .ref 49), (1, .ref 52), (2, .int x2), (3, .int x3), (4, .int x4), (5, .int x5)]) (hp' := rH e g q c l) (i := .if_icmp .eq 6) (len := 3) rfl hj rfl rfl rfl]
  by_cases hc : xCn .eq ((c 52 (x5).toNatClampNeg)) ((Int8.ofInt (32)).toInt32) = true
  · obtain ⟨f, h⟩ := h1 hc
    refine ⟨f + 5, ?_⟩
    rw [key, if_pos hc]
    exact h
  · obtain ⟨f, h⟩ := h2 hc
    refine ⟨f + 5, ?_⟩
    rw [key, if_neg hc]
    exact h
set_option maxRecDepth 100000 in
set_option maxHeartbeats 4000000 in
theorem bk_329s52_34 {b : Bool} {d : Nat} {x2 x3 x4 x5 : Int32} {e : Nat → x_E} {g : Nat → Int32} {q : Nat → Int64} {c : Nat → Nat → Int32} {l : Nat → Nat → Int64} {R : Option Value × List x_E} (h : rr b e d 329 119 [(0, .ref 49), (1, .ref 52), (2, .int x2), (3, .int x3), (4, .int x4), (5, .int x5)] [] g q c l R) : rr b e d 329 34 [(0, .ref 49), (1, .ref 52), (2, .int x2), (3, .int x3), (4, .int x4), (5, .int x5)] [] g q c l R := by
  obtain ⟨f, h⟩ := h
  refine ⟨f + 1, ?_⟩
  obtain ⟨y, cb, hj⟩ := mq_329
  rw [n_step (st' := []) (pc' := 119) (lv' := [(0, .ref 49), (1, .ref 52), (2, .int x2), (3, .int x3), (4, .int x4), (5, .int x5)]) (hp' := rH e g q c l) (i := .goto 85) (len := 3) rfl hj rfl rfl rfl]
  exact h
set_option maxRecDepth 100000 in
set_option maxHeartbeats 4000000 in
theorem bk_329s52_37 {b : Bool} {d : Nat} {x2 x3 x4 x5 : Int32} {e : Nat → x_E} {g : Nat → Int32} {q : Nat → Int64} {c : Nat → Nat → Int32} {l : Nat → Nat → Int64} {R : Option Value × List x_E} (h1 : xCn .ne ((x5 - x4)) x2 = true → rr b e d 329 50 [(0, .ref 49), (1, .ref 52), (2, .int x2), (3, .int x3), (4, .int x4), (5, .int x5)] [] g q c l R) (h2 : ¬ xCn .ne ((x5 - x4)) x2 = true → rr b e d 329 46 [(0, .ref 49), (1, .ref 52), (2, .int x2), (3, .int x3), (4, .int x4), (5, .int x5)] [] g q c l R) : rr b e d 329 37 [(0, .ref 49), (1, .ref 52), (2, .int x2), (3, .int x3), (4, .int x4), (5, .int x5)] [] g q c l R := by
  have key : ∀ f, nrun xZ (xY (xfm b)) xDT (f + 5) d 329 37 [(0, .ref 49), (1, .ref 52), (2, .int x2), (3, .int x3), (4, .int x4), (5, .int x5)] [] (rH e g q c l) 0 0 = nrun xZ (xY (xfm b)) xDT f d 329 (if xCn .ne ((x5 - x4)) x2 = true then 50 else 46) [(0, .ref 49), (1, .ref 52), (2, .int x2), (3, .int x3), (4, .int x4), (5, .int x5)] [] (rH e g q c l) 0 0 := by
    intro f
    obtain ⟨y, cb, hj⟩ := mq_329
    rw [n_step (st' := [.int x5]) (pc' := 39) (lv' := [(0, .ref 49), (1, .ref 52), (2, .int x2), (3, .int x3), (4, .int x4), (5, .int x5)]) (hp' := rH e g q c l) (i := .iload 5) (len := 2) rfl hj rfl rfl rfl]
    rw [n_step (st' := [.int x4, .int x5]) (pc' := 41) (lv' := [(0, .ref 49), (1, .ref 52), (2, .int x2), (3, .int x3), (4, .int x4), (5, .int x5)]) (hp' := rH e g q c l) (i := .iload 4) (len := 2) rfl hj rfl rfl rfl]
    rw [n_step (st' := [.int (x5 - x4)]) (pc' := 42) (lv' := [(0, .ref 49), (1, .ref 52), (2, .int x2), (3, .int x3), (4, .int x4), (5, .int x5)]) (hp' := rH e g q c l) (i := .isub) (len := 1) rfl hj rfl rfl rfl]
    rw [n_step (st' := [.int x2, .int (x5 - x4)]) (pc' := 43) (lv' := [(0, .ref 49), (1, .ref 52), (2, .int x2), (3, .int x3), (4, .int x4), (5, .int x5)]) (hp' := rH e g q c l) (i := .iload_n 2) (len := 1) rfl hj rfl rfl rfl]
    rw [n_step (st' := []) (pc' := (if xCn .ne ((x5 - x4)) x2 = true then 50 else 46)) (lv' := [(0, .ref 49), (1, .ref 52), (2, .int x2), (3, .int x3), (4, .int x4), (5, .int x5)]) (hp' := rH e g q c l) (i := .if_icmp .ne 7) (len := 3) rfl hj rfl rfl rfl]
  by_cases hc : xCn .ne ((x5 - x4)) x2 = true
  · obtain ⟨f, h⟩ := h1 hc
    refine ⟨f + 5, ?_⟩
    rw [key, if_pos hc]
    exact h
  · obtain ⟨f, h⟩ := h2 hc
    refine ⟨f + 5, ?_⟩
    rw [key, if_neg hc]
    exact h
set_option maxRecDepth 100000 in
set_option maxHeartbeats 4000000 in
theorem bk_329s52_46 {b : Bool} {d : Nat} {x2 x3 x4 x5 : Int32} {e : Nat → x_E} {g : Nat → Int32} {q : Nat → Int64} {c : Nat → Nat → Int32} {l : Nat → Nat → Int64} {R : Option Value × List x_E} (h : rr b e d 329 51 [(0, .ref 49), (1, .ref 52), (2, .int x2), (3, .int x3), (4, .int x4), (5, .int x5)] [.int (Int32.ofInt (1))] g q c l R) : rr b e d 329 46 [(0, .ref 49), (1, .ref 52), (2, .int x2), (3, .int x3), (4, .int x4), (5, .int x5)] [] g q c l R := by
  obtain ⟨f, h⟩ := h
  refine ⟨f + 2, ?_⟩
  obtain ⟨y, cb, hj⟩ := mq_329
  rw [n_step (st' := [.int (Int32.ofInt (1))]) (pc' := 47) (lv' := [(0, .ref 49), (1, .ref 52), (2, .int x2), (3, .int x3), (4, .int x4), (5, .int x5)]) (hp' := rH e g q c l) (i := .iconst 1) (len := 1) rfl hj rfl rfl rfl]
  rw [n_step (st' := [.int (Int32.ofInt (1))]) (pc' := 51) (lv' := [(0, .ref 49), (1, .ref 52), (2, .int x2), (3, .int x3), (4, .int x4), (5, .int x5)]) (hp' := rH e g q c l) (i := .goto 4) (len := 3) rfl hj rfl rfl rfl]
  exact h
set_option maxRecDepth 100000 in
set_option maxHeartbeats 4000000 in
theorem bk_329s52_50 {b : Bool} {d : Nat} {x2 x3 x4 x5 : Int32} {e : Nat → x_E} {g : Nat → Int32} {q : Nat → Int64} {c : Nat → Nat → Int32} {l : Nat → Nat → Int64} {R : Option Value × List x_E} (h : rr b e d 329 51 [(0, .ref 49), (1, .ref 52), (2, .int x2), (3, .int x3), (4, .int x4), (5, .int x5)] [.int (Int32.ofInt (0))] g q c l R) : rr b e d 329 50 [(0, .ref 49), (1, .ref 52), (2, .int x2), (3, .int x3), (4, .int x4), (5, .int x5)] [] g q c l R := by
  obtain ⟨f, h⟩ := h
  refine ⟨f + 1, ?_⟩
  obtain ⟨y, cb, hj⟩ := mq_329
  rw [n_step (st' := [.int (Int32.ofInt (0))]) (pc' := 51) (lv' := [(0, .ref 49), (1, .ref 52), (2, .int x2), (3, .int x3), (4, .int x4), (5, .int x5)]) (hp' := rH e g q c l) (i := .iconst 0) (len := 1) rfl hj rfl rfl rfl]
  exact h
set_option maxRecDepth 100000 in
set_option maxHeartbeats 4000000 in
theorem bk_329s52_51 {b : Bool} {d : Nat} {t0 x2 x3 x4 x5 : Int32} {e : Nat → x_E} {g : Nat → Int32} {q : Nat → Int64} {c : Nat → Nat → Int32} {l : Nat → Nat → Int64} {R : Option Value × List x_E} (h : rr b e d 329 56 [(0, .ref 49), (1, .ref 52), (2, .int x2), (3, .int x3), (4, .int x4), (5, .int x5), (6, .int t0), (7, .int (Int32.ofInt (0)))] [] g q c l R) : rr b e d 329 51 [(0, .ref 49), (1, .ref 52), (2, .int x2), (3, .int x3), (4, .int x4), (5, .int x5)] [.int t0] g q c l R := by
  obtain ⟨f, h⟩ := h
  refine ⟨f + 3, ?_⟩
  obtain ⟨y, cb, hj⟩ := mq_329
  rw [n_step (st' := []) (pc' := 53) (lv' := [(6, .int t0), (0, .ref 49), (1, .ref 52), (2, .int x2), (3, .int x3), (4, .int x4), (5, .int x5)]) (hp' := rH e g q c l) (i := .istore 6) (len := 2) rfl hj rfl rfl rfl]
  rw [n_step (st' := [.int (Int32.ofInt (0))]) (pc' := 54) (lv' := [(6, .int t0), (0, .ref 49), (1, .ref 52), (2, .int x2), (3, .int x3), (4, .int x4), (5, .int x5)]) (hp' := rH e g q c l) (i := .iconst 0) (len := 1) rfl hj rfl rfl rfl]
  rw [n_step (st' := []) (pc' := 56) (lv' := [(7, .int (Int32.ofInt (0))), (6, .int t0), (0, .ref 49), (1, .ref 52), (2, .int x2), (3, .int x3), (4, .int x4), (5, .int x5)]) (hp' := rH e g q c l) (i := .istore 7) (len := 2) rfl hj rfl rfl rfl]
  exact nrun_ext f f _ _ R 329 56 [(0, .ref 49), (1, .ref 52), (2, .int x2), (3, .int x3), (4, .int x4), (5, .int x5), (6, .int t0), (7, .int (Int32.ofInt (0)))] [(7, .int (Int32.ofInt (0))), (6, .int t0), (0, .ref 49), (1, .ref 52), (2, .int x2), (3, .int x3), (4, .int x4), (5, .int x5)] [] _ 0 0 122 (Nat.le_refl _) (Nat.le_refl _) (Nat.le_of_ble_eq_true rfl) (lvR_mk [0, 1, 2, 3, 4, 5, 6, 7] [7, 6, 0, 1, 2, 3, 4, 5] rfl rfl (by decide) (by decide) (List.forall_mem_cons.mpr ⟨(List.mem_cons_of_mem _ (List.mem_cons_of_mem _ List.mem_cons_self)), (List.forall_mem_cons.mpr ⟨(List.mem_cons_of_mem _ (List.mem_cons_of_mem _ (List.mem_cons_of_mem _ List.mem_cons_self))), (List.forall_mem_cons.mpr ⟨(List.mem_cons_of_mem _ (List.mem_cons_of_mem _ (List.mem_cons_of_mem _ (List.mem_cons_of_mem _ List.mem_cons_self)))), (List.forall_mem_cons.mpr ⟨(List.mem_cons_of_mem _ (List.mem_cons_of_mem _ (List.mem_cons_of_mem _ (List.mem_cons_of_mem _ (List.mem_cons_of_mem _ List.mem_cons_self))))), (List.forall_mem_cons.mpr ⟨(List.mem_cons_of_mem _ (List.mem_cons_of_mem _ (List.mem_cons_of_mem _ (List.mem_cons_of_mem _ (List.mem_cons_of_mem _ (List.mem_cons_of_mem _ List.mem_cons_self)))))), (List.forall_mem_cons.mpr ⟨(List.mem_cons_of_mem _ (List.mem_cons_of_mem _ (List.mem_cons_of_mem _ (List.mem_cons_of_mem _ (List.mem_cons_of_mem _ (List.mem_cons_of_mem _ (List.mem_cons_of_mem _ List.mem_cons_self))))))), (List.forall_mem_cons.mpr ⟨(List.mem_cons_of_mem _ List.mem_cons_self), (List.forall_mem_cons.mpr ⟨List.mem_cons_self, (fun _ h => nomatch h)⟩)⟩)⟩)⟩)⟩)⟩)⟩)⟩) (List.forall_mem_cons.mpr ⟨Or.inl (List.mem_cons_of_mem _ (List.mem_cons_of_mem _ (List.mem_cons_of_mem _ (List.mem_cons_of_mem _ (List.mem_cons_of_mem _ (List.mem_cons_of_mem _ (List.mem_cons_of_mem _ List.mem_cons_self))))))), (List.forall_mem_cons.mpr ⟨Or.inl (List.mem_cons_of_mem _ (List.mem_cons_of_mem _ (List.mem_cons_of_mem _ (List.mem_cons_of_mem _ (List.mem_cons_of_mem _ (List.mem_cons_of_mem _ List.mem_cons_self)))))), (List.forall_mem_cons.mpr ⟨Or.inl List.mem_cons_self, (List.forall_mem_cons.mpr ⟨Or.inl (List.mem_cons_of_mem _ List.mem_cons_self), (List.forall_mem_cons.mpr ⟨Or.inl (List.mem_cons_of_mem _ (List.mem_cons_of_mem _ List.mem_cons_self)), (List.forall_mem_cons.mpr ⟨Or.inl (List.mem_cons_of_mem _ (List.mem_cons_of_mem _ (List.mem_cons_of_mem _ List.mem_cons_self))), (List.forall_mem_cons.mpr ⟨Or.inl (List.mem_cons_of_mem _ (List.mem_cons_of_mem _ (List.mem_cons_of_mem _ (List.mem_cons_of_mem _ List.mem_cons_self)))), (List.forall_mem_cons.mpr ⟨Or.inl (List.mem_cons_of_mem _ (List.mem_cons_of_mem _ (List.mem_cons_of_mem _ (List.mem_cons_of_mem _ (List.mem_cons_of_mem _ List.mem_cons_self))))), (fun _ h => nomatch h)⟩)⟩)⟩)⟩)⟩)⟩)⟩)⟩)) h
set_option maxRecDepth 100000 in
set_option maxHeartbeats 4000000 in
theorem bk_329s52_56 {b : Bool} {d : Nat} {x2 x3 x4 x5 x6 x7 : Int32} {e : Nat → x_E} {g : Nat → Int32} {q : Nat → Int64} {c : Nat → Nat → Int32} {l : Nat → Nat → Int64} {R : Option Value × List x_E} (h1 : xCn .ge x7 x2 = true → rr b e d 329 102 [(0, .ref 49), (1, .ref 52), (2, .int x2), (3, .int x3), (5, .int x5), (6, .int x6)] [] g q c l R) (h2 : ¬ xCn .ge x7 x2 = true → rr b e d 329 62 [(0, .ref 49), (1, .ref 52), (2, .int x2), (3, .int x3), (4, .int x4), (5, .int x5), (6, .int x6), (7, .int x7)] [] g q c l R) : rr b e d 329 56 [(0, .ref 49), (1, .ref 52), (2, .int x2), (3, .int x3), (4, .int x4), (5, .int x5), (6, .int x6), (7, .int x7)] [] g q c l R := by
  have key : ∀ f, nrun xZ (xY (xfm b)) xDT (f + 3) d 329 56 [(0, .ref 49), (1, .ref 52), (2, .int x2), (3, .int x3), (4, .int x4), (5, .int x5), (6, .int x6), (7, .int x7)] [] (rH e g q c l) 0 0 = nrun xZ (xY (xfm b)) xDT f d 329 (if xCn .ge x7 x2 = true then 102 else 62) [(0, .ref 49), (1, .ref 52), (2, .int x2), (3, .int x3), (4, .int x4), (5, .int x5), (6, .int x6), (7, .int x7)] [] (rH e g q c l) 0 0 := by
    intro f
    obtain ⟨y, cb, hj⟩ := mq_329
    rw [n_step (st' := [.int x7]) (pc' := 58) (lv' := [(0, .ref 49), (1, .ref 52), (2, .int x2), (3, .int x3), (4, .int x4), (5, .int x5), (6, .int x6), (7, .int x7)]) (hp' := rH e g q c l) (i := .iload 7) (len := 2) rfl hj rfl rfl rfl]
    rw [n_step (st' := [.int x2, .int x7]) (pc' := 59) (lv' := [(0, .ref 49), (1, .ref 52), (2, .int x2), (3, .int x3), (4, .int x4), (5, .int x5), (6, .int x6), (7, .int x7)]) (hp' := rH e g q c l) (i := .iload_n 2) (len := 1) rfl hj rfl rfl rfl]
    rw [n_step (st' := []) (pc' := (if xCn .ge x7 x2 = true then 102 else 62)) (lv' := [(0, .ref 49), (1, .ref 52), (2, .int x2), (3, .int x3), (4, .int x4), (5, .int x5), (6, .int x6), (7, .int x7)]) (hp' := rH e g q c l) (i := .if_icmp .ge 43) (len := 3) rfl hj rfl rfl rfl]
  by_cases hc : xCn .ge x7 x2 = true
  · obtain ⟨f, h⟩ := h1 hc
    refine ⟨f + 3, ?_⟩
    rw [key, if_pos hc]
    exact nrun_ext f f _ _ R 329 102 [(0, .ref 49), (1, .ref 52), (2, .int x2), (3, .int x3), (5, .int x5), (6, .int x6)] [(0, .ref 49), (1, .ref 52), (2, .int x2), (3, .int x3), (4, .int x4), (5, .int x5), (6, .int x6), (7, .int x7)] [] _ 0 0 122 (Nat.le_refl _) (Nat.le_refl _) (Nat.le_of_ble_eq_true rfl) (lvR_mk [0, 1, 2, 3, 5, 6] [0, 1, 2, 3, 4, 5, 6, 7] rfl rfl (by decide) (by decide) (List.forall_mem_cons.mpr ⟨List.mem_cons_self, (List.forall_mem_cons.mpr ⟨(List.mem_cons_of_mem _ List.mem_cons_self), (List.forall_mem_cons.mpr ⟨(List.mem_cons_of_mem _ (List.mem_cons_of_mem _ List.mem_cons_self)), (List.forall_mem_cons.mpr ⟨(List.mem_cons_of_mem _ (List.mem_cons_of_mem _ (List.mem_cons_of_mem _ List.mem_cons_self))), (List.forall_mem_cons.mpr ⟨(List.mem_cons_of_mem _ (List.mem_cons_of_mem _ (List.mem_cons_of_mem _ (List.mem_cons_of_mem _ (List.mem_cons_of_mem _ List.mem_cons_self))))), (List.forall_mem_cons.mpr ⟨(List.mem_cons_of_mem _ (List.mem_cons_of_mem _ (List.mem_cons_of_mem _ (List.mem_cons_of_mem _ (List.mem_cons_of_mem _ (List.mem_cons_of_mem _ List.mem_cons_self)))))), (fun _ h => nomatch h)⟩)⟩)⟩)⟩)⟩)⟩) (List.forall_mem_cons.mpr ⟨Or.inl List.mem_cons_self, (List.forall_mem_cons.mpr ⟨Or.inl (List.mem_cons_of_mem _ List.mem_cons_self), (List.forall_mem_cons.mpr ⟨Or.inl (List.mem_cons_of_mem _ (List.mem_cons_of_mem _ List.mem_cons_self)), (List.forall_mem_cons.mpr ⟨Or.inl (List.mem_cons_of_mem _ (List.mem_cons_of_mem _ (List.mem_cons_of_mem _ List.mem_cons_self))), (List.forall_mem_cons.mpr ⟨Or.inr rfl, (List.forall_mem_cons.mpr ⟨Or.inl (List.mem_cons_of_mem _ (List.mem_cons_of_mem _ (List.mem_cons_of_mem _ (List.mem_cons_of_mem _ List.mem_cons_self)))), (List.forall_mem_cons.mpr ⟨Or.inl (List.mem_cons_of_mem _ (List.mem_cons_of_mem _ (List.mem_cons_of_mem _ (List.mem_cons_of_mem _ (List.mem_cons_of_mem _ List.mem_cons_self))))), (List.forall_mem_cons.mpr ⟨Or.inr rfl, (fun _ h => nomatch h)⟩)⟩)⟩)⟩)⟩)⟩)⟩)⟩)) h
  · obtain ⟨f, h⟩ := h2 hc
    refine ⟨f + 3, ?_⟩
    rw [key, if_neg hc]
    exact h
set_option maxRecDepth 100000 in
set_option maxHeartbeats 4000000 in
theorem bk_329s52_62 {b : Bool} {d : Nat} {x2 x3 x4 x5 x6 x7 : Int32} {e : Nat → x_E} {g : Nat → Int32} {q : Nat → Int64} {c : Nat → Nat → Int32} {l : Nat → Nat → Int64} {R : Option Value × List x_E} (h1 : xCn .eq x6 0 = true → rr b e d 329 102 [(0, .ref 49), (1, .ref 52), (2, .int x2), (3, .int x3), (5, .int x5), (6, .int x6)] [] g q c l R) (h2 : ¬ xCn .eq x6 0 = true → rr b e d 329 67 [(0, .ref 49), (1, .ref 52), (2, .int x2), (3, .int x3), (4, .int x4), (5, .int x5), (7, .int x7)] [] g q c l R) : rr b e d 329 62 [(0, .ref 49), (1, .ref 52), (2, .int x2), (3, .int x3), (4, .int x4), (5, .int x5), (6, .int x6), (7, .int x7)] [] g q c l R := by
  have key : ∀ f, nrun xZ (xY (xfm b)) xDT (f + 2) d 329 62 [(0, .ref 49), (1, .ref 52), (2, .int x2), (3, .int x3), (4, .int x4), (5, .int x5), (6, .int x6), (7, .int x7)] [] (rH e g q c l) 0 0 = nrun xZ (xY (xfm b)) xDT f d 329 (if xCn .eq x6 0 = true then 102 else 67) [(0, .ref 49), (1, .ref 52), (2, .int x2), (3, .int x3), (4, .int x4), (5, .int x5), (6, .int x6), (7, .int x7)] [] (rH e g q c l) 0 0 := by
    intro f
    obtain ⟨y, cb, hj⟩ := mq_329
    rw [n_step (st' := [.int x6]) (pc' := 64) (lv' := [(0, .ref 49), (1, .ref 52), (2, .int x2), (3, .int x3), (4, .int x4), (5, .int x5), (6, .int x6), (7, .int x7)]) (hp' := rH e g q c l) (i := .iload 6) (len := 2) rfl hj rfl rfl rfl]
    rw [n_step (st' := []) (pc' := (if xCn .eq x6 0 = true then 102 else 67)) (lv' := [(0, .ref 49), (1, .ref 52), (2, .int x2), (3, .int x3), (4, .int x4), (5, .int x5), (6, .int x6), (7, .int x7)]) (hp' := rH e g q c l) (i := .ifCond .eq 38) (len := 3) rfl hj rfl rfl rfl]
  by_cases hc : xCn .eq x6 0 = true
  · obtain ⟨f, h⟩ := h1 hc
    refine ⟨f + 2, ?_⟩
    rw [key, if_pos hc]
    exact nrun_ext f f _ _ R 329 102 [(0, .ref 49), (1, .ref 52), (2, .int x2), (3, .int x3), (5, .int x5), (6, .int x6)] [(0, .ref 49), (1, .ref 52), (2, .int x2), (3, .int x3), (4, .int x4), (5, .int x5), (6, .int x6), (7, .int x7)] [] _ 0 0 122 (Nat.le_refl _) (Nat.le_refl _) (Nat.le_of_ble_eq_true rfl) (lvR_mk [0, 1, 2, 3, 5, 6] [0, 1, 2, 3, 4, 5, 6, 7] rfl rfl (by decide) (by decide) (List.forall_mem_cons.mpr ⟨List.mem_cons_self, (List.forall_mem_cons.mpr ⟨(List.mem_cons_of_mem _ List.mem_cons_self), (List.forall_mem_cons.mpr ⟨(List.mem_cons_of_mem _ (List.mem_cons_of_mem _ List.mem_cons_self)), (List.forall_mem_cons.mpr ⟨(List.mem_cons_of_mem _ (List.mem_cons_of_mem _ (List.mem_cons_of_mem _ List.mem_cons_self))), (List.forall_mem_cons.mpr ⟨(List.mem_cons_of_mem _ (List.mem_cons_of_mem _ (List.mem_cons_of_mem _ (List.mem_cons_of_mem _ (List.mem_cons_of_mem _ List.mem_cons_self))))), (List.forall_mem_cons.mpr ⟨(List.mem_cons_of_mem _ (List.mem_cons_of_mem _ (List.mem_cons_of_mem _ (List.mem_cons_of_mem _ (List.mem_cons_of_mem _ (List.mem_cons_of_mem _ List.mem_cons_self)))))), (fun _ h => nomatch h)⟩)⟩)⟩)⟩)⟩)⟩) (List.forall_mem_cons.mpr ⟨Or.inl List.mem_cons_self, (List.forall_mem_cons.mpr ⟨Or.inl (List.mem_cons_of_mem _ List.mem_cons_self), (List.forall_mem_cons.mpr ⟨Or.inl (List.mem_cons_of_mem _ (List.mem_cons_of_mem _ List.mem_cons_self)), (List.forall_mem_cons.mpr ⟨Or.inl (List.mem_cons_of_mem _ (List.mem_cons_of_mem _ (List.mem_cons_of_mem _ List.mem_cons_self))), (List.forall_mem_cons.mpr ⟨Or.inr rfl, (List.forall_mem_cons.mpr ⟨Or.inl (List.mem_cons_of_mem _ (List.mem_cons_of_mem _ (List.mem_cons_of_mem _ (List.mem_cons_of_mem _ List.mem_cons_self)))), (List.forall_mem_cons.mpr ⟨Or.inl (List.mem_cons_of_mem _ (List.mem_cons_of_mem _ (List.mem_cons_of_mem _ (List.mem_cons_of_mem _ (List.mem_cons_of_mem _ List.mem_cons_self))))), (List.forall_mem_cons.mpr ⟨Or.inr rfl, (fun _ h => nomatch h)⟩)⟩)⟩)⟩)⟩)⟩)⟩)⟩)) h
  · obtain ⟨f, h⟩ := h2 hc
    refine ⟨f + 2, ?_⟩
    rw [key, if_neg hc]
    exact nrun_ext f f _ _ R 329 67 [(0, .ref 49), (1, .ref 52), (2, .int x2), (3, .int x3), (4, .int x4), (5, .int x5), (7, .int x7)] [(0, .ref 49), (1, .ref 52), (2, .int x2), (3, .int x3), (4, .int x4), (5, .int x5), (6, .int x6), (7, .int x7)] [] _ 0 0 122 (Nat.le_refl _) (Nat.le_refl _) (Nat.le_of_ble_eq_true rfl) (lvR_mk [0, 1, 2, 3, 4, 5, 7] [0, 1, 2, 3, 4, 5, 6, 7] rfl rfl (by decide) (by decide) (List.forall_mem_cons.mpr ⟨List.mem_cons_self, (List.forall_mem_cons.mpr ⟨(List.mem_cons_of_mem _ List.mem_cons_self), (List.forall_mem_cons.mpr ⟨(List.mem_cons_of_mem _ (List.mem_cons_of_mem _ List.mem_cons_self)), (List.forall_mem_cons.mpr ⟨(List.mem_cons_of_mem _ (List.mem_cons_of_mem _ (List.mem_cons_of_mem _ List.mem_cons_self))), (List.forall_mem_cons.mpr ⟨(List.mem_cons_of_mem _ (List.mem_cons_of_mem _ (List.mem_cons_of_mem _ (List.mem_cons_of_mem _ List.mem_cons_self)))), (List.forall_mem_cons.mpr ⟨(List.mem_cons_of_mem _ (List.mem_cons_of_mem _ (List.mem_cons_of_mem _ (List.mem_cons_of_mem _ (List.mem_cons_of_mem _ List.mem_cons_self))))), (List.forall_mem_cons.mpr ⟨(List.mem_cons_of_mem _ (List.mem_cons_of_mem _ (List.mem_cons_of_mem _ (List.mem_cons_of_mem _ (List.mem_cons_of_mem _ (List.mem_cons_of_mem _ (List.mem_cons_of_mem _ List.mem_cons_self))))))), (fun _ h => nomatch h)⟩)⟩)⟩)⟩)⟩)⟩)⟩) (List.forall_mem_cons.mpr ⟨Or.inl List.mem_cons_self, (List.forall_mem_cons.mpr ⟨Or.inl (List.mem_cons_of_mem _ List.mem_cons_self), (List.forall_mem_cons.mpr ⟨Or.inl (List.mem_cons_of_mem _ (List.mem_cons_of_mem _ List.mem_cons_self)), (List.forall_mem_cons.mpr ⟨Or.inl (List.mem_cons_of_mem _ (List.mem_cons_of_mem _ (List.mem_cons_of_mem _ List.mem_cons_self))), (List.forall_mem_cons.mpr ⟨Or.inl (List.mem_cons_of_mem _ (List.mem_cons_of_mem _ (List.mem_cons_of_mem _ (List.mem_cons_of_mem _ List.mem_cons_self)))), (List.forall_mem_cons.mpr ⟨Or.inl (List.mem_cons_of_mem _ (List.mem_cons_of_mem _ (List.mem_cons_of_mem _ (List.mem_cons_of_mem _ (List.mem_cons_of_mem _ List.mem_cons_self))))), (List.forall_mem_cons.mpr ⟨Or.inr rfl, (List.forall_mem_cons.mpr ⟨Or.inl (List.mem_cons_of_mem _ (List.mem_cons_of_mem _ (List.mem_cons_of_mem _ (List.mem_cons_of_mem _ (List.mem_cons_of_mem _ (List.mem_cons_of_mem _ List.mem_cons_self)))))), (fun _ h => nomatch h)⟩)⟩)⟩)⟩)⟩)⟩)⟩)⟩)) h
set_option maxRecDepth 100000 in
set_option maxHeartbeats 4000000 in
theorem bk_329s52_67 {b : Bool} {d : Nat} {x2 x3 x4 x5 x7 : Int32} {e : Nat → x_E} {g : Nat → Int32} {q : Nat → Int64} {c : Nat → Nat → Int32} {l : Nat → Nat → Int64} {R : Option Value × List x_E} (hz0 : ¬ ((x4 + x7) < 0 ∨ 31 ≤ ((x4 + x7)).toNatClampNeg)) (hz1 : ¬ (((g 11) + x7) < 0 ∨ 6000 ≤ (((g 11) + x7)).toNatClampNeg)) (h1 : xCn .ne ((c 52 ((x4 + x7)).toNatClampNeg)) ((c 51 (((g 11) + x7)).toNatClampNeg)) = true → rr b e d 329 93 [(0, .ref 49), (1, .ref 52), (2, .int x2), (3, .int x3), (4, .int x4), (5, .int x5), (7, .int x7)] [] g q c l R) (h2 : ¬ xCn .ne ((c 52 ((x4 + x7)).toNatClampNeg)) ((c 51 (((g 11) + x7)).toNatClampNeg)) = true → rr b e d 329 89 [(0, .ref 49), (1, .ref 52), (2, .int x2), (3, .int x3), (4, .int x4), (5, .int x5), (7, .int x7)] [] g q c l R) : rr b e d 329 67 [(0, .ref 49), (1, .ref 52), (2, .int x2), (3, .int x3), (4, .int x4), (5, .int x5), (7, .int x7)] [] g q c l R := by
  have key : ∀ f, nrun xZ (xY (xfm b)) xDT (f + 13) d 329 67 [(0, .ref 49), (1, .ref 52), (2, .int x2), (3, .int x3), (4, .int x4), (5, .int x5), (7, .int x7)] [] (rH e g q c l) 0 0 = nrun xZ (xY (xfm b)) xDT f d 329 (if xCn .ne ((c 52 ((x4 + x7)).toNatClampNeg)) ((c 51 (((g 11) + x7)).toNatClampNeg)) = true then 93 else 89) [(0, .ref 49), (1, .ref 52), (2, .int x2), (3, .int x3), (4, .int x4), (5, .int x5), (7, .int x7)] [] (rH e g q c l) 0 0 := by
    intro f
    obtain ⟨y, cb, hj⟩ := mq_329
    rw [n_step (st' := [.ref 52]) (pc' := 68) (lv' := [(0, .ref 49), (1, .ref 52), (2, .int x2), (3, .int x3), (4, .int x4), (5, .int x5), (7, .int x7)]) (hp' := rH e g q c l) (i := .aload_n 1) (len := 1) rfl hj rfl rfl rfl]
    rw [n_step (st' := [.int x4, .ref 52]) (pc' := 70) (lv' := [(0, .ref 49), (1, .ref 52), (2, .int x2), (3, .int x3), (4, .int x4), (5, .int x5), (7, .int x7)]) (hp' := rH e g q c l) (i := .iload 4) (len := 2) rfl hj rfl rfl rfl]
    rw [n_step (st' := [.int x7, .int x4, .ref 52]) (pc' := 72) (lv' := [(0, .ref 49), (1, .ref 52), (2, .int x2), (3, .int x3), (4, .int x4), (5, .int x5), (7, .int x7)]) (hp' := rH e g q c l) (i := .iload 7) (len := 2) rfl hj rfl rfl rfl]
    rw [n_step (st' := [.int (x4 + x7), .ref 52]) (pc' := 73) (lv' := [(0, .ref 49), (1, .ref 52), (2, .int x2), (3, .int x3), (4, .int x4), (5, .int x5), (7, .int x7)]) (hp' := rH e g q c l) (i := .iadd) (len := 1) rfl hj rfl rfl rfl]
    rw [n_cal (st' := [.int (c 52 ((x4 + x7)).toNatClampNeg)]) rfl hj (ald_52 hz0)]
    rw [n_step (st' := [.ref 49, .int (c 52 ((x4 + x7)).toNatClampNeg)]) (pc' := 75) (lv' := [(0, .ref 49), (1, .ref 52), (2, .int x2), (3, .int x3), (4, .int x4), (5, .int x5), (7, .int x7)]) (hp' := rH e g q c l) (i := .aload_n 0) (len := 1) rfl hj rfl rfl rfl]
    rw [n_get (st' := [.ref 51, .int (c 52 ((x4 + x7)).toNatClampNeg)]) (pc' := 78) (lv' := [(0, .ref 49), (1, .ref 52), (2, .int x2), (3, .int x3), (4, .int x4), (5, .int x5), (7, .int x7)]) (hp' := rH e g q c l) (i := .getfield 13) (len := 3) rfl hj rfl rfl rfl rfl]
    rw [n_step (st' := [.ref 49, .ref 51, .int (c 52 ((x4 + x7)).toNatClampNeg)]) (pc' := 79) (lv' := [(0, .ref 49), (1, .ref 52), (2, .int x2), (3, .int x3), (4, .int x4), (5, .int x5), (7, .int x7)]) (hp' := rH e g q c l) (i := .aload_n 0) (len := 1) rfl hj rfl rfl rfl]
    rw [n_get (st' := [.int (g 11), .ref 51, .int (c 52 ((x4 + x7)).toNatClampNeg)]) (pc' := 82) (lv' := [(0, .ref 49), (1, .ref 52), (2, .int x2), (3, .int x3), (4, .int x4), (5, .int x5), (7, .int x7)]) (hp' := rH e g q c l) (i := .getfield 257) (len := 3) rfl hj rfl rfl rfl rfl]
    rw [n_step (st' := [.int x7, .int (g 11), .ref 51, .int (c 52 ((x4 + x7)).toNatClampNeg)]) (pc' := 84) (lv' := [(0, .ref 49), (1, .ref 52), (2, .int x2), (3, .int x3), (4, .int x4), (5, .int x5), (7, .int x7)]) (hp' := rH e g q c l) (i := .iload 7) (len := 2) rfl hj rfl rfl rfl]
    rw [n_step (st' := [.int ((g 11) + x7), .ref 51, .int (c 52 ((x4 + x7)).toNatClampNeg)]) (pc' := 85) (lv' := [(0, .ref 49), (1, .ref 52), (2, .int x2), (3, .int x3), (4, .int x4), (5, .int x5), (7, .int x7)]) (hp' := rH e g q c l) (i := .iadd) (len := 1) rfl hj rfl rfl rfl]
    rw [n_ial (st' := [.int (c 51 (((g 11) + x7)).toNatClampNeg), .int (c 52 ((x4 + x7)).toNatClampNeg)]) rfl hj (ald_51 hz1)]
    rw [n_step (st' := []) (pc' := (if xCn .ne ((c 52 ((x4 + x7)).toNatClampNeg)) ((c 51 (((g 11) + x7)).toNatClampNeg)) = true then 93 else 89)) (lv' := [(0, .ref 49), (1, .ref 52), (2, .int x2), (3, .int x3), (4, .int x4), (5, .int x5), (7, .int x7)]) (hp' := rH e g q c l) (i := .if_icmp .ne 7) (len := 3) rfl hj rfl rfl rfl]
  by_cases hc : xCn .ne ((c 52 ((x4 + x7)).toNatClampNeg)) ((c 51 (((g 11) + x7)).toNatClampNeg)) = true
  · obtain ⟨f, h⟩ := h1 hc
    refine ⟨f + 13, ?_⟩
    rw [key, if_pos hc]
    exact h
  · obtain ⟨f, h⟩ := h2 hc
    refine ⟨f + 13, ?_⟩
    rw [key, if_neg hc]
    exact h
set_option maxRecDepth 100000 in
set_option maxHeartbeats 4000000 in
theorem bk_329s52_89 {b : Bool} {d : Nat} {x2 x3 x4 x5 x7 : Int32} {e : Nat → x_E} {g : Nat → Int32} {q : Nat → Int64} {c : Nat → Nat → Int32} {l : Nat → Nat → Int64} {R : Option Value × List x_E} (h : rr b e d 329 94 [(0, .ref 49), (1, .ref 52), (2, .int x2), (3, .int x3), (4, .int x4), (5, .int x5), (7, .int x7)] [.int (Int32.ofInt (1))] g q c l R) : rr b e d 329 89 [(0, .ref 49), (1, .ref 52), (2, .int x2), (3, .int x3), (4, .int x4), (5, .int x5), (7, .int x7)] [] g q c l R := by
  obtain ⟨f, h⟩ := h
  refine ⟨f + 2, ?_⟩
  obtain ⟨y, cb, hj⟩ := mq_329
  rw [n_step (st' := [.int (Int32.ofInt (1))]) (pc' := 90) (lv' := [(0, .ref 49), (1, .ref 52), (2, .int x2), (3, .int x3), (4, .int x4), (5, .int x5), (7, .int x7)]) (hp' := rH e g q c l) (i := .iconst 1) (len := 1) rfl hj rfl rfl rfl]
  rw [n_step (st' := [.int (Int32.ofInt (1))]) (pc' := 94) (lv' := [(0, .ref 49), (1, .ref 52), (2, .int x2), (3, .int x3), (4, .int x4), (5, .int x5), (7, .int x7)]) (hp' := rH e g q c l) (i := .goto 4) (len := 3) rfl hj rfl rfl rfl]
  exact h
