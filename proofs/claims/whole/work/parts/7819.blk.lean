set_option maxRecDepth 100000 in
set_option maxHeartbeats 4000000 in
theorem bk_403_36 {b : Bool} {d : Nat} {x1 x2 : Int32} {e : Nat → x_E} {g : Nat → Int32} {q : Nat → Int64} {c : Nat → Nat → Int32} {l : Nat → Nat → Int64} {g' : Nat → Int32} {q' : Nat → Int64} {c' : Nat → Nat → Int32} {l' : Nat → Nat → Int64} {R : Option Value × List x_E} (hc : rr b e d 340 0 [(0, .ref 49)] [] g q c l (none, rH e g' q' c' l')) (h : rr b e (d + 1) 403 40 [(0, .ref 49), (1, .int x1), (2, .int x2)] [] g' q' c' l' R) : rr b e (d + 1) 403 36 [(0, .ref 49), (1, .int x1), (2, .int x2)] [] g q c l R := by
  obtain ⟨f1, hc⟩ := hc
  obtain ⟨f2, h⟩ := h
  obtain ⟨f, hf1, hf2⟩ : ∃ f, f1 ≤ f ∧ f2 ≤ f := ⟨max f1 f2, Nat.le_max_left _ _, Nat.le_max_right _ _⟩
  have hc := nrun_fuel f1 f _ _ _ _ _ _ _ _ _ hf1 hc
  have h := nrun_fuel f2 f _ _ _ _ _ _ _ _ _ hf2 h
  refine ⟨f + 2, ?_⟩
  obtain ⟨y, cb, hj⟩ := mq_403
  rw [n_step (st' := [.ref 49]) (pc' := 37) (lv' := [(0, .ref 49), (1, .int x1), (2, .int x2)]) (hp' := rH e g q c l) (i := .aload_n 0) (len := 1) rfl hj rfl rfl rfl]
  obtain ⟨y2, cb2, hj2⟩ := mq_340
  rw [n_call (f := f) (d := d) (ki := 0) (idx := 356) (j' := 340) (kd := 0) (M' := (y2, cb2, 1, none, 12, 0, 0, 0)) (avs := [.ref 49]) (r := []) (rv := none) (hp1 := rH e g' q' c' l') rfl hj rfl rfl rfl rfl (rq_n rfl rfl hj2 rfl rfl) rfl hc (Nat.le_of_ble_eq_true rfl)]
  exact h
set_option maxRecDepth 100000 in
set_option maxHeartbeats 4000000 in
theorem bk_403_40 {b : Bool} {d : Nat} {x1 x2 : Int32} {e : Nat → x_E} {g : Nat → Int32} {q : Nat → Int64} {c : Nat → Nat → Int32} {l : Nat → Nat → Int64} {R : Option Value × List x_E} (h : rr b e d 403 42 [(0, .ref 49), (1, .int x1), (2, .int x2), (3, .int (Int32.ofInt (1)))] [] g q c l R) : rr b e d 403 40 [(0, .ref 49), (1, .int x1), (2, .int x2)] [] g q c l R := by
  obtain ⟨f, h⟩ := h
  refine ⟨f + 2, ?_⟩
  obtain ⟨y, cb, hj⟩ := mq_403
  rw [n_step (st' := [.int (Int32.ofInt (1))]) (pc' := 41) (lv' := [(0, .ref 49), (1, .int x1), (2, .int x2)]) (hp' := rH e g q c l) (i := .iconst 1) (len := 1) rfl hj rfl rfl rfl]
  rw [n_step (st' := []) (pc' := 42) (lv' := [(3, .int (Int32.ofInt (1))), (0, .ref 49), (1, .int x1), (2, .int x2)]) (hp' := rH e g q c l) (i := .istore_n 3) (len := 1) rfl hj rfl rfl rfl]
  exact nrun_ext f f _ _ R 403 42 [(0, .ref 49), (1, .int x1), (2, .int x2), (3, .int (Int32.ofInt (1)))] [(3, .int (Int32.ofInt (1))), (0, .ref 49), (1, .int x1), (2, .int x2)] [] _ 0 0 122 (Nat.le_refl _) (Nat.le_refl _) (Nat.le_of_ble_eq_true rfl) (lvR_mk [0, 1, 2, 3] [3, 0, 1, 2] rfl rfl (by decide) (by decide) (List.forall_mem_cons.mpr ⟨(List.mem_cons_of_mem _ List.mem_cons_self), (List.forall_mem_cons.mpr ⟨(List.mem_cons_of_mem _ (List.mem_cons_of_mem _ List.mem_cons_self)), (List.forall_mem_cons.mpr ⟨(List.mem_cons_of_mem _ (List.mem_cons_of_mem _ (List.mem_cons_of_mem _ List.mem_cons_self))), (List.forall_mem_cons.mpr ⟨List.mem_cons_self, (fun _ h => nomatch h)⟩)⟩)⟩)⟩) (List.forall_mem_cons.mpr ⟨Or.inl (List.mem_cons_of_mem _ (List.mem_cons_of_mem _ (List.mem_cons_of_mem _ List.mem_cons_self))), (List.forall_mem_cons.mpr ⟨Or.inl List.mem_cons_self, (List.forall_mem_cons.mpr ⟨Or.inl (List.mem_cons_of_mem _ List.mem_cons_self), (List.forall_mem_cons.mpr ⟨Or.inl (List.mem_cons_of_mem _ (List.mem_cons_of_mem _ List.mem_cons_self)), (fun _ h => nomatch h)⟩)⟩)⟩)⟩)) h
set_option maxRecDepth 100000 in
set_option maxHeartbeats 4000000 in
theorem bk_403_42 {b : Bool} {d : Nat} {x1 x2 x3 : Int32} {e : Nat → x_E} {g : Nat → Int32} {q : Nat → Int64} {c : Nat → Nat → Int32} {l : Nat → Nat → Int64} {R : Option Value × List x_E} (h1 : xCn .eq x3 0 = true → rr b e d 403 221 [(0, .ref 49), (1, .int x1)] [] g q c l R) (h2 : ¬ xCn .eq x3 0 = true → rr b e d 403 46 [(0, .ref 49), (1, .int x1), (2, .int x2)] [] g q c l R) : rr b e d 403 42 [(0, .ref 49), (1, .int x1), (2, .int x2), (3, .int x3)] [] g q c l R := by
  have key : ∀ f, nrun xZ (xY (xfm b)) xDT (f + 2) d 403 42 [(0, .ref 49), (1, .int x1), (2, .int x2), (3, .int x3)] [] (rH e g q c l) 0 0 = nrun xZ (xY (xfm b)) xDT f d 403 (if xCn .eq x3 0 = true then 221 else 46) [(0, .ref 49), (1, .int x1), (2, .int x2), (3, .int x3)] [] (rH e g q c l) 0 0 := by
    intro f
    obtain ⟨y, cb, hj⟩ := mq_403
    rw [n_step (st' := [.int x3]) (pc' := 43) (lv' := [(0, .ref 49), (1, .int x1), (2, .int x2), (3, .int x3)]) (hp' := rH e g q c l) (i := .iload_n 3) (len := 1) rfl hj rfl rfl rfl]
    rw [n_step (st' := []) (pc' := (if xCn .eq x3 0 = true then 221 else 46)) (lv' := [(0, .ref 49), (1, .int x1), (2, .int x2), (3, .int x3)]) (hp' := rH e g q c l) (i := .ifCond .eq 178) (len := 3) rfl hj rfl rfl rfl]
  by_cases hc : xCn .eq x3 0 = true
  · obtain ⟨f, h⟩ := h1 hc
    refine ⟨f + 2, ?_⟩
    rw [key, if_pos hc]
    exact nrun_ext f f _ _ R 403 221 [(0, .ref 49), (1, .int x1)] [(0, .ref 49), (1, .int x1), (2, .int x2), (3, .int x3)] [] _ 0 0 122 (Nat.le_refl _) (Nat.le_refl _) (Nat.le_of_ble_eq_true rfl) (lvR_mk [0, 1] [0, 1, 2, 3] rfl rfl (by decide) (by decide) (List.forall_mem_cons.mpr ⟨List.mem_cons_self, (List.forall_mem_cons.mpr ⟨(List.mem_cons_of_mem _ List.mem_cons_self), (fun _ h => nomatch h)⟩)⟩) (List.forall_mem_cons.mpr ⟨Or.inl List.mem_cons_self, (List.forall_mem_cons.mpr ⟨Or.inl (List.mem_cons_of_mem _ List.mem_cons_self), (List.forall_mem_cons.mpr ⟨Or.inr rfl, (List.forall_mem_cons.mpr ⟨Or.inr rfl, (fun _ h => nomatch h)⟩)⟩)⟩)⟩)) h
  · obtain ⟨f, h⟩ := h2 hc
    refine ⟨f + 2, ?_⟩
    rw [key, if_neg hc]
    exact nrun_ext f f _ _ R 403 46 [(0, .ref 49), (1, .int x1), (2, .int x2)] [(0, .ref 49), (1, .int x1), (2, .int x2), (3, .int x3)] [] _ 0 0 122 (Nat.le_refl _) (Nat.le_refl _) (Nat.le_of_ble_eq_true rfl) (lvR_mk [0, 1, 2] [0, 1, 2, 3] rfl rfl (by decide) (by decide) (List.forall_mem_cons.mpr ⟨List.mem_cons_self, (List.forall_mem_cons.mpr ⟨(List.mem_cons_of_mem _ List.mem_cons_self), (List.forall_mem_cons.mpr ⟨(List.mem_cons_of_mem _ (List.mem_cons_of_mem _ List.mem_cons_self)), (fun _ h => nomatch h)⟩)⟩)⟩) (List.forall_mem_cons.mpr ⟨Or.inl List.mem_cons_self, (List.forall_mem_cons.mpr ⟨Or.inl (List.mem_cons_of_mem _ List.mem_cons_self), (List.forall_mem_cons.mpr ⟨Or.inl (List.mem_cons_of_mem _ (List.mem_cons_of_mem _ List.mem_cons_self)), (List.forall_mem_cons.mpr ⟨Or.inr rfl, (fun _ h => nomatch h)⟩)⟩)⟩)⟩)) h
set_option maxRecDepth 100000 in
set_option maxHeartbeats 4000000 in
theorem bk_403_46 {b : Bool} {d : Nat} {x1 x2 : Int32} {e : Nat → x_E} {g : Nat → Int32} {q : Nat → Int64} {c : Nat → Nat → Int32} {l : Nat → Nat → Int64} {g' : Nat → Int32} {q' : Nat → Int64} {c' : Nat → Nat → Int32} {l' : Nat → Nat → Int64} {v : Int32} {R : Option Value × List x_E} (hc : rr b e d 337 0 [(0, .ref 49)] [] g q c l (some (.int v), rH e g' q' c' l')) (h : rr b e (d + 1) 403 50 [(0, .ref 49), (1, .int x1), (2, .int x2)] [.int v] g' q' c' l' R) : rr b e (d + 1) 403 46 [(0, .ref 49), (1, .int x1), (2, .int x2)] [] g q c l R := by
  obtain ⟨f1, hc⟩ := hc
  obtain ⟨f2, h⟩ := h
  obtain ⟨f, hf1, hf2⟩ : ∃ f, f1 ≤ f ∧ f2 ≤ f := ⟨max f1 f2, Nat.le_max_left _ _, Nat.le_max_right _ _⟩
  have hc := nrun_fuel f1 f _ _ _ _ _ _ _ _ _ hf1 hc
  have h := nrun_fuel f2 f _ _ _ _ _ _ _ _ _ hf2 h
  refine ⟨f + 2, ?_⟩
  obtain ⟨y, cb, hj⟩ := mq_403
  rw [n_step (st' := [.ref 49]) (pc' := 47) (lv' := [(0, .ref 49), (1, .int x1), (2, .int x2)]) (hp' := rH e g q c l) (i := .aload_n 0) (len := 1) rfl hj rfl rfl rfl]
  obtain ⟨y2, cb2, hj2⟩ := mq_337
  rw [n_call (f := f) (d := d) (ki := 0) (idx := 337) (j' := 337) (kd := 0) (M' := (y2, cb2, 1, some .boolean, 12, 0, 0, 0)) (avs := [.ref 49]) (r := []) (rv := some (.int v)) (hp1 := rH e g' q' c' l') rfl hj rfl rfl rfl rfl (rq_n rfl rfl hj2 rfl rfl) rfl hc (Nat.le_of_ble_eq_true rfl)]
  exact h
set_option maxRecDepth 100000 in
set_option maxHeartbeats 4000000 in
theorem bk_403_50 {b : Bool} {d : Nat} {t0 x1 x2 : Int32} {e : Nat → x_E} {g : Nat → Int32} {q : Nat → Int64} {c : Nat → Nat → Int32} {l : Nat → Nat → Int64} {R : Option Value × List x_E} (h1 : xCn .ne t0 0 = true → rr b e d 403 221 [(0, .ref 49), (1, .int x1)] [] g q c l R) (h2 : ¬ xCn .ne t0 0 = true → rr b e d 403 53 [(0, .ref 49), (1, .int x1), (2, .int x2)] [] g q c l R) : rr b e d 403 50 [(0, .ref 49), (1, .int x1), (2, .int x2)] [.int t0] g q c l R := by
  have key : ∀ f, nrun xZ (xY (xfm b)) xDT (f + 1) d 403 50 [(0, .ref 49), (1, .int x1), (2, .int x2)] [.int t0] (rH e g q c l) 0 0 = nrun xZ (xY (xfm b)) xDT f d 403 (if xCn .ne t0 0 = true then 221 else 53) [(0, .ref 49), (1, .int x1), (2, .int x2)] [] (rH e g q c l) 0 0 := by
    intro f
    obtain ⟨y, cb, hj⟩ := mq_403
    rw [n_step (st' := []) (pc' := (if xCn .ne t0 0 = true then 221 else 53)) (lv' := [(0, .ref 49), (1, .int x1), (2, .int x2)]) (hp' := rH e g q c l) (i := .ifCond .ne 171) (len := 3) rfl hj rfl rfl rfl]
  by_cases hc : xCn .ne t0 0 = true
  · obtain ⟨f, h⟩ := h1 hc
    refine ⟨f + 1, ?_⟩
    rw [key, if_pos hc]
    exact nrun_ext f f _ _ R 403 221 [(0, .ref 49), (1, .int x1)] [(0, .ref 49), (1, .int x1), (2, .int x2)] [] _ 0 0 122 (Nat.le_refl _) (Nat.le_refl _) (Nat.le_of_ble_eq_true rfl) (lvR_mk [0, 1] [0, 1, 2] rfl rfl (by decide) (by decide) (List.forall_mem_cons.mpr ⟨List.mem_cons_self, (List.forall_mem_cons.mpr ⟨(List.mem_cons_of_mem _ List.mem_cons_self), (fun _ h => nomatch h)⟩)⟩) (List.forall_mem_cons.mpr ⟨Or.inl List.mem_cons_self, (List.forall_mem_cons.mpr ⟨Or.inl (List.mem_cons_of_mem _ List.mem_cons_self), (List.forall_mem_cons.mpr ⟨Or.inr rfl, (fun _ h => nomatch h)⟩)⟩)⟩)) h
  · obtain ⟨f, h⟩ := h2 hc
    refine ⟨f + 1, ?_⟩
    rw [key, if_neg hc]
    exact h
set_option maxRecDepth 100000 in
set_option maxHeartbeats 4000000 in
theorem bk_403_53 {b : Bool} {d : Nat} {x1 x2 : Int32} {e : Nat → x_E} {g : Nat → Int32} {q : Nat → Int64} {c : Nat → Nat → Int32} {l : Nat → Nat → Int64} {R : Option Value × List x_E} (h1 : xCn .ne x1 ((Int8.ofInt (16)).toInt32) = true → rr b e d 403 76 [(0, .ref 49), (1, .int x1), (2, .int x2)] [] g q c l R) (h2 : ¬ xCn .ne x1 ((Int8.ofInt (16)).toInt32) = true → rr b e d 403 59 [(0, .ref 49), (1, .int x1), (2, .int x2)] [] g q c l R) : rr b e d 403 53 [(0, .ref 49), (1, .int x1), (2, .int x2)] [] g q c l R := by
  have key : ∀ f, nrun xZ (xY (xfm b)) xDT (f + 3) d 403 53 [(0, .ref 49), (1, .int x1), (2, .int x2)] [] (rH e g q c l) 0 0 = nrun xZ (xY (xfm b)) xDT f d 403 (if xCn .ne x1 ((Int8.ofInt (16)).toInt32) = true then 76 else 59) [(0, .ref 49), (1, .int x1), (2, .int x2)] [] (rH e g q c l) 0 0 := by
    intro f
    obtain ⟨y, cb, hj⟩ := mq_403
    rw [n_step (st' := [.int x1]) (pc' := 54) (lv' := [(0, .ref 49), (1, .int x1), (2, .int x2)]) (hp' := rH e g q c l) (i := .iload_n 1) (len := 1) rfl hj rfl rfl rfl]
    rw [n_step (st' := [.int (Int8.ofInt (16)).toInt32, .int x1]) (pc' := 56) (lv' := [(0, .ref 49), (1, .int x1), (2, .int x2)]) (hp' := rH e g q c l) (i := .bipush 16) (len := 2) rfl hj rfl rfl rfl]
    rw [n_step (st' := []) (pc' := (if xCn .ne x1 ((Int8.ofInt (16)).toInt32) = true then 76 else 59)) (lv' := [(0, .ref 49), (1, .int x1), (2, .int x2)]) (hp' := rH e g q c l) (i := .if_icmp .ne 20) (len := 3) rfl hj rfl rfl rfl]
  by_cases hc : xCn .ne x1 ((Int8.ofInt (16)).toInt32) = true
  · obtain ⟨f, h⟩ := h1 hc
    refine ⟨f + 3, ?_⟩
    rw [key, if_pos hc]
    exact h
  · obtain ⟨f, h⟩ := h2 hc
    refine ⟨f + 3, ?_⟩
    rw [key, if_neg hc]
    exact h
set_option maxRecDepth 100000 in
set_option maxHeartbeats 4000000 in
theorem bk_403_59 {b : Bool} {d : Nat} {x1 x2 : Int32} {e : Nat → x_E} {g : Nat → Int32} {q : Nat → Int64} {c : Nat → Nat → Int32} {l : Nat → Nat → Int64} {R : Option Value × List x_E} (h1 : xCn .ne ((g 10)) ((Int32.ofInt (1))) = true → rr b e d 403 76 [(0, .ref 49), (1, .int x1), (2, .int x2)] [] g q c l R) (h2 : ¬ xCn .ne ((g 10)) ((Int32.ofInt (1))) = true → rr b e d 403 67 [(0, .ref 49), (1, .int x1), (2, .int x2)] [] g q c l R) : rr b e d 403 59 [(0, .ref 49), (1, .int x1), (2, .int x2)] [] g q c l R := by
  have key : ∀ f, nrun xZ (xY (xfm b)) xDT (f + 4) d 403 59 [(0, .ref 49), (1, .int x1), (2, .int x2)] [] (rH e g q c l) 0 0 = nrun xZ (xY (xfm b)) xDT f d 403 (if xCn .ne ((g 10)) ((Int32.ofInt (1))) = true then 76 else 67) [(0, .ref 49), (1, .int x1), (2, .int x2)] [] (rH e g q c l) 0 0 := by
    intro f
    obtain ⟨y, cb, hj⟩ := mq_403
    rw [n_step (st' := [.ref 49]) (pc' := 60) (lv' := [(0, .ref 49), (1, .int x1), (2, .int x2)]) (hp' := rH e g q c l) (i := .aload_n 0) (len := 1) rfl hj rfl rfl rfl]
    rw [n_get (st' := [.int (g 10)]) (pc' := 63) (lv' := [(0, .ref 49), (1, .int x1), (2, .int x2)]) (hp' := rH e g q c l) (i := .getfield 273) (len := 3) rfl hj rfl rfl rfl rfl]
    rw [n_step (st' := [.int (Int32.ofInt (1)), .int (g 10)]) (pc' := 64) (lv' := [(0, .ref 49), (1, .int x1), (2, .int x2)]) (hp' := rH e g q c l) (i := .iconst 1) (len := 1) rfl hj rfl rfl rfl]
    rw [n_step (st' := []) (pc' := (if xCn .ne ((g 10)) ((Int32.ofInt (1))) = true then 76 else 67)) (lv' := [(0, .ref 49), (1, .int x1), (2, .int x2)]) (hp' := rH e g q c l) (i := .if_icmp .ne 12) (len := 3) rfl hj rfl rfl rfl]
  by_cases hc : xCn .ne ((g 10)) ((Int32.ofInt (1))) = true
  · obtain ⟨f, h⟩ := h1 hc
    refine ⟨f + 4, ?_⟩
    rw [key, if_pos hc]
    exact h
  · obtain ⟨f, h⟩ := h2 hc
    refine ⟨f + 4, ?_⟩
    rw [key, if_neg hc]
    exact h
set_option maxRecDepth 100000 in
set_option maxHeartbeats 4000000 in
theorem bk_403_67 {b : Bool} {d : Nat} {x1 x2 : Int32} {e : Nat → x_E} {g : Nat → Int32} {q : Nat → Int64} {c : Nat → Nat → Int32} {l : Nat → Nat → Int64} {g' : Nat → Int32} {q' : Nat → Int64} {c' : Nat → Nat → Int32} {l' : Nat → Nat → Int64} {R : Option Value × List x_E} (hc : rr b e d 323 0 [(0, .ref 49), (1, .int (Int32.ofInt (2))), (2, .int (g 11))] [] g q c l (none, rH e g' q' c' l')) (h : rr b e (d + 1) 403 76 [(0, .ref 49), (1, .int x1), (2, .int x2)] [] g' q' c' l' R) : rr b e (d + 1) 403 67 [(0, .ref 49), (1, .int x1), (2, .int x2)] [] g q c l R := by
  obtain ⟨f1, hc⟩ := hc
  obtain ⟨f2, h⟩ := h
  obtain ⟨f, hf1, hf2⟩ : ∃ f, f1 ≤ f ∧ f2 ≤ f := ⟨max f1 f2, Nat.le_max_left _ _, Nat.le_max_right _ _⟩
  have hc := nrun_fuel f1 f _ _ _ _ _ _ _ _ _ hf1 hc
  have h := nrun_fuel f2 f _ _ _ _ _ _ _ _ _ hf2 h
  refine ⟨f + 5, ?_⟩
  obtain ⟨y, cb, hj⟩ := mq_403
  rw [n_step (st' := [.ref 49]) (pc' := 68) (lv' := [(0, .ref 49), (1, .int x1), (2, .int x2)]) (hp' := rH e g q c l) (i := .aload_n 0) (len := 1) rfl hj rfl rfl rfl]
  rw [n_step (st' := [.int (Int32.ofInt (2)), .ref 49]) (pc' := 69) (lv' := [(0, .ref 49), (1, .int x1), (2, .int x2)]) (hp' := rH e g q c l) (i := .iconst 2) (len := 1) rfl hj rfl rfl rfl]
  rw [n_step (st' := [.ref 49, .int (Int32.ofInt (2)), .ref 49]) (pc' := 70) (lv' := [(0, .ref 49), (1, .int x1), (2, .int x2)]) (hp' := rH e g q c l) (i := .aload_n 0) (len := 1) rfl hj rfl rfl rfl]
  rw [n_get (st' := [.int (g 11), .int (Int32.ofInt (2)), .ref 49]) (pc' := 73) (lv' := [(0, .ref 49), (1, .int x1), (2, .int x2)]) (hp' := rH e g q c l) (i := .getfield 257) (len := 3) rfl hj rfl rfl rfl rfl]
  obtain ⟨y2, cb2, hj2⟩ := mq_323
  rw [n_call (f := f) (d := d) (ki := 0) (idx := 260) (j' := 323) (kd := 0) (M' := (y2, cb2, 3, none, 12, 2, 0, 0)) (avs := [.ref 49, .int (Int32.ofInt (2)), .int (g 11)]) (r := []) (rv := none) (hp1 := rH e g' q' c' l') rfl hj rfl rfl rfl rfl (rq_n rfl rfl hj2 rfl rfl) rfl hc (Nat.le_of_ble_eq_true rfl)]
  exact h
set_option maxRecDepth 100000 in
set_option maxHeartbeats 4000000 in
theorem bk_403_76 {b : Bool} {d : Nat} {x1 x2 : Int32} {e : Nat → x_E} {g : Nat → Int32} {q : Nat → Int64} {c : Nat → Nat → Int32} {l : Nat → Nat → Int64} {g' : Nat → Int32} {q' : Nat → Int64} {c' : Nat → Nat → Int32} {l' : Nat → Nat → Int64} {R : Option Value × List x_E} (hc : rr b e d 341 0 [(0, .ref 49)] [] g q c l (none, rH e g' q' c' l')) (h : rr b e (d + 1) 403 80 [(0, .ref 49), (1, .int x1), (2, .int x2)] [] g' q' c' l' R) : rr b e (d + 1) 403 76 [(0, .ref 49), (1, .int x1), (2, .int x2)] [] g q c l R := by
  obtain ⟨f1, hc⟩ := hc
  obtain ⟨f2, h⟩ := h
  obtain ⟨f, hf1, hf2⟩ : ∃ f, f1 ≤ f ∧ f2 ≤ f := ⟨max f1 f2, Nat.le_max_left _ _, Nat.le_max_right _ _⟩
  have hc := nrun_fuel f1 f _ _ _ _ _ _ _ _ _ hf1 hc
  have h := nrun_fuel f2 f _ _ _ _ _ _ _ _ _ hf2 h
  refine ⟨f + 2, ?_⟩
  obtain ⟨y, cb, hj⟩ := mq_403
  rw [n_step (st' := [.ref 49]) (pc' := 77) (lv' := [(0, .ref 49), (1, .int x1), (2, .int x2)]) (hp' := rH e g q c l) (i := .aload_n 0) (len := 1) rfl hj rfl rfl rfl]
  obtain ⟨y2, cb2, hj2⟩ := mq_341
  rw [n_call (f := f) (d := d) (ki := 0) (idx := 411) (j' := 341) (kd := 0) (M' := (y2, cb2, 1, none, 12, 0, 0, 0)) (avs := [.ref 49]) (r := []) (rv := none) (hp1 := rH e g' q' c' l') rfl hj rfl rfl rfl rfl (rq_n rfl rfl hj2 rfl rfl) rfl hc (Nat.le_of_ble_eq_true rfl)]
  exact h
set_option maxRecDepth 100000 in
set_option maxHeartbeats 4000000 in
theorem bk_403_80 {b : Bool} {d : Nat} {x1 x2 : Int32} {e : Nat → x_E} {g : Nat → Int32} {q : Nat → Int64} {c : Nat → Nat → Int32} {l : Nat → Nat → Int64} {g' : Nat → Int32} {q' : Nat → Int64} {c' : Nat → Nat → Int32} {l' : Nat → Nat → Int64} {v : Int32} {R : Option Value × List x_E} (hc : rr b e d 337 0 [(0, .ref 49)] [] g q c l (some (.int v), rH e g' q' c' l')) (h : rr b e (d + 1) 403 84 [(0, .ref 49), (1, .int x1), (2, .int x2)] [.int v] g' q' c' l' R) : rr b e (d + 1) 403 80 [(0, .ref 49), (1, .int x1), (2, .int x2)] [] g q c l R := by
  obtain ⟨f1, hc⟩ := hc
  obtain ⟨f2, h⟩ := h
  obtain ⟨f, hf1, hf2⟩ : ∃ f, f1 ≤ f ∧ f2 ≤ f := ⟨max f1 f2, Nat.le_max_left _ _, Nat.le_max_right _ _⟩
  have hc := nrun_fuel f1 f _ _ _ _ _ _ _ _ _ hf1 hc
  have h := nrun_fuel f2 f _ _ _ _ _ _ _ _ _ hf2 h
  refine ⟨f + 2, ?_⟩
  obtain ⟨y, cb, hj⟩ := mq_403
  rw [n_step (st' := [.ref 49]) (pc' := 81) (lv' := [(0, .ref 49), (1, .int x1), (2, .int x2)]) (hp' := rH e g q c l) (i := .aload_n 0) (len := 1) rfl hj rfl rfl rfl]
  obtain ⟨y2, cb2, hj2⟩ := mq_337
  rw [n_call (f := f) (d := d) (ki := 0) (idx := 337) (j' := 337) (kd := 0) (M' := (y2, cb2, 1, some .boolean, 12, 0, 0, 0)) (avs := [.ref 49]) (r := []) (rv := some (.int v)) (hp1 := rH e g' q' c' l') rfl hj rfl rfl rfl rfl (rq_n rfl rfl hj2 rfl rfl) rfl hc (Nat.le_of_ble_eq_true rfl)]
  exact h
set_option maxRecDepth 100000 in
set_option maxHeartbeats 4000000 in
theorem bk_403_84 {b : Bool} {d : Nat} {t0 x1 x2 : Int32} {e : Nat → x_E} {g : Nat → Int32} {q : Nat → Int64} {c : Nat → Nat → Int32} {l : Nat → Nat → Int64} {R : Option Value × List x_E} (h1 : xCn .eq t0 0 = true → rr b e d 403 89 [(0, .ref 49), (1, .int x1), (2, .int x2)] [] g q c l R) (h2 : ¬ xCn .eq t0 0 = true → rr b e d 403 87 [(1, .int x1)] [] g q c l R) : rr b e d 403 84 [(0, .ref 49), (1, .int x1), (2, .int x2)] [.int t0] g q c l R := by
  have key : ∀ f, nrun xZ (xY (xfm b)) xDT (f + 1) d 403 84 [(0, .ref 49), (1, .int x1), (2, .int x2)] [.int t0] (rH e g q c l) 0 0 = nrun xZ (xY (xfm b)) xDT f d 403 (if xCn .eq t0 0 = true then 89 else 87) [(0, .ref 49), (1, .int x1), (2, .int x2)] [] (rH e g q c l) 0 0 := by
    intro f
    obtain ⟨y, cb, hj⟩ := mq_403
    rw [n_step (st' := []) (pc' := (if xCn .eq t0 0 = true then 89 else 87)) (lv' := [(0, .ref 49), (1, .int x1), (2, .int x2)]) (hp' := rH e g q c l) (i := .ifCond .eq 5) (len := 3) rfl hj rfl rfl rfl]
  by_cases hc : xCn .eq t0 0 = true
  · obtain ⟨f, h⟩ := h1 hc
    refine ⟨f + 1, ?_⟩
    rw [key, if_pos hc]
    exact h
  · obtain ⟨f, h⟩ := h2 hc
    refine ⟨f + 1, ?_⟩
    rw [key, if_neg hc]
    exact nrun_ext f f _ _ R 403 87 [(1, .int x1)] [(0, .ref 49), (1, .int x1), (2, .int x2)] [] _ 0 0 122 (Nat.le_refl _) (Nat.le_refl _) (Nat.le_of_ble_eq_true rfl) (lvR_mk [1] [0, 1, 2] rfl rfl (by decide) (by decide) (List.forall_mem_cons.mpr ⟨(List.mem_cons_of_mem _ List.mem_cons_self), (fun _ h => nomatch h)⟩) (List.forall_mem_cons.mpr ⟨Or.inr rfl, (List.forall_mem_cons.mpr ⟨Or.inl List.mem_cons_self, (List.forall_mem_cons.mpr ⟨Or.inr rfl, (fun _ h => nomatch h)⟩)⟩)⟩)) h
set_option maxRecDepth 100000 in
set_option maxHeartbeats 4000000 in
theorem bk_403_87 {b : Bool} {d : Nat} {x1 : Int32} {e : Nat → x_E} {g : Nat → Int32} {q : Nat → Int64} {c : Nat → Nat → Int32} {l : Nat → Nat → Int64} : rr b e d 403 87 [(1, .int x1)] [] g q c l (some (.int x1), rH e g q c l) := by
  refine ⟨0 + 2, ?_⟩
  obtain ⟨y, cb, hj⟩ := mq_403
  rw [n_step (st' := [.int x1]) (pc' := 88) (lv' := [(1, .int x1)]) (hp' := rH e g q c l) (i := .iload_n 1) (len := 1) rfl hj rfl rfl rfl]
  exact n_ret rfl hj rfl rfl (x_ret rfl)
set_option maxRecDepth 100000 in
set_option maxHeartbeats 4000000 in
theorem bk_403_89 {b : Bool} {d : Nat} {x1 x2 : Int32} {e : Nat → x_E} {g : Nat → Int32} {q : Nat → Int64} {c : Nat → Nat → Int32} {l : Nat → Nat → Int64} {R : Option Value × List x_E} (h : rr b e d 403 95 [(0, .ref 49), (1, .int x1), (2, .int x2), (4, .int (Int32.ofInt (0))), (5, .int x2)] [] g q c l R) : rr b e d 403 89 [(0, .ref 49), (1, .int x1), (2, .int x2)] [] g q c l R := by
  obtain ⟨f, h⟩ := h
  refine ⟨f + 4, ?_⟩
  obtain ⟨y, cb, hj⟩ := mq_403
  rw [n_step (st' := [.int (Int32.ofInt (0))]) (pc' := 90) (lv' := [(0, .ref 49), (1, .int x1), (2, .int x2)]) (hp' := rH e g q c l) (i := .iconst 0) (len := 1) rfl hj rfl rfl rfl]
  rw [n_step (st' := []) (pc' := 92) (lv' := [(4, .int (Int32.ofInt (0))), (0, .ref 49), (1, .int x1), (2, .int x2)]) (hp' := rH e g q c l) (i := .istore 4) (len := 2) rfl hj rfl rfl rfl]
  rw [n_step (st' := [.int x2]) (pc' := 93) (lv' := [(4, .int (Int32.ofInt (0))), (0, .ref 49), (1, .int x1), (2, .int x2)]) (hp' := rH e g q c l) (i := .iload_n 2) (len := 1) rfl hj rfl rfl rfl]
  rw [n_step (st' := []) (pc' := 95) (lv' := [(5, .int x2), (4, .int (Int32.ofInt (0))), (0, .ref 49), (1, .int x1), (2, .int x2)]) (hp' := rH e g q c l) (i := .istore 5) (len := 2) rfl hj rfl rfl rfl]
  exact nrun_ext f f _ _ R 403 95 [(0, .ref 49), (1, .int x1), (2, .int x2), (4, .int (Int32.ofInt (0))), (5, .int x2)] [(5, .int x2), (4, .int (Int32.ofInt (0))), (0, .ref 49), (1, .int x1), (2, .int x2)] [] _ 0 0 122 (Nat.le_refl _) (Nat.le_refl _) (Nat.le_of_ble_eq_true rfl) (lvR_mk [0, 1, 2, 4, 5] [5, 4, 0, 1, 2] rfl rfl (by decide) (by decide) (List.forall_mem_cons.mpr ⟨(List.mem_cons_of_mem _ (List.mem_cons_of_mem _ List.mem_cons_self)), (List.forall_mem_cons.mpr ⟨(List.mem_cons_of_mem _ (List.mem_cons_of_mem _ (List.mem_cons_of_mem _ List.mem_cons_self))), (List.forall_mem_cons.mpr ⟨(List.mem_cons_of_mem _ (List.mem_cons_of_mem _ (List.mem_cons_of_mem _ (List.mem_cons_of_mem _ List.mem_cons_self)))), (List.forall_mem_cons.mpr ⟨(List.mem_cons_of_mem _ List.mem_cons_self), (List.forall_mem_cons.mpr ⟨List.mem_cons_self, (fun _ h => nomatch h)⟩)⟩)⟩)⟩)⟩) (List.forall_mem_cons.mpr ⟨Or.inl (List.mem_cons_of_mem _ (List.mem_cons_of_mem _ (List.mem_cons_of_mem _ (List.mem_cons_of_mem _ List.mem_cons_self)))), (List.forall_mem_cons.mpr ⟨Or.inl (List.mem_cons_of_mem _ (List.mem_cons_of_mem _ (List.mem_cons_of_mem _ List.mem_cons_self))), (List.forall_mem_cons.mpr ⟨Or.inl List.mem_cons_self, (List.forall_mem_cons.mpr ⟨Or.inl (List.mem_cons_of_mem _ List.mem_cons_self), (List.forall_mem_cons.mpr ⟨Or.inl (List.mem_cons_of_mem _ (List.mem_cons_of_mem _ List.mem_cons_self)), (fun _ h => nomatch h)⟩)⟩)⟩)⟩)⟩)) h
set_option maxRecDepth 100000 in
set_option maxHeartbeats 4000000 in
theorem bk_403_95 {b : Bool} {d : Nat} {x1 x2 x4 x5 : Int32} {e : Nat → x_E} {g : Nat → Int32} {q : Nat → Int64} {c : Nat → Nat → Int32} {l : Nat → Nat → Int64} {R : Option Value × List x_E} (h1 : xCn .ge x5 ((g 96)) = true → rr b e d 403 151 [(0, .ref 49), (1, .int x1), (2, .int x2), (4, .int x4)] [] g q c l R) (h2 : ¬ xCn .ge x5 ((g 96)) = true → rr b e d 403 104 [(0, .ref 49), (1, .int x1), (2, .int x2), (4, .int x4), (5, .int x5)] [] g q c l R) : rr b e d 403 95 [(0, .ref 49), (1, .int x1), (2, .int x2), (4, .int x4), (5, .int x5)] [] g q c l R := by
  have key : ∀ f, nrun xZ (xY (xfm b)) xDT (f + 4) d 403 95 [(0, .ref 49), (1, .int x1), (2, .int x2), (4, .int x4), (5, .int x5)] [] (rH e g q c l) 0 0 = nrun xZ (xY (xfm b)) xDT f d 403 (if xCn .ge x5 ((g 96)) = true then 151 else 104) [(0, .ref 49), (1, .int x1), (2, .int x2), (4, .int x4), (5, .int x5)] [] (rH e g q c l) 0 0 := by
    intro f
    obtain ⟨y, cb, hj⟩ := mq_403
    rw [n_step (st' := [.int x5]) (pc' := 97) (lv' := [(0, .ref 49), (1, .int x1), (2, .int x2), (4, .int x4), (5, .int x5)]) (hp' := rH e g q c l) (i := .iload 5) (len := 2) rfl hj rfl rfl rfl]
    rw [n_step (st' := [.ref 49, .int x5]) (pc' := 98) (lv' := [(0, .ref 49), (1, .int x1), (2, .int x2), (4, .int x4), (5, .int x5)]) (hp' := rH e g q c l) (i := .aload_n 0) (len := 1) rfl hj rfl rfl rfl]
    rw [n_get (st' := [.int (g 96), .int x5]) (pc' := 101) (lv' := [(0, .ref 49), (1, .int x1), (2, .int x2), (4, .int x4), (5, .int x5)]) (hp' := rH e g q c l) (i := .getfield 685) (len := 3) rfl hj rfl rfl rfl rfl]
    rw [n_step (st' := []) (pc' := (if xCn .ge x5 ((g 96)) = true then 151 else 104)) (lv' := [(0, .ref 49), (1, .int x1), (2, .int x2), (4, .int x4), (5, .int x5)]) (hp' := rH e g q c l) (i := .if_icmp .ge 50) (len := 3) rfl hj rfl rfl rfl]
  by_cases hc : xCn .ge x5 ((g 96)) = true
  · obtain ⟨f, h⟩ := h1 hc
    refine ⟨f + 4, ?_⟩
    rw [key, if_pos hc]
    exact nrun_ext f f _ _ R 403 151 [(0, .ref 49), (1, .int x1), (2, .int x2), (4, .int x4)] [(0, .ref 49), (1, .int x1), (2, .int x2), (4, .int x4), (5, .int x5)] [] _ 0 0 122 (Nat.le_refl _) (Nat.le_refl _) (Nat.le_of_ble_eq_true rfl) (lvR_mk [0, 1, 2, 4] [0, 1, 2, 4, 5] rfl rfl (by decide) (by decide) (List.forall_mem_cons.mpr ⟨List.mem_cons_self, (List.forall_mem_cons.mpr ⟨(List.mem_cons_of_mem _ List.mem_cons_self), (List.forall_mem_cons.mpr ⟨(List.mem_cons_of_mem _ (List.mem_cons_of_mem _ List.mem_cons_self)), (List.forall_mem_cons.mpr ⟨(List.mem_cons_of_mem _ (List.mem_cons_of_mem _ (List.mem_cons_of_mem _ List.mem_cons_self))), (fun _ h => nomatch h)⟩)⟩)⟩)⟩) (List.forall_mem_cons.mpr ⟨Or.inl List.mem_cons_self, (List.forall_mem_cons.mpr ⟨Or.inl (List.mem_cons_of_mem _ List.mem_cons_self), (List.forall_mem_cons.mpr ⟨Or.inl (List.mem_cons_of_mem _ (List.mem_cons_of_mem _ List.mem_cons_self)), (List.forall_mem_cons.mpr ⟨Or.inl (List.mem_cons_of_mem _ (List.mem_cons_of_mem _ (List.mem_cons_of_mem _ List.mem_cons_self))), (List.forall_mem_cons.mpr ⟨Or.inr rfl, (fun _ h => nomatch h)⟩)⟩)⟩)⟩)⟩)) h
  · obtain ⟨f, h⟩ := h2 hc
    refine ⟨f + 4, ?_⟩
    rw [key, if_neg hc]
    exact h
set_option maxRecDepth 100000 in
set_option maxHeartbeats 4000000 in
theorem bk_403_104 {b : Bool} {d : Nat} {x1 x2 x4 x5 : Int32} {e : Nat → x_E} {g : Nat → Int32} {q : Nat → Int64} {c : Nat → Nat → Int32} {l : Nat → Nat → Int64} {R : Option Value × List x_E} (h1 : xCn .ne x4 0 = true → rr b e d 403 138 [(0, .ref 49), (1, .int x1), (2, .int x2), (5, .int x5)] [] g q c l R) (h2 : ¬ xCn .ne x4 0 = true → rr b e d 403 109 [(0, .ref 49), (1, .int x1), (2, .int x2), (5, .int x5)] [] g q c l R) : rr b e d 403 104 [(0, .ref 49), (1, .int x1), (2, .int x2), (4, .int x4), (5, .int x5)] [] g q c l R := by
  have key : ∀ f, nrun xZ (xY (xfm b)) xDT (f + 2) d 403 104 [(0, .ref 49), (1, .int x1), (2, .int x2), (4, .int x4), (5, .int x5)] [] (rH e g q c l) 0 0 = nrun xZ (xY (xfm b)) xDT f d 403 (if xCn .ne x4 0 = true then 138 else 109) [(0, .ref 49), (1, .int x1), (2, .int x2), (4, .int x4), (5, .int x5)] [] (rH e g q c l) 0 0 := by
    intro f
    obtain ⟨y, cb, hj⟩ := mq_403
    rw [n_step (st' := [.int x4]) (pc' := 106) (lv' := [(0, .ref 49), (1, .int x1), (2, .int x2), (4, .int x4), (5, .int x5)]) (hp' := rH e g q c l) (i := .iload 4) (len := 2) rfl hj rfl rfl rfl]
    rw [n_step (st' := []) (pc' := (if xCn .ne x4 0 = true then 138 else 109)) (lv' := [(0, .ref 49), (1, .int x1), (2, .int x2), (4, .int x4), (5, .int x5)]) (hp' := rH e g q c l) (i := .ifCond .ne 32) (len := 3) rfl hj rfl rfl rfl]
  by_cases hc : xCn .ne x4 0 = true
  · obtain ⟨f, h⟩ := h1 hc
    refine ⟨f + 2, ?_⟩
    rw [key, if_pos hc]
    exact nrun_ext f f _ _ R 403 138 [(0, .ref 49), (1, .int x1), (2, .int x2), (5, .int x5)] [(0, .ref 49), (1, .int x1), (2, .int x2), (4, .int x4), (5, .int x5)] [] _ 0 0 122 (Nat.le_refl _) (Nat.le_refl _) (Nat.le_of_ble_eq_true rfl) (lvR_mk [0, 1, 2, 5] [0, 1, 2, 4, 5] rfl rfl (by decide) (by decide) (List.forall_mem_cons.mpr ⟨List.mem_cons_self, (List.forall_mem_cons.mpr ⟨(List.mem_cons_of_mem _ List.mem_cons_self), (List.forall_mem_cons.mpr ⟨(List.mem_cons_of_mem _ (List.mem_cons_of_mem _ List.mem_cons_self)), (List.forall_mem_cons.mpr ⟨(List.mem_cons_of_mem _ (List.mem_cons_of_mem _ (List.mem_cons_of_mem _ (List.mem_cons_of_mem _ List.mem_cons_self)))), (fun _ h => nomatch h)⟩)⟩)⟩)⟩) (List.forall_mem_cons.mpr ⟨Or.inl List.mem_cons_self, (List.forall_mem_cons.mpr ⟨Or.inl (List.mem_cons_of_mem _ List.mem_cons_self), (List.forall_mem_cons.mpr ⟨Or.inl (List.mem_cons_of_mem _ (List.mem_cons_of_mem _ List.mem_cons_self)), (List.forall_mem_cons.mpr ⟨Or.inr rfl, (List.forall_mem_cons.mpr ⟨Or.inl (List.mem_cons_of_mem _ (List.mem_cons_of_mem _ (List.mem_cons_of_mem _ List.mem_cons_self))), (fun _ h => nomatch h)⟩)⟩)⟩)⟩)⟩)) h
  · obtain ⟨f, h⟩ := h2 hc
    refine ⟨f + 2, ?_⟩
    rw [key, if_neg hc]
    exact nrun_ext f f _ _ R 403 109 [(0, .ref 49), (1, .int x1), (2, .int x2), (5, .int x5)] [(0, .ref 49), (1, .int x1), (2, .int x2), (4, .int x4), (5, .int x5)] [] _ 0 0 122 (Nat.le_refl _) (Nat.le_refl _) (Nat.le_of_ble_eq_true rfl) (lvR_mk [0, 1, 2, 5] [0, 1, 2, 4, 5] rfl rfl (by decide) (by decide) (List.forall_mem_cons.mpr ⟨List.mem_cons_self, (List.forall_mem_cons.mpr ⟨(List.mem_cons_of_mem _ List.mem_cons_self), (List.forall_mem_cons.mpr ⟨(List.mem_cons_of_mem _ (List.mem_cons_of_mem _ List.mem_cons_self)), (List.forall_mem_cons.mpr ⟨(List.mem_cons_of_mem _ (List.mem_cons_of_mem _ (List.mem_cons_of_mem _ (List.mem_cons_of_mem _ List.mem_cons_self)))), (fun _ h => nomatch h)⟩)⟩)⟩)⟩) (List.forall_mem_cons.mpr ⟨Or.inl List.mem_cons_self, (List.forall_mem_cons.mpr ⟨Or.inl (List.mem_cons_of_mem _ List.mem_cons_self), (List.forall_mem_cons.mpr ⟨Or.inl (List.mem_cons_of_mem _ (List.mem_cons_of_mem _ List.mem_cons_self)), (List.forall_mem_cons.mpr ⟨Or.inr rfl, (List.forall_mem_cons.mpr ⟨Or.inl (List.mem_cons_of_mem _ (List.mem_cons_of_mem _ (List.mem_cons_of_mem _ List.mem_cons_self))), (fun _ h => nomatch h)⟩)⟩)⟩)⟩)⟩)) h
set_option maxRecDepth 100000 in
set_option maxHeartbeats 4000000 in
theorem bk_403_109 {b : Bool} {d : Nat} {x1 x2 x5 : Int32} {e : Nat → x_E} {g : Nat → Int32} {q : Nat → Int64} {c : Nat → Nat → Int32} {l : Nat → Nat → Int64} {R : Option Value × List x_E} (hz0 : ¬ (x5 < 0 ∨ 1400 ≤ (x5).toNatClampNeg)) (h1 : xCn .ne ((lg_cmp ((l 93 (x5).toNatClampNeg)) ((q 26)))) 0 = true → rr b e d 403 142 [(0, .ref 49), (1, .int x1), (2, .int x2), (5, .int x5)] [] g q c l R) (h2 : ¬ xCn .ne ((lg_cmp ((l 93 (x5).toNatClampNeg)) ((q 26)))) 0 = true → rr b e d 403 124 [(0, .ref 49), (1, .int x1), (2, .int x2), (5, .int x5)] [] g q c l R) : rr b e d 403 109 [(0, .ref 49), (1, .int x1), (2, .int x2), (5, .int x5)] [] g q c l R := by
  have key : ∀ f, nrun xZ (xY (xfm b)) xDT (f + 8) d 403 109 [(0, .ref 49), (1, .int x1), (2, .int x2), (5, .int x5)] [] (rH e g q c l) 0 0 = nrun xZ (xY (xfm b)) xDT f d 403 (if xCn .ne ((lg_cmp ((l 93 (x5).toNatClampNeg)) ((q 26)))) 0 = true then 142 else 124) [(0, .ref 49), (1, .int x1), (2, .int x2), (5, .int x5)] [] (rH e g q c l) 0 0 := by
    intro f
    obtain ⟨y, cb, hj⟩ := mq_403
    rw [n_step (st' := [.ref 49]) (pc' := 110) (lv' := [(0, .ref 49), (1, .int x1), (2, .int x2), (5, .int x5)]) (hp' := rH e g q c l) (i := .aload_n 0) (len := 1) rfl hj rfl rfl rfl]
    rw [n_get (st' := [.ref 93]) (pc' := 113) (lv' := [(0, .ref 49), (1, .int x1), (2, .int x2), (5, .int x5)]) (hp' := rH e g q c l) (i := .getfield 150) (len := 3) rfl hj rfl rfl rfl rfl]
    rw [n_step (st' := [.int x5, .ref 93]) (pc' := 115) (lv' := [(0, .ref 49), (1, .int x1), (2, .int x2), (5, .int x5)]) (hp' := rH e g q c l) (i := .iload 5) (len := 2) rfl hj rfl rfl rfl]
    rw [n_lal (st' := [.long (l 93 (x5).toNatClampNeg)]) rfl hj (all_93 hz0)]
    rw [n_step (st' := [.ref 49, .long (l 93 (x5).toNatClampNeg)]) (pc' := 117) (lv' := [(0, .ref 49), (1, .int x1), (2, .int x2), (5, .int x5)]) (hp' := rH e g q c l) (i := .aload_n 0) (len := 1) rfl hj rfl rfl rfl]
    rw [n_get (st' := [.long (q 26), .long (l 93 (x5).toNatClampNeg)]) (pc' := 120) (lv' := [(0, .ref 49), (1, .int x1), (2, .int x2), (5, .int x5)]) (hp' := rH e g q c l) (i := .getfield 362) (len := 3) rfl hj rfl rfl rfl rfl]
    rw [n_step (st' := [.int (lg_cmp ((l 93 (x5).toNatClampNeg)) ((q 26)))]) (pc' := 121) (lv' := [(0, .ref 49), (1, .int x1), (2, .int x2), (5, .int x5)]) (hp' := rH e g q c l) (i := .lcmp) (len := 1) rfl hj rfl rfl rfl]
    rw [n_step (st' := []) (pc' := (if xCn .ne ((lg_cmp ((l 93 (x5).toNatClampNeg)) ((q 26)))) 0 = true then 142 else 124)) (lv' := [(0, .ref 49), (1, .int x1), (2, .int x2), (5, .int x5)]) (hp' := rH e g q c l) (i := .ifCond .ne 21) (len := 3) rfl hj rfl rfl rfl]
  by_cases hc : xCn .ne ((lg_cmp ((l 93 (x5).toNatClampNeg)) ((q 26)))) 0 = true
  · obtain ⟨f, h⟩ := h1 hc
    refine ⟨f + 8, ?_⟩
    rw [key, if_pos hc]
    exact h
  · obtain ⟨f, h⟩ := h2 hc
    refine ⟨f + 8, ?_⟩
    rw [key, if_neg hc]
    exact h
set_option maxRecDepth 100000 in
set_option maxHeartbeats 4000000 in
theorem bk_403_124 {b : Bool} {d : Nat} {x1 x2 x5 : Int32} {e : Nat → x_E} {g : Nat → Int32} {q : Nat → Int64} {c : Nat → Nat → Int32} {l : Nat → Nat → Int64} {R : Option Value × List x_E} (hz0 : ¬ (x5 < 0 ∨ 1400 ≤ (x5).toNatClampNeg)) (h1 : xCn .ne ((c 94 (x5).toNatClampNeg)) ((g 27)) = true → rr b e d 403 142 [(0, .ref 49), (1, .int x1), (2, .int x2), (5, .int x5)] [] g q c l R) (h2 : ¬ xCn .ne ((c 94 (x5).toNatClampNeg)) ((g 27)) = true → rr b e d 403 138 [(0, .ref 49), (1, .int x1), (2, .int x2), (5, .int x5)] [] g q c l R) : rr b e d 403 124 [(0, .ref 49), (1, .int x1), (2, .int x2), (5, .int x5)] [] g q c l R := by
  have key : ∀ f, nrun xZ (xY (xfm b)) xDT (f + 7) d 403 124 [(0, .ref 49), (1, .int x1), (2, .int x2), (5, .int x5)] [] (rH e g q c l) 0 0 = nrun xZ (xY (xfm b)) xDT f d 403 (if xCn .ne ((c 94 (x5).toNatClampNeg)) ((g 27)) = true then 142 else 138) [(0, .ref 49), (1, .int x1), (2, .int x2), (5, .int x5)] [] (rH e g q c l) 0 0 := by
    intro f
    obtain ⟨y, cb, hj⟩ := mq_403
    rw [n_step (st' := [.ref 49]) (pc' := 125) (lv' := [(0, .ref 49), (1, .int x1), (2, .int x2), (5, .int x5)]) (hp' := rH e g q c l) (i := .aload_n 0) (len := 1) rfl hj rfl rfl rfl]
    rw [n_get (st' := [.ref 94]) (pc' := 128) (lv' := [(0, .ref 49), (1, .int x1), (2, .int x2), (5, .int x5)]) (hp' := rH e g q c l) (i := .getfield 153) (len := 3) rfl hj rfl rfl rfl rfl]
    rw [n_step (st' := [.int x5, .ref 94]) (pc' := 130) (lv' := [(0, .ref 49), (1, .int x1), (2, .int x2), (5, .int x5)]) (hp' := rH e g q c l) (i := .iload 5) (len := 2) rfl hj rfl rfl rfl]
    rw [n_ial (st' := [.int (c 94 (x5).toNatClampNeg)]) rfl hj (ald_94 hz0)]
    rw [n_step (st' := [.ref 49, .int (c 94 (x5).toNatClampNeg)]) (pc' := 132) (lv' := [(0, .ref 49), (1, .int x1), (2, .int x2), (5, .int x5)]) (hp' := rH e g q c l) (i := .aload_n 0) (len := 1) rfl hj rfl rfl rfl]
    rw [n_get (st' := [.int (g 27), .int (c 94 (x5).toNatClampNeg)]) (pc' := 135) (lv' := [(0, .ref 49), (1, .int x1), (2, .int x2), (5, .int x5)]) (hp' := rH e g q c l) (i := .getfield 365) (len := 3) rfl hj rfl rfl rfl rfl]
    rw [n_step (st' := []) (pc' := (if xCn .ne ((c 94 (x5).toNatClampNeg)) ((g 27)) = true then 142 else 138)) (lv' := [(0, .ref 49), (1, .int x1), (2, .int x2), (5, .int x5)]) (hp' := rH e g q c l) (i := .if_icmp .ne 7) (len := 3) rfl hj rfl rfl rfl]
  by_cases hc : xCn .ne ((c 94 (x5).toNatClampNeg)) ((g 27)) = true
  · obtain ⟨f, h⟩ := h1 hc
    refine ⟨f + 7, ?_⟩
    rw [key, if_pos hc]
    exact h
  · obtain ⟨f, h⟩ := h2 hc
    refine ⟨f + 7, ?_⟩
    rw [key, if_neg hc]
    exact h
set_option maxRecDepth 100000 in
set_option maxHeartbeats 4000000 in
theorem bk_403_138 {b : Bool} {d : Nat} {x1 x2 x5 : Int32} {e : Nat → x_E} {g : Nat → Int32} {q : Nat → Int64} {c : Nat → Nat → Int32} {l : Nat → Nat → Int64} {R : Option Value × List x_E} (h : rr b e d 403 143 [(0, .ref 49), (1, .int x1), (2, .int x2), (5, .int x5)] [.int (Int32.ofInt (1))] g q c l R) : rr b e d 403 138 [(0, .ref 49), (1, .int x1), (2, .int x2), (5, .int x5)] [] g q c l R := by
  obtain ⟨f, h⟩ := h
  refine ⟨f + 2, ?_⟩
  obtain ⟨y, cb, hj⟩ := mq_403
  rw [n_step (st' := [.int (Int32.ofInt (1))]) (pc' := 139) (lv' := [(0, .ref 49), (1, .int x1), (2, .int x2), (5, .int x5)]) (hp' := rH e g q c l) (i := .iconst 1) (len := 1) rfl hj rfl rfl rfl]
  rw [n_step (st' := [.int (Int32.ofInt (1))]) (pc' := 143) (lv' := [(0, .ref 49), (1, .int x1), (2, .int x2), (5, .int x5)]) (hp' := rH e g q c l) (i := .goto 4) (len := 3) rfl hj rfl rfl rfl]
  exact h
set_option maxRecDepth 100000 in
set_option maxHeartbeats 4000000 in
theorem bk_403_142 {b : Bool} {d : Nat} {x1 x2 x5 : Int32} {e : Nat → x_E} {g : Nat → Int32} {q : Nat → Int64} {c : Nat → Nat → Int32} {l : Nat → Nat → Int64} {R : Option Value × List x_E} (h : rr b e d 403 143 [(0, .ref 49), (1, .int x1), (2, .int x2), (5, .int x5)] [.int (Int32.ofInt (0))] g q c l R) : rr b e d 403 142 [(0, .ref 49), (1, .int x1), (2, .int x2), (5, .int x5)] [] g q c l R := by
  obtain ⟨f, h⟩ := h
  refine ⟨f + 1, ?_⟩
  obtain ⟨y, cb, hj⟩ := mq_403
  rw [n_step (st' := [.int (Int32.ofInt (0))]) (pc' := 143) (lv' := [(0, .ref 49), (1, .int x1), (2, .int x2), (5, .int x5)]) (hp' := rH e g q c l) (i := .iconst 0) (len := 1) rfl hj rfl rfl rfl]
  exact h
set_option maxRecDepth 100000 in
set_option maxHeartbeats 4000000 in
theorem bk_403_143 {b : Bool} {d : Nat} {t0 x1 x2 x5 : Int32} {e : Nat → x_E} {g : Nat → Int32} {q : Nat → Int64} {c : Nat → Nat → Int32} {l : Nat → Nat → Int64} {R : Option Value × List x_E} (h : rr b e d 403 95 [(0, .ref 49), (1, .int x1), (2, .int x2), (4, .int t0), (5, .int (x5 + Int32.ofInt (1)))] [] g q c l R) : rr b e d 403 143 [(0, .ref 49), (1, .int x1), (2, .int x2), (5, .int x5)] [.int t0] g q c l R := by
  obtain ⟨f, h⟩ := h
  refine ⟨f + 3, ?_⟩
  obtain ⟨y, cb, hj⟩ := mq_403
  rw [n_step (st' := []) (pc' := 145) (lv' := [(4, .int t0), (0, .ref 49), (1, .int x1), (2, .int x2), (5, .int x5)]) (hp' := rH e g q c l) (i := .istore 4) (len := 2) rfl hj rfl rfl rfl]
  rw [n_step (st' := []) (pc' := 148) (lv' := [(5, .int (x5 + Int32.ofInt (1))), (4, .int t0), (0, .ref 49), (1, .int x1), (2, .int x2)]) (hp' := rH e g q c l) (i := .iinc 5 1) (len := 3) rfl hj rfl rfl rfl]
  rw [n_step (st' := []) (pc' := 95) (lv' := [(5, .int (x5 + Int32.ofInt (1))), (4, .int t0), (0, .ref 49), (1, .int x1), (2, .int x2)]) (hp' := rH e g q c l) (i := .goto (-53)) (len := 3) rfl hj rfl rfl rfl]
  exact nrun_ext f f _ _ R 403 95 [(0, .ref 49), (1, .int x1), (2, .int x2), (4, .int t0), (5, .int (x5 + Int32.ofInt (1)))] [(5, .int (x5 + Int32.ofInt (1))), (4, .int t0), (0, .ref 49), (1, .int x1), (2, .int x2)] [] _ 0 0 122 (Nat.le_refl _) (Nat.le_refl _) (Nat.le_of_ble_eq_true rfl) (lvR_mk [0, 1, 2, 4, 5] [5, 4, 0, 1, 2] rfl rfl (by decide) (by decide) (List.forall_mem_cons.mpr ⟨(List.mem_cons_of_mem _ (List.mem_cons_of_mem _ List.mem_cons_self)), (List.forall_mem_cons.mpr ⟨(List.mem_cons_of_mem _ (List.mem_cons_of_mem _ (List.mem_cons_of_mem _ List.mem_cons_self))), (List.forall_mem_cons.mpr ⟨(List.mem_cons_of_mem _ (List.mem_cons_of_mem _ (List.mem_cons_of_mem _ (List.mem_cons_of_mem _ List.mem_cons_self)))), (List.forall_mem_cons.mpr ⟨(List.mem_cons_of_mem _ List.mem_cons_self), (List.forall_mem_cons.mpr ⟨List.mem_cons_self, (fun _ h => nomatch h)⟩)⟩)⟩)⟩)⟩) (List.forall_mem_cons.mpr ⟨Or.inl (List.mem_cons_of_mem _ (List.mem_cons_of_mem _ (List.mem_cons_of_mem _ (List.mem_cons_of_mem _ List.mem_cons_self)))), (List.forall_mem_cons.mpr ⟨Or.inl (List.mem_cons_of_mem _ (List.mem_cons_of_mem _ (List.mem_cons_of_mem _ List.mem_cons_self))), (List.forall_mem_cons.mpr ⟨Or.inl List.mem_cons_self, (List.forall_mem_cons.mpr ⟨Or.inl (List.mem_cons_of_mem _ List.mem_cons_self), (List.forall_mem_cons.mpr ⟨Or.inl (List.mem_cons_of_mem _ (List.mem_cons_of_mem _ List.mem_cons_self)), (fun _ h => nomatch h)⟩)⟩)⟩)⟩)⟩)) h
set_option maxRecDepth 100000 in
set_option maxHeartbeats 4000000 in
theorem bk_403_151 {b : Bool} {d : Nat} {x1 x2 x4 : Int32} {e : Nat → x_E} {g : Nat → Int32} {q : Nat → Int64} {c : Nat → Nat → Int32} {l : Nat → Nat → Int64} {R : Option Value × List x_E} (h1 : xCn .eq x4 0 = true → rr b e d 403 173 [(0, .ref 49), (1, .int x1), (2, .int x2)] [] g q c l R) (h2 : ¬ xCn .eq x4 0 = true → rr b e d 403 156 [(0, .ref 49), (1, .int x1), (2, .int x2)] [] g q c l R) : rr b e d 403 151 [(0, .ref 49), (1, .int x1), (2, .int x2), (4, .int x4)] [] g q c l R := by
  have key : ∀ f, nrun xZ (xY (xfm b)) xDT (f + 2) d 403 151 [(0, .ref 49), (1, .int x1), (2, .int x2), (4, .int x4)] [] (rH e g q c l) 0 0 = nrun xZ (xY (xfm b)) xDT f d 403 (if xCn .eq x4 0 = true then 173 else 156) [(0, .ref 49), (1, .int x1), (2, .int x2), (4, .int x4)] [] (rH e g q c l) 0 0 := by
    intro f
    obtain ⟨y, cb, hj⟩ := mq_403
    rw [n_step (st' := [.int x4]) (pc' := 153) (lv' := [(0, .ref 49), (1, .int x1), (2, .int x2), (4, .int x4)]) (hp' := rH e g q c l) (i := .iload 4) (len := 2) rfl hj rfl rfl rfl]
    rw [n_step (st' := []) (pc' := (if xCn .eq x4 0 = true then 173 else 156)) (lv' := [(0, .ref 49), (1, .int x1), (2, .int x2), (4, .int x4)]) (hp' := rH e g q c l) (i := .ifCond .eq 20) (len := 3) rfl hj rfl rfl rfl]
  by_cases hc : xCn .eq x4 0 = true
  · obtain ⟨f, h⟩ := h1 hc
    refine ⟨f + 2, ?_⟩
    rw [key, if_pos hc]
    exact nrun_ext f f _ _ R 403 173 [(0, .ref 49), (1, .int x1), (2, .int x2)] [(0, .ref 49), (1, .int x1), (2, .int x2), (4, .int x4)] [] _ 0 0 122 (Nat.le_refl _) (Nat.le_refl _) (Nat.le_of_ble_eq_true rfl) (lvR_mk [0, 1, 2] [0, 1, 2, 4] rfl rfl (by decide) (by decide) (List.forall_mem_cons.mpr ⟨List.mem_cons_self, (List.forall_mem_cons.mpr ⟨(List.mem_cons_of_mem _ List.mem_cons_self), (List.forall_mem_cons.mpr ⟨(List.mem_cons_of_mem _ (List.mem_cons_of_mem _ List.mem_cons_self)), (fun _ h => nomatch h)⟩)⟩)⟩) (List.forall_mem_cons.mpr ⟨Or.inl List.mem_cons_self, (List.forall_mem_cons.mpr ⟨Or.inl (List.mem_cons_of_mem _ List.mem_cons_self), (List.forall_mem_cons.mpr ⟨Or.inl (List.mem_cons_of_mem _ (List.mem_cons_of_mem _ List.mem_cons_self)), (List.forall_mem_cons.mpr ⟨Or.inr rfl, (fun _ h => nomatch h)⟩)⟩)⟩)⟩)) h
  · obtain ⟨f, h⟩ := h2 hc
    refine ⟨f + 2, ?_⟩
    rw [key, if_neg hc]
    exact nrun_ext f f _ _ R 403 156 [(0, .ref 49), (1, .int x1), (2, .int x2)] [(0, .ref 49), (1, .int x1), (2, .int x2), (4, .int x4)] [] _ 0 0 122 (Nat.le_refl _) (Nat.le_refl _) (Nat.le_of_ble_eq_true rfl) (lvR_mk [0, 1, 2] [0, 1, 2, 4] rfl rfl (by decide) (by decide) (List.forall_mem_cons.mpr ⟨List.mem_cons_self, (List.forall_mem_cons.mpr ⟨(List.mem_cons_of_mem _ List.mem_cons_self), (List.forall_mem_cons.mpr ⟨(List.mem_cons_of_mem _ (List.mem_cons_of_mem _ List.mem_cons_self)), (fun _ h => nomatch h)⟩)⟩)⟩) (List.forall_mem_cons.mpr ⟨Or.inl List.mem_cons_self, (List.forall_mem_cons.mpr ⟨Or.inl (List.mem_cons_of_mem _ List.mem_cons_self), (List.forall_mem_cons.mpr ⟨Or.inl (List.mem_cons_of_mem _ (List.mem_cons_of_mem _ List.mem_cons_self)), (List.forall_mem_cons.mpr ⟨Or.inr rfl, (fun _ h => nomatch h)⟩)⟩)⟩)⟩)) h
set_option maxRecDepth 100000 in
set_option maxHeartbeats 4000000 in
theorem bk_403_156 {b : Bool} {d : Nat} {x1 x2 : Int32} {e : Nat → x_E} {g : Nat → Int32} {q : Nat → Int64} {c : Nat → Nat → Int32} {l : Nat → Nat → Int64} {g' : Nat → Int32} {q' : Nat → Int64} {c' : Nat → Nat → Int32} {l' : Nat → Nat → Int64} {R : Option Value × List x_E} (hc : rr b e d 349 0 [(0, .ref 49), (1, .int (Int32.ofInt (3))), (2, .int (g 28))] [] g q c l (none, rH e g' q' c' l')) (h : rr b e (d + 1) 403 165 [(0, .ref 49), (1, .int x1), (2, .int x2)] [] g' q' c' l' R) : rr b e (d + 1) 403 156 [(0, .ref 49), (1, .int x1), (2, .int x2)] [] g q c l R := by
  obtain ⟨f1, hc⟩ := hc
  obtain ⟨f2, h⟩ := h
  obtain ⟨f, hf1, hf2⟩ : ∃ f, f1 ≤ f ∧ f2 ≤ f := ⟨max f1 f2, Nat.le_max_left _ _, Nat.le_max_right _ _⟩
  have hc := nrun_fuel f1 f _ _ _ _ _ _ _ _ _ hf1 hc
  have h := nrun_fuel f2 f _ _ _ _ _ _ _ _ _ hf2 h
  refine ⟨f + 5, ?_⟩
  obtain ⟨y, cb, hj⟩ := mq_403
  rw [n_step (st' := [.ref 49]) (pc' := 157) (lv' := [(0, .ref 49), (1, .int x1), (2, .int x2)]) (hp' := rH e g q c l) (i := .aload_n 0) (len := 1) rfl hj rfl rfl rfl]
  rw [n_step (st' := [.int (Int32.ofInt (3)), .ref 49]) (pc' := 158) (lv' := [(0, .ref 49), (1, .int x1), (2, .int x2)]) (hp' := rH e g q c l) (i := .iconst 3) (len := 1) rfl hj rfl rfl rfl]
  rw [n_step (st' := [.ref 49, .int (Int32.ofInt (3)), .ref 49]) (pc' := 159) (lv' := [(0, .ref 49), (1, .int x1), (2, .int x2)]) (hp' := rH e g q c l) (i := .aload_n 0) (len := 1) rfl hj rfl rfl rfl]
  rw [n_get (st' := [.int (g 28), .int (Int32.ofInt (3)), .ref 49]) (pc' := 162) (lv' := [(0, .ref 49), (1, .int x1), (2, .int x2)]) (hp' := rH e g q c l) (i := .getfield 368) (len := 3) rfl hj rfl rfl rfl rfl]
  obtain ⟨y2, cb2, hj2⟩ := mq_349
  rw [n_call (f := f) (d := d) (ki := 0) (idx := 427) (j' := 349) (kd := 0) (M' := (y2, cb2, 3, none, 12, 2, 0, 0)) (avs := [.ref 49, .int (Int32.ofInt (3)), .int (g 28)]) (r := []) (rv := none) (hp1 := rH e g' q' c' l') rfl hj rfl rfl rfl rfl (rq_n rfl rfl hj2 rfl rfl) rfl hc (Nat.le_of_ble_eq_true rfl)]
  exact h
set_option maxRecDepth 100000 in
set_option maxHeartbeats 4000000 in
theorem bk_403_165 {b : Bool} {d : Nat} {x1 x2 : Int32} {e : Nat → x_E} {g : Nat → Int32} {q : Nat → Int64} {c : Nat → Nat → Int32} {l : Nat → Nat → Int64} {R : Option Value × List x_E} (hz0 : ((g 23)) = 0 ∨ ((g 23)) = 1) (h : rr b e d 403 173 [(0, .ref 49), (1, .int x1), (2, .int x2)] [] (upd g 107 ((g 23))) q c l R) : rr b e d 403 165 [(0, .ref 49), (1, .int x1), (2, .int x2)] [] g q c l R := by
  obtain ⟨f, h⟩ := h
  refine ⟨f + 4, ?_⟩
  obtain ⟨y, cb, hj⟩ := mq_403
  rw [n_step (st' := [.ref 49]) (pc' := 166) (lv' := [(0, .ref 49), (1, .int x1), (2, .int x2)]) (hp' := rH e g q c l) (i := .aload_n 0) (len := 1) rfl hj rfl rfl rfl]
  rw [n_step (st' := [.ref 49, .ref 49]) (pc' := 167) (lv' := [(0, .ref 49), (1, .int x1), (2, .int x2)]) (hp' := rH e g q c l) (i := .aload_n 0) (len := 1) rfl hj rfl rfl rfl]
  rw [n_get (st' := [.int (g 23), .ref 49]) (pc' := 170) (lv' := [(0, .ref 49), (1, .int x1), (2, .int x2)]) (hp' := rH e g q c l) (i := .getfield 325) (len := 3) rfl hj rfl rfl rfl rfl]
  rw [n_put (st' := []) (hp' := rH e (upd g 107 ((g 23))) q c l) rfl hj (pf_107 hz0)]
  exact h
set_option maxRecDepth 100000 in
set_option maxHeartbeats 4000000 in
theorem bk_403_173 {b : Bool} {d : Nat} {x1 x2 : Int32} {e : Nat → x_E} {g : Nat → Int32} {q : Nat → Int64} {c : Nat → Nat → Int32} {l : Nat → Nat → Int64} {g' : Nat → Int32} {q' : Nat → Int64} {c' : Nat → Nat → Int32} {l' : Nat → Nat → Int64} {R : Option Value × List x_E} (hc : rr b e d 404 0 [(0, .ref 49), (1, .long (q 26)), (3, .int (g 27)), (4, .int (g 94))] [] g q c l (none, rH e g' q' c' l')) (h : rr b e (d + 1) 403 189 [(0, .ref 49), (1, .int x1), (2, .int x2)] [] g' q' c' l' R) : rr b e (d + 1) 403 173 [(0, .ref 49), (1, .int x1), (2, .int x2)] [] g q c l R := by
  obtain ⟨f1, hc⟩ := hc
  obtain ⟨f2, h⟩ := h
  obtain ⟨f, hf1, hf2⟩ : ∃ f, f1 ≤ f ∧ f2 ≤ f := ⟨max f1 f2, Nat.le_max_left _ _, Nat.le_max_right _ _⟩
  have hc := nrun_fuel f1 f _ _ _ _ _ _ _ _ _ hf1 hc
  have h := nrun_fuel f2 f _ _ _ _ _ _ _ _ _ hf2 h
  refine ⟨f + 8, ?_⟩
  obtain ⟨y, cb, hj⟩ := mq_403
  rw [n_step (st' := [.ref 49]) (pc' := 174) (lv' := [(0, .ref 49), (1, .int x1), (2, .int x2)]) (hp' := rH e g q c l) (i := .aload_n 0) (len := 1) rfl hj rfl rfl rfl]
  rw [n_step (st' := [.ref 49, .ref 49]) (pc' := 175) (lv' := [(0, .ref 49), (1, .int x1), (2, .int x2)]) (hp' := rH e g q c l) (i := .aload_n 0) (len := 1) rfl hj rfl rfl rfl]
  rw [n_get (st' := [.long (q 26), .ref 49]) (pc' := 178) (lv' := [(0, .ref 49), (1, .int x1), (2, .int x2)]) (hp' := rH e g q c l) (i := .getfield 362) (len := 3) rfl hj rfl rfl rfl rfl]
  rw [n_step (st' := [.ref 49, .long (q 26), .ref 49]) (pc' := 179) (lv' := [(0, .ref 49), (1, .int x1), (2, .int x2)]) (hp' := rH e g q c l) (i := .aload_n 0) (len := 1) rfl hj rfl rfl rfl]
  rw [n_get (st' := [.int (g 27), .long (q 26), .ref 49]) (pc' := 182) (lv' := [(0, .ref 49), (1, .int x1), (2, .int x2)]) (hp' := rH e g q c l) (i := .getfield 365) (len := 3) rfl hj rfl rfl rfl rfl]
  rw [n_step (st' := [.ref 49, .int (g 27), .long (q 26), .ref 49]) (pc' := 183) (lv' := [(0, .ref 49), (1, .int x1), (2, .int x2)]) (hp' := rH e g q c l) (i := .aload_n 0) (len := 1) rfl hj rfl rfl rfl]
  rw [n_get (st' := [.int (g 94), .int (g 27), .long (q 26), .ref 49]) (pc' := 186) (lv' := [(0, .ref 49), (1, .int x1), (2, .int x2)]) (hp' := rH e g q c l) (i := .getfield 697) (len := 3) rfl hj rfl rfl rfl rfl]
  obtain ⟨y2, cb2, hj2⟩ := mq_404
  rw [n_call (f := f) (d := d) (ki := 0) (idx := 706) (j' := 404) (kd := 0) (M' := (y2, cb2, 5, none, 12, 3, 0, 0)) (avs := [.ref 49, .long (q 26), .int (g 27), .int (g 94)]) (r := []) (rv := none) (hp1 := rH e g' q' c' l') rfl hj rfl rfl rfl rfl (rq_n rfl rfl hj2 rfl rfl) rfl hc (Nat.le_of_ble_eq_true rfl)]
  exact h
set_option maxRecDepth 100000 in
set_option maxHeartbeats 4000000 in
theorem bk_403_189 {b : Bool} {d : Nat} {x1 x2 : Int32} {e : Nat → x_E} {g : Nat → Int32} {q : Nat → Int64} {c : Nat → Nat → Int32} {l : Nat → Nat → Int64} {g' : Nat → Int32} {q' : Nat → Int64} {c' : Nat → Nat → Int32} {l' : Nat → Nat → Int64} {v : Int32} {R : Option Value × List x_E} (hc : rr b e d 344 0 [(0, .ref 49), (1, .int (Int8.ofInt (93)).toInt32)] [] (upd g 94 (((g 94) + (Int32.ofInt (1))))) q c l (some (.int v), rH e g' q' c' l')) (h : rr b e (d + 1) 403 209 [(0, .ref 49), (1, .int (x1 + (Int32.ofInt (1)))), (2, .int x2)] [.int v] g' q' c' l' R) : rr b e (d + 1) 403 189 [(0, .ref 49), (1, .int x1), (2, .int x2)] [] g q c l R := by
  obtain ⟨f1, hc⟩ := hc
  obtain ⟨f2, h⟩ := h
  obtain ⟨f, hf1, hf2⟩ : ∃ f, f1 ≤ f ∧ f2 ≤ f := ⟨max f1 f2, Nat.le_max_left _ _, Nat.le_max_right _ _⟩
  have hc := nrun_fuel f1 f _ _ _ _ _ _ _ _ _ hf1 hc
  have h := nrun_fuel f2 f _ _ _ _ _ _ _ _ _ hf2 h
  refine ⟨f + 13, ?_⟩
  obtain ⟨y, cb, hj⟩ := mq_403
  rw [n_step (st' := [.ref 49]) (pc' := 190) (lv' := [(0, .ref 49), (1, .int x1), (2, .int x2)]) (hp' := rH e g q c l) (i := .aload_n 0) (len := 1) rfl hj rfl rfl rfl]
  rw [n_step (st' := [.ref 49, .ref 49]) (pc' := 191) (lv' := [(0, .ref 49), (1, .int x1), (2, .int x2)]) (hp' := rH e g q c l) (i := .aload_n 0) (len := 1) rfl hj rfl rfl rfl]
  rw [n_get (st' := [.int (g 94), .ref 49]) (pc' := 194) (lv' := [(0, .ref 49), (1, .int x1), (2, .int x2)]) (hp' := rH e g q c l) (i := .getfield 697) (len := 3) rfl hj rfl rfl rfl rfl]
  rw [n_step (st' := [.int (Int32.ofInt (1)), .int (g 94), .ref 49]) (pc' := 195) (lv' := [(0, .ref 49), (1, .int x1), (2, .int x2)]) (hp' := rH e g q c l) (i := .iconst 1) (len := 1) rfl hj rfl rfl rfl]
  rw [n_step (st' := [.int ((g 94) + (Int32.ofInt (1))), .ref 49]) (pc' := 196) (lv' := [(0, .ref 49), (1, .int x1), (2, .int x2)]) (hp' := rH e g q c l) (i := .iadd) (len := 1) rfl hj rfl rfl rfl]
  rw [n_put (st' := []) (hp' := rH e (upd g 94 (((g 94) + (Int32.ofInt (1))))) q c l) rfl hj pf_94]
  rw [n_step (st' := [.int x1]) (pc' := 200) (lv' := [(0, .ref 49), (1, .int x1), (2, .int x2)]) (hp' := rH e (upd g 94 (((g 94) + (Int32.ofInt (1))))) q c l) (i := .iload_n 1) (len := 1) rfl hj rfl rfl rfl]
  rw [n_step (st' := [.int (Int32.ofInt (1)), .int x1]) (pc' := 201) (lv' := [(0, .ref 49), (1, .int x1), (2, .int x2)]) (hp' := rH e (upd g 94 (((g 94) + (Int32.ofInt (1))))) q c l) (i := .iconst 1) (len := 1) rfl hj rfl rfl rfl]
  rw [n_step (st' := [.int (x1 + (Int32.ofInt (1)))]) (pc' := 202) (lv' := [(0, .ref 49), (1, .int x1), (2, .int x2)]) (hp' := rH e (upd g 94 (((g 94) + (Int32.ofInt (1))))) q c l) (i := .iadd) (len := 1) rfl hj rfl rfl rfl]
  rw [n_step (st' := []) (pc' := 203) (lv' := [(1, .int (x1 + (Int32.ofInt (1)))), (0, .ref 49), (2, .int x2)]) (hp' := rH e (upd g 94 (((g 94) + (Int32.ofInt (1))))) q c l) (i := .istore_n 1) (len := 1) rfl hj rfl rfl rfl]
  rw [n_step (st' := [.ref 49]) (pc' := 204) (lv' := [(1, .int (x1 + (Int32.ofInt (1)))), (0, .ref 49), (2, .int x2)]) (hp' := rH e (upd g 94 (((g 94) + (Int32.ofInt (1))))) q c l) (i := .aload_n 0) (len := 1) rfl hj rfl rfl rfl]
  rw [n_step (st' := [.int (Int8.ofInt (93)).toInt32, .ref 49]) (pc' := 206) (lv' := [(1, .int (x1 + (Int32.ofInt (1)))), (0, .ref 49), (2, .int x2)]) (hp' := rH e (upd g 94 (((g 94) + (Int32.ofInt (1))))) q c l) (i := .bipush 93) (len := 2) rfl hj rfl rfl rfl]
  obtain ⟨y2, cb2, hj2⟩ := mq_344
  rw [n_call (f := f) (d := d) (ki := 0) (idx := 341) (j' := 344) (kd := 0) (M' := (y2, cb2, 2, some .boolean, 12, 1, 0, 0)) (avs := [.ref 49, .int (Int8.ofInt (93)).toInt32]) (r := []) (rv := some (.int v)) (hp1 := rH e g' q' c' l') rfl hj rfl rfl rfl rfl (rq_n rfl rfl hj2 rfl rfl) rfl hc (Nat.le_of_ble_eq_true rfl)]
  exact nrun_ext f f _ _ R 403 209 [(0, .ref 49), (1, .int (x1 + (Int32.ofInt (1)))), (2, .int x2)] [(1, .int (x1 + (Int32.ofInt (1)))), (0, .ref 49), (2, .int x2)] [.int v] _ 0 0 122 (Nat.le_refl _) (Nat.le_refl _) (Nat.le_of_ble_eq_true rfl) (lvR_mk [0, 1, 2] [1, 0, 2] rfl rfl (by decide) (by decide) (List.forall_mem_cons.mpr ⟨(List.mem_cons_of_mem _ List.mem_cons_self), (List.forall_mem_cons.mpr ⟨List.mem_cons_self, (List.forall_mem_cons.mpr ⟨(List.mem_cons_of_mem _ (List.mem_cons_of_mem _ List.mem_cons_self)), (fun _ h => nomatch h)⟩)⟩)⟩) (List.forall_mem_cons.mpr ⟨Or.inl (List.mem_cons_of_mem _ List.mem_cons_self), (List.forall_mem_cons.mpr ⟨Or.inl List.mem_cons_self, (List.forall_mem_cons.mpr ⟨Or.inl (List.mem_cons_of_mem _ (List.mem_cons_of_mem _ List.mem_cons_self)), (fun _ h => nomatch h)⟩)⟩)⟩)) h
set_option maxRecDepth 100000 in
set_option maxHeartbeats 4000000 in
theorem bk_403_209 {b : Bool} {d : Nat} {t0 x1 x2 : Int32} {e : Nat → x_E} {g : Nat → Int32} {q : Nat → Int64} {c : Nat → Nat → Int32} {l : Nat → Nat → Int64} {R : Option Value × List x_E} (h1 : xCn .ne t0 0 = true → rr b e d 403 216 [(0, .ref 49), (1, .int x1), (2, .int x2)] [] g q c l R) (h2 : ¬ xCn .ne t0 0 = true → rr b e d 403 212 [(0, .ref 49), (1, .int x1), (2, .int x2)] [] g q c l R) : rr b e d 403 209 [(0, .ref 49), (1, .int x1), (2, .int x2)] [.int t0] g q c l R := by
  have key : ∀ f, nrun xZ (xY (xfm b)) xDT (f + 1) d 403 209 [(0, .ref 49), (1, .int x1), (2, .int x2)] [.int t0] (rH e g q c l) 0 0 = nrun xZ (xY (xfm b)) xDT f d 403 (if xCn .ne t0 0 = true then 216 else 212) [(0, .ref 49), (1, .int x1), (2, .int x2)] [] (rH e g q c l) 0 0 := by
    intro f
    obtain ⟨y, cb, hj⟩ := mq_403
    rw [n_step (st' := []) (pc' := (if xCn .ne t0 0 = true then 216 else 212)) (lv' := [(0, .ref 49), (1, .int x1), (2, .int x2)]) (hp' := rH e g q c l) (i := .ifCond .ne 7) (len := 3) rfl hj rfl rfl rfl]
  by_cases hc : xCn .ne t0 0 = true
  · obtain ⟨f, h⟩ := h1 hc
    refine ⟨f + 1, ?_⟩
    rw [key, if_pos hc]
    exact h
  · obtain ⟨f, h⟩ := h2 hc
    refine ⟨f + 1, ?_⟩
    rw [key, if_neg hc]
    exact h
set_option maxRecDepth 100000 in
set_option maxHeartbeats 4000000 in
theorem bk_403_212 {b : Bool} {d : Nat} {x1 x2 : Int32} {e : Nat → x_E} {g : Nat → Int32} {q : Nat → Int64} {c : Nat → Nat → Int32} {l : Nat → Nat → Int64} {R : Option Value × List x_E} (h : rr b e d 403 217 [(0, .ref 49), (1, .int x1), (2, .int x2)] [.int (Int32.ofInt (1))] g q c l R) : rr b e d 403 212 [(0, .ref 49), (1, .int x1), (2, .int x2)] [] g q c l R := by
  obtain ⟨f, h⟩ := h
  refine ⟨f + 2, ?_⟩
  obtain ⟨y, cb, hj⟩ := mq_403
  rw [n_step (st' := [.int (Int32.ofInt (1))]) (pc' := 213) (lv' := [(0, .ref 49), (1, .int x1), (2, .int x2)]) (hp' := rH e g q c l) (i := .iconst 1) (len := 1) rfl hj rfl rfl rfl]
  rw [n_step (st' := [.int (Int32.ofInt (1))]) (pc' := 217) (lv' := [(0, .ref 49), (1, .int x1), (2, .int x2)]) (hp' := rH e g q c l) (i := .goto 4) (len := 3) rfl hj rfl rfl rfl]
  exact h
set_option maxRecDepth 100000 in
set_option maxHeartbeats 4000000 in
theorem bk_403_216 {b : Bool} {d : Nat} {x1 x2 : Int32} {e : Nat → x_E} {g : Nat → Int32} {q : Nat → Int64} {c : Nat → Nat → Int32} {l : Nat → Nat → Int64} {R : Option Value × List x_E} (h : rr b e d 403 217 [(0, .ref 49), (1, .int x1), (2, .int x2)] [.int (Int32.ofInt (0))] g q c l R) : rr b e d 403 216 [(0, .ref 49), (1, .int x1), (2, .int x2)] [] g q c l R := by
  obtain ⟨f, h⟩ := h
  refine ⟨f + 1, ?_⟩
  obtain ⟨y, cb, hj⟩ := mq_403
  rw [n_step (st' := [.int (Int32.ofInt (0))]) (pc' := 217) (lv' := [(0, .ref 49), (1, .int x1), (2, .int x2)]) (hp' := rH e g q c l) (i := .iconst 0) (len := 1) rfl hj rfl rfl rfl]
  exact h
set_option maxRecDepth 100000 in
set_option maxHeartbeats 4000000 in
theorem bk_403_217 {b : Bool} {d : Nat} {t0 x1 x2 : Int32} {e : Nat → x_E} {g : Nat → Int32} {q : Nat → Int64} {c : Nat → Nat → Int32} {l : Nat → Nat → Int64} {R : Option Value × List x_E} (h : rr b e d 403 42 [(0, .ref 49), (1, .int x1), (2, .int x2), (3, .int t0)] [] g q c l R) : rr b e d 403 217 [(0, .ref 49), (1, .int x1), (2, .int x2)] [.int t0] g q c l R := by
  obtain ⟨f, h⟩ := h
  refine ⟨f + 2, ?_⟩
  obtain ⟨y, cb, hj⟩ := mq_403
  rw [n_step (st' := []) (pc' := 218) (lv' := [(3, .int t0), (0, .ref 49), (1, .int x1), (2, .int x2)]) (hp' := rH e g q c l) (i := .istore_n 3) (len := 1) rfl hj rfl rfl rfl]
  rw [n_step (st' := []) (pc' := 42) (lv' := [(3, .int t0), (0, .ref 49), (1, .int x1), (2, .int x2)]) (hp' := rH e g q c l) (i := .goto (-176)) (len := 3) rfl hj rfl rfl rfl]
  exact nrun_ext f f _ _ R 403 42 [(0, .ref 49), (1, .int x1), (2, .int x2), (3, .int t0)] [(3, .int t0), (0, .ref 49), (1, .int x1), (2, .int x2)] [] _ 0 0 122 (Nat.le_refl _) (Nat.le_refl _) (Nat.le_of_ble_eq_true rfl) (lvR_mk [0, 1, 2, 3] [3, 0, 1, 2] rfl rfl (by decide) (by decide) (List.forall_mem_cons.mpr ⟨(List.mem_cons_of_mem _ List.mem_cons_self), (List.forall_mem_cons.mpr ⟨(List.mem_cons_of_mem _ (List.mem_cons_of_mem _ List.mem_cons_self)), (List.forall_mem_cons.mpr ⟨(List.mem_cons_of_mem _ (List.mem_cons_of_mem _ (List.mem_cons_of_mem _ List.mem_cons_self))), (List.forall_mem_cons.mpr ⟨List.mem_cons_self, (fun _ h => nomatch h)⟩)⟩)⟩)⟩) (List.forall_mem_cons.mpr ⟨Or.inl (List.mem_cons_of_mem _ (List.mem_cons_of_mem _ (List.mem_cons_of_mem _ List.mem_cons_self))), (List.forall_mem_cons.mpr ⟨Or.inl List.mem_cons_self, (List.forall_mem_cons.mpr ⟨Or.inl (List.mem_cons_of_mem _ List.mem_cons_self), (List.forall_mem_cons.mpr ⟨Or.inl (List.mem_cons_of_mem _ (List.mem_cons_of_mem _ List.mem_cons_self)), (fun _ h => nomatch h)⟩)⟩)⟩)⟩)) h
set_option maxRecDepth 100000 in
set_option maxHeartbeats 4000000 in
theorem bk_403_221 {b : Bool} {d : Nat} {x1 : Int32} {e : Nat → x_E} {g : Nat → Int32} {q : Nat → Int64} {c : Nat → Nat → Int32} {l : Nat → Nat → Int64} {g' : Nat → Int32} {q' : Nat → Int64} {c' : Nat → Nat → Int32} {l' : Nat → Nat → Int64} {R : Option Value × List x_E} (hc : rr b e d 353 0 [(0, .ref 49), (1, .int (Int8.ofInt (93)).toInt32)] [] g q c l (none, rH e g' q' c' l')) (h : rr b e (d + 1) 403 227 [(0, .ref 49), (1, .int x1)] [] g' q' c' l' R) : rr b e (d + 1) 403 221 [(0, .ref 49), (1, .int x1)] [] g q c l R := by
  obtain ⟨f1, hc⟩ := hc
  obtain ⟨f2, h⟩ := h
  obtain ⟨f, hf1, hf2⟩ : ∃ f, f1 ≤ f ∧ f2 ≤ f := ⟨max f1 f2, Nat.le_max_left _ _, Nat.le_max_right _ _⟩
  have hc := nrun_fuel f1 f _ _ _ _ _ _ _ _ _ hf1 hc
  have h := nrun_fuel f2 f _ _ _ _ _ _ _ _ _ hf2 h
  refine ⟨f + 3, ?_⟩
  obtain ⟨y, cb, hj⟩ := mq_403
  rw [n_step (st' := [.ref 49]) (pc' := 222) (lv' := [(0, .ref 49), (1, .int x1)]) (hp' := rH e g q c l) (i := .aload_n 0) (len := 1) rfl hj rfl rfl rfl]
  rw [n_step (st' := [.int (Int8.ofInt (93)).toInt32, .ref 49]) (pc' := 224) (lv' := [(0, .ref 49), (1, .int x1)]) (hp' := rH e g q c l) (i := .bipush 93) (len := 2) rfl hj rfl rfl rfl]
  obtain ⟨y2, cb2, hj2⟩ := mq_353
  rw [n_call (f := f) (d := d) (ki := 0) (idx := 424) (j' := 353) (kd := 0) (M' := (y2, cb2, 2, none, 12, 1, 0, 0)) (avs := [.ref 49, .int (Int8.ofInt (93)).toInt32]) (r := []) (rv := none) (hp1 := rH e g' q' c' l') rfl hj rfl rfl rfl rfl (rq_n rfl rfl hj2 rfl rfl) rfl hc (Nat.le_of_ble_eq_true rfl)]
  exact h
set_option maxRecDepth 100000 in
set_option maxHeartbeats 4000000 in
theorem bk_403_227 {b : Bool} {d : Nat} {x1 : Int32} {e : Nat → x_E} {g : Nat → Int32} {q : Nat → Int64} {c : Nat → Nat → Int32} {l : Nat → Nat → Int64} : rr b e d 403 227 [(0, .ref 49), (1, .int x1)] [] g q c l (some (.int x1), rH e (upd g 104 x1) q c l) := by
  refine ⟨0 + 5, ?_⟩
  obtain ⟨y, cb, hj⟩ := mq_403
  rw [n_step (st' := [.ref 49]) (pc' := 228) (lv' := [(0, .ref 49), (1, .int x1)]) (hp' := rH e g q c l) (i := .aload_n 0) (len := 1) rfl hj rfl rfl rfl]
  rw [n_step (st' := [.int x1, .ref 49]) (pc' := 229) (lv' := [(0, .ref 49), (1, .int x1)]) (hp' := rH e g q c l) (i := .iload_n 1) (len := 1) rfl hj rfl rfl rfl]
  rw [n_put (st' := []) (hp' := rH e (upd g 104 x1) q c l) rfl hj pf_104]
  rw [n_step (st' := [.int x1]) (pc' := 233) (lv' := [(0, .ref 49), (1, .int x1)]) (hp' := rH e (upd g 104 x1) q c l) (i := .iload_n 1) (len := 1) rfl hj rfl rfl rfl]
  exact n_ret rfl hj rfl rfl (x_ret rfl)
set_option maxRecDepth 100000 in
set_option maxHeartbeats 4000000 in
theorem bk_404_0 {b : Bool} {d : Nat} {x3 x4 : Int32} {x1 : Int64} {e : Nat → x_E} {g : Nat → Int32} {q : Nat → Int64} {c : Nat → Nat → Int32} {l : Nat → Nat → Int64} (hz0 : ¬ ((g 96) < 0 ∨ 1400 ≤ ((g 96)).toNatClampNeg)) (hz1 : ¬ ((g 96) < 0 ∨ 1400 ≤ ((g 96)).toNatClampNeg)) (hz2 : ¬ ((g 96) < 0 ∨ 1400 ≤ ((g 96)).toNatClampNeg)) : rr b e d 404 0 [(0, .ref 49), (1, .long x1), (3, .int x3), (4, .int x4)] [] g q c l (none, rH e (upd g 96 (((g 96) + (Int32.ofInt (1))))) q (updA (updA c 94 (upd (c 94) ((g 96)).toNatClampNeg x3)) 95 (upd ((updA c 94 (upd (c 94) ((g 96)).toNatClampNeg x3)) 95) ((g 96)).toNatClampNeg x4)) (updB l 93 (vp_updL (l 93) ((g 96)).toNatClampNeg x1))) := by
  refine ⟨0 + 25, ?_⟩
  obtain ⟨y, cb, hj⟩ := mq_404
  rw [n_step (st' := [.ref 49]) (pc' := 1) (lv' := [(0, .ref 49), (1, .long x1), (3, .int x3), (4, .int x4)]) (hp' := rH e g q c l) (i := .aload_n 0) (len := 1) rfl hj rfl rfl rfl]
  rw [n_get (st' := [.ref 93]) (pc' := 4) (lv' := [(0, .ref 49), (1, .long x1), (3, .int x3), (4, .int x4)]) (hp' := rH e g q c l) (i := .getfield 150) (len := 3) rfl hj rfl rfl rfl rfl]
  rw [n_step (st' := [.ref 49, .ref 93]) (pc' := 5) (lv' := [(0, .ref 49), (1, .long x1), (3, .int x3), (4, .int x4)]) (hp' := rH e g q c l) (i := .aload_n 0) (len := 1) rfl hj rfl rfl rfl]
  rw [n_get (st' := [.int (g 96), .ref 93]) (pc' := 8) (lv' := [(0, .ref 49), (1, .long x1), (3, .int x3), (4, .int x4)]) (hp' := rH e g q c l) (i := .getfield 685) (len := 3) rfl hj rfl rfl rfl rfl]
  rw [n_step (st' := [.long x1, .int (g 96), .ref 93]) (pc' := 9) (lv' := [(0, .ref 49), (1, .long x1), (3, .int x3), (4, .int x4)]) (hp' := rH e g q c l) (i := .lload_n 1) (len := 1) rfl hj rfl rfl rfl]
  rw [n_las (st' := []) (hp' := rH e g q c (updB l 93 (vp_updL (l 93) ((g 96)).toNatClampNeg x1))) rfl hj (asl_93 hz0)]
  rw [n_step (st' := [.ref 49]) (pc' := 11) (lv' := [(0, .ref 49), (1, .long x1), (3, .int x3), (4, .int x4)]) (hp' := rH e g q c (updB l 93 (vp_updL (l 93) ((g 96)).toNatClampNeg x1))) (i := .aload_n 0) (len := 1) rfl hj rfl rfl rfl]
  rw [n_get (st' := [.ref 94]) (pc' := 14) (lv' := [(0, .ref 49), (1, .long x1), (3, .int x3), (4, .int x4)]) (hp' := rH e g q c (updB l 93 (vp_updL (l 93) ((g 96)).toNatClampNeg x1))) (i := .getfield 153) (len := 3) rfl hj rfl rfl rfl rfl]
  rw [n_step (st' := [.ref 49, .ref 94]) (pc' := 15) (lv' := [(0, .ref 49), (1, .long x1), (3, .int x3), (4, .int x4)]) (hp' := rH e g q c (updB l 93 (vp_updL (l 93) ((g 96)).toNatClampNeg x1))) (i := .aload_n 0) (len := 1) rfl hj rfl rfl rfl]
  rw [n_get (st' := [.int (g 96), .ref 94]) (pc' := 18) (lv' := [(0, .ref 49), (1, .long x1), (3, .int x3), (4, .int x4)]) (hp' := rH e g q c (updB l 93 (vp_updL (l 93) ((g 96)).toNatClampNeg x1))) (i := .getfield 685) (len := 3) rfl hj rfl rfl rfl rfl]
  rw [n_step (st' := [.int x3, .int (g 96), .ref 94]) (pc' := 19) (lv' := [(0, .ref 49), (1, .long x1), (3, .int x3), (4, .int x4)]) (hp' := rH e g q c (updB l 93 (vp_updL (l 93) ((g 96)).toNatClampNeg x1))) (i := .iload_n 3) (len := 1) rfl hj rfl rfl rfl]
  rw [n_ias (st' := []) (hp' := rH e g q (updA c 94 (upd (c 94) ((g 96)).toNatClampNeg x3)) (updB l 93 (vp_updL (l 93) ((g 96)).toNatClampNeg x1))) rfl hj (ast_94 hz1)]
  rw [n_step (st' := [.ref 49]) (pc' := 21) (lv' := [(0, .ref 49), (1, .long x1), (3, .int x3), (4, .int x4)]) (hp' := rH e g q (updA c 94 (upd (c 94) ((g 96)).toNatClampNeg x3)) (updB l 93 (vp_updL (l 93) ((g 96)).toNatClampNeg x1))) (i := .aload_n 0) (len := 1) rfl hj rfl rfl rfl]
  rw [n_get (st' := [.ref 95]) (pc' := 24) (lv' := [(0, .ref 49), (1, .long x1), (3, .int x3), (4, .int x4)]) (hp' := rH e g q (updA c 94 (upd (c 94) ((g 96)).toNatClampNeg x3)) (updB l 93 (vp_updL (l 93) ((g 96)).toNatClampNeg x1))) (i := .getfield 156) (len := 3) rfl hj rfl rfl rfl rfl]
  rw [n_step (st' := [.ref 49, .ref 95]) (pc' := 25) (lv' := [(0, .ref 49), (1, .long x1), (3, .int x3), (4, .int x4)]) (hp' := rH e g q (updA c 94 (upd (c 94) ((g 96)).toNatClampNeg x3)) (updB l 93 (vp_updL (l 93) ((g 96)).toNatClampNeg x1))) (i := .aload_n 0) (len := 1) rfl hj rfl rfl rfl]
  rw [n_get (st' := [.int (g 96), .ref 95]) (pc' := 28) (lv' := [(0, .ref 49), (1, .long x1), (3, .int x3), (4, .int x4)]) (hp' := rH e g q (updA c 94 (upd (c 94) ((g 96)).toNatClampNeg x3)) (updB l 93 (vp_updL (l 93) ((g 96)).toNatClampNeg x1))) (i := .getfield 685) (len := 3) rfl hj rfl rfl rfl rfl]
  rw [n_step (st' := [.int x4, .int (g 96), .ref 95]) (pc' := 30) (lv' := [(0, .ref 49), (1, .long x1), (3, .int x3), (4, .int x4)]) (hp' := rH e g q (updA c 94 (upd (c 94) ((g 96)).toNatClampNeg x3)) (updB l 93 (vp_updL (l 93) ((g 96)).toNatClampNeg x1))) (i := .iload 4) (len := 2) rfl hj rfl rfl rfl]
  rw [n_ias (st' := []) (hp' := rH e g q (updA (updA c 94 (upd (c 94) ((g 96)).toNatClampNeg x3)) 95 (upd ((updA c 94 (upd (c 94) ((g 96)).toNatClampNeg x3)) 95) ((g 96)).toNatClampNeg x4)) (updB l 93 (vp_updL (l 93) ((g 96)).toNatClampNeg x1))) rfl hj (ast_95 hz2)]
  rw [n_step (st' := [.ref 49]) (pc' := 32) (lv' := [(0, .ref 49), (1, .long x1), (3, .int x3), (4, .int x4)]) (hp' := rH e g q (updA (updA c 94 (upd (c 94) ((g 96)).toNatClampNeg x3)) 95 (upd ((updA c 94 (upd (c 94) ((g 96)).toNatClampNeg x3)) 95) ((g 96)).toNatClampNeg x4)) (updB l 93 (vp_updL (l 93) ((g 96)).toNatClampNeg x1))) (i := .aload_n 0) (len := 1) rfl hj rfl rfl rfl]
  rw [n_step (st' := [.ref 49, .ref 49]) (pc' := 33) (lv' := [(0, .ref 49), (1, .long x1), (3, .int x3), (4, .int x4)]) (hp' := rH e g q (updA (updA c 94 (upd (c 94) ((g 96)).toNatClampNeg x3)) 95 (upd ((updA c 94 (upd (c 94) ((g 96)).toNatClampNeg x3)) 95) ((g 96)).toNatClampNeg x4)) (updB l 93 (vp_updL (l 93) ((g 96)).toNatClampNeg x1))) (i := .aload_n 0) (len := 1) rfl hj rfl rfl rfl]
  rw [n_get (st' := [.int (g 96), .ref 49]) (pc' := 36) (lv' := [(0, .ref 49), (1, .long x1), (3, .int x3), (4, .int x4)]) (hp' := rH e g q (updA (updA c 94 (upd (c 94) ((g 96)).toNatClampNeg x3)) 95 (upd ((updA c 94 (upd (c 94) ((g 96)).toNatClampNeg x3)) 95) ((g 96)).toNatClampNeg x4)) (updB l 93 (vp_updL (l 93) ((g 96)).toNatClampNeg x1))) (i := .getfield 685) (len := 3) rfl hj rfl rfl rfl rfl]
  rw [n_step (st' := [.int (Int32.ofInt (1)), .int (g 96), .ref 49]) (pc' := 37) (lv' := [(0, .ref 49), (1, .long x1), (3, .int x3), (4, .int x4)]) (hp' := rH e g q (updA (updA c 94 (upd (c 94) ((g 96)).toNatClampNeg x3)) 95 (upd ((updA c 94 (upd (c 94) ((g 96)).toNatClampNeg x3)) 95) ((g 96)).toNatClampNeg x4)) (updB l 93 (vp_updL (l 93) ((g 96)).toNatClampNeg x1))) (i := .iconst 1) (len := 1) rfl hj rfl rfl rfl]
  rw [n_step (st' := [.int ((g 96) + (Int32.ofInt (1))), .ref 49]) (pc' := 38) (lv' := [(0, .ref 49), (1, .long x1), (3, .int x3), (4, .int x4)]) (hp' := rH e g q (updA (updA c 94 (upd (c 94) ((g 96)).toNatClampNeg x3)) 95 (upd ((updA c 94 (upd (c 94) ((g 96)).toNatClampNeg x3)) 95) ((g 96)).toNatClampNeg x4)) (updB l 93 (vp_updL (l 93) ((g 96)).toNatClampNeg x1))) (i := .iadd) (len := 1) rfl hj rfl rfl rfl]
  rw [n_put (st' := []) (hp' := rH e (upd g 96 (((g 96) + (Int32.ofInt (1))))) q (updA (updA c 94 (upd (c 94) ((g 96)).toNatClampNeg x3)) 95 (upd ((updA c 94 (upd (c 94) ((g 96)).toNatClampNeg x3)) 95) ((g 96)).toNatClampNeg x4)) (updB l 93 (vp_updL (l 93) ((g 96)).toNatClampNeg x1))) rfl hj pf_96]
  exact n_ret rfl hj rfl rfl rfl
set_option maxRecDepth 100000 in
set_option maxHeartbeats 4000000 in
theorem bk_405_0 {b : Bool} {d : Nat} {x1 x2 : Int32} {e : Nat → x_E} {g : Nat → Int32} {q : Nat → Int64} {c : Nat → Nat → Int32} {l : Nat → Nat → Int64} {g' : Nat → Int32} {q' : Nat → Int64} {c' : Nat → Nat → Int32} {l' : Nat → Nat → Int64} {R : Option Value × List x_E} (hc : rr b e d 366 0 [(0, .ref 49), (1, .int (Int8.ofInt (123)).toInt32)] [] g q c l (none, rH e g' q' c' l')) (h : rr b e (d + 1) 405 14 [(0, .ref 49), (1, .int x1), (2, .int x2), (3, .int (g 107)), (4, .int (Int32.ofInt (1)))] [] g' q' c' l' R) : rr b e (d + 1) 405 0 [(0, .ref 49), (1, .int x1), (2, .int x2)] [] g q c l R := by
  obtain ⟨f1, hc⟩ := hc
  obtain ⟨f2, h⟩ := h
  obtain ⟨f, hf1, hf2⟩ : ∃ f, f1 ≤ f ∧ f2 ≤ f := ⟨max f1 f2, Nat.le_max_left _ _, Nat.le_max_right _ _⟩
  have hc := nrun_fuel f1 f _ _ _ _ _ _ _ _ _ hf1 hc
  have h := nrun_fuel f2 f _ _ _ _ _ _ _ _ _ hf2 h
  refine ⟨f + 8, ?_⟩
  obtain ⟨y, cb, hj⟩ := mq_405
  rw [n_step (st' := [.ref 49]) (pc' := 1) (lv' := [(0, .ref 49), (1, .int x1), (2, .int x2)]) (hp' := rH e g q c l) (i := .aload_n 0) (len := 1) rfl hj rfl rfl rfl]
  rw [n_get (st' := [.int (g 107)]) (pc' := 4) (lv' := [(0, .ref 49), (1, .int x1), (2, .int x2)]) (hp' := rH e g q c l) (i := .getfield 729) (len := 3) rfl hj rfl rfl rfl rfl]
  rw [n_step (st' := []) (pc' := 5) (lv' := [(3, .int (g 107)), (0, .ref 49), (1, .int x1), (2, .int x2)]) (hp' := rH e g q c l) (i := .istore_n 3) (len := 1) rfl hj rfl rfl rfl]
  rw [n_step (st' := [.int (Int32.ofInt (1))]) (pc' := 6) (lv' := [(3, .int (g 107)), (0, .ref 49), (1, .int x1), (2, .int x2)]) (hp' := rH e g q c l) (i := .iconst 1) (len := 1) rfl hj rfl rfl rfl]
  rw [n_step (st' := []) (pc' := 8) (lv' := [(4, .int (Int32.ofInt (1))), (3, .int (g 107)), (0, .ref 49), (1, .int x1), (2, .int x2)]) (hp' := rH e g q c l) (i := .istore 4) (len := 2) rfl hj rfl rfl rfl]
  rw [n_step (st' := [.ref 49]) (pc' := 9) (lv' := [(4, .int (Int32.ofInt (1))), (3, .int (g 107)), (0, .ref 49), (1, .int x1), (2, .int x2)]) (hp' := rH e g q c l) (i := .aload_n 0) (len := 1) rfl hj rfl rfl rfl]
  rw [n_step (st' := [.int (Int8.ofInt (123)).toInt32, .ref 49]) (pc' := 11) (lv' := [(4, .int (Int32.ofInt (1))), (3, .int (g 107)), (0, .ref 49), (1, .int x1), (2, .int x2)]) (hp' := rH e g q c l) (i := .bipush 123) (len := 2) rfl hj rfl rfl rfl]
  obtain ⟨y2, cb2, hj2⟩ := mq_366
  rw [n_call (f := f) (d := d) (ki := 0) (idx := 483) (j' := 366) (kd := 0) (M' := (y2, cb2, 2, none, 12, 1, 0, 0)) (avs := [.ref 49, .int (Int8.ofInt (123)).toInt32]) (r := []) (rv := none) (hp1 := rH e g' q' c' l') rfl hj rfl rfl rfl rfl (rq_n rfl rfl hj2 rfl rfl) rfl hc (Nat.le_of_ble_eq_true rfl)]
  exact nrun_ext f f _ _ R 405 14 [(0, .ref 49), (1, .int x1), (2, .int x2), (3, .int (g 107)), (4, .int (Int32.ofInt (1)))] [(4, .int (Int32.ofInt (1))), (3, .int (g 107)), (0, .ref 49), (1, .int x1), (2, .int x2)] [] _ 0 0 122 (Nat.le_refl _) (Nat.le_refl _) (Nat.le_of_ble_eq_true rfl) (lvR_mk [0, 1, 2, 3, 4] [4, 3, 0, 1, 2] rfl rfl (by decide) (by decide) (List.forall_mem_cons.mpr ⟨(List.mem_cons_of_mem _ (List.mem_cons_of_mem _ List.mem_cons_self)), (List.forall_mem_cons.mpr ⟨(List.mem_cons_of_mem _ (List.mem_cons_of_mem _ (List.mem_cons_of_mem _ List.mem_cons_self))), (List.forall_mem_cons.mpr ⟨(List.mem_cons_of_mem _ (List.mem_cons_of_mem _ (List.mem_cons_of_mem _ (List.mem_cons_of_mem _ List.mem_cons_self)))), (List.forall_mem_cons.mpr ⟨(List.mem_cons_of_mem _ List.mem_cons_self), (List.forall_mem_cons.mpr ⟨List.mem_cons_self, (fun _ h => nomatch h)⟩)⟩)⟩)⟩)⟩) (List.forall_mem_cons.mpr ⟨Or.inl (List.mem_cons_of_mem _ (List.mem_cons_of_mem _ (List.mem_cons_of_mem _ (List.mem_cons_of_mem _ List.mem_cons_self)))), (List.forall_mem_cons.mpr ⟨Or.inl (List.mem_cons_of_mem _ (List.mem_cons_of_mem _ (List.mem_cons_of_mem _ List.mem_cons_self))), (List.forall_mem_cons.mpr ⟨Or.inl List.mem_cons_self, (List.forall_mem_cons.mpr ⟨Or.inl (List.mem_cons_of_mem _ List.mem_cons_self), (List.forall_mem_cons.mpr ⟨Or.inl (List.mem_cons_of_mem _ (List.mem_cons_of_mem _ List.mem_cons_self)), (fun _ h => nomatch h)⟩)⟩)⟩)⟩)⟩)) h
set_option maxRecDepth 100000 in
set_option maxHeartbeats 4000000 in
theorem bk_405_14 {b : Bool} {d : Nat} {x1 x2 x3 x4 : Int32} {e : Nat → x_E} {g : Nat → Int32} {q : Nat → Int64} {c : Nat → Nat → Int32} {l : Nat → Nat → Int64} {g' : Nat → Int32} {q' : Nat → Int64} {c' : Nat → Nat → Int32} {l' : Nat → Nat → Int64} {v : Int32} {R : Option Value × List x_E} (hc : rr b e d 337 0 [(0, .ref 49)] [] g q c l (some (.int v), rH e g' q' c' l')) (h : rr b e (d + 1) 405 30 [(0, .ref 49), (1, .int x1), (2, .int x2), (3, .int x3), (4, .int x4), (5, .int (g 102)), (6, .int (Int32.ofInt (0))), (7, .int (Int32.ofInt (0)))] [.int v] g' q' c' l' R) : rr b e (d + 1) 405 14 [(0, .ref 49), (1, .int x1), (2, .int x2), (3, .int x3), (4, .int x4)] [] g q c l R := by
  obtain ⟨f1, hc⟩ := hc
  obtain ⟨f2, h⟩ := h
  obtain ⟨f, hf1, hf2⟩ : ∃ f, f1 ≤ f ∧ f2 ≤ f := ⟨max f1 f2, Nat.le_max_left _ _, Nat.le_max_right _ _⟩
  have hc := nrun_fuel f1 f _ _ _ _ _ _ _ _ _ hf1 hc
  have h := nrun_fuel f2 f _ _ _ _ _ _ _ _ _ hf2 h
  refine ⟨f + 9, ?_⟩
  obtain ⟨y, cb, hj⟩ := mq_405
  rw [n_step (st' := [.ref 49]) (pc' := 15) (lv' := [(0, .ref 49), (1, .int x1), (2, .int x2), (3, .int x3), (4, .int x4)]) (hp' := rH e g q c l) (i := .aload_n 0) (len := 1) rfl hj rfl rfl rfl]
  rw [n_get (st' := [.int (g 102)]) (pc' := 18) (lv' := [(0, .ref 49), (1, .int x1), (2, .int x2), (3, .int x3), (4, .int x4)]) (hp' := rH e g q c l) (i := .getfield 716) (len := 3) rfl hj rfl rfl rfl rfl]
  rw [n_step (st' := []) (pc' := 20) (lv' := [(5, .int (g 102)), (0, .ref 49), (1, .int x1), (2, .int x2), (3, .int x3), (4, .int x4)]) (hp' := rH e g q c l) (i := .istore 5) (len := 2) rfl hj rfl rfl rfl]
  rw [n_step (st' := [.int (Int32.ofInt (0))]) (pc' := 21) (lv' := [(5, .int (g 102)), (0, .ref 49), (1, .int x1), (2, .int x2), (3, .int x3), (4, .int x4)]) (hp' := rH e g q c l) (i := .iconst 0) (len := 1) rfl hj rfl rfl rfl]
  rw [n_step (st' := []) (pc' := 23) (lv' := [(6, .int (Int32.ofInt (0))), (5, .int (g 102)), (0, .ref 49), (1, .int x1), (2, .int x2), (3, .int x3), (4, .int x4)]) (hp' := rH e g q c l) (i := .istore 6) (len := 2) rfl hj rfl rfl rfl]
  rw [n_step (st' := [.int (Int32.ofInt (0))]) (pc' := 24) (lv' := [(6, .int (Int32.ofInt (0))), (5, .int (g 102)), (0, .ref 49), (1, .int x1), (2, .int x2), (3, .int x3), (4, .int x4)]) (hp' := rH e g q c l) (i := .iconst 0) (len := 1) rfl hj rfl rfl rfl]
  rw [n_step (st' := []) (pc' := 26) (lv' := [(7, .int (Int32.ofInt (0))), (6, .int (Int32.ofInt (0))), (5, .int (g 102)), (0, .ref 49), (1, .int x1), (2, .int x2), (3, .int x3), (4, .int x4)]) (hp' := rH e g q c l) (i := .istore 7) (len := 2) rfl hj rfl rfl rfl]
  rw [n_step (st' := [.ref 49]) (pc' := 27) (lv' := [(7, .int (Int32.ofInt (0))), (6, .int (Int32.ofInt (0))), (5, .int (g 102)), (0, .ref 49), (1, .int x1), (2, .int x2), (3, .int x3), (4, .int x4)]) (hp' := rH e g q c l) (i := .aload_n 0) (len := 1) rfl hj rfl rfl rfl]
  obtain ⟨y2, cb2, hj2⟩ := mq_337
  rw [n_call (f := f) (d := d) (ki := 0) (idx := 337) (j' := 337) (kd := 0) (M' := (y2, cb2, 1, some .boolean, 12, 0, 0, 0)) (avs := [.ref 49]) (r := []) (rv := some (.int v)) (hp1 := rH e g' q' c' l') rfl hj rfl rfl rfl rfl (rq_n rfl rfl hj2 rfl rfl) rfl hc (Nat.le_of_ble_eq_true rfl)]
  exact nrun_ext f f _ _ R 405 30 [(0, .ref 49), (1, .int x1), (2, .int x2), (3, .int x3), (4, .int x4), (5, .int (g 102)), (6, .int (Int32.ofInt (0))), (7, .int (Int32.ofInt (0)))] [(7, .int (Int32.ofInt (0))), (6, .int (Int32.ofInt (0))), (5, .int (g 102)), (0, .ref 49), (1, .int x1), (2, .int x2), (3, .int x3), (4, .int x4)] [.int v] _ 0 0 122 (Nat.le_refl _) (Nat.le_refl _) (Nat.le_of_ble_eq_true rfl) (lvR_mk [0, 1, 2, 3, 4, 5, 6, 7] [7, 6, 5, 0, 1, 2, 3, 4] rfl rfl (by decide) (by decide) (List.forall_mem_cons.mpr ⟨(List.mem_cons_of_mem _ (List.mem_cons_of_mem _ (List.mem_cons_of_mem _ List.mem_cons_self))), (List.forall_mem_cons.mpr ⟨(List.mem_cons_of_mem _ (List.mem_cons_of_mem _ (List.mem_cons_of_mem _ (List.mem_cons_of_mem _ List.mem_cons_self)))), (List.forall_mem_cons.mpr ⟨(List.mem_cons_of_mem _ (List.mem_cons_of_mem _ (List.mem_cons_of_mem _ (List.mem_cons_of_mem _ (List.mem_cons_of_mem _ List.mem_cons_self))))), (List.forall_mem_cons.mpr ⟨(List.mem_cons_of_mem _ (List.mem_cons_of_mem _ (List.mem_cons_of_mem _ (List.mem_cons_of_mem _ (List.mem_cons_of_mem _ (List.mem_cons_of_mem _ List.mem_cons_self)))))), (List.forall_mem_cons.mpr ⟨(List.mem_cons_of_mem _ (List.mem_cons_of_mem _ (List.mem_cons_of_mem _ (List.mem_cons_of_mem _ (List.mem_cons_of_mem _ (List.mem_cons_of_mem _ (List.mem_cons_of_mem _ List.mem_cons_self))))))), (List.forall_mem_cons.mpr ⟨(List.mem_cons_of_mem _ (List.mem_cons_of_mem _ List.mem_cons_self)), (List.forall_mem_cons.mpr ⟨(List.mem_cons_of_mem _ List.mem_cons_self), (List.forall_mem_cons.mpr ⟨List.mem_cons_self, (fun _ h => nomatch h)⟩)⟩)⟩)⟩)⟩)⟩)⟩)⟩) (List.forall_mem_cons.mpr ⟨Or.inl (List.mem_cons_of_mem _ (List.mem_cons_of_mem _ (List.mem_cons_of_mem _ (List.mem_cons_of_mem _ (List.mem_cons_of_mem _ (List.mem_cons_of_mem _ (List.mem_cons_of_mem _ List.mem_cons_self))))))), (List.forall_mem_cons.mpr ⟨Or.inl (List.mem_cons_of_mem _ (List.mem_cons_of_mem _ (List.mem_cons_of_mem _ (List.mem_cons_of_mem _ (List.mem_cons_of_mem _ (List.mem_cons_of_mem _ List.mem_cons_self)))))), (List.forall_mem_cons.mpr ⟨Or.inl (List.mem_cons_of_mem _ (List.mem_cons_of_mem _ (List.mem_cons_of_mem _ (List.mem_cons_of_mem _ (List.mem_cons_of_mem _ List.mem_cons_self))))), (List.forall_mem_cons.mpr ⟨Or.inl List.mem_cons_self, (List.forall_mem_cons.mpr ⟨Or.inl (List.mem_cons_of_mem _ List.mem_cons_self), (List.forall_mem_cons.mpr ⟨Or.inl (List.mem_cons_of_mem _ (List.mem_cons_of_mem _ List.mem_cons_self)), (List.forall_mem_cons.mpr ⟨Or.inl (List.mem_cons_of_mem _ (List.mem_cons_of_mem _ (List.mem_cons_of_mem _ List.mem_cons_self))), (List.forall_mem_cons.mpr ⟨Or.inl (List.mem_cons_of_mem _ (List.mem_cons_of_mem _ (List.mem_cons_of_mem _ (List.mem_cons_of_mem _ List.mem_cons_self)))), (fun _ h => nomatch h)⟩)⟩)⟩)⟩)⟩)⟩)⟩)⟩)) h
set_option maxRecDepth 100000 in
set_option maxHeartbeats 4000000 in
theorem bk_405_30 {b : Bool} {d : Nat} {t0 x1 x2 x3 x4 x5 x6 x7 : Int32} {e : Nat → x_E} {g : Nat → Int32} {q : Nat → Int64} {c : Nat → Nat → Int32} {l : Nat → Nat → Int64} {R : Option Value × List x_E} (h1 : xCn .ne t0 0 = true → rr b e d 405 46 [(0, .ref 49), (1, .int x1), (2, .int x2), (3, .int x3), (4, .int x4), (5, .int x5), (6, .int x6), (7, .int x7)] [] g q c l R) (h2 : ¬ xCn .ne t0 0 = true → rr b e d 405 33 [(0, .ref 49), (1, .int x1), (2, .int x2), (3, .int x3), (4, .int x4), (5, .int x5), (6, .int x6), (7, .int x7)] [] g q c l R) : rr b e d 405 30 [(0, .ref 49), (1, .int x1), (2, .int x2), (3, .int x3), (4, .int x4), (5, .int x5), (6, .int x6), (7, .int x7)] [.int t0] g q c l R := by
  have key : ∀ f, nrun xZ (xY (xfm b)) xDT (f + 1) d 405 30 [(0, .ref 49), (1, .int x1), (2, .int x2), (3, .int x3), (4, .int x4), (5, .int x5), (6, .int x6), (7, .int x7)] [.int t0] (rH e g q c l) 0 0 = nrun xZ (xY (xfm b)) xDT f d 405 (if xCn .ne t0 0 = true then 46 else 33) [(0, .ref 49), (1, .int x1), (2, .int x2), (3, .int x3), (4, .int x4), (5, .int x5), (6, .int x6), (7, .int x7)] [] (rH e g q c l) 0 0 := by
    intro f
    obtain ⟨y, cb, hj⟩ := mq_405
    rw [n_step (st' := []) (pc' := (if xCn .ne t0 0 = true then 46 else 33)) (lv' := [(0, .ref 49), (1, .int x1), (2, .int x2), (3, .int x3), (4, .int x4), (5, .int x5), (6, .int x6), (7, .int x7)]) (hp' := rH e g q c l) (i := .ifCond .ne 16) (len := 3) rfl hj rfl rfl rfl]
  by_cases hc : xCn .ne t0 0 = true
  · obtain ⟨f, h⟩ := h1 hc
    refine ⟨f + 1, ?_⟩
    rw [key, if_pos hc]
    exact h
  · obtain ⟨f, h⟩ := h2 hc
    refine ⟨f + 1, ?_⟩
    rw [key, if_neg hc]
    exact h
set_option maxRecDepth 100000 in
set_option maxHeartbeats 4000000 in
theorem bk_405_33 {b : Bool} {d : Nat} {x1 x2 x3 x4 x5 x6 x7 : Int32} {e : Nat → x_E} {g : Nat → Int32} {q : Nat → Int64} {c : Nat → Nat → Int32} {l : Nat → Nat → Int64} {g' : Nat → Int32} {q' : Nat → Int64} {c' : Nat → Nat → Int32} {l' : Nat → Nat → Int64} {v : Int32} {R : Option Value × List x_E} (hc : rr b e d 344 0 [(0, .ref 49), (1, .int (Int8.ofInt (125)).toInt32)] [] g q c l (some (.int v), rH e g' q' c' l')) (h : rr b e (d + 1) 405 39 [(0, .ref 49), (1, .int x1), (2, .int x2), (3, .int x3), (4, .int x4), (5, .int x5), (6, .int x6), (7, .int x7)] [.int v] g' q' c' l' R) : rr b e (d + 1) 405 33 [(0, .ref 49), (1, .int x1), (2, .int x2), (3, .int x3), (4, .int x4), (5, .int x5), (6, .int x6), (7, .int x7)] [] g q c l R := by
  obtain ⟨f1, hc⟩ := hc
  obtain ⟨f2, h⟩ := h
  obtain ⟨f, hf1, hf2⟩ : ∃ f, f1 ≤ f ∧ f2 ≤ f := ⟨max f1 f2, Nat.le_max_left _ _, Nat.le_max_right _ _⟩
  have hc := nrun_fuel f1 f _ _ _ _ _ _ _ _ _ hf1 hc
  have h := nrun_fuel f2 f _ _ _ _ _ _ _ _ _ hf2 h
  refine ⟨f + 3, ?_⟩
  obtain ⟨y, cb, hj⟩ := mq_405
  rw [n_step (st' := [.ref 49]) (pc' := 34) (lv' := [(0, .ref 49), (1, .int x1), (2, .int x2), (3, .int x3), (4, .int x4), (5, .int x5), (6, .int x6), (7, .int x7)]) (hp' := rH e g q c l) (i := .aload_n 0) (len := 1) rfl hj rfl rfl rfl]
  rw [n_step (st' := [.int (Int8.ofInt (125)).toInt32, .ref 49]) (pc' := 36) (lv' := [(0, .ref 49), (1, .int x1), (2, .int x2), (3, .int x3), (4, .int x4), (5, .int x5), (6, .int x6), (7, .int x7)]) (hp' := rH e g q c l) (i := .bipush 125) (len := 2) rfl hj rfl rfl rfl]
  obtain ⟨y2, cb2, hj2⟩ := mq_344
  rw [n_call (f := f) (d := d) (ki := 0) (idx := 341) (j' := 344) (kd := 0) (M' := (y2, cb2, 2, some .boolean, 12, 1, 0, 0)) (avs := [.ref 49, .int (Int8.ofInt (125)).toInt32]) (r := []) (rv := some (.int v)) (hp1 := rH e g' q' c' l') rfl hj rfl rfl rfl rfl (rq_n rfl rfl hj2 rfl rfl) rfl hc (Nat.le_of_ble_eq_true rfl)]
  exact h
set_option maxRecDepth 100000 in
set_option maxHeartbeats 4000000 in
theorem bk_405_39 {b : Bool} {d : Nat} {t0 x1 x2 x3 x4 x5 x6 x7 : Int32} {e : Nat → x_E} {g : Nat → Int32} {q : Nat → Int64} {c : Nat → Nat → Int32} {l : Nat → Nat → Int64} {R : Option Value × List x_E} (h1 : xCn .ne t0 0 = true → rr b e d 405 46 [(0, .ref 49), (1, .int x1), (2, .int x2), (3, .int x3), (4, .int x4), (5, .int x5), (6, .int x6), (7, .int x7)] [] g q c l R) (h2 : ¬ xCn .ne t0 0 = true → rr b e d 405 42 [(0, .ref 49), (1, .int x1), (2, .int x2), (3, .int x3), (4, .int x4), (5, .int x5), (6, .int x6), (7, .int x7)] [] g q c l R) : rr b e d 405 39 [(0, .ref 49), (1, .int x1), (2, .int x2), (3, .int x3), (4, .int x4), (5, .int x5), (6, .int x6), (7, .int x7)] [.int t0] g q c l R := by
  have key : ∀ f, nrun xZ (xY (xfm b)) xDT (f + 1) d 405 39 [(0, .ref 49), (1, .int x1), (2, .int x2), (3, .int x3), (4, .int x4), (5, .int x5), (6, .int x6), (7, .int x7)] [.int t0] (rH e g q c l) 0 0 = nrun xZ (xY (xfm b)) xDT f d 405 (if xCn .ne t0 0 = true then 46 else 42) [(0, .ref 49), (1, .int x1), (2, .int x2), (3, .int x3), (4, .int x4), (5, .int x5), (6, .int x6), (7, .int x7)] [] (rH e g q c l) 0 0 := by
    intro f
    obtain ⟨y, cb, hj⟩ := mq_405
    rw [n_step (st' := []) (pc' := (if xCn .ne t0 0 = true then 46 else 42)) (lv' := [(0, .ref 49), (1, .int x1), (2, .int x2), (3, .int x3), (4, .int x4), (5, .int x5), (6, .int x6), (7, .int x7)]) (hp' := rH e g q c l) (i := .ifCond .ne 7) (len := 3) rfl hj rfl rfl rfl]
  by_cases hc : xCn .ne t0 0 = true
  · obtain ⟨f, h⟩ := h1 hc
    refine ⟨f + 1, ?_⟩
    rw [key, if_pos hc]
    exact h
  · obtain ⟨f, h⟩ := h2 hc
    refine ⟨f + 1, ?_⟩
    rw [key, if_neg hc]
    exact h
set_option maxRecDepth 100000 in
set_option maxHeartbeats 4000000 in
theorem bk_405_42 {b : Bool} {d : Nat} {x1 x2 x3 x4 x5 x6 x7 : Int32} {e : Nat → x_E} {g : Nat → Int32} {q : Nat → Int64} {c : Nat → Nat → Int32} {l : Nat → Nat → Int64} {R : Option Value × List x_E} (h : rr b e d 405 47 [(0, .ref 49), (1, .int x1), (2, .int x2), (3, .int x3), (4, .int x4), (5, .int x5), (6, .int x6), (7, .int x7)] [.int (Int32.ofInt (1))] g q c l R) : rr b e d 405 42 [(0, .ref 49), (1, .int x1), (2, .int x2), (3, .int x3), (4, .int x4), (5, .int x5), (6, .int x6), (7, .int x7)] [] g q c l R := by
  obtain ⟨f, h⟩ := h
  refine ⟨f + 2, ?_⟩
  obtain ⟨y, cb, hj⟩ := mq_405
  rw [n_step (st' := [.int (Int32.ofInt (1))]) (pc' := 43) (lv' := [(0, .ref 49), (1, .int x1), (2, .int x2), (3, .int x3), (4, .int x4), (5, .int x5), (6, .int x6), (7, .int x7)]) (hp' := rH e g q c l) (i := .iconst 1) (len := 1) rfl hj rfl rfl rfl]
  rw [n_step (st' := [.int (Int32.ofInt (1))]) (pc' := 47) (lv' := [(0, .ref 49), (1, .int x1), (2, .int x2), (3, .int x3), (4, .int x4), (5, .int x5), (6, .int x6), (7, .int x7)]) (hp' := rH e g q c l) (i := .goto 4) (len := 3) rfl hj rfl rfl rfl]
  exact h
set_option maxRecDepth 100000 in
set_option maxHeartbeats 4000000 in
theorem bk_405_46 {b : Bool} {d : Nat} {x1 x2 x3 x4 x5 x6 x7 : Int32} {e : Nat → x_E} {g : Nat → Int32} {q : Nat → Int64} {c : Nat → Nat → Int32} {l : Nat → Nat → Int64} {R : Option Value × List x_E} (h : rr b e d 405 47 [(0, .ref 49), (1, .int x1), (2, .int x2), (3, .int x3), (4, .int x4), (5, .int x5), (6, .int x6), (7, .int x7)] [.int (Int32.ofInt (0))] g q c l R) : rr b e d 405 46 [(0, .ref 49), (1, .int x1), (2, .int x2), (3, .int x3), (4, .int x4), (5, .int x5), (6, .int x6), (7, .int x7)] [] g q c l R := by
  obtain ⟨f, h⟩ := h
  refine ⟨f + 1, ?_⟩
  obtain ⟨y, cb, hj⟩ := mq_405
  rw [n_step (st' := [.int (Int32.ofInt (0))]) (pc' := 47) (lv' := [(0, .ref 49), (1, .int x1), (2, .int x2), (3, .int x3), (4, .int x4), (5, .int x5), (6, .int x6), (7, .int x7)]) (hp' := rH e g q c l) (i := .iconst 0) (len := 1) rfl hj rfl rfl rfl]
  exact h
set_option maxRecDepth 100000 in
set_option maxHeartbeats 4000000 in
theorem bk_405_47 {b : Bool} {d : Nat} {t0 x1 x2 x3 x4 x5 x6 x7 : Int32} {e : Nat → x_E} {g : Nat → Int32} {q : Nat → Int64} {c : Nat → Nat → Int32} {l : Nat → Nat → Int64} {R : Option Value × List x_E} (h : rr b e d 405 49 [(0, .ref 49), (1, .int x1), (2, .int x2), (3, .int x3), (4, .int x4), (5, .int x5), (6, .int x6), (7, .int x7), (8, .int t0)] [] g q c l R) : rr b e d 405 47 [(0, .ref 49), (1, .int x1), (2, .int x2), (3, .int x3), (4, .int x4), (5, .int x5), (6, .int x6), (7, .int x7)] [.int t0] g q c l R := by
  obtain ⟨f, h⟩ := h
  refine ⟨f + 1, ?_⟩
  obtain ⟨y, cb, hj⟩ := mq_405
  rw [n_step (st' := []) (pc' := 49) (lv' := [(8, .int t0), (0, .ref 49), (1, .int x1), (2, .int x2), (3, .int x3), (4, .int x4), (5, .int x5), (6, .int x6), (7, .int x7)]) (hp' := rH e g q c l) (i := .istore 8) (len := 2) rfl hj rfl rfl rfl]
  exact nrun_ext f f _ _ R 405 49 [(0, .ref 49), (1, .int x1), (2, .int x2), (3, .int x3), (4, .int x4), (5, .int x5), (6, .int x6), (7, .int x7), (8, .int t0)] [(8, .int t0), (0, .ref 49), (1, .int x1), (2, .int x2), (3, .int x3), (4, .int x4), (5, .int x5), (6, .int x6), (7, .int x7)] [] _ 0 0 122 (Nat.le_refl _) (Nat.le_refl _) (Nat.le_of_ble_eq_true rfl) (lvR_mk [0, 1, 2, 3, 4, 5, 6, 7, 8] [8, 0, 1, 2, 3, 4, 5, 6, 7] rfl rfl (by decide) (by decide) (List.forall_mem_cons.mpr ⟨(List.mem_cons_of_mem _ List.mem_cons_self), (List.forall_mem_cons.mpr ⟨(List.mem_cons_of_mem _ (List.mem_cons_of_mem _ List.mem_cons_self)), (List.forall_mem_cons.mpr ⟨(List.mem_cons_of_mem _ (List.mem_cons_of_mem _ (List.mem_cons_of_mem _ List.mem_cons_self))), (List.forall_mem_cons.mpr ⟨(List.mem_cons_of_mem _ (List.mem_cons_of_mem _ (List.mem_cons_of_mem _ (List.mem_cons_of_mem _ List.mem_cons_self)))), (List.forall_mem_cons.mpr ⟨(List.mem_cons_of_mem _ (List.mem_cons_of_mem _ (List.mem_cons_of_mem _ (List.mem_cons_of_mem _ (List.mem_cons_of_mem _ List.mem_cons_self))))), (List.forall_mem_cons.mpr ⟨(List.mem_cons_of_mem _ (List.mem_cons_of_mem _ (List.mem_cons_of_mem _ (List.mem_cons_of_mem _ (List.mem_cons_of_mem _ (List.mem_cons_of_mem _ List.mem_cons_self)))))), (List.forall_mem_cons.mpr ⟨(List.mem_cons_of_mem _ (List.mem_cons_of_mem _ (List.mem_cons_of_mem _ (List.mem_cons_of_mem _ (List.mem_cons_of_mem _ (List.mem_cons_of_mem _ (List.mem_cons_of_mem _ List.mem_cons_self))))))), (List.forall_mem_cons.mpr ⟨(List.mem_cons_of_mem _ (List.mem_cons_of_mem _ (List.mem_cons_of_mem _ (List.mem_cons_of_mem _ (List.mem_cons_of_mem _ (List.mem_cons_of_mem _ (List.mem_cons_of_mem _ (List.mem_cons_of_mem _ List.mem_cons_self)))))))), (List.forall_mem_cons.mpr ⟨List.mem_cons_self, (fun _ h => nomatch h)⟩)⟩)⟩)⟩)⟩)⟩)⟩)⟩)⟩) (List.forall_mem_cons.mpr ⟨Or.inl (List.mem_cons_of_mem _ (List.mem_cons_of_mem _ (List.mem_cons_of_mem _ (List.mem_cons_of_mem _ (List.mem_cons_of_mem _ (List.mem_cons_of_mem _ (List.mem_cons_of_mem _ (List.mem_cons_of_mem _ List.mem_cons_self)))))))), (List.forall_mem_cons.mpr ⟨Or.inl List.mem_cons_self, (List.forall_mem_cons.mpr ⟨Or.inl (List.mem_cons_of_mem _ List.mem_cons_self), (List.forall_mem_cons.mpr ⟨Or.inl (List.mem_cons_of_mem _ (List.mem_cons_of_mem _ List.mem_cons_self)), (List.forall_mem_cons.mpr ⟨Or.inl (List.mem_cons_of_mem _ (List.mem_cons_of_mem _ (List.mem_cons_of_mem _ List.mem_cons_self))), (List.forall_mem_cons.mpr ⟨Or.inl (List.mem_cons_of_mem _ (List.mem_cons_of_mem _ (List.mem_cons_of_mem _ (List.mem_cons_of_mem _ List.mem_cons_self)))), (List.forall_mem_cons.mpr ⟨Or.inl (List.mem_cons_of_mem _ (List.mem_cons_of_mem _ (List.mem_cons_of_mem _ (List.mem_cons_of_mem _ (List.mem_cons_of_mem _ List.mem_cons_self))))), (List.forall_mem_cons.mpr ⟨Or.inl (List.mem_cons_of_mem _ (List.mem_cons_of_mem _ (List.mem_cons_of_mem _ (List.mem_cons_of_mem _ (List.mem_cons_of_mem _ (List.mem_cons_of_mem _ List.mem_cons_self)))))), (List.forall_mem_cons.mpr ⟨Or.inl (List.mem_cons_of_mem _ (List.mem_cons_of_mem _ (List.mem_cons_of_mem _ (List.mem_cons_of_mem _ (List.mem_cons_of_mem _ (List.mem_cons_of_mem _ (List.mem_cons_of_mem _ List.mem_cons_self))))))), (fun _ h => nomatch h)⟩)⟩)⟩)⟩)⟩)⟩)⟩)⟩)⟩)) h
set_option maxRecDepth 100000 in
set_option maxHeartbeats 4000000 in
theorem bk_405_49 {b : Bool} {d : Nat} {x1 x2 x3 x4 x5 x6 x7 x8 : Int32} {e : Nat → x_E} {g : Nat → Int32} {q : Nat → Int64} {c : Nat → Nat → Int32} {l : Nat → Nat → Int64} {R : Option Value × List x_E} (h1 : xCn .eq x8 0 = true → rr b e d 405 327 [(0, .ref 49), (1, .int x1), (2, .int x2), (3, .int x3), (4, .int x4), (5, .int x5), (6, .int x6), (7, .int x7)] [] g q c l R) (h2 : ¬ xCn .eq x8 0 = true → rr b e d 405 54 [(0, .ref 49), (1, .int x1), (2, .int x2), (3, .int x3), (4, .int x4), (5, .int x5), (6, .int x6), (7, .int x7)] [] g q c l R) : rr b e d 405 49 [(0, .ref 49), (1, .int x1), (2, .int x2), (3, .int x3), (4, .int x4), (5, .int x5), (6, .int x6), (7, .int x7), (8, .int x8)] [] g q c l R := by
  have key : ∀ f, nrun xZ (xY (xfm b)) xDT (f + 2) d 405 49 [(0, .ref 49), (1, .int x1), (2, .int x2), (3, .int x3), (4, .int x4), (5, .int x5), (6, .int x6), (7, .int x7), (8, .int x8)] [] (rH e g q c l) 0 0 = nrun xZ (xY (xfm b)) xDT f d 405 (if xCn .eq x8 0 = true then 327 else 54) [(0, .ref 49), (1, .int x1), (2, .int x2), (3, .int x3), (4, .int x4), (5, .int x5), (6, .int x6), (7, .int x7), (8, .int x8)] [] (rH e g q c l) 0 0 := by
    intro f
    obtain ⟨y, cb, hj⟩ := mq_405
    rw [n_step (st' := [.int x8]) (pc' := 51) (lv' := [(0, .ref 49), (1, .int x1), (2, .int x2), (3, .int x3), (4, .int x4), (5, .int x5), (6, .int x6), (7, .int x7), (8, .int x8)]) (hp' := rH e g q c l) (i := .iload 8) (len := 2) rfl hj rfl rfl rfl]
    rw [n_step (st' := []) (pc' := (if xCn .eq x8 0 = true then 327 else 54)) (lv' := [(0, .ref 49), (1, .int x1), (2, .int x2), (3, .int x3), (4, .int x4), (5, .int x5), (6, .int x6), (7, .int x7), (8, .int x8)]) (hp' := rH e g q c l) (i := .ifCond .eq 276) (len := 3) rfl hj rfl rfl rfl]
  by_cases hc : xCn .eq x8 0 = true
  · obtain ⟨f, h⟩ := h1 hc
    refine ⟨f + 2, ?_⟩
    rw [key, if_pos hc]
    exact nrun_ext f f _ _ R 405 327 [(0, .ref 49), (1, .int x1), (2, .int x2), (3, .int x3), (4, .int x4), (5, .int x5), (6, .int x6), (7, .int x7)] [(0, .ref 49), (1, .int x1), (2, .int x2), (3, .int x3), (4, .int x4), (5, .int x5), (6, .int x6), (7, .int x7), (8, .int x8)] [] _ 0 0 122 (Nat.le_refl _) (Nat.le_refl _) (Nat.le_of_ble_eq_true rfl) (lvR_mk [0, 1, 2, 3, 4, 5, 6, 7] [0, 1, 2, 3, 4, 5, 6, 7, 8] rfl rfl (by decide) (by decide) (List.forall_mem_cons.mpr ⟨List.mem_cons_self, (List.forall_mem_cons.mpr ⟨(List.mem_cons_of_mem _ List.mem_cons_self), (List.forall_mem_cons.mpr ⟨(List.mem_cons_of_mem _ (List.mem_cons_of_mem _ List.mem_cons_self)), (List.forall_mem_cons.mpr ⟨(List.mem_cons_of_mem _ (List.mem_cons_of_mem _ (List.mem_cons_of_mem _ List.mem_cons_self))), (List.forall_mem_cons.mpr ⟨(List.mem_cons_of_mem _ (List.mem_cons_of_mem _ (List.mem_cons_of_mem _ (List.mem_cons_of_mem _ List.mem_cons_self)))), (List.forall_mem_cons.mpr ⟨(List.mem_cons_of_mem _ (List.mem_cons_of_mem _ (List.mem_cons_of_mem _ (List.mem_cons_of_mem _ (List.mem_cons_of_mem _ List.mem_cons_self))))), (List.forall_mem_cons.mpr ⟨(List.mem_cons_of_mem _ (List.mem_cons_of_mem _ (List.mem_cons_of_mem _ (List.mem_cons_of_mem _ (List.mem_cons_of_mem _ (List.mem_cons_of_mem _ List.mem_cons_self)))))), (List.forall_mem_cons.mpr ⟨(List.mem_cons_of_mem _ (List.mem_cons_of_mem _ (List.mem_cons_of_mem _ (List.mem_cons_of_mem _ (List.mem_cons_of_mem _ (List.mem_cons_of_mem _ (List.mem_cons_of_mem _ List.mem_cons_self))))))), (fun _ h => nomatch h)⟩)⟩)⟩)⟩)⟩)⟩)⟩)⟩) (List.forall_mem_cons.mpr ⟨Or.inl List.mem_cons_self, (List.forall_mem_cons.mpr ⟨Or.inl (List.mem_cons_of_mem _ List.mem_cons_self), (List.forall_mem_cons.mpr ⟨Or.inl (List.mem_cons_of_mem _ (List.mem_cons_of_mem _ List.mem_cons_self)), (List.forall_mem_cons.mpr ⟨Or.inl (List.mem_cons_of_mem _ (List.mem_cons_of_mem _ (List.mem_cons_of_mem _ List.mem_cons_self))), (List.forall_mem_cons.mpr ⟨Or.inl (List.mem_cons_of_mem _ (List.mem_cons_of_mem _ (List.mem_cons_of_mem _ (List.mem_cons_of_mem _ List.mem_cons_self)))), (List.forall_mem_cons.mpr ⟨Or.inl (List.mem_cons_of_mem _ (List.mem_cons_of_mem _ (List.mem_cons_of_mem _ (List.mem_cons_of_mem _ (List.mem_cons_of_mem _ List.mem_cons_self))))), (List.forall_mem_cons.mpr ⟨Or.inl (List.mem_cons_of_mem _ (List.mem_cons_of_mem _ (List.mem_cons_of_mem _ (List.mem_cons_of_mem _ (List.mem_cons_of_mem _ (List.mem_cons_of_mem _ List.mem_cons_self)))))), (List.forall_mem_cons.mpr ⟨Or.inl (List.mem_cons_of_mem _ (List.mem_cons_of_mem _ (List.mem_cons_of_mem _ (List.mem_cons_of_mem _ (List.mem_cons_of_mem _ (List.mem_cons_of_mem _ (List.mem_cons_of_mem _ List.mem_cons_self))))))), (List.forall_mem_cons.mpr ⟨Or.inr rfl, (fun _ h => nomatch h)⟩)⟩)⟩)⟩)⟩)⟩)⟩)⟩)⟩)) h
  · obtain ⟨f, h⟩ := h2 hc
    refine ⟨f + 2, ?_⟩
    rw [key, if_neg hc]
    exact nrun_ext f f _ _ R 405 54 [(0, .ref 49), (1, .int x1), (2, .int x2), (3, .int x3), (4, .int x4), (5, .int x5), (6, .int x6), (7, .int x7)] [(0, .ref 49), (1, .int x1), (2, .int x2), (3, .int x3), (4, .int x4), (5, .int x5), (6, .int x6), (7, .int x7), (8, .int x8)] [] _ 0 0 122 (Nat.le_refl _) (Nat.le_refl _) (Nat.le_of_ble_eq_true rfl) (lvR_mk [0, 1, 2, 3, 4, 5, 6, 7] [0, 1, 2, 3, 4, 5, 6, 7, 8] rfl rfl (by decide) (by decide) (List.forall_mem_cons.mpr ⟨List.mem_cons_self, (List.forall_mem_cons.mpr ⟨(List.mem_cons_of_mem _ List.mem_cons_self), (List.forall_mem_cons.mpr ⟨(List.mem_cons_of_mem _ (List.mem_cons_of_mem _ List.mem_cons_self)), (List.forall_mem_cons.mpr ⟨(List.mem_cons_of_mem _ (List.mem_cons_of_mem _ (List.mem_cons_of_mem _ List.mem_cons_self))), (List.forall_mem_cons.mpr ⟨(List.mem_cons_of_mem _ (List.mem_cons_of_mem _ (List.mem_cons_of_mem _ (List.mem_cons_of_mem _ List.mem_cons_self)))), (List.forall_mem_cons.mpr ⟨(List.mem_cons_of_mem _ (List.mem_cons_of_mem _ (List.mem_cons_of_mem _ (List.mem_cons_of_mem _ (List.mem_cons_of_mem _ List.mem_cons_self))))), (List.forall_mem_cons.mpr ⟨(List.mem_cons_of_mem _ (List.mem_cons_of_mem _ (List.mem_cons_of_mem _ (List.mem_cons_of_mem _ (List.mem_cons_of_mem _ (List.mem_cons_of_mem _ List.mem_cons_self)))))), (List.forall_mem_cons.mpr ⟨(List.mem_cons_of_mem _ (List.mem_cons_of_mem _ (List.mem_cons_of_mem _ (List.mem_cons_of_mem _ (List.mem_cons_of_mem _ (List.mem_cons_of_mem _ (List.mem_cons_of_mem _ List.mem_cons_self))))))), (fun _ h => nomatch h)⟩)⟩)⟩)⟩)⟩)⟩)⟩)⟩) (List.forall_mem_cons.mpr ⟨Or.inl List.mem_cons_self, (List.forall_mem_cons.mpr ⟨Or.inl (List.mem_cons_of_mem _ List.mem_cons_self), (List.forall_mem_cons.mpr ⟨Or.inl (List.mem_cons_of_mem _ (List.mem_cons_of_mem _ List.mem_cons_self)), (List.forall_mem_cons.mpr ⟨Or.inl (List.mem_cons_of_mem _ (List.mem_cons_of_mem _ (List.mem_cons_of_mem _ List.mem_cons_self))), (List.forall_mem_cons.mpr ⟨Or.inl (List.mem_cons_of_mem _ (List.mem_cons_of_mem _ (List.mem_cons_of_mem _ (List.mem_cons_of_mem _ List.mem_cons_self)))), (List.forall_mem_cons.mpr ⟨Or.inl (List.mem_cons_of_mem _ (List.mem_cons_of_mem _ (List.mem_cons_of_mem _ (List.mem_cons_of_mem _ (List.mem_cons_of_mem _ List.mem_cons_self))))), (List.forall_mem_cons.mpr ⟨Or.inl (List.mem_cons_of_mem _ (List.mem_cons_of_mem _ (List.mem_cons_of_mem _ (List.mem_cons_of_mem _ (List.mem_cons_of_mem _ (List.mem_cons_of_mem _ List.mem_cons_self)))))), (List.forall_mem_cons.mpr ⟨Or.inl (List.mem_cons_of_mem _ (List.mem_cons_of_mem _ (List.mem_cons_of_mem _ (List.mem_cons_of_mem _ (List.mem_cons_of_mem _ (List.mem_cons_of_mem _ (List.mem_cons_of_mem _ List.mem_cons_self))))))), (List.forall_mem_cons.mpr ⟨Or.inr rfl, (fun _ h => nomatch h)⟩)⟩)⟩)⟩)⟩)⟩)⟩)⟩)⟩)) h
set_option maxRecDepth 100000 in
set_option maxHeartbeats 4000000 in
theorem bk_405_54 {b : Bool} {d : Nat} {x1 x2 x3 x4 x5 x6 x7 : Int32} {e : Nat → x_E} {g : Nat → Int32} {q : Nat → Int64} {c : Nat → Nat → Int32} {l : Nat → Nat → Int64} {g' : Nat → Int32} {q' : Nat → Int64} {c' : Nat → Nat → Int32} {l' : Nat → Nat → Int64} {v : Int32} {R : Option Value × List x_E} (hc : rr b e d 337 0 [(0, .ref 49)] [] g q c l (some (.int v), rH e g' q' c' l')) (h : rr b e (d + 1) 405 58 [(0, .ref 49), (1, .int x1), (2, .int x2), (3, .int x3), (4, .int x4), (5, .int x5), (6, .int x6), (7, .int x7)] [.int v] g' q' c' l' R) : rr b e (d + 1) 405 54 [(0, .ref 49), (1, .int x1), (2, .int x2), (3, .int x3), (4, .int x4), (5, .int x5), (6, .int x6), (7, .int x7)] [] g q c l R := by
  obtain ⟨f1, hc⟩ := hc
  obtain ⟨f2, h⟩ := h
  obtain ⟨f, hf1, hf2⟩ : ∃ f, f1 ≤ f ∧ f2 ≤ f := ⟨max f1 f2, Nat.le_max_left _ _, Nat.le_max_right _ _⟩
  have hc := nrun_fuel f1 f _ _ _ _ _ _ _ _ _ hf1 hc
  have h := nrun_fuel f2 f _ _ _ _ _ _ _ _ _ hf2 h
  refine ⟨f + 2, ?_⟩
  obtain ⟨y, cb, hj⟩ := mq_405
  rw [n_step (st' := [.ref 49]) (pc' := 55) (lv' := [(0, .ref 49), (1, .int x1), (2, .int x2), (3, .int x3), (4, .int x4), (5, .int x5), (6, .int x6), (7, .int x7)]) (hp' := rH e g q c l) (i := .aload_n 0) (len := 1) rfl hj rfl rfl rfl]
  obtain ⟨y2, cb2, hj2⟩ := mq_337
  rw [n_call (f := f) (d := d) (ki := 0) (idx := 337) (j' := 337) (kd := 0) (M' := (y2, cb2, 1, some .boolean, 12, 0, 0, 0)) (avs := [.ref 49]) (r := []) (rv := some (.int v)) (hp1 := rH e g' q' c' l') rfl hj rfl rfl rfl rfl (rq_n rfl rfl hj2 rfl rfl) rfl hc (Nat.le_of_ble_eq_true rfl)]
  exact h
set_option maxRecDepth 100000 in
set_option maxHeartbeats 4000000 in
theorem bk_405_58 {b : Bool} {d : Nat} {t0 x1 x2 x3 x4 x5 x6 x7 : Int32} {e : Nat → x_E} {g : Nat → Int32} {q : Nat → Int64} {c : Nat → Nat → Int32} {l : Nat → Nat → Int64} {R : Option Value × List x_E} (h1 : xCn .ne t0 0 = true → rr b e d 405 327 [(0, .ref 49), (1, .int x1), (2, .int x2), (3, .int x3), (4, .int x4), (5, .int x5), (6, .int x6), (7, .int x7)] [] g q c l R) (h2 : ¬ xCn .ne t0 0 = true → rr b e d 405 61 [(0, .ref 49), (1, .int x1), (2, .int x2), (3, .int x3), (4, .int x4), (5, .int x5), (6, .int x6), (7, .int x7)] [] g q c l R) : rr b e d 405 58 [(0, .ref 49), (1, .int x1), (2, .int x2), (3, .int x3), (4, .int x4), (5, .int x5), (6, .int x6), (7, .int x7)] [.int t0] g q c l R := by
  have key : ∀ f, nrun xZ (xY (xfm b)) xDT (f + 1) d 405 58 [(0, .ref 49), (1, .int x1), (2, .int x2), (3, .int x3), (4, .int x4), (5, .int x5), (6, .int x6), (7, .int x7)] [.int t0] (rH e g q c l) 0 0 = nrun xZ (xY (xfm b)) xDT f d 405 (if xCn .ne t0 0 = true then 327 else 61) [(0, .ref 49), (1, .int x1), (2, .int x2), (3, .int x3), (4, .int x4), (5, .int x5), (6, .int x6), (7, .int x7)] [] (rH e g q c l) 0 0 := by
    intro f
    obtain ⟨y, cb, hj⟩ := mq_405
    rw [n_step (st' := []) (pc' := (if xCn .ne t0 0 = true then 327 else 61)) (lv' := [(0, .ref 49), (1, .int x1), (2, .int x2), (3, .int x3), (4, .int x4), (5, .int x5), (6, .int x6), (7, .int x7)]) (hp' := rH e g q c l) (i := .ifCond .ne 269) (len := 3) rfl hj rfl rfl rfl]
  by_cases hc : xCn .ne t0 0 = true
  · obtain ⟨f, h⟩ := h1 hc
    refine ⟨f + 1, ?_⟩
    rw [key, if_pos hc]
    exact h
  · obtain ⟨f, h⟩ := h2 hc
    refine ⟨f + 1, ?_⟩
    rw [key, if_neg hc]
    exact h
set_option maxRecDepth 100000 in
set_option maxHeartbeats 4000000 in
theorem bk_405_61 {b : Bool} {d : Nat} {x1 x2 x3 x4 x5 x6 x7 : Int32} {e : Nat → x_E} {g : Nat → Int32} {q : Nat → Int64} {c : Nat → Nat → Int32} {l : Nat → Nat → Int64} {R : Option Value × List x_E} (h1 : xCn .eq ((g 10)) ((Int32.ofInt (5))) = true → rr b e d 405 79 [(0, .ref 49), (1, .int x1), (2, .int x2), (3, .int x3), (4, .int x4), (5, .int x5), (6, .int x6), (7, .int x7), (9, .int (g 13))] [] g q c l R) (h2 : ¬ xCn .eq ((g 10)) ((Int32.ofInt (5))) = true → rr b e d 405 75 [(0, .ref 49), (1, .int x1), (2, .int x2), (3, .int x3), (4, .int x4), (5, .int x5), (6, .int x6), (7, .int x7), (9, .int (g 13))] [] g q c l R) : rr b e d 405 61 [(0, .ref 49), (1, .int x1), (2, .int x2), (3, .int x3), (4, .int x4), (5, .int x5), (6, .int x6), (7, .int x7)] [] g q c l R := by
  have key : ∀ f, nrun xZ (xY (xfm b)) xDT (f + 7) d 405 61 [(0, .ref 49), (1, .int x1), (2, .int x2), (3, .int x3), (4, .int x4), (5, .int x5), (6, .int x6), (7, .int x7)] [] (rH e g q c l) 0 0 = nrun xZ (xY (xfm b)) xDT f d 405 (if xCn .eq ((g 10)) ((Int32.ofInt (5))) = true then 79 else 75) [(9, .int (g 13)), (0, .ref 49), (1, .int x1), (2, .int x2), (3, .int x3), (4, .int x4), (5, .int x5), (6, .int x6), (7, .int x7)] [] (rH e g q c l) 0 0 := by
    intro f
    obtain ⟨y, cb, hj⟩ := mq_405
    rw [n_step (st' := [.ref 49]) (pc' := 62) (lv' := [(0, .ref 49), (1, .int x1), (2, .int x2), (3, .int x3), (4, .int x4), (5, .int x5), (6, .int x6), (7, .int x7)]) (hp' := rH e g q c l) (i := .aload_n 0) (len := 1) rfl hj rfl rfl rfl]
    rw [n_get (st' := [.int (g 13)]) (pc' := 65) (lv' := [(0, .ref 49), (1, .int x1), (2, .int x2), (3, .int x3), (4, .int x4), (5, .int x5), (6, .int x6), (7, .int x7)]) (hp' := rH e g q c l) (i := .getfield 270) (len := 3) rfl hj rfl rfl rfl rfl]
    rw [n_step (st' := []) (pc' := 67) (lv' := [(9, .int (g 13)), (0, .ref 49), (1, .int x1), (2, .int x2), (3, .int x3), (4, .int x4), (5, .int x5), (6, .int x6), (7, .int x7)]) (hp' := rH e g q c l) (i := .istore 9) (len := 2) rfl hj rfl rfl rfl]
    rw [n_step (st' := [.ref 49]) (pc' := 68) (lv' := [(9, .int (g 13)), (0, .ref 49), (1, .int x1), (2, .int x2), (3, .int x3), (4, .int x4), (5, .int x5), (6, .int x6), (7, .int x7)]) (hp' := rH e g q c l) (i := .aload_n 0) (len := 1) rfl hj rfl rfl rfl]
    rw [n_get (st' := [.int (g 10)]) (pc' := 71) (lv' := [(9, .int (g 13)), (0, .ref 49), (1, .int x1), (2, .int x2), (3, .int x3), (4, .int x4), (5, .int x5), (6, .int x6), (7, .int x7)]) (hp' := rH e g q c l) (i := .getfield 273) (len := 3) rfl hj rfl rfl rfl rfl]
    rw [n_step (st' := [.int (Int32.ofInt (5)), .int (g 10)]) (pc' := 72) (lv' := [(9, .int (g 13)), (0, .ref 49), (1, .int x1), (2, .int x2), (3, .int x3), (4, .int x4), (5, .int x5), (6, .int x6), (7, .int x7)]) (hp' := rH e g q c l) (i := .iconst 5) (len := 1) rfl hj rfl rfl rfl]
    rw [n_step (st' := []) (pc' := (if xCn .eq ((g 10)) ((Int32.ofInt (5))) = true then 79 else 75)) (lv' := [(9, .int (g 13)), (0, .ref 49), (1, .int x1), (2, .int x2), (3, .int x3), (4, .int x4), (5, .int x5), (6, .int x6), (7, .int x7)]) (hp' := rH e g q c l) (i := .if_icmp .eq 7) (len := 3) rfl hj rfl rfl rfl]
  by_cases hc : xCn .eq ((g 10)) ((Int32.ofInt (5))) = true
  · obtain ⟨f, h⟩ := h1 hc
    refine ⟨f + 7, ?_⟩
    rw [key, if_pos hc]
    exact nrun_ext f f _ _ R 405 79 [(0, .ref 49), (1, .int x1), (2, .int x2), (3, .int x3), (4, .int x4), (5, .int x5), (6, .int x6), (7, .int x7), (9, .int (g 13))] [(9, .int (g 13)), (0, .ref 49), (1, .int x1), (2, .int x2), (3, .int x3), (4, .int x4), (5, .int x5), (6, .int x6), (7, .int x7)] [] _ 0 0 122 (Nat.le_refl _) (Nat.le_refl _) (Nat.le_of_ble_eq_true rfl) (lvR_mk [0, 1, 2, 3, 4, 5, 6, 7, 9] [9, 0, 1, 2, 3, 4, 5, 6, 7] rfl rfl (by decide) (by decide) (List.forall_mem_cons.mpr ⟨(List.mem_cons_of_mem _ List.mem_cons_self), (List.forall_mem_cons.mpr ⟨(List.mem_cons_of_mem _ (List.mem_cons_of_mem _ List.mem_cons_self)), (List.forall_mem_cons.mpr ⟨(List.mem_cons_of_mem _ (List.mem_cons_of_mem _ (List.mem_cons_of_mem _ List.mem_cons_self))), (List.forall_mem_cons.mpr ⟨(List.mem_cons_of_mem _ (List.mem_cons_of_mem _ (List.mem_cons_of_mem _ (List.mem_cons_of_mem _ List.mem_cons_self)))), (List.forall_mem_cons.mpr ⟨(List.mem_cons_of_mem _ (List.mem_cons_of_mem _ (List.mem_cons_of_mem _ (List.mem_cons_of_mem _ (List.mem_cons_of_mem _ List.mem_cons_self))))), (List.forall_mem_cons.mpr ⟨(List.mem_cons_of_mem _ (List.mem_cons_of_mem _ (List.mem_cons_of_mem _ (List.mem_cons_of_mem _ (List.mem_cons_of_mem _ (List.mem_cons_of_mem _ List.mem_cons_self)))))), (List.forall_mem_cons.mpr ⟨(List.mem_cons_of_mem _ (List.mem_cons_of_mem _ (List.mem_cons_of_mem _ (List.mem_cons_of_mem _ (List.mem_cons_of_mem _ (List.mem_cons_of_mem _ (List.mem_cons_of_mem _ List.mem_cons_self))))))), (List.forall_mem_cons.mpr ⟨(List.mem_cons_of_mem _ (List.mem_cons_of_mem _ (List.mem_cons_of_mem _ (List.mem_cons_of_mem _ (List.mem_cons_of_mem _ (List.mem_cons_of_mem _ (List.mem_cons_of_mem _ (List.mem_cons_of_mem _ List.mem_cons_self)))))))), (List.forall_mem_cons.mpr ⟨List.mem_cons_self, (fun _ h => nomatch h)⟩)⟩)⟩)⟩)⟩)⟩)⟩)⟩)⟩) (List.forall_mem_cons.mpr ⟨Or.inl (List.mem_cons_of_mem _ (List.mem_cons_of_mem _ (List.mem_cons_of_mem _ (List.mem_cons_of_mem _ (List.mem_cons_of_mem _ (List.mem_cons_of_mem _ (List.mem_cons_of_mem _ (List.mem_cons_of_mem _ List.mem_cons_self)))))))), (List.forall_mem_cons.mpr ⟨Or.inl List.mem_cons_self, (List.forall_mem_cons.mpr ⟨Or.inl (List.mem_cons_of_mem _ List.mem_cons_self), (List.forall_mem_cons.mpr ⟨Or.inl (List.mem_cons_of_mem _ (List.mem_cons_of_mem _ List.mem_cons_self)), (List.forall_mem_cons.mpr ⟨Or.inl (List.mem_cons_of_mem _ (List.mem_cons_of_mem _ (List.mem_cons_of_mem _ List.mem_cons_self))), (List.forall_mem_cons.mpr ⟨Or.inl (List.mem_cons_of_mem _ (List.mem_cons_of_mem _ (List.mem_cons_of_mem _ (List.mem_cons_of_mem _ List.mem_cons_self)))), (List.forall_mem_cons.mpr ⟨Or.inl (List.mem_cons_of_mem _ (List.mem_cons_of_mem _ (List.mem_cons_of_mem _ (List.mem_cons_of_mem _ (List.mem_cons_of_mem _ List.mem_cons_self))))), (List.forall_mem_cons.mpr ⟨Or.inl (List.mem_cons_of_mem _ (List.mem_cons_of_mem _ (List.mem_cons_of_mem _ (List.mem_cons_of_mem _ (List.mem_cons_of_mem _ (List.mem_cons_of_mem _ List.mem_cons_self)))))), (List.forall_mem_cons.mpr ⟨Or.inl (List.mem_cons_of_mem _ (List.mem_cons_of_mem _ (List.mem_cons_of_mem _ (List.mem_cons_of_mem _ (List.mem_cons_of_mem _ (List.mem_cons_of_mem _ (List.mem_cons_of_mem _ List.mem_cons_self))))))), (fun _ h => nomatch h)⟩)⟩)⟩)⟩)⟩)⟩)⟩)⟩)⟩)) h
  · obtain ⟨f, h⟩ := h2 hc
    refine ⟨f + 7, ?_⟩
    rw [key, if_neg hc]
    exact nrun_ext f f _ _ R 405 75 [(0, .ref 49), (1, .int x1), (2, .int x2), (3, .int x3), (4, .int x4), (5, .int x5), (6, .int x6), (7, .int x7), (9, .int (g 13))] [(9, .int (g 13)), (0, .ref 49), (1, .int x1), (2, .int x2), (3, .int x3), (4, .int x4), (5, .int x5), (6, .int x6), (7, .int x7)] [] _ 0 0 122 (Nat.le_refl _) (Nat.le_refl _) (Nat.le_of_ble_eq_true rfl) (lvR_mk [0, 1, 2, 3, 4, 5, 6, 7, 9] [9, 0, 1, 2, 3, 4, 5, 6, 7] rfl rfl (by decide) (by decide) (List.forall_mem_cons.mpr ⟨(List.mem_cons_of_mem _ List.mem_cons_self), (List.forall_mem_cons.mpr ⟨(List.mem_cons_of_mem _ (List.mem_cons_of_mem _ List.mem_cons_self)), (List.forall_mem_cons.mpr ⟨(List.mem_cons_of_mem _ (List.mem_cons_of_mem _ (List.mem_cons_of_mem _ List.mem_cons_self))), (List.forall_mem_cons.mpr ⟨(List.mem_cons_of_mem _ (List.mem_cons_of_mem _ (List.mem_cons_of_mem _ (List.mem_cons_of_mem _ List.mem_cons_self)))), (List.forall_mem_cons.mpr ⟨(List.mem_cons_of_mem _ (List.mem_cons_of_mem _ (List.mem_cons_of_mem _ (List.mem_cons_of_mem _ (List.mem_cons_of_mem _ List.mem_cons_self))))), (List.forall_mem_cons.mpr ⟨(List.mem_cons_of_mem _ (List.mem_cons_of_mem _ (List.mem_cons_of_mem _ (List.mem_cons_of_mem _ (List.mem_cons_of_mem _ (List.mem_cons_of_mem _ List.mem_cons_self)))))), (List.forall_mem_cons.mpr ⟨(List.mem_cons_of_mem _ (List.mem_cons_of_mem _ (List.mem_cons_of_mem _ (List.mem_cons_of_mem _ (List.mem_cons_of_mem _ (List.mem_cons_of_mem _ (List.mem_cons_of_mem _ List.mem_cons_self))))))), (List.forall_mem_cons.mpr ⟨(List.mem_cons_of_mem _ (List.mem_cons_of_mem _ (List.mem_cons_of_mem _ (List.mem_cons_of_mem _ (List.mem_cons_of_mem _ (List.mem_cons_of_mem _ (List.mem_cons_of_mem _ (List.mem_cons_of_mem _ List.mem_cons_self)))))))), (List.forall_mem_cons.mpr ⟨List.mem_cons_self, (fun _ h => nomatch h)⟩)⟩)⟩)⟩)⟩)⟩)⟩)⟩)⟩) (List.forall_mem_cons.mpr ⟨Or.inl (List.mem_cons_of_mem _ (List.mem_cons_of_mem _ (List.mem_cons_of_mem _ (List.mem_cons_of_mem _ (List.mem_cons_of_mem _ (List.mem_cons_of_mem _ (List.mem_cons_of_mem _ (List.mem_cons_of_mem _ List.mem_cons_self)))))))), (List.forall_mem_cons.mpr ⟨Or.inl List.mem_cons_self, (List.forall_mem_cons.mpr ⟨Or.inl (List.mem_cons_of_mem _ List.mem_cons_self), (List.forall_mem_cons.mpr ⟨Or.inl (List.mem_cons_of_mem _ (List.mem_cons_of_mem _ List.mem_cons_self)), (List.forall_mem_cons.mpr ⟨Or.inl (List.mem_cons_of_mem _ (List.mem_cons_of_mem _ (List.mem_cons_of_mem _ List.mem_cons_self))), (List.forall_mem_cons.mpr ⟨Or.inl (List.mem_cons_of_mem _ (List.mem_cons_of_mem _ (List.mem_cons_of_mem _ (List.mem_cons_of_mem _ List.mem_cons_self)))), (List.forall_mem_cons.mpr ⟨Or.inl (List.mem_cons_of_mem _ (List.mem_cons_of_mem _ (List.mem_cons_of_mem _ (List.mem_cons_of_mem _ (List.mem_cons_of_mem _ List.mem_cons_self))))), (List.forall_mem_cons.mpr ⟨Or.inl (List.mem_cons_of_mem _ (List.mem_cons_of_mem _ (List.mem_cons_of_mem _ (List.mem_cons_of_mem _ (List.mem_cons_of_mem _ (List.mem_cons_of_mem _ List.mem_cons_self)))))), (List.forall_mem_cons.mpr ⟨Or.inl (List.mem_cons_of_mem _ (List.mem_cons_of_mem _ (List.mem_cons_of_mem _ (List.mem_cons_of_mem _ (List.mem_cons_of_mem _ (List.mem_cons_of_mem _ (List.mem_cons_of_mem _ List.mem_cons_self))))))), (fun _ h => nomatch h)⟩)⟩)⟩)⟩)⟩)⟩)⟩)⟩)⟩)) h
set_option maxRecDepth 100000 in
set_option maxHeartbeats 4000000 in
theorem bk_405_75 {b : Bool} {d : Nat} {x1 x2 x3 x4 x5 x6 x7 x9 : Int32} {e : Nat → x_E} {g : Nat → Int32} {q : Nat → Int64} {c : Nat → Nat → Int32} {l : Nat → Nat → Int64} {g' : Nat → Int32} {q' : Nat → Int64} {c' : Nat → Nat → Int32} {l' : Nat → Nat → Int64} {R : Option Value × List x_E} (hc : rr b e d 342 0 [(0, .ref 49)] [] g q c l (none, rH e g' q' c' l')) (h : rr b e (d + 1) 405 79 [(0, .ref 49), (1, .int x1), (2, .int x2), (3, .int x3), (4, .int x4), (5, .int x5), (6, .int x6), (7, .int x7), (9, .int x9)] [] g' q' c' l' R) : rr b e (d + 1) 405 75 [(0, .ref 49), (1, .int x1), (2, .int x2), (3, .int x3), (4, .int x4), (5, .int x5), (6, .int x6), (7, .int x7), (9, .int x9)] [] g q c l R := by
  obtain ⟨f1, hc⟩ := hc
  obtain ⟨f2, h⟩ := h
  obtain ⟨f, hf1, hf2⟩ : ∃ f, f1 ≤ f ∧ f2 ≤ f := ⟨max f1 f2, Nat.le_max_left _ _, Nat.le_max_right _ _⟩
  have hc := nrun_fuel f1 f _ _ _ _ _ _ _ _ _ hf1 hc
  have h := nrun_fuel f2 f _ _ _ _ _ _ _ _ _ hf2 h
  refine ⟨f + 2, ?_⟩
  obtain ⟨y, cb, hj⟩ := mq_405
  rw [n_step (st' := [.ref 49]) (pc' := 76) (lv' := [(0, .ref 49), (1, .int x1), (2, .int x2), (3, .int x3), (4, .int x4), (5, .int x5), (6, .int x6), (7, .int x7), (9, .int x9)]) (hp' := rH e g q c l) (i := .aload_n 0) (len := 1) rfl hj rfl rfl rfl]
  obtain ⟨y2, cb2, hj2⟩ := mq_342
  rw [n_call (f := f) (d := d) (ki := 0) (idx := 347) (j' := 342) (kd := 0) (M' := (y2, cb2, 1, none, 12, 0, 0, 0)) (avs := [.ref 49]) (r := []) (rv := none) (hp1 := rH e g' q' c' l') rfl hj rfl rfl rfl rfl (rq_n rfl rfl hj2 rfl rfl) rfl hc (Nat.le_of_ble_eq_true rfl)]
  exact h
set_option maxRecDepth 100000 in
set_option maxHeartbeats 4000000 in
theorem bk_405_79 {b : Bool} {d : Nat} {x1 x2 x3 x4 x5 x6 x7 x9 : Int32} {e : Nat → x_E} {g : Nat → Int32} {q : Nat → Int64} {c : Nat → Nat → Int32} {l : Nat → Nat → Int64} {g' : Nat → Int32} {q' : Nat → Int64} {c' : Nat → Nat → Int32} {l' : Nat → Nat → Int64} {v : Int32} {R : Option Value × List x_E} (hc : rr b e d 337 0 [(0, .ref 49)] [] g q c l (some (.int v), rH e g' q' c' l')) (h : rr b e (d + 1) 405 83 [(0, .ref 49), (1, .int x1), (2, .int x2), (3, .int x3), (4, .int x4), (5, .int x5), (6, .int x6), (7, .int x7), (9, .int x9)] [.int v] g' q' c' l' R) : rr b e (d + 1) 405 79 [(0, .ref 49), (1, .int x1), (2, .int x2), (3, .int x3), (4, .int x4), (5, .int x5), (6, .int x6), (7, .int x7), (9, .int x9)] [] g q c l R := by
  obtain ⟨f1, hc⟩ := hc
  obtain ⟨f2, h⟩ := h
  obtain ⟨f, hf1, hf2⟩ : ∃ f, f1 ≤ f ∧ f2 ≤ f := ⟨max f1 f2, Nat.le_max_left _ _, Nat.le_max_right _ _⟩
  have hc := nrun_fuel f1 f _ _ _ _ _ _ _ _ _ hf1 hc
  have h := nrun_fuel f2 f _ _ _ _ _ _ _ _ _ hf2 h
  refine ⟨f + 2, ?_⟩
  obtain ⟨y, cb, hj⟩ := mq_405
  rw [n_step (st' := [.ref 49]) (pc' := 80) (lv' := [(0, .ref 49), (1, .int x1), (2, .int x2), (3, .int x3), (4, .int x4), (5, .int x5), (6, .int x6), (7, .int x7), (9, .int x9)]) (hp' := rH e g q c l) (i := .aload_n 0) (len := 1) rfl hj rfl rfl rfl]
  obtain ⟨y2, cb2, hj2⟩ := mq_337
  rw [n_call (f := f) (d := d) (ki := 0) (idx := 337) (j' := 337) (kd := 0) (M' := (y2, cb2, 1, some .boolean, 12, 0, 0, 0)) (avs := [.ref 49]) (r := []) (rv := some (.int v)) (hp1 := rH e g' q' c' l') rfl hj rfl rfl rfl rfl (rq_n rfl rfl hj2 rfl rfl) rfl hc (Nat.le_of_ble_eq_true rfl)]
  exact h
set_option maxRecDepth 100000 in
set_option maxHeartbeats 4000000 in
theorem bk_405_83 {b : Bool} {d : Nat} {t0 x1 x2 x3 x4 x5 x6 x7 x9 : Int32} {e : Nat → x_E} {g : Nat → Int32} {q : Nat → Int64} {c : Nat → Nat → Int32} {l : Nat → Nat → Int64} {R : Option Value × List x_E} (h1 : xCn .ne t0 0 = true → rr b e d 405 125 [(0, .ref 49), (1, .int x1), (2, .int x2), (3, .int x3), (4, .int x4), (5, .int x5), (6, .int x6), (7, .int x7), (9, .int x9)] [] g q c l R) (h2 : ¬ xCn .ne t0 0 = true → rr b e d 405 86 [(0, .ref 49), (1, .int x1), (2, .int x2), (3, .int x3), (4, .int x4), (5, .int x5), (6, .int x6), (7, .int x7), (9, .int x9)] [] g q c l R) : rr b e d 405 83 [(0, .ref 49), (1, .int x1), (2, .int x2), (3, .int x3), (4, .int x4), (5, .int x5), (6, .int x6), (7, .int x7), (9, .int x9)] [.int t0] g q c l R := by
  have key : ∀ f, nrun xZ (xY (xfm b)) xDT (f + 1) d 405 83 [(0, .ref 49), (1, .int x1), (2, .int x2), (3, .int x3), (4, .int x4), (5, .int x5), (6, .int x6), (7, .int x7), (9, .int x9)] [.int t0] (rH e g q c l) 0 0 = nrun xZ (xY (xfm b)) xDT f d 405 (if xCn .ne t0 0 = true then 125 else 86) [(0, .ref 49), (1, .int x1), (2, .int x2), (3, .int x3), (4, .int x4), (5, .int x5), (6, .int x6), (7, .int x7), (9, .int x9)] [] (rH e g q c l) 0 0 := by
    intro f
    obtain ⟨y, cb, hj⟩ := mq_405
    rw [n_step (st' := []) (pc' := (if xCn .ne t0 0 = true then 125 else 86)) (lv' := [(0, .ref 49), (1, .int x1), (2, .int x2), (3, .int x3), (4, .int x4), (5, .int x5), (6, .int x6), (7, .int x7), (9, .int x9)]) (hp' := rH e g q c l) (i := .ifCond .ne 42) (len := 3) rfl hj rfl rfl rfl]
  by_cases hc : xCn .ne t0 0 = true
  · obtain ⟨f, h⟩ := h1 hc
    refine ⟨f + 1, ?_⟩
    rw [key, if_pos hc]
    exact h
  · obtain ⟨f, h⟩ := h2 hc
    refine ⟨f + 1, ?_⟩
    rw [key, if_neg hc]
    exact h
set_option maxRecDepth 100000 in
set_option maxHeartbeats 4000000 in
theorem bk_405_86 {b : Bool} {d : Nat} {x1 x2 x3 x4 x5 x6 x7 x9 : Int32} {e : Nat → x_E} {g : Nat → Int32} {q : Nat → Int64} {c : Nat → Nat → Int32} {l : Nat → Nat → Int64} {R : Option Value × List x_E} (h1 : xCn .ne (((x6 >>> (x9 &&& 31)) &&& (Int32.ofInt (1)))) ((Int32.ofInt (1))) = true → rr b e d 405 125 [(0, .ref 49), (1, .int x1), (2, .int x2), (3, .int x3), (4, .int x4), (5, .int x5), (6, .int x6), (7, .int x7), (9, .int x9)] [] g q c l R) (h2 : ¬ xCn .ne (((x6 >>> (x9 &&& 31)) &&& (Int32.ofInt (1)))) ((Int32.ofInt (1))) = true → rr b e d 405 97 [(0, .ref 49), (1, .int x1), (2, .int x2), (3, .int x3), (4, .int x4), (5, .int x5), (6, .int x6), (7, .int x7), (9, .int x9)] [] g q c l R) : rr b e d 405 86 [(0, .ref 49), (1, .int x1), (2, .int x2), (3, .int x3), (4, .int x4), (5, .int x5), (6, .int x6), (7, .int x7), (9, .int x9)] [] g q c l R := by
  have key : ∀ f, nrun xZ (xY (xfm b)) xDT (f + 7) d 405 86 [(0, .ref 49), (1, .int x1), (2, .int x2), (3, .int x3), (4, .int x4), (5, .int x5), (6, .int x6), (7, .int x7), (9, .int x9)] [] (rH e g q c l) 0 0 = nrun xZ (xY (xfm b)) xDT f d 405 (if xCn .ne (((x6 >>> (x9 &&& 31)) &&& (Int32.ofInt (1)))) ((Int32.ofInt (1))) = true then 125 else 97) [(0, .ref 49), (1, .int x1), (2, .int x2), (3, .int x3), (4, .int x4), (5, .int x5), (6, .int x6), (7, .int x7), (9, .int x9)] [] (rH e g q c l) 0 0 := by
    intro f
    obtain ⟨y, cb, hj⟩ := mq_405
    rw [n_step (st' := [.int x6]) (pc' := 88) (lv' := [(0, .ref 49), (1, .int x1), (2, .int x2), (3, .int x3), (4, .int x4), (5, .int x5), (6, .int x6), (7, .int x7), (9, .int x9)]) (hp' := rH e g q c l) (i := .iload 6) (len := 2) rfl hj rfl rfl rfl]
    rw [n_step (st' := [.int x9, .int x6]) (pc' := 90) (lv' := [(0, .ref 49), (1, .int x1), (2, .int x2), (3, .int x3), (4, .int x4), (5, .int x5), (6, .int x6), (7, .int x7), (9, .int x9)]) (hp' := rH e g q c l) (i := .iload 9) (len := 2) rfl hj rfl rfl rfl]
    rw [n_step (st' := [.int (x6 >>> (x9 &&& 31))]) (pc' := 91) (lv' := [(0, .ref 49), (1, .int x1), (2, .int x2), (3, .int x3), (4, .int x4), (5, .int x5), (6, .int x6), (7, .int x7), (9, .int x9)]) (hp' := rH e g q c l) (i := .ishr) (len := 1) rfl hj rfl rfl rfl]
    rw [n_step (st' := [.int (Int32.ofInt (1)), .int (x6 >>> (x9 &&& 31))]) (pc' := 92) (lv' := [(0, .ref 49), (1, .int x1), (2, .int x2), (3, .int x3), (4, .int x4), (5, .int x5), (6, .int x6), (7, .int x7), (9, .int x9)]) (hp' := rH e g q c l) (i := .iconst 1) (len := 1) rfl hj rfl rfl rfl]
    rw [n_step (st' := [.int ((x6 >>> (x9 &&& 31)) &&& (Int32.ofInt (1)))]) (pc' := 93) (lv' := [(0, .ref 49), (1, .int x1), (2, .int x2), (3, .int x3), (4, .int x4), (5, .int x5), (6, .int x6), (7, .int x7), (9, .int x9)]) (hp' := rH e g q c l) (i := .iand) (len := 1) rfl hj rfl rfl rfl]
    rw [n_step (st' := [.int (Int32.ofInt (1)), .int ((x6 >>> (x9 &&& 31)) &&& (Int32.ofInt (1)))]) (pc' := 94) (lv' := [(0, .ref 49), (1, .int x1), (2, .int x2), (3, .int x3), (4, .int x4), (5, .int x5), (6, .int x6), (7, .int x7), (9, .int x9)]) (hp' := rH e g q c l) (i := .iconst 1) (len := 1) rfl hj rfl rfl rfl]
    rw [n_step (st' := []) (pc' := (if xCn .ne (((x6 >>> (x9 &&& 31)) &&& (Int32.ofInt (1)))) ((Int32.ofInt (1))) = true then 125 else 97)) (lv' := [(0, .ref 49), (1, .int x1), (2, .int x2), (3, .int x3), (4, .int x4), (5, .int x5), (6, .int x6), (7, .int x7), (9, .int x9)]) (hp' := rH e g q c l) (i := .if_icmp .ne 31) (len := 3) rfl hj rfl rfl rfl]
  by_cases hc : xCn .ne (((x6 >>> (x9 &&& 31)) &&& (Int32.ofInt (1)))) ((Int32.ofInt (1))) = true
  · obtain ⟨f, h⟩ := h1 hc
    refine ⟨f + 7, ?_⟩
    rw [key, if_pos hc]
    exact h
  · obtain ⟨f, h⟩ := h2 hc
    refine ⟨f + 7, ?_⟩
    rw [key, if_neg hc]
    exact h
set_option maxRecDepth 100000 in
set_option maxHeartbeats 4000000 in
theorem bk_405_97 {b : Bool} {d : Nat} {x1 x2 x3 x4 x5 x6 x7 x9 : Int32} {e : Nat → x_E} {g : Nat → Int32} {q : Nat → Int64} {c : Nat → Nat → Int32} {l : Nat → Nat → Int64} {g' : Nat → Int32} {q' : Nat → Int64} {c' : Nat → Nat → Int32} {l' : Nat → Nat → Int64} {R : Option Value × List x_E} (hc : rr b e d 349 0 [(0, .ref 49), (1, .int (Int32.ofInt (3))), (2, .int (g 11))] [] g q c l (none, rH e g' q' c' l')) (h : rr b e (d + 1) 405 106 [(0, .ref 49), (1, .int x1), (2, .int x2), (3, .int x3), (4, .int x4), (5, .int x5), (6, .int x6), (7, .int x7), (9, .int x9)] [] g' q' c' l' R) : rr b e (d + 1) 405 97 [(0, .ref 49), (1, .int x1), (2, .int x2), (3, .int x3), (4, .int x4), (5, .int x5), (6, .int x6), (7, .int x7), (9, .int x9)] [] g q c l R := by
  obtain ⟨f1, hc⟩ := hc
  obtain ⟨f2, h⟩ := h
  obtain ⟨f, hf1, hf2⟩ : ∃ f, f1 ≤ f ∧ f2 ≤ f := ⟨max f1 f2, Nat.le_max_left _ _, Nat.le_max_right _ _⟩
  have hc := nrun_fuel f1 f _ _ _ _ _ _ _ _ _ hf1 hc
  have h := nrun_fuel f2 f _ _ _ _ _ _ _ _ _ hf2 h
  refine ⟨f + 5, ?_⟩
  obtain ⟨y, cb, hj⟩ := mq_405
  rw [n_step (st' := [.ref 49]) (pc' := 98) (lv' := [(0, .ref 49), (1, .int x1), (2, .int x2), (3, .int x3), (4, .int x4), (5, .int x5), (6, .int x6), (7, .int x7), (9, .int x9)]) (hp' := rH e g q c l) (i := .aload_n 0) (len := 1) rfl hj rfl rfl rfl]
  rw [n_step (st' := [.int (Int32.ofInt (3)), .ref 49]) (pc' := 99) (lv' := [(0, .ref 49), (1, .int x1), (2, .int x2), (3, .int x3), (4, .int x4), (5, .int x5), (6, .int x6), (7, .int x7), (9, .int x9)]) (hp' := rH e g q c l) (i := .iconst 3) (len := 1) rfl hj rfl rfl rfl]
  rw [n_step (st' := [.ref 49, .int (Int32.ofInt (3)), .ref 49]) (pc' := 100) (lv' := [(0, .ref 49), (1, .int x1), (2, .int x2), (3, .int x3), (4, .int x4), (5, .int x5), (6, .int x6), (7, .int x7), (9, .int x9)]) (hp' := rH e g q c l) (i := .aload_n 0) (len := 1) rfl hj rfl rfl rfl]
  rw [n_get (st' := [.int (g 11), .int (Int32.ofInt (3)), .ref 49]) (pc' := 103) (lv' := [(0, .ref 49), (1, .int x1), (2, .int x2), (3, .int x3), (4, .int x4), (5, .int x5), (6, .int x6), (7, .int x7), (9, .int x9)]) (hp' := rH e g q c l) (i := .getfield 257) (len := 3) rfl hj rfl rfl rfl rfl]
  obtain ⟨y2, cb2, hj2⟩ := mq_349
  rw [n_call (f := f) (d := d) (ki := 0) (idx := 427) (j' := 349) (kd := 0) (M' := (y2, cb2, 3, none, 12, 2, 0, 0)) (avs := [.ref 49, .int (Int32.ofInt (3)), .int (g 11)]) (r := []) (rv := none) (hp1 := rH e g' q' c' l') rfl hj rfl rfl rfl rfl (rq_n rfl rfl hj2 rfl rfl) rfl hc (Nat.le_of_ble_eq_true rfl)]
  exact h
set_option maxRecDepth 100000 in
set_option maxHeartbeats 4000000 in
theorem bk_405_106 {b : Bool} {d : Nat} {x1 x2 x3 x4 x5 x6 x7 x9 : Int32} {e : Nat → x_E} {g : Nat → Int32} {q : Nat → Int64} {c : Nat → Nat → Int32} {l : Nat → Nat → Int64} {R : Option Value × List x_E} (h1 : xCn .eq x4 0 = true → rr b e d 405 122 [(0, .ref 49), (1, .int x1), (2, .int x2), (3, .int x3), (5, .int x5), (6, .int x6), (7, .int x7), (9, .int x9)] [] g q c l R) (h2 : ¬ xCn .eq x4 0 = true → rr b e d 405 111 [(0, .ref 49), (1, .int x1), (2, .int x2), (3, .int x3), (5, .int x5), (6, .int x6), (7, .int x7), (9, .int x9)] [] g q c l R) : rr b e d 405 106 [(0, .ref 49), (1, .int x1), (2, .int x2), (3, .int x3), (4, .int x4), (5, .int x5), (6, .int x6), (7, .int x7), (9, .int x9)] [] g q c l R := by
  have key : ∀ f, nrun xZ (xY (xfm b)) xDT (f + 2) d 405 106 [(0, .ref 49), (1, .int x1), (2, .int x2), (3, .int x3), (4, .int x4), (5, .int x5), (6, .int x6), (7, .int x7), (9, .int x9)] [] (rH e g q c l) 0 0 = nrun xZ (xY (xfm b)) xDT f d 405 (if xCn .eq x4 0 = true then 122 else 111) [(0, .ref 49), (1, .int x1), (2, .int x2), (3, .int x3), (4, .int x4), (5, .int x5), (6, .int x6), (7, .int x7), (9, .int x9)] [] (rH e g q c l) 0 0 := by
    intro f
    obtain ⟨y, cb, hj⟩ := mq_405
    rw [n_step (st' := [.int x4]) (pc' := 108) (lv' := [(0, .ref 49), (1, .int x1), (2, .int x2), (3, .int x3), (4, .int x4), (5, .int x5), (6, .int x6), (7, .int x7), (9, .int x9)]) (hp' := rH e g q c l) (i := .iload 4) (len := 2) rfl hj rfl rfl rfl]
    rw [n_step (st' := []) (pc' := (if xCn .eq x4 0 = true then 122 else 111)) (lv' := [(0, .ref 49), (1, .int x1), (2, .int x2), (3, .int x3), (4, .int x4), (5, .int x5), (6, .int x6), (7, .int x7), (9, .int x9)]) (hp' := rH e g q c l) (i := .ifCond .eq 14) (len := 3) rfl hj rfl rfl rfl]
  by_cases hc : xCn .eq x4 0 = true
  · obtain ⟨f, h⟩ := h1 hc
    refine ⟨f + 2, ?_⟩
    rw [key, if_pos hc]
    exact nrun_ext f f _ _ R 405 122 [(0, .ref 49), (1, .int x1), (2, .int x2), (3, .int x3), (5, .int x5), (6, .int x6), (7, .int x7), (9, .int x9)] [(0, .ref 49), (1, .int x1), (2, .int x2), (3, .int x3), (4, .int x4), (5, .int x5), (6, .int x6), (7, .int x7), (9, .int x9)] [] _ 0 0 122 (Nat.le_refl _) (Nat.le_refl _) (Nat.le_of_ble_eq_true rfl) (lvR_mk [0, 1, 2, 3, 5, 6, 7, 9] [0, 1, 2, 3, 4, 5, 6, 7, 9] rfl rfl (by decide) (by decide) (List.forall_mem_cons.mpr ⟨List.mem_cons_self, (List.forall_mem_cons.mpr ⟨(List.mem_cons_of_mem _ List.mem_cons_self), (List.forall_mem_cons.mpr ⟨(List.mem_cons_of_mem _ (List.mem_cons_of_mem _ List.mem_cons_self)), (List.forall_mem_cons.mpr ⟨(List.mem_cons_of_mem _ (List.mem_cons_of_mem _ (List.mem_cons_of_mem _ List.mem_cons_self))), (List.forall_mem_cons.mpr ⟨(List.mem_cons_of_mem _ (List.mem_cons_of_mem _ (List.mem_cons_of_mem _ (List.mem_cons_of_mem _ (List.mem_cons_of_mem _ List.mem_cons_self))))), (List.forall_mem_cons.mpr ⟨(List.mem_cons_of_mem _ (List.mem_cons_of_mem _ (List.mem_cons_of_mem _ (List.mem_cons_of_mem _ (List.mem_cons_of_mem _ (List.mem_cons_of_mem _ List.mem_cons_self)))))), (List.forall_mem_cons.mpr ⟨(List.mem_cons_of_mem _ (List.mem_cons_of_mem _ (List.mem_cons_of_mem _ (List.mem_cons_of_mem _ (List.mem_cons_of_mem _ (List.mem_cons_of_mem _ (List.mem_cons_of_mem _ List.mem_cons_self))))))), (List.forall_mem_cons.mpr ⟨(List.mem_cons_of_mem _ (List.mem_cons_of_mem _ (List.mem_cons_of_mem _ (List.mem_cons_of_mem _ (List.mem_cons_of_mem _ (List.mem_cons_of_mem _ (List.mem_cons_of_mem _ (List.mem_cons_of_mem _ List.mem_cons_self)))))))), (fun _ h => nomatch h)⟩)⟩)⟩)⟩)⟩)⟩)⟩)⟩) (List.forall_mem_cons.mpr ⟨Or.inl List.mem_cons_self, (List.forall_mem_cons.mpr ⟨Or.inl (List.mem_cons_of_mem _ List.mem_cons_self), (List.forall_mem_cons.mpr ⟨Or.inl (List.mem_cons_of_mem _ (List.mem_cons_of_mem _ List.mem_cons_self)), (List.forall_mem_cons.mpr ⟨Or.inl (List.mem_cons_of_mem _ (List.mem_cons_of_mem _ (List.mem_cons_of_mem _ List.mem_cons_self))), (List.forall_mem_cons.mpr ⟨Or.inr rfl, (List.forall_mem_cons.mpr ⟨Or.inl (List.mem_cons_of_mem _ (List.mem_cons_of_mem _ (List.mem_cons_of_mem _ (List.mem_cons_of_mem _ List.mem_cons_self)))), (List.forall_mem_cons.mpr ⟨Or.inl (List.mem_cons_of_mem _ (List.mem_cons_of_mem _ (List.mem_cons_of_mem _ (List.mem_cons_of_mem _ (List.mem_cons_of_mem _ List.mem_cons_self))))), (List.forall_mem_cons.mpr ⟨Or.inl (List.mem_cons_of_mem _ (List.mem_cons_of_mem _ (List.mem_cons_of_mem _ (List.mem_cons_of_mem _ (List.mem_cons_of_mem _ (List.mem_cons_of_mem _ List.mem_cons_self)))))), (List.forall_mem_cons.mpr ⟨Or.inl (List.mem_cons_of_mem _ (List.mem_cons_of_mem _ (List.mem_cons_of_mem _ (List.mem_cons_of_mem _ (List.mem_cons_of_mem _ (List.mem_cons_of_mem _ (List.mem_cons_of_mem _ List.mem_cons_self))))))), (fun _ h => nomatch h)⟩)⟩)⟩)⟩)⟩)⟩)⟩)⟩)⟩)) h
  · obtain ⟨f, h⟩ := h2 hc
    refine ⟨f + 2, ?_⟩
    rw [key, if_neg hc]
    exact nrun_ext f f _ _ R 405 111 [(0, .ref 49), (1, .int x1), (2, .int x2), (3, .int x3), (5, .int x5), (6, .int x6), (7, .int x7), (9, .int x9)] [(0, .ref 49), (1, .int x1), (2, .int x2), (3, .int x3), (4, .int x4), (5, .int x5), (6, .int x6), (7, .int x7), (9, .int x9)] [] _ 0 0 122 (Nat.le_refl _) (Nat.le_refl _) (Nat.le_of_ble_eq_true rfl) (lvR_mk [0, 1, 2, 3, 5, 6, 7, 9] [0, 1, 2, 3, 4, 5, 6, 7, 9] rfl rfl (by decide) (by decide) (List.forall_mem_cons.mpr ⟨List.mem_cons_self, (List.forall_mem_cons.mpr ⟨(List.mem_cons_of_mem _ List.mem_cons_self), (List.forall_mem_cons.mpr ⟨(List.mem_cons_of_mem _ (List.mem_cons_of_mem _ List.mem_cons_self)), (List.forall_mem_cons.mpr ⟨(List.mem_cons_of_mem _ (List.mem_cons_of_mem _ (List.mem_cons_of_mem _ List.mem_cons_self))), (List.forall_mem_cons.mpr ⟨(List.mem_cons_of_mem _ (List.mem_cons_of_mem _ (List.mem_cons_of_mem _ (List.mem_cons_of_mem _ (List.mem_cons_of_mem _ List.mem_cons_self))))), (List.forall_mem_cons.mpr ⟨(List.mem_cons_of_mem _ (List.mem_cons_of_mem _ (List.mem_cons_of_mem _ (List.mem_cons_of_mem _ (List.mem_cons_of_mem _ (List.mem_cons_of_mem _ List.mem_cons_self)))))), (List.forall_mem_cons.mpr ⟨(List.mem_cons_of_mem _ (List.mem_cons_of_mem _ (List.mem_cons_of_mem _ (List.mem_cons_of_mem _ (List.mem_cons_of_mem _ (List.mem_cons_of_mem _ (List.mem_cons_of_mem _ List.mem_cons_self))))))), (List.forall_mem_cons.mpr ⟨(List.mem_cons_of_mem _ (List.mem_cons_of_mem _ (List.mem_cons_of_mem _ (List.mem_cons_of_mem _ (List.mem_cons_of_mem _ (List.mem_cons_of_mem _ (List.mem_cons_of_mem _ (List.mem_cons_of_mem _ List.mem_cons_self)))))))), (fun _ h => nomatch h)⟩)⟩)⟩)⟩)⟩)⟩)⟩)⟩) (List.forall_mem_cons.mpr ⟨Or.inl List.mem_cons_self, (List.forall_mem_cons.mpr ⟨Or.inl (List.mem_cons_of_mem _ List.mem_cons_self), (List.forall_mem_cons.mpr ⟨Or.inl (List.mem_cons_of_mem _ (List.mem_cons_of_mem _ List.mem_cons_self)), (List.forall_mem_cons.mpr ⟨Or.inl (List.mem_cons_of_mem _ (List.mem_cons_of_mem _ (List.mem_cons_of_mem _ List.mem_cons_self))), (List.forall_mem_cons.mpr ⟨Or.inr rfl, (List.forall_mem_cons.mpr ⟨Or.inl (List.mem_cons_of_mem _ (List.mem_cons_of_mem _ (List.mem_cons_of_mem _ (List.mem_cons_of_mem _ List.mem_cons_self)))), (List.forall_mem_cons.mpr ⟨Or.inl (List.mem_cons_of_mem _ (List.mem_cons_of_mem _ (List.mem_cons_of_mem _ (List.mem_cons_of_mem _ (List.mem_cons_of_mem _ List.mem_cons_self))))), (List.forall_mem_cons.mpr ⟨Or.inl (List.mem_cons_of_mem _ (List.mem_cons_of_mem _ (List.mem_cons_of_mem _ (List.mem_cons_of_mem _ (List.mem_cons_of_mem _ (List.mem_cons_of_mem _ List.mem_cons_self)))))), (List.forall_mem_cons.mpr ⟨Or.inl (List.mem_cons_of_mem _ (List.mem_cons_of_mem _ (List.mem_cons_of_mem _ (List.mem_cons_of_mem _ (List.mem_cons_of_mem _ (List.mem_cons_of_mem _ (List.mem_cons_of_mem _ List.mem_cons_self))))))), (fun _ h => nomatch h)⟩)⟩)⟩)⟩)⟩)⟩)⟩)⟩)⟩)) h
