set_option maxRecDepth 100000 in
set_option maxHeartbeats 4000000 in
theorem bk_315_0 {b : Bool} {d : Nat} {x1 x2 x3 x4 x5 : Int32} {e : Nat → x_E} {g : Nat → Int32} {q : Nat → Int64} {c : Nat → Nat → Int32} {l : Nat → Nat → Int64} {R : Option Value × List x_E} (h1 : xCn .le (((g 1) + (Int8.ofInt (20)).toInt32)) ((Int16.ofInt (6000)).toInt32) = true → rr b e d 315 15 [(0, .ref 49), (1, .int x1), (2, .int x2), (3, .int x3), (4, .int x4), (5, .int x5)] [] g q c l R) (h2 : ¬ xCn .le (((g 1) + (Int8.ofInt (20)).toInt32)) ((Int16.ofInt (6000)).toInt32) = true → rr b e d 315 13 [] [] g q c l R) : rr b e d 315 0 [(0, .ref 49), (1, .int x1), (2, .int x2), (3, .int x3), (4, .int x4), (5, .int x5)] [] g q c l R := by
  have key : ∀ f, nrun xZ (xY (xfm b)) xDT (f + 6) d 315 0 [(0, .ref 49), (1, .int x1), (2, .int x2), (3, .int x3), (4, .int x4), (5, .int x5)] [] (rH e g q c l) 0 0 = nrun xZ (xY (xfm b)) xDT f d 315 (if xCn .le (((g 1) + (Int8.ofInt (20)).toInt32)) ((Int16.ofInt (6000)).toInt32) = true then 15 else 13) [(0, .ref 49), (1, .int x1), (2, .int x2), (3, .int x3), (4, .int x4), (5, .int x5)] [] (rH e g q c l) 0 0 := by
    intro f
    obtain ⟨y, cb, hj⟩ := mq_315
    rw [n_step (st' := [.ref 49]) (pc' := 1) (lv' := [(0, .ref 49), (1, .int x1), (2, .int x2), (3, .int x3), (4, .int x4), (5, .int x5)]) (hp' := rH e g q c l) (i := .aload_n 0) (len := 1) rfl hj rfl rfl rfl]
    rw [n_get (st' := [.int (g 1)]) (pc' := 4) (lv' := [(0, .ref 49), (1, .int x1), (2, .int x2), (3, .int x3), (4, .int x4), (5, .int x5)]) (hp' := rH e g q c l) (i := .getfield 237) (len := 3) rfl hj rfl rfl rfl rfl]
    rw [n_step (st' := [.int (Int8.ofInt (20)).toInt32, .int (g 1)]) (pc' := 6) (lv' := [(0, .ref 49), (1, .int x1), (2, .int x2), (3, .int x3), (4, .int x4), (5, .int x5)]) (hp' := rH e g q c l) (i := .bipush 20) (len := 2) rfl hj rfl rfl rfl]
    rw [n_step (st' := [.int ((g 1) + (Int8.ofInt (20)).toInt32)]) (pc' := 7) (lv' := [(0, .ref 49), (1, .int x1), (2, .int x2), (3, .int x3), (4, .int x4), (5, .int x5)]) (hp' := rH e g q c l) (i := .iadd) (len := 1) rfl hj rfl rfl rfl]
    rw [n_step (st' := [.int (Int16.ofInt (6000)).toInt32, .int ((g 1) + (Int8.ofInt (20)).toInt32)]) (pc' := 10) (lv' := [(0, .ref 49), (1, .int x1), (2, .int x2), (3, .int x3), (4, .int x4), (5, .int x5)]) (hp' := rH e g q c l) (i := .sipush 6000) (len := 3) rfl hj rfl rfl rfl]
    rw [n_step (st' := []) (pc' := (if xCn .le (((g 1) + (Int8.ofInt (20)).toInt32)) ((Int16.ofInt (6000)).toInt32) = true then 15 else 13)) (lv' := [(0, .ref 49), (1, .int x1), (2, .int x2), (3, .int x3), (4, .int x4), (5, .int x5)]) (hp' := rH e g q c l) (i := .if_icmp .le 5) (len := 3) rfl hj rfl rfl rfl]
  by_cases hc : xCn .le (((g 1) + (Int8.ofInt (20)).toInt32)) ((Int16.ofInt (6000)).toInt32) = true
  · obtain ⟨f, h⟩ := h1 hc
    refine ⟨f + 6, ?_⟩
    rw [key, if_pos hc]
    exact h
  · obtain ⟨f, h⟩ := h2 hc
    refine ⟨f + 6, ?_⟩
    rw [key, if_neg hc]
    exact nrun_ext f f _ _ R 315 13 [] [(0, .ref 49), (1, .int x1), (2, .int x2), (3, .int x3), (4, .int x4), (5, .int x5)] [] _ 0 0 122 (Nat.le_refl _) (Nat.le_refl _) (Nat.le_of_ble_eq_true rfl) (lvR_mk [] [0, 1, 2, 3, 4, 5] rfl rfl (by decide) (by decide) (fun _ h => nomatch h) (List.forall_mem_cons.mpr ⟨Or.inr rfl, (List.forall_mem_cons.mpr ⟨Or.inr rfl, (List.forall_mem_cons.mpr ⟨Or.inr rfl, (List.forall_mem_cons.mpr ⟨Or.inr rfl, (List.forall_mem_cons.mpr ⟨Or.inr rfl, (List.forall_mem_cons.mpr ⟨Or.inr rfl, (fun _ h => nomatch h)⟩)⟩)⟩)⟩)⟩)⟩)) h
set_option maxRecDepth 100000 in
set_option maxHeartbeats 4000000 in
theorem bk_315_13 {b : Bool} {d : Nat} {e : Nat → x_E} {g : Nat → Int32} {q : Nat → Int64} {c : Nat → Nat → Int32} {l : Nat → Nat → Int64} : rr b e d 315 13 [] [] g q c l (some (.int (Int32.ofInt (0))), rH e g q c l) := by
  refine ⟨0 + 2, ?_⟩
  obtain ⟨y, cb, hj⟩ := mq_315
  rw [n_step (st' := [.int (Int32.ofInt (0))]) (pc' := 14) (lv' := []) (hp' := rH e g q c l) (i := .iconst 0) (len := 1) rfl hj rfl rfl rfl]
  exact n_ret rfl hj rfl rfl (x_ret rfl)
set_option maxRecDepth 100000 in
set_option maxHeartbeats 4000000 in
theorem bk_315_15 {b : Bool} {d : Nat} {x1 x2 x3 x4 x5 : Int32} {e : Nat → x_E} {g : Nat → Int32} {q : Nat → Int64} {c : Nat → Nat → Int32} {l : Nat → Nat → Int64} {g' : Nat → Int32} {q' : Nat → Int64} {c' : Nat → Nat → Int32} {l' : Nat → Nat → Int64} {R : Option Value × List x_E} (hc : rr b e d 316 0 [(0, .ref 49), (1, .int x1)] [] g q c l (none, rH e g' q' c' l')) (h : rr b e (d + 1) 315 20 [(0, .ref 49), (2, .int x2), (3, .int x3), (4, .int x4), (5, .int x5)] [] g' q' c' l' R) : rr b e (d + 1) 315 15 [(0, .ref 49), (1, .int x1), (2, .int x2), (3, .int x3), (4, .int x4), (5, .int x5)] [] g q c l R := by
  obtain ⟨f1, hc⟩ := hc
  obtain ⟨f2, h⟩ := h
  obtain ⟨f, hf1, hf2⟩ : ∃ f, f1 ≤ f ∧ f2 ≤ f := ⟨max f1 f2, Nat.le_max_left _ _, Nat.le_max_right _ _⟩
  have hc := nrun_fuel f1 f _ _ _ _ _ _ _ _ _ hf1 hc
  have h := nrun_fuel f2 f _ _ _ _ _ _ _ _ _ hf2 h
  refine ⟨f + 3, ?_⟩
  obtain ⟨y, cb, hj⟩ := mq_315
  rw [n_step (st' := [.ref 49]) (pc' := 16) (lv' := [(0, .ref 49), (1, .int x1), (2, .int x2), (3, .int x3), (4, .int x4), (5, .int x5)]) (hp' := rH e g q c l) (i := .aload_n 0) (len := 1) rfl hj rfl rfl rfl]
  rw [n_step (st' := [.int x1, .ref 49]) (pc' := 17) (lv' := [(0, .ref 49), (1, .int x1), (2, .int x2), (3, .int x3), (4, .int x4), (5, .int x5)]) (hp' := rH e g q c l) (i := .iload_n 1) (len := 1) rfl hj rfl rfl rfl]
  obtain ⟨y2, cb2, hj2⟩ := mq_316
  rw [n_call (f := f) (d := d) (ki := 0) (idx := 240) (j' := 316) (kd := 0) (M' := (y2, cb2, 3, none, 12, 1, 0, 0)) (avs := [.ref 49, .int x1]) (r := []) (rv := none) (hp1 := rH e g' q' c' l') rfl hj rfl rfl rfl rfl (rq_n rfl rfl hj2 rfl rfl) rfl hc (Nat.le_of_ble_eq_true rfl)]
  exact nrun_ext f f _ _ R 315 20 [(0, .ref 49), (2, .int x2), (3, .int x3), (4, .int x4), (5, .int x5)] [(0, .ref 49), (1, .int x1), (2, .int x2), (3, .int x3), (4, .int x4), (5, .int x5)] [] _ 0 0 122 (Nat.le_refl _) (Nat.le_refl _) (Nat.le_of_ble_eq_true rfl) (lvR_mk [0, 2, 3, 4, 5] [0, 1, 2, 3, 4, 5] rfl rfl (by decide) (by decide) (List.forall_mem_cons.mpr ⟨List.mem_cons_self, (List.forall_mem_cons.mpr ⟨(List.mem_cons_of_mem _ (List.mem_cons_of_mem _ List.mem_cons_self)), (List.forall_mem_cons.mpr ⟨(List.mem_cons_of_mem _ (List.mem_cons_of_mem _ (List.mem_cons_of_mem _ List.mem_cons_self))), (List.forall_mem_cons.mpr ⟨(List.mem_cons_of_mem _ (List.mem_cons_of_mem _ (List.mem_cons_of_mem _ (List.mem_cons_of_mem _ List.mem_cons_self)))), (List.forall_mem_cons.mpr ⟨(List.mem_cons_of_mem _ (List.mem_cons_of_mem _ (List.mem_cons_of_mem _ (List.mem_cons_of_mem _ (List.mem_cons_of_mem _ List.mem_cons_self))))), (fun _ h => nomatch h)⟩)⟩)⟩)⟩)⟩) (List.forall_mem_cons.mpr ⟨Or.inl List.mem_cons_self, (List.forall_mem_cons.mpr ⟨Or.inr rfl, (List.forall_mem_cons.mpr ⟨Or.inl (List.mem_cons_of_mem _ List.mem_cons_self), (List.forall_mem_cons.mpr ⟨Or.inl (List.mem_cons_of_mem _ (List.mem_cons_of_mem _ List.mem_cons_self)), (List.forall_mem_cons.mpr ⟨Or.inl (List.mem_cons_of_mem _ (List.mem_cons_of_mem _ (List.mem_cons_of_mem _ List.mem_cons_self))), (List.forall_mem_cons.mpr ⟨Or.inl (List.mem_cons_of_mem _ (List.mem_cons_of_mem _ (List.mem_cons_of_mem _ (List.mem_cons_of_mem _ List.mem_cons_self)))), (fun _ h => nomatch h)⟩)⟩)⟩)⟩)⟩)⟩)) h
set_option maxRecDepth 100000 in
set_option maxHeartbeats 4000000 in
theorem bk_315_20 {b : Bool} {d : Nat} {x2 x3 x4 x5 : Int32} {e : Nat → x_E} {g : Nat → Int32} {q : Nat → Int64} {c : Nat → Nat → Int32} {l : Nat → Nat → Int64} {g' : Nat → Int32} {q' : Nat → Int64} {c' : Nat → Nat → Int32} {l' : Nat → Nat → Int64} {R : Option Value × List x_E} (hc : rr b e d 316 0 [(0, .ref 49), (1, .int x2)] [] g q c l (none, rH e g' q' c' l')) (h : rr b e (d + 1) 315 25 [(0, .ref 49), (3, .int x3), (4, .int x4), (5, .int x5)] [] g' q' c' l' R) : rr b e (d + 1) 315 20 [(0, .ref 49), (2, .int x2), (3, .int x3), (4, .int x4), (5, .int x5)] [] g q c l R := by
  obtain ⟨f1, hc⟩ := hc
  obtain ⟨f2, h⟩ := h
  obtain ⟨f, hf1, hf2⟩ : ∃ f, f1 ≤ f ∧ f2 ≤ f := ⟨max f1 f2, Nat.le_max_left _ _, Nat.le_max_right _ _⟩
  have hc := nrun_fuel f1 f _ _ _ _ _ _ _ _ _ hf1 hc
  have h := nrun_fuel f2 f _ _ _ _ _ _ _ _ _ hf2 h
  refine ⟨f + 3, ?_⟩
  obtain ⟨y, cb, hj⟩ := mq_315
  rw [n_step (st' := [.ref 49]) (pc' := 21) (lv' := [(0, .ref 49), (2, .int x2), (3, .int x3), (4, .int x4), (5, .int x5)]) (hp' := rH e g q c l) (i := .aload_n 0) (len := 1) rfl hj rfl rfl rfl]
  rw [n_step (st' := [.int x2, .ref 49]) (pc' := 22) (lv' := [(0, .ref 49), (2, .int x2), (3, .int x3), (4, .int x4), (5, .int x5)]) (hp' := rH e g q c l) (i := .iload_n 2) (len := 1) rfl hj rfl rfl rfl]
  obtain ⟨y2, cb2, hj2⟩ := mq_316
  rw [n_call (f := f) (d := d) (ki := 0) (idx := 240) (j' := 316) (kd := 0) (M' := (y2, cb2, 3, none, 12, 1, 0, 0)) (avs := [.ref 49, .int x2]) (r := []) (rv := none) (hp1 := rH e g' q' c' l') rfl hj rfl rfl rfl rfl (rq_n rfl rfl hj2 rfl rfl) rfl hc (Nat.le_of_ble_eq_true rfl)]
  exact nrun_ext f f _ _ R 315 25 [(0, .ref 49), (3, .int x3), (4, .int x4), (5, .int x5)] [(0, .ref 49), (2, .int x2), (3, .int x3), (4, .int x4), (5, .int x5)] [] _ 0 0 122 (Nat.le_refl _) (Nat.le_refl _) (Nat.le_of_ble_eq_true rfl) (lvR_mk [0, 3, 4, 5] [0, 2, 3, 4, 5] rfl rfl (by decide) (by decide) (List.forall_mem_cons.mpr ⟨List.mem_cons_self, (List.forall_mem_cons.mpr ⟨(List.mem_cons_of_mem _ (List.mem_cons_of_mem _ List.mem_cons_self)), (List.forall_mem_cons.mpr ⟨(List.mem_cons_of_mem _ (List.mem_cons_of_mem _ (List.mem_cons_of_mem _ List.mem_cons_self))), (List.forall_mem_cons.mpr ⟨(List.mem_cons_of_mem _ (List.mem_cons_of_mem _ (List.mem_cons_of_mem _ (List.mem_cons_of_mem _ List.mem_cons_self)))), (fun _ h => nomatch h)⟩)⟩)⟩)⟩) (List.forall_mem_cons.mpr ⟨Or.inl List.mem_cons_self, (List.forall_mem_cons.mpr ⟨Or.inr rfl, (List.forall_mem_cons.mpr ⟨Or.inl (List.mem_cons_of_mem _ List.mem_cons_self), (List.forall_mem_cons.mpr ⟨Or.inl (List.mem_cons_of_mem _ (List.mem_cons_of_mem _ List.mem_cons_self)), (List.forall_mem_cons.mpr ⟨Or.inl (List.mem_cons_of_mem _ (List.mem_cons_of_mem _ (List.mem_cons_of_mem _ List.mem_cons_self))), (fun _ h => nomatch h)⟩)⟩)⟩)⟩)⟩)) h
set_option maxRecDepth 100000 in
set_option maxHeartbeats 4000000 in
theorem bk_315_25 {b : Bool} {d : Nat} {x3 x4 x5 : Int32} {e : Nat → x_E} {g : Nat → Int32} {q : Nat → Int64} {c : Nat → Nat → Int32} {l : Nat → Nat → Int64} {g' : Nat → Int32} {q' : Nat → Int64} {c' : Nat → Nat → Int32} {l' : Nat → Nat → Int64} {R : Option Value × List x_E} (hc : rr b e d 316 0 [(0, .ref 49), (1, .int x3)] [] g q c l (none, rH e g' q' c' l')) (h : rr b e (d + 1) 315 30 [(0, .ref 49), (4, .int x4), (5, .int x5)] [] g' q' c' l' R) : rr b e (d + 1) 315 25 [(0, .ref 49), (3, .int x3), (4, .int x4), (5, .int x5)] [] g q c l R := by
  obtain ⟨f1, hc⟩ := hc
  obtain ⟨f2, h⟩ := h
  obtain ⟨f, hf1, hf2⟩ : ∃ f, f1 ≤ f ∧ f2 ≤ f := ⟨max f1 f2, Nat.le_max_left _ _, Nat.le_max_right _ _⟩
  have hc := nrun_fuel f1 f _ _ _ _ _ _ _ _ _ hf1 hc
  have h := nrun_fuel f2 f _ _ _ _ _ _ _ _ _ hf2 h
  refine ⟨f + 3, ?_⟩
  obtain ⟨y, cb, hj⟩ := mq_315
  rw [n_step (st' := [.ref 49]) (pc' := 26) (lv' := [(0, .ref 49), (3, .int x3), (4, .int x4), (5, .int x5)]) (hp' := rH e g q c l) (i := .aload_n 0) (len := 1) rfl hj rfl rfl rfl]
  rw [n_step (st' := [.int x3, .ref 49]) (pc' := 27) (lv' := [(0, .ref 49), (3, .int x3), (4, .int x4), (5, .int x5)]) (hp' := rH e g q c l) (i := .iload_n 3) (len := 1) rfl hj rfl rfl rfl]
  obtain ⟨y2, cb2, hj2⟩ := mq_316
  rw [n_call (f := f) (d := d) (ki := 0) (idx := 240) (j' := 316) (kd := 0) (M' := (y2, cb2, 3, none, 12, 1, 0, 0)) (avs := [.ref 49, .int x3]) (r := []) (rv := none) (hp1 := rH e g' q' c' l') rfl hj rfl rfl rfl rfl (rq_n rfl rfl hj2 rfl rfl) rfl hc (Nat.le_of_ble_eq_true rfl)]
  exact nrun_ext f f _ _ R 315 30 [(0, .ref 49), (4, .int x4), (5, .int x5)] [(0, .ref 49), (3, .int x3), (4, .int x4), (5, .int x5)] [] _ 0 0 122 (Nat.le_refl _) (Nat.le_refl _) (Nat.le_of_ble_eq_true rfl) (lvR_mk [0, 4, 5] [0, 3, 4, 5] rfl rfl (by decide) (by decide) (List.forall_mem_cons.mpr ⟨List.mem_cons_self, (List.forall_mem_cons.mpr ⟨(List.mem_cons_of_mem _ (List.mem_cons_of_mem _ List.mem_cons_self)), (List.forall_mem_cons.mpr ⟨(List.mem_cons_of_mem _ (List.mem_cons_of_mem _ (List.mem_cons_of_mem _ List.mem_cons_self))), (fun _ h => nomatch h)⟩)⟩)⟩) (List.forall_mem_cons.mpr ⟨Or.inl List.mem_cons_self, (List.forall_mem_cons.mpr ⟨Or.inr rfl, (List.forall_mem_cons.mpr ⟨Or.inl (List.mem_cons_of_mem _ List.mem_cons_self), (List.forall_mem_cons.mpr ⟨Or.inl (List.mem_cons_of_mem _ (List.mem_cons_of_mem _ List.mem_cons_self)), (fun _ h => nomatch h)⟩)⟩)⟩)⟩)) h
set_option maxRecDepth 100000 in
set_option maxHeartbeats 4000000 in
theorem bk_315_30 {b : Bool} {d : Nat} {x4 x5 : Int32} {e : Nat → x_E} {g : Nat → Int32} {q : Nat → Int64} {c : Nat → Nat → Int32} {l : Nat → Nat → Int64} {g' : Nat → Int32} {q' : Nat → Int64} {c' : Nat → Nat → Int32} {l' : Nat → Nat → Int64} {R : Option Value × List x_E} (hc : rr b e d 316 0 [(0, .ref 49), (1, .int x4)] [] g q c l (none, rH e g' q' c' l')) (h : rr b e (d + 1) 315 36 [(0, .ref 49), (5, .int x5)] [] g' q' c' l' R) : rr b e (d + 1) 315 30 [(0, .ref 49), (4, .int x4), (5, .int x5)] [] g q c l R := by
  obtain ⟨f1, hc⟩ := hc
  obtain ⟨f2, h⟩ := h
  obtain ⟨f, hf1, hf2⟩ : ∃ f, f1 ≤ f ∧ f2 ≤ f := ⟨max f1 f2, Nat.le_max_left _ _, Nat.le_max_right _ _⟩
  have hc := nrun_fuel f1 f _ _ _ _ _ _ _ _ _ hf1 hc
  have h := nrun_fuel f2 f _ _ _ _ _ _ _ _ _ hf2 h
  refine ⟨f + 3, ?_⟩
  obtain ⟨y, cb, hj⟩ := mq_315
  rw [n_step (st' := [.ref 49]) (pc' := 31) (lv' := [(0, .ref 49), (4, .int x4), (5, .int x5)]) (hp' := rH e g q c l) (i := .aload_n 0) (len := 1) rfl hj rfl rfl rfl]
  rw [n_step (st' := [.int x4, .ref 49]) (pc' := 33) (lv' := [(0, .ref 49), (4, .int x4), (5, .int x5)]) (hp' := rH e g q c l) (i := .iload 4) (len := 2) rfl hj rfl rfl rfl]
  obtain ⟨y2, cb2, hj2⟩ := mq_316
  rw [n_call (f := f) (d := d) (ki := 0) (idx := 240) (j' := 316) (kd := 0) (M' := (y2, cb2, 3, none, 12, 1, 0, 0)) (avs := [.ref 49, .int x4]) (r := []) (rv := none) (hp1 := rH e g' q' c' l') rfl hj rfl rfl rfl rfl (rq_n rfl rfl hj2 rfl rfl) rfl hc (Nat.le_of_ble_eq_true rfl)]
  exact nrun_ext f f _ _ R 315 36 [(0, .ref 49), (5, .int x5)] [(0, .ref 49), (4, .int x4), (5, .int x5)] [] _ 0 0 122 (Nat.le_refl _) (Nat.le_refl _) (Nat.le_of_ble_eq_true rfl) (lvR_mk [0, 5] [0, 4, 5] rfl rfl (by decide) (by decide) (List.forall_mem_cons.mpr ⟨List.mem_cons_self, (List.forall_mem_cons.mpr ⟨(List.mem_cons_of_mem _ (List.mem_cons_of_mem _ List.mem_cons_self)), (fun _ h => nomatch h)⟩)⟩) (List.forall_mem_cons.mpr ⟨Or.inl List.mem_cons_self, (List.forall_mem_cons.mpr ⟨Or.inr rfl, (List.forall_mem_cons.mpr ⟨Or.inl (List.mem_cons_of_mem _ List.mem_cons_self), (fun _ h => nomatch h)⟩)⟩)⟩)) h
set_option maxRecDepth 100000 in
set_option maxHeartbeats 4000000 in
theorem bk_315_36 {b : Bool} {d : Nat} {x5 : Int32} {e : Nat → x_E} {g : Nat → Int32} {q : Nat → Int64} {c : Nat → Nat → Int32} {l : Nat → Nat → Int64} {g' : Nat → Int32} {q' : Nat → Int64} {c' : Nat → Nat → Int32} {l' : Nat → Nat → Int64} {R : Option Value × List x_E} (hc : rr b e d 316 0 [(0, .ref 49), (1, .int x5)] [] g q c l (none, rH e g' q' c' l')) (h : rr b e (d + 1) 315 42 [] [] g' q' c' l' R) : rr b e (d + 1) 315 36 [(0, .ref 49), (5, .int x5)] [] g q c l R := by
  obtain ⟨f1, hc⟩ := hc
  obtain ⟨f2, h⟩ := h
  obtain ⟨f, hf1, hf2⟩ : ∃ f, f1 ≤ f ∧ f2 ≤ f := ⟨max f1 f2, Nat.le_max_left _ _, Nat.le_max_right _ _⟩
  have hc := nrun_fuel f1 f _ _ _ _ _ _ _ _ _ hf1 hc
  have h := nrun_fuel f2 f _ _ _ _ _ _ _ _ _ hf2 h
  refine ⟨f + 3, ?_⟩
  obtain ⟨y, cb, hj⟩ := mq_315
  rw [n_step (st' := [.ref 49]) (pc' := 37) (lv' := [(0, .ref 49), (5, .int x5)]) (hp' := rH e g q c l) (i := .aload_n 0) (len := 1) rfl hj rfl rfl rfl]
  rw [n_step (st' := [.int x5, .ref 49]) (pc' := 39) (lv' := [(0, .ref 49), (5, .int x5)]) (hp' := rH e g q c l) (i := .iload 5) (len := 2) rfl hj rfl rfl rfl]
  obtain ⟨y2, cb2, hj2⟩ := mq_316
  rw [n_call (f := f) (d := d) (ki := 0) (idx := 240) (j' := 316) (kd := 0) (M' := (y2, cb2, 3, none, 12, 1, 0, 0)) (avs := [.ref 49, .int x5]) (r := []) (rv := none) (hp1 := rH e g' q' c' l') rfl hj rfl rfl rfl rfl (rq_n rfl rfl hj2 rfl rfl) rfl hc (Nat.le_of_ble_eq_true rfl)]
  exact nrun_ext f f _ _ R 315 42 [] [(0, .ref 49), (5, .int x5)] [] _ 0 0 122 (Nat.le_refl _) (Nat.le_refl _) (Nat.le_of_ble_eq_true rfl) (lvR_mk [] [0, 5] rfl rfl (by decide) (by decide) (fun _ h => nomatch h) (List.forall_mem_cons.mpr ⟨Or.inr rfl, (List.forall_mem_cons.mpr ⟨Or.inr rfl, (fun _ h => nomatch h)⟩)⟩)) h
set_option maxRecDepth 100000 in
set_option maxHeartbeats 4000000 in
theorem bk_315_42 {b : Bool} {d : Nat} {e : Nat → x_E} {g : Nat → Int32} {q : Nat → Int64} {c : Nat → Nat → Int32} {l : Nat → Nat → Int64} : rr b e d 315 42 [] [] g q c l (some (.int (Int32.ofInt (1))), rH e g q c l) := by
  refine ⟨0 + 2, ?_⟩
  obtain ⟨y, cb, hj⟩ := mq_315
  rw [n_step (st' := [.int (Int32.ofInt (1))]) (pc' := 43) (lv' := []) (hp' := rH e g q c l) (i := .iconst 1) (len := 1) rfl hj rfl rfl rfl]
  exact n_ret rfl hj rfl rfl (x_ret rfl)
set_option maxRecDepth 100000 in
set_option maxHeartbeats 4000000 in
theorem bk_316_0 {b : Bool} {d : Nat} {x1 : Int32} {e : Nat → x_E} {g : Nat → Int32} {q : Nat → Int64} {c : Nat → Nat → Int32} {l : Nat → Nat → Int64} {R : Option Value × List x_E} (h : rr b e d 316 2 [(0, .ref 49), (1, .int x1), (2, .int (Int32.ofInt (3)))] [] g q c l R) : rr b e d 316 0 [(0, .ref 49), (1, .int x1)] [] g q c l R := by
  obtain ⟨f, h⟩ := h
  refine ⟨f + 2, ?_⟩
  obtain ⟨y, cb, hj⟩ := mq_316
  rw [n_step (st' := [.int (Int32.ofInt (3))]) (pc' := 1) (lv' := [(0, .ref 49), (1, .int x1)]) (hp' := rH e g q c l) (i := .iconst 3) (len := 1) rfl hj rfl rfl rfl]
  rw [n_step (st' := []) (pc' := 2) (lv' := [(2, .int (Int32.ofInt (3))), (0, .ref 49), (1, .int x1)]) (hp' := rH e g q c l) (i := .istore_n 2) (len := 1) rfl hj rfl rfl rfl]
  exact nrun_ext f f _ _ R 316 2 [(0, .ref 49), (1, .int x1), (2, .int (Int32.ofInt (3)))] [(2, .int (Int32.ofInt (3))), (0, .ref 49), (1, .int x1)] [] _ 0 0 122 (Nat.le_refl _) (Nat.le_refl _) (Nat.le_of_ble_eq_true rfl) (lvR_mk [0, 1, 2] [2, 0, 1] rfl rfl (by decide) (by decide) (List.forall_mem_cons.mpr ⟨(List.mem_cons_of_mem _ List.mem_cons_self), (List.forall_mem_cons.mpr ⟨(List.mem_cons_of_mem _ (List.mem_cons_of_mem _ List.mem_cons_self)), (List.forall_mem_cons.mpr ⟨List.mem_cons_self, (fun _ h => nomatch h)⟩)⟩)⟩) (List.forall_mem_cons.mpr ⟨Or.inl (List.mem_cons_of_mem _ (List.mem_cons_of_mem _ List.mem_cons_self)), (List.forall_mem_cons.mpr ⟨Or.inl List.mem_cons_self, (List.forall_mem_cons.mpr ⟨Or.inl (List.mem_cons_of_mem _ List.mem_cons_self), (fun _ h => nomatch h)⟩)⟩)⟩)) h
set_option maxRecDepth 100000 in
set_option maxHeartbeats 4000000 in
theorem bk_316_2 {b : Bool} {d : Nat} {x1 x2 : Int32} {e : Nat → x_E} {g : Nat → Int32} {q : Nat → Int64} {c : Nat → Nat → Int32} {l : Nat → Nat → Int64} {R : Option Value × List x_E} (h1 : xCn .lt x2 0 = true → rr b e d 316 41 [] [] g q c l R) (h2 : ¬ xCn .lt x2 0 = true → rr b e d 316 6 [(0, .ref 49), (1, .int x1), (2, .int x2)] [] g q c l R) : rr b e d 316 2 [(0, .ref 49), (1, .int x1), (2, .int x2)] [] g q c l R := by
  have key : ∀ f, nrun xZ (xY (xfm b)) xDT (f + 2) d 316 2 [(0, .ref 49), (1, .int x1), (2, .int x2)] [] (rH e g q c l) 0 0 = nrun xZ (xY (xfm b)) xDT f d 316 (if xCn .lt x2 0 = true then 41 else 6) [(0, .ref 49), (1, .int x1), (2, .int x2)] [] (rH e g q c l) 0 0 := by
    intro f
    obtain ⟨y, cb, hj⟩ := mq_316
    rw [n_step (st' := [.int x2]) (pc' := 3) (lv' := [(0, .ref 49), (1, .int x1), (2, .int x2)]) (hp' := rH e g q c l) (i := .iload_n 2) (len := 1) rfl hj rfl rfl rfl]
    rw [n_step (st' := []) (pc' := (if xCn .lt x2 0 = true then 41 else 6)) (lv' := [(0, .ref 49), (1, .int x1), (2, .int x2)]) (hp' := rH e g q c l) (i := .ifCond .lt 38) (len := 3) rfl hj rfl rfl rfl]
  by_cases hc : xCn .lt x2 0 = true
  · obtain ⟨f, h⟩ := h1 hc
    refine ⟨f + 2, ?_⟩
    rw [key, if_pos hc]
    exact nrun_ext f f _ _ R 316 41 [] [(0, .ref 49), (1, .int x1), (2, .int x2)] [] _ 0 0 122 (Nat.le_refl _) (Nat.le_refl _) (Nat.le_of_ble_eq_true rfl) (lvR_mk [] [0, 1, 2] rfl rfl (by decide) (by decide) (fun _ h => nomatch h) (List.forall_mem_cons.mpr ⟨Or.inr rfl, (List.forall_mem_cons.mpr ⟨Or.inr rfl, (List.forall_mem_cons.mpr ⟨Or.inr rfl, (fun _ h => nomatch h)⟩)⟩)⟩)) h
  · obtain ⟨f, h⟩ := h2 hc
    refine ⟨f + 2, ?_⟩
    rw [key, if_neg hc]
    exact h
set_option maxRecDepth 100000 in
set_option maxHeartbeats 4000000 in
theorem bk_316_6 {b : Bool} {d : Nat} {x1 x2 : Int32} {e : Nat → x_E} {g : Nat → Int32} {q : Nat → Int64} {c : Nat → Nat → Int32} {l : Nat → Nat → Int64} {R : Option Value × List x_E} (hz0 : ¬ ((g 1) < 0 ∨ 6000 ≤ ((g 1)).toNatClampNeg)) (h : rr b e d 316 2 [(0, .ref 49), (1, .int x1), (2, .int (x2 + Int32.ofInt (-1)))] [] (upd g 1 (((g 1) + (Int32.ofInt (1))))) q (updA c 50 (upd (c 50) ((g 1)).toNatClampNeg (((x1 >>> (((Int8.ofInt (8)).toInt32 * x2) &&& 31)) &&& (Int16.ofInt (255)).toInt32)))) l R) : rr b e d 316 6 [(0, .ref 49), (1, .int x1), (2, .int x2)] [] g q c l R := by
  obtain ⟨f, h⟩ := h
  refine ⟨f + 20, ?_⟩
  obtain ⟨y, cb, hj⟩ := mq_316
  rw [n_step (st' := [.ref 49]) (pc' := 7) (lv' := [(0, .ref 49), (1, .int x1), (2, .int x2)]) (hp' := rH e g q c l) (i := .aload_n 0) (len := 1) rfl hj rfl rfl rfl]
  rw [n_get (st' := [.ref 50]) (pc' := 10) (lv' := [(0, .ref 49), (1, .int x1), (2, .int x2)]) (hp' := rH e g q c l) (i := .getfield 7) (len := 3) rfl hj rfl rfl rfl rfl]
  rw [n_step (st' := [.ref 49, .ref 50]) (pc' := 11) (lv' := [(0, .ref 49), (1, .int x1), (2, .int x2)]) (hp' := rH e g q c l) (i := .aload_n 0) (len := 1) rfl hj rfl rfl rfl]
  rw [n_get (st' := [.int (g 1), .ref 50]) (pc' := 14) (lv' := [(0, .ref 49), (1, .int x1), (2, .int x2)]) (hp' := rH e g q c l) (i := .getfield 237) (len := 3) rfl hj rfl rfl rfl rfl]
  rw [n_step (st' := [.int x1, .int (g 1), .ref 50]) (pc' := 15) (lv' := [(0, .ref 49), (1, .int x1), (2, .int x2)]) (hp' := rH e g q c l) (i := .iload_n 1) (len := 1) rfl hj rfl rfl rfl]
  rw [n_step (st' := [.int (Int8.ofInt (8)).toInt32, .int x1, .int (g 1), .ref 50]) (pc' := 17) (lv' := [(0, .ref 49), (1, .int x1), (2, .int x2)]) (hp' := rH e g q c l) (i := .bipush 8) (len := 2) rfl hj rfl rfl rfl]
  rw [n_step (st' := [.int x2, .int (Int8.ofInt (8)).toInt32, .int x1, .int (g 1), .ref 50]) (pc' := 18) (lv' := [(0, .ref 49), (1, .int x1), (2, .int x2)]) (hp' := rH e g q c l) (i := .iload_n 2) (len := 1) rfl hj rfl rfl rfl]
  rw [n_step (st' := [.int ((Int8.ofInt (8)).toInt32 * x2), .int x1, .int (g 1), .ref 50]) (pc' := 19) (lv' := [(0, .ref 49), (1, .int x1), (2, .int x2)]) (hp' := rH e g q c l) (i := .imul) (len := 1) rfl hj rfl rfl rfl]
  rw [n_step (st' := [.int (x1 >>> (((Int8.ofInt (8)).toInt32 * x2) &&& 31)), .int (g 1), .ref 50]) (pc' := 20) (lv' := [(0, .ref 49), (1, .int x1), (2, .int x2)]) (hp' := rH e g q c l) (i := .ishr) (len := 1) rfl hj rfl rfl rfl]
  rw [n_step (st' := [.int (Int16.ofInt (255)).toInt32, .int (x1 >>> (((Int8.ofInt (8)).toInt32 * x2) &&& 31)), .int (g 1), .ref 50]) (pc' := 23) (lv' := [(0, .ref 49), (1, .int x1), (2, .int x2)]) (hp' := rH e g q c l) (i := .sipush 255) (len := 3) rfl hj rfl rfl rfl]
  rw [n_step (st' := [.int ((x1 >>> (((Int8.ofInt (8)).toInt32 * x2) &&& 31)) &&& (Int16.ofInt (255)).toInt32), .int (g 1), .ref 50]) (pc' := 24) (lv' := [(0, .ref 49), (1, .int x1), (2, .int x2)]) (hp' := rH e g q c l) (i := .iand) (len := 1) rfl hj rfl rfl rfl]
  rw [n_ias (st' := []) (hp' := rH e g q (updA c 50 (upd (c 50) ((g 1)).toNatClampNeg (((x1 >>> (((Int8.ofInt (8)).toInt32 * x2) &&& 31)) &&& (Int16.ofInt (255)).toInt32)))) l) rfl hj (ast_50 hz0)]
  rw [n_step (st' := [.ref 49]) (pc' := 26) (lv' := [(0, .ref 49), (1, .int x1), (2, .int x2)]) (hp' := rH e g q (updA c 50 (upd (c 50) ((g 1)).toNatClampNeg (((x1 >>> (((Int8.ofInt (8)).toInt32 * x2) &&& 31)) &&& (Int16.ofInt (255)).toInt32)))) l) (i := .aload_n 0) (len := 1) rfl hj rfl rfl rfl]
  rw [n_step (st' := [.ref 49, .ref 49]) (pc' := 27) (lv' := [(0, .ref 49), (1, .int x1), (2, .int x2)]) (hp' := rH e g q (updA c 50 (upd (c 50) ((g 1)).toNatClampNeg (((x1 >>> (((Int8.ofInt (8)).toInt32 * x2) &&& 31)) &&& (Int16.ofInt (255)).toInt32)))) l) (i := .aload_n 0) (len := 1) rfl hj rfl rfl rfl]
  rw [n_get (st' := [.int (g 1), .ref 49]) (pc' := 30) (lv' := [(0, .ref 49), (1, .int x1), (2, .int x2)]) (hp' := rH e g q (updA c 50 (upd (c 50) ((g 1)).toNatClampNeg (((x1 >>> (((Int8.ofInt (8)).toInt32 * x2) &&& 31)) &&& (Int16.ofInt (255)).toInt32)))) l) (i := .getfield 237) (len := 3) rfl hj rfl rfl rfl rfl]
  rw [n_step (st' := [.int (Int32.ofInt (1)), .int (g 1), .ref 49]) (pc' := 31) (lv' := [(0, .ref 49), (1, .int x1), (2, .int x2)]) (hp' := rH e g q (updA c 50 (upd (c 50) ((g 1)).toNatClampNeg (((x1 >>> (((Int8.ofInt (8)).toInt32 * x2) &&& 31)) &&& (Int16.ofInt (255)).toInt32)))) l) (i := .iconst 1) (len := 1) rfl hj rfl rfl rfl]
  rw [n_step (st' := [.int ((g 1) + (Int32.ofInt (1))), .ref 49]) (pc' := 32) (lv' := [(0, .ref 49), (1, .int x1), (2, .int x2)]) (hp' := rH e g q (updA c 50 (upd (c 50) ((g 1)).toNatClampNeg (((x1 >>> (((Int8.ofInt (8)).toInt32 * x2) &&& 31)) &&& (Int16.ofInt (255)).toInt32)))) l) (i := .iadd) (len := 1) rfl hj rfl rfl rfl]
  rw [n_put (st' := []) (hp' := rH e (upd g 1 (((g 1) + (Int32.ofInt (1))))) q (updA c 50 (upd (c 50) ((g 1)).toNatClampNeg (((x1 >>> (((Int8.ofInt (8)).toInt32 * x2) &&& 31)) &&& (Int16.ofInt (255)).toInt32)))) l) rfl hj pf_1]
  rw [n_step (st' := []) (pc' := 38) (lv' := [(2, .int (x2 + Int32.ofInt (-1))), (0, .ref 49), (1, .int x1)]) (hp' := rH e (upd g 1 (((g 1) + (Int32.ofInt (1))))) q (updA c 50 (upd (c 50) ((g 1)).toNatClampNeg (((x1 >>> (((Int8.ofInt (8)).toInt32 * x2) &&& 31)) &&& (Int16.ofInt (255)).toInt32)))) l) (i := .iinc 2 (-1)) (len := 3) rfl hj rfl rfl rfl]
  rw [n_step (st' := []) (pc' := 2) (lv' := [(2, .int (x2 + Int32.ofInt (-1))), (0, .ref 49), (1, .int x1)]) (hp' := rH e (upd g 1 (((g 1) + (Int32.ofInt (1))))) q (updA c 50 (upd (c 50) ((g 1)).toNatClampNeg (((x1 >>> (((Int8.ofInt (8)).toInt32 * x2) &&& 31)) &&& (Int16.ofInt (255)).toInt32)))) l) (i := .goto (-36)) (len := 3) rfl hj rfl rfl rfl]
  exact nrun_ext f f _ _ R 316 2 [(0, .ref 49), (1, .int x1), (2, .int (x2 + Int32.ofInt (-1)))] [(2, .int (x2 + Int32.ofInt (-1))), (0, .ref 49), (1, .int x1)] [] _ 0 0 122 (Nat.le_refl _) (Nat.le_refl _) (Nat.le_of_ble_eq_true rfl) (lvR_mk [0, 1, 2] [2, 0, 1] rfl rfl (by decide) (by decide) (List.forall_mem_cons.mpr ⟨(List.mem_cons_of_mem _ List.mem_cons_self), (List.forall_mem_cons.mpr ⟨(List.mem_cons_of_mem _ (List.mem_cons_of_mem _ List.mem_cons_self)), (List.forall_mem_cons.mpr ⟨List.mem_cons_self, (fun _ h => nomatch h)⟩)⟩)⟩) (List.forall_mem_cons.mpr ⟨Or.inl (List.mem_cons_of_mem _ (List.mem_cons_of_mem _ List.mem_cons_self)), (List.forall_mem_cons.mpr ⟨Or.inl List.mem_cons_self, (List.forall_mem_cons.mpr ⟨Or.inl (List.mem_cons_of_mem _ List.mem_cons_self), (fun _ h => nomatch h)⟩)⟩)⟩)) h
set_option maxRecDepth 100000 in
set_option maxHeartbeats 4000000 in
theorem bk_316_41 {b : Bool} {d : Nat} {e : Nat → x_E} {g : Nat → Int32} {q : Nat → Int64} {c : Nat → Nat → Int32} {l : Nat → Nat → Int64} : rr b e d 316 41 [] [] g q c l (none, rH e g q c l) := by
  refine ⟨0 + 1, ?_⟩
  obtain ⟨y, cb, hj⟩ := mq_316
  exact n_ret rfl hj rfl rfl rfl
set_option maxRecDepth 100000 in
set_option maxHeartbeats 4000000 in
theorem bk_317_0 {b : Bool} {d : Nat} {x1 : Int32} {e : Nat → x_E} {g : Nat → Int32} {q : Nat → Int64} {c : Nat → Nat → Int32} {l : Nat → Nat → Int64} {R : Option Value × List x_E} (h1 : xCn .lt x1 0 = true → rr b e d 317 12 [] [] g q c l R) (h2 : ¬ xCn .lt x1 0 = true → rr b e d 317 4 [(0, .ref 49), (1, .int x1)] [] g q c l R) : rr b e d 317 0 [(0, .ref 49), (1, .int x1)] [] g q c l R := by
  have key : ∀ f, nrun xZ (xY (xfm b)) xDT (f + 2) d 317 0 [(0, .ref 49), (1, .int x1)] [] (rH e g q c l) 0 0 = nrun xZ (xY (xfm b)) xDT f d 317 (if xCn .lt x1 0 = true then 12 else 4) [(0, .ref 49), (1, .int x1)] [] (rH e g q c l) 0 0 := by
    intro f
    obtain ⟨y, cb, hj⟩ := mq_317
    rw [n_step (st' := [.int x1]) (pc' := 1) (lv' := [(0, .ref 49), (1, .int x1)]) (hp' := rH e g q c l) (i := .iload_n 1) (len := 1) rfl hj rfl rfl rfl]
    rw [n_step (st' := []) (pc' := (if xCn .lt x1 0 = true then 12 else 4)) (lv' := [(0, .ref 49), (1, .int x1)]) (hp' := rH e g q c l) (i := .ifCond .lt 11) (len := 3) rfl hj rfl rfl rfl]
  by_cases hc : xCn .lt x1 0 = true
  · obtain ⟨f, h⟩ := h1 hc
    refine ⟨f + 2, ?_⟩
    rw [key, if_pos hc]
    exact nrun_ext f f _ _ R 317 12 [] [(0, .ref 49), (1, .int x1)] [] _ 0 0 122 (Nat.le_refl _) (Nat.le_refl _) (Nat.le_of_ble_eq_true rfl) (lvR_mk [] [0, 1] rfl rfl (by decide) (by decide) (fun _ h => nomatch h) (List.forall_mem_cons.mpr ⟨Or.inr rfl, (List.forall_mem_cons.mpr ⟨Or.inr rfl, (fun _ h => nomatch h)⟩)⟩)) h
  · obtain ⟨f, h⟩ := h2 hc
    refine ⟨f + 2, ?_⟩
    rw [key, if_neg hc]
    exact h
set_option maxRecDepth 100000 in
set_option maxHeartbeats 4000000 in
theorem bk_317_4 {b : Bool} {d : Nat} {x1 : Int32} {e : Nat → x_E} {g : Nat → Int32} {q : Nat → Int64} {c : Nat → Nat → Int32} {l : Nat → Nat → Int64} {R : Option Value × List x_E} (h1 : xCn .le x1 ((g 1)) = true → rr b e d 317 14 [(0, .ref 49), (1, .int x1)] [] g q c l R) (h2 : ¬ xCn .le x1 ((g 1)) = true → rr b e d 317 12 [] [] g q c l R) : rr b e d 317 4 [(0, .ref 49), (1, .int x1)] [] g q c l R := by
  have key : ∀ f, nrun xZ (xY (xfm b)) xDT (f + 4) d 317 4 [(0, .ref 49), (1, .int x1)] [] (rH e g q c l) 0 0 = nrun xZ (xY (xfm b)) xDT f d 317 (if xCn .le x1 ((g 1)) = true then 14 else 12) [(0, .ref 49), (1, .int x1)] [] (rH e g q c l) 0 0 := by
    intro f
    obtain ⟨y, cb, hj⟩ := mq_317
    rw [n_step (st' := [.int x1]) (pc' := 5) (lv' := [(0, .ref 49), (1, .int x1)]) (hp' := rH e g q c l) (i := .iload_n 1) (len := 1) rfl hj rfl rfl rfl]
    rw [n_step (st' := [.ref 49, .int x1]) (pc' := 6) (lv' := [(0, .ref 49), (1, .int x1)]) (hp' := rH e g q c l) (i := .aload_n 0) (len := 1) rfl hj rfl rfl rfl]
    rw [n_get (st' := [.int (g 1), .int x1]) (pc' := 9) (lv' := [(0, .ref 49), (1, .int x1)]) (hp' := rH e g q c l) (i := .getfield 237) (len := 3) rfl hj rfl rfl rfl rfl]
    rw [n_step (st' := []) (pc' := (if xCn .le x1 ((g 1)) = true then 14 else 12)) (lv' := [(0, .ref 49), (1, .int x1)]) (hp' := rH e g q c l) (i := .if_icmp .le 5) (len := 3) rfl hj rfl rfl rfl]
  by_cases hc : xCn .le x1 ((g 1)) = true
  · obtain ⟨f, h⟩ := h1 hc
    refine ⟨f + 4, ?_⟩
    rw [key, if_pos hc]
    exact h
  · obtain ⟨f, h⟩ := h2 hc
    refine ⟨f + 4, ?_⟩
    rw [key, if_neg hc]
    exact nrun_ext f f _ _ R 317 12 [] [(0, .ref 49), (1, .int x1)] [] _ 0 0 122 (Nat.le_refl _) (Nat.le_refl _) (Nat.le_of_ble_eq_true rfl) (lvR_mk [] [0, 1] rfl rfl (by decide) (by decide) (fun _ h => nomatch h) (List.forall_mem_cons.mpr ⟨Or.inr rfl, (List.forall_mem_cons.mpr ⟨Or.inr rfl, (fun _ h => nomatch h)⟩)⟩)) h
set_option maxRecDepth 100000 in
set_option maxHeartbeats 4000000 in
theorem bk_317_12 {b : Bool} {d : Nat} {e : Nat → x_E} {g : Nat → Int32} {q : Nat → Int64} {c : Nat → Nat → Int32} {l : Nat → Nat → Int64} : rr b e d 317 12 [] [] g q c l (some (.int (Int32.ofInt (-1))), rH e g q c l) := by
  refine ⟨0 + 2, ?_⟩
  obtain ⟨y, cb, hj⟩ := mq_317
  rw [n_step (st' := [.int (Int32.ofInt (-1))]) (pc' := 13) (lv' := []) (hp' := rH e g q c l) (i := .iconst (-1)) (len := 1) rfl hj rfl rfl rfl]
  exact n_ret rfl hj rfl rfl (x_ret rfl)
set_option maxRecDepth 100000 in
set_option maxHeartbeats 4000000 in
theorem bk_317_14 {b : Bool} {d : Nat} {x1 : Int32} {e : Nat → x_E} {g : Nat → Int32} {q : Nat → Int64} {c : Nat → Nat → Int32} {l : Nat → Nat → Int64} {g' : Nat → Int32} {q' : Nat → Int64} {c' : Nat → Nat → Int32} {l' : Nat → Nat → Int64} {R : Option Value × List x_E} (hc : rr b e d 318 0 [(0, .ref 49), (1, .int (Int32.ofInt (0))), (2, .int x1)] [] (upd g 1 ((Int32.ofInt (0)))) q c l (none, rH e g' q' c' l')) (h : rr b e (d + 1) 317 25 [(0, .ref 49)] [] g' q' c' l' R) : rr b e (d + 1) 317 14 [(0, .ref 49), (1, .int x1)] [] g q c l R := by
  obtain ⟨f1, hc⟩ := hc
  obtain ⟨f2, h⟩ := h
  obtain ⟨f, hf1, hf2⟩ : ∃ f, f1 ≤ f ∧ f2 ≤ f := ⟨max f1 f2, Nat.le_max_left _ _, Nat.le_max_right _ _⟩
  have hc := nrun_fuel f1 f _ _ _ _ _ _ _ _ _ hf1 hc
  have h := nrun_fuel f2 f _ _ _ _ _ _ _ _ _ hf2 h
  refine ⟨f + 7, ?_⟩
  obtain ⟨y, cb, hj⟩ := mq_317
  rw [n_step (st' := [.ref 49]) (pc' := 15) (lv' := [(0, .ref 49), (1, .int x1)]) (hp' := rH e g q c l) (i := .aload_n 0) (len := 1) rfl hj rfl rfl rfl]
  rw [n_step (st' := [.int (Int32.ofInt (0)), .ref 49]) (pc' := 16) (lv' := [(0, .ref 49), (1, .int x1)]) (hp' := rH e g q c l) (i := .iconst 0) (len := 1) rfl hj rfl rfl rfl]
  rw [n_put (st' := []) (hp' := rH e (upd g 1 ((Int32.ofInt (0)))) q c l) rfl hj pf_1]
  rw [n_step (st' := [.ref 49]) (pc' := 20) (lv' := [(0, .ref 49), (1, .int x1)]) (hp' := rH e (upd g 1 ((Int32.ofInt (0)))) q c l) (i := .aload_n 0) (len := 1) rfl hj rfl rfl rfl]
  rw [n_step (st' := [.int (Int32.ofInt (0)), .ref 49]) (pc' := 21) (lv' := [(0, .ref 49), (1, .int x1)]) (hp' := rH e (upd g 1 ((Int32.ofInt (0)))) q c l) (i := .iconst 0) (len := 1) rfl hj rfl rfl rfl]
  rw [n_step (st' := [.int x1, .int (Int32.ofInt (0)), .ref 49]) (pc' := 22) (lv' := [(0, .ref 49), (1, .int x1)]) (hp' := rH e (upd g 1 ((Int32.ofInt (0)))) q c l) (i := .iload_n 1) (len := 1) rfl hj rfl rfl rfl]
  obtain ⟨y2, cb2, hj2⟩ := mq_318
  rw [n_call (f := f) (d := d) (ki := 0) (idx := 571) (j' := 318) (kd := 0) (M' := (y2, cb2, 4, none, 12, 2, 0, 0)) (avs := [.ref 49, .int (Int32.ofInt (0)), .int x1]) (r := []) (rv := none) (hp1 := rH e g' q' c' l') rfl hj rfl rfl rfl rfl (rq_n rfl rfl hj2 rfl rfl) rfl hc (Nat.le_of_ble_eq_true rfl)]
  exact nrun_ext f f _ _ R 317 25 [(0, .ref 49)] [(0, .ref 49), (1, .int x1)] [] _ 0 0 122 (Nat.le_refl _) (Nat.le_refl _) (Nat.le_of_ble_eq_true rfl) (lvR_mk [0] [0, 1] rfl rfl (by decide) (by decide) (List.forall_mem_cons.mpr ⟨List.mem_cons_self, (fun _ h => nomatch h)⟩) (List.forall_mem_cons.mpr ⟨Or.inl List.mem_cons_self, (List.forall_mem_cons.mpr ⟨Or.inr rfl, (fun _ h => nomatch h)⟩)⟩)) h
set_option maxRecDepth 100000 in
set_option maxHeartbeats 4000000 in
theorem bk_317_25 {b : Bool} {d : Nat} {e : Nat → x_E} {g : Nat → Int32} {q : Nat → Int64} {c : Nat → Nat → Int32} {l : Nat → Nat → Int64} {g' : Nat → Int32} {q' : Nat → Int64} {c' : Nat → Nat → Int32} {l' : Nat → Nat → Int64} {R : Option Value × List x_E} (hc : rr b e d 319 0 [(0, .ref 49)] [] (upd g 5 ((Int32.ofInt (0)))) q c l (none, rH e g' q' c' l')) (h : rr b e (d + 1) 317 34 [(0, .ref 49)] [] g' q' c' l' R) : rr b e (d + 1) 317 25 [(0, .ref 49)] [] g q c l R := by
  obtain ⟨f1, hc⟩ := hc
  obtain ⟨f2, h⟩ := h
  obtain ⟨f, hf1, hf2⟩ : ∃ f, f1 ≤ f ∧ f2 ≤ f := ⟨max f1 f2, Nat.le_max_left _ _, Nat.le_max_right _ _⟩
  have hc := nrun_fuel f1 f _ _ _ _ _ _ _ _ _ hf1 hc
  have h := nrun_fuel f2 f _ _ _ _ _ _ _ _ _ hf2 h
  refine ⟨f + 5, ?_⟩
  obtain ⟨y, cb, hj⟩ := mq_317
  rw [n_step (st' := [.ref 49]) (pc' := 26) (lv' := [(0, .ref 49)]) (hp' := rH e g q c l) (i := .aload_n 0) (len := 1) rfl hj rfl rfl rfl]
  rw [n_step (st' := [.int (Int32.ofInt (0)), .ref 49]) (pc' := 27) (lv' := [(0, .ref 49)]) (hp' := rH e g q c l) (i := .iconst 0) (len := 1) rfl hj rfl rfl rfl]
  rw [n_put (st' := []) (hp' := rH e (upd g 5 ((Int32.ofInt (0)))) q c l) rfl hj pf_5]
  rw [n_step (st' := [.ref 49]) (pc' := 31) (lv' := [(0, .ref 49)]) (hp' := rH e (upd g 5 ((Int32.ofInt (0)))) q c l) (i := .aload_n 0) (len := 1) rfl hj rfl rfl rfl]
  obtain ⟨y2, cb2, hj2⟩ := mq_319
  rw [n_call (f := f) (d := d) (ki := 0) (idx := 578) (j' := 319) (kd := 0) (M' := (y2, cb2, 1, none, 12, 0, 0, 0)) (avs := [.ref 49]) (r := []) (rv := none) (hp1 := rH e g' q' c' l') rfl hj rfl rfl rfl rfl (rq_n rfl rfl hj2 rfl rfl) rfl hc (Nat.le_of_ble_eq_true rfl)]
  exact h
set_option maxRecDepth 100000 in
set_option maxHeartbeats 4000000 in
theorem bk_317_34 {b : Bool} {d : Nat} {e : Nat → x_E} {g : Nat → Int32} {q : Nat → Int64} {c : Nat → Nat → Int32} {l : Nat → Nat → Int64} {g' : Nat → Int32} {q' : Nat → Int64} {c' : Nat → Nat → Int32} {l' : Nat → Nat → Int64} {R : Option Value × List x_E} (hz0 : ((Int32.ofInt (0))) = 0 ∨ ((Int32.ofInt (0))) = 1) (hc : rr b e d 320 0 [(0, .ref 49)] [] (upd g 23 ((Int32.ofInt (0)))) q c l (none, rH e g' q' c' l')) (h : rr b e (d + 1) 317 43 [(0, .ref 49)] [] g' q' c' l' R) : rr b e (d + 1) 317 34 [(0, .ref 49)] [] g q c l R := by
  obtain ⟨f1, hc⟩ := hc
  obtain ⟨f2, h⟩ := h
  obtain ⟨f, hf1, hf2⟩ : ∃ f, f1 ≤ f ∧ f2 ≤ f := ⟨max f1 f2, Nat.le_max_left _ _, Nat.le_max_right _ _⟩
  have hc := nrun_fuel f1 f _ _ _ _ _ _ _ _ _ hf1 hc
  have h := nrun_fuel f2 f _ _ _ _ _ _ _ _ _ hf2 h
  refine ⟨f + 5, ?_⟩
  obtain ⟨y, cb, hj⟩ := mq_317
  rw [n_step (st' := [.ref 49]) (pc' := 35) (lv' := [(0, .ref 49)]) (hp' := rH e g q c l) (i := .aload_n 0) (len := 1) rfl hj rfl rfl rfl]
  rw [n_step (st' := [.int (Int32.ofInt (0)), .ref 49]) (pc' := 36) (lv' := [(0, .ref 49)]) (hp' := rH e g q c l) (i := .iconst 0) (len := 1) rfl hj rfl rfl rfl]
  rw [n_put (st' := []) (hp' := rH e (upd g 23 ((Int32.ofInt (0)))) q c l) rfl hj (pf_23 hz0)]
  rw [n_step (st' := [.ref 49]) (pc' := 40) (lv' := [(0, .ref 49)]) (hp' := rH e (upd g 23 ((Int32.ofInt (0)))) q c l) (i := .aload_n 0) (len := 1) rfl hj rfl rfl rfl]
  obtain ⟨y2, cb2, hj2⟩ := mq_320
  rw [n_call (f := f) (d := d) (ki := 0) (idx := 581) (j' := 320) (kd := 0) (M' := (y2, cb2, 1, none, 12, 0, 0, 0)) (avs := [.ref 49]) (r := []) (rv := none) (hp1 := rH e g' q' c' l') rfl hj rfl rfl rfl rfl (rq_n rfl rfl hj2 rfl rfl) rfl hc (Nat.le_of_ble_eq_true rfl)]
  exact h
set_option maxRecDepth 100000 in
set_option maxHeartbeats 4000000 in
theorem bk_317_43 {b : Bool} {d : Nat} {e : Nat → x_E} {g : Nat → Int32} {q : Nat → Int64} {c : Nat → Nat → Int32} {l : Nat → Nat → Int64} {R : Option Value × List x_E} (h1 : xCn .ne ((g 19)) 0 = true → rr b e d 317 59 [(0, .ref 49)] [] g q c l R) (h2 : ¬ xCn .ne ((g 19)) 0 = true → rr b e d 317 50 [(0, .ref 49)] [] g q c l R) : rr b e d 317 43 [(0, .ref 49)] [] g q c l R := by
  have key : ∀ f, nrun xZ (xY (xfm b)) xDT (f + 3) d 317 43 [(0, .ref 49)] [] (rH e g q c l) 0 0 = nrun xZ (xY (xfm b)) xDT f d 317 (if xCn .ne ((g 19)) 0 = true then 59 else 50) [(0, .ref 49)] [] (rH e g q c l) 0 0 := by
    intro f
    obtain ⟨y, cb, hj⟩ := mq_317
    rw [n_step (st' := [.ref 49]) (pc' := 44) (lv' := [(0, .ref 49)]) (hp' := rH e g q c l) (i := .aload_n 0) (len := 1) rfl hj rfl rfl rfl]
    rw [n_get (st' := [.int (g 19)]) (pc' := 47) (lv' := [(0, .ref 49)]) (hp' := rH e g q c l) (i := .getfield 319) (len := 3) rfl hj rfl rfl rfl rfl]
    rw [n_step (st' := []) (pc' := (if xCn .ne ((g 19)) 0 = true then 59 else 50)) (lv' := [(0, .ref 49)]) (hp' := rH e g q c l) (i := .ifCond .ne 12) (len := 3) rfl hj rfl rfl rfl]
  by_cases hc : xCn .ne ((g 19)) 0 = true
  · obtain ⟨f, h⟩ := h1 hc
    refine ⟨f + 3, ?_⟩
    rw [key, if_pos hc]
    exact h
  · obtain ⟨f, h⟩ := h2 hc
    refine ⟨f + 3, ?_⟩
    rw [key, if_neg hc]
    exact h
set_option maxRecDepth 100000 in
set_option maxHeartbeats 4000000 in
theorem bk_317_50 {b : Bool} {d : Nat} {e : Nat → x_E} {g : Nat → Int32} {q : Nat → Int64} {c : Nat → Nat → Int32} {l : Nat → Nat → Int64} {g' : Nat → Int32} {q' : Nat → Int64} {c' : Nat → Nat → Int32} {l' : Nat → Nat → Int64} {R : Option Value × List x_E} (hz0 : ((Int32.ofInt (1))) = 0 ∨ ((Int32.ofInt (1))) = 1) (hc : rr b e d 320 0 [(0, .ref 49)] [] (upd g 23 ((Int32.ofInt (1)))) q c l (none, rH e g' q' c' l')) (h : rr b e (d + 1) 317 59 [(0, .ref 49)] [] g' q' c' l' R) : rr b e (d + 1) 317 50 [(0, .ref 49)] [] g q c l R := by
  obtain ⟨f1, hc⟩ := hc
  obtain ⟨f2, h⟩ := h
  obtain ⟨f, hf1, hf2⟩ : ∃ f, f1 ≤ f ∧ f2 ≤ f := ⟨max f1 f2, Nat.le_max_left _ _, Nat.le_max_right _ _⟩
  have hc := nrun_fuel f1 f _ _ _ _ _ _ _ _ _ hf1 hc
  have h := nrun_fuel f2 f _ _ _ _ _ _ _ _ _ hf2 h
  refine ⟨f + 5, ?_⟩
  obtain ⟨y, cb, hj⟩ := mq_317
  rw [n_step (st' := [.ref 49]) (pc' := 51) (lv' := [(0, .ref 49)]) (hp' := rH e g q c l) (i := .aload_n 0) (len := 1) rfl hj rfl rfl rfl]
  rw [n_step (st' := [.int (Int32.ofInt (1)), .ref 49]) (pc' := 52) (lv' := [(0, .ref 49)]) (hp' := rH e g q c l) (i := .iconst 1) (len := 1) rfl hj rfl rfl rfl]
  rw [n_put (st' := []) (hp' := rH e (upd g 23 ((Int32.ofInt (1)))) q c l) rfl hj (pf_23 hz0)]
  rw [n_step (st' := [.ref 49]) (pc' := 56) (lv' := [(0, .ref 49)]) (hp' := rH e (upd g 23 ((Int32.ofInt (1)))) q c l) (i := .aload_n 0) (len := 1) rfl hj rfl rfl rfl]
  obtain ⟨y2, cb2, hj2⟩ := mq_320
  rw [n_call (f := f) (d := d) (ki := 0) (idx := 581) (j' := 320) (kd := 0) (M' := (y2, cb2, 1, none, 12, 0, 0, 0)) (avs := [.ref 49]) (r := []) (rv := none) (hp1 := rH e g' q' c' l') rfl hj rfl rfl rfl rfl (rq_n rfl rfl hj2 rfl rfl) rfl hc (Nat.le_of_ble_eq_true rfl)]
  exact h
set_option maxRecDepth 100000 in
set_option maxHeartbeats 4000000 in
theorem bk_317_59 {b : Bool} {d : Nat} {e : Nat → x_E} {g : Nat → Int32} {q : Nat → Int64} {c : Nat → Nat → Int32} {l : Nat → Nat → Int64} {g' : Nat → Int32} {q' : Nat → Int64} {c' : Nat → Nat → Int32} {l' : Nat → Nat → Int64} {v : Int32} {R : Option Value × List x_E} (hc : rr b e d 390 0 [(0, .ref 49)] [] g q c l (some (.int v), rH e g' q' c' l')) (h : rr b e (d + 1) 317 63 [(0, .ref 49)] [.int v] g' q' c' l' R) : rr b e (d + 1) 317 59 [(0, .ref 49)] [] g q c l R := by
  obtain ⟨f1, hc⟩ := hc
  obtain ⟨f2, h⟩ := h
  obtain ⟨f, hf1, hf2⟩ : ∃ f, f1 ≤ f ∧ f2 ≤ f := ⟨max f1 f2, Nat.le_max_left _ _, Nat.le_max_right _ _⟩
  have hc := nrun_fuel f1 f _ _ _ _ _ _ _ _ _ hf1 hc
  have h := nrun_fuel f2 f _ _ _ _ _ _ _ _ _ hf2 h
  refine ⟨f + 2, ?_⟩
  obtain ⟨y, cb, hj⟩ := mq_317
  rw [n_step (st' := [.ref 49]) (pc' := 60) (lv' := [(0, .ref 49)]) (hp' := rH e g q c l) (i := .aload_n 0) (len := 1) rfl hj rfl rfl rfl]
  obtain ⟨y2, cb2, hj2⟩ := mq_390
  rw [n_call (f := f) (d := d) (ki := 0) (idx := 584) (j' := 390) (kd := 0) (M' := (y2, cb2, 1, some .int, 12, 0, 0, 0)) (avs := [.ref 49]) (r := []) (rv := some (.int v)) (hp1 := rH e g' q' c' l') rfl hj rfl rfl rfl rfl (rq_n rfl rfl hj2 rfl rfl) rfl hc (Nat.le_of_ble_eq_true rfl)]
  exact h
set_option maxRecDepth 100000 in
set_option maxHeartbeats 4000000 in
theorem bk_317_63 {b : Bool} {d : Nat} {t0 : Int32} {e : Nat → x_E} {g : Nat → Int32} {q : Nat → Int64} {c : Nat → Nat → Int32} {l : Nat → Nat → Int64} {R : Option Value × List x_E} (h1 : xCn .eq t0 0 = true → rr b e d 317 71 [(0, .ref 49)] [] g q c l R) (h2 : ¬ xCn .eq t0 0 = true → rr b e d 317 66 [(0, .ref 49)] [] g q c l R) : rr b e d 317 63 [(0, .ref 49)] [.int t0] g q c l R := by
  have key : ∀ f, nrun xZ (xY (xfm b)) xDT (f + 1) d 317 63 [(0, .ref 49)] [.int t0] (rH e g q c l) 0 0 = nrun xZ (xY (xfm b)) xDT f d 317 (if xCn .eq t0 0 = true then 71 else 66) [(0, .ref 49)] [] (rH e g q c l) 0 0 := by
    intro f
    obtain ⟨y, cb, hj⟩ := mq_317
    rw [n_step (st' := []) (pc' := (if xCn .eq t0 0 = true then 71 else 66)) (lv' := [(0, .ref 49)]) (hp' := rH e g q c l) (i := .ifCond .eq 8) (len := 3) rfl hj rfl rfl rfl]
  by_cases hc : xCn .eq t0 0 = true
  · obtain ⟨f, h⟩ := h1 hc
    refine ⟨f + 1, ?_⟩
    rw [key, if_pos hc]
    exact h
  · obtain ⟨f, h⟩ := h2 hc
    refine ⟨f + 1, ?_⟩
    rw [key, if_neg hc]
    exact h
set_option maxRecDepth 100000 in
set_option maxHeartbeats 4000000 in
theorem bk_317_66 {b : Bool} {d : Nat} {e : Nat → x_E} {g : Nat → Int32} {q : Nat → Int64} {c : Nat → Nat → Int32} {l : Nat → Nat → Int64} : rr b e d 317 66 [(0, .ref 49)] [] g q c l (some (.int (g 19)), rH e g q c l) := by
  refine ⟨0 + 3, ?_⟩
  obtain ⟨y, cb, hj⟩ := mq_317
  rw [n_step (st' := [.ref 49]) (pc' := 67) (lv' := [(0, .ref 49)]) (hp' := rH e g q c l) (i := .aload_n 0) (len := 1) rfl hj rfl rfl rfl]
  rw [n_get (st' := [.int (g 19)]) (pc' := 70) (lv' := [(0, .ref 49)]) (hp' := rH e g q c l) (i := .getfield 319) (len := 3) rfl hj rfl rfl rfl rfl]
  exact n_ret rfl hj rfl rfl (x_ret rfl)
set_option maxRecDepth 100000 in
set_option maxHeartbeats 4000000 in
theorem bk_317_71 {b : Bool} {d : Nat} {e : Nat → x_E} {g : Nat → Int32} {q : Nat → Int64} {c : Nat → Nat → Int32} {l : Nat → Nat → Int64} : rr b e d 317 71 [(0, .ref 49)] [] g q c l (some (.int (Int32.ofInt (0))), rH e (upd g 5 ((Int32.ofInt (1)))) q c l) := by
  refine ⟨0 + 5, ?_⟩
  obtain ⟨y, cb, hj⟩ := mq_317
  rw [n_step (st' := [.ref 49]) (pc' := 72) (lv' := [(0, .ref 49)]) (hp' := rH e g q c l) (i := .aload_n 0) (len := 1) rfl hj rfl rfl rfl]
  rw [n_step (st' := [.int (Int32.ofInt (1)), .ref 49]) (pc' := 73) (lv' := [(0, .ref 49)]) (hp' := rH e g q c l) (i := .iconst 1) (len := 1) rfl hj rfl rfl rfl]
  rw [n_put (st' := []) (hp' := rH e (upd g 5 ((Int32.ofInt (1)))) q c l) rfl hj pf_5]
  rw [n_step (st' := [.int (Int32.ofInt (0))]) (pc' := 77) (lv' := [(0, .ref 49)]) (hp' := rH e (upd g 5 ((Int32.ofInt (1)))) q c l) (i := .iconst 0) (len := 1) rfl hj rfl rfl rfl]
  exact n_ret rfl hj rfl rfl (x_ret rfl)
set_option maxRecDepth 100000 in
set_option maxHeartbeats 4000000 in
theorem bk_318_0 {b : Bool} {d : Nat} {x1 x2 : Int32} {e : Nat → x_E} {g : Nat → Int32} {q : Nat → Int64} {c : Nat → Nat → Int32} {l : Nat → Nat → Int64} {R : Option Value × List x_E} (hz0 : x1 = 0 ∨ x1 = 1) (h : rr b e d 318 12 [(0, .ref 49), (2, .int x2), (3, .int (Int32.ofInt (0)))] [] (upd (upd g 9 x1) 3 x2) q c l R) : rr b e d 318 0 [(0, .ref 49), (1, .int x1), (2, .int x2)] [] g q c l R := by
  obtain ⟨f, h⟩ := h
  refine ⟨f + 8, ?_⟩
  obtain ⟨y, cb, hj⟩ := mq_318
  rw [n_step (st' := [.ref 49]) (pc' := 1) (lv' := [(0, .ref 49), (1, .int x1), (2, .int x2)]) (hp' := rH e g q c l) (i := .aload_n 0) (len := 1) rfl hj rfl rfl rfl]
  rw [n_step (st' := [.int x1, .ref 49]) (pc' := 2) (lv' := [(0, .ref 49), (1, .int x1), (2, .int x2)]) (hp' := rH e g q c l) (i := .iload_n 1) (len := 1) rfl hj rfl rfl rfl]
  rw [n_put (st' := []) (hp' := rH e (upd g 9 x1) q c l) rfl hj (pf_9 hz0)]
  rw [n_step (st' := [.ref 49]) (pc' := 6) (lv' := [(0, .ref 49), (1, .int x1), (2, .int x2)]) (hp' := rH e (upd g 9 x1) q c l) (i := .aload_n 0) (len := 1) rfl hj rfl rfl rfl]
  rw [n_step (st' := [.int x2, .ref 49]) (pc' := 7) (lv' := [(0, .ref 49), (1, .int x1), (2, .int x2)]) (hp' := rH e (upd g 9 x1) q c l) (i := .iload_n 2) (len := 1) rfl hj rfl rfl rfl]
  rw [n_put (st' := []) (hp' := rH e (upd (upd g 9 x1) 3 x2) q c l) rfl hj pf_3]
  rw [n_step (st' := [.int (Int32.ofInt (0))]) (pc' := 11) (lv' := [(0, .ref 49), (1, .int x1), (2, .int x2)]) (hp' := rH e (upd (upd g 9 x1) 3 x2) q c l) (i := .iconst 0) (len := 1) rfl hj rfl rfl rfl]
  rw [n_step (st' := []) (pc' := 12) (lv' := [(3, .int (Int32.ofInt (0))), (0, .ref 49), (1, .int x1), (2, .int x2)]) (hp' := rH e (upd (upd g 9 x1) 3 x2) q c l) (i := .istore_n 3) (len := 1) rfl hj rfl rfl rfl]
  exact nrun_ext f f _ _ R 318 12 [(0, .ref 49), (2, .int x2), (3, .int (Int32.ofInt (0)))] [(3, .int (Int32.ofInt (0))), (0, .ref 49), (1, .int x1), (2, .int x2)] [] _ 0 0 122 (Nat.le_refl _) (Nat.le_refl _) (Nat.le_of_ble_eq_true rfl) (lvR_mk [0, 2, 3] [3, 0, 1, 2] rfl rfl (by decide) (by decide) (List.forall_mem_cons.mpr ⟨(List.mem_cons_of_mem _ List.mem_cons_self), (List.forall_mem_cons.mpr ⟨(List.mem_cons_of_mem _ (List.mem_cons_of_mem _ (List.mem_cons_of_mem _ List.mem_cons_self))), (List.forall_mem_cons.mpr ⟨List.mem_cons_self, (fun _ h => nomatch h)⟩)⟩)⟩) (List.forall_mem_cons.mpr ⟨Or.inl (List.mem_cons_of_mem _ (List.mem_cons_of_mem _ List.mem_cons_self)), (List.forall_mem_cons.mpr ⟨Or.inl List.mem_cons_self, (List.forall_mem_cons.mpr ⟨Or.inr rfl, (List.forall_mem_cons.mpr ⟨Or.inl (List.mem_cons_of_mem _ List.mem_cons_self), (fun _ h => nomatch h)⟩)⟩)⟩)⟩)) h
set_option maxRecDepth 100000 in
set_option maxHeartbeats 4000000 in
theorem bk_318_12 {b : Bool} {d : Nat} {x2 x3 : Int32} {e : Nat → x_E} {g : Nat → Int32} {q : Nat → Int64} {c : Nat → Nat → Int32} {l : Nat → Nat → Int64} {R : Option Value × List x_E} (h1 : xCn .ge x3 x2 = true → rr b e d 318 35 [(0, .ref 49)] [] g q c l R) (h2 : ¬ xCn .ge x3 x2 = true → rr b e d 318 17 [(0, .ref 49), (2, .int x2), (3, .int x3)] [] g q c l R) : rr b e d 318 12 [(0, .ref 49), (2, .int x2), (3, .int x3)] [] g q c l R := by
  have key : ∀ f, nrun xZ (xY (xfm b)) xDT (f + 3) d 318 12 [(0, .ref 49), (2, .int x2), (3, .int x3)] [] (rH e g q c l) 0 0 = nrun xZ (xY (xfm b)) xDT f d 318 (if xCn .ge x3 x2 = true then 35 else 17) [(0, .ref 49), (2, .int x2), (3, .int x3)] [] (rH e g q c l) 0 0 := by
    intro f
    obtain ⟨y, cb, hj⟩ := mq_318
    rw [n_step (st' := [.int x3]) (pc' := 13) (lv' := [(0, .ref 49), (2, .int x2), (3, .int x3)]) (hp' := rH e g q c l) (i := .iload_n 3) (len := 1) rfl hj rfl rfl rfl]
    rw [n_step (st' := [.int x2, .int x3]) (pc' := 14) (lv' := [(0, .ref 49), (2, .int x2), (3, .int x3)]) (hp' := rH e g q c l) (i := .iload_n 2) (len := 1) rfl hj rfl rfl rfl]
    rw [n_step (st' := []) (pc' := (if xCn .ge x3 x2 = true then 35 else 17)) (lv' := [(0, .ref 49), (2, .int x2), (3, .int x3)]) (hp' := rH e g q c l) (i := .if_icmp .ge 21) (len := 3) rfl hj rfl rfl rfl]
  by_cases hc : xCn .ge x3 x2 = true
  · obtain ⟨f, h⟩ := h1 hc
    refine ⟨f + 3, ?_⟩
    rw [key, if_pos hc]
    exact nrun_ext f f _ _ R 318 35 [(0, .ref 49)] [(0, .ref 49), (2, .int x2), (3, .int x3)] [] _ 0 0 122 (Nat.le_refl _) (Nat.le_refl _) (Nat.le_of_ble_eq_true rfl) (lvR_mk [0] [0, 2, 3] rfl rfl (by decide) (by decide) (List.forall_mem_cons.mpr ⟨List.mem_cons_self, (fun _ h => nomatch h)⟩) (List.forall_mem_cons.mpr ⟨Or.inl List.mem_cons_self, (List.forall_mem_cons.mpr ⟨Or.inr rfl, (List.forall_mem_cons.mpr ⟨Or.inr rfl, (fun _ h => nomatch h)⟩)⟩)⟩)) h
  · obtain ⟨f, h⟩ := h2 hc
    refine ⟨f + 3, ?_⟩
    rw [key, if_neg hc]
    exact h
set_option maxRecDepth 100000 in
set_option maxHeartbeats 4000000 in
theorem bk_318_17 {b : Bool} {d : Nat} {x2 x3 : Int32} {e : Nat → x_E} {g : Nat → Int32} {q : Nat → Int64} {c : Nat → Nat → Int32} {l : Nat → Nat → Int64} {R : Option Value × List x_E} (hz0 : ¬ (x3 < 0 ∨ 6000 ≤ (x3).toNatClampNeg)) (hz1 : ¬ (x3 < 0 ∨ 6000 ≤ (x3).toNatClampNeg)) (h : rr b e d 318 12 [(0, .ref 49), (2, .int x2), (3, .int (x3 + Int32.ofInt (1)))] [] g q (updA c 51 (upd (c 51) (x3).toNatClampNeg ((c 50 (x3).toNatClampNeg)))) l R) : rr b e d 318 17 [(0, .ref 49), (2, .int x2), (3, .int x3)] [] g q c l R := by
  obtain ⟨f, h⟩ := h
  refine ⟨f + 10, ?_⟩
  obtain ⟨y, cb, hj⟩ := mq_318
  rw [n_step (st' := [.ref 49]) (pc' := 18) (lv' := [(0, .ref 49), (2, .int x2), (3, .int x3)]) (hp' := rH e g q c l) (i := .aload_n 0) (len := 1) rfl hj rfl rfl rfl]
  rw [n_get (st' := [.ref 51]) (pc' := 21) (lv' := [(0, .ref 49), (2, .int x2), (3, .int x3)]) (hp' := rH e g q c l) (i := .getfield 13) (len := 3) rfl hj rfl rfl rfl rfl]
  rw [n_step (st' := [.int x3, .ref 51]) (pc' := 22) (lv' := [(0, .ref 49), (2, .int x2), (3, .int x3)]) (hp' := rH e g q c l) (i := .iload_n 3) (len := 1) rfl hj rfl rfl rfl]
  rw [n_step (st' := [.ref 49, .int x3, .ref 51]) (pc' := 23) (lv' := [(0, .ref 49), (2, .int x2), (3, .int x3)]) (hp' := rH e g q c l) (i := .aload_n 0) (len := 1) rfl hj rfl rfl rfl]
  rw [n_get (st' := [.ref 50, .int x3, .ref 51]) (pc' := 26) (lv' := [(0, .ref 49), (2, .int x2), (3, .int x3)]) (hp' := rH e g q c l) (i := .getfield 7) (len := 3) rfl hj rfl rfl rfl rfl]
  rw [n_step (st' := [.int x3, .ref 50, .int x3, .ref 51]) (pc' := 27) (lv' := [(0, .ref 49), (2, .int x2), (3, .int x3)]) (hp' := rH e g q c l) (i := .iload_n 3) (len := 1) rfl hj rfl rfl rfl]
  rw [n_ial (st' := [.int (c 50 (x3).toNatClampNeg), .int x3, .ref 51]) rfl hj (ald_50 hz0)]
  rw [n_ias (st' := []) (hp' := rH e g q (updA c 51 (upd (c 51) (x3).toNatClampNeg ((c 50 (x3).toNatClampNeg)))) l) rfl hj (ast_51 hz1)]
  rw [n_step (st' := []) (pc' := 32) (lv' := [(3, .int (x3 + Int32.ofInt (1))), (0, .ref 49), (2, .int x2)]) (hp' := rH e g q (updA c 51 (upd (c 51) (x3).toNatClampNeg ((c 50 (x3).toNatClampNeg)))) l) (i := .iinc 3 1) (len := 3) rfl hj rfl rfl rfl]
  rw [n_step (st' := []) (pc' := 12) (lv' := [(3, .int (x3 + Int32.ofInt (1))), (0, .ref 49), (2, .int x2)]) (hp' := rH e g q (updA c 51 (upd (c 51) (x3).toNatClampNeg ((c 50 (x3).toNatClampNeg)))) l) (i := .goto (-20)) (len := 3) rfl hj rfl rfl rfl]
  exact nrun_ext f f _ _ R 318 12 [(0, .ref 49), (2, .int x2), (3, .int (x3 + Int32.ofInt (1)))] [(3, .int (x3 + Int32.ofInt (1))), (0, .ref 49), (2, .int x2)] [] _ 0 0 122 (Nat.le_refl _) (Nat.le_refl _) (Nat.le_of_ble_eq_true rfl) (lvR_mk [0, 2, 3] [3, 0, 2] rfl rfl (by decide) (by decide) (List.forall_mem_cons.mpr ⟨(List.mem_cons_of_mem _ List.mem_cons_self), (List.forall_mem_cons.mpr ⟨(List.mem_cons_of_mem _ (List.mem_cons_of_mem _ List.mem_cons_self)), (List.forall_mem_cons.mpr ⟨List.mem_cons_self, (fun _ h => nomatch h)⟩)⟩)⟩) (List.forall_mem_cons.mpr ⟨Or.inl (List.mem_cons_of_mem _ (List.mem_cons_of_mem _ List.mem_cons_self)), (List.forall_mem_cons.mpr ⟨Or.inl List.mem_cons_self, (List.forall_mem_cons.mpr ⟨Or.inl (List.mem_cons_of_mem _ List.mem_cons_self), (fun _ h => nomatch h)⟩)⟩)⟩)) h
set_option maxRecDepth 100000 in
set_option maxHeartbeats 4000000 in
theorem bk_318_35 {b : Bool} {d : Nat} {e : Nat → x_E} {g : Nat → Int32} {q : Nat → Int64} {c : Nat → Nat → Int32} {l : Nat → Nat → Int64} : rr b e d 318 35 [(0, .ref 49)] [] g q c l (none, rH e (upd (upd g 19 ((Int32.ofInt (0)))) 21 ((Int32.ofInt (0)))) q c l) := by
  refine ⟨0 + 7, ?_⟩
  obtain ⟨y, cb, hj⟩ := mq_318
  rw [n_step (st' := [.ref 49]) (pc' := 36) (lv' := [(0, .ref 49)]) (hp' := rH e g q c l) (i := .aload_n 0) (len := 1) rfl hj rfl rfl rfl]
  rw [n_step (st' := [.int (Int32.ofInt (0)), .ref 49]) (pc' := 37) (lv' := [(0, .ref 49)]) (hp' := rH e g q c l) (i := .iconst 0) (len := 1) rfl hj rfl rfl rfl]
  rw [n_put (st' := []) (hp' := rH e (upd g 19 ((Int32.ofInt (0)))) q c l) rfl hj pf_19]
  rw [n_step (st' := [.ref 49]) (pc' := 41) (lv' := [(0, .ref 49)]) (hp' := rH e (upd g 19 ((Int32.ofInt (0)))) q c l) (i := .aload_n 0) (len := 1) rfl hj rfl rfl rfl]
  rw [n_step (st' := [.int (Int32.ofInt (0)), .ref 49]) (pc' := 42) (lv' := [(0, .ref 49)]) (hp' := rH e (upd g 19 ((Int32.ofInt (0)))) q c l) (i := .iconst 0) (len := 1) rfl hj rfl rfl rfl]
  rw [n_put (st' := []) (hp' := rH e (upd (upd g 19 ((Int32.ofInt (0)))) 21 ((Int32.ofInt (0)))) q c l) rfl hj pf_21]
  exact n_ret rfl hj rfl rfl rfl
set_option maxRecDepth 100000 in
set_option maxHeartbeats 4000000 in
theorem bk_319_0 {b : Bool} {d : Nat} {e : Nat → x_E} {g : Nat → Int32} {q : Nat → Int64} {c : Nat → Nat → Int32} {l : Nat → Nat → Int64} (hz0 : ((Int32.ofInt (0))) = 0 ∨ ((Int32.ofInt (0))) = 1) : rr b e d 319 0 [(0, .ref 49)] [] g q c l (none, rH e (upd (upd (upd (upd (upd (upd g 64 ((Int32.ofInt (0)))) 66 ((Int32.ofInt (0)))) 67 ((Int32.ofInt (0)))) 68 ((Int32.ofInt (0)))) 69 ((Int32.ofInt (0)))) 143 ((Int32.ofInt (0)))) q c l) := by
  refine ⟨0 + 19, ?_⟩
  obtain ⟨y, cb, hj⟩ := mq_319
  rw [n_step (st' := [.ref 49]) (pc' := 1) (lv' := [(0, .ref 49)]) (hp' := rH e g q c l) (i := .aload_n 0) (len := 1) rfl hj rfl rfl rfl]
  rw [n_step (st' := [.int (Int32.ofInt (0)), .ref 49]) (pc' := 2) (lv' := [(0, .ref 49)]) (hp' := rH e g q c l) (i := .iconst 0) (len := 1) rfl hj rfl rfl rfl]
  rw [n_put (st' := []) (hp' := rH e (upd g 64 ((Int32.ofInt (0)))) q c l) rfl hj pf_64]
  rw [n_step (st' := [.ref 49]) (pc' := 6) (lv' := [(0, .ref 49)]) (hp' := rH e (upd g 64 ((Int32.ofInt (0)))) q c l) (i := .aload_n 0) (len := 1) rfl hj rfl rfl rfl]
  rw [n_step (st' := [.int (Int32.ofInt (0)), .ref 49]) (pc' := 7) (lv' := [(0, .ref 49)]) (hp' := rH e (upd g 64 ((Int32.ofInt (0)))) q c l) (i := .iconst 0) (len := 1) rfl hj rfl rfl rfl]
  rw [n_put (st' := []) (hp' := rH e (upd (upd g 64 ((Int32.ofInt (0)))) 66 ((Int32.ofInt (0)))) q c l) rfl hj pf_66]
  rw [n_step (st' := [.ref 49]) (pc' := 11) (lv' := [(0, .ref 49)]) (hp' := rH e (upd (upd g 64 ((Int32.ofInt (0)))) 66 ((Int32.ofInt (0)))) q c l) (i := .aload_n 0) (len := 1) rfl hj rfl rfl rfl]
  rw [n_step (st' := [.int (Int32.ofInt (0)), .ref 49]) (pc' := 12) (lv' := [(0, .ref 49)]) (hp' := rH e (upd (upd g 64 ((Int32.ofInt (0)))) 66 ((Int32.ofInt (0)))) q c l) (i := .iconst 0) (len := 1) rfl hj rfl rfl rfl]
  rw [n_put (st' := []) (hp' := rH e (upd (upd (upd g 64 ((Int32.ofInt (0)))) 66 ((Int32.ofInt (0)))) 67 ((Int32.ofInt (0)))) q c l) rfl hj pf_67]
  rw [n_step (st' := [.ref 49]) (pc' := 16) (lv' := [(0, .ref 49)]) (hp' := rH e (upd (upd (upd g 64 ((Int32.ofInt (0)))) 66 ((Int32.ofInt (0)))) 67 ((Int32.ofInt (0)))) q c l) (i := .aload_n 0) (len := 1) rfl hj rfl rfl rfl]
  rw [n_step (st' := [.int (Int32.ofInt (0)), .ref 49]) (pc' := 17) (lv' := [(0, .ref 49)]) (hp' := rH e (upd (upd (upd g 64 ((Int32.ofInt (0)))) 66 ((Int32.ofInt (0)))) 67 ((Int32.ofInt (0)))) q c l) (i := .iconst 0) (len := 1) rfl hj rfl rfl rfl]
  rw [n_put (st' := []) (hp' := rH e (upd (upd (upd (upd g 64 ((Int32.ofInt (0)))) 66 ((Int32.ofInt (0)))) 67 ((Int32.ofInt (0)))) 68 ((Int32.ofInt (0)))) q c l) rfl hj pf_68]
  rw [n_step (st' := [.ref 49]) (pc' := 21) (lv' := [(0, .ref 49)]) (hp' := rH e (upd (upd (upd (upd g 64 ((Int32.ofInt (0)))) 66 ((Int32.ofInt (0)))) 67 ((Int32.ofInt (0)))) 68 ((Int32.ofInt (0)))) q c l) (i := .aload_n 0) (len := 1) rfl hj rfl rfl rfl]
  rw [n_step (st' := [.int (Int32.ofInt (0)), .ref 49]) (pc' := 22) (lv' := [(0, .ref 49)]) (hp' := rH e (upd (upd (upd (upd g 64 ((Int32.ofInt (0)))) 66 ((Int32.ofInt (0)))) 67 ((Int32.ofInt (0)))) 68 ((Int32.ofInt (0)))) q c l) (i := .iconst 0) (len := 1) rfl hj rfl rfl rfl]
  rw [n_put (st' := []) (hp' := rH e (upd (upd (upd (upd (upd g 64 ((Int32.ofInt (0)))) 66 ((Int32.ofInt (0)))) 67 ((Int32.ofInt (0)))) 68 ((Int32.ofInt (0)))) 69 ((Int32.ofInt (0)))) q c l) rfl hj pf_69]
  rw [n_step (st' := [.ref 49]) (pc' := 26) (lv' := [(0, .ref 49)]) (hp' := rH e (upd (upd (upd (upd (upd g 64 ((Int32.ofInt (0)))) 66 ((Int32.ofInt (0)))) 67 ((Int32.ofInt (0)))) 68 ((Int32.ofInt (0)))) 69 ((Int32.ofInt (0)))) q c l) (i := .aload_n 0) (len := 1) rfl hj rfl rfl rfl]
  rw [n_step (st' := [.int (Int32.ofInt (0)), .ref 49]) (pc' := 27) (lv' := [(0, .ref 49)]) (hp' := rH e (upd (upd (upd (upd (upd g 64 ((Int32.ofInt (0)))) 66 ((Int32.ofInt (0)))) 67 ((Int32.ofInt (0)))) 68 ((Int32.ofInt (0)))) 69 ((Int32.ofInt (0)))) q c l) (i := .iconst 0) (len := 1) rfl hj rfl rfl rfl]
  rw [n_put (st' := []) (hp' := rH e (upd (upd (upd (upd (upd (upd g 64 ((Int32.ofInt (0)))) 66 ((Int32.ofInt (0)))) 67 ((Int32.ofInt (0)))) 68 ((Int32.ofInt (0)))) 69 ((Int32.ofInt (0)))) 143 ((Int32.ofInt (0)))) q c l) rfl hj (pf_143 hz0)]
  exact n_ret rfl hj rfl rfl rfl
set_option maxRecDepth 100000 in
set_option maxHeartbeats 4000000 in
theorem bk_320_0 {b : Bool} {d : Nat} {e : Nat → x_E} {g : Nat → Int32} {q : Nat → Int64} {c : Nat → Nat → Int32} {l : Nat → Nat → Int64} {g' : Nat → Int32} {q' : Nat → Int64} {c' : Nat → Nat → Int32} {l' : Nat → Nat → Int64} {R : Option Value × List x_E} (hc : rr b e d 321 0 [(0, .ref 49)] [] (upd g 18 ((Int16.ofInt (400)).toInt32)) q c l (none, rH e g' q' c' l')) (h : rr b e (d + 1) 320 11 [(0, .ref 49)] [] g' q' c' l' R) : rr b e (d + 1) 320 0 [(0, .ref 49)] [] g q c l R := by
  obtain ⟨f1, hc⟩ := hc
  obtain ⟨f2, h⟩ := h
  obtain ⟨f, hf1, hf2⟩ : ∃ f, f1 ≤ f ∧ f2 ≤ f := ⟨max f1 f2, Nat.le_max_left _ _, Nat.le_max_right _ _⟩
  have hc := nrun_fuel f1 f _ _ _ _ _ _ _ _ _ hf1 hc
  have h := nrun_fuel f2 f _ _ _ _ _ _ _ _ _ hf2 h
  refine ⟨f + 5, ?_⟩
  obtain ⟨y, cb, hj⟩ := mq_320
  rw [n_step (st' := [.ref 49]) (pc' := 1) (lv' := [(0, .ref 49)]) (hp' := rH e g q c l) (i := .aload_n 0) (len := 1) rfl hj rfl rfl rfl]
  rw [n_step (st' := [.int (Int16.ofInt (400)).toInt32, .ref 49]) (pc' := 4) (lv' := [(0, .ref 49)]) (hp' := rH e g q c l) (i := .sipush 400) (len := 3) rfl hj rfl rfl rfl]
  rw [n_put (st' := []) (hp' := rH e (upd g 18 ((Int16.ofInt (400)).toInt32)) q c l) rfl hj pf_18]
  rw [n_step (st' := [.ref 49]) (pc' := 8) (lv' := [(0, .ref 49)]) (hp' := rH e (upd g 18 ((Int16.ofInt (400)).toInt32)) q c l) (i := .aload_n 0) (len := 1) rfl hj rfl rfl rfl]
  obtain ⟨y2, cb2, hj2⟩ := mq_321
  rw [n_call (f := f) (d := d) (ki := 0) (idx := 587) (j' := 321) (kd := 0) (M' := (y2, cb2, 1, none, 12, 0, 0, 0)) (avs := [.ref 49]) (r := []) (rv := none) (hp1 := rH e g' q' c' l') rfl hj rfl rfl rfl rfl (rq_n rfl rfl hj2 rfl rfl) rfl hc (Nat.le_of_ble_eq_true rfl)]
  exact h
set_option maxRecDepth 100000 in
set_option maxHeartbeats 4000000 in
theorem bk_320_11 {b : Bool} {d : Nat} {e : Nat → x_E} {g : Nat → Int32} {q : Nat → Int64} {c : Nat → Nat → Int32} {l : Nat → Nat → Int64} {g' : Nat → Int32} {q' : Nat → Int64} {c' : Nat → Nat → Int32} {l' : Nat → Nat → Int64} {v : Int32} {R : Option Value × List x_E} (hz0 : ¬ ((Int32.ofInt (0)) < 0 ∨ 900 ≤ ((Int32.ofInt (0))).toNatClampNeg)) (hz1 : ¬ ((Int32.ofInt (0)) < 0 ∨ 900 ≤ ((Int32.ofInt (0))).toNatClampNeg)) (hc : rr b e d 333 0 [(0, .ref 49)] [] (upd (upd (upd (upd (upd (upd (upd (upd (upd (upd g 31 ((Int32.ofInt (0)))) 30 ((Int32.ofInt (0)))) 40 ((Int32.ofInt (0)))) 36 ((Int32.ofInt (0)))) 41 ((Int32.ofInt (0)))) 56 ((Int32.ofInt (0)))) 61 ((Int32.ofInt (0)))) 43 ((Int32.ofInt (0)))) 49 ((Int32.ofInt (1)))) 55 ((Int32.ofInt (0)))) q (updA (updA c 67 (upd (c 67) ((Int32.ofInt (0))).toNatClampNeg ((Int32.ofInt (0))))) 68 (upd ((updA c 67 (upd (c 67) ((Int32.ofInt (0))).toNatClampNeg ((Int32.ofInt (0))))) 68) ((Int32.ofInt (0))).toNatClampNeg ((Int32.ofInt (0))))) l (some (.int v), rH e g' q' c' l')) (h : rr b e (d + 1) 320 80 [(0, .ref 49)] [.int v, .ref 49] g' q' c' l' R) : rr b e (d + 1) 320 11 [(0, .ref 49)] [] g q c l R := by
  obtain ⟨f1, hc⟩ := hc
  obtain ⟨f2, h⟩ := h
  obtain ⟨f, hf1, hf2⟩ : ∃ f, f1 ≤ f ∧ f2 ≤ f := ⟨max f1 f2, Nat.le_max_left _ _, Nat.le_max_right _ _⟩
  have hc := nrun_fuel f1 f _ _ _ _ _ _ _ _ _ hf1 hc
  have h := nrun_fuel f2 f _ _ _ _ _ _ _ _ _ hf2 h
  refine ⟨f + 43, ?_⟩
  obtain ⟨y, cb, hj⟩ := mq_320
  rw [n_step (st' := [.ref 49]) (pc' := 12) (lv' := [(0, .ref 49)]) (hp' := rH e g q c l) (i := .aload_n 0) (len := 1) rfl hj rfl rfl rfl]
  rw [n_step (st' := [.int (Int32.ofInt (0)), .ref 49]) (pc' := 13) (lv' := [(0, .ref 49)]) (hp' := rH e g q c l) (i := .iconst 0) (len := 1) rfl hj rfl rfl rfl]
  rw [n_put (st' := []) (hp' := rH e (upd g 31 ((Int32.ofInt (0)))) q c l) rfl hj pf_31]
  rw [n_step (st' := [.ref 49]) (pc' := 17) (lv' := [(0, .ref 49)]) (hp' := rH e (upd g 31 ((Int32.ofInt (0)))) q c l) (i := .aload_n 0) (len := 1) rfl hj rfl rfl rfl]
  rw [n_step (st' := [.int (Int32.ofInt (0)), .ref 49]) (pc' := 18) (lv' := [(0, .ref 49)]) (hp' := rH e (upd g 31 ((Int32.ofInt (0)))) q c l) (i := .iconst 0) (len := 1) rfl hj rfl rfl rfl]
  rw [n_put (st' := []) (hp' := rH e (upd (upd g 31 ((Int32.ofInt (0)))) 30 ((Int32.ofInt (0)))) q c l) rfl hj pf_30]
  rw [n_step (st' := [.ref 49]) (pc' := 22) (lv' := [(0, .ref 49)]) (hp' := rH e (upd (upd g 31 ((Int32.ofInt (0)))) 30 ((Int32.ofInt (0)))) q c l) (i := .aload_n 0) (len := 1) rfl hj rfl rfl rfl]
  rw [n_step (st' := [.int (Int32.ofInt (0)), .ref 49]) (pc' := 23) (lv' := [(0, .ref 49)]) (hp' := rH e (upd (upd g 31 ((Int32.ofInt (0)))) 30 ((Int32.ofInt (0)))) q c l) (i := .iconst 0) (len := 1) rfl hj rfl rfl rfl]
  rw [n_put (st' := []) (hp' := rH e (upd (upd (upd g 31 ((Int32.ofInt (0)))) 30 ((Int32.ofInt (0)))) 40 ((Int32.ofInt (0)))) q c l) rfl hj pf_40]
  rw [n_step (st' := [.ref 49]) (pc' := 27) (lv' := [(0, .ref 49)]) (hp' := rH e (upd (upd (upd g 31 ((Int32.ofInt (0)))) 30 ((Int32.ofInt (0)))) 40 ((Int32.ofInt (0)))) q c l) (i := .aload_n 0) (len := 1) rfl hj rfl rfl rfl]
  rw [n_step (st' := [.int (Int32.ofInt (0)), .ref 49]) (pc' := 28) (lv' := [(0, .ref 49)]) (hp' := rH e (upd (upd (upd g 31 ((Int32.ofInt (0)))) 30 ((Int32.ofInt (0)))) 40 ((Int32.ofInt (0)))) q c l) (i := .iconst 0) (len := 1) rfl hj rfl rfl rfl]
  rw [n_put (st' := []) (hp' := rH e (upd (upd (upd (upd g 31 ((Int32.ofInt (0)))) 30 ((Int32.ofInt (0)))) 40 ((Int32.ofInt (0)))) 36 ((Int32.ofInt (0)))) q c l) rfl hj pf_36]
  rw [n_step (st' := [.ref 49]) (pc' := 32) (lv' := [(0, .ref 49)]) (hp' := rH e (upd (upd (upd (upd g 31 ((Int32.ofInt (0)))) 30 ((Int32.ofInt (0)))) 40 ((Int32.ofInt (0)))) 36 ((Int32.ofInt (0)))) q c l) (i := .aload_n 0) (len := 1) rfl hj rfl rfl rfl]
  rw [n_step (st' := [.int (Int32.ofInt (0)), .ref 49]) (pc' := 33) (lv' := [(0, .ref 49)]) (hp' := rH e (upd (upd (upd (upd g 31 ((Int32.ofInt (0)))) 30 ((Int32.ofInt (0)))) 40 ((Int32.ofInt (0)))) 36 ((Int32.ofInt (0)))) q c l) (i := .iconst 0) (len := 1) rfl hj rfl rfl rfl]
  rw [n_put (st' := []) (hp' := rH e (upd (upd (upd (upd (upd g 31 ((Int32.ofInt (0)))) 30 ((Int32.ofInt (0)))) 40 ((Int32.ofInt (0)))) 36 ((Int32.ofInt (0)))) 41 ((Int32.ofInt (0)))) q c l) rfl hj pf_41]
  rw [n_step (st' := [.ref 49]) (pc' := 37) (lv' := [(0, .ref 49)]) (hp' := rH e (upd (upd (upd (upd (upd g 31 ((Int32.ofInt (0)))) 30 ((Int32.ofInt (0)))) 40 ((Int32.ofInt (0)))) 36 ((Int32.ofInt (0)))) 41 ((Int32.ofInt (0)))) q c l) (i := .aload_n 0) (len := 1) rfl hj rfl rfl rfl]
  rw [n_step (st' := [.int (Int32.ofInt (0)), .ref 49]) (pc' := 38) (lv' := [(0, .ref 49)]) (hp' := rH e (upd (upd (upd (upd (upd g 31 ((Int32.ofInt (0)))) 30 ((Int32.ofInt (0)))) 40 ((Int32.ofInt (0)))) 36 ((Int32.ofInt (0)))) 41 ((Int32.ofInt (0)))) q c l) (i := .iconst 0) (len := 1) rfl hj rfl rfl rfl]
  rw [n_put (st' := []) (hp' := rH e (upd (upd (upd (upd (upd (upd g 31 ((Int32.ofInt (0)))) 30 ((Int32.ofInt (0)))) 40 ((Int32.ofInt (0)))) 36 ((Int32.ofInt (0)))) 41 ((Int32.ofInt (0)))) 56 ((Int32.ofInt (0)))) q c l) rfl hj pf_56]
  rw [n_step (st' := [.ref 49]) (pc' := 42) (lv' := [(0, .ref 49)]) (hp' := rH e (upd (upd (upd (upd (upd (upd g 31 ((Int32.ofInt (0)))) 30 ((Int32.ofInt (0)))) 40 ((Int32.ofInt (0)))) 36 ((Int32.ofInt (0)))) 41 ((Int32.ofInt (0)))) 56 ((Int32.ofInt (0)))) q c l) (i := .aload_n 0) (len := 1) rfl hj rfl rfl rfl]
  rw [n_step (st' := [.int (Int32.ofInt (0)), .ref 49]) (pc' := 43) (lv' := [(0, .ref 49)]) (hp' := rH e (upd (upd (upd (upd (upd (upd g 31 ((Int32.ofInt (0)))) 30 ((Int32.ofInt (0)))) 40 ((Int32.ofInt (0)))) 36 ((Int32.ofInt (0)))) 41 ((Int32.ofInt (0)))) 56 ((Int32.ofInt (0)))) q c l) (i := .iconst 0) (len := 1) rfl hj rfl rfl rfl]
  rw [n_put (st' := []) (hp' := rH e (upd (upd (upd (upd (upd (upd (upd g 31 ((Int32.ofInt (0)))) 30 ((Int32.ofInt (0)))) 40 ((Int32.ofInt (0)))) 36 ((Int32.ofInt (0)))) 41 ((Int32.ofInt (0)))) 56 ((Int32.ofInt (0)))) 61 ((Int32.ofInt (0)))) q c l) rfl hj pf_61]
  rw [n_step (st' := [.ref 49]) (pc' := 47) (lv' := [(0, .ref 49)]) (hp' := rH e (upd (upd (upd (upd (upd (upd (upd g 31 ((Int32.ofInt (0)))) 30 ((Int32.ofInt (0)))) 40 ((Int32.ofInt (0)))) 36 ((Int32.ofInt (0)))) 41 ((Int32.ofInt (0)))) 56 ((Int32.ofInt (0)))) 61 ((Int32.ofInt (0)))) q c l) (i := .aload_n 0) (len := 1) rfl hj rfl rfl rfl]
  rw [n_step (st' := [.int (Int32.ofInt (0)), .ref 49]) (pc' := 48) (lv' := [(0, .ref 49)]) (hp' := rH e (upd (upd (upd (upd (upd (upd (upd g 31 ((Int32.ofInt (0)))) 30 ((Int32.ofInt (0)))) 40 ((Int32.ofInt (0)))) 36 ((Int32.ofInt (0)))) 41 ((Int32.ofInt (0)))) 56 ((Int32.ofInt (0)))) 61 ((Int32.ofInt (0)))) q c l) (i := .iconst 0) (len := 1) rfl hj rfl rfl rfl]
  rw [n_put (st' := []) (hp' := rH e (upd (upd (upd (upd (upd (upd (upd (upd g 31 ((Int32.ofInt (0)))) 30 ((Int32.ofInt (0)))) 40 ((Int32.ofInt (0)))) 36 ((Int32.ofInt (0)))) 41 ((Int32.ofInt (0)))) 56 ((Int32.ofInt (0)))) 61 ((Int32.ofInt (0)))) 43 ((Int32.ofInt (0)))) q c l) rfl hj pf_43]
  rw [n_step (st' := [.ref 49]) (pc' := 52) (lv' := [(0, .ref 49)]) (hp' := rH e (upd (upd (upd (upd (upd (upd (upd (upd g 31 ((Int32.ofInt (0)))) 30 ((Int32.ofInt (0)))) 40 ((Int32.ofInt (0)))) 36 ((Int32.ofInt (0)))) 41 ((Int32.ofInt (0)))) 56 ((Int32.ofInt (0)))) 61 ((Int32.ofInt (0)))) 43 ((Int32.ofInt (0)))) q c l) (i := .aload_n 0) (len := 1) rfl hj rfl rfl rfl]
  rw [n_step (st' := [.int (Int32.ofInt (1)), .ref 49]) (pc' := 53) (lv' := [(0, .ref 49)]) (hp' := rH e (upd (upd (upd (upd (upd (upd (upd (upd g 31 ((Int32.ofInt (0)))) 30 ((Int32.ofInt (0)))) 40 ((Int32.ofInt (0)))) 36 ((Int32.ofInt (0)))) 41 ((Int32.ofInt (0)))) 56 ((Int32.ofInt (0)))) 61 ((Int32.ofInt (0)))) 43 ((Int32.ofInt (0)))) q c l) (i := .iconst 1) (len := 1) rfl hj rfl rfl rfl]
  rw [n_put (st' := []) (hp' := rH e (upd (upd (upd (upd (upd (upd (upd (upd (upd g 31 ((Int32.ofInt (0)))) 30 ((Int32.ofInt (0)))) 40 ((Int32.ofInt (0)))) 36 ((Int32.ofInt (0)))) 41 ((Int32.ofInt (0)))) 56 ((Int32.ofInt (0)))) 61 ((Int32.ofInt (0)))) 43 ((Int32.ofInt (0)))) 49 ((Int32.ofInt (1)))) q c l) rfl hj pf_49]
  rw [n_step (st' := [.ref 49]) (pc' := 57) (lv' := [(0, .ref 49)]) (hp' := rH e (upd (upd (upd (upd (upd (upd (upd (upd (upd g 31 ((Int32.ofInt (0)))) 30 ((Int32.ofInt (0)))) 40 ((Int32.ofInt (0)))) 36 ((Int32.ofInt (0)))) 41 ((Int32.ofInt (0)))) 56 ((Int32.ofInt (0)))) 61 ((Int32.ofInt (0)))) 43 ((Int32.ofInt (0)))) 49 ((Int32.ofInt (1)))) q c l) (i := .aload_n 0) (len := 1) rfl hj rfl rfl rfl]
  rw [n_step (st' := [.int (Int32.ofInt (0)), .ref 49]) (pc' := 58) (lv' := [(0, .ref 49)]) (hp' := rH e (upd (upd (upd (upd (upd (upd (upd (upd (upd g 31 ((Int32.ofInt (0)))) 30 ((Int32.ofInt (0)))) 40 ((Int32.ofInt (0)))) 36 ((Int32.ofInt (0)))) 41 ((Int32.ofInt (0)))) 56 ((Int32.ofInt (0)))) 61 ((Int32.ofInt (0)))) 43 ((Int32.ofInt (0)))) 49 ((Int32.ofInt (1)))) q c l) (i := .iconst 0) (len := 1) rfl hj rfl rfl rfl]
  rw [n_put (st' := []) (hp' := rH e (upd (upd (upd (upd (upd (upd (upd (upd (upd (upd g 31 ((Int32.ofInt (0)))) 30 ((Int32.ofInt (0)))) 40 ((Int32.ofInt (0)))) 36 ((Int32.ofInt (0)))) 41 ((Int32.ofInt (0)))) 56 ((Int32.ofInt (0)))) 61 ((Int32.ofInt (0)))) 43 ((Int32.ofInt (0)))) 49 ((Int32.ofInt (1)))) 55 ((Int32.ofInt (0)))) q c l) rfl hj pf_55]
  rw [n_step (st' := [.ref 49]) (pc' := 62) (lv' := [(0, .ref 49)]) (hp' := rH e (upd (upd (upd (upd (upd (upd (upd (upd (upd (upd g 31 ((Int32.ofInt (0)))) 30 ((Int32.ofInt (0)))) 40 ((Int32.ofInt (0)))) 36 ((Int32.ofInt (0)))) 41 ((Int32.ofInt (0)))) 56 ((Int32.ofInt (0)))) 61 ((Int32.ofInt (0)))) 43 ((Int32.ofInt (0)))) 49 ((Int32.ofInt (1)))) 55 ((Int32.ofInt (0)))) q c l) (i := .aload_n 0) (len := 1) rfl hj rfl rfl rfl]
  rw [n_get (st' := [.ref 67]) (pc' := 65) (lv' := [(0, .ref 49)]) (hp' := rH e (upd (upd (upd (upd (upd (upd (upd (upd (upd (upd g 31 ((Int32.ofInt (0)))) 30 ((Int32.ofInt (0)))) 40 ((Int32.ofInt (0)))) 36 ((Int32.ofInt (0)))) 41 ((Int32.ofInt (0)))) 56 ((Int32.ofInt (0)))) 61 ((Int32.ofInt (0)))) 43 ((Int32.ofInt (0)))) 49 ((Int32.ofInt (1)))) 55 ((Int32.ofInt (0)))) q c l) (i := .getfield 68) (len := 3) rfl hj rfl rfl rfl rfl]
  rw [n_step (st' := [.int (Int32.ofInt (0)), .ref 67]) (pc' := 66) (lv' := [(0, .ref 49)]) (hp' := rH e (upd (upd (upd (upd (upd (upd (upd (upd (upd (upd g 31 ((Int32.ofInt (0)))) 30 ((Int32.ofInt (0)))) 40 ((Int32.ofInt (0)))) 36 ((Int32.ofInt (0)))) 41 ((Int32.ofInt (0)))) 56 ((Int32.ofInt (0)))) 61 ((Int32.ofInt (0)))) 43 ((Int32.ofInt (0)))) 49 ((Int32.ofInt (1)))) 55 ((Int32.ofInt (0)))) q c l) (i := .iconst 0) (len := 1) rfl hj rfl rfl rfl]
  rw [n_step (st' := [.int (Int32.ofInt (0)), .int (Int32.ofInt (0)), .ref 67]) (pc' := 67) (lv' := [(0, .ref 49)]) (hp' := rH e (upd (upd (upd (upd (upd (upd (upd (upd (upd (upd g 31 ((Int32.ofInt (0)))) 30 ((Int32.ofInt (0)))) 40 ((Int32.ofInt (0)))) 36 ((Int32.ofInt (0)))) 41 ((Int32.ofInt (0)))) 56 ((Int32.ofInt (0)))) 61 ((Int32.ofInt (0)))) 43 ((Int32.ofInt (0)))) 49 ((Int32.ofInt (1)))) 55 ((Int32.ofInt (0)))) q c l) (i := .iconst 0) (len := 1) rfl hj rfl rfl rfl]
  rw [n_ias (st' := []) (hp' := rH e (upd (upd (upd (upd (upd (upd (upd (upd (upd (upd g 31 ((Int32.ofInt (0)))) 30 ((Int32.ofInt (0)))) 40 ((Int32.ofInt (0)))) 36 ((Int32.ofInt (0)))) 41 ((Int32.ofInt (0)))) 56 ((Int32.ofInt (0)))) 61 ((Int32.ofInt (0)))) 43 ((Int32.ofInt (0)))) 49 ((Int32.ofInt (1)))) 55 ((Int32.ofInt (0)))) q (updA c 67 (upd (c 67) ((Int32.ofInt (0))).toNatClampNeg ((Int32.ofInt (0))))) l) rfl hj (ast_67 hz0)]
  rw [n_step (st' := [.ref 49]) (pc' := 69) (lv' := [(0, .ref 49)]) (hp' := rH e (upd (upd (upd (upd (upd (upd (upd (upd (upd (upd g 31 ((Int32.ofInt (0)))) 30 ((Int32.ofInt (0)))) 40 ((Int32.ofInt (0)))) 36 ((Int32.ofInt (0)))) 41 ((Int32.ofInt (0)))) 56 ((Int32.ofInt (0)))) 61 ((Int32.ofInt (0)))) 43 ((Int32.ofInt (0)))) 49 ((Int32.ofInt (1)))) 55 ((Int32.ofInt (0)))) q (updA c 67 (upd (c 67) ((Int32.ofInt (0))).toNatClampNeg ((Int32.ofInt (0))))) l) (i := .aload_n 0) (len := 1) rfl hj rfl rfl rfl]
  rw [n_get (st' := [.ref 68]) (pc' := 72) (lv' := [(0, .ref 49)]) (hp' := rH e (upd (upd (upd (upd (upd (upd (upd (upd (upd (upd g 31 ((Int32.ofInt (0)))) 30 ((Int32.ofInt (0)))) 40 ((Int32.ofInt (0)))) 36 ((Int32.ofInt (0)))) 41 ((Int32.ofInt (0)))) 56 ((Int32.ofInt (0)))) 61 ((Int32.ofInt (0)))) 43 ((Int32.ofInt (0)))) 49 ((Int32.ofInt (1)))) 55 ((Int32.ofInt (0)))) q (updA c 67 (upd (c 67) ((Int32.ofInt (0))).toNatClampNeg ((Int32.ofInt (0))))) l) (i := .getfield 71) (len := 3) rfl hj rfl rfl rfl rfl]
  rw [n_step (st' := [.int (Int32.ofInt (0)), .ref 68]) (pc' := 73) (lv' := [(0, .ref 49)]) (hp' := rH e (upd (upd (upd (upd (upd (upd (upd (upd (upd (upd g 31 ((Int32.ofInt (0)))) 30 ((Int32.ofInt (0)))) 40 ((Int32.ofInt (0)))) 36 ((Int32.ofInt (0)))) 41 ((Int32.ofInt (0)))) 56 ((Int32.ofInt (0)))) 61 ((Int32.ofInt (0)))) 43 ((Int32.ofInt (0)))) 49 ((Int32.ofInt (1)))) 55 ((Int32.ofInt (0)))) q (updA c 67 (upd (c 67) ((Int32.ofInt (0))).toNatClampNeg ((Int32.ofInt (0))))) l) (i := .iconst 0) (len := 1) rfl hj rfl rfl rfl]
  rw [n_step (st' := [.int (Int32.ofInt (0)), .int (Int32.ofInt (0)), .ref 68]) (pc' := 74) (lv' := [(0, .ref 49)]) (hp' := rH e (upd (upd (upd (upd (upd (upd (upd (upd (upd (upd g 31 ((Int32.ofInt (0)))) 30 ((Int32.ofInt (0)))) 40 ((Int32.ofInt (0)))) 36 ((Int32.ofInt (0)))) 41 ((Int32.ofInt (0)))) 56 ((Int32.ofInt (0)))) 61 ((Int32.ofInt (0)))) 43 ((Int32.ofInt (0)))) 49 ((Int32.ofInt (1)))) 55 ((Int32.ofInt (0)))) q (updA c 67 (upd (c 67) ((Int32.ofInt (0))).toNatClampNeg ((Int32.ofInt (0))))) l) (i := .iconst 0) (len := 1) rfl hj rfl rfl rfl]
  rw [n_ias (st' := []) (hp' := rH e (upd (upd (upd (upd (upd (upd (upd (upd (upd (upd g 31 ((Int32.ofInt (0)))) 30 ((Int32.ofInt (0)))) 40 ((Int32.ofInt (0)))) 36 ((Int32.ofInt (0)))) 41 ((Int32.ofInt (0)))) 56 ((Int32.ofInt (0)))) 61 ((Int32.ofInt (0)))) 43 ((Int32.ofInt (0)))) 49 ((Int32.ofInt (1)))) 55 ((Int32.ofInt (0)))) q (updA (updA c 67 (upd (c 67) ((Int32.ofInt (0))).toNatClampNeg ((Int32.ofInt (0))))) 68 (upd ((updA c 67 (upd (c 67) ((Int32.ofInt (0))).toNatClampNeg ((Int32.ofInt (0))))) 68) ((Int32.ofInt (0))).toNatClampNeg ((Int32.ofInt (0))))) l) rfl hj (ast_68 hz1)]
  rw [n_step (st' := [.ref 49]) (pc' := 76) (lv' := [(0, .ref 49)]) (hp' := rH e (upd (upd (upd (upd (upd (upd (upd (upd (upd (upd g 31 ((Int32.ofInt (0)))) 30 ((Int32.ofInt (0)))) 40 ((Int32.ofInt (0)))) 36 ((Int32.ofInt (0)))) 41 ((Int32.ofInt (0)))) 56 ((Int32.ofInt (0)))) 61 ((Int32.ofInt (0)))) 43 ((Int32.ofInt (0)))) 49 ((Int32.ofInt (1)))) 55 ((Int32.ofInt (0)))) q (updA (updA c 67 (upd (c 67) ((Int32.ofInt (0))).toNatClampNeg ((Int32.ofInt (0))))) 68 (upd ((updA c 67 (upd (c 67) ((Int32.ofInt (0))).toNatClampNeg ((Int32.ofInt (0))))) 68) ((Int32.ofInt (0))).toNatClampNeg ((Int32.ofInt (0))))) l) (i := .aload_n 0) (len := 1) rfl hj rfl rfl rfl]
  rw [n_step (st' := [.ref 49, .ref 49]) (pc' := 77) (lv' := [(0, .ref 49)]) (hp' := rH e (upd (upd (upd (upd (upd (upd (upd (upd (upd (upd g 31 ((Int32.ofInt (0)))) 30 ((Int32.ofInt (0)))) 40 ((Int32.ofInt (0)))) 36 ((Int32.ofInt (0)))) 41 ((Int32.ofInt (0)))) 56 ((Int32.ofInt (0)))) 61 ((Int32.ofInt (0)))) 43 ((Int32.ofInt (0)))) 49 ((Int32.ofInt (1)))) 55 ((Int32.ofInt (0)))) q (updA (updA c 67 (upd (c 67) ((Int32.ofInt (0))).toNatClampNeg ((Int32.ofInt (0))))) 68 (upd ((updA c 67 (upd (c 67) ((Int32.ofInt (0))).toNatClampNeg ((Int32.ofInt (0))))) 68) ((Int32.ofInt (0))).toNatClampNeg ((Int32.ofInt (0))))) l) (i := .aload_n 0) (len := 1) rfl hj rfl rfl rfl]
  obtain ⟨y2, cb2, hj2⟩ := mq_333
  rw [n_call (f := f) (d := d) (ki := 0) (idx := 380) (j' := 333) (kd := 0) (M' := (y2, cb2, 1, some .int, 12, 0, 0, 0)) (avs := [.ref 49]) (r := [.ref 49]) (rv := some (.int v)) (hp1 := rH e g' q' c' l') rfl hj rfl rfl rfl rfl (rq_n rfl rfl hj2 rfl rfl) rfl hc (Nat.le_of_ble_eq_true rfl)]
  exact h
set_option maxRecDepth 100000 in
set_option maxHeartbeats 4000000 in
theorem bk_320_80 {b : Bool} {d : Nat} {t0 : Int32} {e : Nat → x_E} {g : Nat → Int32} {q : Nat → Int64} {c : Nat → Nat → Int32} {l : Nat → Nat → Int64} {g' : Nat → Int32} {q' : Nat → Int64} {c' : Nat → Nat → Int32} {l' : Nat → Nat → Int64} {R : Option Value × List x_E} (hc : rr b e d 334 0 [(0, .ref 49), (1, .int (Int32.ofInt (0)))] [] (upd g 34 t0) q c l (none, rH e g' q' c' l')) (h : rr b e (d + 1) 320 88 [(0, .ref 49)] [] g' q' c' l' R) : rr b e (d + 1) 320 80 [(0, .ref 49)] [.int t0, .ref 49] g q c l R := by
  obtain ⟨f1, hc⟩ := hc
  obtain ⟨f2, h⟩ := h
  obtain ⟨f, hf1, hf2⟩ : ∃ f, f1 ≤ f ∧ f2 ≤ f := ⟨max f1 f2, Nat.le_max_left _ _, Nat.le_max_right _ _⟩
  have hc := nrun_fuel f1 f _ _ _ _ _ _ _ _ _ hf1 hc
  have h := nrun_fuel f2 f _ _ _ _ _ _ _ _ _ hf2 h
  refine ⟨f + 4, ?_⟩
  obtain ⟨y, cb, hj⟩ := mq_320
  rw [n_put (st' := []) (hp' := rH e (upd g 34 t0) q c l) rfl hj pf_34]
  rw [n_step (st' := [.ref 49]) (pc' := 84) (lv' := [(0, .ref 49)]) (hp' := rH e (upd g 34 t0) q c l) (i := .aload_n 0) (len := 1) rfl hj rfl rfl rfl]
  rw [n_step (st' := [.int (Int32.ofInt (0)), .ref 49]) (pc' := 85) (lv' := [(0, .ref 49)]) (hp' := rH e (upd g 34 t0) q c l) (i := .iconst 0) (len := 1) rfl hj rfl rfl rfl]
  obtain ⟨y2, cb2, hj2⟩ := mq_334
  rw [n_call (f := f) (d := d) (ki := 0) (idx := 377) (j' := 334) (kd := 0) (M' := (y2, cb2, 2, none, 12, 1, 0, 0)) (avs := [.ref 49, .int (Int32.ofInt (0))]) (r := []) (rv := none) (hp1 := rH e g' q' c' l') rfl hj rfl rfl rfl rfl (rq_n rfl rfl hj2 rfl rfl) rfl hc (Nat.le_of_ble_eq_true rfl)]
  exact h
set_option maxRecDepth 100000 in
set_option maxHeartbeats 4000000 in
theorem bk_320_88 {b : Bool} {d : Nat} {e : Nat → x_E} {g : Nat → Int32} {q : Nat → Int64} {c : Nat → Nat → Int32} {l : Nat → Nat → Int64} {g' : Nat → Int32} {q' : Nat → Int64} {c' : Nat → Nat → Int32} {l' : Nat → Nat → Int64} {v : Int32} {R : Option Value × List x_E} (hc : rr b e d 335 0 [(0, .ref 49), (1, .int (g 34))] [] g q c l (some (.int v), rH e g' q' c' l')) (h : rr b e (d + 1) 320 96 [(0, .ref 49)] [.int v] g' q' c' l' R) : rr b e (d + 1) 320 88 [(0, .ref 49)] [] g q c l R := by
  obtain ⟨f1, hc⟩ := hc
  obtain ⟨f2, h⟩ := h
  obtain ⟨f, hf1, hf2⟩ : ∃ f, f1 ≤ f ∧ f2 ≤ f := ⟨max f1 f2, Nat.le_max_left _ _, Nat.le_max_right _ _⟩
  have hc := nrun_fuel f1 f _ _ _ _ _ _ _ _ _ hf1 hc
  have h := nrun_fuel f2 f _ _ _ _ _ _ _ _ _ hf2 h
  refine ⟨f + 4, ?_⟩
  obtain ⟨y, cb, hj⟩ := mq_320
  rw [n_step (st' := [.ref 49]) (pc' := 89) (lv' := [(0, .ref 49)]) (hp' := rH e g q c l) (i := .aload_n 0) (len := 1) rfl hj rfl rfl rfl]
  rw [n_step (st' := [.ref 49, .ref 49]) (pc' := 90) (lv' := [(0, .ref 49)]) (hp' := rH e g q c l) (i := .aload_n 0) (len := 1) rfl hj rfl rfl rfl]
  rw [n_get (st' := [.int (g 34), .ref 49]) (pc' := 93) (lv' := [(0, .ref 49)]) (hp' := rH e g q c l) (i := .getfield 508) (len := 3) rfl hj rfl rfl rfl rfl]
  obtain ⟨y2, cb2, hj2⟩ := mq_335
  rw [n_call (f := f) (d := d) (ki := 0) (idx := 384) (j' := 335) (kd := 0) (M' := (y2, cb2, 2, some .int, 12, 1, 0, 0)) (avs := [.ref 49, .int (g 34)]) (r := []) (rv := some (.int v)) (hp1 := rH e g' q' c' l') rfl hj rfl rfl rfl rfl (rq_n rfl rfl hj2 rfl rfl) rfl hc (Nat.le_of_ble_eq_true rfl)]
  exact h
set_option maxRecDepth 100000 in
set_option maxHeartbeats 4000000 in
theorem bk_320_96 {b : Bool} {d : Nat} {t0 : Int32} {e : Nat → x_E} {g : Nat → Int32} {q : Nat → Int64} {c : Nat → Nat → Int32} {l : Nat → Nat → Int64} {g' : Nat → Int32} {q' : Nat → Int64} {c' : Nat → Nat → Int32} {l' : Nat → Nat → Int64} {v : Int32} {R : Option Value × List x_E} (hc : rr b e d 336 0 [(0, .ref 49)] [] g q c l (some (.int v), rH e g' q' c' l')) (h : rr b e (d + 1) 320 102 [(0, .ref 49)] [.int v, .ref 49] g' q' c' l' R) : rr b e (d + 1) 320 96 [(0, .ref 49)] [.int t0] g q c l R := by
  obtain ⟨f1, hc⟩ := hc
  obtain ⟨f2, h⟩ := h
  obtain ⟨f, hf1, hf2⟩ : ∃ f, f1 ≤ f ∧ f2 ≤ f := ⟨max f1 f2, Nat.le_max_left _ _, Nat.le_max_right _ _⟩
  have hc := nrun_fuel f1 f _ _ _ _ _ _ _ _ _ hf1 hc
  have h := nrun_fuel f2 f _ _ _ _ _ _ _ _ _ hf2 h
  refine ⟨f + 4, ?_⟩
  obtain ⟨y, cb, hj⟩ := mq_320
  rw [n_step (st' := []) (pc' := 97) (lv' := [(0, .ref 49)]) (hp' := rH e g q c l) (i := .pop) (len := 1) rfl hj rfl rfl rfl]
  rw [n_step (st' := [.ref 49]) (pc' := 98) (lv' := [(0, .ref 49)]) (hp' := rH e g q c l) (i := .aload_n 0) (len := 1) rfl hj rfl rfl rfl]
  rw [n_step (st' := [.ref 49, .ref 49]) (pc' := 99) (lv' := [(0, .ref 49)]) (hp' := rH e g q c l) (i := .aload_n 0) (len := 1) rfl hj rfl rfl rfl]
  obtain ⟨y2, cb2, hj2⟩ := mq_336
  rw [n_call (f := f) (d := d) (ki := 0) (idx := 469) (j' := 336) (kd := 0) (M' := (y2, cb2, 1, some .int, 12, 0, 0, 0)) (avs := [.ref 49]) (r := [.ref 49]) (rv := some (.int v)) (hp1 := rH e g' q' c' l') rfl hj rfl rfl rfl rfl (rq_n rfl rfl hj2 rfl rfl) rfl hc (Nat.le_of_ble_eq_true rfl)]
  exact h
set_option maxRecDepth 100000 in
set_option maxHeartbeats 4000000 in
theorem bk_320_102 {b : Bool} {d : Nat} {t0 : Int32} {e : Nat → x_E} {g : Nat → Int32} {q : Nat → Int64} {c : Nat → Nat → Int32} {l : Nat → Nat → Int64} {g' : Nat → Int32} {q' : Nat → Int64} {c' : Nat → Nat → Int32} {l' : Nat → Nat → Int64} {v : Int32} {R : Option Value × List x_E} (hc : rr b e d 337 0 [(0, .ref 49)] [] (upd g 63 t0) q c l (some (.int v), rH e g' q' c' l')) (h : rr b e (d + 1) 320 109 [(0, .ref 49)] [.int v] g' q' c' l' R) : rr b e (d + 1) 320 102 [(0, .ref 49)] [.int t0, .ref 49] g q c l R := by
  obtain ⟨f1, hc⟩ := hc
  obtain ⟨f2, h⟩ := h
  obtain ⟨f, hf1, hf2⟩ : ∃ f, f1 ≤ f ∧ f2 ≤ f := ⟨max f1 f2, Nat.le_max_left _ _, Nat.le_max_right _ _⟩
  have hc := nrun_fuel f1 f _ _ _ _ _ _ _ _ _ hf1 hc
  have h := nrun_fuel f2 f _ _ _ _ _ _ _ _ _ hf2 h
  refine ⟨f + 3, ?_⟩
  obtain ⟨y, cb, hj⟩ := mq_320
  rw [n_put (st' := []) (hp' := rH e (upd g 63 t0) q c l) rfl hj pf_63]
  rw [n_step (st' := [.ref 49]) (pc' := 106) (lv' := [(0, .ref 49)]) (hp' := rH e (upd g 63 t0) q c l) (i := .aload_n 0) (len := 1) rfl hj rfl rfl rfl]
  obtain ⟨y2, cb2, hj2⟩ := mq_337
  rw [n_call (f := f) (d := d) (ki := 0) (idx := 337) (j' := 337) (kd := 0) (M' := (y2, cb2, 1, some .boolean, 12, 0, 0, 0)) (avs := [.ref 49]) (r := []) (rv := some (.int v)) (hp1 := rH e g' q' c' l') rfl hj rfl rfl rfl rfl (rq_n rfl rfl hj2 rfl rfl) rfl hc (Nat.le_of_ble_eq_true rfl)]
  exact h
set_option maxRecDepth 100000 in
set_option maxHeartbeats 4000000 in
theorem bk_320_109 {b : Bool} {d : Nat} {t0 : Int32} {e : Nat → x_E} {g : Nat → Int32} {q : Nat → Int64} {c : Nat → Nat → Int32} {l : Nat → Nat → Int64} {R : Option Value × List x_E} (h1 : xCn .ne t0 0 = true → rr b e d 320 123 [(0, .ref 49)] [] g q c l R) (h2 : ¬ xCn .ne t0 0 = true → rr b e d 320 112 [(0, .ref 49)] [] g q c l R) : rr b e d 320 109 [(0, .ref 49)] [.int t0] g q c l R := by
  have key : ∀ f, nrun xZ (xY (xfm b)) xDT (f + 1) d 320 109 [(0, .ref 49)] [.int t0] (rH e g q c l) 0 0 = nrun xZ (xY (xfm b)) xDT f d 320 (if xCn .ne t0 0 = true then 123 else 112) [(0, .ref 49)] [] (rH e g q c l) 0 0 := by
    intro f
    obtain ⟨y, cb, hj⟩ := mq_320
    rw [n_step (st' := []) (pc' := (if xCn .ne t0 0 = true then 123 else 112)) (lv' := [(0, .ref 49)]) (hp' := rH e g q c l) (i := .ifCond .ne 14) (len := 3) rfl hj rfl rfl rfl]
  by_cases hc : xCn .ne t0 0 = true
  · obtain ⟨f, h⟩ := h1 hc
    refine ⟨f + 1, ?_⟩
    rw [key, if_pos hc]
    exact h
  · obtain ⟨f, h⟩ := h2 hc
    refine ⟨f + 1, ?_⟩
    rw [key, if_neg hc]
    exact h
set_option maxRecDepth 100000 in
set_option maxHeartbeats 4000000 in
theorem bk_320_112 {b : Bool} {d : Nat} {e : Nat → x_E} {g : Nat → Int32} {q : Nat → Int64} {c : Nat → Nat → Int32} {l : Nat → Nat → Int64} {R : Option Value × List x_E} (h1 : xCn .eq ((g 10)) 0 = true → rr b e d 320 123 [(0, .ref 49)] [] g q c l R) (h2 : ¬ xCn .eq ((g 10)) 0 = true → rr b e d 320 119 [(0, .ref 49)] [] g q c l R) : rr b e d 320 112 [(0, .ref 49)] [] g q c l R := by
  have key : ∀ f, nrun xZ (xY (xfm b)) xDT (f + 3) d 320 112 [(0, .ref 49)] [] (rH e g q c l) 0 0 = nrun xZ (xY (xfm b)) xDT f d 320 (if xCn .eq ((g 10)) 0 = true then 123 else 119) [(0, .ref 49)] [] (rH e g q c l) 0 0 := by
    intro f
    obtain ⟨y, cb, hj⟩ := mq_320
    rw [n_step (st' := [.ref 49]) (pc' := 113) (lv' := [(0, .ref 49)]) (hp' := rH e g q c l) (i := .aload_n 0) (len := 1) rfl hj rfl rfl rfl]
    rw [n_get (st' := [.int (g 10)]) (pc' := 116) (lv' := [(0, .ref 49)]) (hp' := rH e g q c l) (i := .getfield 273) (len := 3) rfl hj rfl rfl rfl rfl]
    rw [n_step (st' := []) (pc' := (if xCn .eq ((g 10)) 0 = true then 123 else 119)) (lv' := [(0, .ref 49)]) (hp' := rH e g q c l) (i := .ifCond .eq 7) (len := 3) rfl hj rfl rfl rfl]
  by_cases hc : xCn .eq ((g 10)) 0 = true
  · obtain ⟨f, h⟩ := h1 hc
    refine ⟨f + 3, ?_⟩
    rw [key, if_pos hc]
    exact h
  · obtain ⟨f, h⟩ := h2 hc
    refine ⟨f + 3, ?_⟩
    rw [key, if_neg hc]
    exact h
set_option maxRecDepth 100000 in
set_option maxHeartbeats 4000000 in
theorem bk_320_119 {b : Bool} {d : Nat} {e : Nat → x_E} {g : Nat → Int32} {q : Nat → Int64} {c : Nat → Nat → Int32} {l : Nat → Nat → Int64} {g' : Nat → Int32} {q' : Nat → Int64} {c' : Nat → Nat → Int32} {l' : Nat → Nat → Int64} {R : Option Value × List x_E} (hc : rr b e d 342 0 [(0, .ref 49)] [] g q c l (none, rH e g' q' c' l')) (h : rr b e (d + 1) 320 123 [(0, .ref 49)] [] g' q' c' l' R) : rr b e (d + 1) 320 119 [(0, .ref 49)] [] g q c l R := by
  obtain ⟨f1, hc⟩ := hc
  obtain ⟨f2, h⟩ := h
  obtain ⟨f, hf1, hf2⟩ : ∃ f, f1 ≤ f ∧ f2 ≤ f := ⟨max f1 f2, Nat.le_max_left _ _, Nat.le_max_right _ _⟩
  have hc := nrun_fuel f1 f _ _ _ _ _ _ _ _ _ hf1 hc
  have h := nrun_fuel f2 f _ _ _ _ _ _ _ _ _ hf2 h
  refine ⟨f + 2, ?_⟩
  obtain ⟨y, cb, hj⟩ := mq_320
  rw [n_step (st' := [.ref 49]) (pc' := 120) (lv' := [(0, .ref 49)]) (hp' := rH e g q c l) (i := .aload_n 0) (len := 1) rfl hj rfl rfl rfl]
  obtain ⟨y2, cb2, hj2⟩ := mq_342
  rw [n_call (f := f) (d := d) (ki := 0) (idx := 347) (j' := 342) (kd := 0) (M' := (y2, cb2, 1, none, 12, 0, 0, 0)) (avs := [.ref 49]) (r := []) (rv := none) (hp1 := rH e g' q' c' l') rfl hj rfl rfl rfl rfl (rq_n rfl rfl hj2 rfl rfl) rfl hc (Nat.le_of_ble_eq_true rfl)]
  exact h
set_option maxRecDepth 100000 in
set_option maxHeartbeats 4000000 in
theorem bk_320_123 {b : Bool} {d : Nat} {e : Nat → x_E} {g : Nat → Int32} {q : Nat → Int64} {c : Nat → Nat → Int32} {l : Nat → Nat → Int64} {g' : Nat → Int32} {q' : Nat → Int64} {c' : Nat → Nat → Int32} {l' : Nat → Nat → Int64} {v : Int32} {R : Option Value × List x_E} (hc : rr b e d 355 0 [(0, .ref 49), (1, .int (Int8.ofInt (14)).toInt32), (2, .int (Int32.ofInt (0)))] [] g q c l (some (.int v), rH e g' q' c' l')) (h : rr b e (d + 1) 320 130 [(0, .ref 49)] [.int v] g' q' c' l' R) : rr b e (d + 1) 320 123 [(0, .ref 49)] [] g q c l R := by
  obtain ⟨f1, hc⟩ := hc
  obtain ⟨f2, h⟩ := h
  obtain ⟨f, hf1, hf2⟩ : ∃ f, f1 ≤ f ∧ f2 ≤ f := ⟨max f1 f2, Nat.le_max_left _ _, Nat.le_max_right _ _⟩
  have hc := nrun_fuel f1 f _ _ _ _ _ _ _ _ _ hf1 hc
  have h := nrun_fuel f2 f _ _ _ _ _ _ _ _ _ hf2 h
  refine ⟨f + 4, ?_⟩
  obtain ⟨y, cb, hj⟩ := mq_320
  rw [n_step (st' := [.ref 49]) (pc' := 124) (lv' := [(0, .ref 49)]) (hp' := rH e g q c l) (i := .aload_n 0) (len := 1) rfl hj rfl rfl rfl]
  rw [n_step (st' := [.int (Int8.ofInt (14)).toInt32, .ref 49]) (pc' := 126) (lv' := [(0, .ref 49)]) (hp' := rH e g q c l) (i := .bipush 14) (len := 2) rfl hj rfl rfl rfl]
  rw [n_step (st' := [.int (Int32.ofInt (0)), .int (Int8.ofInt (14)).toInt32, .ref 49]) (pc' := 127) (lv' := [(0, .ref 49)]) (hp' := rH e g q c l) (i := .iconst 0) (len := 1) rfl hj rfl rfl rfl]
  obtain ⟨y2, cb2, hj2⟩ := mq_355
  rw [n_call (f := f) (d := d) (ki := 0) (idx := 496) (j' := 355) (kd := 0) (M' := (y2, cb2, 3, some .int, 12, 2, 0, 0)) (avs := [.ref 49, .int (Int8.ofInt (14)).toInt32, .int (Int32.ofInt (0))]) (r := []) (rv := some (.int v)) (hp1 := rH e g' q' c' l') rfl hj rfl rfl rfl rfl (rq_n rfl rfl hj2 rfl rfl) rfl hc (Nat.le_of_ble_eq_true rfl)]
  exact h
set_option maxRecDepth 100000 in
set_option maxHeartbeats 4000000 in
theorem bk_320_130 {b : Bool} {d : Nat} {t0 : Int32} {e : Nat → x_E} {g : Nat → Int32} {q : Nat → Int64} {c : Nat → Nat → Int32} {l : Nat → Nat → Int64} {R : Option Value × List x_E} (h1 : xCn .eq ((g 23)) 0 = true → rr b e d 320 161 [] [] g q c l R) (h2 : ¬ xCn .eq ((g 23)) 0 = true → rr b e d 320 138 [(0, .ref 49)] [] g q c l R) : rr b e d 320 130 [(0, .ref 49)] [.int t0] g q c l R := by
  have key : ∀ f, nrun xZ (xY (xfm b)) xDT (f + 4) d 320 130 [(0, .ref 49)] [.int t0] (rH e g q c l) 0 0 = nrun xZ (xY (xfm b)) xDT f d 320 (if xCn .eq ((g 23)) 0 = true then 161 else 138) [(0, .ref 49)] [] (rH e g q c l) 0 0 := by
    intro f
    obtain ⟨y, cb, hj⟩ := mq_320
    rw [n_step (st' := []) (pc' := 131) (lv' := [(0, .ref 49)]) (hp' := rH e g q c l) (i := .pop) (len := 1) rfl hj rfl rfl rfl]
    rw [n_step (st' := [.ref 49]) (pc' := 132) (lv' := [(0, .ref 49)]) (hp' := rH e g q c l) (i := .aload_n 0) (len := 1) rfl hj rfl rfl rfl]
    rw [n_get (st' := [.int (g 23)]) (pc' := 135) (lv' := [(0, .ref 49)]) (hp' := rH e g q c l) (i := .getfield 325) (len := 3) rfl hj rfl rfl rfl rfl]
    rw [n_step (st' := []) (pc' := (if xCn .eq ((g 23)) 0 = true then 161 else 138)) (lv' := [(0, .ref 49)]) (hp' := rH e g q c l) (i := .ifCond .eq 26) (len := 3) rfl hj rfl rfl rfl]
  by_cases hc : xCn .eq ((g 23)) 0 = true
  · obtain ⟨f, h⟩ := h1 hc
    refine ⟨f + 4, ?_⟩
    rw [key, if_pos hc]
    exact nrun_ext f f _ _ R 320 161 [] [(0, .ref 49)] [] _ 0 0 122 (Nat.le_refl _) (Nat.le_refl _) (Nat.le_of_ble_eq_true rfl) (lvR_mk [] [0] rfl rfl (by decide) (by decide) (fun _ h => nomatch h) (List.forall_mem_cons.mpr ⟨Or.inr rfl, (fun _ h => nomatch h)⟩)) h
  · obtain ⟨f, h⟩ := h2 hc
    refine ⟨f + 4, ?_⟩
    rw [key, if_neg hc]
    exact h
set_option maxRecDepth 100000 in
set_option maxHeartbeats 4000000 in
theorem bk_320_138 {b : Bool} {d : Nat} {e : Nat → x_E} {g : Nat → Int32} {q : Nat → Int64} {c : Nat → Nat → Int32} {l : Nat → Nat → Int64} {g' : Nat → Int32} {q' : Nat → Int64} {c' : Nat → Nat → Int32} {l' : Nat → Nat → Int64} {v : Int32} {R : Option Value × List x_E} (hc : rr b e d 337 0 [(0, .ref 49)] [] g q c l (some (.int v), rH e g' q' c' l')) (h : rr b e (d + 1) 320 142 [(0, .ref 49)] [.int v] g' q' c' l' R) : rr b e (d + 1) 320 138 [(0, .ref 49)] [] g q c l R := by
  obtain ⟨f1, hc⟩ := hc
  obtain ⟨f2, h⟩ := h
  obtain ⟨f, hf1, hf2⟩ : ∃ f, f1 ≤ f ∧ f2 ≤ f := ⟨max f1 f2, Nat.le_max_left _ _, Nat.le_max_right _ _⟩
  have hc := nrun_fuel f1 f _ _ _ _ _ _ _ _ _ hf1 hc
  have h := nrun_fuel f2 f _ _ _ _ _ _ _ _ _ hf2 h
  refine ⟨f + 2, ?_⟩
  obtain ⟨y, cb, hj⟩ := mq_320
  rw [n_step (st' := [.ref 49]) (pc' := 139) (lv' := [(0, .ref 49)]) (hp' := rH e g q c l) (i := .aload_n 0) (len := 1) rfl hj rfl rfl rfl]
  obtain ⟨y2, cb2, hj2⟩ := mq_337
  rw [n_call (f := f) (d := d) (ki := 0) (idx := 337) (j' := 337) (kd := 0) (M' := (y2, cb2, 1, some .boolean, 12, 0, 0, 0)) (avs := [.ref 49]) (r := []) (rv := some (.int v)) (hp1 := rH e g' q' c' l') rfl hj rfl rfl rfl rfl (rq_n rfl rfl hj2 rfl rfl) rfl hc (Nat.le_of_ble_eq_true rfl)]
  exact h
set_option maxRecDepth 100000 in
set_option maxHeartbeats 4000000 in
theorem bk_320_142 {b : Bool} {d : Nat} {t0 : Int32} {e : Nat → x_E} {g : Nat → Int32} {q : Nat → Int64} {c : Nat → Nat → Int32} {l : Nat → Nat → Int64} {R : Option Value × List x_E} (h1 : xCn .ne t0 0 = true → rr b e d 320 161 [] [] g q c l R) (h2 : ¬ xCn .ne t0 0 = true → rr b e d 320 145 [(0, .ref 49)] [] g q c l R) : rr b e d 320 142 [(0, .ref 49)] [.int t0] g q c l R := by
  have key : ∀ f, nrun xZ (xY (xfm b)) xDT (f + 1) d 320 142 [(0, .ref 49)] [.int t0] (rH e g q c l) 0 0 = nrun xZ (xY (xfm b)) xDT f d 320 (if xCn .ne t0 0 = true then 161 else 145) [(0, .ref 49)] [] (rH e g q c l) 0 0 := by
    intro f
    obtain ⟨y, cb, hj⟩ := mq_320
    rw [n_step (st' := []) (pc' := (if xCn .ne t0 0 = true then 161 else 145)) (lv' := [(0, .ref 49)]) (hp' := rH e g q c l) (i := .ifCond .ne 19) (len := 3) rfl hj rfl rfl rfl]
  by_cases hc : xCn .ne t0 0 = true
  · obtain ⟨f, h⟩ := h1 hc
    refine ⟨f + 1, ?_⟩
    rw [key, if_pos hc]
    exact nrun_ext f f _ _ R 320 161 [] [(0, .ref 49)] [] _ 0 0 122 (Nat.le_refl _) (Nat.le_refl _) (Nat.le_of_ble_eq_true rfl) (lvR_mk [] [0] rfl rfl (by decide) (by decide) (fun _ h => nomatch h) (List.forall_mem_cons.mpr ⟨Or.inr rfl, (fun _ h => nomatch h)⟩)) h
  · obtain ⟨f, h⟩ := h2 hc
    refine ⟨f + 1, ?_⟩
    rw [key, if_neg hc]
    exact h
set_option maxRecDepth 100000 in
set_option maxHeartbeats 4000000 in
theorem bk_320_145 {b : Bool} {d : Nat} {e : Nat → x_E} {g : Nat → Int32} {q : Nat → Int64} {c : Nat → Nat → Int32} {l : Nat → Nat → Int64} {R : Option Value × List x_E} (h1 : xCn .ne ((g 21)) 0 = true → rr b e d 320 161 [] [] g q c l R) (h2 : ¬ xCn .ne ((g 21)) 0 = true → rr b e d 320 152 [(0, .ref 49)] [] g q c l R) : rr b e d 320 145 [(0, .ref 49)] [] g q c l R := by
  have key : ∀ f, nrun xZ (xY (xfm b)) xDT (f + 3) d 320 145 [(0, .ref 49)] [] (rH e g q c l) 0 0 = nrun xZ (xY (xfm b)) xDT f d 320 (if xCn .ne ((g 21)) 0 = true then 161 else 152) [(0, .ref 49)] [] (rH e g q c l) 0 0 := by
    intro f
    obtain ⟨y, cb, hj⟩ := mq_320
    rw [n_step (st' := [.ref 49]) (pc' := 146) (lv' := [(0, .ref 49)]) (hp' := rH e g q c l) (i := .aload_n 0) (len := 1) rfl hj rfl rfl rfl]
    rw [n_get (st' := [.int (g 21)]) (pc' := 149) (lv' := [(0, .ref 49)]) (hp' := rH e g q c l) (i := .getfield 331) (len := 3) rfl hj rfl rfl rfl rfl]
    rw [n_step (st' := []) (pc' := (if xCn .ne ((g 21)) 0 = true then 161 else 152)) (lv' := [(0, .ref 49)]) (hp' := rH e g q c l) (i := .ifCond .ne 12) (len := 3) rfl hj rfl rfl rfl]
  by_cases hc : xCn .ne ((g 21)) 0 = true
  · obtain ⟨f, h⟩ := h1 hc
    refine ⟨f + 3, ?_⟩
    rw [key, if_pos hc]
    exact nrun_ext f f _ _ R 320 161 [] [(0, .ref 49)] [] _ 0 0 122 (Nat.le_refl _) (Nat.le_refl _) (Nat.le_of_ble_eq_true rfl) (lvR_mk [] [0] rfl rfl (by decide) (by decide) (fun _ h => nomatch h) (List.forall_mem_cons.mpr ⟨Or.inr rfl, (fun _ h => nomatch h)⟩)) h
  · obtain ⟨f, h⟩ := h2 hc
    refine ⟨f + 3, ?_⟩
    rw [key, if_neg hc]
    exact h
set_option maxRecDepth 100000 in
set_option maxHeartbeats 4000000 in
theorem bk_320_152 {b : Bool} {d : Nat} {e : Nat → x_E} {g : Nat → Int32} {q : Nat → Int64} {c : Nat → Nat → Int32} {l : Nat → Nat → Int64} {g' : Nat → Int32} {q' : Nat → Int64} {c' : Nat → Nat → Int32} {l' : Nat → Nat → Int64} {R : Option Value × List x_E} (hc : rr b e d 358 0 [(0, .ref 49), (1, .int (Int32.ofInt (0))), (2, .int (g 43))] [] g q c l (none, rH e g' q' c' l')) (h : rr b e (d + 1) 320 161 [] [] g' q' c' l' R) : rr b e (d + 1) 320 152 [(0, .ref 49)] [] g q c l R := by
  obtain ⟨f1, hc⟩ := hc
  obtain ⟨f2, h⟩ := h
  obtain ⟨f, hf1, hf2⟩ : ∃ f, f1 ≤ f ∧ f2 ≤ f := ⟨max f1 f2, Nat.le_max_left _ _, Nat.le_max_right _ _⟩
  have hc := nrun_fuel f1 f _ _ _ _ _ _ _ _ _ hf1 hc
  have h := nrun_fuel f2 f _ _ _ _ _ _ _ _ _ hf2 h
  refine ⟨f + 5, ?_⟩
  obtain ⟨y, cb, hj⟩ := mq_320
  rw [n_step (st' := [.ref 49]) (pc' := 153) (lv' := [(0, .ref 49)]) (hp' := rH e g q c l) (i := .aload_n 0) (len := 1) rfl hj rfl rfl rfl]
  rw [n_step (st' := [.int (Int32.ofInt (0)), .ref 49]) (pc' := 154) (lv' := [(0, .ref 49)]) (hp' := rH e g q c l) (i := .iconst 0) (len := 1) rfl hj rfl rfl rfl]
  rw [n_step (st' := [.ref 49, .int (Int32.ofInt (0)), .ref 49]) (pc' := 155) (lv' := [(0, .ref 49)]) (hp' := rH e g q c l) (i := .aload_n 0) (len := 1) rfl hj rfl rfl rfl]
  rw [n_get (st' := [.int (g 43), .int (Int32.ofInt (0)), .ref 49]) (pc' := 158) (lv' := [(0, .ref 49)]) (hp' := rH e g q c l) (i := .getfield 430) (len := 3) rfl hj rfl rfl rfl rfl]
  obtain ⟨y2, cb2, hj2⟩ := mq_358
  rw [n_call (f := f) (d := d) (ki := 0) (idx := 554) (j' := 358) (kd := 0) (M' := (y2, cb2, 6, none, 12, 2, 0, 0)) (avs := [.ref 49, .int (Int32.ofInt (0)), .int (g 43)]) (r := []) (rv := none) (hp1 := rH e g' q' c' l') rfl hj rfl rfl rfl rfl (rq_n rfl rfl hj2 rfl rfl) rfl hc (Nat.le_of_ble_eq_true rfl)]
  exact nrun_ext f f _ _ R 320 161 [] [(0, .ref 49)] [] _ 0 0 122 (Nat.le_refl _) (Nat.le_refl _) (Nat.le_of_ble_eq_true rfl) (lvR_mk [] [0] rfl rfl (by decide) (by decide) (fun _ h => nomatch h) (List.forall_mem_cons.mpr ⟨Or.inr rfl, (fun _ h => nomatch h)⟩)) h
set_option maxRecDepth 100000 in
set_option maxHeartbeats 4000000 in
theorem bk_320_161 {b : Bool} {d : Nat} {e : Nat → x_E} {g : Nat → Int32} {q : Nat → Int64} {c : Nat → Nat → Int32} {l : Nat → Nat → Int64} : rr b e d 320 161 [] [] g q c l (none, rH e g q c l) := by
  refine ⟨0 + 1, ?_⟩
  obtain ⟨y, cb, hj⟩ := mq_320
  exact n_ret rfl hj rfl rfl rfl
set_option maxRecDepth 100000 in
set_option maxHeartbeats 4000000 in
theorem bk_321_0 {b : Bool} {d : Nat} {e : Nat → x_E} {g : Nat → Int32} {q : Nat → Int64} {c : Nat → Nat → Int32} {l : Nat → Nat → Int64} {g' : Nat → Int32} {q' : Nat → Int64} {c' : Nat → Nat → Int32} {l' : Nat → Nat → Int64} {R : Option Value × List x_E} (hc : rr b e d 322 0 [(0, .ref 49)] [] (upd (upd (upd g 12 ((Int32.ofInt (0)))) 17 ((Int32.ofInt (0)))) 24 ((Int32.ofInt (0)))) q c l (none, rH e g' q' c' l')) (h : rr b e (d + 1) 321 19 [] [] g' q' c' l' R) : rr b e (d + 1) 321 0 [(0, .ref 49)] [] g q c l R := by
  obtain ⟨f1, hc⟩ := hc
  obtain ⟨f2, h⟩ := h
  obtain ⟨f, hf1, hf2⟩ : ∃ f, f1 ≤ f ∧ f2 ≤ f := ⟨max f1 f2, Nat.le_max_left _ _, Nat.le_max_right _ _⟩
  have hc := nrun_fuel f1 f _ _ _ _ _ _ _ _ _ hf1 hc
  have h := nrun_fuel f2 f _ _ _ _ _ _ _ _ _ hf2 h
  refine ⟨f + 11, ?_⟩
  obtain ⟨y, cb, hj⟩ := mq_321
  rw [n_step (st' := [.ref 49]) (pc' := 1) (lv' := [(0, .ref 49)]) (hp' := rH e g q c l) (i := .aload_n 0) (len := 1) rfl hj rfl rfl rfl]
  rw [n_step (st' := [.int (Int32.ofInt (0)), .ref 49]) (pc' := 2) (lv' := [(0, .ref 49)]) (hp' := rH e g q c l) (i := .iconst 0) (len := 1) rfl hj rfl rfl rfl]
  rw [n_put (st' := []) (hp' := rH e (upd g 12 ((Int32.ofInt (0)))) q c l) rfl hj pf_12]
  rw [n_step (st' := [.ref 49]) (pc' := 6) (lv' := [(0, .ref 49)]) (hp' := rH e (upd g 12 ((Int32.ofInt (0)))) q c l) (i := .aload_n 0) (len := 1) rfl hj rfl rfl rfl]
  rw [n_step (st' := [.int (Int32.ofInt (0)), .ref 49]) (pc' := 7) (lv' := [(0, .ref 49)]) (hp' := rH e (upd g 12 ((Int32.ofInt (0)))) q c l) (i := .iconst 0) (len := 1) rfl hj rfl rfl rfl]
  rw [n_put (st' := []) (hp' := rH e (upd (upd g 12 ((Int32.ofInt (0)))) 17 ((Int32.ofInt (0)))) q c l) rfl hj pf_17]
  rw [n_step (st' := [.ref 49]) (pc' := 11) (lv' := [(0, .ref 49)]) (hp' := rH e (upd (upd g 12 ((Int32.ofInt (0)))) 17 ((Int32.ofInt (0)))) q c l) (i := .aload_n 0) (len := 1) rfl hj rfl rfl rfl]
  rw [n_step (st' := [.int (Int32.ofInt (0)), .ref 49]) (pc' := 12) (lv' := [(0, .ref 49)]) (hp' := rH e (upd (upd g 12 ((Int32.ofInt (0)))) 17 ((Int32.ofInt (0)))) q c l) (i := .iconst 0) (len := 1) rfl hj rfl rfl rfl]
  rw [n_put (st' := []) (hp' := rH e (upd (upd (upd g 12 ((Int32.ofInt (0)))) 17 ((Int32.ofInt (0)))) 24 ((Int32.ofInt (0)))) q c l) rfl hj pf_24]
  rw [n_step (st' := [.ref 49]) (pc' := 16) (lv' := [(0, .ref 49)]) (hp' := rH e (upd (upd (upd g 12 ((Int32.ofInt (0)))) 17 ((Int32.ofInt (0)))) 24 ((Int32.ofInt (0)))) q c l) (i := .aload_n 0) (len := 1) rfl hj rfl rfl rfl]
  obtain ⟨y2, cb2, hj2⟩ := mq_322
  rw [n_call (f := f) (d := d) (ki := 0) (idx := 344) (j' := 322) (kd := 0) (M' := (y2, cb2, 2, none, 12, 0, 0, 0)) (avs := [.ref 49]) (r := []) (rv := none) (hp1 := rH e g' q' c' l') rfl hj rfl rfl rfl rfl (rq_n rfl rfl hj2 rfl rfl) rfl hc (Nat.le_of_ble_eq_true rfl)]
  exact nrun_ext f f _ _ R 321 19 [] [(0, .ref 49)] [] _ 0 0 122 (Nat.le_refl _) (Nat.le_refl _) (Nat.le_of_ble_eq_true rfl) (lvR_mk [] [0] rfl rfl (by decide) (by decide) (fun _ h => nomatch h) (List.forall_mem_cons.mpr ⟨Or.inr rfl, (fun _ h => nomatch h)⟩)) h
set_option maxRecDepth 100000 in
set_option maxHeartbeats 4000000 in
theorem bk_321_19 {b : Bool} {d : Nat} {e : Nat → x_E} {g : Nat → Int32} {q : Nat → Int64} {c : Nat → Nat → Int32} {l : Nat → Nat → Int64} : rr b e d 321 19 [] [] g q c l (none, rH e g q c l) := by
  refine ⟨0 + 1, ?_⟩
  obtain ⟨y, cb, hj⟩ := mq_321
  exact n_ret rfl hj rfl rfl rfl
set_option maxRecDepth 100000 in
set_option maxHeartbeats 4000000 in
theorem bk_322_0 {b : Bool} {d : Nat} {e : Nat → x_E} {g : Nat → Int32} {q : Nat → Int64} {c : Nat → Nat → Int32} {l : Nat → Nat → Int64} {R : Option Value × List x_E} (h1 : xCn .le ((g 17)) ((g 18)) = true → rr b e d 322 20 [(0, .ref 49)] [] g q c l R) (h2 : ¬ xCn .le ((g 17)) ((g 18)) = true → rr b e d 322 11 [(0, .ref 49)] [] g q c l R) : rr b e d 322 0 [(0, .ref 49)] [] g q c l R := by
  have key : ∀ f, nrun xZ (xY (xfm b)) xDT (f + 5) d 322 0 [(0, .ref 49)] [] (rH e g q c l) 0 0 = nrun xZ (xY (xfm b)) xDT f d 322 (if xCn .le ((g 17)) ((g 18)) = true then 20 else 11) [(0, .ref 49)] [] (rH e g q c l) 0 0 := by
    intro f
    obtain ⟨y, cb, hj⟩ := mq_322
    rw [n_step (st' := [.ref 49]) (pc' := 1) (lv' := [(0, .ref 49)]) (hp' := rH e g q c l) (i := .aload_n 0) (len := 1) rfl hj rfl rfl rfl]
    rw [n_get (st' := [.int (g 17)]) (pc' := 4) (lv' := [(0, .ref 49)]) (hp' := rH e g q c l) (i := .getfield 251) (len := 3) rfl hj rfl rfl rfl rfl]
    rw [n_step (st' := [.ref 49, .int (g 17)]) (pc' := 5) (lv' := [(0, .ref 49)]) (hp' := rH e g q c l) (i := .aload_n 0) (len := 1) rfl hj rfl rfl rfl]
    rw [n_get (st' := [.int (g 18), .int (g 17)]) (pc' := 8) (lv' := [(0, .ref 49)]) (hp' := rH e g q c l) (i := .getfield 254) (len := 3) rfl hj rfl rfl rfl rfl]
    rw [n_step (st' := []) (pc' := (if xCn .le ((g 17)) ((g 18)) = true then 20 else 11)) (lv' := [(0, .ref 49)]) (hp' := rH e g q c l) (i := .if_icmp .le 12) (len := 3) rfl hj rfl rfl rfl]
  by_cases hc : xCn .le ((g 17)) ((g 18)) = true
  · obtain ⟨f, h⟩ := h1 hc
    refine ⟨f + 5, ?_⟩
    rw [key, if_pos hc]
    exact h
  · obtain ⟨f, h⟩ := h2 hc
    refine ⟨f + 5, ?_⟩
    rw [key, if_neg hc]
    exact h
set_option maxRecDepth 100000 in
set_option maxHeartbeats 4000000 in
theorem bk_322_11 {b : Bool} {d : Nat} {e : Nat → x_E} {g : Nat → Int32} {q : Nat → Int64} {c : Nat → Nat → Int32} {l : Nat → Nat → Int64} {g' : Nat → Int32} {q' : Nat → Int64} {c' : Nat → Nat → Int32} {l' : Nat → Nat → Int64} {R : Option Value × List x_E} (hc : rr b e d 323 0 [(0, .ref 49), (1, .int (Int32.ofInt (2))), (2, .int (g 11))] [] g q c l (none, rH e g' q' c' l')) (h : rr b e (d + 1) 322 20 [(0, .ref 49)] [] g' q' c' l' R) : rr b e (d + 1) 322 11 [(0, .ref 49)] [] g q c l R := by
  obtain ⟨f1, hc⟩ := hc
  obtain ⟨f2, h⟩ := h
  obtain ⟨f, hf1, hf2⟩ : ∃ f, f1 ≤ f ∧ f2 ≤ f := ⟨max f1 f2, Nat.le_max_left _ _, Nat.le_max_right _ _⟩
  have hc := nrun_fuel f1 f _ _ _ _ _ _ _ _ _ hf1 hc
  have h := nrun_fuel f2 f _ _ _ _ _ _ _ _ _ hf2 h
  refine ⟨f + 5, ?_⟩
  obtain ⟨y, cb, hj⟩ := mq_322
  rw [n_step (st' := [.ref 49]) (pc' := 12) (lv' := [(0, .ref 49)]) (hp' := rH e g q c l) (i := .aload_n 0) (len := 1) rfl hj rfl rfl rfl]
  rw [n_step (st' := [.int (Int32.ofInt (2)), .ref 49]) (pc' := 13) (lv' := [(0, .ref 49)]) (hp' := rH e g q c l) (i := .iconst 2) (len := 1) rfl hj rfl rfl rfl]
  rw [n_step (st' := [.ref 49, .int (Int32.ofInt (2)), .ref 49]) (pc' := 14) (lv' := [(0, .ref 49)]) (hp' := rH e g q c l) (i := .aload_n 0) (len := 1) rfl hj rfl rfl rfl]
  rw [n_get (st' := [.int (g 11), .int (Int32.ofInt (2)), .ref 49]) (pc' := 17) (lv' := [(0, .ref 49)]) (hp' := rH e g q c l) (i := .getfield 257) (len := 3) rfl hj rfl rfl rfl rfl]
  obtain ⟨y2, cb2, hj2⟩ := mq_323
  rw [n_call (f := f) (d := d) (ki := 0) (idx := 260) (j' := 323) (kd := 0) (M' := (y2, cb2, 3, none, 12, 2, 0, 0)) (avs := [.ref 49, .int (Int32.ofInt (2)), .int (g 11)]) (r := []) (rv := none) (hp1 := rH e g' q' c' l') rfl hj rfl rfl rfl rfl (rq_n rfl rfl hj2 rfl rfl) rfl hc (Nat.le_of_ble_eq_true rfl)]
  exact h
set_option maxRecDepth 100000 in
set_option maxHeartbeats 4000000 in
theorem bk_322_20 {b : Bool} {d : Nat} {e : Nat → x_E} {g : Nat → Int32} {q : Nat → Int64} {c : Nat → Nat → Int32} {l : Nat → Nat → Int64} {g' : Nat → Int32} {q' : Nat → Int64} {c' : Nat → Nat → Int32} {l' : Nat → Nat → Int64} {v : Int32} {R : Option Value × List x_E} (hc : rr b e d 324 0 [(0, .ref 49), (1, .int (g 12))] [] g q c l (some (.int v), rH e g' q' c' l')) (h : rr b e (d + 1) 322 29 [(0, .ref 49)] [.int v, .ref 49] g' q' c' l' R) : rr b e (d + 1) 322 20 [(0, .ref 49)] [] g q c l R := by
  obtain ⟨f1, hc⟩ := hc
  obtain ⟨f2, h⟩ := h
  obtain ⟨f, hf1, hf2⟩ : ∃ f, f1 ≤ f ∧ f2 ≤ f := ⟨max f1 f2, Nat.le_max_left _ _, Nat.le_max_right _ _⟩
  have hc := nrun_fuel f1 f _ _ _ _ _ _ _ _ _ hf1 hc
  have h := nrun_fuel f2 f _ _ _ _ _ _ _ _ _ hf2 h
  refine ⟨f + 5, ?_⟩
  obtain ⟨y, cb, hj⟩ := mq_322
  rw [n_step (st' := [.ref 49]) (pc' := 21) (lv' := [(0, .ref 49)]) (hp' := rH e g q c l) (i := .aload_n 0) (len := 1) rfl hj rfl rfl rfl]
  rw [n_step (st' := [.ref 49, .ref 49]) (pc' := 22) (lv' := [(0, .ref 49)]) (hp' := rH e g q c l) (i := .aload_n 0) (len := 1) rfl hj rfl rfl rfl]
  rw [n_step (st' := [.ref 49, .ref 49, .ref 49]) (pc' := 23) (lv' := [(0, .ref 49)]) (hp' := rH e g q c l) (i := .aload_n 0) (len := 1) rfl hj rfl rfl rfl]
  rw [n_get (st' := [.int (g 12), .ref 49, .ref 49]) (pc' := 26) (lv' := [(0, .ref 49)]) (hp' := rH e g q c l) (i := .getfield 264) (len := 3) rfl hj rfl rfl rfl rfl]
  obtain ⟨y2, cb2, hj2⟩ := mq_324
  rw [n_call (f := f) (d := d) (ki := 0) (idx := 267) (j' := 324) (kd := 0) (M' := (y2, cb2, 5, some .int, 12, 1, 0, 0)) (avs := [.ref 49, .int (g 12)]) (r := [.ref 49]) (rv := some (.int v)) (hp1 := rH e g' q' c' l') rfl hj rfl rfl rfl rfl (rq_n rfl rfl hj2 rfl rfl) rfl hc (Nat.le_of_ble_eq_true rfl)]
  exact h
set_option maxRecDepth 100000 in
set_option maxHeartbeats 4000000 in
theorem bk_322_29 {b : Bool} {d : Nat} {t0 : Int32} {e : Nat → x_E} {g : Nat → Int32} {q : Nat → Int64} {c : Nat → Nat → Int32} {l : Nat → Nat → Int64} {g' : Nat → Int32} {q' : Nat → Int64} {c' : Nat → Nat → Int32} {l' : Nat → Nat → Int64} {v : Int32} {R : Option Value × List x_E} (hc : rr b e d 325 0 [(0, .ref 49), (1, .int ((upd (upd g 11 t0) 13 ((Int32.ofInt (0)))) 11))] [] (upd (upd g 11 t0) 13 ((Int32.ofInt (0)))) q c l (some (.int v), rH e g' q' c' l')) (h : rr b e (d + 1) 322 45 [(0, .ref 49)] [.int v] g' q' c' l' R) : rr b e (d + 1) 322 29 [(0, .ref 49)] [.int t0, .ref 49] g q c l R := by
  obtain ⟨f1, hc⟩ := hc
  obtain ⟨f2, h⟩ := h
  obtain ⟨f, hf1, hf2⟩ : ∃ f, f1 ≤ f ∧ f2 ≤ f := ⟨max f1 f2, Nat.le_max_left _ _, Nat.le_max_right _ _⟩
  have hc := nrun_fuel f1 f _ _ _ _ _ _ _ _ _ hf1 hc
  have h := nrun_fuel f2 f _ _ _ _ _ _ _ _ _ hf2 h
  refine ⟨f + 8, ?_⟩
  obtain ⟨y, cb, hj⟩ := mq_322
  rw [n_put (st' := []) (hp' := rH e (upd g 11 t0) q c l) rfl hj pf_11]
  rw [n_step (st' := [.ref 49]) (pc' := 33) (lv' := [(0, .ref 49)]) (hp' := rH e (upd g 11 t0) q c l) (i := .aload_n 0) (len := 1) rfl hj rfl rfl rfl]
  rw [n_step (st' := [.int (Int32.ofInt (0)), .ref 49]) (pc' := 34) (lv' := [(0, .ref 49)]) (hp' := rH e (upd g 11 t0) q c l) (i := .iconst 0) (len := 1) rfl hj rfl rfl rfl]
  rw [n_put (st' := []) (hp' := rH e (upd (upd g 11 t0) 13 ((Int32.ofInt (0)))) q c l) rfl hj pf_13]
  rw [n_step (st' := [.ref 49]) (pc' := 38) (lv' := [(0, .ref 49)]) (hp' := rH e (upd (upd g 11 t0) 13 ((Int32.ofInt (0)))) q c l) (i := .aload_n 0) (len := 1) rfl hj rfl rfl rfl]
  rw [n_step (st' := [.ref 49, .ref 49]) (pc' := 39) (lv' := [(0, .ref 49)]) (hp' := rH e (upd (upd g 11 t0) 13 ((Int32.ofInt (0)))) q c l) (i := .aload_n 0) (len := 1) rfl hj rfl rfl rfl]
  rw [n_get (st' := [.int ((upd (upd g 11 t0) 13 ((Int32.ofInt (0)))) 11), .ref 49]) (pc' := 42) (lv' := [(0, .ref 49)]) (hp' := rH e (upd (upd g 11 t0) 13 ((Int32.ofInt (0)))) q c l) (i := .getfield 257) (len := 3) rfl hj rfl rfl rfl rfl]
  obtain ⟨y2, cb2, hj2⟩ := mq_325
  rw [n_call (f := f) (d := d) (ki := 0) (idx := 247) (j' := 325) (kd := 0) (M' := (y2, cb2, 2, some .int, 12, 1, 0, 0)) (avs := [.ref 49, .int ((upd (upd g 11 t0) 13 ((Int32.ofInt (0)))) 11)]) (r := []) (rv := some (.int v)) (hp1 := rH e g' q' c' l') rfl hj rfl rfl rfl rfl (rq_n rfl rfl hj2 rfl rfl) rfl hc (Nat.le_of_ble_eq_true rfl)]
  exact h
set_option maxRecDepth 100000 in
set_option maxHeartbeats 4000000 in
theorem bk_322_45 {b : Bool} {d : Nat} {t0 : Int32} {e : Nat → x_E} {g : Nat → Int32} {q : Nat → Int64} {c : Nat → Nat → Int32} {l : Nat → Nat → Int64} {R : Option Value × List x_E} (h1 : xCn .ge t0 0 = true → rr b e d 322 64 [(0, .ref 49), (1, .int t0)] [] g q c l R) (h2 : ¬ xCn .ge t0 0 = true → rr b e d 322 50 [(0, .ref 49)] [] g q c l R) : rr b e d 322 45 [(0, .ref 49)] [.int t0] g q c l R := by
  have key : ∀ f, nrun xZ (xY (xfm b)) xDT (f + 3) d 322 45 [(0, .ref 49)] [.int t0] (rH e g q c l) 0 0 = nrun xZ (xY (xfm b)) xDT f d 322 (if xCn .ge t0 0 = true then 64 else 50) [(1, .int t0), (0, .ref 49)] [] (rH e g q c l) 0 0 := by
    intro f
    obtain ⟨y, cb, hj⟩ := mq_322
    rw [n_step (st' := []) (pc' := 46) (lv' := [(1, .int t0), (0, .ref 49)]) (hp' := rH e g q c l) (i := .istore_n 1) (len := 1) rfl hj rfl rfl rfl]
    rw [n_step (st' := [.int t0]) (pc' := 47) (lv' := [(1, .int t0), (0, .ref 49)]) (hp' := rH e g q c l) (i := .iload_n 1) (len := 1) rfl hj rfl rfl rfl]
    rw [n_step (st' := []) (pc' := (if xCn .ge t0 0 = true then 64 else 50)) (lv' := [(1, .int t0), (0, .ref 49)]) (hp' := rH e g q c l) (i := .ifCond .ge 17) (len := 3) rfl hj rfl rfl rfl]
  by_cases hc : xCn .ge t0 0 = true
  · obtain ⟨f, h⟩ := h1 hc
    refine ⟨f + 3, ?_⟩
    rw [key, if_pos hc]
    exact nrun_ext f f _ _ R 322 64 [(0, .ref 49), (1, .int t0)] [(1, .int t0), (0, .ref 49)] [] _ 0 0 122 (Nat.le_refl _) (Nat.le_refl _) (Nat.le_of_ble_eq_true rfl) (lvR_mk [0, 1] [1, 0] rfl rfl (by decide) (by decide) (List.forall_mem_cons.mpr ⟨(List.mem_cons_of_mem _ List.mem_cons_self), (List.forall_mem_cons.mpr ⟨List.mem_cons_self, (fun _ h => nomatch h)⟩)⟩) (List.forall_mem_cons.mpr ⟨Or.inl (List.mem_cons_of_mem _ List.mem_cons_self), (List.forall_mem_cons.mpr ⟨Or.inl List.mem_cons_self, (fun _ h => nomatch h)⟩)⟩)) h
  · obtain ⟨f, h⟩ := h2 hc
    refine ⟨f + 3, ?_⟩
    rw [key, if_neg hc]
    exact nrun_ext f f _ _ R 322 50 [(0, .ref 49)] [(1, .int t0), (0, .ref 49)] [] _ 0 0 122 (Nat.le_refl _) (Nat.le_refl _) (Nat.le_of_ble_eq_true rfl) (lvR_mk [0] [1, 0] rfl rfl (by decide) (by decide) (List.forall_mem_cons.mpr ⟨(List.mem_cons_of_mem _ List.mem_cons_self), (fun _ h => nomatch h)⟩) (List.forall_mem_cons.mpr ⟨Or.inr rfl, (List.forall_mem_cons.mpr ⟨Or.inl List.mem_cons_self, (fun _ h => nomatch h)⟩)⟩)) h
set_option maxRecDepth 100000 in
set_option maxHeartbeats 4000000 in
theorem bk_322_50 {b : Bool} {d : Nat} {e : Nat → x_E} {g : Nat → Int32} {q : Nat → Int64} {c : Nat → Nat → Int32} {l : Nat → Nat → Int64} : rr b e d 322 50 [(0, .ref 49)] [] g q c l (none, rH e (upd (upd g 10 ((Int32.ofInt (0)))) 12 (((upd g 10 ((Int32.ofInt (0)))) 11))) q c l) := by
  refine ⟨0 + 8, ?_⟩
  obtain ⟨y, cb, hj⟩ := mq_322
  rw [n_step (st' := [.ref 49]) (pc' := 51) (lv' := [(0, .ref 49)]) (hp' := rH e g q c l) (i := .aload_n 0) (len := 1) rfl hj rfl rfl rfl]
  rw [n_step (st' := [.int (Int32.ofInt (0)), .ref 49]) (pc' := 52) (lv' := [(0, .ref 49)]) (hp' := rH e g q c l) (i := .iconst 0) (len := 1) rfl hj rfl rfl rfl]
  rw [n_put (st' := []) (hp' := rH e (upd g 10 ((Int32.ofInt (0)))) q c l) rfl hj pf_10]
  rw [n_step (st' := [.ref 49]) (pc' := 56) (lv' := [(0, .ref 49)]) (hp' := rH e (upd g 10 ((Int32.ofInt (0)))) q c l) (i := .aload_n 0) (len := 1) rfl hj rfl rfl rfl]
  rw [n_step (st' := [.ref 49, .ref 49]) (pc' := 57) (lv' := [(0, .ref 49)]) (hp' := rH e (upd g 10 ((Int32.ofInt (0)))) q c l) (i := .aload_n 0) (len := 1) rfl hj rfl rfl rfl]
  rw [n_get (st' := [.int ((upd g 10 ((Int32.ofInt (0)))) 11), .ref 49]) (pc' := 60) (lv' := [(0, .ref 49)]) (hp' := rH e (upd g 10 ((Int32.ofInt (0)))) q c l) (i := .getfield 257) (len := 3) rfl hj rfl rfl rfl rfl]
  rw [n_put (st' := []) (hp' := rH e (upd (upd g 10 ((Int32.ofInt (0)))) 12 (((upd g 10 ((Int32.ofInt (0)))) 11))) q c l) rfl hj pf_12]
  exact n_ret rfl hj rfl rfl rfl
set_option maxRecDepth 100000 in
set_option maxHeartbeats 4000000 in
theorem bk_322_64 {b : Bool} {d : Nat} {x1 : Int32} {e : Nat → x_E} {g : Nat → Int32} {q : Nat → Int64} {c : Nat → Nat → Int32} {l : Nat → Nat → Int64} {g' : Nat → Int32} {q' : Nat → Int64} {c' : Nat → Nat → Int32} {l' : Nat → Nat → Int64} {v : Int32} {R : Option Value × List x_E} (hc : rr b e d 326 0 [(0, .int x1)] [] (upd g 17 (((g 17) + (Int32.ofInt (1))))) q c l (some (.int v), rH e g' q' c' l')) (h : rr b e (d + 1) 322 78 [(0, .ref 49), (1, .int x1)] [.int v] g' q' c' l' R) : rr b e (d + 1) 322 64 [(0, .ref 49), (1, .int x1)] [] g q c l R := by
  obtain ⟨f1, hc⟩ := hc
  obtain ⟨f2, h⟩ := h
  obtain ⟨f, hf1, hf2⟩ : ∃ f, f1 ≤ f ∧ f2 ≤ f := ⟨max f1 f2, Nat.le_max_left _ _, Nat.le_max_right _ _⟩
  have hc := nrun_fuel f1 f _ _ _ _ _ _ _ _ _ hf1 hc
  have h := nrun_fuel f2 f _ _ _ _ _ _ _ _ _ hf2 h
  refine ⟨f + 8, ?_⟩
  obtain ⟨y, cb, hj⟩ := mq_322
  rw [n_step (st' := [.ref 49]) (pc' := 65) (lv' := [(0, .ref 49), (1, .int x1)]) (hp' := rH e g q c l) (i := .aload_n 0) (len := 1) rfl hj rfl rfl rfl]
  rw [n_step (st' := [.ref 49, .ref 49]) (pc' := 66) (lv' := [(0, .ref 49), (1, .int x1)]) (hp' := rH e g q c l) (i := .aload_n 0) (len := 1) rfl hj rfl rfl rfl]
  rw [n_get (st' := [.int (g 17), .ref 49]) (pc' := 69) (lv' := [(0, .ref 49), (1, .int x1)]) (hp' := rH e g q c l) (i := .getfield 251) (len := 3) rfl hj rfl rfl rfl rfl]
  rw [n_step (st' := [.int (Int32.ofInt (1)), .int (g 17), .ref 49]) (pc' := 70) (lv' := [(0, .ref 49), (1, .int x1)]) (hp' := rH e g q c l) (i := .iconst 1) (len := 1) rfl hj rfl rfl rfl]
  rw [n_step (st' := [.int ((g 17) + (Int32.ofInt (1))), .ref 49]) (pc' := 71) (lv' := [(0, .ref 49), (1, .int x1)]) (hp' := rH e g q c l) (i := .iadd) (len := 1) rfl hj rfl rfl rfl]
  rw [n_put (st' := []) (hp' := rH e (upd g 17 (((g 17) + (Int32.ofInt (1))))) q c l) rfl hj pf_17]
  rw [n_step (st' := [.int x1]) (pc' := 75) (lv' := [(0, .ref 49), (1, .int x1)]) (hp' := rH e (upd g 17 (((g 17) + (Int32.ofInt (1))))) q c l) (i := .iload_n 1) (len := 1) rfl hj rfl rfl rfl]
  obtain ⟨y2, cb2, hj2⟩ := mq_326
  rw [n_call (f := f) (d := d) (ki := 1) (idx := 276) (j' := 326) (kd := 1) (M' := (y2, cb2, 1, some .boolean, 12, 1, 0, 0)) (avs := [.int x1]) (r := []) (rv := some (.int v)) (hp1 := rH e g' q' c' l') rfl hj rfl rfl rfl rfl (rq_t rfl rfl hj2 rfl) rfl hc (Nat.le_of_ble_eq_true rfl)]
  exact h
set_option maxRecDepth 100000 in
set_option maxHeartbeats 4000000 in
theorem bk_322_78 {b : Bool} {d : Nat} {t0 x1 : Int32} {e : Nat → x_E} {g : Nat → Int32} {q : Nat → Int64} {c : Nat → Nat → Int32} {l : Nat → Nat → Int64} {R : Option Value × List x_E} (h1 : xCn .eq t0 0 = true → rr b e d 322 88 [(0, .ref 49), (1, .int x1)] [] g q c l R) (h2 : ¬ xCn .eq t0 0 = true → rr b e d 322 81 [(0, .ref 49)] [] g q c l R) : rr b e d 322 78 [(0, .ref 49), (1, .int x1)] [.int t0] g q c l R := by
  have key : ∀ f, nrun xZ (xY (xfm b)) xDT (f + 1) d 322 78 [(0, .ref 49), (1, .int x1)] [.int t0] (rH e g q c l) 0 0 = nrun xZ (xY (xfm b)) xDT f d 322 (if xCn .eq t0 0 = true then 88 else 81) [(0, .ref 49), (1, .int x1)] [] (rH e g q c l) 0 0 := by
    intro f
    obtain ⟨y, cb, hj⟩ := mq_322
    rw [n_step (st' := []) (pc' := (if xCn .eq t0 0 = true then 88 else 81)) (lv' := [(0, .ref 49), (1, .int x1)]) (hp' := rH e g q c l) (i := .ifCond .eq 10) (len := 3) rfl hj rfl rfl rfl]
  by_cases hc : xCn .eq t0 0 = true
  · obtain ⟨f, h⟩ := h1 hc
    refine ⟨f + 1, ?_⟩
    rw [key, if_pos hc]
    exact h
  · obtain ⟨f, h⟩ := h2 hc
    refine ⟨f + 1, ?_⟩
    rw [key, if_neg hc]
    exact nrun_ext f f _ _ R 322 81 [(0, .ref 49)] [(0, .ref 49), (1, .int x1)] [] _ 0 0 122 (Nat.le_refl _) (Nat.le_refl _) (Nat.le_of_ble_eq_true rfl) (lvR_mk [0] [0, 1] rfl rfl (by decide) (by decide) (List.forall_mem_cons.mpr ⟨List.mem_cons_self, (fun _ h => nomatch h)⟩) (List.forall_mem_cons.mpr ⟨Or.inl List.mem_cons_self, (List.forall_mem_cons.mpr ⟨Or.inr rfl, (fun _ h => nomatch h)⟩)⟩)) h
set_option maxRecDepth 100000 in
set_option maxHeartbeats 4000000 in
theorem bk_322_81 {b : Bool} {d : Nat} {e : Nat → x_E} {g : Nat → Int32} {q : Nat → Int64} {c : Nat → Nat → Int32} {l : Nat → Nat → Int64} {g' : Nat → Int32} {q' : Nat → Int64} {c' : Nat → Nat → Int32} {l' : Nat → Nat → Int64} {R : Option Value × List x_E} (hc : rr b e d 327 0 [(0, .ref 49)] [] g q c l (none, rH e g' q' c' l')) (h : rr b e (d + 1) 322 85 [] [] g' q' c' l' R) : rr b e (d + 1) 322 81 [(0, .ref 49)] [] g q c l R := by
  obtain ⟨f1, hc⟩ := hc
  obtain ⟨f2, h⟩ := h
  obtain ⟨f, hf1, hf2⟩ : ∃ f, f1 ≤ f ∧ f2 ≤ f := ⟨max f1 f2, Nat.le_max_left _ _, Nat.le_max_right _ _⟩
  have hc := nrun_fuel f1 f _ _ _ _ _ _ _ _ _ hf1 hc
  have h := nrun_fuel f2 f _ _ _ _ _ _ _ _ _ hf2 h
  refine ⟨f + 2, ?_⟩
  obtain ⟨y, cb, hj⟩ := mq_322
  rw [n_step (st' := [.ref 49]) (pc' := 82) (lv' := [(0, .ref 49)]) (hp' := rH e g q c l) (i := .aload_n 0) (len := 1) rfl hj rfl rfl rfl]
  obtain ⟨y2, cb2, hj2⟩ := mq_327
  rw [n_call (f := f) (d := d) (ki := 0) (idx := 280) (j' := 327) (kd := 0) (M' := (y2, cb2, 2, none, 12, 0, 0, 0)) (avs := [.ref 49]) (r := []) (rv := none) (hp1 := rH e g' q' c' l') rfl hj rfl rfl rfl rfl (rq_n rfl rfl hj2 rfl rfl) rfl hc (Nat.le_of_ble_eq_true rfl)]
  exact nrun_ext f f _ _ R 322 85 [] [(0, .ref 49)] [] _ 0 0 122 (Nat.le_refl _) (Nat.le_refl _) (Nat.le_of_ble_eq_true rfl) (lvR_mk [] [0] rfl rfl (by decide) (by decide) (fun _ h => nomatch h) (List.forall_mem_cons.mpr ⟨Or.inr rfl, (fun _ h => nomatch h)⟩)) h
set_option maxRecDepth 100000 in
set_option maxHeartbeats 4000000 in
theorem bk_322_85 {b : Bool} {d : Nat} {e : Nat → x_E} {g : Nat → Int32} {q : Nat → Int64} {c : Nat → Nat → Int32} {l : Nat → Nat → Int64} {R : Option Value × List x_E} (h : rr b e d 322 107 [] [] g q c l R) : rr b e d 322 85 [] [] g q c l R := by
  obtain ⟨f, h⟩ := h
  refine ⟨f + 1, ?_⟩
  obtain ⟨y, cb, hj⟩ := mq_322
  rw [n_step (st' := []) (pc' := 107) (lv' := []) (hp' := rH e g q c l) (i := .goto 22) (len := 3) rfl hj rfl rfl rfl]
  exact h
set_option maxRecDepth 100000 in
set_option maxHeartbeats 4000000 in
theorem bk_322_88 {b : Bool} {d : Nat} {x1 : Int32} {e : Nat → x_E} {g : Nat → Int32} {q : Nat → Int64} {c : Nat → Nat → Int32} {l : Nat → Nat → Int64} {g' : Nat → Int32} {q' : Nat → Int64} {c' : Nat → Nat → Int32} {l' : Nat → Nat → Int64} {v : Int32} {R : Option Value × List x_E} (hc : rr b e d 328 0 [(0, .int x1)] [] g q c l (some (.int v), rH e g' q' c' l')) (h : rr b e (d + 1) 322 92 [(0, .ref 49), (1, .int x1)] [.int v] g' q' c' l' R) : rr b e (d + 1) 322 88 [(0, .ref 49), (1, .int x1)] [] g q c l R := by
  obtain ⟨f1, hc⟩ := hc
  obtain ⟨f2, h⟩ := h
  obtain ⟨f, hf1, hf2⟩ : ∃ f, f1 ≤ f ∧ f2 ≤ f := ⟨max f1 f2, Nat.le_max_left _ _, Nat.le_max_right _ _⟩
  have hc := nrun_fuel f1 f _ _ _ _ _ _ _ _ _ hf1 hc
  have h := nrun_fuel f2 f _ _ _ _ _ _ _ _ _ hf2 h
  refine ⟨f + 2, ?_⟩
  obtain ⟨y, cb, hj⟩ := mq_322
  rw [n_step (st' := [.int x1]) (pc' := 89) (lv' := [(0, .ref 49), (1, .int x1)]) (hp' := rH e g q c l) (i := .iload_n 1) (len := 1) rfl hj rfl rfl rfl]
  obtain ⟨y2, cb2, hj2⟩ := mq_328
  rw [n_call (f := f) (d := d) (ki := 1) (idx := 283) (j' := 328) (kd := 1) (M' := (y2, cb2, 1, some .boolean, 12, 1, 0, 0)) (avs := [.int x1]) (r := []) (rv := some (.int v)) (hp1 := rH e g' q' c' l') rfl hj rfl rfl rfl rfl (rq_t rfl rfl hj2 rfl) rfl hc (Nat.le_of_ble_eq_true rfl)]
  exact h
set_option maxRecDepth 100000 in
set_option maxHeartbeats 4000000 in
theorem bk_322_92 {b : Bool} {d : Nat} {t0 x1 : Int32} {e : Nat → x_E} {g : Nat → Int32} {q : Nat → Int64} {c : Nat → Nat → Int32} {l : Nat → Nat → Int64} {R : Option Value × List x_E} (h1 : xCn .eq t0 0 = true → rr b e d 322 102 [(0, .ref 49), (1, .int x1)] [] g q c l R) (h2 : ¬ xCn .eq t0 0 = true → rr b e d 322 95 [(0, .ref 49)] [] g q c l R) : rr b e d 322 92 [(0, .ref 49), (1, .int x1)] [.int t0] g q c l R := by
  have key : ∀ f, nrun xZ (xY (xfm b)) xDT (f + 1) d 322 92 [(0, .ref 49), (1, .int x1)] [.int t0] (rH e g q c l) 0 0 = nrun xZ (xY (xfm b)) xDT f d 322 (if xCn .eq t0 0 = true then 102 else 95) [(0, .ref 49), (1, .int x1)] [] (rH e g q c l) 0 0 := by
    intro f
    obtain ⟨y, cb, hj⟩ := mq_322
    rw [n_step (st' := []) (pc' := (if xCn .eq t0 0 = true then 102 else 95)) (lv' := [(0, .ref 49), (1, .int x1)]) (hp' := rH e g q c l) (i := .ifCond .eq 10) (len := 3) rfl hj rfl rfl rfl]
  by_cases hc : xCn .eq t0 0 = true
  · obtain ⟨f, h⟩ := h1 hc
    refine ⟨f + 1, ?_⟩
    rw [key, if_pos hc]
    exact h
  · obtain ⟨f, h⟩ := h2 hc
    refine ⟨f + 1, ?_⟩
    rw [key, if_neg hc]
    exact nrun_ext f f _ _ R 322 95 [(0, .ref 49)] [(0, .ref 49), (1, .int x1)] [] _ 0 0 122 (Nat.le_refl _) (Nat.le_refl _) (Nat.le_of_ble_eq_true rfl) (lvR_mk [0] [0, 1] rfl rfl (by decide) (by decide) (List.forall_mem_cons.mpr ⟨List.mem_cons_self, (fun _ h => nomatch h)⟩) (List.forall_mem_cons.mpr ⟨Or.inl List.mem_cons_self, (List.forall_mem_cons.mpr ⟨Or.inr rfl, (fun _ h => nomatch h)⟩)⟩)) h
set_option maxRecDepth 100000 in
set_option maxHeartbeats 4000000 in
theorem bk_322_95 {b : Bool} {d : Nat} {e : Nat → x_E} {g : Nat → Int32} {q : Nat → Int64} {c : Nat → Nat → Int32} {l : Nat → Nat → Int64} {g' : Nat → Int32} {q' : Nat → Int64} {c' : Nat → Nat → Int32} {l' : Nat → Nat → Int64} {R : Option Value × List x_E} (hc : rr b e d 331 0 [(0, .ref 49)] [] g q c l (none, rH e g' q' c' l')) (h : rr b e (d + 1) 322 99 [] [] g' q' c' l' R) : rr b e (d + 1) 322 95 [(0, .ref 49)] [] g q c l R := by
  obtain ⟨f1, hc⟩ := hc
  obtain ⟨f2, h⟩ := h
  obtain ⟨f, hf1, hf2⟩ : ∃ f, f1 ≤ f ∧ f2 ≤ f := ⟨max f1 f2, Nat.le_max_left _ _, Nat.le_max_right _ _⟩
  have hc := nrun_fuel f1 f _ _ _ _ _ _ _ _ _ hf1 hc
  have h := nrun_fuel f2 f _ _ _ _ _ _ _ _ _ hf2 h
  refine ⟨f + 2, ?_⟩
  obtain ⟨y, cb, hj⟩ := mq_322
  rw [n_step (st' := [.ref 49]) (pc' := 96) (lv' := [(0, .ref 49)]) (hp' := rH e g q c l) (i := .aload_n 0) (len := 1) rfl hj rfl rfl rfl]
  obtain ⟨y2, cb2, hj2⟩ := mq_331
  rw [n_call (f := f) (d := d) (ki := 0) (idx := 286) (j' := 331) (kd := 0) (M' := (y2, cb2, 4, none, 12, 0, 0, 0)) (avs := [.ref 49]) (r := []) (rv := none) (hp1 := rH e g' q' c' l') rfl hj rfl rfl rfl rfl (rq_n rfl rfl hj2 rfl rfl) rfl hc (Nat.le_of_ble_eq_true rfl)]
  exact nrun_ext f f _ _ R 322 99 [] [(0, .ref 49)] [] _ 0 0 122 (Nat.le_refl _) (Nat.le_refl _) (Nat.le_of_ble_eq_true rfl) (lvR_mk [] [0] rfl rfl (by decide) (by decide) (fun _ h => nomatch h) (List.forall_mem_cons.mpr ⟨Or.inr rfl, (fun _ h => nomatch h)⟩)) h
set_option maxRecDepth 100000 in
set_option maxHeartbeats 4000000 in
theorem bk_322_99 {b : Bool} {d : Nat} {e : Nat → x_E} {g : Nat → Int32} {q : Nat → Int64} {c : Nat → Nat → Int32} {l : Nat → Nat → Int64} {R : Option Value × List x_E} (h : rr b e d 322 107 [] [] g q c l R) : rr b e d 322 99 [] [] g q c l R := by
  obtain ⟨f, h⟩ := h
  refine ⟨f + 1, ?_⟩
  obtain ⟨y, cb, hj⟩ := mq_322
  rw [n_step (st' := []) (pc' := 107) (lv' := []) (hp' := rH e g q c l) (i := .goto 8) (len := 3) rfl hj rfl rfl rfl]
  exact h
set_option maxRecDepth 100000 in
set_option maxHeartbeats 4000000 in
theorem bk_322_102 {b : Bool} {d : Nat} {x1 : Int32} {e : Nat → x_E} {g : Nat → Int32} {q : Nat → Int64} {c : Nat → Nat → Int32} {l : Nat → Nat → Int64} {g' : Nat → Int32} {q' : Nat → Int64} {c' : Nat → Nat → Int32} {l' : Nat → Nat → Int64} {R : Option Value × List x_E} (hc : rr b e d 332 0 [(0, .ref 49), (1, .int x1)] [] g q c l (none, rH e g' q' c' l')) (h : rr b e (d + 1) 322 107 [] [] g' q' c' l' R) : rr b e (d + 1) 322 102 [(0, .ref 49), (1, .int x1)] [] g q c l R := by
  obtain ⟨f1, hc⟩ := hc
  obtain ⟨f2, h⟩ := h
  obtain ⟨f, hf1, hf2⟩ : ∃ f, f1 ≤ f ∧ f2 ≤ f := ⟨max f1 f2, Nat.le_max_left _ _, Nat.le_max_right _ _⟩
  have hc := nrun_fuel f1 f _ _ _ _ _ _ _ _ _ hf1 hc
  have h := nrun_fuel f2 f _ _ _ _ _ _ _ _ _ hf2 h
  refine ⟨f + 3, ?_⟩
  obtain ⟨y, cb, hj⟩ := mq_322
  rw [n_step (st' := [.ref 49]) (pc' := 103) (lv' := [(0, .ref 49), (1, .int x1)]) (hp' := rH e g q c l) (i := .aload_n 0) (len := 1) rfl hj rfl rfl rfl]
  rw [n_step (st' := [.int x1, .ref 49]) (pc' := 104) (lv' := [(0, .ref 49), (1, .int x1)]) (hp' := rH e g q c l) (i := .iload_n 1) (len := 1) rfl hj rfl rfl rfl]
  obtain ⟨y2, cb2, hj2⟩ := mq_332
  rw [n_call (f := f) (d := d) (ki := 0) (idx := 289) (j' := 332) (kd := 0) (M' := (y2, cb2, 4, none, 12, 1, 0, 0)) (avs := [.ref 49, .int x1]) (r := []) (rv := none) (hp1 := rH e g' q' c' l') rfl hj rfl rfl rfl rfl (rq_n rfl rfl hj2 rfl rfl) rfl hc (Nat.le_of_ble_eq_true rfl)]
  exact nrun_ext f f _ _ R 322 107 [] [(0, .ref 49), (1, .int x1)] [] _ 0 0 122 (Nat.le_refl _) (Nat.le_refl _) (Nat.le_of_ble_eq_true rfl) (lvR_mk [] [0, 1] rfl rfl (by decide) (by decide) (fun _ h => nomatch h) (List.forall_mem_cons.mpr ⟨Or.inr rfl, (List.forall_mem_cons.mpr ⟨Or.inr rfl, (fun _ h => nomatch h)⟩)⟩)) h
set_option maxRecDepth 100000 in
set_option maxHeartbeats 4000000 in
theorem bk_322_107 {b : Bool} {d : Nat} {e : Nat → x_E} {g : Nat → Int32} {q : Nat → Int64} {c : Nat → Nat → Int32} {l : Nat → Nat → Int64} : rr b e d 322 107 [] [] g q c l (none, rH e g q c l) := by
  refine ⟨0 + 1, ?_⟩
  obtain ⟨y, cb, hj⟩ := mq_322
  exact n_ret rfl hj rfl rfl rfl
set_option maxRecDepth 100000 in
set_option maxHeartbeats 4000000 in
theorem bk_323_0 {b : Bool} {d : Nat} {x1 x2 : Int32} {e : Nat → x_E} {g : Nat → Int32} {q : Nat → Int64} {c : Nat → Nat → Int32} {l : Nat → Nat → Int64} {R : Option Value × List x_E} (h1 : xCn .eq ((g 19)) 0 = true → rr b e d 323 8 [(0, .ref 49), (1, .int x1), (2, .int x2)] [] g q c l R) (h2 : ¬ xCn .eq ((g 19)) 0 = true → rr b e d 323 7 [] [] g q c l R) : rr b e d 323 0 [(0, .ref 49), (1, .int x1), (2, .int x2)] [] g q c l R := by
  have key : ∀ f, nrun xZ (xY (xfm b)) xDT (f + 3) d 323 0 [(0, .ref 49), (1, .int x1), (2, .int x2)] [] (rH e g q c l) 0 0 = nrun xZ (xY (xfm b)) xDT f d 323 (if xCn .eq ((g 19)) 0 = true then 8 else 7) [(0, .ref 49), (1, .int x1), (2, .int x2)] [] (rH e g q c l) 0 0 := by
    intro f
    obtain ⟨y, cb, hj⟩ := mq_323
    rw [n_step (st' := [.ref 49]) (pc' := 1) (lv' := [(0, .ref 49), (1, .int x1), (2, .int x2)]) (hp' := rH e g q c l) (i := .aload_n 0) (len := 1) rfl hj rfl rfl rfl]
    rw [n_get (st' := [.int (g 19)]) (pc' := 4) (lv' := [(0, .ref 49), (1, .int x1), (2, .int x2)]) (hp' := rH e g q c l) (i := .getfield 319) (len := 3) rfl hj rfl rfl rfl rfl]
    rw [n_step (st' := []) (pc' := (if xCn .eq ((g 19)) 0 = true then 8 else 7)) (lv' := [(0, .ref 49), (1, .int x1), (2, .int x2)]) (hp' := rH e g q c l) (i := .ifCond .eq 4) (len := 3) rfl hj rfl rfl rfl]
  by_cases hc : xCn .eq ((g 19)) 0 = true
  · obtain ⟨f, h⟩ := h1 hc
    refine ⟨f + 3, ?_⟩
    rw [key, if_pos hc]
    exact h
  · obtain ⟨f, h⟩ := h2 hc
    refine ⟨f + 3, ?_⟩
    rw [key, if_neg hc]
    exact nrun_ext f f _ _ R 323 7 [] [(0, .ref 49), (1, .int x1), (2, .int x2)] [] _ 0 0 122 (Nat.le_refl _) (Nat.le_refl _) (Nat.le_of_ble_eq_true rfl) (lvR_mk [] [0, 1, 2] rfl rfl (by decide) (by decide) (fun _ h => nomatch h) (List.forall_mem_cons.mpr ⟨Or.inr rfl, (List.forall_mem_cons.mpr ⟨Or.inr rfl, (List.forall_mem_cons.mpr ⟨Or.inr rfl, (fun _ h => nomatch h)⟩)⟩)⟩)) h
set_option maxRecDepth 100000 in
set_option maxHeartbeats 4000000 in
theorem bk_323_7 {b : Bool} {d : Nat} {e : Nat → x_E} {g : Nat → Int32} {q : Nat → Int64} {c : Nat → Nat → Int32} {l : Nat → Nat → Int64} : rr b e d 323 7 [] [] g q c l (none, rH e g q c l) := by
  refine ⟨0 + 1, ?_⟩
  obtain ⟨y, cb, hj⟩ := mq_323
  exact n_ret rfl hj rfl rfl rfl
set_option maxRecDepth 100000 in
set_option maxHeartbeats 4000000 in
theorem bk_323_8 {b : Bool} {d : Nat} {x1 x2 : Int32} {e : Nat → x_E} {g : Nat → Int32} {q : Nat → Int64} {c : Nat → Nat → Int32} {l : Nat → Nat → Int64} : rr b e d 323 8 [(0, .ref 49), (1, .int x1), (2, .int x2)] [] g q c l (none, rH e (upd (upd g 19 x1) 20 x2) q c l) := by
  refine ⟨0 + 7, ?_⟩
  obtain ⟨y, cb, hj⟩ := mq_323
  rw [n_step (st' := [.ref 49]) (pc' := 9) (lv' := [(0, .ref 49), (1, .int x1), (2, .int x2)]) (hp' := rH e g q c l) (i := .aload_n 0) (len := 1) rfl hj rfl rfl rfl]
  rw [n_step (st' := [.int x1, .ref 49]) (pc' := 10) (lv' := [(0, .ref 49), (1, .int x1), (2, .int x2)]) (hp' := rH e g q c l) (i := .iload_n 1) (len := 1) rfl hj rfl rfl rfl]
  rw [n_put (st' := []) (hp' := rH e (upd g 19 x1) q c l) rfl hj pf_19]
  rw [n_step (st' := [.ref 49]) (pc' := 14) (lv' := [(0, .ref 49), (1, .int x1), (2, .int x2)]) (hp' := rH e (upd g 19 x1) q c l) (i := .aload_n 0) (len := 1) rfl hj rfl rfl rfl]
  rw [n_step (st' := [.int x2, .ref 49]) (pc' := 15) (lv' := [(0, .ref 49), (1, .int x1), (2, .int x2)]) (hp' := rH e (upd g 19 x1) q c l) (i := .iload_n 2) (len := 1) rfl hj rfl rfl rfl]
  rw [n_put (st' := []) (hp' := rH e (upd (upd g 19 x1) 20 x2) q c l) rfl hj pf_20]
  exact n_ret rfl hj rfl rfl rfl
set_option maxRecDepth 100000 in
set_option maxHeartbeats 4000000 in
theorem bk_324_0 {b : Bool} {d : Nat} {x1 : Int32} {e : Nat → x_E} {g : Nat → Int32} {q : Nat → Int64} {c : Nat → Nat → Int32} {l : Nat → Nat → Int64} {R : Option Value × List x_E} (h : rr b e d 324 4 [(0, .ref 49), (2, .int x1), (3, .int (Int32.ofInt (1)))] [] g q c l R) : rr b e d 324 0 [(0, .ref 49), (1, .int x1)] [] g q c l R := by
  obtain ⟨f, h⟩ := h
  refine ⟨f + 4, ?_⟩
  obtain ⟨y, cb, hj⟩ := mq_324
  rw [n_step (st' := [.int x1]) (pc' := 1) (lv' := [(0, .ref 49), (1, .int x1)]) (hp' := rH e g q c l) (i := .iload_n 1) (len := 1) rfl hj rfl rfl rfl]
  rw [n_step (st' := []) (pc' := 2) (lv' := [(2, .int x1), (0, .ref 49), (1, .int x1)]) (hp' := rH e g q c l) (i := .istore_n 2) (len := 1) rfl hj rfl rfl rfl]
  rw [n_step (st' := [.int (Int32.ofInt (1))]) (pc' := 3) (lv' := [(2, .int x1), (0, .ref 49), (1, .int x1)]) (hp' := rH e g q c l) (i := .iconst 1) (len := 1) rfl hj rfl rfl rfl]
  rw [n_step (st' := []) (pc' := 4) (lv' := [(3, .int (Int32.ofInt (1))), (2, .int x1), (0, .ref 49), (1, .int x1)]) (hp' := rH e g q c l) (i := .istore_n 3) (len := 1) rfl hj rfl rfl rfl]
  exact nrun_ext f f _ _ R 324 4 [(0, .ref 49), (2, .int x1), (3, .int (Int32.ofInt (1)))] [(3, .int (Int32.ofInt (1))), (2, .int x1), (0, .ref 49), (1, .int x1)] [] _ 0 0 122 (Nat.le_refl _) (Nat.le_refl _) (Nat.le_of_ble_eq_true rfl) (lvR_mk [0, 2, 3] [3, 2, 0, 1] rfl rfl (by decide) (by decide) (List.forall_mem_cons.mpr ⟨(List.mem_cons_of_mem _ (List.mem_cons_of_mem _ List.mem_cons_self)), (List.forall_mem_cons.mpr ⟨(List.mem_cons_of_mem _ List.mem_cons_self), (List.forall_mem_cons.mpr ⟨List.mem_cons_self, (fun _ h => nomatch h)⟩)⟩)⟩) (List.forall_mem_cons.mpr ⟨Or.inl (List.mem_cons_of_mem _ (List.mem_cons_of_mem _ List.mem_cons_self)), (List.forall_mem_cons.mpr ⟨Or.inl (List.mem_cons_of_mem _ List.mem_cons_self), (List.forall_mem_cons.mpr ⟨Or.inl List.mem_cons_self, (List.forall_mem_cons.mpr ⟨Or.inr rfl, (fun _ h => nomatch h)⟩)⟩)⟩)⟩)) h
set_option maxRecDepth 100000 in
set_option maxHeartbeats 4000000 in
theorem bk_324_4 {b : Bool} {d : Nat} {x2 x3 : Int32} {e : Nat → x_E} {g : Nat → Int32} {q : Nat → Int64} {c : Nat → Nat → Int32} {l : Nat → Nat → Int64} {R : Option Value × List x_E} (h1 : xCn .eq x3 0 = true → rr b e d 324 88 [(2, .int x2)] [] g q c l R) (h2 : ¬ xCn .eq x3 0 = true → rr b e d 324 8 [(0, .ref 49), (2, .int x2), (3, .int x3)] [] g q c l R) : rr b e d 324 4 [(0, .ref 49), (2, .int x2), (3, .int x3)] [] g q c l R := by
  have key : ∀ f, nrun xZ (xY (xfm b)) xDT (f + 2) d 324 4 [(0, .ref 49), (2, .int x2), (3, .int x3)] [] (rH e g q c l) 0 0 = nrun xZ (xY (xfm b)) xDT f d 324 (if xCn .eq x3 0 = true then 88 else 8) [(0, .ref 49), (2, .int x2), (3, .int x3)] [] (rH e g q c l) 0 0 := by
    intro f
    obtain ⟨y, cb, hj⟩ := mq_324
    rw [n_step (st' := [.int x3]) (pc' := 5) (lv' := [(0, .ref 49), (2, .int x2), (3, .int x3)]) (hp' := rH e g q c l) (i := .iload_n 3) (len := 1) rfl hj rfl rfl rfl]
    rw [n_step (st' := []) (pc' := (if xCn .eq x3 0 = true then 88 else 8)) (lv' := [(0, .ref 49), (2, .int x2), (3, .int x3)]) (hp' := rH e g q c l) (i := .ifCond .eq 83) (len := 3) rfl hj rfl rfl rfl]
  by_cases hc : xCn .eq x3 0 = true
  · obtain ⟨f, h⟩ := h1 hc
    refine ⟨f + 2, ?_⟩
    rw [key, if_pos hc]
    exact nrun_ext f f _ _ R 324 88 [(2, .int x2)] [(0, .ref 49), (2, .int x2), (3, .int x3)] [] _ 0 0 122 (Nat.le_refl _) (Nat.le_refl _) (Nat.le_of_ble_eq_true rfl) (lvR_mk [2] [0, 2, 3] rfl rfl (by decide) (by decide) (List.forall_mem_cons.mpr ⟨(List.mem_cons_of_mem _ List.mem_cons_self), (fun _ h => nomatch h)⟩) (List.forall_mem_cons.mpr ⟨Or.inr rfl, (List.forall_mem_cons.mpr ⟨Or.inl List.mem_cons_self, (List.forall_mem_cons.mpr ⟨Or.inr rfl, (fun _ h => nomatch h)⟩)⟩)⟩)) h
  · obtain ⟨f, h⟩ := h2 hc
    refine ⟨f + 2, ?_⟩
    rw [key, if_neg hc]
    exact h
set_option maxRecDepth 100000 in
set_option maxHeartbeats 4000000 in
theorem bk_324_8 {b : Bool} {d : Nat} {x2 x3 : Int32} {e : Nat → x_E} {g : Nat → Int32} {q : Nat → Int64} {c : Nat → Nat → Int32} {l : Nat → Nat → Int64} {g' : Nat → Int32} {q' : Nat → Int64} {c' : Nat → Nat → Int32} {l' : Nat → Nat → Int64} {v : Int32} {R : Option Value × List x_E} (hc : rr b e d 325 0 [(0, .ref 49), (1, .int x2)] [] g q c l (some (.int v), rH e g' q' c' l')) (h : rr b e (d + 1) 324 13 [(0, .ref 49), (2, .int x2), (3, .int x3)] [.int v] g' q' c' l' R) : rr b e (d + 1) 324 8 [(0, .ref 49), (2, .int x2), (3, .int x3)] [] g q c l R := by
  obtain ⟨f1, hc⟩ := hc
  obtain ⟨f2, h⟩ := h
  obtain ⟨f, hf1, hf2⟩ : ∃ f, f1 ≤ f ∧ f2 ≤ f := ⟨max f1 f2, Nat.le_max_left _ _, Nat.le_max_right _ _⟩
  have hc := nrun_fuel f1 f _ _ _ _ _ _ _ _ _ hf1 hc
  have h := nrun_fuel f2 f _ _ _ _ _ _ _ _ _ hf2 h
  refine ⟨f + 3, ?_⟩
  obtain ⟨y, cb, hj⟩ := mq_324
  rw [n_step (st' := [.ref 49]) (pc' := 9) (lv' := [(0, .ref 49), (2, .int x2), (3, .int x3)]) (hp' := rH e g q c l) (i := .aload_n 0) (len := 1) rfl hj rfl rfl rfl]
  rw [n_step (st' := [.int x2, .ref 49]) (pc' := 10) (lv' := [(0, .ref 49), (2, .int x2), (3, .int x3)]) (hp' := rH e g q c l) (i := .iload_n 2) (len := 1) rfl hj rfl rfl rfl]
  obtain ⟨y2, cb2, hj2⟩ := mq_325
  rw [n_call (f := f) (d := d) (ki := 0) (idx := 247) (j' := 325) (kd := 0) (M' := (y2, cb2, 2, some .int, 12, 1, 0, 0)) (avs := [.ref 49, .int x2]) (r := []) (rv := some (.int v)) (hp1 := rH e g' q' c' l') rfl hj rfl rfl rfl rfl (rq_n rfl rfl hj2 rfl rfl) rfl hc (Nat.le_of_ble_eq_true rfl)]
  exact h
set_option maxRecDepth 100000 in
set_option maxHeartbeats 4000000 in
theorem bk_324_13 {b : Bool} {d : Nat} {t0 x2 x3 : Int32} {e : Nat → x_E} {g : Nat → Int32} {q : Nat → Int64} {c : Nat → Nat → Int32} {l : Nat → Nat → Int64} {R : Option Value × List x_E} (h1 : xCn .eq t0 ((Int8.ofInt (9)).toInt32) = true → rr b e d 324 43 [(0, .ref 49), (2, .int x2), (3, .int x3)] [] g q c l R) (h2 : ¬ xCn .eq t0 ((Int8.ofInt (9)).toInt32) = true → rr b e d 324 22 [(0, .ref 49), (2, .int x2), (3, .int x3), (4, .int t0)] [] g q c l R) : rr b e d 324 13 [(0, .ref 49), (2, .int x2), (3, .int x3)] [.int t0] g q c l R := by
  have key : ∀ f, nrun xZ (xY (xfm b)) xDT (f + 4) d 324 13 [(0, .ref 49), (2, .int x2), (3, .int x3)] [.int t0] (rH e g q c l) 0 0 = nrun xZ (xY (xfm b)) xDT f d 324 (if xCn .eq t0 ((Int8.ofInt (9)).toInt32) = true then 43 else 22) [(4, .int t0), (0, .ref 49), (2, .int x2), (3, .int x3)] [] (rH e g q c l) 0 0 := by
    intro f
    obtain ⟨y, cb, hj⟩ := mq_324
    rw [n_step (st' := []) (pc' := 15) (lv' := [(4, .int t0), (0, .ref 49), (2, .int x2), (3, .int x3)]) (hp' := rH e g q c l) (i := .istore 4) (len := 2) rfl hj rfl rfl rfl]
    rw [n_step (st' := [.int t0]) (pc' := 17) (lv' := [(4, .int t0), (0, .ref 49), (2, .int x2), (3, .int x3)]) (hp' := rH e g q c l) (i := .iload 4) (len := 2) rfl hj rfl rfl rfl]
    rw [n_step (st' := [.int (Int8.ofInt (9)).toInt32, .int t0]) (pc' := 19) (lv' := [(4, .int t0), (0, .ref 49), (2, .int x2), (3, .int x3)]) (hp' := rH e g q c l) (i := .bipush 9) (len := 2) rfl hj rfl rfl rfl]
    rw [n_step (st' := []) (pc' := (if xCn .eq t0 ((Int8.ofInt (9)).toInt32) = true then 43 else 22)) (lv' := [(4, .int t0), (0, .ref 49), (2, .int x2), (3, .int x3)]) (hp' := rH e g q c l) (i := .if_icmp .eq 24) (len := 3) rfl hj rfl rfl rfl]
  by_cases hc : xCn .eq t0 ((Int8.ofInt (9)).toInt32) = true
  · obtain ⟨f, h⟩ := h1 hc
    refine ⟨f + 4, ?_⟩
    rw [key, if_pos hc]
    exact nrun_ext f f _ _ R 324 43 [(0, .ref 49), (2, .int x2), (3, .int x3)] [(4, .int t0), (0, .ref 49), (2, .int x2), (3, .int x3)] [] _ 0 0 122 (Nat.le_refl _) (Nat.le_refl _) (Nat.le_of_ble_eq_true rfl) (lvR_mk [0, 2, 3] [4, 0, 2, 3] rfl rfl (by decide) (by decide) (List.forall_mem_cons.mpr ⟨(List.mem_cons_of_mem _ List.mem_cons_self), (List.forall_mem_cons.mpr ⟨(List.mem_cons_of_mem _ (List.mem_cons_of_mem _ List.mem_cons_self)), (List.forall_mem_cons.mpr ⟨(List.mem_cons_of_mem _ (List.mem_cons_of_mem _ (List.mem_cons_of_mem _ List.mem_cons_self))), (fun _ h => nomatch h)⟩)⟩)⟩) (List.forall_mem_cons.mpr ⟨Or.inr rfl, (List.forall_mem_cons.mpr ⟨Or.inl List.mem_cons_self, (List.forall_mem_cons.mpr ⟨Or.inl (List.mem_cons_of_mem _ List.mem_cons_self), (List.forall_mem_cons.mpr ⟨Or.inl (List.mem_cons_of_mem _ (List.mem_cons_of_mem _ List.mem_cons_self)), (fun _ h => nomatch h)⟩)⟩)⟩)⟩)) h
  · obtain ⟨f, h⟩ := h2 hc
    refine ⟨f + 4, ?_⟩
    rw [key, if_neg hc]
    exact nrun_ext f f _ _ R 324 22 [(0, .ref 49), (2, .int x2), (3, .int x3), (4, .int t0)] [(4, .int t0), (0, .ref 49), (2, .int x2), (3, .int x3)] [] _ 0 0 122 (Nat.le_refl _) (Nat.le_refl _) (Nat.le_of_ble_eq_true rfl) (lvR_mk [0, 2, 3, 4] [4, 0, 2, 3] rfl rfl (by decide) (by decide) (List.forall_mem_cons.mpr ⟨(List.mem_cons_of_mem _ List.mem_cons_self), (List.forall_mem_cons.mpr ⟨(List.mem_cons_of_mem _ (List.mem_cons_of_mem _ List.mem_cons_self)), (List.forall_mem_cons.mpr ⟨(List.mem_cons_of_mem _ (List.mem_cons_of_mem _ (List.mem_cons_of_mem _ List.mem_cons_self))), (List.forall_mem_cons.mpr ⟨List.mem_cons_self, (fun _ h => nomatch h)⟩)⟩)⟩)⟩) (List.forall_mem_cons.mpr ⟨Or.inl (List.mem_cons_of_mem _ (List.mem_cons_of_mem _ (List.mem_cons_of_mem _ List.mem_cons_self))), (List.forall_mem_cons.mpr ⟨Or.inl List.mem_cons_self, (List.forall_mem_cons.mpr ⟨Or.inl (List.mem_cons_of_mem _ List.mem_cons_self), (List.forall_mem_cons.mpr ⟨Or.inl (List.mem_cons_of_mem _ (List.mem_cons_of_mem _ List.mem_cons_self)), (fun _ h => nomatch h)⟩)⟩)⟩)⟩)) h
set_option maxRecDepth 100000 in
set_option maxHeartbeats 4000000 in
theorem bk_324_22 {b : Bool} {d : Nat} {x2 x3 x4 : Int32} {e : Nat → x_E} {g : Nat → Int32} {q : Nat → Int64} {c : Nat → Nat → Int32} {l : Nat → Nat → Int64} {R : Option Value × List x_E} (h1 : xCn .eq x4 ((Int8.ofInt (10)).toInt32) = true → rr b e d 324 43 [(0, .ref 49), (2, .int x2), (3, .int x3)] [] g q c l R) (h2 : ¬ xCn .eq x4 ((Int8.ofInt (10)).toInt32) = true → rr b e d 324 29 [(0, .ref 49), (2, .int x2), (3, .int x3), (4, .int x4)] [] g q c l R) : rr b e d 324 22 [(0, .ref 49), (2, .int x2), (3, .int x3), (4, .int x4)] [] g q c l R := by
  have key : ∀ f, nrun xZ (xY (xfm b)) xDT (f + 3) d 324 22 [(0, .ref 49), (2, .int x2), (3, .int x3), (4, .int x4)] [] (rH e g q c l) 0 0 = nrun xZ (xY (xfm b)) xDT f d 324 (if xCn .eq x4 ((Int8.ofInt (10)).toInt32) = true then 43 else 29) [(0, .ref 49), (2, .int x2), (3, .int x3), (4, .int x4)] [] (rH e g q c l) 0 0 := by
    intro f
    obtain ⟨y, cb, hj⟩ := mq_324
    rw [n_step (st' := [.int x4]) (pc' := 24) (lv' := [(0, .ref 49), (2, .int x2), (3, .int x3), (4, .int x4)]) (hp' := rH e g q c l) (i := .iload 4) (len := 2) rfl hj rfl rfl rfl]
    rw [n_step (st' := [.int (Int8.ofInt (10)).toInt32, .int x4]) (pc' := 26) (lv' := [(0, .ref 49), (2, .int x2), (3, .int x3), (4, .int x4)]) (hp' := rH e g q c l) (i := .bipush 10) (len := 2) rfl hj rfl rfl rfl]
    rw [n_step (st' := []) (pc' := (if xCn .eq x4 ((Int8.ofInt (10)).toInt32) = true then 43 else 29)) (lv' := [(0, .ref 49), (2, .int x2), (3, .int x3), (4, .int x4)]) (hp' := rH e g q c l) (i := .if_icmp .eq 17) (len := 3) rfl hj rfl rfl rfl]
  by_cases hc : xCn .eq x4 ((Int8.ofInt (10)).toInt32) = true
  · obtain ⟨f, h⟩ := h1 hc
    refine ⟨f + 3, ?_⟩
    rw [key, if_pos hc]
    exact nrun_ext f f _ _ R 324 43 [(0, .ref 49), (2, .int x2), (3, .int x3)] [(0, .ref 49), (2, .int x2), (3, .int x3), (4, .int x4)] [] _ 0 0 122 (Nat.le_refl _) (Nat.le_refl _) (Nat.le_of_ble_eq_true rfl) (lvR_mk [0, 2, 3] [0, 2, 3, 4] rfl rfl (by decide) (by decide) (List.forall_mem_cons.mpr ⟨List.mem_cons_self, (List.forall_mem_cons.mpr ⟨(List.mem_cons_of_mem _ List.mem_cons_self), (List.forall_mem_cons.mpr ⟨(List.mem_cons_of_mem _ (List.mem_cons_of_mem _ List.mem_cons_self)), (fun _ h => nomatch h)⟩)⟩)⟩) (List.forall_mem_cons.mpr ⟨Or.inl List.mem_cons_self, (List.forall_mem_cons.mpr ⟨Or.inl (List.mem_cons_of_mem _ List.mem_cons_self), (List.forall_mem_cons.mpr ⟨Or.inl (List.mem_cons_of_mem _ (List.mem_cons_of_mem _ List.mem_cons_self)), (List.forall_mem_cons.mpr ⟨Or.inr rfl, (fun _ h => nomatch h)⟩)⟩)⟩)⟩)) h
  · obtain ⟨f, h⟩ := h2 hc
    refine ⟨f + 3, ?_⟩
    rw [key, if_neg hc]
    exact h
set_option maxRecDepth 100000 in
set_option maxHeartbeats 4000000 in
theorem bk_324_29 {b : Bool} {d : Nat} {x2 x3 x4 : Int32} {e : Nat → x_E} {g : Nat → Int32} {q : Nat → Int64} {c : Nat → Nat → Int32} {l : Nat → Nat → Int64} {R : Option Value × List x_E} (h1 : xCn .eq x4 ((Int8.ofInt (13)).toInt32) = true → rr b e d 324 43 [(0, .ref 49), (2, .int x2), (3, .int x3)] [] g q c l R) (h2 : ¬ xCn .eq x4 ((Int8.ofInt (13)).toInt32) = true → rr b e d 324 36 [(0, .ref 49), (2, .int x2), (3, .int x3), (4, .int x4)] [] g q c l R) : rr b e d 324 29 [(0, .ref 49), (2, .int x2), (3, .int x3), (4, .int x4)] [] g q c l R := by
  have key : ∀ f, nrun xZ (xY (xfm b)) xDT (f + 3) d 324 29 [(0, .ref 49), (2, .int x2), (3, .int x3), (4, .int x4)] [] (rH e g q c l) 0 0 = nrun xZ (xY (xfm b)) xDT f d 324 (if xCn .eq x4 ((Int8.ofInt (13)).toInt32) = true then 43 else 36) [(0, .ref 49), (2, .int x2), (3, .int x3), (4, .int x4)] [] (rH e g q c l) 0 0 := by
    intro f
    obtain ⟨y, cb, hj⟩ := mq_324
    rw [n_step (st' := [.int x4]) (pc' := 31) (lv' := [(0, .ref 49), (2, .int x2), (3, .int x3), (4, .int x4)]) (hp' := rH e g q c l) (i := .iload 4) (len := 2) rfl hj rfl rfl rfl]
    rw [n_step (st' := [.int (Int8.ofInt (13)).toInt32, .int x4]) (pc' := 33) (lv' := [(0, .ref 49), (2, .int x2), (3, .int x3), (4, .int x4)]) (hp' := rH e g q c l) (i := .bipush 13) (len := 2) rfl hj rfl rfl rfl]
    rw [n_step (st' := []) (pc' := (if xCn .eq x4 ((Int8.ofInt (13)).toInt32) = true then 43 else 36)) (lv' := [(0, .ref 49), (2, .int x2), (3, .int x3), (4, .int x4)]) (hp' := rH e g q c l) (i := .if_icmp .eq 10) (len := 3) rfl hj rfl rfl rfl]
  by_cases hc : xCn .eq x4 ((Int8.ofInt (13)).toInt32) = true
  · obtain ⟨f, h⟩ := h1 hc
    refine ⟨f + 3, ?_⟩
    rw [key, if_pos hc]
    exact nrun_ext f f _ _ R 324 43 [(0, .ref 49), (2, .int x2), (3, .int x3)] [(0, .ref 49), (2, .int x2), (3, .int x3), (4, .int x4)] [] _ 0 0 122 (Nat.le_refl _) (Nat.le_refl _) (Nat.le_of_ble_eq_true rfl) (lvR_mk [0, 2, 3] [0, 2, 3, 4] rfl rfl (by decide) (by decide) (List.forall_mem_cons.mpr ⟨List.mem_cons_self, (List.forall_mem_cons.mpr ⟨(List.mem_cons_of_mem _ List.mem_cons_self), (List.forall_mem_cons.mpr ⟨(List.mem_cons_of_mem _ (List.mem_cons_of_mem _ List.mem_cons_self)), (fun _ h => nomatch h)⟩)⟩)⟩) (List.forall_mem_cons.mpr ⟨Or.inl List.mem_cons_self, (List.forall_mem_cons.mpr ⟨Or.inl (List.mem_cons_of_mem _ List.mem_cons_self), (List.forall_mem_cons.mpr ⟨Or.inl (List.mem_cons_of_mem _ (List.mem_cons_of_mem _ List.mem_cons_self)), (List.forall_mem_cons.mpr ⟨Or.inr rfl, (fun _ h => nomatch h)⟩)⟩)⟩)⟩)) h
  · obtain ⟨f, h⟩ := h2 hc
    refine ⟨f + 3, ?_⟩
    rw [key, if_neg hc]
    exact h
set_option maxRecDepth 100000 in
set_option maxHeartbeats 4000000 in
theorem bk_324_36 {b : Bool} {d : Nat} {x2 x3 x4 : Int32} {e : Nat → x_E} {g : Nat → Int32} {q : Nat → Int64} {c : Nat → Nat → Int32} {l : Nat → Nat → Int64} {R : Option Value × List x_E} (h1 : xCn .ne x4 ((Int8.ofInt (32)).toInt32) = true → rr b e d 324 50 [(0, .ref 49), (2, .int x2), (3, .int x3), (4, .int x4)] [] g q c l R) (h2 : ¬ xCn .ne x4 ((Int8.ofInt (32)).toInt32) = true → rr b e d 324 43 [(0, .ref 49), (2, .int x2), (3, .int x3)] [] g q c l R) : rr b e d 324 36 [(0, .ref 49), (2, .int x2), (3, .int x3), (4, .int x4)] [] g q c l R := by
  have key : ∀ f, nrun xZ (xY (xfm b)) xDT (f + 3) d 324 36 [(0, .ref 49), (2, .int x2), (3, .int x3), (4, .int x4)] [] (rH e g q c l) 0 0 = nrun xZ (xY (xfm b)) xDT f d 324 (if xCn .ne x4 ((Int8.ofInt (32)).toInt32) = true then 50 else 43) [(0, .ref 49), (2, .int x2), (3, .int x3), (4, .int x4)] [] (rH e g q c l) 0 0 := by
    intro f
    obtain ⟨y, cb, hj⟩ := mq_324
    rw [n_step (st' := [.int x4]) (pc' := 38) (lv' := [(0, .ref 49), (2, .int x2), (3, .int x3), (4, .int x4)]) (hp' := rH e g q c l) (i := .iload 4) (len := 2) rfl hj rfl rfl rfl]
    rw [n_step (st' := [.int (Int8.ofInt (32)).toInt32, .int x4]) (pc' := 40) (lv' := [(0, .ref 49), (2, .int x2), (3, .int x3), (4, .int x4)]) (hp' := rH e g q c l) (i := .bipush 32) (len := 2) rfl hj rfl rfl rfl]
    rw [n_step (st' := []) (pc' := (if xCn .ne x4 ((Int8.ofInt (32)).toInt32) = true then 50 else 43)) (lv' := [(0, .ref 49), (2, .int x2), (3, .int x3), (4, .int x4)]) (hp' := rH e g q c l) (i := .if_icmp .ne 10) (len := 3) rfl hj rfl rfl rfl]
  by_cases hc : xCn .ne x4 ((Int8.ofInt (32)).toInt32) = true
  · obtain ⟨f, h⟩ := h1 hc
    refine ⟨f + 3, ?_⟩
    rw [key, if_pos hc]
    exact h
  · obtain ⟨f, h⟩ := h2 hc
    refine ⟨f + 3, ?_⟩
    rw [key, if_neg hc]
    exact nrun_ext f f _ _ R 324 43 [(0, .ref 49), (2, .int x2), (3, .int x3)] [(0, .ref 49), (2, .int x2), (3, .int x3), (4, .int x4)] [] _ 0 0 122 (Nat.le_refl _) (Nat.le_refl _) (Nat.le_of_ble_eq_true rfl) (lvR_mk [0, 2, 3] [0, 2, 3, 4] rfl rfl (by decide) (by decide) (List.forall_mem_cons.mpr ⟨List.mem_cons_self, (List.forall_mem_cons.mpr ⟨(List.mem_cons_of_mem _ List.mem_cons_self), (List.forall_mem_cons.mpr ⟨(List.mem_cons_of_mem _ (List.mem_cons_of_mem _ List.mem_cons_self)), (fun _ h => nomatch h)⟩)⟩)⟩) (List.forall_mem_cons.mpr ⟨Or.inl List.mem_cons_self, (List.forall_mem_cons.mpr ⟨Or.inl (List.mem_cons_of_mem _ List.mem_cons_self), (List.forall_mem_cons.mpr ⟨Or.inl (List.mem_cons_of_mem _ (List.mem_cons_of_mem _ List.mem_cons_self)), (List.forall_mem_cons.mpr ⟨Or.inr rfl, (fun _ h => nomatch h)⟩)⟩)⟩)⟩)) h
set_option maxRecDepth 100000 in
set_option maxHeartbeats 4000000 in
theorem bk_324_43 {b : Bool} {d : Nat} {x2 x3 : Int32} {e : Nat → x_E} {g : Nat → Int32} {q : Nat → Int64} {c : Nat → Nat → Int32} {l : Nat → Nat → Int64} {R : Option Value × List x_E} (h : rr b e d 324 85 [(0, .ref 49), (2, .int (x2 + (Int32.ofInt (1)))), (3, .int x3)] [] g q c l R) : rr b e d 324 43 [(0, .ref 49), (2, .int x2), (3, .int x3)] [] g q c l R := by
  obtain ⟨f, h⟩ := h
  refine ⟨f + 5, ?_⟩
  obtain ⟨y, cb, hj⟩ := mq_324
  rw [n_step (st' := [.int x2]) (pc' := 44) (lv' := [(0, .ref 49), (2, .int x2), (3, .int x3)]) (hp' := rH e g q c l) (i := .iload_n 2) (len := 1) rfl hj rfl rfl rfl]
  rw [n_step (st' := [.int (Int32.ofInt (1)), .int x2]) (pc' := 45) (lv' := [(0, .ref 49), (2, .int x2), (3, .int x3)]) (hp' := rH e g q c l) (i := .iconst 1) (len := 1) rfl hj rfl rfl rfl]
  rw [n_step (st' := [.int (x2 + (Int32.ofInt (1)))]) (pc' := 46) (lv' := [(0, .ref 49), (2, .int x2), (3, .int x3)]) (hp' := rH e g q c l) (i := .iadd) (len := 1) rfl hj rfl rfl rfl]
  rw [n_step (st' := []) (pc' := 47) (lv' := [(2, .int (x2 + (Int32.ofInt (1)))), (0, .ref 49), (3, .int x3)]) (hp' := rH e g q c l) (i := .istore_n 2) (len := 1) rfl hj rfl rfl rfl]
  rw [n_step (st' := []) (pc' := 85) (lv' := [(2, .int (x2 + (Int32.ofInt (1)))), (0, .ref 49), (3, .int x3)]) (hp' := rH e g q c l) (i := .goto 38) (len := 3) rfl hj rfl rfl rfl]
  exact nrun_ext f f _ _ R 324 85 [(0, .ref 49), (2, .int (x2 + (Int32.ofInt (1)))), (3, .int x3)] [(2, .int (x2 + (Int32.ofInt (1)))), (0, .ref 49), (3, .int x3)] [] _ 0 0 122 (Nat.le_refl _) (Nat.le_refl _) (Nat.le_of_ble_eq_true rfl) (lvR_mk [0, 2, 3] [2, 0, 3] rfl rfl (by decide) (by decide) (List.forall_mem_cons.mpr ⟨(List.mem_cons_of_mem _ List.mem_cons_self), (List.forall_mem_cons.mpr ⟨List.mem_cons_self, (List.forall_mem_cons.mpr ⟨(List.mem_cons_of_mem _ (List.mem_cons_of_mem _ List.mem_cons_self)), (fun _ h => nomatch h)⟩)⟩)⟩) (List.forall_mem_cons.mpr ⟨Or.inl (List.mem_cons_of_mem _ List.mem_cons_self), (List.forall_mem_cons.mpr ⟨Or.inl List.mem_cons_self, (List.forall_mem_cons.mpr ⟨Or.inl (List.mem_cons_of_mem _ (List.mem_cons_of_mem _ List.mem_cons_self)), (fun _ h => nomatch h)⟩)⟩)⟩)) h
set_option maxRecDepth 100000 in
set_option maxHeartbeats 4000000 in
theorem bk_324_50 {b : Bool} {d : Nat} {x2 x3 x4 : Int32} {e : Nat → x_E} {g : Nat → Int32} {q : Nat → Int64} {c : Nat → Nat → Int32} {l : Nat → Nat → Int64} {R : Option Value × List x_E} (h1 : xCn .ne x4 ((Int8.ofInt (37)).toInt32) = true → rr b e d 324 83 [(0, .ref 49), (2, .int x2)] [] g q c l R) (h2 : ¬ xCn .ne x4 ((Int8.ofInt (37)).toInt32) = true → rr b e d 324 57 [(0, .ref 49), (2, .int x2), (3, .int x3)] [] g q c l R) : rr b e d 324 50 [(0, .ref 49), (2, .int x2), (3, .int x3), (4, .int x4)] [] g q c l R := by
  have key : ∀ f, nrun xZ (xY (xfm b)) xDT (f + 3) d 324 50 [(0, .ref 49), (2, .int x2), (3, .int x3), (4, .int x4)] [] (rH e g q c l) 0 0 = nrun xZ (xY (xfm b)) xDT f d 324 (if xCn .ne x4 ((Int8.ofInt (37)).toInt32) = true then 83 else 57) [(0, .ref 49), (2, .int x2), (3, .int x3), (4, .int x4)] [] (rH e g q c l) 0 0 := by
    intro f
    obtain ⟨y, cb, hj⟩ := mq_324
    rw [n_step (st' := [.int x4]) (pc' := 52) (lv' := [(0, .ref 49), (2, .int x2), (3, .int x3), (4, .int x4)]) (hp' := rH e g q c l) (i := .iload 4) (len := 2) rfl hj rfl rfl rfl]
    rw [n_step (st' := [.int (Int8.ofInt (37)).toInt32, .int x4]) (pc' := 54) (lv' := [(0, .ref 49), (2, .int x2), (3, .int x3), (4, .int x4)]) (hp' := rH e g q c l) (i := .bipush 37) (len := 2) rfl hj rfl rfl rfl]
    rw [n_step (st' := []) (pc' := (if xCn .ne x4 ((Int8.ofInt (37)).toInt32) = true then 83 else 57)) (lv' := [(0, .ref 49), (2, .int x2), (3, .int x3), (4, .int x4)]) (hp' := rH e g q c l) (i := .if_icmp .ne 29) (len := 3) rfl hj rfl rfl rfl]
  by_cases hc : xCn .ne x4 ((Int8.ofInt (37)).toInt32) = true
  · obtain ⟨f, h⟩ := h1 hc
    refine ⟨f + 3, ?_⟩
    rw [key, if_pos hc]
    exact nrun_ext f f _ _ R 324 83 [(0, .ref 49), (2, .int x2)] [(0, .ref 49), (2, .int x2), (3, .int x3), (4, .int x4)] [] _ 0 0 122 (Nat.le_refl _) (Nat.le_refl _) (Nat.le_of_ble_eq_true rfl) (lvR_mk [0, 2] [0, 2, 3, 4] rfl rfl (by decide) (by decide) (List.forall_mem_cons.mpr ⟨List.mem_cons_self, (List.forall_mem_cons.mpr ⟨(List.mem_cons_of_mem _ List.mem_cons_self), (fun _ h => nomatch h)⟩)⟩) (List.forall_mem_cons.mpr ⟨Or.inl List.mem_cons_self, (List.forall_mem_cons.mpr ⟨Or.inl (List.mem_cons_of_mem _ List.mem_cons_self), (List.forall_mem_cons.mpr ⟨Or.inr rfl, (List.forall_mem_cons.mpr ⟨Or.inr rfl, (fun _ h => nomatch h)⟩)⟩)⟩)⟩)) h
  · obtain ⟨f, h⟩ := h2 hc
    refine ⟨f + 3, ?_⟩
    rw [key, if_neg hc]
    exact nrun_ext f f _ _ R 324 57 [(0, .ref 49), (2, .int x2), (3, .int x3)] [(0, .ref 49), (2, .int x2), (3, .int x3), (4, .int x4)] [] _ 0 0 122 (Nat.le_refl _) (Nat.le_refl _) (Nat.le_of_ble_eq_true rfl) (lvR_mk [0, 2, 3] [0, 2, 3, 4] rfl rfl (by decide) (by decide) (List.forall_mem_cons.mpr ⟨List.mem_cons_self, (List.forall_mem_cons.mpr ⟨(List.mem_cons_of_mem _ List.mem_cons_self), (List.forall_mem_cons.mpr ⟨(List.mem_cons_of_mem _ (List.mem_cons_of_mem _ List.mem_cons_self)), (fun _ h => nomatch h)⟩)⟩)⟩) (List.forall_mem_cons.mpr ⟨Or.inl List.mem_cons_self, (List.forall_mem_cons.mpr ⟨Or.inl (List.mem_cons_of_mem _ List.mem_cons_self), (List.forall_mem_cons.mpr ⟨Or.inl (List.mem_cons_of_mem _ (List.mem_cons_of_mem _ List.mem_cons_self)), (List.forall_mem_cons.mpr ⟨Or.inr rfl, (fun _ h => nomatch h)⟩)⟩)⟩)⟩)) h
set_option maxRecDepth 100000 in
set_option maxHeartbeats 4000000 in
theorem bk_324_57 {b : Bool} {d : Nat} {x2 x3 : Int32} {e : Nat → x_E} {g : Nat → Int32} {q : Nat → Int64} {c : Nat → Nat → Int32} {l : Nat → Nat → Int64} {R : Option Value × List x_E} (h1 : xCn .ge x2 ((g 3)) = true → rr b e d 324 85 [(0, .ref 49), (2, .int x2), (3, .int x3)] [] g q c l R) (h2 : ¬ xCn .ge x2 ((g 3)) = true → rr b e d 324 65 [(0, .ref 49), (2, .int x2), (3, .int x3)] [] g q c l R) : rr b e d 324 57 [(0, .ref 49), (2, .int x2), (3, .int x3)] [] g q c l R := by
  have key : ∀ f, nrun xZ (xY (xfm b)) xDT (f + 4) d 324 57 [(0, .ref 49), (2, .int x2), (3, .int x3)] [] (rH e g q c l) 0 0 = nrun xZ (xY (xfm b)) xDT f d 324 (if xCn .ge x2 ((g 3)) = true then 85 else 65) [(0, .ref 49), (2, .int x2), (3, .int x3)] [] (rH e g q c l) 0 0 := by
    intro f
    obtain ⟨y, cb, hj⟩ := mq_324
    rw [n_step (st' := [.int x2]) (pc' := 58) (lv' := [(0, .ref 49), (2, .int x2), (3, .int x3)]) (hp' := rH e g q c l) (i := .iload_n 2) (len := 1) rfl hj rfl rfl rfl]
    rw [n_step (st' := [.ref 49, .int x2]) (pc' := 59) (lv' := [(0, .ref 49), (2, .int x2), (3, .int x3)]) (hp' := rH e g q c l) (i := .aload_n 0) (len := 1) rfl hj rfl rfl rfl]
    rw [n_get (st' := [.int (g 3), .int x2]) (pc' := 62) (lv' := [(0, .ref 49), (2, .int x2), (3, .int x3)]) (hp' := rH e g q c l) (i := .getfield 244) (len := 3) rfl hj rfl rfl rfl rfl]
    rw [n_step (st' := []) (pc' := (if xCn .ge x2 ((g 3)) = true then 85 else 65)) (lv' := [(0, .ref 49), (2, .int x2), (3, .int x3)]) (hp' := rH e g q c l) (i := .if_icmp .ge 23) (len := 3) rfl hj rfl rfl rfl]
  by_cases hc : xCn .ge x2 ((g 3)) = true
  · obtain ⟨f, h⟩ := h1 hc
    refine ⟨f + 4, ?_⟩
    rw [key, if_pos hc]
    exact h
  · obtain ⟨f, h⟩ := h2 hc
    refine ⟨f + 4, ?_⟩
    rw [key, if_neg hc]
    exact h
set_option maxRecDepth 100000 in
set_option maxHeartbeats 4000000 in
theorem bk_324_65 {b : Bool} {d : Nat} {x2 x3 : Int32} {e : Nat → x_E} {g : Nat → Int32} {q : Nat → Int64} {c : Nat → Nat → Int32} {l : Nat → Nat → Int64} {R : Option Value × List x_E} (hz0 : ¬ (x2 < 0 ∨ 6000 ≤ (x2).toNatClampNeg)) (h1 : xCn .eq ((c 51 (x2).toNatClampNeg)) ((Int8.ofInt (10)).toInt32) = true → rr b e d 324 85 [(0, .ref 49), (2, .int x2), (3, .int x3)] [] g q c l R) (h2 : ¬ xCn .eq ((c 51 (x2).toNatClampNeg)) ((Int8.ofInt (10)).toInt32) = true → rr b e d 324 76 [(0, .ref 49), (2, .int x2), (3, .int x3)] [] g q c l R) : rr b e d 324 65 [(0, .ref 49), (2, .int x2), (3, .int x3)] [] g q c l R := by
  have key : ∀ f, nrun xZ (xY (xfm b)) xDT (f + 6) d 324 65 [(0, .ref 49), (2, .int x2), (3, .int x3)] [] (rH e g q c l) 0 0 = nrun xZ (xY (xfm b)) xDT f d 324 (if xCn .eq ((c 51 (x2).toNatClampNeg)) ((Int8.ofInt (10)).toInt32) = true then 85 else 76) [(0, .ref 49), (2, .int x2), (3, .int x3)] [] (rH e g q c l) 0 0 := by
    intro f
    obtain ⟨y, cb, hj⟩ := mq_324
    rw [n_step (st' := [.ref 49]) (pc' := 66) (lv' := [(0, .ref 49), (2, .int x2), (3, .int x3)]) (hp' := rH e g q c l) (i := .aload_n 0) (len := 1) rfl hj rfl rfl rfl]
    rw [n_get (st' := [.ref 51]) (pc' := 69) (lv' := [(0, .ref 49), (2, .int x2), (3, .int x3)]) (hp' := rH e g q c l) (i := .getfield 13) (len := 3) rfl hj rfl rfl rfl rfl]
    rw [n_step (st' := [.int x2, .ref 51]) (pc' := 70) (lv' := [(0, .ref 49), (2, .int x2), (3, .int x3)]) (hp' := rH e g q c l) (i := .iload_n 2) (len := 1) rfl hj rfl rfl rfl]
    rw [n_ial (st' := [.int (c 51 (x2).toNatClampNeg)]) rfl hj (ald_51 hz0)]
    rw [n_step (st' := [.int (Int8.ofInt (10)).toInt32, .int (c 51 (x2).toNatClampNeg)]) (pc' := 73) (lv' := [(0, .ref 49), (2, .int x2), (3, .int x3)]) (hp' := rH e g q c l) (i := .bipush 10) (len := 2) rfl hj rfl rfl rfl]
    rw [n_step (st' := []) (pc' := (if xCn .eq ((c 51 (x2).toNatClampNeg)) ((Int8.ofInt (10)).toInt32) = true then 85 else 76)) (lv' := [(0, .ref 49), (2, .int x2), (3, .int x3)]) (hp' := rH e g q c l) (i := .if_icmp .eq 12) (len := 3) rfl hj rfl rfl rfl]
  by_cases hc : xCn .eq ((c 51 (x2).toNatClampNeg)) ((Int8.ofInt (10)).toInt32) = true
  · obtain ⟨f, h⟩ := h1 hc
    refine ⟨f + 6, ?_⟩
    rw [key, if_pos hc]
    exact h
  · obtain ⟨f, h⟩ := h2 hc
    refine ⟨f + 6, ?_⟩
    rw [key, if_neg hc]
    exact h
set_option maxRecDepth 100000 in
set_option maxHeartbeats 4000000 in
theorem bk_324_76 {b : Bool} {d : Nat} {x2 x3 : Int32} {e : Nat → x_E} {g : Nat → Int32} {q : Nat → Int64} {c : Nat → Nat → Int32} {l : Nat → Nat → Int64} {R : Option Value × List x_E} (h : rr b e d 324 57 [(0, .ref 49), (2, .int (x2 + (Int32.ofInt (1)))), (3, .int x3)] [] g q c l R) : rr b e d 324 76 [(0, .ref 49), (2, .int x2), (3, .int x3)] [] g q c l R := by
  obtain ⟨f, h⟩ := h
  refine ⟨f + 5, ?_⟩
  obtain ⟨y, cb, hj⟩ := mq_324
  rw [n_step (st' := [.int x2]) (pc' := 77) (lv' := [(0, .ref 49), (2, .int x2), (3, .int x3)]) (hp' := rH e g q c l) (i := .iload_n 2) (len := 1) rfl hj rfl rfl rfl]
  rw [n_step (st' := [.int (Int32.ofInt (1)), .int x2]) (pc' := 78) (lv' := [(0, .ref 49), (2, .int x2), (3, .int x3)]) (hp' := rH e g q c l) (i := .iconst 1) (len := 1) rfl hj rfl rfl rfl]
  rw [n_step (st' := [.int (x2 + (Int32.ofInt (1)))]) (pc' := 79) (lv' := [(0, .ref 49), (2, .int x2), (3, .int x3)]) (hp' := rH e g q c l) (i := .iadd) (len := 1) rfl hj rfl rfl rfl]
  rw [n_step (st' := []) (pc' := 80) (lv' := [(2, .int (x2 + (Int32.ofInt (1)))), (0, .ref 49), (3, .int x3)]) (hp' := rH e g q c l) (i := .istore_n 2) (len := 1) rfl hj rfl rfl rfl]
  rw [n_step (st' := []) (pc' := 57) (lv' := [(2, .int (x2 + (Int32.ofInt (1)))), (0, .ref 49), (3, .int x3)]) (hp' := rH e g q c l) (i := .goto (-23)) (len := 3) rfl hj rfl rfl rfl]
  exact nrun_ext f f _ _ R 324 57 [(0, .ref 49), (2, .int (x2 + (Int32.ofInt (1)))), (3, .int x3)] [(2, .int (x2 + (Int32.ofInt (1)))), (0, .ref 49), (3, .int x3)] [] _ 0 0 122 (Nat.le_refl _) (Nat.le_refl _) (Nat.le_of_ble_eq_true rfl) (lvR_mk [0, 2, 3] [2, 0, 3] rfl rfl (by decide) (by decide) (List.forall_mem_cons.mpr ⟨(List.mem_cons_of_mem _ List.mem_cons_self), (List.forall_mem_cons.mpr ⟨List.mem_cons_self, (List.forall_mem_cons.mpr ⟨(List.mem_cons_of_mem _ (List.mem_cons_of_mem _ List.mem_cons_self)), (fun _ h => nomatch h)⟩)⟩)⟩) (List.forall_mem_cons.mpr ⟨Or.inl (List.mem_cons_of_mem _ List.mem_cons_self), (List.forall_mem_cons.mpr ⟨Or.inl List.mem_cons_self, (List.forall_mem_cons.mpr ⟨Or.inl (List.mem_cons_of_mem _ (List.mem_cons_of_mem _ List.mem_cons_self)), (fun _ h => nomatch h)⟩)⟩)⟩)) h
set_option maxRecDepth 100000 in
set_option maxHeartbeats 4000000 in
theorem bk_324_83 {b : Bool} {d : Nat} {x2 : Int32} {e : Nat → x_E} {g : Nat → Int32} {q : Nat → Int64} {c : Nat → Nat → Int32} {l : Nat → Nat → Int64} {R : Option Value × List x_E} (h : rr b e d 324 85 [(0, .ref 49), (2, .int x2), (3, .int (Int32.ofInt (0)))] [] g q c l R) : rr b e d 324 83 [(0, .ref 49), (2, .int x2)] [] g q c l R := by
  obtain ⟨f, h⟩ := h
  refine ⟨f + 2, ?_⟩
  obtain ⟨y, cb, hj⟩ := mq_324
  rw [n_step (st' := [.int (Int32.ofInt (0))]) (pc' := 84) (lv' := [(0, .ref 49), (2, .int x2)]) (hp' := rH e g q c l) (i := .iconst 0) (len := 1) rfl hj rfl rfl rfl]
  rw [n_step (st' := []) (pc' := 85) (lv' := [(3, .int (Int32.ofInt (0))), (0, .ref 49), (2, .int x2)]) (hp' := rH e g q c l) (i := .istore_n 3) (len := 1) rfl hj rfl rfl rfl]
  exact nrun_ext f f _ _ R 324 85 [(0, .ref 49), (2, .int x2), (3, .int (Int32.ofInt (0)))] [(3, .int (Int32.ofInt (0))), (0, .ref 49), (2, .int x2)] [] _ 0 0 122 (Nat.le_refl _) (Nat.le_refl _) (Nat.le_of_ble_eq_true rfl) (lvR_mk [0, 2, 3] [3, 0, 2] rfl rfl (by decide) (by decide) (List.forall_mem_cons.mpr ⟨(List.mem_cons_of_mem _ List.mem_cons_self), (List.forall_mem_cons.mpr ⟨(List.mem_cons_of_mem _ (List.mem_cons_of_mem _ List.mem_cons_self)), (List.forall_mem_cons.mpr ⟨List.mem_cons_self, (fun _ h => nomatch h)⟩)⟩)⟩) (List.forall_mem_cons.mpr ⟨Or.inl (List.mem_cons_of_mem _ (List.mem_cons_of_mem _ List.mem_cons_self)), (List.forall_mem_cons.mpr ⟨Or.inl List.mem_cons_self, (List.forall_mem_cons.mpr ⟨Or.inl (List.mem_cons_of_mem _ List.mem_cons_self), (fun _ h => nomatch h)⟩)⟩)⟩)) h
set_option maxRecDepth 100000 in
set_option maxHeartbeats 4000000 in
theorem bk_324_85 {b : Bool} {d : Nat} {x2 x3 : Int32} {e : Nat → x_E} {g : Nat → Int32} {q : Nat → Int64} {c : Nat → Nat → Int32} {l : Nat → Nat → Int64} {R : Option Value × List x_E} (h : rr b e d 324 4 [(0, .ref 49), (2, .int x2), (3, .int x3)] [] g q c l R) : rr b e d 324 85 [(0, .ref 49), (2, .int x2), (3, .int x3)] [] g q c l R := by
  obtain ⟨f, h⟩ := h
  refine ⟨f + 1, ?_⟩
  obtain ⟨y, cb, hj⟩ := mq_324
  rw [n_step (st' := []) (pc' := 4) (lv' := [(0, .ref 49), (2, .int x2), (3, .int x3)]) (hp' := rH e g q c l) (i := .goto (-81)) (len := 3) rfl hj rfl rfl rfl]
  exact h
set_option maxRecDepth 100000 in
set_option maxHeartbeats 4000000 in
theorem bk_324_88 {b : Bool} {d : Nat} {x2 : Int32} {e : Nat → x_E} {g : Nat → Int32} {q : Nat → Int64} {c : Nat → Nat → Int32} {l : Nat → Nat → Int64} : rr b e d 324 88 [(2, .int x2)] [] g q c l (some (.int x2), rH e g q c l) := by
  refine ⟨0 + 2, ?_⟩
  obtain ⟨y, cb, hj⟩ := mq_324
  rw [n_step (st' := [.int x2]) (pc' := 89) (lv' := [(2, .int x2)]) (hp' := rH e g q c l) (i := .iload_n 2) (len := 1) rfl hj rfl rfl rfl]
  exact n_ret rfl hj rfl rfl (x_ret rfl)
set_option maxRecDepth 100000 in
set_option maxHeartbeats 4000000 in
theorem bk_325_0 {b : Bool} {d : Nat} {x1 : Int32} {e : Nat → x_E} {g : Nat → Int32} {q : Nat → Int64} {c : Nat → Nat → Int32} {l : Nat → Nat → Int64} {R : Option Value × List x_E} (h1 : xCn .ge x1 ((g 3)) = true → rr b e d 325 17 [] [] g q c l R) (h2 : ¬ xCn .ge x1 ((g 3)) = true → rr b e d 325 8 [(0, .ref 49), (1, .int x1)] [] g q c l R) : rr b e d 325 0 [(0, .ref 49), (1, .int x1)] [] g q c l R := by
  have key : ∀ f, nrun xZ (xY (xfm b)) xDT (f + 4) d 325 0 [(0, .ref 49), (1, .int x1)] [] (rH e g q c l) 0 0 = nrun xZ (xY (xfm b)) xDT f d 325 (if xCn .ge x1 ((g 3)) = true then 17 else 8) [(0, .ref 49), (1, .int x1)] [] (rH e g q c l) 0 0 := by
    intro f
    obtain ⟨y, cb, hj⟩ := mq_325
    rw [n_step (st' := [.int x1]) (pc' := 1) (lv' := [(0, .ref 49), (1, .int x1)]) (hp' := rH e g q c l) (i := .iload_n 1) (len := 1) rfl hj rfl rfl rfl]
    rw [n_step (st' := [.ref 49, .int x1]) (pc' := 2) (lv' := [(0, .ref 49), (1, .int x1)]) (hp' := rH e g q c l) (i := .aload_n 0) (len := 1) rfl hj rfl rfl rfl]
    rw [n_get (st' := [.int (g 3), .int x1]) (pc' := 5) (lv' := [(0, .ref 49), (1, .int x1)]) (hp' := rH e g q c l) (i := .getfield 244) (len := 3) rfl hj rfl rfl rfl rfl]
    rw [n_step (st' := []) (pc' := (if xCn .ge x1 ((g 3)) = true then 17 else 8)) (lv' := [(0, .ref 49), (1, .int x1)]) (hp' := rH e g q c l) (i := .if_icmp .ge 12) (len := 3) rfl hj rfl rfl rfl]
  by_cases hc : xCn .ge x1 ((g 3)) = true
  · obtain ⟨f, h⟩ := h1 hc
    refine ⟨f + 4, ?_⟩
    rw [key, if_pos hc]
    exact nrun_ext f f _ _ R 325 17 [] [(0, .ref 49), (1, .int x1)] [] _ 0 0 122 (Nat.le_refl _) (Nat.le_refl _) (Nat.le_of_ble_eq_true rfl) (lvR_mk [] [0, 1] rfl rfl (by decide) (by decide) (fun _ h => nomatch h) (List.forall_mem_cons.mpr ⟨Or.inr rfl, (List.forall_mem_cons.mpr ⟨Or.inr rfl, (fun _ h => nomatch h)⟩)⟩)) h
  · obtain ⟨f, h⟩ := h2 hc
    refine ⟨f + 4, ?_⟩
    rw [key, if_neg hc]
    exact h
set_option maxRecDepth 100000 in
set_option maxHeartbeats 4000000 in
theorem bk_325_8 {b : Bool} {d : Nat} {x1 : Int32} {e : Nat → x_E} {g : Nat → Int32} {q : Nat → Int64} {c : Nat → Nat → Int32} {l : Nat → Nat → Int64} {R : Option Value × List x_E} (hz0 : ¬ (x1 < 0 ∨ 6000 ≤ (x1).toNatClampNeg)) (h : rr b e d 325 18 [] [.int (c 51 (x1).toNatClampNeg)] g q c l R) : rr b e d 325 8 [(0, .ref 49), (1, .int x1)] [] g q c l R := by
  obtain ⟨f, h⟩ := h
  refine ⟨f + 5, ?_⟩
  obtain ⟨y, cb, hj⟩ := mq_325
  rw [n_step (st' := [.ref 49]) (pc' := 9) (lv' := [(0, .ref 49), (1, .int x1)]) (hp' := rH e g q c l) (i := .aload_n 0) (len := 1) rfl hj rfl rfl rfl]
  rw [n_get (st' := [.ref 51]) (pc' := 12) (lv' := [(0, .ref 49), (1, .int x1)]) (hp' := rH e g q c l) (i := .getfield 13) (len := 3) rfl hj rfl rfl rfl rfl]
  rw [n_step (st' := [.int x1, .ref 51]) (pc' := 13) (lv' := [(0, .ref 49), (1, .int x1)]) (hp' := rH e g q c l) (i := .iload_n 1) (len := 1) rfl hj rfl rfl rfl]
  rw [n_ial (st' := [.int (c 51 (x1).toNatClampNeg)]) rfl hj (ald_51 hz0)]
  rw [n_step (st' := [.int (c 51 (x1).toNatClampNeg)]) (pc' := 18) (lv' := [(0, .ref 49), (1, .int x1)]) (hp' := rH e g q c l) (i := .goto 4) (len := 3) rfl hj rfl rfl rfl]
  exact nrun_ext f f _ _ R 325 18 [] [(0, .ref 49), (1, .int x1)] [.int (c 51 (x1).toNatClampNeg)] _ 0 0 122 (Nat.le_refl _) (Nat.le_refl _) (Nat.le_of_ble_eq_true rfl) (lvR_mk [] [0, 1] rfl rfl (by decide) (by decide) (fun _ h => nomatch h) (List.forall_mem_cons.mpr ⟨Or.inr rfl, (List.forall_mem_cons.mpr ⟨Or.inr rfl, (fun _ h => nomatch h)⟩)⟩)) h
set_option maxRecDepth 100000 in
set_option maxHeartbeats 4000000 in
theorem bk_325_17 {b : Bool} {d : Nat} {e : Nat → x_E} {g : Nat → Int32} {q : Nat → Int64} {c : Nat → Nat → Int32} {l : Nat → Nat → Int64} {R : Option Value × List x_E} (h : rr b e d 325 18 [] [.int (Int32.ofInt (-1))] g q c l R) : rr b e d 325 17 [] [] g q c l R := by
  obtain ⟨f, h⟩ := h
  refine ⟨f + 1, ?_⟩
  obtain ⟨y, cb, hj⟩ := mq_325
  rw [n_step (st' := [.int (Int32.ofInt (-1))]) (pc' := 18) (lv' := []) (hp' := rH e g q c l) (i := .iconst (-1)) (len := 1) rfl hj rfl rfl rfl]
  exact h
set_option maxRecDepth 100000 in
set_option maxHeartbeats 4000000 in
theorem bk_325_18 {b : Bool} {d : Nat} {t0 : Int32} {e : Nat → x_E} {g : Nat → Int32} {q : Nat → Int64} {c : Nat → Nat → Int32} {l : Nat → Nat → Int64} : rr b e d 325 18 [] [.int t0] g q c l (some (.int t0), rH e g q c l) := by
  refine ⟨0 + 1, ?_⟩
  obtain ⟨y, cb, hj⟩ := mq_325
  exact n_ret rfl hj rfl rfl (x_ret rfl)
set_option maxRecDepth 100000 in
set_option maxHeartbeats 4000000 in
theorem bk_326_0 {b : Bool} {d : Nat} {x0 : Int32} {e : Nat → x_E} {g : Nat → Int32} {q : Nat → Int64} {c : Nat → Nat → Int32} {l : Nat → Nat → Int64} {R : Option Value × List x_E} (h1 : xCn .lt x0 ((Int8.ofInt (65)).toInt32) = true → rr b e d 326 12 [(0, .int x0)] [] g q c l R) (h2 : ¬ xCn .lt x0 ((Int8.ofInt (65)).toInt32) = true → rr b e d 326 6 [(0, .int x0)] [] g q c l R) : rr b e d 326 0 [(0, .int x0)] [] g q c l R := by
  have key : ∀ f, nrun xZ (xY (xfm b)) xDT (f + 3) d 326 0 [(0, .int x0)] [] (rH e g q c l) 0 0 = nrun xZ (xY (xfm b)) xDT f d 326 (if xCn .lt x0 ((Int8.ofInt (65)).toInt32) = true then 12 else 6) [(0, .int x0)] [] (rH e g q c l) 0 0 := by
    intro f
    obtain ⟨y, cb, hj⟩ := mq_326
    rw [n_step (st' := [.int x0]) (pc' := 1) (lv' := [(0, .int x0)]) (hp' := rH e g q c l) (i := .iload_n 0) (len := 1) rfl hj rfl rfl rfl]
    rw [n_step (st' := [.int (Int8.ofInt (65)).toInt32, .int x0]) (pc' := 3) (lv' := [(0, .int x0)]) (hp' := rH e g q c l) (i := .bipush 65) (len := 2) rfl hj rfl rfl rfl]
    rw [n_step (st' := []) (pc' := (if xCn .lt x0 ((Int8.ofInt (65)).toInt32) = true then 12 else 6)) (lv' := [(0, .int x0)]) (hp' := rH e g q c l) (i := .if_icmp .lt 9) (len := 3) rfl hj rfl rfl rfl]
  by_cases hc : xCn .lt x0 ((Int8.ofInt (65)).toInt32) = true
  · obtain ⟨f, h⟩ := h1 hc
    refine ⟨f + 3, ?_⟩
    rw [key, if_pos hc]
    exact h
  · obtain ⟨f, h⟩ := h2 hc
    refine ⟨f + 3, ?_⟩
    rw [key, if_neg hc]
    exact h
set_option maxRecDepth 100000 in
set_option maxHeartbeats 4000000 in
theorem bk_326_6 {b : Bool} {d : Nat} {x0 : Int32} {e : Nat → x_E} {g : Nat → Int32} {q : Nat → Int64} {c : Nat → Nat → Int32} {l : Nat → Nat → Int64} {R : Option Value × List x_E} (h1 : xCn .le x0 ((Int8.ofInt (90)).toInt32) = true → rr b e d 326 24 [] [] g q c l R) (h2 : ¬ xCn .le x0 ((Int8.ofInt (90)).toInt32) = true → rr b e d 326 12 [(0, .int x0)] [] g q c l R) : rr b e d 326 6 [(0, .int x0)] [] g q c l R := by
  have key : ∀ f, nrun xZ (xY (xfm b)) xDT (f + 3) d 326 6 [(0, .int x0)] [] (rH e g q c l) 0 0 = nrun xZ (xY (xfm b)) xDT f d 326 (if xCn .le x0 ((Int8.ofInt (90)).toInt32) = true then 24 else 12) [(0, .int x0)] [] (rH e g q c l) 0 0 := by
    intro f
    obtain ⟨y, cb, hj⟩ := mq_326
    rw [n_step (st' := [.int x0]) (pc' := 7) (lv' := [(0, .int x0)]) (hp' := rH e g q c l) (i := .iload_n 0) (len := 1) rfl hj rfl rfl rfl]
    rw [n_step (st' := [.int (Int8.ofInt (90)).toInt32, .int x0]) (pc' := 9) (lv' := [(0, .int x0)]) (hp' := rH e g q c l) (i := .bipush 90) (len := 2) rfl hj rfl rfl rfl]
    rw [n_step (st' := []) (pc' := (if xCn .le x0 ((Int8.ofInt (90)).toInt32) = true then 24 else 12)) (lv' := [(0, .int x0)]) (hp' := rH e g q c l) (i := .if_icmp .le 15) (len := 3) rfl hj rfl rfl rfl]
  by_cases hc : xCn .le x0 ((Int8.ofInt (90)).toInt32) = true
  · obtain ⟨f, h⟩ := h1 hc
    refine ⟨f + 3, ?_⟩
    rw [key, if_pos hc]
    exact nrun_ext f f _ _ R 326 24 [] [(0, .int x0)] [] _ 0 0 122 (Nat.le_refl _) (Nat.le_refl _) (Nat.le_of_ble_eq_true rfl) (lvR_mk [] [0] rfl rfl (by decide) (by decide) (fun _ h => nomatch h) (List.forall_mem_cons.mpr ⟨Or.inr rfl, (fun _ h => nomatch h)⟩)) h
  · obtain ⟨f, h⟩ := h2 hc
    refine ⟨f + 3, ?_⟩
    rw [key, if_neg hc]
    exact h
set_option maxRecDepth 100000 in
set_option maxHeartbeats 4000000 in
theorem bk_326_12 {b : Bool} {d : Nat} {x0 : Int32} {e : Nat → x_E} {g : Nat → Int32} {q : Nat → Int64} {c : Nat → Nat → Int32} {l : Nat → Nat → Int64} {R : Option Value × List x_E} (h1 : xCn .lt x0 ((Int8.ofInt (97)).toInt32) = true → rr b e d 326 28 [] [] g q c l R) (h2 : ¬ xCn .lt x0 ((Int8.ofInt (97)).toInt32) = true → rr b e d 326 18 [(0, .int x0)] [] g q c l R) : rr b e d 326 12 [(0, .int x0)] [] g q c l R := by
  have key : ∀ f, nrun xZ (xY (xfm b)) xDT (f + 3) d 326 12 [(0, .int x0)] [] (rH e g q c l) 0 0 = nrun xZ (xY (xfm b)) xDT f d 326 (if xCn .lt x0 ((Int8.ofInt (97)).toInt32) = true then 28 else 18) [(0, .int x0)] [] (rH e g q c l) 0 0 := by
    intro f
    obtain ⟨y, cb, hj⟩ := mq_326
    rw [n_step (st' := [.int x0]) (pc' := 13) (lv' := [(0, .int x0)]) (hp' := rH e g q c l) (i := .iload_n 0) (len := 1) rfl hj rfl rfl rfl]
    rw [n_step (st' := [.int (Int8.ofInt (97)).toInt32, .int x0]) (pc' := 15) (lv' := [(0, .int x0)]) (hp' := rH e g q c l) (i := .bipush 97) (len := 2) rfl hj rfl rfl rfl]
    rw [n_step (st' := []) (pc' := (if xCn .lt x0 ((Int8.ofInt (97)).toInt32) = true then 28 else 18)) (lv' := [(0, .int x0)]) (hp' := rH e g q c l) (i := .if_icmp .lt 13) (len := 3) rfl hj rfl rfl rfl]
  by_cases hc : xCn .lt x0 ((Int8.ofInt (97)).toInt32) = true
  · obtain ⟨f, h⟩ := h1 hc
    refine ⟨f + 3, ?_⟩
    rw [key, if_pos hc]
    exact nrun_ext f f _ _ R 326 28 [] [(0, .int x0)] [] _ 0 0 122 (Nat.le_refl _) (Nat.le_refl _) (Nat.le_of_ble_eq_true rfl) (lvR_mk [] [0] rfl rfl (by decide) (by decide) (fun _ h => nomatch h) (List.forall_mem_cons.mpr ⟨Or.inr rfl, (fun _ h => nomatch h)⟩)) h
  · obtain ⟨f, h⟩ := h2 hc
    refine ⟨f + 3, ?_⟩
    rw [key, if_neg hc]
    exact h
set_option maxRecDepth 100000 in
set_option maxHeartbeats 4000000 in
theorem bk_326_18 {b : Bool} {d : Nat} {x0 : Int32} {e : Nat → x_E} {g : Nat → Int32} {q : Nat → Int64} {c : Nat → Nat → Int32} {l : Nat → Nat → Int64} {R : Option Value × List x_E} (h1 : xCn .gt x0 ((Int8.ofInt (122)).toInt32) = true → rr b e d 326 28 [] [] g q c l R) (h2 : ¬ xCn .gt x0 ((Int8.ofInt (122)).toInt32) = true → rr b e d 326 24 [] [] g q c l R) : rr b e d 326 18 [(0, .int x0)] [] g q c l R := by
  have key : ∀ f, nrun xZ (xY (xfm b)) xDT (f + 3) d 326 18 [(0, .int x0)] [] (rH e g q c l) 0 0 = nrun xZ (xY (xfm b)) xDT f d 326 (if xCn .gt x0 ((Int8.ofInt (122)).toInt32) = true then 28 else 24) [(0, .int x0)] [] (rH e g q c l) 0 0 := by
    intro f
    obtain ⟨y, cb, hj⟩ := mq_326
    rw [n_step (st' := [.int x0]) (pc' := 19) (lv' := [(0, .int x0)]) (hp' := rH e g q c l) (i := .iload_n 0) (len := 1) rfl hj rfl rfl rfl]
    rw [n_step (st' := [.int (Int8.ofInt (122)).toInt32, .int x0]) (pc' := 21) (lv' := [(0, .int x0)]) (hp' := rH e g q c l) (i := .bipush 122) (len := 2) rfl hj rfl rfl rfl]
    rw [n_step (st' := []) (pc' := (if xCn .gt x0 ((Int8.ofInt (122)).toInt32) = true then 28 else 24)) (lv' := [(0, .int x0)]) (hp' := rH e g q c l) (i := .if_icmp .gt 7) (len := 3) rfl hj rfl rfl rfl]
  by_cases hc : xCn .gt x0 ((Int8.ofInt (122)).toInt32) = true
  · obtain ⟨f, h⟩ := h1 hc
    refine ⟨f + 3, ?_⟩
    rw [key, if_pos hc]
    exact nrun_ext f f _ _ R 326 28 [] [(0, .int x0)] [] _ 0 0 122 (Nat.le_refl _) (Nat.le_refl _) (Nat.le_of_ble_eq_true rfl) (lvR_mk [] [0] rfl rfl (by decide) (by decide) (fun _ h => nomatch h) (List.forall_mem_cons.mpr ⟨Or.inr rfl, (fun _ h => nomatch h)⟩)) h
  · obtain ⟨f, h⟩ := h2 hc
    refine ⟨f + 3, ?_⟩
    rw [key, if_neg hc]
    exact nrun_ext f f _ _ R 326 24 [] [(0, .int x0)] [] _ 0 0 122 (Nat.le_refl _) (Nat.le_refl _) (Nat.le_of_ble_eq_true rfl) (lvR_mk [] [0] rfl rfl (by decide) (by decide) (fun _ h => nomatch h) (List.forall_mem_cons.mpr ⟨Or.inr rfl, (fun _ h => nomatch h)⟩)) h
set_option maxRecDepth 100000 in
set_option maxHeartbeats 4000000 in
theorem bk_326_24 {b : Bool} {d : Nat} {e : Nat → x_E} {g : Nat → Int32} {q : Nat → Int64} {c : Nat → Nat → Int32} {l : Nat → Nat → Int64} {R : Option Value × List x_E} (h : rr b e d 326 29 [] [.int (Int32.ofInt (1))] g q c l R) : rr b e d 326 24 [] [] g q c l R := by
  obtain ⟨f, h⟩ := h
  refine ⟨f + 2, ?_⟩
  obtain ⟨y, cb, hj⟩ := mq_326
  rw [n_step (st' := [.int (Int32.ofInt (1))]) (pc' := 25) (lv' := []) (hp' := rH e g q c l) (i := .iconst 1) (len := 1) rfl hj rfl rfl rfl]
  rw [n_step (st' := [.int (Int32.ofInt (1))]) (pc' := 29) (lv' := []) (hp' := rH e g q c l) (i := .goto 4) (len := 3) rfl hj rfl rfl rfl]
  exact h
set_option maxRecDepth 100000 in
set_option maxHeartbeats 4000000 in
theorem bk_326_28 {b : Bool} {d : Nat} {e : Nat → x_E} {g : Nat → Int32} {q : Nat → Int64} {c : Nat → Nat → Int32} {l : Nat → Nat → Int64} {R : Option Value × List x_E} (h : rr b e d 326 29 [] [.int (Int32.ofInt (0))] g q c l R) : rr b e d 326 28 [] [] g q c l R := by
  obtain ⟨f, h⟩ := h
  refine ⟨f + 1, ?_⟩
  obtain ⟨y, cb, hj⟩ := mq_326
  rw [n_step (st' := [.int (Int32.ofInt (0))]) (pc' := 29) (lv' := []) (hp' := rH e g q c l) (i := .iconst 0) (len := 1) rfl hj rfl rfl rfl]
  exact h
set_option maxRecDepth 100000 in
set_option maxHeartbeats 4000000 in
theorem bk_326_29 {b : Bool} {d : Nat} {t0 : Int32} {e : Nat → x_E} {g : Nat → Int32} {q : Nat → Int64} {c : Nat → Nat → Int32} {l : Nat → Nat → Int64} (hv : t0 = 0 ∨ t0 = 1) : rr b e d 326 29 [] [.int t0] g q c l (some (.int t0), rH e g q c l) := by
  refine ⟨0 + 1, ?_⟩
  obtain ⟨y, cb, hj⟩ := mq_326
  exact n_ret rfl hj rfl rfl (x_ret (nb_01 hv))
set_option maxRecDepth 100000 in
set_option maxHeartbeats 4000000 in
theorem bk_328_0 {b : Bool} {d : Nat} {x0 : Int32} {e : Nat → x_E} {g : Nat → Int32} {q : Nat → Int64} {c : Nat → Nat → Int32} {l : Nat → Nat → Int64} {R : Option Value × List x_E} (h1 : xCn .lt x0 ((Int8.ofInt (48)).toInt32) = true → rr b e d 328 16 [] [] g q c l R) (h2 : ¬ xCn .lt x0 ((Int8.ofInt (48)).toInt32) = true → rr b e d 328 6 [(0, .int x0)] [] g q c l R) : rr b e d 328 0 [(0, .int x0)] [] g q c l R := by
  have key : ∀ f, nrun xZ (xY (xfm b)) xDT (f + 3) d 328 0 [(0, .int x0)] [] (rH e g q c l) 0 0 = nrun xZ (xY (xfm b)) xDT f d 328 (if xCn .lt x0 ((Int8.ofInt (48)).toInt32) = true then 16 else 6) [(0, .int x0)] [] (rH e g q c l) 0 0 := by
    intro f
    obtain ⟨y, cb, hj⟩ := mq_328
    rw [n_step (st' := [.int x0]) (pc' := 1) (lv' := [(0, .int x0)]) (hp' := rH e g q c l) (i := .iload_n 0) (len := 1) rfl hj rfl rfl rfl]
    rw [n_step (st' := [.int (Int8.ofInt (48)).toInt32, .int x0]) (pc' := 3) (lv' := [(0, .int x0)]) (hp' := rH e g q c l) (i := .bipush 48) (len := 2) rfl hj rfl rfl rfl]
    rw [n_step (st' := []) (pc' := (if xCn .lt x0 ((Int8.ofInt (48)).toInt32) = true then 16 else 6)) (lv' := [(0, .int x0)]) (hp' := rH e g q c l) (i := .if_icmp .lt 13) (len := 3) rfl hj rfl rfl rfl]
  by_cases hc : xCn .lt x0 ((Int8.ofInt (48)).toInt32) = true
  · obtain ⟨f, h⟩ := h1 hc
    refine ⟨f + 3, ?_⟩
    rw [key, if_pos hc]
    exact nrun_ext f f _ _ R 328 16 [] [(0, .int x0)] [] _ 0 0 122 (Nat.le_refl _) (Nat.le_refl _) (Nat.le_of_ble_eq_true rfl) (lvR_mk [] [0] rfl rfl (by decide) (by decide) (fun _ h => nomatch h) (List.forall_mem_cons.mpr ⟨Or.inr rfl, (fun _ h => nomatch h)⟩)) h
  · obtain ⟨f, h⟩ := h2 hc
    refine ⟨f + 3, ?_⟩
    rw [key, if_neg hc]
    exact h
set_option maxRecDepth 100000 in
set_option maxHeartbeats 4000000 in
theorem bk_328_6 {b : Bool} {d : Nat} {x0 : Int32} {e : Nat → x_E} {g : Nat → Int32} {q : Nat → Int64} {c : Nat → Nat → Int32} {l : Nat → Nat → Int64} {R : Option Value × List x_E} (h1 : xCn .gt x0 ((Int8.ofInt (57)).toInt32) = true → rr b e d 328 16 [] [] g q c l R) (h2 : ¬ xCn .gt x0 ((Int8.ofInt (57)).toInt32) = true → rr b e d 328 12 [] [] g q c l R) : rr b e d 328 6 [(0, .int x0)] [] g q c l R := by
  have key : ∀ f, nrun xZ (xY (xfm b)) xDT (f + 3) d 328 6 [(0, .int x0)] [] (rH e g q c l) 0 0 = nrun xZ (xY (xfm b)) xDT f d 328 (if xCn .gt x0 ((Int8.ofInt (57)).toInt32) = true then 16 else 12) [(0, .int x0)] [] (rH e g q c l) 0 0 := by
    intro f
    obtain ⟨y, cb, hj⟩ := mq_328
    rw [n_step (st' := [.int x0]) (pc' := 7) (lv' := [(0, .int x0)]) (hp' := rH e g q c l) (i := .iload_n 0) (len := 1) rfl hj rfl rfl rfl]
    rw [n_step (st' := [.int (Int8.ofInt (57)).toInt32, .int x0]) (pc' := 9) (lv' := [(0, .int x0)]) (hp' := rH e g q c l) (i := .bipush 57) (len := 2) rfl hj rfl rfl rfl]
    rw [n_step (st' := []) (pc' := (if xCn .gt x0 ((Int8.ofInt (57)).toInt32) = true then 16 else 12)) (lv' := [(0, .int x0)]) (hp' := rH e g q c l) (i := .if_icmp .gt 7) (len := 3) rfl hj rfl rfl rfl]
  by_cases hc : xCn .gt x0 ((Int8.ofInt (57)).toInt32) = true
  · obtain ⟨f, h⟩ := h1 hc
    refine ⟨f + 3, ?_⟩
    rw [key, if_pos hc]
    exact nrun_ext f f _ _ R 328 16 [] [(0, .int x0)] [] _ 0 0 122 (Nat.le_refl _) (Nat.le_refl _) (Nat.le_of_ble_eq_true rfl) (lvR_mk [] [0] rfl rfl (by decide) (by decide) (fun _ h => nomatch h) (List.forall_mem_cons.mpr ⟨Or.inr rfl, (fun _ h => nomatch h)⟩)) h
  · obtain ⟨f, h⟩ := h2 hc
    refine ⟨f + 3, ?_⟩
    rw [key, if_neg hc]
    exact nrun_ext f f _ _ R 328 12 [] [(0, .int x0)] [] _ 0 0 122 (Nat.le_refl _) (Nat.le_refl _) (Nat.le_of_ble_eq_true rfl) (lvR_mk [] [0] rfl rfl (by decide) (by decide) (fun _ h => nomatch h) (List.forall_mem_cons.mpr ⟨Or.inr rfl, (fun _ h => nomatch h)⟩)) h
set_option maxRecDepth 100000 in
set_option maxHeartbeats 4000000 in
theorem bk_328_12 {b : Bool} {d : Nat} {e : Nat → x_E} {g : Nat → Int32} {q : Nat → Int64} {c : Nat → Nat → Int32} {l : Nat → Nat → Int64} {R : Option Value × List x_E} (h : rr b e d 328 17 [] [.int (Int32.ofInt (1))] g q c l R) : rr b e d 328 12 [] [] g q c l R := by
  obtain ⟨f, h⟩ := h
  refine ⟨f + 2, ?_⟩
  obtain ⟨y, cb, hj⟩ := mq_328
  rw [n_step (st' := [.int (Int32.ofInt (1))]) (pc' := 13) (lv' := []) (hp' := rH e g q c l) (i := .iconst 1) (len := 1) rfl hj rfl rfl rfl]
  rw [n_step (st' := [.int (Int32.ofInt (1))]) (pc' := 17) (lv' := []) (hp' := rH e g q c l) (i := .goto 4) (len := 3) rfl hj rfl rfl rfl]
  exact h
set_option maxRecDepth 100000 in
set_option maxHeartbeats 4000000 in
theorem bk_328_16 {b : Bool} {d : Nat} {e : Nat → x_E} {g : Nat → Int32} {q : Nat → Int64} {c : Nat → Nat → Int32} {l : Nat → Nat → Int64} {R : Option Value × List x_E} (h : rr b e d 328 17 [] [.int (Int32.ofInt (0))] g q c l R) : rr b e d 328 16 [] [] g q c l R := by
  obtain ⟨f, h⟩ := h
  refine ⟨f + 1, ?_⟩
  obtain ⟨y, cb, hj⟩ := mq_328
  rw [n_step (st' := [.int (Int32.ofInt (0))]) (pc' := 17) (lv' := []) (hp' := rH e g q c l) (i := .iconst 0) (len := 1) rfl hj rfl rfl rfl]
  exact h
set_option maxRecDepth 100000 in
set_option maxHeartbeats 4000000 in
theorem bk_328_17 {b : Bool} {d : Nat} {t0 : Int32} {e : Nat → x_E} {g : Nat → Int32} {q : Nat → Int64} {c : Nat → Nat → Int32} {l : Nat → Nat → Int64} (hv : t0 = 0 ∨ t0 = 1) : rr b e d 328 17 [] [.int t0] g q c l (some (.int t0), rH e g q c l) := by
  refine ⟨0 + 1, ?_⟩
  obtain ⟨y, cb, hj⟩ := mq_328
  exact n_ret rfl hj rfl rfl (x_ret (nb_01 hv))
set_option maxRecDepth 100000 in
set_option maxHeartbeats 4000000 in
theorem bk_333_0 {b : Bool} {d : Nat} {e : Nat → x_E} {g : Nat → Int32} {q : Nat → Int64} {c : Nat → Nat → Int32} {l : Nat → Nat → Int64} (hz0 : ¬ ((g 31) < 0 ∨ 1300 ≤ ((g 31)).toNatClampNeg)) : rr b e d 333 0 [(0, .ref 49)] [] g q c l (some (.int (((upd g 31 (((g 31) + (Int32.ofInt (1))))) 31) - (Int32.ofInt (1)))), rH e (upd g 31 (((g 31) + (Int32.ofInt (1))))) q (updA c 56 (upd (c 56) ((g 31)).toNatClampNeg ((g 30)))) l) := by
  refine ⟨0 + 18, ?_⟩
  obtain ⟨y, cb, hj⟩ := mq_333
  rw [n_step (st' := [.ref 49]) (pc' := 1) (lv' := [(0, .ref 49)]) (hp' := rH e g q c l) (i := .aload_n 0) (len := 1) rfl hj rfl rfl rfl]
  rw [n_get (st' := [.ref 56]) (pc' := 4) (lv' := [(0, .ref 49)]) (hp' := rH e g q c l) (i := .getfield 34) (len := 3) rfl hj rfl rfl rfl rfl]
  rw [n_step (st' := [.ref 49, .ref 56]) (pc' := 5) (lv' := [(0, .ref 49)]) (hp' := rH e g q c l) (i := .aload_n 0) (len := 1) rfl hj rfl rfl rfl]
  rw [n_get (st' := [.int (g 31), .ref 56]) (pc' := 8) (lv' := [(0, .ref 49)]) (hp' := rH e g q c l) (i := .getfield 371) (len := 3) rfl hj rfl rfl rfl rfl]
  rw [n_step (st' := [.ref 49, .int (g 31), .ref 56]) (pc' := 9) (lv' := [(0, .ref 49)]) (hp' := rH e g q c l) (i := .aload_n 0) (len := 1) rfl hj rfl rfl rfl]
  rw [n_get (st' := [.int (g 30), .int (g 31), .ref 56]) (pc' := 12) (lv' := [(0, .ref 49)]) (hp' := rH e g q c l) (i := .getfield 374) (len := 3) rfl hj rfl rfl rfl rfl]
  rw [n_ias (st' := []) (hp' := rH e g q (updA c 56 (upd (c 56) ((g 31)).toNatClampNeg ((g 30)))) l) rfl hj (ast_56 hz0)]
  rw [n_step (st' := [.ref 49]) (pc' := 14) (lv' := [(0, .ref 49)]) (hp' := rH e g q (updA c 56 (upd (c 56) ((g 31)).toNatClampNeg ((g 30)))) l) (i := .aload_n 0) (len := 1) rfl hj rfl rfl rfl]
  rw [n_step (st' := [.ref 49, .ref 49]) (pc' := 15) (lv' := [(0, .ref 49)]) (hp' := rH e g q (updA c 56 (upd (c 56) ((g 31)).toNatClampNeg ((g 30)))) l) (i := .aload_n 0) (len := 1) rfl hj rfl rfl rfl]
  rw [n_get (st' := [.int (g 31), .ref 49]) (pc' := 18) (lv' := [(0, .ref 49)]) (hp' := rH e g q (updA c 56 (upd (c 56) ((g 31)).toNatClampNeg ((g 30)))) l) (i := .getfield 371) (len := 3) rfl hj rfl rfl rfl rfl]
  rw [n_step (st' := [.int (Int32.ofInt (1)), .int (g 31), .ref 49]) (pc' := 19) (lv' := [(0, .ref 49)]) (hp' := rH e g q (updA c 56 (upd (c 56) ((g 31)).toNatClampNeg ((g 30)))) l) (i := .iconst 1) (len := 1) rfl hj rfl rfl rfl]
  rw [n_step (st' := [.int ((g 31) + (Int32.ofInt (1))), .ref 49]) (pc' := 20) (lv' := [(0, .ref 49)]) (hp' := rH e g q (updA c 56 (upd (c 56) ((g 31)).toNatClampNeg ((g 30)))) l) (i := .iadd) (len := 1) rfl hj rfl rfl rfl]
  rw [n_put (st' := []) (hp' := rH e (upd g 31 (((g 31) + (Int32.ofInt (1))))) q (updA c 56 (upd (c 56) ((g 31)).toNatClampNeg ((g 30)))) l) rfl hj pf_31]
  rw [n_step (st' := [.ref 49]) (pc' := 24) (lv' := [(0, .ref 49)]) (hp' := rH e (upd g 31 (((g 31) + (Int32.ofInt (1))))) q (updA c 56 (upd (c 56) ((g 31)).toNatClampNeg ((g 30)))) l) (i := .aload_n 0) (len := 1) rfl hj rfl rfl rfl]
  rw [n_get (st' := [.int ((upd g 31 (((g 31) + (Int32.ofInt (1))))) 31)]) (pc' := 27) (lv' := [(0, .ref 49)]) (hp' := rH e (upd g 31 (((g 31) + (Int32.ofInt (1))))) q (updA c 56 (upd (c 56) ((g 31)).toNatClampNeg ((g 30)))) l) (i := .getfield 371) (len := 3) rfl hj rfl rfl rfl rfl]
  rw [n_step (st' := [.int (Int32.ofInt (1)), .int ((upd g 31 (((g 31) + (Int32.ofInt (1))))) 31)]) (pc' := 28) (lv' := [(0, .ref 49)]) (hp' := rH e (upd g 31 (((g 31) + (Int32.ofInt (1))))) q (updA c 56 (upd (c 56) ((g 31)).toNatClampNeg ((g 30)))) l) (i := .iconst 1) (len := 1) rfl hj rfl rfl rfl]
  rw [n_step (st' := [.int (((upd g 31 (((g 31) + (Int32.ofInt (1))))) 31) - (Int32.ofInt (1)))]) (pc' := 29) (lv' := [(0, .ref 49)]) (hp' := rH e (upd g 31 (((g 31) + (Int32.ofInt (1))))) q (updA c 56 (upd (c 56) ((g 31)).toNatClampNeg ((g 30)))) l) (i := .isub) (len := 1) rfl hj rfl rfl rfl]
  exact n_ret rfl hj rfl rfl (x_ret rfl)
set_option maxRecDepth 100000 in
set_option maxHeartbeats 4000000 in
theorem bk_334_0 {b : Bool} {d : Nat} {x1 : Int32} {e : Nat → x_E} {g : Nat → Int32} {q : Nat → Int64} {c : Nat → Nat → Int32} {l : Nat → Nat → Int64} (hz0 : ¬ ((g 30) < 0 ∨ 66000 ≤ ((g 30)).toNatClampNeg)) : rr b e d 334 0 [(0, .ref 49), (1, .int x1)] [] g q c l (none, rH e (upd g 30 (((g 30) + (Int32.ofInt (1))))) q (updA c 55 (upd (c 55) ((g 30)).toNatClampNeg x1)) l) := by
  refine ⟨0 + 13, ?_⟩
  obtain ⟨y, cb, hj⟩ := mq_334
  rw [n_step (st' := [.ref 49]) (pc' := 1) (lv' := [(0, .ref 49), (1, .int x1)]) (hp' := rH e g q c l) (i := .aload_n 0) (len := 1) rfl hj rfl rfl rfl]
  rw [n_get (st' := [.ref 55]) (pc' := 4) (lv' := [(0, .ref 49), (1, .int x1)]) (hp' := rH e g q c l) (i := .getfield 31) (len := 3) rfl hj rfl rfl rfl rfl]
  rw [n_step (st' := [.ref 49, .ref 55]) (pc' := 5) (lv' := [(0, .ref 49), (1, .int x1)]) (hp' := rH e g q c l) (i := .aload_n 0) (len := 1) rfl hj rfl rfl rfl]
  rw [n_get (st' := [.int (g 30), .ref 55]) (pc' := 8) (lv' := [(0, .ref 49), (1, .int x1)]) (hp' := rH e g q c l) (i := .getfield 374) (len := 3) rfl hj rfl rfl rfl rfl]
  rw [n_step (st' := [.int x1, .int (g 30), .ref 55]) (pc' := 9) (lv' := [(0, .ref 49), (1, .int x1)]) (hp' := rH e g q c l) (i := .iload_n 1) (len := 1) rfl hj rfl rfl rfl]
  rw [n_ias (st' := []) (hp' := rH e g q (updA c 55 (upd (c 55) ((g 30)).toNatClampNeg x1)) l) rfl hj (ast_55 hz0)]
  rw [n_step (st' := [.ref 49]) (pc' := 11) (lv' := [(0, .ref 49), (1, .int x1)]) (hp' := rH e g q (updA c 55 (upd (c 55) ((g 30)).toNatClampNeg x1)) l) (i := .aload_n 0) (len := 1) rfl hj rfl rfl rfl]
  rw [n_step (st' := [.ref 49, .ref 49]) (pc' := 12) (lv' := [(0, .ref 49), (1, .int x1)]) (hp' := rH e g q (updA c 55 (upd (c 55) ((g 30)).toNatClampNeg x1)) l) (i := .aload_n 0) (len := 1) rfl hj rfl rfl rfl]
  rw [n_get (st' := [.int (g 30), .ref 49]) (pc' := 15) (lv' := [(0, .ref 49), (1, .int x1)]) (hp' := rH e g q (updA c 55 (upd (c 55) ((g 30)).toNatClampNeg x1)) l) (i := .getfield 374) (len := 3) rfl hj rfl rfl rfl rfl]
  rw [n_step (st' := [.int (Int32.ofInt (1)), .int (g 30), .ref 49]) (pc' := 16) (lv' := [(0, .ref 49), (1, .int x1)]) (hp' := rH e g q (updA c 55 (upd (c 55) ((g 30)).toNatClampNeg x1)) l) (i := .iconst 1) (len := 1) rfl hj rfl rfl rfl]
  rw [n_step (st' := [.int ((g 30) + (Int32.ofInt (1))), .ref 49]) (pc' := 17) (lv' := [(0, .ref 49), (1, .int x1)]) (hp' := rH e g q (updA c 55 (upd (c 55) ((g 30)).toNatClampNeg x1)) l) (i := .iadd) (len := 1) rfl hj rfl rfl rfl]
  rw [n_put (st' := []) (hp' := rH e (upd g 30 (((g 30) + (Int32.ofInt (1))))) q (updA c 55 (upd (c 55) ((g 30)).toNatClampNeg x1)) l) rfl hj pf_30]
  exact n_ret rfl hj rfl rfl rfl
set_option maxRecDepth 100000 in
set_option maxHeartbeats 4000000 in
theorem bk_335_0 {b : Bool} {d : Nat} {x1 : Int32} {e : Nat → x_E} {g : Nat → Int32} {q : Nat → Int64} {c : Nat → Nat → Int32} {l : Nat → Nat → Int64} (hz0 : ¬ (x1 < 0 ∨ 1300 ≤ (x1).toNatClampNeg)) (hz1 : ¬ (x1 < 0 ∨ 1300 ≤ (x1).toNatClampNeg)) : rr b e d 335 0 [(0, .ref 49), (1, .int x1)] [] g q c l (some (.int x1), rH e g q (updA c 57 (upd (c 57) (x1).toNatClampNeg (((g 30) - (c 56 (x1).toNatClampNeg))))) l) := by
  refine ⟨0 + 13, ?_⟩
  obtain ⟨y, cb, hj⟩ := mq_335
  rw [n_step (st' := [.ref 49]) (pc' := 1) (lv' := [(0, .ref 49), (1, .int x1)]) (hp' := rH e g q c l) (i := .aload_n 0) (len := 1) rfl hj rfl rfl rfl]
  rw [n_get (st' := [.ref 57]) (pc' := 4) (lv' := [(0, .ref 49), (1, .int x1)]) (hp' := rH e g q c l) (i := .getfield 37) (len := 3) rfl hj rfl rfl rfl rfl]
  rw [n_step (st' := [.int x1, .ref 57]) (pc' := 5) (lv' := [(0, .ref 49), (1, .int x1)]) (hp' := rH e g q c l) (i := .iload_n 1) (len := 1) rfl hj rfl rfl rfl]
  rw [n_step (st' := [.ref 49, .int x1, .ref 57]) (pc' := 6) (lv' := [(0, .ref 49), (1, .int x1)]) (hp' := rH e g q c l) (i := .aload_n 0) (len := 1) rfl hj rfl rfl rfl]
  rw [n_get (st' := [.int (g 30), .int x1, .ref 57]) (pc' := 9) (lv' := [(0, .ref 49), (1, .int x1)]) (hp' := rH e g q c l) (i := .getfield 374) (len := 3) rfl hj rfl rfl rfl rfl]
  rw [n_step (st' := [.ref 49, .int (g 30), .int x1, .ref 57]) (pc' := 10) (lv' := [(0, .ref 49), (1, .int x1)]) (hp' := rH e g q c l) (i := .aload_n 0) (len := 1) rfl hj rfl rfl rfl]
  rw [n_get (st' := [.ref 56, .int (g 30), .int x1, .ref 57]) (pc' := 13) (lv' := [(0, .ref 49), (1, .int x1)]) (hp' := rH e g q c l) (i := .getfield 34) (len := 3) rfl hj rfl rfl rfl rfl]
  rw [n_step (st' := [.int x1, .ref 56, .int (g 30), .int x1, .ref 57]) (pc' := 14) (lv' := [(0, .ref 49), (1, .int x1)]) (hp' := rH e g q c l) (i := .iload_n 1) (len := 1) rfl hj rfl rfl rfl]
  rw [n_ial (st' := [.int (c 56 (x1).toNatClampNeg), .int (g 30), .int x1, .ref 57]) rfl hj (ald_56 hz0)]
  rw [n_step (st' := [.int ((g 30) - (c 56 (x1).toNatClampNeg)), .int x1, .ref 57]) (pc' := 16) (lv' := [(0, .ref 49), (1, .int x1)]) (hp' := rH e g q c l) (i := .isub) (len := 1) rfl hj rfl rfl rfl]
  rw [n_ias (st' := []) (hp' := rH e g q (updA c 57 (upd (c 57) (x1).toNatClampNeg (((g 30) - (c 56 (x1).toNatClampNeg))))) l) rfl hj (ast_57 hz1)]
  rw [n_step (st' := [.int x1]) (pc' := 18) (lv' := [(0, .ref 49), (1, .int x1)]) (hp' := rH e g q (updA c 57 (upd (c 57) (x1).toNatClampNeg (((g 30) - (c 56 (x1).toNatClampNeg))))) l) (i := .iload_n 1) (len := 1) rfl hj rfl rfl rfl]
  exact n_ret rfl hj rfl rfl (x_ret rfl)
set_option maxRecDepth 100000 in
set_option maxHeartbeats 4000000 in
theorem bk_336_0 {b : Bool} {d : Nat} {e : Nat → x_E} {g : Nat → Int32} {q : Nat → Int64} {c : Nat → Nat → Int32} {l : Nat → Nat → Int64} {g' : Nat → Int32} {q' : Nat → Int64} {c' : Nat → Nat → Int32} {l' : Nat → Nat → Int64} {v : Int32} {R : Option Value × List x_E} (hc : rr b e d 337 0 [(0, .ref 49)] [] g q c l (some (.int v), rH e g' q' c' l')) (h : rr b e (d + 1) 336 4 [(0, .ref 49)] [.int v] g' q' c' l' R) : rr b e (d + 1) 336 0 [(0, .ref 49)] [] g q c l R := by
  obtain ⟨f1, hc⟩ := hc
  obtain ⟨f2, h⟩ := h
  obtain ⟨f, hf1, hf2⟩ : ∃ f, f1 ≤ f ∧ f2 ≤ f := ⟨max f1 f2, Nat.le_max_left _ _, Nat.le_max_right _ _⟩
  have hc := nrun_fuel f1 f _ _ _ _ _ _ _ _ _ hf1 hc
  have h := nrun_fuel f2 f _ _ _ _ _ _ _ _ _ hf2 h
  refine ⟨f + 2, ?_⟩
  obtain ⟨y, cb, hj⟩ := mq_336
  rw [n_step (st' := [.ref 49]) (pc' := 1) (lv' := [(0, .ref 49)]) (hp' := rH e g q c l) (i := .aload_n 0) (len := 1) rfl hj rfl rfl rfl]
  obtain ⟨y2, cb2, hj2⟩ := mq_337
  rw [n_call (f := f) (d := d) (ki := 0) (idx := 337) (j' := 337) (kd := 0) (M' := (y2, cb2, 1, some .boolean, 12, 0, 0, 0)) (avs := [.ref 49]) (r := []) (rv := some (.int v)) (hp1 := rH e g' q' c' l') rfl hj rfl rfl rfl rfl (rq_n rfl rfl hj2 rfl rfl) rfl hc (Nat.le_of_ble_eq_true rfl)]
  exact h
set_option maxRecDepth 100000 in
set_option maxHeartbeats 4000000 in
theorem bk_336_4 {b : Bool} {d : Nat} {t0 : Int32} {e : Nat → x_E} {g : Nat → Int32} {q : Nat → Int64} {c : Nat → Nat → Int32} {l : Nat → Nat → Int64} {R : Option Value × List x_E} (h1 : xCn .eq t0 0 = true → rr b e d 336 9 [(0, .ref 49)] [] g q c l R) (h2 : ¬ xCn .eq t0 0 = true → rr b e d 336 7 [] [] g q c l R) : rr b e d 336 4 [(0, .ref 49)] [.int t0] g q c l R := by
  have key : ∀ f, nrun xZ (xY (xfm b)) xDT (f + 1) d 336 4 [(0, .ref 49)] [.int t0] (rH e g q c l) 0 0 = nrun xZ (xY (xfm b)) xDT f d 336 (if xCn .eq t0 0 = true then 9 else 7) [(0, .ref 49)] [] (rH e g q c l) 0 0 := by
    intro f
    obtain ⟨y, cb, hj⟩ := mq_336
    rw [n_step (st' := []) (pc' := (if xCn .eq t0 0 = true then 9 else 7)) (lv' := [(0, .ref 49)]) (hp' := rH e g q c l) (i := .ifCond .eq 5) (len := 3) rfl hj rfl rfl rfl]
  by_cases hc : xCn .eq t0 0 = true
  · obtain ⟨f, h⟩ := h1 hc
    refine ⟨f + 1, ?_⟩
    rw [key, if_pos hc]
    exact h
  · obtain ⟨f, h⟩ := h2 hc
    refine ⟨f + 1, ?_⟩
    rw [key, if_neg hc]
    exact nrun_ext f f _ _ R 336 7 [] [(0, .ref 49)] [] _ 0 0 122 (Nat.le_refl _) (Nat.le_refl _) (Nat.le_of_ble_eq_true rfl) (lvR_mk [] [0] rfl rfl (by decide) (by decide) (fun _ h => nomatch h) (List.forall_mem_cons.mpr ⟨Or.inr rfl, (fun _ h => nomatch h)⟩)) h
set_option maxRecDepth 100000 in
set_option maxHeartbeats 4000000 in
theorem bk_336_7 {b : Bool} {d : Nat} {e : Nat → x_E} {g : Nat → Int32} {q : Nat → Int64} {c : Nat → Nat → Int32} {l : Nat → Nat → Int64} : rr b e d 336 7 [] [] g q c l (some (.int (Int32.ofInt (-1))), rH e g q c l) := by
  refine ⟨0 + 2, ?_⟩
  obtain ⟨y, cb, hj⟩ := mq_336
  rw [n_step (st' := [.int (Int32.ofInt (-1))]) (pc' := 8) (lv' := []) (hp' := rH e g q c l) (i := .iconst (-1)) (len := 1) rfl hj rfl rfl rfl]
  exact n_ret rfl hj rfl rfl (x_ret rfl)
set_option maxRecDepth 100000 in
set_option maxHeartbeats 4000000 in
theorem bk_336_9 {b : Bool} {d : Nat} {e : Nat → x_E} {g : Nat → Int32} {q : Nat → Int64} {c : Nat → Nat → Int32} {l : Nat → Nat → Int64} {g' : Nat → Int32} {q' : Nat → Int64} {c' : Nat → Nat → Int32} {l' : Nat → Nat → Int64} {v : Int32} {R : Option Value × List x_E} (hc : rr b e d 338 0 [(0, .ref 49), (1, .int (Int32.ofInt (2)))] [] g q c l (some (.int v), rH e g' q' c' l')) (h : rr b e (d + 1) 336 14 [(0, .ref 49)] [.int v] g' q' c' l' R) : rr b e (d + 1) 336 9 [(0, .ref 49)] [] g q c l R := by
  obtain ⟨f1, hc⟩ := hc
  obtain ⟨f2, h⟩ := h
  obtain ⟨f, hf1, hf2⟩ : ∃ f, f1 ≤ f ∧ f2 ≤ f := ⟨max f1 f2, Nat.le_max_left _ _, Nat.le_max_right _ _⟩
  have hc := nrun_fuel f1 f _ _ _ _ _ _ _ _ _ hf1 hc
  have h := nrun_fuel f2 f _ _ _ _ _ _ _ _ _ hf2 h
  refine ⟨f + 3, ?_⟩
  obtain ⟨y, cb, hj⟩ := mq_336
  rw [n_step (st' := [.ref 49]) (pc' := 10) (lv' := [(0, .ref 49)]) (hp' := rH e g q c l) (i := .aload_n 0) (len := 1) rfl hj rfl rfl rfl]
  rw [n_step (st' := [.int (Int32.ofInt (2)), .ref 49]) (pc' := 11) (lv' := [(0, .ref 49)]) (hp' := rH e g q c l) (i := .iconst 2) (len := 1) rfl hj rfl rfl rfl]
  obtain ⟨y2, cb2, hj2⟩ := mq_338
  rw [n_call (f := f) (d := d) (ki := 0) (idx := 350) (j' := 338) (kd := 0) (M' := (y2, cb2, 2, some .boolean, 12, 1, 0, 0)) (avs := [.ref 49, .int (Int32.ofInt (2))]) (r := []) (rv := some (.int v)) (hp1 := rH e g' q' c' l') rfl hj rfl rfl rfl rfl (rq_n rfl rfl hj2 rfl rfl) rfl hc (Nat.le_of_ble_eq_true rfl)]
  exact h
set_option maxRecDepth 100000 in
set_option maxHeartbeats 4000000 in
theorem bk_336_14 {b : Bool} {d : Nat} {t0 : Int32} {e : Nat → x_E} {g : Nat → Int32} {q : Nat → Int64} {c : Nat → Nat → Int32} {l : Nat → Nat → Int64} {R : Option Value × List x_E} (h1 : xCn .eq t0 0 = true → rr b e d 336 22 [(0, .ref 49)] [] g q c l R) (h2 : ¬ xCn .eq t0 0 = true → rr b e d 336 17 [(0, .ref 49)] [] g q c l R) : rr b e d 336 14 [(0, .ref 49)] [.int t0] g q c l R := by
  have key : ∀ f, nrun xZ (xY (xfm b)) xDT (f + 1) d 336 14 [(0, .ref 49)] [.int t0] (rH e g q c l) 0 0 = nrun xZ (xY (xfm b)) xDT f d 336 (if xCn .eq t0 0 = true then 22 else 17) [(0, .ref 49)] [] (rH e g q c l) 0 0 := by
    intro f
    obtain ⟨y, cb, hj⟩ := mq_336
    rw [n_step (st' := []) (pc' := (if xCn .eq t0 0 = true then 22 else 17)) (lv' := [(0, .ref 49)]) (hp' := rH e g q c l) (i := .ifCond .eq 8) (len := 3) rfl hj rfl rfl rfl]
  by_cases hc : xCn .eq t0 0 = true
  · obtain ⟨f, h⟩ := h1 hc
    refine ⟨f + 1, ?_⟩
    rw [key, if_pos hc]
    exact h
  · obtain ⟨f, h⟩ := h2 hc
    refine ⟨f + 1, ?_⟩
    rw [key, if_neg hc]
    exact h
set_option maxRecDepth 100000 in
set_option maxHeartbeats 4000000 in
theorem bk_336_17 {b : Bool} {d : Nat} {e : Nat → x_E} {g : Nat → Int32} {q : Nat → Int64} {c : Nat → Nat → Int32} {l : Nat → Nat → Int64} {g' : Nat → Int32} {q' : Nat → Int64} {c' : Nat → Nat → Int32} {l' : Nat → Nat → Int64} {v : Int32} {R : Option Value × List x_E} (hc : rr b e d 339 0 [(0, .ref 49)] [] g q c l (some (.int v), rH e g' q' c' l')) (h : rr b e (d + 1) 336 21 [] [.int v] g' q' c' l' R) : rr b e (d + 1) 336 17 [(0, .ref 49)] [] g q c l R := by
  obtain ⟨f1, hc⟩ := hc
  obtain ⟨f2, h⟩ := h
  obtain ⟨f, hf1, hf2⟩ : ∃ f, f1 ≤ f ∧ f2 ≤ f := ⟨max f1 f2, Nat.le_max_left _ _, Nat.le_max_right _ _⟩
  have hc := nrun_fuel f1 f _ _ _ _ _ _ _ _ _ hf1 hc
  have h := nrun_fuel f2 f _ _ _ _ _ _ _ _ _ hf2 h
  refine ⟨f + 2, ?_⟩
  obtain ⟨y, cb, hj⟩ := mq_336
  rw [n_step (st' := [.ref 49]) (pc' := 18) (lv' := [(0, .ref 49)]) (hp' := rH e g q c l) (i := .aload_n 0) (len := 1) rfl hj rfl rfl rfl]
  obtain ⟨y2, cb2, hj2⟩ := mq_339
  rw [n_call (f := f) (d := d) (ki := 0) (idx := 445) (j' := 339) (kd := 0) (M' := (y2, cb2, 8, some .int, 12, 0, 0, 0)) (avs := [.ref 49]) (r := []) (rv := some (.int v)) (hp1 := rH e g' q' c' l') rfl hj rfl rfl rfl rfl (rq_n rfl rfl hj2 rfl rfl) rfl hc (Nat.le_of_ble_eq_true rfl)]
  exact nrun_ext f f _ _ R 336 21 [] [(0, .ref 49)] [.int v] _ 0 0 122 (Nat.le_refl _) (Nat.le_refl _) (Nat.le_of_ble_eq_true rfl) (lvR_mk [] [0] rfl rfl (by decide) (by decide) (fun _ h => nomatch h) (List.forall_mem_cons.mpr ⟨Or.inr rfl, (fun _ h => nomatch h)⟩)) h
set_option maxRecDepth 100000 in
set_option maxHeartbeats 4000000 in
theorem bk_336_21 {b : Bool} {d : Nat} {t0 : Int32} {e : Nat → x_E} {g : Nat → Int32} {q : Nat → Int64} {c : Nat → Nat → Int32} {l : Nat → Nat → Int64} : rr b e d 336 21 [] [.int t0] g q c l (some (.int t0), rH e g q c l) := by
  refine ⟨0 + 1, ?_⟩
  obtain ⟨y, cb, hj⟩ := mq_336
  exact n_ret rfl hj rfl rfl (x_ret rfl)
set_option maxRecDepth 100000 in
set_option maxHeartbeats 4000000 in
theorem bk_336_22 {b : Bool} {d : Nat} {e : Nat → x_E} {g : Nat → Int32} {q : Nat → Int64} {c : Nat → Nat → Int32} {l : Nat → Nat → Int64} {g' : Nat → Int32} {q' : Nat → Int64} {c' : Nat → Nat → Int32} {l' : Nat → Nat → Int64} {v : Int32} {R : Option Value × List x_E} (hc : rr b e d 338 0 [(0, .ref 49), (1, .int (Int32.ofInt (3)))] [] g q c l (some (.int v), rH e g' q' c' l')) (h : rr b e (d + 1) 336 27 [(0, .ref 49)] [.int v] g' q' c' l' R) : rr b e (d + 1) 336 22 [(0, .ref 49)] [] g q c l R := by
  obtain ⟨f1, hc⟩ := hc
  obtain ⟨f2, h⟩ := h
  obtain ⟨f, hf1, hf2⟩ : ∃ f, f1 ≤ f ∧ f2 ≤ f := ⟨max f1 f2, Nat.le_max_left _ _, Nat.le_max_right _ _⟩
  have hc := nrun_fuel f1 f _ _ _ _ _ _ _ _ _ hf1 hc
  have h := nrun_fuel f2 f _ _ _ _ _ _ _ _ _ hf2 h
  refine ⟨f + 3, ?_⟩
  obtain ⟨y, cb, hj⟩ := mq_336
  rw [n_step (st' := [.ref 49]) (pc' := 23) (lv' := [(0, .ref 49)]) (hp' := rH e g q c l) (i := .aload_n 0) (len := 1) rfl hj rfl rfl rfl]
  rw [n_step (st' := [.int (Int32.ofInt (3)), .ref 49]) (pc' := 24) (lv' := [(0, .ref 49)]) (hp' := rH e g q c l) (i := .iconst 3) (len := 1) rfl hj rfl rfl rfl]
  obtain ⟨y2, cb2, hj2⟩ := mq_338
  rw [n_call (f := f) (d := d) (ki := 0) (idx := 350) (j' := 338) (kd := 0) (M' := (y2, cb2, 2, some .boolean, 12, 1, 0, 0)) (avs := [.ref 49, .int (Int32.ofInt (3))]) (r := []) (rv := some (.int v)) (hp1 := rH e g' q' c' l') rfl hj rfl rfl rfl rfl (rq_n rfl rfl hj2 rfl rfl) rfl hc (Nat.le_of_ble_eq_true rfl)]
  exact h
set_option maxRecDepth 100000 in
set_option maxHeartbeats 4000000 in
theorem bk_336_27 {b : Bool} {d : Nat} {t0 : Int32} {e : Nat → x_E} {g : Nat → Int32} {q : Nat → Int64} {c : Nat → Nat → Int32} {l : Nat → Nat → Int64} {R : Option Value × List x_E} (h1 : xCn .eq t0 0 = true → rr b e d 336 35 [(0, .ref 49)] [] g q c l R) (h2 : ¬ xCn .eq t0 0 = true → rr b e d 336 30 [(0, .ref 49)] [] g q c l R) : rr b e d 336 27 [(0, .ref 49)] [.int t0] g q c l R := by
  have key : ∀ f, nrun xZ (xY (xfm b)) xDT (f + 1) d 336 27 [(0, .ref 49)] [.int t0] (rH e g q c l) 0 0 = nrun xZ (xY (xfm b)) xDT f d 336 (if xCn .eq t0 0 = true then 35 else 30) [(0, .ref 49)] [] (rH e g q c l) 0 0 := by
    intro f
    obtain ⟨y, cb, hj⟩ := mq_336
    rw [n_step (st' := []) (pc' := (if xCn .eq t0 0 = true then 35 else 30)) (lv' := [(0, .ref 49)]) (hp' := rH e g q c l) (i := .ifCond .eq 8) (len := 3) rfl hj rfl rfl rfl]
  by_cases hc : xCn .eq t0 0 = true
  · obtain ⟨f, h⟩ := h1 hc
    refine ⟨f + 1, ?_⟩
    rw [key, if_pos hc]
    exact h
  · obtain ⟨f, h⟩ := h2 hc
    refine ⟨f + 1, ?_⟩
    rw [key, if_neg hc]
    exact h
set_option maxRecDepth 100000 in
set_option maxHeartbeats 4000000 in
theorem bk_336_30 {b : Bool} {d : Nat} {e : Nat → x_E} {g : Nat → Int32} {q : Nat → Int64} {c : Nat → Nat → Int32} {l : Nat → Nat → Int64} {g' : Nat → Int32} {q' : Nat → Int64} {c' : Nat → Nat → Int32} {l' : Nat → Nat → Int64} {v : Int32} {R : Option Value × List x_E} (hc : rr b e d 365 0 [(0, .ref 49)] [] g q c l (some (.int v), rH e g' q' c' l')) (h : rr b e (d + 1) 336 34 [] [.int v] g' q' c' l' R) : rr b e (d + 1) 336 30 [(0, .ref 49)] [] g q c l R := by
  obtain ⟨f1, hc⟩ := hc
  obtain ⟨f2, h⟩ := h
  obtain ⟨f, hf1, hf2⟩ : ∃ f, f1 ≤ f ∧ f2 ≤ f := ⟨max f1 f2, Nat.le_max_left _ _, Nat.le_max_right _ _⟩
  have hc := nrun_fuel f1 f _ _ _ _ _ _ _ _ _ hf1 hc
  have h := nrun_fuel f2 f _ _ _ _ _ _ _ _ _ hf2 h
  refine ⟨f + 2, ?_⟩
  obtain ⟨y, cb, hj⟩ := mq_336
  rw [n_step (st' := [.ref 49]) (pc' := 31) (lv' := [(0, .ref 49)]) (hp' := rH e g q c l) (i := .aload_n 0) (len := 1) rfl hj rfl rfl rfl]
  obtain ⟨y2, cb2, hj2⟩ := mq_365
  rw [n_call (f := f) (d := d) (ki := 0) (idx := 448) (j' := 365) (kd := 0) (M' := (y2, cb2, 14, some .int, 12, 0, 0, 0)) (avs := [.ref 49]) (r := []) (rv := some (.int v)) (hp1 := rH e g' q' c' l') rfl hj rfl rfl rfl rfl (rq_n rfl rfl hj2 rfl rfl) rfl hc (Nat.le_of_ble_eq_true rfl)]
  exact nrun_ext f f _ _ R 336 34 [] [(0, .ref 49)] [.int v] _ 0 0 122 (Nat.le_refl _) (Nat.le_refl _) (Nat.le_of_ble_eq_true rfl) (lvR_mk [] [0] rfl rfl (by decide) (by decide) (fun _ h => nomatch h) (List.forall_mem_cons.mpr ⟨Or.inr rfl, (fun _ h => nomatch h)⟩)) h
set_option maxRecDepth 100000 in
set_option maxHeartbeats 4000000 in
theorem bk_336_34 {b : Bool} {d : Nat} {t0 : Int32} {e : Nat → x_E} {g : Nat → Int32} {q : Nat → Int64} {c : Nat → Nat → Int32} {l : Nat → Nat → Int64} : rr b e d 336 34 [] [.int t0] g q c l (some (.int t0), rH e g q c l) := by
  refine ⟨0 + 1, ?_⟩
  obtain ⟨y, cb, hj⟩ := mq_336
  exact n_ret rfl hj rfl rfl (x_ret rfl)
set_option maxRecDepth 100000 in
set_option maxHeartbeats 4000000 in
theorem bk_336_35 {b : Bool} {d : Nat} {e : Nat → x_E} {g : Nat → Int32} {q : Nat → Int64} {c : Nat → Nat → Int32} {l : Nat → Nat → Int64} {g' : Nat → Int32} {q' : Nat → Int64} {c' : Nat → Nat → Int32} {l' : Nat → Nat → Int64} {v : Int32} {R : Option Value × List x_E} (hc : rr b e d 338 0 [(0, .ref 49), (1, .int (Int32.ofInt (4)))] [] g q c l (some (.int v), rH e g' q' c' l')) (h : rr b e (d + 1) 336 40 [(0, .ref 49)] [.int v] g' q' c' l' R) : rr b e (d + 1) 336 35 [(0, .ref 49)] [] g q c l R := by
  obtain ⟨f1, hc⟩ := hc
  obtain ⟨f2, h⟩ := h
  obtain ⟨f, hf1, hf2⟩ : ∃ f, f1 ≤ f ∧ f2 ≤ f := ⟨max f1 f2, Nat.le_max_left _ _, Nat.le_max_right _ _⟩
  have hc := nrun_fuel f1 f _ _ _ _ _ _ _ _ _ hf1 hc
  have h := nrun_fuel f2 f _ _ _ _ _ _ _ _ _ hf2 h
  refine ⟨f + 3, ?_⟩
  obtain ⟨y, cb, hj⟩ := mq_336
  rw [n_step (st' := [.ref 49]) (pc' := 36) (lv' := [(0, .ref 49)]) (hp' := rH e g q c l) (i := .aload_n 0) (len := 1) rfl hj rfl rfl rfl]
  rw [n_step (st' := [.int (Int32.ofInt (4)), .ref 49]) (pc' := 37) (lv' := [(0, .ref 49)]) (hp' := rH e g q c l) (i := .iconst 4) (len := 1) rfl hj rfl rfl rfl]
  obtain ⟨y2, cb2, hj2⟩ := mq_338
  rw [n_call (f := f) (d := d) (ki := 0) (idx := 350) (j' := 338) (kd := 0) (M' := (y2, cb2, 2, some .boolean, 12, 1, 0, 0)) (avs := [.ref 49, .int (Int32.ofInt (4))]) (r := []) (rv := some (.int v)) (hp1 := rH e g' q' c' l') rfl hj rfl rfl rfl rfl (rq_n rfl rfl hj2 rfl rfl) rfl hc (Nat.le_of_ble_eq_true rfl)]
  exact h
set_option maxRecDepth 100000 in
set_option maxHeartbeats 4000000 in
theorem bk_336_40 {b : Bool} {d : Nat} {t0 : Int32} {e : Nat → x_E} {g : Nat → Int32} {q : Nat → Int64} {c : Nat → Nat → Int32} {l : Nat → Nat → Int64} {R : Option Value × List x_E} (h1 : xCn .eq t0 0 = true → rr b e d 336 48 [(0, .ref 49)] [] g q c l R) (h2 : ¬ xCn .eq t0 0 = true → rr b e d 336 43 [(0, .ref 49)] [] g q c l R) : rr b e d 336 40 [(0, .ref 49)] [.int t0] g q c l R := by
  have key : ∀ f, nrun xZ (xY (xfm b)) xDT (f + 1) d 336 40 [(0, .ref 49)] [.int t0] (rH e g q c l) 0 0 = nrun xZ (xY (xfm b)) xDT f d 336 (if xCn .eq t0 0 = true then 48 else 43) [(0, .ref 49)] [] (rH e g q c l) 0 0 := by
    intro f
    obtain ⟨y, cb, hj⟩ := mq_336
    rw [n_step (st' := []) (pc' := (if xCn .eq t0 0 = true then 48 else 43)) (lv' := [(0, .ref 49)]) (hp' := rH e g q c l) (i := .ifCond .eq 8) (len := 3) rfl hj rfl rfl rfl]
  by_cases hc : xCn .eq t0 0 = true
  · obtain ⟨f, h⟩ := h1 hc
    refine ⟨f + 1, ?_⟩
    rw [key, if_pos hc]
    exact h
  · obtain ⟨f, h⟩ := h2 hc
    refine ⟨f + 1, ?_⟩
    rw [key, if_neg hc]
    exact h
set_option maxRecDepth 100000 in
set_option maxHeartbeats 4000000 in
theorem bk_336_43 {b : Bool} {d : Nat} {e : Nat → x_E} {g : Nat → Int32} {q : Nat → Int64} {c : Nat → Nat → Int32} {l : Nat → Nat → Int64} {g' : Nat → Int32} {q' : Nat → Int64} {c' : Nat → Nat → Int32} {l' : Nat → Nat → Int64} {v : Int32} {R : Option Value × List x_E} (hc : rr b e d 368 0 [(0, .ref 49)] [] g q c l (some (.int v), rH e g' q' c' l')) (h : rr b e (d + 1) 336 47 [] [.int v] g' q' c' l' R) : rr b e (d + 1) 336 43 [(0, .ref 49)] [] g q c l R := by
  obtain ⟨f1, hc⟩ := hc
  obtain ⟨f2, h⟩ := h
  obtain ⟨f, hf1, hf2⟩ : ∃ f, f1 ≤ f ∧ f2 ≤ f := ⟨max f1 f2, Nat.le_max_left _ _, Nat.le_max_right _ _⟩
  have hc := nrun_fuel f1 f _ _ _ _ _ _ _ _ _ hf1 hc
  have h := nrun_fuel f2 f _ _ _ _ _ _ _ _ _ hf2 h
  refine ⟨f + 2, ?_⟩
  obtain ⟨y, cb, hj⟩ := mq_336
  rw [n_step (st' := [.ref 49]) (pc' := 44) (lv' := [(0, .ref 49)]) (hp' := rH e g q c l) (i := .aload_n 0) (len := 1) rfl hj rfl rfl rfl]
  obtain ⟨y2, cb2, hj2⟩ := mq_368
  rw [n_call (f := f) (d := d) (ki := 0) (idx := 451) (j' := 368) (kd := 0) (M' := (y2, cb2, 5, some .int, 12, 0, 0, 0)) (avs := [.ref 49]) (r := []) (rv := some (.int v)) (hp1 := rH e g' q' c' l') rfl hj rfl rfl rfl rfl (rq_n rfl rfl hj2 rfl rfl) rfl hc (Nat.le_of_ble_eq_true rfl)]
  exact nrun_ext f f _ _ R 336 47 [] [(0, .ref 49)] [.int v] _ 0 0 122 (Nat.le_refl _) (Nat.le_refl _) (Nat.le_of_ble_eq_true rfl) (lvR_mk [] [0] rfl rfl (by decide) (by decide) (fun _ h => nomatch h) (List.forall_mem_cons.mpr ⟨Or.inr rfl, (fun _ h => nomatch h)⟩)) h
set_option maxRecDepth 100000 in
set_option maxHeartbeats 4000000 in
theorem bk_336_47 {b : Bool} {d : Nat} {t0 : Int32} {e : Nat → x_E} {g : Nat → Int32} {q : Nat → Int64} {c : Nat → Nat → Int32} {l : Nat → Nat → Int64} : rr b e d 336 47 [] [.int t0] g q c l (some (.int t0), rH e g q c l) := by
  refine ⟨0 + 1, ?_⟩
  obtain ⟨y, cb, hj⟩ := mq_336
  exact n_ret rfl hj rfl rfl (x_ret rfl)
set_option maxRecDepth 100000 in
set_option maxHeartbeats 4000000 in
theorem bk_336_48 {b : Bool} {d : Nat} {e : Nat → x_E} {g : Nat → Int32} {q : Nat → Int64} {c : Nat → Nat → Int32} {l : Nat → Nat → Int64} {g' : Nat → Int32} {q' : Nat → Int64} {c' : Nat → Nat → Int32} {l' : Nat → Nat → Int64} {v : Int32} {R : Option Value × List x_E} (hc : rr b e d 338 0 [(0, .ref 49), (1, .int (Int32.ofInt (5)))] [] g q c l (some (.int v), rH e g' q' c' l')) (h : rr b e (d + 1) 336 53 [(0, .ref 49)] [.int v] g' q' c' l' R) : rr b e (d + 1) 336 48 [(0, .ref 49)] [] g q c l R := by
  obtain ⟨f1, hc⟩ := hc
  obtain ⟨f2, h⟩ := h
  obtain ⟨f, hf1, hf2⟩ : ∃ f, f1 ≤ f ∧ f2 ≤ f := ⟨max f1 f2, Nat.le_max_left _ _, Nat.le_max_right _ _⟩
  have hc := nrun_fuel f1 f _ _ _ _ _ _ _ _ _ hf1 hc
  have h := nrun_fuel f2 f _ _ _ _ _ _ _ _ _ hf2 h
  refine ⟨f + 3, ?_⟩
  obtain ⟨y, cb, hj⟩ := mq_336
  rw [n_step (st' := [.ref 49]) (pc' := 49) (lv' := [(0, .ref 49)]) (hp' := rH e g q c l) (i := .aload_n 0) (len := 1) rfl hj rfl rfl rfl]
  rw [n_step (st' := [.int (Int32.ofInt (5)), .ref 49]) (pc' := 50) (lv' := [(0, .ref 49)]) (hp' := rH e g q c l) (i := .iconst 5) (len := 1) rfl hj rfl rfl rfl]
  obtain ⟨y2, cb2, hj2⟩ := mq_338
  rw [n_call (f := f) (d := d) (ki := 0) (idx := 350) (j' := 338) (kd := 0) (M' := (y2, cb2, 2, some .boolean, 12, 1, 0, 0)) (avs := [.ref 49, .int (Int32.ofInt (5))]) (r := []) (rv := some (.int v)) (hp1 := rH e g' q' c' l') rfl hj rfl rfl rfl rfl (rq_n rfl rfl hj2 rfl rfl) rfl hc (Nat.le_of_ble_eq_true rfl)]
  exact h
set_option maxRecDepth 100000 in
set_option maxHeartbeats 4000000 in
theorem bk_336_53 {b : Bool} {d : Nat} {t0 : Int32} {e : Nat → x_E} {g : Nat → Int32} {q : Nat → Int64} {c : Nat → Nat → Int32} {l : Nat → Nat → Int64} {R : Option Value × List x_E} (h1 : xCn .eq t0 0 = true → rr b e d 336 61 [(0, .ref 49)] [] g q c l R) (h2 : ¬ xCn .eq t0 0 = true → rr b e d 336 56 [(0, .ref 49)] [] g q c l R) : rr b e d 336 53 [(0, .ref 49)] [.int t0] g q c l R := by
  have key : ∀ f, nrun xZ (xY (xfm b)) xDT (f + 1) d 336 53 [(0, .ref 49)] [.int t0] (rH e g q c l) 0 0 = nrun xZ (xY (xfm b)) xDT f d 336 (if xCn .eq t0 0 = true then 61 else 56) [(0, .ref 49)] [] (rH e g q c l) 0 0 := by
    intro f
    obtain ⟨y, cb, hj⟩ := mq_336
    rw [n_step (st' := []) (pc' := (if xCn .eq t0 0 = true then 61 else 56)) (lv' := [(0, .ref 49)]) (hp' := rH e g q c l) (i := .ifCond .eq 8) (len := 3) rfl hj rfl rfl rfl]
  by_cases hc : xCn .eq t0 0 = true
  · obtain ⟨f, h⟩ := h1 hc
    refine ⟨f + 1, ?_⟩
    rw [key, if_pos hc]
    exact h
  · obtain ⟨f, h⟩ := h2 hc
    refine ⟨f + 1, ?_⟩
    rw [key, if_neg hc]
    exact h
set_option maxRecDepth 100000 in
set_option maxHeartbeats 4000000 in
theorem bk_336_56 {b : Bool} {d : Nat} {e : Nat → x_E} {g : Nat → Int32} {q : Nat → Int64} {c : Nat → Nat → Int32} {l : Nat → Nat → Int64} {g' : Nat → Int32} {q' : Nat → Int64} {c' : Nat → Nat → Int32} {l' : Nat → Nat → Int64} {v : Int32} {R : Option Value × List x_E} (hc : rr b e d 371 0 [(0, .ref 49)] [] g q c l (some (.int v), rH e g' q' c' l')) (h : rr b e (d + 1) 336 60 [] [.int v] g' q' c' l' R) : rr b e (d + 1) 336 56 [(0, .ref 49)] [] g q c l R := by
  obtain ⟨f1, hc⟩ := hc
  obtain ⟨f2, h⟩ := h
  obtain ⟨f, hf1, hf2⟩ : ∃ f, f1 ≤ f ∧ f2 ≤ f := ⟨max f1 f2, Nat.le_max_left _ _, Nat.le_max_right _ _⟩
  have hc := nrun_fuel f1 f _ _ _ _ _ _ _ _ _ hf1 hc
  have h := nrun_fuel f2 f _ _ _ _ _ _ _ _ _ hf2 h
  refine ⟨f + 2, ?_⟩
  obtain ⟨y, cb, hj⟩ := mq_336
  rw [n_step (st' := [.ref 49]) (pc' := 57) (lv' := [(0, .ref 49)]) (hp' := rH e g q c l) (i := .aload_n 0) (len := 1) rfl hj rfl rfl rfl]
  obtain ⟨y2, cb2, hj2⟩ := mq_371
  rw [n_call (f := f) (d := d) (ki := 0) (idx := 454) (j' := 371) (kd := 0) (M' := (y2, cb2, 6, some .int, 12, 0, 0, 0)) (avs := [.ref 49]) (r := []) (rv := some (.int v)) (hp1 := rH e g' q' c' l') rfl hj rfl rfl rfl rfl (rq_n rfl rfl hj2 rfl rfl) rfl hc (Nat.le_of_ble_eq_true rfl)]
  exact nrun_ext f f _ _ R 336 60 [] [(0, .ref 49)] [.int v] _ 0 0 122 (Nat.le_refl _) (Nat.le_refl _) (Nat.le_of_ble_eq_true rfl) (lvR_mk [] [0] rfl rfl (by decide) (by decide) (fun _ h => nomatch h) (List.forall_mem_cons.mpr ⟨Or.inr rfl, (fun _ h => nomatch h)⟩)) h
set_option maxRecDepth 100000 in
set_option maxHeartbeats 4000000 in
theorem bk_336_60 {b : Bool} {d : Nat} {t0 : Int32} {e : Nat → x_E} {g : Nat → Int32} {q : Nat → Int64} {c : Nat → Nat → Int32} {l : Nat → Nat → Int64} : rr b e d 336 60 [] [.int t0] g q c l (some (.int t0), rH e g q c l) := by
  refine ⟨0 + 1, ?_⟩
  obtain ⟨y, cb, hj⟩ := mq_336
  exact n_ret rfl hj rfl rfl (x_ret rfl)
set_option maxRecDepth 100000 in
set_option maxHeartbeats 4000000 in
theorem bk_336_61 {b : Bool} {d : Nat} {e : Nat → x_E} {g : Nat → Int32} {q : Nat → Int64} {c : Nat → Nat → Int32} {l : Nat → Nat → Int64} {g' : Nat → Int32} {q' : Nat → Int64} {c' : Nat → Nat → Int32} {l' : Nat → Nat → Int64} {v : Int32} {R : Option Value × List x_E} (hc : rr b e d 373 0 [(0, .ref 49)] [] g q c l (some (.int v), rH e g' q' c' l')) (h : rr b e (d + 1) 336 65 [] [.int v] g' q' c' l' R) : rr b e (d + 1) 336 61 [(0, .ref 49)] [] g q c l R := by
  obtain ⟨f1, hc⟩ := hc
  obtain ⟨f2, h⟩ := h
  obtain ⟨f, hf1, hf2⟩ : ∃ f, f1 ≤ f ∧ f2 ≤ f := ⟨max f1 f2, Nat.le_max_left _ _, Nat.le_max_right _ _⟩
  have hc := nrun_fuel f1 f _ _ _ _ _ _ _ _ _ hf1 hc
  have h := nrun_fuel f2 f _ _ _ _ _ _ _ _ _ hf2 h
  refine ⟨f + 2, ?_⟩
  obtain ⟨y, cb, hj⟩ := mq_336
  rw [n_step (st' := [.ref 49]) (pc' := 62) (lv' := [(0, .ref 49)]) (hp' := rH e g q c l) (i := .aload_n 0) (len := 1) rfl hj rfl rfl rfl]
  obtain ⟨y2, cb2, hj2⟩ := mq_373
  rw [n_call (f := f) (d := d) (ki := 0) (idx := 457) (j' := 373) (kd := 0) (M' := (y2, cb2, 6, some .int, 12, 0, 0, 0)) (avs := [.ref 49]) (r := []) (rv := some (.int v)) (hp1 := rH e g' q' c' l') rfl hj rfl rfl rfl rfl (rq_n rfl rfl hj2 rfl rfl) rfl hc (Nat.le_of_ble_eq_true rfl)]
  exact nrun_ext f f _ _ R 336 65 [] [(0, .ref 49)] [.int v] _ 0 0 122 (Nat.le_refl _) (Nat.le_refl _) (Nat.le_of_ble_eq_true rfl) (lvR_mk [] [0] rfl rfl (by decide) (by decide) (fun _ h => nomatch h) (List.forall_mem_cons.mpr ⟨Or.inr rfl, (fun _ h => nomatch h)⟩)) h
set_option maxRecDepth 100000 in
set_option maxHeartbeats 4000000 in
theorem bk_336_65 {b : Bool} {d : Nat} {t0 : Int32} {e : Nat → x_E} {g : Nat → Int32} {q : Nat → Int64} {c : Nat → Nat → Int32} {l : Nat → Nat → Int64} : rr b e d 336 65 [] [.int t0] g q c l (some (.int t0), rH e g q c l) := by
  refine ⟨0 + 1, ?_⟩
  obtain ⟨y, cb, hj⟩ := mq_336
  exact n_ret rfl hj rfl rfl (x_ret rfl)
set_option maxRecDepth 100000 in
set_option maxHeartbeats 4000000 in
theorem bk_337_0 {b : Bool} {d : Nat} {e : Nat → x_E} {g : Nat → Int32} {q : Nat → Int64} {c : Nat → Nat → Int32} {l : Nat → Nat → Int64} {R : Option Value × List x_E} (h1 : xCn .eq ((g 19)) 0 = true → rr b e d 337 11 [] [] g q c l R) (h2 : ¬ xCn .eq ((g 19)) 0 = true → rr b e d 337 7 [] [] g q c l R) : rr b e d 337 0 [(0, .ref 49)] [] g q c l R := by
  have key : ∀ f, nrun xZ (xY (xfm b)) xDT (f + 3) d 337 0 [(0, .ref 49)] [] (rH e g q c l) 0 0 = nrun xZ (xY (xfm b)) xDT f d 337 (if xCn .eq ((g 19)) 0 = true then 11 else 7) [(0, .ref 49)] [] (rH e g q c l) 0 0 := by
    intro f
    obtain ⟨y, cb, hj⟩ := mq_337
    rw [n_step (st' := [.ref 49]) (pc' := 1) (lv' := [(0, .ref 49)]) (hp' := rH e g q c l) (i := .aload_n 0) (len := 1) rfl hj rfl rfl rfl]
    rw [n_get (st' := [.int (g 19)]) (pc' := 4) (lv' := [(0, .ref 49)]) (hp' := rH e g q c l) (i := .getfield 319) (len := 3) rfl hj rfl rfl rfl rfl]
    rw [n_step (st' := []) (pc' := (if xCn .eq ((g 19)) 0 = true then 11 else 7)) (lv' := [(0, .ref 49)]) (hp' := rH e g q c l) (i := .ifCond .eq 7) (len := 3) rfl hj rfl rfl rfl]
  by_cases hc : xCn .eq ((g 19)) 0 = true
  · obtain ⟨f, h⟩ := h1 hc
    refine ⟨f + 3, ?_⟩
    rw [key, if_pos hc]
    exact nrun_ext f f _ _ R 337 11 [] [(0, .ref 49)] [] _ 0 0 122 (Nat.le_refl _) (Nat.le_refl _) (Nat.le_of_ble_eq_true rfl) (lvR_mk [] [0] rfl rfl (by decide) (by decide) (fun _ h => nomatch h) (List.forall_mem_cons.mpr ⟨Or.inr rfl, (fun _ h => nomatch h)⟩)) h
  · obtain ⟨f, h⟩ := h2 hc
    refine ⟨f + 3, ?_⟩
    rw [key, if_neg hc]
    exact nrun_ext f f _ _ R 337 7 [] [(0, .ref 49)] [] _ 0 0 122 (Nat.le_refl _) (Nat.le_refl _) (Nat.le_of_ble_eq_true rfl) (lvR_mk [] [0] rfl rfl (by decide) (by decide) (fun _ h => nomatch h) (List.forall_mem_cons.mpr ⟨Or.inr rfl, (fun _ h => nomatch h)⟩)) h
set_option maxRecDepth 100000 in
set_option maxHeartbeats 4000000 in
theorem bk_337_7 {b : Bool} {d : Nat} {e : Nat → x_E} {g : Nat → Int32} {q : Nat → Int64} {c : Nat → Nat → Int32} {l : Nat → Nat → Int64} {R : Option Value × List x_E} (h : rr b e d 337 12 [] [.int (Int32.ofInt (1))] g q c l R) : rr b e d 337 7 [] [] g q c l R := by
  obtain ⟨f, h⟩ := h
  refine ⟨f + 2, ?_⟩
  obtain ⟨y, cb, hj⟩ := mq_337
  rw [n_step (st' := [.int (Int32.ofInt (1))]) (pc' := 8) (lv' := []) (hp' := rH e g q c l) (i := .iconst 1) (len := 1) rfl hj rfl rfl rfl]
  rw [n_step (st' := [.int (Int32.ofInt (1))]) (pc' := 12) (lv' := []) (hp' := rH e g q c l) (i := .goto 4) (len := 3) rfl hj rfl rfl rfl]
  exact h
set_option maxRecDepth 100000 in
set_option maxHeartbeats 4000000 in
theorem bk_337_11 {b : Bool} {d : Nat} {e : Nat → x_E} {g : Nat → Int32} {q : Nat → Int64} {c : Nat → Nat → Int32} {l : Nat → Nat → Int64} {R : Option Value × List x_E} (h : rr b e d 337 12 [] [.int (Int32.ofInt (0))] g q c l R) : rr b e d 337 11 [] [] g q c l R := by
  obtain ⟨f, h⟩ := h
  refine ⟨f + 1, ?_⟩
  obtain ⟨y, cb, hj⟩ := mq_337
  rw [n_step (st' := [.int (Int32.ofInt (0))]) (pc' := 12) (lv' := []) (hp' := rH e g q c l) (i := .iconst 0) (len := 1) rfl hj rfl rfl rfl]
  exact h
set_option maxRecDepth 100000 in
set_option maxHeartbeats 4000000 in
theorem bk_337_12 {b : Bool} {d : Nat} {t0 : Int32} {e : Nat → x_E} {g : Nat → Int32} {q : Nat → Int64} {c : Nat → Nat → Int32} {l : Nat → Nat → Int64} (hv : t0 = 0 ∨ t0 = 1) : rr b e d 337 12 [] [.int t0] g q c l (some (.int t0), rH e g q c l) := by
  refine ⟨0 + 1, ?_⟩
  obtain ⟨y, cb, hj⟩ := mq_337
  exact n_ret rfl hj rfl rfl (x_ret (nb_01 hv))
set_option maxRecDepth 100000 in
set_option maxHeartbeats 4000000 in
theorem bk_338_0 {b : Bool} {d : Nat} {x1 : Int32} {e : Nat → x_E} {g : Nat → Int32} {q : Nat → Int64} {c : Nat → Nat → Int32} {l : Nat → Nat → Int64} {R : Option Value × List x_E} (h1 : xCn .ne ((g 10)) ((Int32.ofInt (4))) = true → rr b e d 338 20 [] [] g q c l R) (h2 : ¬ xCn .ne ((g 10)) ((Int32.ofInt (4))) = true → rr b e d 338 8 [(0, .ref 49), (1, .int x1)] [] g q c l R) : rr b e d 338 0 [(0, .ref 49), (1, .int x1)] [] g q c l R := by
  have key : ∀ f, nrun xZ (xY (xfm b)) xDT (f + 4) d 338 0 [(0, .ref 49), (1, .int x1)] [] (rH e g q c l) 0 0 = nrun xZ (xY (xfm b)) xDT f d 338 (if xCn .ne ((g 10)) ((Int32.ofInt (4))) = true then 20 else 8) [(0, .ref 49), (1, .int x1)] [] (rH e g q c l) 0 0 := by
    intro f
    obtain ⟨y, cb, hj⟩ := mq_338
    rw [n_step (st' := [.ref 49]) (pc' := 1) (lv' := [(0, .ref 49), (1, .int x1)]) (hp' := rH e g q c l) (i := .aload_n 0) (len := 1) rfl hj rfl rfl rfl]
    rw [n_get (st' := [.int (g 10)]) (pc' := 4) (lv' := [(0, .ref 49), (1, .int x1)]) (hp' := rH e g q c l) (i := .getfield 273) (len := 3) rfl hj rfl rfl rfl rfl]
    rw [n_step (st' := [.int (Int32.ofInt (4)), .int (g 10)]) (pc' := 5) (lv' := [(0, .ref 49), (1, .int x1)]) (hp' := rH e g q c l) (i := .iconst 4) (len := 1) rfl hj rfl rfl rfl]
    rw [n_step (st' := []) (pc' := (if xCn .ne ((g 10)) ((Int32.ofInt (4))) = true then 20 else 8)) (lv' := [(0, .ref 49), (1, .int x1)]) (hp' := rH e g q c l) (i := .if_icmp .ne 15) (len := 3) rfl hj rfl rfl rfl]
  by_cases hc : xCn .ne ((g 10)) ((Int32.ofInt (4))) = true
  · obtain ⟨f, h⟩ := h1 hc
    refine ⟨f + 4, ?_⟩
    rw [key, if_pos hc]
    exact nrun_ext f f _ _ R 338 20 [] [(0, .ref 49), (1, .int x1)] [] _ 0 0 122 (Nat.le_refl _) (Nat.le_refl _) (Nat.le_of_ble_eq_true rfl) (lvR_mk [] [0, 1] rfl rfl (by decide) (by decide) (fun _ h => nomatch h) (List.forall_mem_cons.mpr ⟨Or.inr rfl, (List.forall_mem_cons.mpr ⟨Or.inr rfl, (fun _ h => nomatch h)⟩)⟩)) h
  · obtain ⟨f, h⟩ := h2 hc
    refine ⟨f + 4, ?_⟩
    rw [key, if_neg hc]
    exact h
set_option maxRecDepth 100000 in
set_option maxHeartbeats 4000000 in
theorem bk_338_8 {b : Bool} {d : Nat} {x1 : Int32} {e : Nat → x_E} {g : Nat → Int32} {q : Nat → Int64} {c : Nat → Nat → Int32} {l : Nat → Nat → Int64} {R : Option Value × List x_E} (h1 : xCn .ne ((g 13)) x1 = true → rr b e d 338 20 [] [] g q c l R) (h2 : ¬ xCn .ne ((g 13)) x1 = true → rr b e d 338 16 [] [] g q c l R) : rr b e d 338 8 [(0, .ref 49), (1, .int x1)] [] g q c l R := by
  have key : ∀ f, nrun xZ (xY (xfm b)) xDT (f + 4) d 338 8 [(0, .ref 49), (1, .int x1)] [] (rH e g q c l) 0 0 = nrun xZ (xY (xfm b)) xDT f d 338 (if xCn .ne ((g 13)) x1 = true then 20 else 16) [(0, .ref 49), (1, .int x1)] [] (rH e g q c l) 0 0 := by
    intro f
    obtain ⟨y, cb, hj⟩ := mq_338
    rw [n_step (st' := [.ref 49]) (pc' := 9) (lv' := [(0, .ref 49), (1, .int x1)]) (hp' := rH e g q c l) (i := .aload_n 0) (len := 1) rfl hj rfl rfl rfl]
    rw [n_get (st' := [.int (g 13)]) (pc' := 12) (lv' := [(0, .ref 49), (1, .int x1)]) (hp' := rH e g q c l) (i := .getfield 270) (len := 3) rfl hj rfl rfl rfl rfl]
    rw [n_step (st' := [.int x1, .int (g 13)]) (pc' := 13) (lv' := [(0, .ref 49), (1, .int x1)]) (hp' := rH e g q c l) (i := .iload_n 1) (len := 1) rfl hj rfl rfl rfl]
    rw [n_step (st' := []) (pc' := (if xCn .ne ((g 13)) x1 = true then 20 else 16)) (lv' := [(0, .ref 49), (1, .int x1)]) (hp' := rH e g q c l) (i := .if_icmp .ne 7) (len := 3) rfl hj rfl rfl rfl]
  by_cases hc : xCn .ne ((g 13)) x1 = true
  · obtain ⟨f, h⟩ := h1 hc
    refine ⟨f + 4, ?_⟩
    rw [key, if_pos hc]
    exact nrun_ext f f _ _ R 338 20 [] [(0, .ref 49), (1, .int x1)] [] _ 0 0 122 (Nat.le_refl _) (Nat.le_refl _) (Nat.le_of_ble_eq_true rfl) (lvR_mk [] [0, 1] rfl rfl (by decide) (by decide) (fun _ h => nomatch h) (List.forall_mem_cons.mpr ⟨Or.inr rfl, (List.forall_mem_cons.mpr ⟨Or.inr rfl, (fun _ h => nomatch h)⟩)⟩)) h
  · obtain ⟨f, h⟩ := h2 hc
    refine ⟨f + 4, ?_⟩
    rw [key, if_neg hc]
    exact nrun_ext f f _ _ R 338 16 [] [(0, .ref 49), (1, .int x1)] [] _ 0 0 122 (Nat.le_refl _) (Nat.le_refl _) (Nat.le_of_ble_eq_true rfl) (lvR_mk [] [0, 1] rfl rfl (by decide) (by decide) (fun _ h => nomatch h) (List.forall_mem_cons.mpr ⟨Or.inr rfl, (List.forall_mem_cons.mpr ⟨Or.inr rfl, (fun _ h => nomatch h)⟩)⟩)) h
set_option maxRecDepth 100000 in
set_option maxHeartbeats 4000000 in
theorem bk_338_16 {b : Bool} {d : Nat} {e : Nat → x_E} {g : Nat → Int32} {q : Nat → Int64} {c : Nat → Nat → Int32} {l : Nat → Nat → Int64} {R : Option Value × List x_E} (h : rr b e d 338 21 [] [.int (Int32.ofInt (1))] g q c l R) : rr b e d 338 16 [] [] g q c l R := by
  obtain ⟨f, h⟩ := h
  refine ⟨f + 2, ?_⟩
  obtain ⟨y, cb, hj⟩ := mq_338
  rw [n_step (st' := [.int (Int32.ofInt (1))]) (pc' := 17) (lv' := []) (hp' := rH e g q c l) (i := .iconst 1) (len := 1) rfl hj rfl rfl rfl]
  rw [n_step (st' := [.int (Int32.ofInt (1))]) (pc' := 21) (lv' := []) (hp' := rH e g q c l) (i := .goto 4) (len := 3) rfl hj rfl rfl rfl]
  exact h
set_option maxRecDepth 100000 in
set_option maxHeartbeats 4000000 in
theorem bk_338_20 {b : Bool} {d : Nat} {e : Nat → x_E} {g : Nat → Int32} {q : Nat → Int64} {c : Nat → Nat → Int32} {l : Nat → Nat → Int64} {R : Option Value × List x_E} (h : rr b e d 338 21 [] [.int (Int32.ofInt (0))] g q c l R) : rr b e d 338 20 [] [] g q c l R := by
  obtain ⟨f, h⟩ := h
  refine ⟨f + 1, ?_⟩
  obtain ⟨y, cb, hj⟩ := mq_338
  rw [n_step (st' := [.int (Int32.ofInt (0))]) (pc' := 21) (lv' := []) (hp' := rH e g q c l) (i := .iconst 0) (len := 1) rfl hj rfl rfl rfl]
  exact h
set_option maxRecDepth 100000 in
set_option maxHeartbeats 4000000 in
theorem bk_338_21 {b : Bool} {d : Nat} {t0 : Int32} {e : Nat → x_E} {g : Nat → Int32} {q : Nat → Int64} {c : Nat → Nat → Int32} {l : Nat → Nat → Int64} (hv : t0 = 0 ∨ t0 = 1) : rr b e d 338 21 [] [.int t0] g q c l (some (.int t0), rH e g q c l) := by
  refine ⟨0 + 1, ?_⟩
  obtain ⟨y, cb, hj⟩ := mq_338
  exact n_ret rfl hj rfl rfl (x_ret (nb_01 hv))
set_option maxRecDepth 100000 in
set_option maxHeartbeats 4000000 in
theorem bk_340_0 {b : Bool} {d : Nat} {e : Nat → x_E} {g : Nat → Int32} {q : Nat → Int64} {c : Nat → Nat → Int32} {l : Nat → Nat → Int64} {g' : Nat → Int32} {q' : Nat → Int64} {c' : Nat → Nat → Int32} {l' : Nat → Nat → Int64} {v : Int32} {R : Option Value × List x_E} (hc : rr b e d 337 0 [(0, .ref 49)] [] g q c l (some (.int v), rH e g' q' c' l')) (h : rr b e (d + 1) 340 4 [(0, .ref 49)] [.int v] g' q' c' l' R) : rr b e (d + 1) 340 0 [(0, .ref 49)] [] g q c l R := by
  obtain ⟨f1, hc⟩ := hc
  obtain ⟨f2, h⟩ := h
  obtain ⟨f, hf1, hf2⟩ : ∃ f, f1 ≤ f ∧ f2 ≤ f := ⟨max f1 f2, Nat.le_max_left _ _, Nat.le_max_right _ _⟩
  have hc := nrun_fuel f1 f _ _ _ _ _ _ _ _ _ hf1 hc
  have h := nrun_fuel f2 f _ _ _ _ _ _ _ _ _ hf2 h
  refine ⟨f + 2, ?_⟩
  obtain ⟨y, cb, hj⟩ := mq_340
  rw [n_step (st' := [.ref 49]) (pc' := 1) (lv' := [(0, .ref 49)]) (hp' := rH e g q c l) (i := .aload_n 0) (len := 1) rfl hj rfl rfl rfl]
  obtain ⟨y2, cb2, hj2⟩ := mq_337
  rw [n_call (f := f) (d := d) (ki := 0) (idx := 337) (j' := 337) (kd := 0) (M' := (y2, cb2, 1, some .boolean, 12, 0, 0, 0)) (avs := [.ref 49]) (r := []) (rv := some (.int v)) (hp1 := rH e g' q' c' l') rfl hj rfl rfl rfl rfl (rq_n rfl rfl hj2 rfl rfl) rfl hc (Nat.le_of_ble_eq_true rfl)]
  exact h
set_option maxRecDepth 100000 in
set_option maxHeartbeats 4000000 in
theorem bk_340_4 {b : Bool} {d : Nat} {t0 : Int32} {e : Nat → x_E} {g : Nat → Int32} {q : Nat → Int64} {c : Nat → Nat → Int32} {l : Nat → Nat → Int64} {R : Option Value × List x_E} (h1 : xCn .eq t0 0 = true → rr b e d 340 8 [(0, .ref 49)] [] g q c l R) (h2 : ¬ xCn .eq t0 0 = true → rr b e d 340 7 [] [] g q c l R) : rr b e d 340 4 [(0, .ref 49)] [.int t0] g q c l R := by
  have key : ∀ f, nrun xZ (xY (xfm b)) xDT (f + 1) d 340 4 [(0, .ref 49)] [.int t0] (rH e g q c l) 0 0 = nrun xZ (xY (xfm b)) xDT f d 340 (if xCn .eq t0 0 = true then 8 else 7) [(0, .ref 49)] [] (rH e g q c l) 0 0 := by
    intro f
    obtain ⟨y, cb, hj⟩ := mq_340
    rw [n_step (st' := []) (pc' := (if xCn .eq t0 0 = true then 8 else 7)) (lv' := [(0, .ref 49)]) (hp' := rH e g q c l) (i := .ifCond .eq 4) (len := 3) rfl hj rfl rfl rfl]
  by_cases hc : xCn .eq t0 0 = true
  · obtain ⟨f, h⟩ := h1 hc
    refine ⟨f + 1, ?_⟩
    rw [key, if_pos hc]
    exact h
  · obtain ⟨f, h⟩ := h2 hc
    refine ⟨f + 1, ?_⟩
    rw [key, if_neg hc]
    exact nrun_ext f f _ _ R 340 7 [] [(0, .ref 49)] [] _ 0 0 122 (Nat.le_refl _) (Nat.le_refl _) (Nat.le_of_ble_eq_true rfl) (lvR_mk [] [0] rfl rfl (by decide) (by decide) (fun _ h => nomatch h) (List.forall_mem_cons.mpr ⟨Or.inr rfl, (fun _ h => nomatch h)⟩)) h
set_option maxRecDepth 100000 in
set_option maxHeartbeats 4000000 in
theorem bk_340_7 {b : Bool} {d : Nat} {e : Nat → x_E} {g : Nat → Int32} {q : Nat → Int64} {c : Nat → Nat → Int32} {l : Nat → Nat → Int64} : rr b e d 340 7 [] [] g q c l (none, rH e g q c l) := by
  refine ⟨0 + 1, ?_⟩
  obtain ⟨y, cb, hj⟩ := mq_340
  exact n_ret rfl hj rfl rfl rfl
set_option maxRecDepth 100000 in
set_option maxHeartbeats 4000000 in
theorem bk_340_8 {b : Bool} {d : Nat} {e : Nat → x_E} {g : Nat → Int32} {q : Nat → Int64} {c : Nat → Nat → Int32} {l : Nat → Nat → Int64} {R : Option Value × List x_E} (h1 : xCn .eq ((g 9)) 0 = true → rr b e d 340 24 [(0, .ref 49)] [.int (g 24)] g q c l R) (h2 : ¬ xCn .eq ((g 9)) 0 = true → rr b e d 340 19 [(0, .ref 49)] [.int (g 24)] g q c l R) : rr b e d 340 8 [(0, .ref 49)] [] g q c l R := by
  have key : ∀ f, nrun xZ (xY (xfm b)) xDT (f + 5) d 340 8 [(0, .ref 49)] [] (rH e g q c l) 0 0 = nrun xZ (xY (xfm b)) xDT f d 340 (if xCn .eq ((g 9)) 0 = true then 24 else 19) [(0, .ref 49)] [.int (g 24)] (rH e g q c l) 0 0 := by
    intro f
    obtain ⟨y, cb, hj⟩ := mq_340
    rw [n_step (st' := [.ref 49]) (pc' := 9) (lv' := [(0, .ref 49)]) (hp' := rH e g q c l) (i := .aload_n 0) (len := 1) rfl hj rfl rfl rfl]
    rw [n_get (st' := [.int (g 24)]) (pc' := 12) (lv' := [(0, .ref 49)]) (hp' := rH e g q c l) (i := .getfield 353) (len := 3) rfl hj rfl rfl rfl rfl]
    rw [n_step (st' := [.ref 49, .int (g 24)]) (pc' := 13) (lv' := [(0, .ref 49)]) (hp' := rH e g q c l) (i := .aload_n 0) (len := 1) rfl hj rfl rfl rfl]
    rw [n_get (st' := [.int (g 9), .int (g 24)]) (pc' := 16) (lv' := [(0, .ref 49)]) (hp' := rH e g q c l) (i := .getfield 299) (len := 3) rfl hj rfl rfl rfl rfl]
    rw [n_step (st' := [.int (g 24)]) (pc' := (if xCn .eq ((g 9)) 0 = true then 24 else 19)) (lv' := [(0, .ref 49)]) (hp' := rH e g q c l) (i := .ifCond .eq 8) (len := 3) rfl hj rfl rfl rfl]
  by_cases hc : xCn .eq ((g 9)) 0 = true
  · obtain ⟨f, h⟩ := h1 hc
    refine ⟨f + 5, ?_⟩
    rw [key, if_pos hc]
    exact h
  · obtain ⟨f, h⟩ := h2 hc
    refine ⟨f + 5, ?_⟩
    rw [key, if_neg hc]
    exact h
set_option maxRecDepth 100000 in
set_option maxHeartbeats 4000000 in
theorem bk_340_19 {b : Bool} {d : Nat} {t0 : Int32} {e : Nat → x_E} {g : Nat → Int32} {q : Nat → Int64} {c : Nat → Nat → Int32} {l : Nat → Nat → Int64} {R : Option Value × List x_E} (h : rr b e d 340 26 [(0, .ref 49)] [.int (Int8.ofInt (30)).toInt32, .int t0] g q c l R) : rr b e d 340 19 [(0, .ref 49)] [.int t0] g q c l R := by
  obtain ⟨f, h⟩ := h
  refine ⟨f + 2, ?_⟩
  obtain ⟨y, cb, hj⟩ := mq_340
  rw [n_step (st' := [.int (Int8.ofInt (30)).toInt32, .int t0]) (pc' := 21) (lv' := [(0, .ref 49)]) (hp' := rH e g q c l) (i := .bipush 30) (len := 2) rfl hj rfl rfl rfl]
  rw [n_step (st' := [.int (Int8.ofInt (30)).toInt32, .int t0]) (pc' := 26) (lv' := [(0, .ref 49)]) (hp' := rH e g q c l) (i := .goto 5) (len := 3) rfl hj rfl rfl rfl]
  exact h
set_option maxRecDepth 100000 in
set_option maxHeartbeats 4000000 in
theorem bk_340_24 {b : Bool} {d : Nat} {t0 : Int32} {e : Nat → x_E} {g : Nat → Int32} {q : Nat → Int64} {c : Nat → Nat → Int32} {l : Nat → Nat → Int64} {R : Option Value × List x_E} (h : rr b e d 340 26 [(0, .ref 49)] [.int (Int8.ofInt (20)).toInt32, .int t0] g q c l R) : rr b e d 340 24 [(0, .ref 49)] [.int t0] g q c l R := by
  obtain ⟨f, h⟩ := h
  refine ⟨f + 1, ?_⟩
  obtain ⟨y, cb, hj⟩ := mq_340
  rw [n_step (st' := [.int (Int8.ofInt (20)).toInt32, .int t0]) (pc' := 26) (lv' := [(0, .ref 49)]) (hp' := rH e g q c l) (i := .bipush 20) (len := 2) rfl hj rfl rfl rfl]
  exact h
set_option maxRecDepth 100000 in
set_option maxHeartbeats 4000000 in
theorem bk_340_26 {b : Bool} {d : Nat} {t0 t1 : Int32} {e : Nat → x_E} {g : Nat → Int32} {q : Nat → Int64} {c : Nat → Nat → Int32} {l : Nat → Nat → Int64} {R : Option Value × List x_E} (h1 : xCn .ne t1 t0 = true → rr b e d 340 38 [(0, .ref 49)] [] g q c l R) (h2 : ¬ xCn .ne t1 t0 = true → rr b e d 340 29 [(0, .ref 49)] [] g q c l R) : rr b e d 340 26 [(0, .ref 49)] [.int t0, .int t1] g q c l R := by
  have key : ∀ f, nrun xZ (xY (xfm b)) xDT (f + 1) d 340 26 [(0, .ref 49)] [.int t0, .int t1] (rH e g q c l) 0 0 = nrun xZ (xY (xfm b)) xDT f d 340 (if xCn .ne t1 t0 = true then 38 else 29) [(0, .ref 49)] [] (rH e g q c l) 0 0 := by
    intro f
    obtain ⟨y, cb, hj⟩ := mq_340
    rw [n_step (st' := []) (pc' := (if xCn .ne t1 t0 = true then 38 else 29)) (lv' := [(0, .ref 49)]) (hp' := rH e g q c l) (i := .if_icmp .ne 12) (len := 3) rfl hj rfl rfl rfl]
  by_cases hc : xCn .ne t1 t0 = true
  · obtain ⟨f, h⟩ := h1 hc
    refine ⟨f + 1, ?_⟩
    rw [key, if_pos hc]
    exact h
  · obtain ⟨f, h⟩ := h2 hc
    refine ⟨f + 1, ?_⟩
    rw [key, if_neg hc]
    exact h
set_option maxRecDepth 100000 in
set_option maxHeartbeats 4000000 in
theorem bk_340_29 {b : Bool} {d : Nat} {e : Nat → x_E} {g : Nat → Int32} {q : Nat → Int64} {c : Nat → Nat → Int32} {l : Nat → Nat → Int64} {g' : Nat → Int32} {q' : Nat → Int64} {c' : Nat → Nat → Int32} {l' : Nat → Nat → Int64} {R : Option Value × List x_E} (hc : rr b e d 323 0 [(0, .ref 49), (1, .int (Int32.ofInt (2))), (2, .int (g 11))] [] g q c l (none, rH e g' q' c' l')) (h : rr b e (d + 1) 340 38 [(0, .ref 49)] [] g' q' c' l' R) : rr b e (d + 1) 340 29 [(0, .ref 49)] [] g q c l R := by
  obtain ⟨f1, hc⟩ := hc
  obtain ⟨f2, h⟩ := h
  obtain ⟨f, hf1, hf2⟩ : ∃ f, f1 ≤ f ∧ f2 ≤ f := ⟨max f1 f2, Nat.le_max_left _ _, Nat.le_max_right _ _⟩
  have hc := nrun_fuel f1 f _ _ _ _ _ _ _ _ _ hf1 hc
  have h := nrun_fuel f2 f _ _ _ _ _ _ _ _ _ hf2 h
  refine ⟨f + 5, ?_⟩
  obtain ⟨y, cb, hj⟩ := mq_340
  rw [n_step (st' := [.ref 49]) (pc' := 30) (lv' := [(0, .ref 49)]) (hp' := rH e g q c l) (i := .aload_n 0) (len := 1) rfl hj rfl rfl rfl]
  rw [n_step (st' := [.int (Int32.ofInt (2)), .ref 49]) (pc' := 31) (lv' := [(0, .ref 49)]) (hp' := rH e g q c l) (i := .iconst 2) (len := 1) rfl hj rfl rfl rfl]
  rw [n_step (st' := [.ref 49, .int (Int32.ofInt (2)), .ref 49]) (pc' := 32) (lv' := [(0, .ref 49)]) (hp' := rH e g q c l) (i := .aload_n 0) (len := 1) rfl hj rfl rfl rfl]
  rw [n_get (st' := [.int (g 11), .int (Int32.ofInt (2)), .ref 49]) (pc' := 35) (lv' := [(0, .ref 49)]) (hp' := rH e g q c l) (i := .getfield 257) (len := 3) rfl hj rfl rfl rfl rfl]
  obtain ⟨y2, cb2, hj2⟩ := mq_323
  rw [n_call (f := f) (d := d) (ki := 0) (idx := 260) (j' := 323) (kd := 0) (M' := (y2, cb2, 3, none, 12, 2, 0, 0)) (avs := [.ref 49, .int (Int32.ofInt (2)), .int (g 11)]) (r := []) (rv := none) (hp1 := rH e g' q' c' l') rfl hj rfl rfl rfl rfl (rq_n rfl rfl hj2 rfl rfl) rfl hc (Nat.le_of_ble_eq_true rfl)]
  exact h
set_option maxRecDepth 100000 in
set_option maxHeartbeats 4000000 in
theorem bk_340_38 {b : Bool} {d : Nat} {e : Nat → x_E} {g : Nat → Int32} {q : Nat → Int64} {c : Nat → Nat → Int32} {l : Nat → Nat → Int64} {g' : Nat → Int32} {q' : Nat → Int64} {c' : Nat → Nat → Int32} {l' : Nat → Nat → Int64} {v : Int32} {R : Option Value × List x_E} (hc : rr b e d 337 0 [(0, .ref 49)] [] (upd g 24 (((g 24) + (Int32.ofInt (1))))) q c l (some (.int v), rH e g' q' c' l')) (h : rr b e (d + 1) 340 52 [(0, .ref 49)] [.int v] g' q' c' l' R) : rr b e (d + 1) 340 38 [(0, .ref 49)] [] g q c l R := by
  obtain ⟨f1, hc⟩ := hc
  obtain ⟨f2, h⟩ := h
  obtain ⟨f, hf1, hf2⟩ : ∃ f, f1 ≤ f ∧ f2 ≤ f := ⟨max f1 f2, Nat.le_max_left _ _, Nat.le_max_right _ _⟩
  have hc := nrun_fuel f1 f _ _ _ _ _ _ _ _ _ hf1 hc
  have h := nrun_fuel f2 f _ _ _ _ _ _ _ _ _ hf2 h
  refine ⟨f + 8, ?_⟩
  obtain ⟨y, cb, hj⟩ := mq_340
  rw [n_step (st' := [.ref 49]) (pc' := 39) (lv' := [(0, .ref 49)]) (hp' := rH e g q c l) (i := .aload_n 0) (len := 1) rfl hj rfl rfl rfl]
  rw [n_step (st' := [.ref 49, .ref 49]) (pc' := 40) (lv' := [(0, .ref 49)]) (hp' := rH e g q c l) (i := .aload_n 0) (len := 1) rfl hj rfl rfl rfl]
  rw [n_get (st' := [.int (g 24), .ref 49]) (pc' := 43) (lv' := [(0, .ref 49)]) (hp' := rH e g q c l) (i := .getfield 353) (len := 3) rfl hj rfl rfl rfl rfl]
  rw [n_step (st' := [.int (Int32.ofInt (1)), .int (g 24), .ref 49]) (pc' := 44) (lv' := [(0, .ref 49)]) (hp' := rH e g q c l) (i := .iconst 1) (len := 1) rfl hj rfl rfl rfl]
  rw [n_step (st' := [.int ((g 24) + (Int32.ofInt (1))), .ref 49]) (pc' := 45) (lv' := [(0, .ref 49)]) (hp' := rH e g q c l) (i := .iadd) (len := 1) rfl hj rfl rfl rfl]
  rw [n_put (st' := []) (hp' := rH e (upd g 24 (((g 24) + (Int32.ofInt (1))))) q c l) rfl hj pf_24]
  rw [n_step (st' := [.ref 49]) (pc' := 49) (lv' := [(0, .ref 49)]) (hp' := rH e (upd g 24 (((g 24) + (Int32.ofInt (1))))) q c l) (i := .aload_n 0) (len := 1) rfl hj rfl rfl rfl]
  obtain ⟨y2, cb2, hj2⟩ := mq_337
  rw [n_call (f := f) (d := d) (ki := 0) (idx := 337) (j' := 337) (kd := 0) (M' := (y2, cb2, 1, some .boolean, 12, 0, 0, 0)) (avs := [.ref 49]) (r := []) (rv := some (.int v)) (hp1 := rH e g' q' c' l') rfl hj rfl rfl rfl rfl (rq_n rfl rfl hj2 rfl rfl) rfl hc (Nat.le_of_ble_eq_true rfl)]
  exact h
set_option maxRecDepth 100000 in
set_option maxHeartbeats 4000000 in
theorem bk_340_52 {b : Bool} {d : Nat} {t0 : Int32} {e : Nat → x_E} {g : Nat → Int32} {q : Nat → Int64} {c : Nat → Nat → Int32} {l : Nat → Nat → Int64} {R : Option Value × List x_E} (h1 : xCn .ne t0 0 = true → rr b e d 340 59 [] [] g q c l R) (h2 : ¬ xCn .ne t0 0 = true → rr b e d 340 55 [(0, .ref 49)] [] g q c l R) : rr b e d 340 52 [(0, .ref 49)] [.int t0] g q c l R := by
  have key : ∀ f, nrun xZ (xY (xfm b)) xDT (f + 1) d 340 52 [(0, .ref 49)] [.int t0] (rH e g q c l) 0 0 = nrun xZ (xY (xfm b)) xDT f d 340 (if xCn .ne t0 0 = true then 59 else 55) [(0, .ref 49)] [] (rH e g q c l) 0 0 := by
    intro f
    obtain ⟨y, cb, hj⟩ := mq_340
    rw [n_step (st' := []) (pc' := (if xCn .ne t0 0 = true then 59 else 55)) (lv' := [(0, .ref 49)]) (hp' := rH e g q c l) (i := .ifCond .ne 7) (len := 3) rfl hj rfl rfl rfl]
  by_cases hc : xCn .ne t0 0 = true
  · obtain ⟨f, h⟩ := h1 hc
    refine ⟨f + 1, ?_⟩
    rw [key, if_pos hc]
    exact nrun_ext f f _ _ R 340 59 [] [(0, .ref 49)] [] _ 0 0 122 (Nat.le_refl _) (Nat.le_refl _) (Nat.le_of_ble_eq_true rfl) (lvR_mk [] [0] rfl rfl (by decide) (by decide) (fun _ h => nomatch h) (List.forall_mem_cons.mpr ⟨Or.inr rfl, (fun _ h => nomatch h)⟩)) h
  · obtain ⟨f, h⟩ := h2 hc
    refine ⟨f + 1, ?_⟩
    rw [key, if_neg hc]
    exact h
set_option maxRecDepth 100000 in
set_option maxHeartbeats 4000000 in
theorem bk_340_55 {b : Bool} {d : Nat} {e : Nat → x_E} {g : Nat → Int32} {q : Nat → Int64} {c : Nat → Nat → Int32} {l : Nat → Nat → Int64} {g' : Nat → Int32} {q' : Nat → Int64} {c' : Nat → Nat → Int32} {l' : Nat → Nat → Int64} {R : Option Value × List x_E} (hc : rr b e d 322 0 [(0, .ref 49)] [] g q c l (none, rH e g' q' c' l')) (h : rr b e (d + 1) 340 59 [] [] g' q' c' l' R) : rr b e (d + 1) 340 55 [(0, .ref 49)] [] g q c l R := by
  obtain ⟨f1, hc⟩ := hc
  obtain ⟨f2, h⟩ := h
  obtain ⟨f, hf1, hf2⟩ : ∃ f, f1 ≤ f ∧ f2 ≤ f := ⟨max f1 f2, Nat.le_max_left _ _, Nat.le_max_right _ _⟩
  have hc := nrun_fuel f1 f _ _ _ _ _ _ _ _ _ hf1 hc
  have h := nrun_fuel f2 f _ _ _ _ _ _ _ _ _ hf2 h
  refine ⟨f + 2, ?_⟩
  obtain ⟨y, cb, hj⟩ := mq_340
  rw [n_step (st' := [.ref 49]) (pc' := 56) (lv' := [(0, .ref 49)]) (hp' := rH e g q c l) (i := .aload_n 0) (len := 1) rfl hj rfl rfl rfl]
  obtain ⟨y2, cb2, hj2⟩ := mq_322
  rw [n_call (f := f) (d := d) (ki := 0) (idx := 344) (j' := 322) (kd := 0) (M' := (y2, cb2, 2, none, 12, 0, 0, 0)) (avs := [.ref 49]) (r := []) (rv := none) (hp1 := rH e g' q' c' l') rfl hj rfl rfl rfl rfl (rq_n rfl rfl hj2 rfl rfl) rfl hc (Nat.le_of_ble_eq_true rfl)]
  exact nrun_ext f f _ _ R 340 59 [] [(0, .ref 49)] [] _ 0 0 122 (Nat.le_refl _) (Nat.le_refl _) (Nat.le_of_ble_eq_true rfl) (lvR_mk [] [0] rfl rfl (by decide) (by decide) (fun _ h => nomatch h) (List.forall_mem_cons.mpr ⟨Or.inr rfl, (fun _ h => nomatch h)⟩)) h
set_option maxRecDepth 100000 in
set_option maxHeartbeats 4000000 in
theorem bk_340_59 {b : Bool} {d : Nat} {e : Nat → x_E} {g : Nat → Int32} {q : Nat → Int64} {c : Nat → Nat → Int32} {l : Nat → Nat → Int64} : rr b e d 340 59 [] [] g q c l (none, rH e g q c l) := by
  refine ⟨0 + 1, ?_⟩
  obtain ⟨y, cb, hj⟩ := mq_340
  exact n_ret rfl hj rfl rfl rfl
set_option maxRecDepth 100000 in
set_option maxHeartbeats 4000000 in
theorem bk_341_0 {b : Bool} {d : Nat} {e : Nat → x_E} {g : Nat → Int32} {q : Nat → Int64} {c : Nat → Nat → Int32} {l : Nat → Nat → Int64} {g' : Nat → Int32} {q' : Nat → Int64} {c' : Nat → Nat → Int32} {l' : Nat → Nat → Int64} {v : Int32} {R : Option Value × List x_E} (hc : rr b e d 337 0 [(0, .ref 49)] [] (upd (upd g 27 ((g 16))) 28 (((upd g 27 ((g 16))) 11))) (updQ q 26 ((q 15))) c l (some (.int v), rH e g' q' c' l')) (h : rr b e (d + 1) 341 28 [(0, .ref 49)] [.int v] g' q' c' l' R) : rr b e (d + 1) 341 0 [(0, .ref 49)] [] g q c l R := by
  obtain ⟨f1, hc⟩ := hc
  obtain ⟨f2, h⟩ := h
  obtain ⟨f, hf1, hf2⟩ : ∃ f, f1 ≤ f ∧ f2 ≤ f := ⟨max f1 f2, Nat.le_max_left _ _, Nat.le_max_right _ _⟩
  have hc := nrun_fuel f1 f _ _ _ _ _ _ _ _ _ hf1 hc
  have h := nrun_fuel f2 f _ _ _ _ _ _ _ _ _ hf2 h
  refine ⟨f + 14, ?_⟩
  obtain ⟨y, cb, hj⟩ := mq_341
  rw [n_step (st' := [.ref 49]) (pc' := 1) (lv' := [(0, .ref 49)]) (hp' := rH e g q c l) (i := .aload_n 0) (len := 1) rfl hj rfl rfl rfl]
  rw [n_step (st' := [.ref 49, .ref 49]) (pc' := 2) (lv' := [(0, .ref 49)]) (hp' := rH e g q c l) (i := .aload_n 0) (len := 1) rfl hj rfl rfl rfl]
  rw [n_get (st' := [.long (q 15), .ref 49]) (pc' := 5) (lv' := [(0, .ref 49)]) (hp' := rH e g q c l) (i := .getfield 292) (len := 3) rfl hj rfl rfl rfl rfl]
  rw [n_put (st' := []) (hp' := rH e g (updQ q 26 ((q 15))) c l) rfl hj pf_26]
  rw [n_step (st' := [.ref 49]) (pc' := 9) (lv' := [(0, .ref 49)]) (hp' := rH e g (updQ q 26 ((q 15))) c l) (i := .aload_n 0) (len := 1) rfl hj rfl rfl rfl]
  rw [n_step (st' := [.ref 49, .ref 49]) (pc' := 10) (lv' := [(0, .ref 49)]) (hp' := rH e g (updQ q 26 ((q 15))) c l) (i := .aload_n 0) (len := 1) rfl hj rfl rfl rfl]
  rw [n_get (st' := [.int (g 16), .ref 49]) (pc' := 13) (lv' := [(0, .ref 49)]) (hp' := rH e g (updQ q 26 ((q 15))) c l) (i := .getfield 296) (len := 3) rfl hj rfl rfl rfl rfl]
  rw [n_put (st' := []) (hp' := rH e (upd g 27 ((g 16))) (updQ q 26 ((q 15))) c l) rfl hj pf_27]
  rw [n_step (st' := [.ref 49]) (pc' := 17) (lv' := [(0, .ref 49)]) (hp' := rH e (upd g 27 ((g 16))) (updQ q 26 ((q 15))) c l) (i := .aload_n 0) (len := 1) rfl hj rfl rfl rfl]
  rw [n_step (st' := [.ref 49, .ref 49]) (pc' := 18) (lv' := [(0, .ref 49)]) (hp' := rH e (upd g 27 ((g 16))) (updQ q 26 ((q 15))) c l) (i := .aload_n 0) (len := 1) rfl hj rfl rfl rfl]
  rw [n_get (st' := [.int ((upd g 27 ((g 16))) 11), .ref 49]) (pc' := 21) (lv' := [(0, .ref 49)]) (hp' := rH e (upd g 27 ((g 16))) (updQ q 26 ((q 15))) c l) (i := .getfield 257) (len := 3) rfl hj rfl rfl rfl rfl]
  rw [n_put (st' := []) (hp' := rH e (upd (upd g 27 ((g 16))) 28 (((upd g 27 ((g 16))) 11))) (updQ q 26 ((q 15))) c l) rfl hj pf_28]
  rw [n_step (st' := [.ref 49]) (pc' := 25) (lv' := [(0, .ref 49)]) (hp' := rH e (upd (upd g 27 ((g 16))) 28 (((upd g 27 ((g 16))) 11))) (updQ q 26 ((q 15))) c l) (i := .aload_n 0) (len := 1) rfl hj rfl rfl rfl]
  obtain ⟨y2, cb2, hj2⟩ := mq_337
  rw [n_call (f := f) (d := d) (ki := 0) (idx := 337) (j' := 337) (kd := 0) (M' := (y2, cb2, 1, some .boolean, 12, 0, 0, 0)) (avs := [.ref 49]) (r := []) (rv := some (.int v)) (hp1 := rH e g' q' c' l') rfl hj rfl rfl rfl rfl (rq_n rfl rfl hj2 rfl rfl) rfl hc (Nat.le_of_ble_eq_true rfl)]
  exact h
set_option maxRecDepth 100000 in
set_option maxHeartbeats 4000000 in
theorem bk_341_28 {b : Bool} {d : Nat} {t0 : Int32} {e : Nat → x_E} {g : Nat → Int32} {q : Nat → Int64} {c : Nat → Nat → Int32} {l : Nat → Nat → Int64} {R : Option Value × List x_E} (h1 : xCn .eq t0 0 = true → rr b e d 341 32 [(0, .ref 49)] [] g q c l R) (h2 : ¬ xCn .eq t0 0 = true → rr b e d 341 31 [] [] g q c l R) : rr b e d 341 28 [(0, .ref 49)] [.int t0] g q c l R := by
  have key : ∀ f, nrun xZ (xY (xfm b)) xDT (f + 1) d 341 28 [(0, .ref 49)] [.int t0] (rH e g q c l) 0 0 = nrun xZ (xY (xfm b)) xDT f d 341 (if xCn .eq t0 0 = true then 32 else 31) [(0, .ref 49)] [] (rH e g q c l) 0 0 := by
    intro f
    obtain ⟨y, cb, hj⟩ := mq_341
    rw [n_step (st' := []) (pc' := (if xCn .eq t0 0 = true then 32 else 31)) (lv' := [(0, .ref 49)]) (hp' := rH e g q c l) (i := .ifCond .eq 4) (len := 3) rfl hj rfl rfl rfl]
  by_cases hc : xCn .eq t0 0 = true
  · obtain ⟨f, h⟩ := h1 hc
    refine ⟨f + 1, ?_⟩
    rw [key, if_pos hc]
    exact h
  · obtain ⟨f, h⟩ := h2 hc
    refine ⟨f + 1, ?_⟩
    rw [key, if_neg hc]
    exact nrun_ext f f _ _ R 341 31 [] [(0, .ref 49)] [] _ 0 0 122 (Nat.le_refl _) (Nat.le_refl _) (Nat.le_of_ble_eq_true rfl) (lvR_mk [] [0] rfl rfl (by decide) (by decide) (fun _ h => nomatch h) (List.forall_mem_cons.mpr ⟨Or.inr rfl, (fun _ h => nomatch h)⟩)) h
set_option maxRecDepth 100000 in
set_option maxHeartbeats 4000000 in
theorem bk_341_31 {b : Bool} {d : Nat} {e : Nat → x_E} {g : Nat → Int32} {q : Nat → Int64} {c : Nat → Nat → Int32} {l : Nat → Nat → Int64} : rr b e d 341 31 [] [] g q c l (none, rH e g q c l) := by
  refine ⟨0 + 1, ?_⟩
  obtain ⟨y, cb, hj⟩ := mq_341
  exact n_ret rfl hj rfl rfl rfl
set_option maxRecDepth 100000 in
set_option maxHeartbeats 4000000 in
theorem bk_341_32 {b : Bool} {d : Nat} {e : Nat → x_E} {g : Nat → Int32} {q : Nat → Int64} {c : Nat → Nat → Int32} {l : Nat → Nat → Int64} {R : Option Value × List x_E} (h1 : xCn .ne ((g 10)) ((Int32.ofInt (1))) = true → rr b e d 341 47 [(0, .ref 49)] [] g q c l R) (h2 : ¬ xCn .ne ((g 10)) ((Int32.ofInt (1))) = true → rr b e d 341 40 [(0, .ref 49)] [] g q c l R) : rr b e d 341 32 [(0, .ref 49)] [] g q c l R := by
  have key : ∀ f, nrun xZ (xY (xfm b)) xDT (f + 4) d 341 32 [(0, .ref 49)] [] (rH e g q c l) 0 0 = nrun xZ (xY (xfm b)) xDT f d 341 (if xCn .ne ((g 10)) ((Int32.ofInt (1))) = true then 47 else 40) [(0, .ref 49)] [] (rH e g q c l) 0 0 := by
    intro f
    obtain ⟨y, cb, hj⟩ := mq_341
    rw [n_step (st' := [.ref 49]) (pc' := 33) (lv' := [(0, .ref 49)]) (hp' := rH e g q c l) (i := .aload_n 0) (len := 1) rfl hj rfl rfl rfl]
    rw [n_get (st' := [.int (g 10)]) (pc' := 36) (lv' := [(0, .ref 49)]) (hp' := rH e g q c l) (i := .getfield 273) (len := 3) rfl hj rfl rfl rfl rfl]
    rw [n_step (st' := [.int (Int32.ofInt (1)), .int (g 10)]) (pc' := 37) (lv' := [(0, .ref 49)]) (hp' := rH e g q c l) (i := .iconst 1) (len := 1) rfl hj rfl rfl rfl]
    rw [n_step (st' := []) (pc' := (if xCn .ne ((g 10)) ((Int32.ofInt (1))) = true then 47 else 40)) (lv' := [(0, .ref 49)]) (hp' := rH e g q c l) (i := .if_icmp .ne 10) (len := 3) rfl hj rfl rfl rfl]
  by_cases hc : xCn .ne ((g 10)) ((Int32.ofInt (1))) = true
  · obtain ⟨f, h⟩ := h1 hc
    refine ⟨f + 4, ?_⟩
    rw [key, if_pos hc]
    exact h
  · obtain ⟨f, h⟩ := h2 hc
    refine ⟨f + 4, ?_⟩
    rw [key, if_neg hc]
    exact h
set_option maxRecDepth 100000 in
set_option maxHeartbeats 4000000 in
theorem bk_341_40 {b : Bool} {d : Nat} {e : Nat → x_E} {g : Nat → Int32} {q : Nat → Int64} {c : Nat → Nat → Int32} {l : Nat → Nat → Int64} {g' : Nat → Int32} {q' : Nat → Int64} {c' : Nat → Nat → Int32} {l' : Nat → Nat → Int64} {R : Option Value × List x_E} (hc : rr b e d 322 0 [(0, .ref 49)] [] g q c l (none, rH e g' q' c' l')) (h : rr b e (d + 1) 341 44 [] [] g' q' c' l' R) : rr b e (d + 1) 341 40 [(0, .ref 49)] [] g q c l R := by
  obtain ⟨f1, hc⟩ := hc
  obtain ⟨f2, h⟩ := h
  obtain ⟨f, hf1, hf2⟩ : ∃ f, f1 ≤ f ∧ f2 ≤ f := ⟨max f1 f2, Nat.le_max_left _ _, Nat.le_max_right _ _⟩
  have hc := nrun_fuel f1 f _ _ _ _ _ _ _ _ _ hf1 hc
  have h := nrun_fuel f2 f _ _ _ _ _ _ _ _ _ hf2 h
  refine ⟨f + 2, ?_⟩
  obtain ⟨y, cb, hj⟩ := mq_341
  rw [n_step (st' := [.ref 49]) (pc' := 41) (lv' := [(0, .ref 49)]) (hp' := rH e g q c l) (i := .aload_n 0) (len := 1) rfl hj rfl rfl rfl]
  obtain ⟨y2, cb2, hj2⟩ := mq_322
  rw [n_call (f := f) (d := d) (ki := 0) (idx := 344) (j' := 322) (kd := 0) (M' := (y2, cb2, 2, none, 12, 0, 0, 0)) (avs := [.ref 49]) (r := []) (rv := none) (hp1 := rH e g' q' c' l') rfl hj rfl rfl rfl rfl (rq_n rfl rfl hj2 rfl rfl) rfl hc (Nat.le_of_ble_eq_true rfl)]
  exact nrun_ext f f _ _ R 341 44 [] [(0, .ref 49)] [] _ 0 0 122 (Nat.le_refl _) (Nat.le_refl _) (Nat.le_of_ble_eq_true rfl) (lvR_mk [] [0] rfl rfl (by decide) (by decide) (fun _ h => nomatch h) (List.forall_mem_cons.mpr ⟨Or.inr rfl, (fun _ h => nomatch h)⟩)) h
set_option maxRecDepth 100000 in
set_option maxHeartbeats 4000000 in
theorem bk_341_44 {b : Bool} {d : Nat} {e : Nat → x_E} {g : Nat → Int32} {q : Nat → Int64} {c : Nat → Nat → Int32} {l : Nat → Nat → Int64} {R : Option Value × List x_E} (h : rr b e d 341 51 [] [] g q c l R) : rr b e d 341 44 [] [] g q c l R := by
  obtain ⟨f, h⟩ := h
  refine ⟨f + 1, ?_⟩
  obtain ⟨y, cb, hj⟩ := mq_341
  rw [n_step (st' := []) (pc' := 51) (lv' := []) (hp' := rH e g q c l) (i := .goto 7) (len := 3) rfl hj rfl rfl rfl]
  exact h
set_option maxRecDepth 100000 in
set_option maxHeartbeats 4000000 in
theorem bk_341_47 {b : Bool} {d : Nat} {e : Nat → x_E} {g : Nat → Int32} {q : Nat → Int64} {c : Nat → Nat → Int32} {l : Nat → Nat → Int64} {g' : Nat → Int32} {q' : Nat → Int64} {c' : Nat → Nat → Int32} {l' : Nat → Nat → Int64} {R : Option Value × List x_E} (hc : rr b e d 342 0 [(0, .ref 49)] [] g q c l (none, rH e g' q' c' l')) (h : rr b e (d + 1) 341 51 [] [] g' q' c' l' R) : rr b e (d + 1) 341 47 [(0, .ref 49)] [] g q c l R := by
  obtain ⟨f1, hc⟩ := hc
  obtain ⟨f2, h⟩ := h
  obtain ⟨f, hf1, hf2⟩ : ∃ f, f1 ≤ f ∧ f2 ≤ f := ⟨max f1 f2, Nat.le_max_left _ _, Nat.le_max_right _ _⟩
  have hc := nrun_fuel f1 f _ _ _ _ _ _ _ _ _ hf1 hc
  have h := nrun_fuel f2 f _ _ _ _ _ _ _ _ _ hf2 h
  refine ⟨f + 2, ?_⟩
  obtain ⟨y, cb, hj⟩ := mq_341
  rw [n_step (st' := [.ref 49]) (pc' := 48) (lv' := [(0, .ref 49)]) (hp' := rH e g q c l) (i := .aload_n 0) (len := 1) rfl hj rfl rfl rfl]
  obtain ⟨y2, cb2, hj2⟩ := mq_342
  rw [n_call (f := f) (d := d) (ki := 0) (idx := 347) (j' := 342) (kd := 0) (M' := (y2, cb2, 1, none, 12, 0, 0, 0)) (avs := [.ref 49]) (r := []) (rv := none) (hp1 := rH e g' q' c' l') rfl hj rfl rfl rfl rfl (rq_n rfl rfl hj2 rfl rfl) rfl hc (Nat.le_of_ble_eq_true rfl)]
  exact nrun_ext f f _ _ R 341 51 [] [(0, .ref 49)] [] _ 0 0 122 (Nat.le_refl _) (Nat.le_refl _) (Nat.le_of_ble_eq_true rfl) (lvR_mk [] [0] rfl rfl (by decide) (by decide) (fun _ h => nomatch h) (List.forall_mem_cons.mpr ⟨Or.inr rfl, (fun _ h => nomatch h)⟩)) h
set_option maxRecDepth 100000 in
set_option maxHeartbeats 4000000 in
theorem bk_341_51 {b : Bool} {d : Nat} {e : Nat → x_E} {g : Nat → Int32} {q : Nat → Int64} {c : Nat → Nat → Int32} {l : Nat → Nat → Int64} : rr b e d 341 51 [] [] g q c l (none, rH e g q c l) := by
  refine ⟨0 + 1, ?_⟩
  obtain ⟨y, cb, hj⟩ := mq_341
  exact n_ret rfl hj rfl rfl rfl
set_option maxRecDepth 100000 in
set_option maxHeartbeats 4000000 in
theorem bk_342_0 {b : Bool} {d : Nat} {e : Nat → x_E} {g : Nat → Int32} {q : Nat → Int64} {c : Nat → Nat → Int32} {l : Nat → Nat → Int64} {g' : Nat → Int32} {q' : Nat → Int64} {c' : Nat → Nat → Int32} {l' : Nat → Nat → Int64} {R : Option Value × List x_E} (hc : rr b e d 323 0 [(0, .ref 49), (1, .int (Int32.ofInt (1))), (2, .int (g 11))] [] g q c l (none, rH e g' q' c' l')) (h : rr b e (d + 1) 342 9 [] [] g' q' c' l' R) : rr b e (d + 1) 342 0 [(0, .ref 49)] [] g q c l R := by
  obtain ⟨f1, hc⟩ := hc
  obtain ⟨f2, h⟩ := h
  obtain ⟨f, hf1, hf2⟩ : ∃ f, f1 ≤ f ∧ f2 ≤ f := ⟨max f1 f2, Nat.le_max_left _ _, Nat.le_max_right _ _⟩
  have hc := nrun_fuel f1 f _ _ _ _ _ _ _ _ _ hf1 hc
  have h := nrun_fuel f2 f _ _ _ _ _ _ _ _ _ hf2 h
  refine ⟨f + 5, ?_⟩
  obtain ⟨y, cb, hj⟩ := mq_342
  rw [n_step (st' := [.ref 49]) (pc' := 1) (lv' := [(0, .ref 49)]) (hp' := rH e g q c l) (i := .aload_n 0) (len := 1) rfl hj rfl rfl rfl]
  rw [n_step (st' := [.int (Int32.ofInt (1)), .ref 49]) (pc' := 2) (lv' := [(0, .ref 49)]) (hp' := rH e g q c l) (i := .iconst 1) (len := 1) rfl hj rfl rfl rfl]
  rw [n_step (st' := [.ref 49, .int (Int32.ofInt (1)), .ref 49]) (pc' := 3) (lv' := [(0, .ref 49)]) (hp' := rH e g q c l) (i := .aload_n 0) (len := 1) rfl hj rfl rfl rfl]
  rw [n_get (st' := [.int (g 11), .int (Int32.ofInt (1)), .ref 49]) (pc' := 6) (lv' := [(0, .ref 49)]) (hp' := rH e g q c l) (i := .getfield 257) (len := 3) rfl hj rfl rfl rfl rfl]
  obtain ⟨y2, cb2, hj2⟩ := mq_323
  rw [n_call (f := f) (d := d) (ki := 0) (idx := 260) (j' := 323) (kd := 0) (M' := (y2, cb2, 3, none, 12, 2, 0, 0)) (avs := [.ref 49, .int (Int32.ofInt (1)), .int (g 11)]) (r := []) (rv := none) (hp1 := rH e g' q' c' l') rfl hj rfl rfl rfl rfl (rq_n rfl rfl hj2 rfl rfl) rfl hc (Nat.le_of_ble_eq_true rfl)]
  exact nrun_ext f f _ _ R 342 9 [] [(0, .ref 49)] [] _ 0 0 122 (Nat.le_refl _) (Nat.le_refl _) (Nat.le_of_ble_eq_true rfl) (lvR_mk [] [0] rfl rfl (by decide) (by decide) (fun _ h => nomatch h) (List.forall_mem_cons.mpr ⟨Or.inr rfl, (fun _ h => nomatch h)⟩)) h
set_option maxRecDepth 100000 in
set_option maxHeartbeats 4000000 in
theorem bk_342_9 {b : Bool} {d : Nat} {e : Nat → x_E} {g : Nat → Int32} {q : Nat → Int64} {c : Nat → Nat → Int32} {l : Nat → Nat → Int64} : rr b e d 342 9 [] [] g q c l (none, rH e g q c l) := by
  refine ⟨0 + 1, ?_⟩
  obtain ⟨y, cb, hj⟩ := mq_342
  exact n_ret rfl hj rfl rfl rfl
set_option maxRecDepth 100000 in
set_option maxHeartbeats 4000000 in
theorem bk_343_0 {b : Bool} {d : Nat} {x1 : Int32} {e : Nat → x_E} {g : Nat → Int32} {q : Nat → Int64} {c : Nat → Nat → Int32} {l : Nat → Nat → Int64} {g' : Nat → Int32} {q' : Nat → Int64} {c' : Nat → Nat → Int32} {l' : Nat → Nat → Int64} {v : Int32} {R : Option Value × List x_E} (hc : rr b e d 337 0 [(0, .ref 49)] [] g q c l (some (.int v), rH e g' q' c' l')) (h : rr b e (d + 1) 343 4 [(0, .ref 49), (1, .int x1)] [.int v] g' q' c' l' R) : rr b e (d + 1) 343 0 [(0, .ref 49), (1, .int x1)] [] g q c l R := by
  obtain ⟨f1, hc⟩ := hc
  obtain ⟨f2, h⟩ := h
  obtain ⟨f, hf1, hf2⟩ : ∃ f, f1 ≤ f ∧ f2 ≤ f := ⟨max f1 f2, Nat.le_max_left _ _, Nat.le_max_right _ _⟩
  have hc := nrun_fuel f1 f _ _ _ _ _ _ _ _ _ hf1 hc
  have h := nrun_fuel f2 f _ _ _ _ _ _ _ _ _ hf2 h
  refine ⟨f + 2, ?_⟩
  obtain ⟨y, cb, hj⟩ := mq_343
  rw [n_step (st' := [.ref 49]) (pc' := 1) (lv' := [(0, .ref 49), (1, .int x1)]) (hp' := rH e g q c l) (i := .aload_n 0) (len := 1) rfl hj rfl rfl rfl]
  obtain ⟨y2, cb2, hj2⟩ := mq_337
  rw [n_call (f := f) (d := d) (ki := 0) (idx := 337) (j' := 337) (kd := 0) (M' := (y2, cb2, 1, some .boolean, 12, 0, 0, 0)) (avs := [.ref 49]) (r := []) (rv := some (.int v)) (hp1 := rH e g' q' c' l') rfl hj rfl rfl rfl rfl (rq_n rfl rfl hj2 rfl rfl) rfl hc (Nat.le_of_ble_eq_true rfl)]
  exact h
set_option maxRecDepth 100000 in
set_option maxHeartbeats 4000000 in
theorem bk_343_4 {b : Bool} {d : Nat} {t0 x1 : Int32} {e : Nat → x_E} {g : Nat → Int32} {q : Nat → Int64} {c : Nat → Nat → Int32} {l : Nat → Nat → Int64} {R : Option Value × List x_E} (h1 : xCn .eq t0 0 = true → rr b e d 343 8 [(0, .ref 49), (1, .int x1)] [] g q c l R) (h2 : ¬ xCn .eq t0 0 = true → rr b e d 343 7 [] [] g q c l R) : rr b e d 343 4 [(0, .ref 49), (1, .int x1)] [.int t0] g q c l R := by
  have key : ∀ f, nrun xZ (xY (xfm b)) xDT (f + 1) d 343 4 [(0, .ref 49), (1, .int x1)] [.int t0] (rH e g q c l) 0 0 = nrun xZ (xY (xfm b)) xDT f d 343 (if xCn .eq t0 0 = true then 8 else 7) [(0, .ref 49), (1, .int x1)] [] (rH e g q c l) 0 0 := by
    intro f
    obtain ⟨y, cb, hj⟩ := mq_343
    rw [n_step (st' := []) (pc' := (if xCn .eq t0 0 = true then 8 else 7)) (lv' := [(0, .ref 49), (1, .int x1)]) (hp' := rH e g q c l) (i := .ifCond .eq 4) (len := 3) rfl hj rfl rfl rfl]
  by_cases hc : xCn .eq t0 0 = true
  · obtain ⟨f, h⟩ := h1 hc
    refine ⟨f + 1, ?_⟩
    rw [key, if_pos hc]
    exact h
  · obtain ⟨f, h⟩ := h2 hc
    refine ⟨f + 1, ?_⟩
    rw [key, if_neg hc]
    exact nrun_ext f f _ _ R 343 7 [] [(0, .ref 49), (1, .int x1)] [] _ 0 0 122 (Nat.le_refl _) (Nat.le_refl _) (Nat.le_of_ble_eq_true rfl) (lvR_mk [] [0, 1] rfl rfl (by decide) (by decide) (fun _ h => nomatch h) (List.forall_mem_cons.mpr ⟨Or.inr rfl, (List.forall_mem_cons.mpr ⟨Or.inr rfl, (fun _ h => nomatch h)⟩)⟩)) h
set_option maxRecDepth 100000 in
set_option maxHeartbeats 4000000 in
theorem bk_343_7 {b : Bool} {d : Nat} {e : Nat → x_E} {g : Nat → Int32} {q : Nat → Int64} {c : Nat → Nat → Int32} {l : Nat → Nat → Int64} : rr b e d 343 7 [] [] g q c l (none, rH e g q c l) := by
  refine ⟨0 + 1, ?_⟩
  obtain ⟨y, cb, hj⟩ := mq_343
  exact n_ret rfl hj rfl rfl rfl
set_option maxRecDepth 100000 in
set_option maxHeartbeats 4000000 in
theorem bk_343_8 {b : Bool} {d : Nat} {x1 : Int32} {e : Nat → x_E} {g : Nat → Int32} {q : Nat → Int64} {c : Nat → Nat → Int32} {l : Nat → Nat → Int64} {g' : Nat → Int32} {q' : Nat → Int64} {c' : Nat → Nat → Int32} {l' : Nat → Nat → Int64} {v : Int32} {R : Option Value × List x_E} (hc : rr b e d 344 0 [(0, .ref 49), (1, .int x1)] [] g q c l (some (.int v), rH e g' q' c' l')) (h : rr b e (d + 1) 343 13 [(0, .ref 49)] [.int v] g' q' c' l' R) : rr b e (d + 1) 343 8 [(0, .ref 49), (1, .int x1)] [] g q c l R := by
  obtain ⟨f1, hc⟩ := hc
  obtain ⟨f2, h⟩ := h
  obtain ⟨f, hf1, hf2⟩ : ∃ f, f1 ≤ f ∧ f2 ≤ f := ⟨max f1 f2, Nat.le_max_left _ _, Nat.le_max_right _ _⟩
  have hc := nrun_fuel f1 f _ _ _ _ _ _ _ _ _ hf1 hc
  have h := nrun_fuel f2 f _ _ _ _ _ _ _ _ _ hf2 h
  refine ⟨f + 3, ?_⟩
  obtain ⟨y, cb, hj⟩ := mq_343
  rw [n_step (st' := [.ref 49]) (pc' := 9) (lv' := [(0, .ref 49), (1, .int x1)]) (hp' := rH e g q c l) (i := .aload_n 0) (len := 1) rfl hj rfl rfl rfl]
  rw [n_step (st' := [.int x1, .ref 49]) (pc' := 10) (lv' := [(0, .ref 49), (1, .int x1)]) (hp' := rH e g q c l) (i := .iload_n 1) (len := 1) rfl hj rfl rfl rfl]
  obtain ⟨y2, cb2, hj2⟩ := mq_344
  rw [n_call (f := f) (d := d) (ki := 0) (idx := 341) (j' := 344) (kd := 0) (M' := (y2, cb2, 2, some .boolean, 12, 1, 0, 0)) (avs := [.ref 49, .int x1]) (r := []) (rv := some (.int v)) (hp1 := rH e g' q' c' l') rfl hj rfl rfl rfl rfl (rq_n rfl rfl hj2 rfl rfl) rfl hc (Nat.le_of_ble_eq_true rfl)]
  exact nrun_ext f f _ _ R 343 13 [(0, .ref 49)] [(0, .ref 49), (1, .int x1)] [.int v] _ 0 0 122 (Nat.le_refl _) (Nat.le_refl _) (Nat.le_of_ble_eq_true rfl) (lvR_mk [0] [0, 1] rfl rfl (by decide) (by decide) (List.forall_mem_cons.mpr ⟨List.mem_cons_self, (fun _ h => nomatch h)⟩) (List.forall_mem_cons.mpr ⟨Or.inl List.mem_cons_self, (List.forall_mem_cons.mpr ⟨Or.inr rfl, (fun _ h => nomatch h)⟩)⟩)) h
set_option maxRecDepth 100000 in
set_option maxHeartbeats 4000000 in
theorem bk_343_13 {b : Bool} {d : Nat} {t0 : Int32} {e : Nat → x_E} {g : Nat → Int32} {q : Nat → Int64} {c : Nat → Nat → Int32} {l : Nat → Nat → Int64} {R : Option Value × List x_E} (h1 : xCn .eq t0 0 = true → rr b e d 343 23 [(0, .ref 49)] [] g q c l R) (h2 : ¬ xCn .eq t0 0 = true → rr b e d 343 16 [(0, .ref 49)] [] g q c l R) : rr b e d 343 13 [(0, .ref 49)] [.int t0] g q c l R := by
  have key : ∀ f, nrun xZ (xY (xfm b)) xDT (f + 1) d 343 13 [(0, .ref 49)] [.int t0] (rH e g q c l) 0 0 = nrun xZ (xY (xfm b)) xDT f d 343 (if xCn .eq t0 0 = true then 23 else 16) [(0, .ref 49)] [] (rH e g q c l) 0 0 := by
    intro f
    obtain ⟨y, cb, hj⟩ := mq_343
    rw [n_step (st' := []) (pc' := (if xCn .eq t0 0 = true then 23 else 16)) (lv' := [(0, .ref 49)]) (hp' := rH e g q c l) (i := .ifCond .eq 10) (len := 3) rfl hj rfl rfl rfl]
  by_cases hc : xCn .eq t0 0 = true
  · obtain ⟨f, h⟩ := h1 hc
    refine ⟨f + 1, ?_⟩
    rw [key, if_pos hc]
    exact h
  · obtain ⟨f, h⟩ := h2 hc
    refine ⟨f + 1, ?_⟩
    rw [key, if_neg hc]
    exact h
set_option maxRecDepth 100000 in
set_option maxHeartbeats 4000000 in
theorem bk_343_16 {b : Bool} {d : Nat} {e : Nat → x_E} {g : Nat → Int32} {q : Nat → Int64} {c : Nat → Nat → Int32} {l : Nat → Nat → Int64} {g' : Nat → Int32} {q' : Nat → Int64} {c' : Nat → Nat → Int32} {l' : Nat → Nat → Int64} {R : Option Value × List x_E} (hc : rr b e d 322 0 [(0, .ref 49)] [] g q c l (none, rH e g' q' c' l')) (h : rr b e (d + 1) 343 20 [] [] g' q' c' l' R) : rr b e (d + 1) 343 16 [(0, .ref 49)] [] g q c l R := by
  obtain ⟨f1, hc⟩ := hc
  obtain ⟨f2, h⟩ := h
  obtain ⟨f, hf1, hf2⟩ : ∃ f, f1 ≤ f ∧ f2 ≤ f := ⟨max f1 f2, Nat.le_max_left _ _, Nat.le_max_right _ _⟩
  have hc := nrun_fuel f1 f _ _ _ _ _ _ _ _ _ hf1 hc
  have h := nrun_fuel f2 f _ _ _ _ _ _ _ _ _ hf2 h
  refine ⟨f + 2, ?_⟩
  obtain ⟨y, cb, hj⟩ := mq_343
  rw [n_step (st' := [.ref 49]) (pc' := 17) (lv' := [(0, .ref 49)]) (hp' := rH e g q c l) (i := .aload_n 0) (len := 1) rfl hj rfl rfl rfl]
  obtain ⟨y2, cb2, hj2⟩ := mq_322
  rw [n_call (f := f) (d := d) (ki := 0) (idx := 344) (j' := 322) (kd := 0) (M' := (y2, cb2, 2, none, 12, 0, 0, 0)) (avs := [.ref 49]) (r := []) (rv := none) (hp1 := rH e g' q' c' l') rfl hj rfl rfl rfl rfl (rq_n rfl rfl hj2 rfl rfl) rfl hc (Nat.le_of_ble_eq_true rfl)]
  exact nrun_ext f f _ _ R 343 20 [] [(0, .ref 49)] [] _ 0 0 122 (Nat.le_refl _) (Nat.le_refl _) (Nat.le_of_ble_eq_true rfl) (lvR_mk [] [0] rfl rfl (by decide) (by decide) (fun _ h => nomatch h) (List.forall_mem_cons.mpr ⟨Or.inr rfl, (fun _ h => nomatch h)⟩)) h
set_option maxRecDepth 100000 in
set_option maxHeartbeats 4000000 in
theorem bk_343_20 {b : Bool} {d : Nat} {e : Nat → x_E} {g : Nat → Int32} {q : Nat → Int64} {c : Nat → Nat → Int32} {l : Nat → Nat → Int64} {R : Option Value × List x_E} (h : rr b e d 343 27 [] [] g q c l R) : rr b e d 343 20 [] [] g q c l R := by
  obtain ⟨f, h⟩ := h
  refine ⟨f + 1, ?_⟩
  obtain ⟨y, cb, hj⟩ := mq_343
  rw [n_step (st' := []) (pc' := 27) (lv' := []) (hp' := rH e g q c l) (i := .goto 7) (len := 3) rfl hj rfl rfl rfl]
  exact h
set_option maxRecDepth 100000 in
set_option maxHeartbeats 4000000 in
theorem bk_343_23 {b : Bool} {d : Nat} {e : Nat → x_E} {g : Nat → Int32} {q : Nat → Int64} {c : Nat → Nat → Int32} {l : Nat → Nat → Int64} {g' : Nat → Int32} {q' : Nat → Int64} {c' : Nat → Nat → Int32} {l' : Nat → Nat → Int64} {R : Option Value × List x_E} (hc : rr b e d 342 0 [(0, .ref 49)] [] g q c l (none, rH e g' q' c' l')) (h : rr b e (d + 1) 343 27 [] [] g' q' c' l' R) : rr b e (d + 1) 343 23 [(0, .ref 49)] [] g q c l R := by
  obtain ⟨f1, hc⟩ := hc
  obtain ⟨f2, h⟩ := h
  obtain ⟨f, hf1, hf2⟩ : ∃ f, f1 ≤ f ∧ f2 ≤ f := ⟨max f1 f2, Nat.le_max_left _ _, Nat.le_max_right _ _⟩
  have hc := nrun_fuel f1 f _ _ _ _ _ _ _ _ _ hf1 hc
  have h := nrun_fuel f2 f _ _ _ _ _ _ _ _ _ hf2 h
  refine ⟨f + 2, ?_⟩
  obtain ⟨y, cb, hj⟩ := mq_343
  rw [n_step (st' := [.ref 49]) (pc' := 24) (lv' := [(0, .ref 49)]) (hp' := rH e g q c l) (i := .aload_n 0) (len := 1) rfl hj rfl rfl rfl]
  obtain ⟨y2, cb2, hj2⟩ := mq_342
  rw [n_call (f := f) (d := d) (ki := 0) (idx := 347) (j' := 342) (kd := 0) (M' := (y2, cb2, 1, none, 12, 0, 0, 0)) (avs := [.ref 49]) (r := []) (rv := none) (hp1 := rH e g' q' c' l') rfl hj rfl rfl rfl rfl (rq_n rfl rfl hj2 rfl rfl) rfl hc (Nat.le_of_ble_eq_true rfl)]
  exact nrun_ext f f _ _ R 343 27 [] [(0, .ref 49)] [] _ 0 0 122 (Nat.le_refl _) (Nat.le_refl _) (Nat.le_of_ble_eq_true rfl) (lvR_mk [] [0] rfl rfl (by decide) (by decide) (fun _ h => nomatch h) (List.forall_mem_cons.mpr ⟨Or.inr rfl, (fun _ h => nomatch h)⟩)) h
set_option maxRecDepth 100000 in
set_option maxHeartbeats 4000000 in
theorem bk_343_27 {b : Bool} {d : Nat} {e : Nat → x_E} {g : Nat → Int32} {q : Nat → Int64} {c : Nat → Nat → Int32} {l : Nat → Nat → Int64} : rr b e d 343 27 [] [] g q c l (none, rH e g q c l) := by
  refine ⟨0 + 1, ?_⟩
  obtain ⟨y, cb, hj⟩ := mq_343
  exact n_ret rfl hj rfl rfl rfl
set_option maxRecDepth 100000 in
set_option maxHeartbeats 4000000 in
theorem bk_344_0 {b : Bool} {d : Nat} {x1 : Int32} {e : Nat → x_E} {g : Nat → Int32} {q : Nat → Int64} {c : Nat → Nat → Int32} {l : Nat → Nat → Int64} {R : Option Value × List x_E} (h1 : xCn .ne ((g 10)) ((Int32.ofInt (3))) = true → rr b e d 344 20 [] [] g q c l R) (h2 : ¬ xCn .ne ((g 10)) ((Int32.ofInt (3))) = true → rr b e d 344 8 [(0, .ref 49), (1, .int x1)] [] g q c l R) : rr b e d 344 0 [(0, .ref 49), (1, .int x1)] [] g q c l R := by
  have key : ∀ f, nrun xZ (xY (xfm b)) xDT (f + 4) d 344 0 [(0, .ref 49), (1, .int x1)] [] (rH e g q c l) 0 0 = nrun xZ (xY (xfm b)) xDT f d 344 (if xCn .ne ((g 10)) ((Int32.ofInt (3))) = true then 20 else 8) [(0, .ref 49), (1, .int x1)] [] (rH e g q c l) 0 0 := by
    intro f
    obtain ⟨y, cb, hj⟩ := mq_344
    rw [n_step (st' := [.ref 49]) (pc' := 1) (lv' := [(0, .ref 49), (1, .int x1)]) (hp' := rH e g q c l) (i := .aload_n 0) (len := 1) rfl hj rfl rfl rfl]
    rw [n_get (st' := [.int (g 10)]) (pc' := 4) (lv' := [(0, .ref 49), (1, .int x1)]) (hp' := rH e g q c l) (i := .getfield 273) (len := 3) rfl hj rfl rfl rfl rfl]
    rw [n_step (st' := [.int (Int32.ofInt (3)), .int (g 10)]) (pc' := 5) (lv' := [(0, .ref 49), (1, .int x1)]) (hp' := rH e g q c l) (i := .iconst 3) (len := 1) rfl hj rfl rfl rfl]
    rw [n_step (st' := []) (pc' := (if xCn .ne ((g 10)) ((Int32.ofInt (3))) = true then 20 else 8)) (lv' := [(0, .ref 49), (1, .int x1)]) (hp' := rH e g q c l) (i := .if_icmp .ne 15) (len := 3) rfl hj rfl rfl rfl]
  by_cases hc : xCn .ne ((g 10)) ((Int32.ofInt (3))) = true
  · obtain ⟨f, h⟩ := h1 hc
    refine ⟨f + 4, ?_⟩
    rw [key, if_pos hc]
    exact nrun_ext f f _ _ R 344 20 [] [(0, .ref 49), (1, .int x1)] [] _ 0 0 122 (Nat.le_refl _) (Nat.le_refl _) (Nat.le_of_ble_eq_true rfl) (lvR_mk [] [0, 1] rfl rfl (by decide) (by decide) (fun _ h => nomatch h) (List.forall_mem_cons.mpr ⟨Or.inr rfl, (List.forall_mem_cons.mpr ⟨Or.inr rfl, (fun _ h => nomatch h)⟩)⟩)) h
  · obtain ⟨f, h⟩ := h2 hc
    refine ⟨f + 4, ?_⟩
    rw [key, if_neg hc]
    exact h
set_option maxRecDepth 100000 in
set_option maxHeartbeats 4000000 in
theorem bk_344_8 {b : Bool} {d : Nat} {x1 : Int32} {e : Nat → x_E} {g : Nat → Int32} {q : Nat → Int64} {c : Nat → Nat → Int32} {l : Nat → Nat → Int64} {R : Option Value × List x_E} (h1 : xCn .ne ((g 13)) x1 = true → rr b e d 344 20 [] [] g q c l R) (h2 : ¬ xCn .ne ((g 13)) x1 = true → rr b e d 344 16 [] [] g q c l R) : rr b e d 344 8 [(0, .ref 49), (1, .int x1)] [] g q c l R := by
  have key : ∀ f, nrun xZ (xY (xfm b)) xDT (f + 4) d 344 8 [(0, .ref 49), (1, .int x1)] [] (rH e g q c l) 0 0 = nrun xZ (xY (xfm b)) xDT f d 344 (if xCn .ne ((g 13)) x1 = true then 20 else 16) [(0, .ref 49), (1, .int x1)] [] (rH e g q c l) 0 0 := by
    intro f
    obtain ⟨y, cb, hj⟩ := mq_344
    rw [n_step (st' := [.ref 49]) (pc' := 9) (lv' := [(0, .ref 49), (1, .int x1)]) (hp' := rH e g q c l) (i := .aload_n 0) (len := 1) rfl hj rfl rfl rfl]
    rw [n_get (st' := [.int (g 13)]) (pc' := 12) (lv' := [(0, .ref 49), (1, .int x1)]) (hp' := rH e g q c l) (i := .getfield 270) (len := 3) rfl hj rfl rfl rfl rfl]
    rw [n_step (st' := [.int x1, .int (g 13)]) (pc' := 13) (lv' := [(0, .ref 49), (1, .int x1)]) (hp' := rH e g q c l) (i := .iload_n 1) (len := 1) rfl hj rfl rfl rfl]
    rw [n_step (st' := []) (pc' := (if xCn .ne ((g 13)) x1 = true then 20 else 16)) (lv' := [(0, .ref 49), (1, .int x1)]) (hp' := rH e g q c l) (i := .if_icmp .ne 7) (len := 3) rfl hj rfl rfl rfl]
  by_cases hc : xCn .ne ((g 13)) x1 = true
  · obtain ⟨f, h⟩ := h1 hc
    refine ⟨f + 4, ?_⟩
    rw [key, if_pos hc]
    exact nrun_ext f f _ _ R 344 20 [] [(0, .ref 49), (1, .int x1)] [] _ 0 0 122 (Nat.le_refl _) (Nat.le_refl _) (Nat.le_of_ble_eq_true rfl) (lvR_mk [] [0, 1] rfl rfl (by decide) (by decide) (fun _ h => nomatch h) (List.forall_mem_cons.mpr ⟨Or.inr rfl, (List.forall_mem_cons.mpr ⟨Or.inr rfl, (fun _ h => nomatch h)⟩)⟩)) h
  · obtain ⟨f, h⟩ := h2 hc
    refine ⟨f + 4, ?_⟩
    rw [key, if_neg hc]
    exact nrun_ext f f _ _ R 344 16 [] [(0, .ref 49), (1, .int x1)] [] _ 0 0 122 (Nat.le_refl _) (Nat.le_refl _) (Nat.le_of_ble_eq_true rfl) (lvR_mk [] [0, 1] rfl rfl (by decide) (by decide) (fun _ h => nomatch h) (List.forall_mem_cons.mpr ⟨Or.inr rfl, (List.forall_mem_cons.mpr ⟨Or.inr rfl, (fun _ h => nomatch h)⟩)⟩)) h
set_option maxRecDepth 100000 in
set_option maxHeartbeats 4000000 in
theorem bk_344_16 {b : Bool} {d : Nat} {e : Nat → x_E} {g : Nat → Int32} {q : Nat → Int64} {c : Nat → Nat → Int32} {l : Nat → Nat → Int64} {R : Option Value × List x_E} (h : rr b e d 344 21 [] [.int (Int32.ofInt (1))] g q c l R) : rr b e d 344 16 [] [] g q c l R := by
  obtain ⟨f, h⟩ := h
  refine ⟨f + 2, ?_⟩
  obtain ⟨y, cb, hj⟩ := mq_344
  rw [n_step (st' := [.int (Int32.ofInt (1))]) (pc' := 17) (lv' := []) (hp' := rH e g q c l) (i := .iconst 1) (len := 1) rfl hj rfl rfl rfl]
  rw [n_step (st' := [.int (Int32.ofInt (1))]) (pc' := 21) (lv' := []) (hp' := rH e g q c l) (i := .goto 4) (len := 3) rfl hj rfl rfl rfl]
  exact h
set_option maxRecDepth 100000 in
set_option maxHeartbeats 4000000 in
theorem bk_344_20 {b : Bool} {d : Nat} {e : Nat → x_E} {g : Nat → Int32} {q : Nat → Int64} {c : Nat → Nat → Int32} {l : Nat → Nat → Int64} {R : Option Value × List x_E} (h : rr b e d 344 21 [] [.int (Int32.ofInt (0))] g q c l R) : rr b e d 344 20 [] [] g q c l R := by
  obtain ⟨f, h⟩ := h
  refine ⟨f + 1, ?_⟩
  obtain ⟨y, cb, hj⟩ := mq_344
  rw [n_step (st' := [.int (Int32.ofInt (0))]) (pc' := 21) (lv' := []) (hp' := rH e g q c l) (i := .iconst 0) (len := 1) rfl hj rfl rfl rfl]
  exact h
set_option maxRecDepth 100000 in
set_option maxHeartbeats 4000000 in
theorem bk_344_21 {b : Bool} {d : Nat} {t0 : Int32} {e : Nat → x_E} {g : Nat → Int32} {q : Nat → Int64} {c : Nat → Nat → Int32} {l : Nat → Nat → Int64} (hv : t0 = 0 ∨ t0 = 1) : rr b e d 344 21 [] [.int t0] g q c l (some (.int t0), rH e g q c l) := by
  refine ⟨0 + 1, ?_⟩
  obtain ⟨y, cb, hj⟩ := mq_344
  exact n_ret rfl hj rfl rfl (x_ret (nb_01 hv))
set_option maxRecDepth 100000 in
set_option maxHeartbeats 4000000 in
theorem bk_351_0 {b : Bool} {d : Nat} {e : Nat → x_E} {g : Nat → Int32} {q : Nat → Int64} {c : Nat → Nat → Int32} {l : Nat → Nat → Int64} : rr b e d 351 0 [(0, .ref 49)] [] g q c l (none, rH e (upd g 24 (((g 24) - (Int32.ofInt (1))))) q c l) := by
  refine ⟨0 + 7, ?_⟩
  obtain ⟨y, cb, hj⟩ := mq_351
  rw [n_step (st' := [.ref 49]) (pc' := 1) (lv' := [(0, .ref 49)]) (hp' := rH e g q c l) (i := .aload_n 0) (len := 1) rfl hj rfl rfl rfl]
  rw [n_step (st' := [.ref 49, .ref 49]) (pc' := 2) (lv' := [(0, .ref 49)]) (hp' := rH e g q c l) (i := .aload_n 0) (len := 1) rfl hj rfl rfl rfl]
  rw [n_get (st' := [.int (g 24), .ref 49]) (pc' := 5) (lv' := [(0, .ref 49)]) (hp' := rH e g q c l) (i := .getfield 353) (len := 3) rfl hj rfl rfl rfl rfl]
  rw [n_step (st' := [.int (Int32.ofInt (1)), .int (g 24), .ref 49]) (pc' := 6) (lv' := [(0, .ref 49)]) (hp' := rH e g q c l) (i := .iconst 1) (len := 1) rfl hj rfl rfl rfl]
  rw [n_step (st' := [.int ((g 24) - (Int32.ofInt (1))), .ref 49]) (pc' := 7) (lv' := [(0, .ref 49)]) (hp' := rH e g q c l) (i := .isub) (len := 1) rfl hj rfl rfl rfl]
  rw [n_put (st' := []) (hp' := rH e (upd g 24 (((g 24) - (Int32.ofInt (1))))) q c l) rfl hj pf_24]
  exact n_ret rfl hj rfl rfl rfl
set_option maxRecDepth 100000 in
set_option maxHeartbeats 4000000 in
theorem bk_352_0 {b : Bool} {d : Nat} {x1 : Int32} {e : Nat → x_E} {g : Nat → Int32} {q : Nat → Int64} {c : Nat → Nat → Int32} {l : Nat → Nat → Int64} {g' : Nat → Int32} {q' : Nat → Int64} {c' : Nat → Nat → Int32} {l' : Nat → Nat → Int64} {v : Int32} {R : Option Value × List x_E} (hc : rr b e d 337 0 [(0, .ref 49)] [] g q c l (some (.int v), rH e g' q' c' l')) (h : rr b e (d + 1) 352 4 [(0, .ref 49), (1, .int x1)] [.int v] g' q' c' l' R) : rr b e (d + 1) 352 0 [(0, .ref 49), (1, .int x1)] [] g q c l R := by
  obtain ⟨f1, hc⟩ := hc
  obtain ⟨f2, h⟩ := h
  obtain ⟨f, hf1, hf2⟩ : ∃ f, f1 ≤ f ∧ f2 ≤ f := ⟨max f1 f2, Nat.le_max_left _ _, Nat.le_max_right _ _⟩
  have hc := nrun_fuel f1 f _ _ _ _ _ _ _ _ _ hf1 hc
  have h := nrun_fuel f2 f _ _ _ _ _ _ _ _ _ hf2 h
  refine ⟨f + 2, ?_⟩
  obtain ⟨y, cb, hj⟩ := mq_352
  rw [n_step (st' := [.ref 49]) (pc' := 1) (lv' := [(0, .ref 49), (1, .int x1)]) (hp' := rH e g q c l) (i := .aload_n 0) (len := 1) rfl hj rfl rfl rfl]
  obtain ⟨y2, cb2, hj2⟩ := mq_337
  rw [n_call (f := f) (d := d) (ki := 0) (idx := 337) (j' := 337) (kd := 0) (M' := (y2, cb2, 1, some .boolean, 12, 0, 0, 0)) (avs := [.ref 49]) (r := []) (rv := some (.int v)) (hp1 := rH e g' q' c' l') rfl hj rfl rfl rfl rfl (rq_n rfl rfl hj2 rfl rfl) rfl hc (Nat.le_of_ble_eq_true rfl)]
  exact h
set_option maxRecDepth 100000 in
set_option maxHeartbeats 4000000 in
theorem bk_352_4 {b : Bool} {d : Nat} {t0 x1 : Int32} {e : Nat → x_E} {g : Nat → Int32} {q : Nat → Int64} {c : Nat → Nat → Int32} {l : Nat → Nat → Int64} {R : Option Value × List x_E} (h1 : xCn .ne t0 0 = true → rr b e d 352 15 [] [] g q c l R) (h2 : ¬ xCn .ne t0 0 = true → rr b e d 352 7 [(0, .ref 49), (1, .int x1)] [] g q c l R) : rr b e d 352 4 [(0, .ref 49), (1, .int x1)] [.int t0] g q c l R := by
  have key : ∀ f, nrun xZ (xY (xfm b)) xDT (f + 1) d 352 4 [(0, .ref 49), (1, .int x1)] [.int t0] (rH e g q c l) 0 0 = nrun xZ (xY (xfm b)) xDT f d 352 (if xCn .ne t0 0 = true then 15 else 7) [(0, .ref 49), (1, .int x1)] [] (rH e g q c l) 0 0 := by
    intro f
    obtain ⟨y, cb, hj⟩ := mq_352
    rw [n_step (st' := []) (pc' := (if xCn .ne t0 0 = true then 15 else 7)) (lv' := [(0, .ref 49), (1, .int x1)]) (hp' := rH e g q c l) (i := .ifCond .ne 11) (len := 3) rfl hj rfl rfl rfl]
  by_cases hc : xCn .ne t0 0 = true
  · obtain ⟨f, h⟩ := h1 hc
    refine ⟨f + 1, ?_⟩
    rw [key, if_pos hc]
    exact nrun_ext f f _ _ R 352 15 [] [(0, .ref 49), (1, .int x1)] [] _ 0 0 122 (Nat.le_refl _) (Nat.le_refl _) (Nat.le_of_ble_eq_true rfl) (lvR_mk [] [0, 1] rfl rfl (by decide) (by decide) (fun _ h => nomatch h) (List.forall_mem_cons.mpr ⟨Or.inr rfl, (List.forall_mem_cons.mpr ⟨Or.inr rfl, (fun _ h => nomatch h)⟩)⟩)) h
  · obtain ⟨f, h⟩ := h2 hc
    refine ⟨f + 1, ?_⟩
    rw [key, if_neg hc]
    exact h
set_option maxRecDepth 100000 in
set_option maxHeartbeats 4000000 in
theorem bk_352_7 {b : Bool} {d : Nat} {x1 : Int32} {e : Nat → x_E} {g : Nat → Int32} {q : Nat → Int64} {c : Nat → Nat → Int32} {l : Nat → Nat → Int64} {g' : Nat → Int32} {q' : Nat → Int64} {c' : Nat → Nat → Int32} {l' : Nat → Nat → Int64} {v : Int32} {R : Option Value × List x_E} (hc : rr b e d 344 0 [(0, .ref 49), (1, .int x1)] [] g q c l (some (.int v), rH e g' q' c' l')) (h : rr b e (d + 1) 352 12 [(0, .ref 49)] [.int v] g' q' c' l' R) : rr b e (d + 1) 352 7 [(0, .ref 49), (1, .int x1)] [] g q c l R := by
  obtain ⟨f1, hc⟩ := hc
  obtain ⟨f2, h⟩ := h
  obtain ⟨f, hf1, hf2⟩ : ∃ f, f1 ≤ f ∧ f2 ≤ f := ⟨max f1 f2, Nat.le_max_left _ _, Nat.le_max_right _ _⟩
  have hc := nrun_fuel f1 f _ _ _ _ _ _ _ _ _ hf1 hc
  have h := nrun_fuel f2 f _ _ _ _ _ _ _ _ _ hf2 h
  refine ⟨f + 3, ?_⟩
  obtain ⟨y, cb, hj⟩ := mq_352
  rw [n_step (st' := [.ref 49]) (pc' := 8) (lv' := [(0, .ref 49), (1, .int x1)]) (hp' := rH e g q c l) (i := .aload_n 0) (len := 1) rfl hj rfl rfl rfl]
  rw [n_step (st' := [.int x1, .ref 49]) (pc' := 9) (lv' := [(0, .ref 49), (1, .int x1)]) (hp' := rH e g q c l) (i := .iload_n 1) (len := 1) rfl hj rfl rfl rfl]
  obtain ⟨y2, cb2, hj2⟩ := mq_344
  rw [n_call (f := f) (d := d) (ki := 0) (idx := 341) (j' := 344) (kd := 0) (M' := (y2, cb2, 2, some .boolean, 12, 1, 0, 0)) (avs := [.ref 49, .int x1]) (r := []) (rv := some (.int v)) (hp1 := rH e g' q' c' l') rfl hj rfl rfl rfl rfl (rq_n rfl rfl hj2 rfl rfl) rfl hc (Nat.le_of_ble_eq_true rfl)]
  exact nrun_ext f f _ _ R 352 12 [(0, .ref 49)] [(0, .ref 49), (1, .int x1)] [.int v] _ 0 0 122 (Nat.le_refl _) (Nat.le_refl _) (Nat.le_of_ble_eq_true rfl) (lvR_mk [0] [0, 1] rfl rfl (by decide) (by decide) (List.forall_mem_cons.mpr ⟨List.mem_cons_self, (fun _ h => nomatch h)⟩) (List.forall_mem_cons.mpr ⟨Or.inl List.mem_cons_self, (List.forall_mem_cons.mpr ⟨Or.inr rfl, (fun _ h => nomatch h)⟩)⟩)) h
set_option maxRecDepth 100000 in
set_option maxHeartbeats 4000000 in
theorem bk_352_12 {b : Bool} {d : Nat} {t0 : Int32} {e : Nat → x_E} {g : Nat → Int32} {q : Nat → Int64} {c : Nat → Nat → Int32} {l : Nat → Nat → Int64} {R : Option Value × List x_E} (h1 : xCn .ne t0 0 = true → rr b e d 352 17 [(0, .ref 49)] [] g q c l R) (h2 : ¬ xCn .ne t0 0 = true → rr b e d 352 15 [] [] g q c l R) : rr b e d 352 12 [(0, .ref 49)] [.int t0] g q c l R := by
  have key : ∀ f, nrun xZ (xY (xfm b)) xDT (f + 1) d 352 12 [(0, .ref 49)] [.int t0] (rH e g q c l) 0 0 = nrun xZ (xY (xfm b)) xDT f d 352 (if xCn .ne t0 0 = true then 17 else 15) [(0, .ref 49)] [] (rH e g q c l) 0 0 := by
    intro f
    obtain ⟨y, cb, hj⟩ := mq_352
    rw [n_step (st' := []) (pc' := (if xCn .ne t0 0 = true then 17 else 15)) (lv' := [(0, .ref 49)]) (hp' := rH e g q c l) (i := .ifCond .ne 5) (len := 3) rfl hj rfl rfl rfl]
  by_cases hc : xCn .ne t0 0 = true
  · obtain ⟨f, h⟩ := h1 hc
    refine ⟨f + 1, ?_⟩
    rw [key, if_pos hc]
    exact h
  · obtain ⟨f, h⟩ := h2 hc
    refine ⟨f + 1, ?_⟩
    rw [key, if_neg hc]
    exact nrun_ext f f _ _ R 352 15 [] [(0, .ref 49)] [] _ 0 0 122 (Nat.le_refl _) (Nat.le_refl _) (Nat.le_of_ble_eq_true rfl) (lvR_mk [] [0] rfl rfl (by decide) (by decide) (fun _ h => nomatch h) (List.forall_mem_cons.mpr ⟨Or.inr rfl, (fun _ h => nomatch h)⟩)) h
set_option maxRecDepth 100000 in
set_option maxHeartbeats 4000000 in
theorem bk_352_15 {b : Bool} {d : Nat} {e : Nat → x_E} {g : Nat → Int32} {q : Nat → Int64} {c : Nat → Nat → Int32} {l : Nat → Nat → Int64} : rr b e d 352 15 [] [] g q c l (some (.int (Int32.ofInt (0))), rH e g q c l) := by
  refine ⟨0 + 2, ?_⟩
  obtain ⟨y, cb, hj⟩ := mq_352
  rw [n_step (st' := [.int (Int32.ofInt (0))]) (pc' := 16) (lv' := []) (hp' := rH e g q c l) (i := .iconst 0) (len := 1) rfl hj rfl rfl rfl]
  exact n_ret rfl hj rfl rfl (x_ret rfl)
set_option maxRecDepth 100000 in
set_option maxHeartbeats 4000000 in
theorem bk_352_17 {b : Bool} {d : Nat} {e : Nat → x_E} {g : Nat → Int32} {q : Nat → Int64} {c : Nat → Nat → Int32} {l : Nat → Nat → Int64} {g' : Nat → Int32} {q' : Nat → Int64} {c' : Nat → Nat → Int32} {l' : Nat → Nat → Int64} {R : Option Value × List x_E} (hc : rr b e d 322 0 [(0, .ref 49)] [] g q c l (none, rH e g' q' c' l')) (h : rr b e (d + 1) 352 21 [] [] g' q' c' l' R) : rr b e (d + 1) 352 17 [(0, .ref 49)] [] g q c l R := by
  obtain ⟨f1, hc⟩ := hc
  obtain ⟨f2, h⟩ := h
  obtain ⟨f, hf1, hf2⟩ : ∃ f, f1 ≤ f ∧ f2 ≤ f := ⟨max f1 f2, Nat.le_max_left _ _, Nat.le_max_right _ _⟩
  have hc := nrun_fuel f1 f _ _ _ _ _ _ _ _ _ hf1 hc
  have h := nrun_fuel f2 f _ _ _ _ _ _ _ _ _ hf2 h
  refine ⟨f + 2, ?_⟩
  obtain ⟨y, cb, hj⟩ := mq_352
  rw [n_step (st' := [.ref 49]) (pc' := 18) (lv' := [(0, .ref 49)]) (hp' := rH e g q c l) (i := .aload_n 0) (len := 1) rfl hj rfl rfl rfl]
  obtain ⟨y2, cb2, hj2⟩ := mq_322
  rw [n_call (f := f) (d := d) (ki := 0) (idx := 344) (j' := 322) (kd := 0) (M' := (y2, cb2, 2, none, 12, 0, 0, 0)) (avs := [.ref 49]) (r := []) (rv := none) (hp1 := rH e g' q' c' l') rfl hj rfl rfl rfl rfl (rq_n rfl rfl hj2 rfl rfl) rfl hc (Nat.le_of_ble_eq_true rfl)]
  exact nrun_ext f f _ _ R 352 21 [] [(0, .ref 49)] [] _ 0 0 122 (Nat.le_refl _) (Nat.le_refl _) (Nat.le_of_ble_eq_true rfl) (lvR_mk [] [0] rfl rfl (by decide) (by decide) (fun _ h => nomatch h) (List.forall_mem_cons.mpr ⟨Or.inr rfl, (fun _ h => nomatch h)⟩)) h
set_option maxRecDepth 100000 in
set_option maxHeartbeats 4000000 in
theorem bk_352_21 {b : Bool} {d : Nat} {e : Nat → x_E} {g : Nat → Int32} {q : Nat → Int64} {c : Nat → Nat → Int32} {l : Nat → Nat → Int64} : rr b e d 352 21 [] [] g q c l (some (.int (Int32.ofInt (1))), rH e g q c l) := by
  refine ⟨0 + 2, ?_⟩
  obtain ⟨y, cb, hj⟩ := mq_352
  rw [n_step (st' := [.int (Int32.ofInt (1))]) (pc' := 22) (lv' := []) (hp' := rH e g q c l) (i := .iconst 1) (len := 1) rfl hj rfl rfl rfl]
  exact n_ret rfl hj rfl rfl (x_ret rfl)
set_option maxRecDepth 100000 in
set_option maxHeartbeats 4000000 in
theorem bk_353_0 {b : Bool} {d : Nat} {x1 : Int32} {e : Nat → x_E} {g : Nat → Int32} {q : Nat → Int64} {c : Nat → Nat → Int32} {l : Nat → Nat → Int64} {g' : Nat → Int32} {q' : Nat → Int64} {c' : Nat → Nat → Int32} {l' : Nat → Nat → Int64} {R : Option Value × List x_E} (hc : rr b e d 343 0 [(0, .ref 49), (1, .int x1)] [] (upd g 24 (((g 24) - (Int32.ofInt (1))))) q c l (none, rH e g' q' c' l')) (h : rr b e (d + 1) 353 15 [] [] g' q' c' l' R) : rr b e (d + 1) 353 0 [(0, .ref 49), (1, .int x1)] [] g q c l R := by
  obtain ⟨f1, hc⟩ := hc
  obtain ⟨f2, h⟩ := h
  obtain ⟨f, hf1, hf2⟩ : ∃ f, f1 ≤ f ∧ f2 ≤ f := ⟨max f1 f2, Nat.le_max_left _ _, Nat.le_max_right _ _⟩
  have hc := nrun_fuel f1 f _ _ _ _ _ _ _ _ _ hf1 hc
  have h := nrun_fuel f2 f _ _ _ _ _ _ _ _ _ hf2 h
  refine ⟨f + 9, ?_⟩
  obtain ⟨y, cb, hj⟩ := mq_353
  rw [n_step (st' := [.ref 49]) (pc' := 1) (lv' := [(0, .ref 49), (1, .int x1)]) (hp' := rH e g q c l) (i := .aload_n 0) (len := 1) rfl hj rfl rfl rfl]
  rw [n_step (st' := [.ref 49, .ref 49]) (pc' := 2) (lv' := [(0, .ref 49), (1, .int x1)]) (hp' := rH e g q c l) (i := .aload_n 0) (len := 1) rfl hj rfl rfl rfl]
  rw [n_get (st' := [.int (g 24), .ref 49]) (pc' := 5) (lv' := [(0, .ref 49), (1, .int x1)]) (hp' := rH e g q c l) (i := .getfield 353) (len := 3) rfl hj rfl rfl rfl rfl]
  rw [n_step (st' := [.int (Int32.ofInt (1)), .int (g 24), .ref 49]) (pc' := 6) (lv' := [(0, .ref 49), (1, .int x1)]) (hp' := rH e g q c l) (i := .iconst 1) (len := 1) rfl hj rfl rfl rfl]
  rw [n_step (st' := [.int ((g 24) - (Int32.ofInt (1))), .ref 49]) (pc' := 7) (lv' := [(0, .ref 49), (1, .int x1)]) (hp' := rH e g q c l) (i := .isub) (len := 1) rfl hj rfl rfl rfl]
  rw [n_put (st' := []) (hp' := rH e (upd g 24 (((g 24) - (Int32.ofInt (1))))) q c l) rfl hj pf_24]
  rw [n_step (st' := [.ref 49]) (pc' := 11) (lv' := [(0, .ref 49), (1, .int x1)]) (hp' := rH e (upd g 24 (((g 24) - (Int32.ofInt (1))))) q c l) (i := .aload_n 0) (len := 1) rfl hj rfl rfl rfl]
  rw [n_step (st' := [.int x1, .ref 49]) (pc' := 12) (lv' := [(0, .ref 49), (1, .int x1)]) (hp' := rH e (upd g 24 (((g 24) - (Int32.ofInt (1))))) q c l) (i := .iload_n 1) (len := 1) rfl hj rfl rfl rfl]
  obtain ⟨y2, cb2, hj2⟩ := mq_343
  rw [n_call (f := f) (d := d) (ki := 0) (idx := 359) (j' := 343) (kd := 0) (M' := (y2, cb2, 2, none, 12, 1, 0, 0)) (avs := [.ref 49, .int x1]) (r := []) (rv := none) (hp1 := rH e g' q' c' l') rfl hj rfl rfl rfl rfl (rq_n rfl rfl hj2 rfl rfl) rfl hc (Nat.le_of_ble_eq_true rfl)]
  exact nrun_ext f f _ _ R 353 15 [] [(0, .ref 49), (1, .int x1)] [] _ 0 0 122 (Nat.le_refl _) (Nat.le_refl _) (Nat.le_of_ble_eq_true rfl) (lvR_mk [] [0, 1] rfl rfl (by decide) (by decide) (fun _ h => nomatch h) (List.forall_mem_cons.mpr ⟨Or.inr rfl, (List.forall_mem_cons.mpr ⟨Or.inr rfl, (fun _ h => nomatch h)⟩)⟩)) h
set_option maxRecDepth 100000 in
set_option maxHeartbeats 4000000 in
theorem bk_353_15 {b : Bool} {d : Nat} {e : Nat → x_E} {g : Nat → Int32} {q : Nat → Int64} {c : Nat → Nat → Int32} {l : Nat → Nat → Int64} : rr b e d 353 15 [] [] g q c l (none, rH e g q c l) := by
  refine ⟨0 + 1, ?_⟩
  obtain ⟨y, cb, hj⟩ := mq_353
  exact n_ret rfl hj rfl rfl rfl
set_option maxRecDepth 100000 in
set_option maxHeartbeats 4000000 in
theorem bk_355_0 {b : Bool} {d : Nat} {x1 x2 : Int32} {e : Nat → x_E} {g : Nat → Int32} {q : Nat → Int64} {c : Nat → Nat → Int32} {l : Nat → Nat → Int64} (hz0 : ¬ ((g 43) < 0 ∨ 4000 ≤ ((g 43)).toNatClampNeg)) (hz1 : ¬ ((g 43) < 0 ∨ 4000 ≤ ((g 43)).toNatClampNeg)) (hz2 : ¬ ((g 43) < 0 ∨ 4000 ≤ ((g 43)).toNatClampNeg)) (hz3 : ¬ ((g 43) < 0 ∨ 4000 ≤ ((g 43)).toNatClampNeg)) : rr b e d 355 0 [(0, .ref 49), (1, .int x1), (2, .int x2)] [] g q c l (some (.int (((upd g 43 (((g 43) + (Int32.ofInt (1))))) 43) - (Int32.ofInt (1)))), rH e (upd g 43 (((g 43) + (Int32.ofInt (1))))) q (updA (updA (updA (updA c 62 (upd (c 62) ((g 43)).toNatClampNeg x1)) 63 (upd ((updA c 62 (upd (c 62) ((g 43)).toNatClampNeg x1)) 63) ((g 43)).toNatClampNeg x2)) 64 (upd ((updA (updA c 62 (upd (c 62) ((g 43)).toNatClampNeg x1)) 63 (upd ((updA c 62 (upd (c 62) ((g 43)).toNatClampNeg x1)) 63) ((g 43)).toNatClampNeg x2)) 64) ((g 43)).toNatClampNeg ((Int32.ofInt (-1))))) 65 (upd ((updA (updA (updA c 62 (upd (c 62) ((g 43)).toNatClampNeg x1)) 63 (upd ((updA c 62 (upd (c 62) ((g 43)).toNatClampNeg x1)) 63) ((g 43)).toNatClampNeg x2)) 64 (upd ((updA (updA c 62 (upd (c 62) ((g 43)).toNatClampNeg x1)) 63 (upd ((updA c 62 (upd (c 62) ((g 43)).toNatClampNeg x1)) 63) ((g 43)).toNatClampNeg x2)) 64) ((g 43)).toNatClampNeg ((Int32.ofInt (-1))))) 65) ((g 43)).toNatClampNeg ((g 55)))) l) := by
  refine ⟨0 + 36, ?_⟩
  obtain ⟨y, cb, hj⟩ := mq_355
  rw [n_step (st' := [.ref 49]) (pc' := 1) (lv' := [(0, .ref 49), (1, .int x1), (2, .int x2)]) (hp' := rH e g q c l) (i := .aload_n 0) (len := 1) rfl hj rfl rfl rfl]
  rw [n_get (st' := [.ref 62]) (pc' := 4) (lv' := [(0, .ref 49), (1, .int x1), (2, .int x2)]) (hp' := rH e g q c l) (i := .getfield 53) (len := 3) rfl hj rfl rfl rfl rfl]
  rw [n_step (st' := [.ref 49, .ref 62]) (pc' := 5) (lv' := [(0, .ref 49), (1, .int x1), (2, .int x2)]) (hp' := rH e g q c l) (i := .aload_n 0) (len := 1) rfl hj rfl rfl rfl]
  rw [n_get (st' := [.int (g 43), .ref 62]) (pc' := 8) (lv' := [(0, .ref 49), (1, .int x1), (2, .int x2)]) (hp' := rH e g q c l) (i := .getfield 430) (len := 3) rfl hj rfl rfl rfl rfl]
  rw [n_step (st' := [.int x1, .int (g 43), .ref 62]) (pc' := 9) (lv' := [(0, .ref 49), (1, .int x1), (2, .int x2)]) (hp' := rH e g q c l) (i := .iload_n 1) (len := 1) rfl hj rfl rfl rfl]
  rw [n_ias (st' := []) (hp' := rH e g q (updA c 62 (upd (c 62) ((g 43)).toNatClampNeg x1)) l) rfl hj (ast_62 hz0)]
  rw [n_step (st' := [.ref 49]) (pc' := 11) (lv' := [(0, .ref 49), (1, .int x1), (2, .int x2)]) (hp' := rH e g q (updA c 62 (upd (c 62) ((g 43)).toNatClampNeg x1)) l) (i := .aload_n 0) (len := 1) rfl hj rfl rfl rfl]
  rw [n_get (st' := [.ref 63]) (pc' := 14) (lv' := [(0, .ref 49), (1, .int x1), (2, .int x2)]) (hp' := rH e g q (updA c 62 (upd (c 62) ((g 43)).toNatClampNeg x1)) l) (i := .getfield 56) (len := 3) rfl hj rfl rfl rfl rfl]
  rw [n_step (st' := [.ref 49, .ref 63]) (pc' := 15) (lv' := [(0, .ref 49), (1, .int x1), (2, .int x2)]) (hp' := rH e g q (updA c 62 (upd (c 62) ((g 43)).toNatClampNeg x1)) l) (i := .aload_n 0) (len := 1) rfl hj rfl rfl rfl]
  rw [n_get (st' := [.int (g 43), .ref 63]) (pc' := 18) (lv' := [(0, .ref 49), (1, .int x1), (2, .int x2)]) (hp' := rH e g q (updA c 62 (upd (c 62) ((g 43)).toNatClampNeg x1)) l) (i := .getfield 430) (len := 3) rfl hj rfl rfl rfl rfl]
  rw [n_step (st' := [.int x2, .int (g 43), .ref 63]) (pc' := 19) (lv' := [(0, .ref 49), (1, .int x1), (2, .int x2)]) (hp' := rH e g q (updA c 62 (upd (c 62) ((g 43)).toNatClampNeg x1)) l) (i := .iload_n 2) (len := 1) rfl hj rfl rfl rfl]
  rw [n_ias (st' := []) (hp' := rH e g q (updA (updA c 62 (upd (c 62) ((g 43)).toNatClampNeg x1)) 63 (upd ((updA c 62 (upd (c 62) ((g 43)).toNatClampNeg x1)) 63) ((g 43)).toNatClampNeg x2)) l) rfl hj (ast_63 hz1)]
  rw [n_step (st' := [.ref 49]) (pc' := 21) (lv' := [(0, .ref 49), (1, .int x1), (2, .int x2)]) (hp' := rH e g q (updA (updA c 62 (upd (c 62) ((g 43)).toNatClampNeg x1)) 63 (upd ((updA c 62 (upd (c 62) ((g 43)).toNatClampNeg x1)) 63) ((g 43)).toNatClampNeg x2)) l) (i := .aload_n 0) (len := 1) rfl hj rfl rfl rfl]
  rw [n_get (st' := [.ref 64]) (pc' := 24) (lv' := [(0, .ref 49), (1, .int x1), (2, .int x2)]) (hp' := rH e g q (updA (updA c 62 (upd (c 62) ((g 43)).toNatClampNeg x1)) 63 (upd ((updA c 62 (upd (c 62) ((g 43)).toNatClampNeg x1)) 63) ((g 43)).toNatClampNeg x2)) l) (i := .getfield 59) (len := 3) rfl hj rfl rfl rfl rfl]
  rw [n_step (st' := [.ref 49, .ref 64]) (pc' := 25) (lv' := [(0, .ref 49), (1, .int x1), (2, .int x2)]) (hp' := rH e g q (updA (updA c 62 (upd (c 62) ((g 43)).toNatClampNeg x1)) 63 (upd ((updA c 62 (upd (c 62) ((g 43)).toNatClampNeg x1)) 63) ((g 43)).toNatClampNeg x2)) l) (i := .aload_n 0) (len := 1) rfl hj rfl rfl rfl]
  rw [n_get (st' := [.int (g 43), .ref 64]) (pc' := 28) (lv' := [(0, .ref 49), (1, .int x1), (2, .int x2)]) (hp' := rH e g q (updA (updA c 62 (upd (c 62) ((g 43)).toNatClampNeg x1)) 63 (upd ((updA c 62 (upd (c 62) ((g 43)).toNatClampNeg x1)) 63) ((g 43)).toNatClampNeg x2)) l) (i := .getfield 430) (len := 3) rfl hj rfl rfl rfl rfl]
  rw [n_step (st' := [.int (Int32.ofInt (-1)), .int (g 43), .ref 64]) (pc' := 29) (lv' := [(0, .ref 49), (1, .int x1), (2, .int x2)]) (hp' := rH e g q (updA (updA c 62 (upd (c 62) ((g 43)).toNatClampNeg x1)) 63 (upd ((updA c 62 (upd (c 62) ((g 43)).toNatClampNeg x1)) 63) ((g 43)).toNatClampNeg x2)) l) (i := .iconst (-1)) (len := 1) rfl hj rfl rfl rfl]
  rw [n_ias (st' := []) (hp' := rH e g q (updA (updA (updA c 62 (upd (c 62) ((g 43)).toNatClampNeg x1)) 63 (upd ((updA c 62 (upd (c 62) ((g 43)).toNatClampNeg x1)) 63) ((g 43)).toNatClampNeg x2)) 64 (upd ((updA (updA c 62 (upd (c 62) ((g 43)).toNatClampNeg x1)) 63 (upd ((updA c 62 (upd (c 62) ((g 43)).toNatClampNeg x1)) 63) ((g 43)).toNatClampNeg x2)) 64) ((g 43)).toNatClampNeg ((Int32.ofInt (-1))))) l) rfl hj (ast_64 hz2)]
  rw [n_step (st' := [.ref 49]) (pc' := 31) (lv' := [(0, .ref 49), (1, .int x1), (2, .int x2)]) (hp' := rH e g q (updA (updA (updA c 62 (upd (c 62) ((g 43)).toNatClampNeg x1)) 63 (upd ((updA c 62 (upd (c 62) ((g 43)).toNatClampNeg x1)) 63) ((g 43)).toNatClampNeg x2)) 64 (upd ((updA (updA c 62 (upd (c 62) ((g 43)).toNatClampNeg x1)) 63 (upd ((updA c 62 (upd (c 62) ((g 43)).toNatClampNeg x1)) 63) ((g 43)).toNatClampNeg x2)) 64) ((g 43)).toNatClampNeg ((Int32.ofInt (-1))))) l) (i := .aload_n 0) (len := 1) rfl hj rfl rfl rfl]
  rw [n_get (st' := [.ref 65]) (pc' := 34) (lv' := [(0, .ref 49), (1, .int x1), (2, .int x2)]) (hp' := rH e g q (updA (updA (updA c 62 (upd (c 62) ((g 43)).toNatClampNeg x1)) 63 (upd ((updA c 62 (upd (c 62) ((g 43)).toNatClampNeg x1)) 63) ((g 43)).toNatClampNeg x2)) 64 (upd ((updA (updA c 62 (upd (c 62) ((g 43)).toNatClampNeg x1)) 63 (upd ((updA c 62 (upd (c 62) ((g 43)).toNatClampNeg x1)) 63) ((g 43)).toNatClampNeg x2)) 64) ((g 43)).toNatClampNeg ((Int32.ofInt (-1))))) l) (i := .getfield 62) (len := 3) rfl hj rfl rfl rfl rfl]
  rw [n_step (st' := [.ref 49, .ref 65]) (pc' := 35) (lv' := [(0, .ref 49), (1, .int x1), (2, .int x2)]) (hp' := rH e g q (updA (updA (updA c 62 (upd (c 62) ((g 43)).toNatClampNeg x1)) 63 (upd ((updA c 62 (upd (c 62) ((g 43)).toNatClampNeg x1)) 63) ((g 43)).toNatClampNeg x2)) 64 (upd ((updA (updA c 62 (upd (c 62) ((g 43)).toNatClampNeg x1)) 63 (upd ((updA c 62 (upd (c 62) ((g 43)).toNatClampNeg x1)) 63) ((g 43)).toNatClampNeg x2)) 64) ((g 43)).toNatClampNeg ((Int32.ofInt (-1))))) l) (i := .aload_n 0) (len := 1) rfl hj rfl rfl rfl]
  rw [n_get (st' := [.int (g 43), .ref 65]) (pc' := 38) (lv' := [(0, .ref 49), (1, .int x1), (2, .int x2)]) (hp' := rH e g q (updA (updA (updA c 62 (upd (c 62) ((g 43)).toNatClampNeg x1)) 63 (upd ((updA c 62 (upd (c 62) ((g 43)).toNatClampNeg x1)) 63) ((g 43)).toNatClampNeg x2)) 64 (upd ((updA (updA c 62 (upd (c 62) ((g 43)).toNatClampNeg x1)) 63 (upd ((updA c 62 (upd (c 62) ((g 43)).toNatClampNeg x1)) 63) ((g 43)).toNatClampNeg x2)) 64) ((g 43)).toNatClampNeg ((Int32.ofInt (-1))))) l) (i := .getfield 430) (len := 3) rfl hj rfl rfl rfl rfl]
  rw [n_step (st' := [.ref 49, .int (g 43), .ref 65]) (pc' := 39) (lv' := [(0, .ref 49), (1, .int x1), (2, .int x2)]) (hp' := rH e g q (updA (updA (updA c 62 (upd (c 62) ((g 43)).toNatClampNeg x1)) 63 (upd ((updA c 62 (upd (c 62) ((g 43)).toNatClampNeg x1)) 63) ((g 43)).toNatClampNeg x2)) 64 (upd ((updA (updA c 62 (upd (c 62) ((g 43)).toNatClampNeg x1)) 63 (upd ((updA c 62 (upd (c 62) ((g 43)).toNatClampNeg x1)) 63) ((g 43)).toNatClampNeg x2)) 64) ((g 43)).toNatClampNeg ((Int32.ofInt (-1))))) l) (i := .aload_n 0) (len := 1) rfl hj rfl rfl rfl]
  rw [n_get (st' := [.int (g 55), .int (g 43), .ref 65]) (pc' := 42) (lv' := [(0, .ref 49), (1, .int x1), (2, .int x2)]) (hp' := rH e g q (updA (updA (updA c 62 (upd (c 62) ((g 43)).toNatClampNeg x1)) 63 (upd ((updA c 62 (upd (c 62) ((g 43)).toNatClampNeg x1)) 63) ((g 43)).toNatClampNeg x2)) 64 (upd ((updA (updA c 62 (upd (c 62) ((g 43)).toNatClampNeg x1)) 63 (upd ((updA c 62 (upd (c 62) ((g 43)).toNatClampNeg x1)) 63) ((g 43)).toNatClampNeg x2)) 64) ((g 43)).toNatClampNeg ((Int32.ofInt (-1))))) l) (i := .getfield 433) (len := 3) rfl hj rfl rfl rfl rfl]
  rw [n_ias (st' := []) (hp' := rH e g q (updA (updA (updA (updA c 62 (upd (c 62) ((g 43)).toNatClampNeg x1)) 63 (upd ((updA c 62 (upd (c 62) ((g 43)).toNatClampNeg x1)) 63) ((g 43)).toNatClampNeg x2)) 64 (upd ((updA (updA c 62 (upd (c 62) ((g 43)).toNatClampNeg x1)) 63 (upd ((updA c 62 (upd (c 62) ((g 43)).toNatClampNeg x1)) 63) ((g 43)).toNatClampNeg x2)) 64) ((g 43)).toNatClampNeg ((Int32.ofInt (-1))))) 65 (upd ((updA (updA (updA c 62 (upd (c 62) ((g 43)).toNatClampNeg x1)) 63 (upd ((updA c 62 (upd (c 62) ((g 43)).toNatClampNeg x1)) 63) ((g 43)).toNatClampNeg x2)) 64 (upd ((updA (updA c 62 (upd (c 62) ((g 43)).toNatClampNeg x1)) 63 (upd ((updA c 62 (upd (c 62) ((g 43)).toNatClampNeg x1)) 63) ((g 43)).toNatClampNeg x2)) 64) ((g 43)).toNatClampNeg ((Int32.ofInt (-1))))) 65) ((g 43)).toNatClampNeg ((g 55)))) l) rfl hj (ast_65 hz3)]
  rw [n_step (st' := [.ref 49]) (pc' := 44) (lv' := [(0, .ref 49), (1, .int x1), (2, .int x2)]) (hp' := rH e g q (updA (updA (updA (updA c 62 (upd (c 62) ((g 43)).toNatClampNeg x1)) 63 (upd ((updA c 62 (upd (c 62) ((g 43)).toNatClampNeg x1)) 63) ((g 43)).toNatClampNeg x2)) 64 (upd ((updA (updA c 62 (upd (c 62) ((g 43)).toNatClampNeg x1)) 63 (upd ((updA c 62 (upd (c 62) ((g 43)).toNatClampNeg x1)) 63) ((g 43)).toNatClampNeg x2)) 64) ((g 43)).toNatClampNeg ((Int32.ofInt (-1))))) 65 (upd ((updA (updA (updA c 62 (upd (c 62) ((g 43)).toNatClampNeg x1)) 63 (upd ((updA c 62 (upd (c 62) ((g 43)).toNatClampNeg x1)) 63) ((g 43)).toNatClampNeg x2)) 64 (upd ((updA (updA c 62 (upd (c 62) ((g 43)).toNatClampNeg x1)) 63 (upd ((updA c 62 (upd (c 62) ((g 43)).toNatClampNeg x1)) 63) ((g 43)).toNatClampNeg x2)) 64) ((g 43)).toNatClampNeg ((Int32.ofInt (-1))))) 65) ((g 43)).toNatClampNeg ((g 55)))) l) (i := .aload_n 0) (len := 1) rfl hj rfl rfl rfl]
  rw [n_step (st' := [.ref 49, .ref 49]) (pc' := 45) (lv' := [(0, .ref 49), (1, .int x1), (2, .int x2)]) (hp' := rH e g q (updA (updA (updA (updA c 62 (upd (c 62) ((g 43)).toNatClampNeg x1)) 63 (upd ((updA c 62 (upd (c 62) ((g 43)).toNatClampNeg x1)) 63) ((g 43)).toNatClampNeg x2)) 64 (upd ((updA (updA c 62 (upd (c 62) ((g 43)).toNatClampNeg x1)) 63 (upd ((updA c 62 (upd (c 62) ((g 43)).toNatClampNeg x1)) 63) ((g 43)).toNatClampNeg x2)) 64) ((g 43)).toNatClampNeg ((Int32.ofInt (-1))))) 65 (upd ((updA (updA (updA c 62 (upd (c 62) ((g 43)).toNatClampNeg x1)) 63 (upd ((updA c 62 (upd (c 62) ((g 43)).toNatClampNeg x1)) 63) ((g 43)).toNatClampNeg x2)) 64 (upd ((updA (updA c 62 (upd (c 62) ((g 43)).toNatClampNeg x1)) 63 (upd ((updA c 62 (upd (c 62) ((g 43)).toNatClampNeg x1)) 63) ((g 43)).toNatClampNeg x2)) 64) ((g 43)).toNatClampNeg ((Int32.ofInt (-1))))) 65) ((g 43)).toNatClampNeg ((g 55)))) l) (i := .aload_n 0) (len := 1) rfl hj rfl rfl rfl]
  rw [n_get (st' := [.int (g 43), .ref 49]) (pc' := 48) (lv' := [(0, .ref 49), (1, .int x1), (2, .int x2)]) (hp' := rH e g q (updA (updA (updA (updA c 62 (upd (c 62) ((g 43)).toNatClampNeg x1)) 63 (upd ((updA c 62 (upd (c 62) ((g 43)).toNatClampNeg x1)) 63) ((g 43)).toNatClampNeg x2)) 64 (upd ((updA (updA c 62 (upd (c 62) ((g 43)).toNatClampNeg x1)) 63 (upd ((updA c 62 (upd (c 62) ((g 43)).toNatClampNeg x1)) 63) ((g 43)).toNatClampNeg x2)) 64) ((g 43)).toNatClampNeg ((Int32.ofInt (-1))))) 65 (upd ((updA (updA (updA c 62 (upd (c 62) ((g 43)).toNatClampNeg x1)) 63 (upd ((updA c 62 (upd (c 62) ((g 43)).toNatClampNeg x1)) 63) ((g 43)).toNatClampNeg x2)) 64 (upd ((updA (updA c 62 (upd (c 62) ((g 43)).toNatClampNeg x1)) 63 (upd ((updA c 62 (upd (c 62) ((g 43)).toNatClampNeg x1)) 63) ((g 43)).toNatClampNeg x2)) 64) ((g 43)).toNatClampNeg ((Int32.ofInt (-1))))) 65) ((g 43)).toNatClampNeg ((g 55)))) l) (i := .getfield 430) (len := 3) rfl hj rfl rfl rfl rfl]
  rw [n_step (st' := [.int (Int32.ofInt (1)), .int (g 43), .ref 49]) (pc' := 49) (lv' := [(0, .ref 49), (1, .int x1), (2, .int x2)]) (hp' := rH e g q (updA (updA (updA (updA c 62 (upd (c 62) ((g 43)).toNatClampNeg x1)) 63 (upd ((updA c 62 (upd (c 62) ((g 43)).toNatClampNeg x1)) 63) ((g 43)).toNatClampNeg x2)) 64 (upd ((updA (updA c 62 (upd (c 62) ((g 43)).toNatClampNeg x1)) 63 (upd ((updA c 62 (upd (c 62) ((g 43)).toNatClampNeg x1)) 63) ((g 43)).toNatClampNeg x2)) 64) ((g 43)).toNatClampNeg ((Int32.ofInt (-1))))) 65 (upd ((updA (updA (updA c 62 (upd (c 62) ((g 43)).toNatClampNeg x1)) 63 (upd ((updA c 62 (upd (c 62) ((g 43)).toNatClampNeg x1)) 63) ((g 43)).toNatClampNeg x2)) 64 (upd ((updA (updA c 62 (upd (c 62) ((g 43)).toNatClampNeg x1)) 63 (upd ((updA c 62 (upd (c 62) ((g 43)).toNatClampNeg x1)) 63) ((g 43)).toNatClampNeg x2)) 64) ((g 43)).toNatClampNeg ((Int32.ofInt (-1))))) 65) ((g 43)).toNatClampNeg ((g 55)))) l) (i := .iconst 1) (len := 1) rfl hj rfl rfl rfl]
  rw [n_step (st' := [.int ((g 43) + (Int32.ofInt (1))), .ref 49]) (pc' := 50) (lv' := [(0, .ref 49), (1, .int x1), (2, .int x2)]) (hp' := rH e g q (updA (updA (updA (updA c 62 (upd (c 62) ((g 43)).toNatClampNeg x1)) 63 (upd ((updA c 62 (upd (c 62) ((g 43)).toNatClampNeg x1)) 63) ((g 43)).toNatClampNeg x2)) 64 (upd ((updA (updA c 62 (upd (c 62) ((g 43)).toNatClampNeg x1)) 63 (upd ((updA c 62 (upd (c 62) ((g 43)).toNatClampNeg x1)) 63) ((g 43)).toNatClampNeg x2)) 64) ((g 43)).toNatClampNeg ((Int32.ofInt (-1))))) 65 (upd ((updA (updA (updA c 62 (upd (c 62) ((g 43)).toNatClampNeg x1)) 63 (upd ((updA c 62 (upd (c 62) ((g 43)).toNatClampNeg x1)) 63) ((g 43)).toNatClampNeg x2)) 64 (upd ((updA (updA c 62 (upd (c 62) ((g 43)).toNatClampNeg x1)) 63 (upd ((updA c 62 (upd (c 62) ((g 43)).toNatClampNeg x1)) 63) ((g 43)).toNatClampNeg x2)) 64) ((g 43)).toNatClampNeg ((Int32.ofInt (-1))))) 65) ((g 43)).toNatClampNeg ((g 55)))) l) (i := .iadd) (len := 1) rfl hj rfl rfl rfl]
  rw [n_put (st' := []) (hp' := rH e (upd g 43 (((g 43) + (Int32.ofInt (1))))) q (updA (updA (updA (updA c 62 (upd (c 62) ((g 43)).toNatClampNeg x1)) 63 (upd ((updA c 62 (upd (c 62) ((g 43)).toNatClampNeg x1)) 63) ((g 43)).toNatClampNeg x2)) 64 (upd ((updA (updA c 62 (upd (c 62) ((g 43)).toNatClampNeg x1)) 63 (upd ((updA c 62 (upd (c 62) ((g 43)).toNatClampNeg x1)) 63) ((g 43)).toNatClampNeg x2)) 64) ((g 43)).toNatClampNeg ((Int32.ofInt (-1))))) 65 (upd ((updA (updA (updA c 62 (upd (c 62) ((g 43)).toNatClampNeg x1)) 63 (upd ((updA c 62 (upd (c 62) ((g 43)).toNatClampNeg x1)) 63) ((g 43)).toNatClampNeg x2)) 64 (upd ((updA (updA c 62 (upd (c 62) ((g 43)).toNatClampNeg x1)) 63 (upd ((updA c 62 (upd (c 62) ((g 43)).toNatClampNeg x1)) 63) ((g 43)).toNatClampNeg x2)) 64) ((g 43)).toNatClampNeg ((Int32.ofInt (-1))))) 65) ((g 43)).toNatClampNeg ((g 55)))) l) rfl hj pf_43]
  rw [n_step (st' := [.ref 49]) (pc' := 54) (lv' := [(0, .ref 49), (1, .int x1), (2, .int x2)]) (hp' := rH e (upd g 43 (((g 43) + (Int32.ofInt (1))))) q (updA (updA (updA (updA c 62 (upd (c 62) ((g 43)).toNatClampNeg x1)) 63 (upd ((updA c 62 (upd (c 62) ((g 43)).toNatClampNeg x1)) 63) ((g 43)).toNatClampNeg x2)) 64 (upd ((updA (updA c 62 (upd (c 62) ((g 43)).toNatClampNeg x1)) 63 (upd ((updA c 62 (upd (c 62) ((g 43)).toNatClampNeg x1)) 63) ((g 43)).toNatClampNeg x2)) 64) ((g 43)).toNatClampNeg ((Int32.ofInt (-1))))) 65 (upd ((updA (updA (updA c 62 (upd (c 62) ((g 43)).toNatClampNeg x1)) 63 (upd ((updA c 62 (upd (c 62) ((g 43)).toNatClampNeg x1)) 63) ((g 43)).toNatClampNeg x2)) 64 (upd ((updA (updA c 62 (upd (c 62) ((g 43)).toNatClampNeg x1)) 63 (upd ((updA c 62 (upd (c 62) ((g 43)).toNatClampNeg x1)) 63) ((g 43)).toNatClampNeg x2)) 64) ((g 43)).toNatClampNeg ((Int32.ofInt (-1))))) 65) ((g 43)).toNatClampNeg ((g 55)))) l) (i := .aload_n 0) (len := 1) rfl hj rfl rfl rfl]
  rw [n_get (st' := [.int ((upd g 43 (((g 43) + (Int32.ofInt (1))))) 43)]) (pc' := 57) (lv' := [(0, .ref 49), (1, .int x1), (2, .int x2)]) (hp' := rH e (upd g 43 (((g 43) + (Int32.ofInt (1))))) q (updA (updA (updA (updA c 62 (upd (c 62) ((g 43)).toNatClampNeg x1)) 63 (upd ((updA c 62 (upd (c 62) ((g 43)).toNatClampNeg x1)) 63) ((g 43)).toNatClampNeg x2)) 64 (upd ((updA (updA c 62 (upd (c 62) ((g 43)).toNatClampNeg x1)) 63 (upd ((updA c 62 (upd (c 62) ((g 43)).toNatClampNeg x1)) 63) ((g 43)).toNatClampNeg x2)) 64) ((g 43)).toNatClampNeg ((Int32.ofInt (-1))))) 65 (upd ((updA (updA (updA c 62 (upd (c 62) ((g 43)).toNatClampNeg x1)) 63 (upd ((updA c 62 (upd (c 62) ((g 43)).toNatClampNeg x1)) 63) ((g 43)).toNatClampNeg x2)) 64 (upd ((updA (updA c 62 (upd (c 62) ((g 43)).toNatClampNeg x1)) 63 (upd ((updA c 62 (upd (c 62) ((g 43)).toNatClampNeg x1)) 63) ((g 43)).toNatClampNeg x2)) 64) ((g 43)).toNatClampNeg ((Int32.ofInt (-1))))) 65) ((g 43)).toNatClampNeg ((g 55)))) l) (i := .getfield 430) (len := 3) rfl hj rfl rfl rfl rfl]
  rw [n_step (st' := [.int (Int32.ofInt (1)), .int ((upd g 43 (((g 43) + (Int32.ofInt (1))))) 43)]) (pc' := 58) (lv' := [(0, .ref 49), (1, .int x1), (2, .int x2)]) (hp' := rH e (upd g 43 (((g 43) + (Int32.ofInt (1))))) q (updA (updA (updA (updA c 62 (upd (c 62) ((g 43)).toNatClampNeg x1)) 63 (upd ((updA c 62 (upd (c 62) ((g 43)).toNatClampNeg x1)) 63) ((g 43)).toNatClampNeg x2)) 64 (upd ((updA (updA c 62 (upd (c 62) ((g 43)).toNatClampNeg x1)) 63 (upd ((updA c 62 (upd (c 62) ((g 43)).toNatClampNeg x1)) 63) ((g 43)).toNatClampNeg x2)) 64) ((g 43)).toNatClampNeg ((Int32.ofInt (-1))))) 65 (upd ((updA (updA (updA c 62 (upd (c 62) ((g 43)).toNatClampNeg x1)) 63 (upd ((updA c 62 (upd (c 62) ((g 43)).toNatClampNeg x1)) 63) ((g 43)).toNatClampNeg x2)) 64 (upd ((updA (updA c 62 (upd (c 62) ((g 43)).toNatClampNeg x1)) 63 (upd ((updA c 62 (upd (c 62) ((g 43)).toNatClampNeg x1)) 63) ((g 43)).toNatClampNeg x2)) 64) ((g 43)).toNatClampNeg ((Int32.ofInt (-1))))) 65) ((g 43)).toNatClampNeg ((g 55)))) l) (i := .iconst 1) (len := 1) rfl hj rfl rfl rfl]
  rw [n_step (st' := [.int (((upd g 43 (((g 43) + (Int32.ofInt (1))))) 43) - (Int32.ofInt (1)))]) (pc' := 59) (lv' := [(0, .ref 49), (1, .int x1), (2, .int x2)]) (hp' := rH e (upd g 43 (((g 43) + (Int32.ofInt (1))))) q (updA (updA (updA (updA c 62 (upd (c 62) ((g 43)).toNatClampNeg x1)) 63 (upd ((updA c 62 (upd (c 62) ((g 43)).toNatClampNeg x1)) 63) ((g 43)).toNatClampNeg x2)) 64 (upd ((updA (updA c 62 (upd (c 62) ((g 43)).toNatClampNeg x1)) 63 (upd ((updA c 62 (upd (c 62) ((g 43)).toNatClampNeg x1)) 63) ((g 43)).toNatClampNeg x2)) 64) ((g 43)).toNatClampNeg ((Int32.ofInt (-1))))) 65 (upd ((updA (updA (updA c 62 (upd (c 62) ((g 43)).toNatClampNeg x1)) 63 (upd ((updA c 62 (upd (c 62) ((g 43)).toNatClampNeg x1)) 63) ((g 43)).toNatClampNeg x2)) 64 (upd ((updA (updA c 62 (upd (c 62) ((g 43)).toNatClampNeg x1)) 63 (upd ((updA c 62 (upd (c 62) ((g 43)).toNatClampNeg x1)) 63) ((g 43)).toNatClampNeg x2)) 64) ((g 43)).toNatClampNeg ((Int32.ofInt (-1))))) 65) ((g 43)).toNatClampNeg ((g 55)))) l) (i := .isub) (len := 1) rfl hj rfl rfl rfl]
  exact n_ret rfl hj rfl rfl (x_ret rfl)
set_option maxRecDepth 100000 in
set_option maxHeartbeats 4000000 in
theorem bk_366_0 {b : Bool} {d : Nat} {x1 : Int32} {e : Nat → x_E} {g : Nat → Int32} {q : Nat → Int64} {c : Nat → Nat → Int32} {l : Nat → Nat → Int64} {g' : Nat → Int32} {q' : Nat → Int64} {c' : Nat → Nat → Int32} {l' : Nat → Nat → Int64} {v : Int32} {R : Option Value × List x_E} (hc : rr b e d 337 0 [(0, .ref 49)] [] g q c l (some (.int v), rH e g' q' c' l')) (h : rr b e (d + 1) 366 4 [(0, .ref 49), (1, .int x1)] [.int v] g' q' c' l' R) : rr b e (d + 1) 366 0 [(0, .ref 49), (1, .int x1)] [] g q c l R := by
  obtain ⟨f1, hc⟩ := hc
  obtain ⟨f2, h⟩ := h
  obtain ⟨f, hf1, hf2⟩ : ∃ f, f1 ≤ f ∧ f2 ≤ f := ⟨max f1 f2, Nat.le_max_left _ _, Nat.le_max_right _ _⟩
  have hc := nrun_fuel f1 f _ _ _ _ _ _ _ _ _ hf1 hc
  have h := nrun_fuel f2 f _ _ _ _ _ _ _ _ _ hf2 h
  refine ⟨f + 2, ?_⟩
  obtain ⟨y, cb, hj⟩ := mq_366
  rw [n_step (st' := [.ref 49]) (pc' := 1) (lv' := [(0, .ref 49), (1, .int x1)]) (hp' := rH e g q c l) (i := .aload_n 0) (len := 1) rfl hj rfl rfl rfl]
  obtain ⟨y2, cb2, hj2⟩ := mq_337
  rw [n_call (f := f) (d := d) (ki := 0) (idx := 337) (j' := 337) (kd := 0) (M' := (y2, cb2, 1, some .boolean, 12, 0, 0, 0)) (avs := [.ref 49]) (r := []) (rv := some (.int v)) (hp1 := rH e g' q' c' l') rfl hj rfl rfl rfl rfl (rq_n rfl rfl hj2 rfl rfl) rfl hc (Nat.le_of_ble_eq_true rfl)]
  exact h
set_option maxRecDepth 100000 in
set_option maxHeartbeats 4000000 in
theorem bk_366_4 {b : Bool} {d : Nat} {t0 x1 : Int32} {e : Nat → x_E} {g : Nat → Int32} {q : Nat → Int64} {c : Nat → Nat → Int32} {l : Nat → Nat → Int64} {R : Option Value × List x_E} (h1 : xCn .eq t0 0 = true → rr b e d 366 8 [(0, .ref 49), (1, .int x1)] [] g q c l R) (h2 : ¬ xCn .eq t0 0 = true → rr b e d 366 7 [] [] g q c l R) : rr b e d 366 4 [(0, .ref 49), (1, .int x1)] [.int t0] g q c l R := by
  have key : ∀ f, nrun xZ (xY (xfm b)) xDT (f + 1) d 366 4 [(0, .ref 49), (1, .int x1)] [.int t0] (rH e g q c l) 0 0 = nrun xZ (xY (xfm b)) xDT f d 366 (if xCn .eq t0 0 = true then 8 else 7) [(0, .ref 49), (1, .int x1)] [] (rH e g q c l) 0 0 := by
    intro f
    obtain ⟨y, cb, hj⟩ := mq_366
    rw [n_step (st' := []) (pc' := (if xCn .eq t0 0 = true then 8 else 7)) (lv' := [(0, .ref 49), (1, .int x1)]) (hp' := rH e g q c l) (i := .ifCond .eq 4) (len := 3) rfl hj rfl rfl rfl]
  by_cases hc : xCn .eq t0 0 = true
  · obtain ⟨f, h⟩ := h1 hc
    refine ⟨f + 1, ?_⟩
    rw [key, if_pos hc]
    exact h
  · obtain ⟨f, h⟩ := h2 hc
    refine ⟨f + 1, ?_⟩
    rw [key, if_neg hc]
    exact nrun_ext f f _ _ R 366 7 [] [(0, .ref 49), (1, .int x1)] [] _ 0 0 122 (Nat.le_refl _) (Nat.le_refl _) (Nat.le_of_ble_eq_true rfl) (lvR_mk [] [0, 1] rfl rfl (by decide) (by decide) (fun _ h => nomatch h) (List.forall_mem_cons.mpr ⟨Or.inr rfl, (List.forall_mem_cons.mpr ⟨Or.inr rfl, (fun _ h => nomatch h)⟩)⟩)) h
set_option maxRecDepth 100000 in
set_option maxHeartbeats 4000000 in
theorem bk_366_7 {b : Bool} {d : Nat} {e : Nat → x_E} {g : Nat → Int32} {q : Nat → Int64} {c : Nat → Nat → Int32} {l : Nat → Nat → Int64} : rr b e d 366 7 [] [] g q c l (none, rH e g q c l) := by
  refine ⟨0 + 1, ?_⟩
  obtain ⟨y, cb, hj⟩ := mq_366
  exact n_ret rfl hj rfl rfl rfl
set_option maxRecDepth 100000 in
set_option maxHeartbeats 4000000 in
theorem bk_366_8 {b : Bool} {d : Nat} {x1 : Int32} {e : Nat → x_E} {g : Nat → Int32} {q : Nat → Int64} {c : Nat → Nat → Int32} {l : Nat → Nat → Int64} {g' : Nat → Int32} {q' : Nat → Int64} {c' : Nat → Nat → Int32} {l' : Nat → Nat → Int64} {v : Int32} {R : Option Value × List x_E} (hc : rr b e d 344 0 [(0, .ref 49), (1, .int x1)] [] g q c l (some (.int v), rH e g' q' c' l')) (h : rr b e (d + 1) 366 13 [(0, .ref 49)] [.int v] g' q' c' l' R) : rr b e (d + 1) 366 8 [(0, .ref 49), (1, .int x1)] [] g q c l R := by
  obtain ⟨f1, hc⟩ := hc
  obtain ⟨f2, h⟩ := h
  obtain ⟨f, hf1, hf2⟩ : ∃ f, f1 ≤ f ∧ f2 ≤ f := ⟨max f1 f2, Nat.le_max_left _ _, Nat.le_max_right _ _⟩
  have hc := nrun_fuel f1 f _ _ _ _ _ _ _ _ _ hf1 hc
  have h := nrun_fuel f2 f _ _ _ _ _ _ _ _ _ hf2 h
  refine ⟨f + 3, ?_⟩
  obtain ⟨y, cb, hj⟩ := mq_366
  rw [n_step (st' := [.ref 49]) (pc' := 9) (lv' := [(0, .ref 49), (1, .int x1)]) (hp' := rH e g q c l) (i := .aload_n 0) (len := 1) rfl hj rfl rfl rfl]
  rw [n_step (st' := [.int x1, .ref 49]) (pc' := 10) (lv' := [(0, .ref 49), (1, .int x1)]) (hp' := rH e g q c l) (i := .iload_n 1) (len := 1) rfl hj rfl rfl rfl]
  obtain ⟨y2, cb2, hj2⟩ := mq_344
  rw [n_call (f := f) (d := d) (ki := 0) (idx := 341) (j' := 344) (kd := 0) (M' := (y2, cb2, 2, some .boolean, 12, 1, 0, 0)) (avs := [.ref 49, .int x1]) (r := []) (rv := some (.int v)) (hp1 := rH e g' q' c' l') rfl hj rfl rfl rfl rfl (rq_n rfl rfl hj2 rfl rfl) rfl hc (Nat.le_of_ble_eq_true rfl)]
  exact nrun_ext f f _ _ R 366 13 [(0, .ref 49)] [(0, .ref 49), (1, .int x1)] [.int v] _ 0 0 122 (Nat.le_refl _) (Nat.le_refl _) (Nat.le_of_ble_eq_true rfl) (lvR_mk [0] [0, 1] rfl rfl (by decide) (by decide) (List.forall_mem_cons.mpr ⟨List.mem_cons_self, (fun _ h => nomatch h)⟩) (List.forall_mem_cons.mpr ⟨Or.inl List.mem_cons_self, (List.forall_mem_cons.mpr ⟨Or.inr rfl, (fun _ h => nomatch h)⟩)⟩)) h
set_option maxRecDepth 100000 in
set_option maxHeartbeats 4000000 in
theorem bk_366_13 {b : Bool} {d : Nat} {t0 : Int32} {e : Nat → x_E} {g : Nat → Int32} {q : Nat → Int64} {c : Nat → Nat → Int32} {l : Nat → Nat → Int64} {R : Option Value × List x_E} (h1 : xCn .eq t0 0 = true → rr b e d 366 23 [(0, .ref 49)] [] g q c l R) (h2 : ¬ xCn .eq t0 0 = true → rr b e d 366 16 [(0, .ref 49)] [] g q c l R) : rr b e d 366 13 [(0, .ref 49)] [.int t0] g q c l R := by
  have key : ∀ f, nrun xZ (xY (xfm b)) xDT (f + 1) d 366 13 [(0, .ref 49)] [.int t0] (rH e g q c l) 0 0 = nrun xZ (xY (xfm b)) xDT f d 366 (if xCn .eq t0 0 = true then 23 else 16) [(0, .ref 49)] [] (rH e g q c l) 0 0 := by
    intro f
    obtain ⟨y, cb, hj⟩ := mq_366
    rw [n_step (st' := []) (pc' := (if xCn .eq t0 0 = true then 23 else 16)) (lv' := [(0, .ref 49)]) (hp' := rH e g q c l) (i := .ifCond .eq 10) (len := 3) rfl hj rfl rfl rfl]
  by_cases hc : xCn .eq t0 0 = true
  · obtain ⟨f, h⟩ := h1 hc
    refine ⟨f + 1, ?_⟩
    rw [key, if_pos hc]
    exact h
  · obtain ⟨f, h⟩ := h2 hc
    refine ⟨f + 1, ?_⟩
    rw [key, if_neg hc]
    exact h
set_option maxRecDepth 100000 in
set_option maxHeartbeats 4000000 in
theorem bk_366_16 {b : Bool} {d : Nat} {e : Nat → x_E} {g : Nat → Int32} {q : Nat → Int64} {c : Nat → Nat → Int32} {l : Nat → Nat → Int64} {g' : Nat → Int32} {q' : Nat → Int64} {c' : Nat → Nat → Int32} {l' : Nat → Nat → Int64} {R : Option Value × List x_E} (hc : rr b e d 340 0 [(0, .ref 49)] [] g q c l (none, rH e g' q' c' l')) (h : rr b e (d + 1) 366 20 [] [] g' q' c' l' R) : rr b e (d + 1) 366 16 [(0, .ref 49)] [] g q c l R := by
  obtain ⟨f1, hc⟩ := hc
  obtain ⟨f2, h⟩ := h
  obtain ⟨f, hf1, hf2⟩ : ∃ f, f1 ≤ f ∧ f2 ≤ f := ⟨max f1 f2, Nat.le_max_left _ _, Nat.le_max_right _ _⟩
  have hc := nrun_fuel f1 f _ _ _ _ _ _ _ _ _ hf1 hc
  have h := nrun_fuel f2 f _ _ _ _ _ _ _ _ _ hf2 h
  refine ⟨f + 2, ?_⟩
  obtain ⟨y, cb, hj⟩ := mq_366
  rw [n_step (st' := [.ref 49]) (pc' := 17) (lv' := [(0, .ref 49)]) (hp' := rH e g q c l) (i := .aload_n 0) (len := 1) rfl hj rfl rfl rfl]
  obtain ⟨y2, cb2, hj2⟩ := mq_340
  rw [n_call (f := f) (d := d) (ki := 0) (idx := 356) (j' := 340) (kd := 0) (M' := (y2, cb2, 1, none, 12, 0, 0, 0)) (avs := [.ref 49]) (r := []) (rv := none) (hp1 := rH e g' q' c' l') rfl hj rfl rfl rfl rfl (rq_n rfl rfl hj2 rfl rfl) rfl hc (Nat.le_of_ble_eq_true rfl)]
  exact nrun_ext f f _ _ R 366 20 [] [(0, .ref 49)] [] _ 0 0 122 (Nat.le_refl _) (Nat.le_refl _) (Nat.le_of_ble_eq_true rfl) (lvR_mk [] [0] rfl rfl (by decide) (by decide) (fun _ h => nomatch h) (List.forall_mem_cons.mpr ⟨Or.inr rfl, (fun _ h => nomatch h)⟩)) h
set_option maxRecDepth 100000 in
set_option maxHeartbeats 4000000 in
theorem bk_366_20 {b : Bool} {d : Nat} {e : Nat → x_E} {g : Nat → Int32} {q : Nat → Int64} {c : Nat → Nat → Int32} {l : Nat → Nat → Int64} {R : Option Value × List x_E} (h : rr b e d 366 27 [] [] g q c l R) : rr b e d 366 20 [] [] g q c l R := by
  obtain ⟨f, h⟩ := h
  refine ⟨f + 1, ?_⟩
  obtain ⟨y, cb, hj⟩ := mq_366
  rw [n_step (st' := []) (pc' := 27) (lv' := []) (hp' := rH e g q c l) (i := .goto 7) (len := 3) rfl hj rfl rfl rfl]
  exact h
set_option maxRecDepth 100000 in
set_option maxHeartbeats 4000000 in
theorem bk_366_23 {b : Bool} {d : Nat} {e : Nat → x_E} {g : Nat → Int32} {q : Nat → Int64} {c : Nat → Nat → Int32} {l : Nat → Nat → Int64} {g' : Nat → Int32} {q' : Nat → Int64} {c' : Nat → Nat → Int32} {l' : Nat → Nat → Int64} {R : Option Value × List x_E} (hc : rr b e d 342 0 [(0, .ref 49)] [] g q c l (none, rH e g' q' c' l')) (h : rr b e (d + 1) 366 27 [] [] g' q' c' l' R) : rr b e (d + 1) 366 23 [(0, .ref 49)] [] g q c l R := by
  obtain ⟨f1, hc⟩ := hc
  obtain ⟨f2, h⟩ := h
  obtain ⟨f, hf1, hf2⟩ : ∃ f, f1 ≤ f ∧ f2 ≤ f := ⟨max f1 f2, Nat.le_max_left _ _, Nat.le_max_right _ _⟩
  have hc := nrun_fuel f1 f _ _ _ _ _ _ _ _ _ hf1 hc
  have h := nrun_fuel f2 f _ _ _ _ _ _ _ _ _ hf2 h
  refine ⟨f + 2, ?_⟩
  obtain ⟨y, cb, hj⟩ := mq_366
  rw [n_step (st' := [.ref 49]) (pc' := 24) (lv' := [(0, .ref 49)]) (hp' := rH e g q c l) (i := .aload_n 0) (len := 1) rfl hj rfl rfl rfl]
  obtain ⟨y2, cb2, hj2⟩ := mq_342
  rw [n_call (f := f) (d := d) (ki := 0) (idx := 347) (j' := 342) (kd := 0) (M' := (y2, cb2, 1, none, 12, 0, 0, 0)) (avs := [.ref 49]) (r := []) (rv := none) (hp1 := rH e g' q' c' l') rfl hj rfl rfl rfl rfl (rq_n rfl rfl hj2 rfl rfl) rfl hc (Nat.le_of_ble_eq_true rfl)]
  exact nrun_ext f f _ _ R 366 27 [] [(0, .ref 49)] [] _ 0 0 122 (Nat.le_refl _) (Nat.le_refl _) (Nat.le_of_ble_eq_true rfl) (lvR_mk [] [0] rfl rfl (by decide) (by decide) (fun _ h => nomatch h) (List.forall_mem_cons.mpr ⟨Or.inr rfl, (fun _ h => nomatch h)⟩)) h
set_option maxRecDepth 100000 in
set_option maxHeartbeats 4000000 in
theorem bk_366_27 {b : Bool} {d : Nat} {e : Nat → x_E} {g : Nat → Int32} {q : Nat → Int64} {c : Nat → Nat → Int32} {l : Nat → Nat → Int64} : rr b e d 366 27 [] [] g q c l (none, rH e g q c l) := by
  refine ⟨0 + 1, ?_⟩
  obtain ⟨y, cb, hj⟩ := mq_366
  exact n_ret rfl hj rfl rfl rfl
set_option maxRecDepth 100000 in
set_option maxHeartbeats 4000000 in
theorem bk_372_0 {b : Bool} {d : Nat} {x1 : Int32} {e : Nat → x_E} {g : Nat → Int32} {q : Nat → Int64} {c : Nat → Nat → Int32} {l : Nat → Nat → Int64} {g' : Nat → Int32} {q' : Nat → Int64} {c' : Nat → Nat → Int32} {l' : Nat → Nat → Int64} {v : Int32} {R : Option Value × List x_E} (hc : rr b e d 337 0 [(0, .ref 49)] [] g q c l (some (.int v), rH e g' q' c' l')) (h : rr b e (d + 1) 372 4 [(0, .ref 49), (1, .int x1)] [.int v] g' q' c' l' R) : rr b e (d + 1) 372 0 [(0, .ref 49), (1, .int x1)] [] g q c l R := by
  obtain ⟨f1, hc⟩ := hc
  obtain ⟨f2, h⟩ := h
  obtain ⟨f, hf1, hf2⟩ : ∃ f, f1 ≤ f ∧ f2 ≤ f := ⟨max f1 f2, Nat.le_max_left _ _, Nat.le_max_right _ _⟩
  have hc := nrun_fuel f1 f _ _ _ _ _ _ _ _ _ hf1 hc
  have h := nrun_fuel f2 f _ _ _ _ _ _ _ _ _ hf2 h
  refine ⟨f + 2, ?_⟩
  obtain ⟨y, cb, hj⟩ := mq_372
  rw [n_step (st' := [.ref 49]) (pc' := 1) (lv' := [(0, .ref 49), (1, .int x1)]) (hp' := rH e g q c l) (i := .aload_n 0) (len := 1) rfl hj rfl rfl rfl]
  obtain ⟨y2, cb2, hj2⟩ := mq_337
  rw [n_call (f := f) (d := d) (ki := 0) (idx := 337) (j' := 337) (kd := 0) (M' := (y2, cb2, 1, some .boolean, 12, 0, 0, 0)) (avs := [.ref 49]) (r := []) (rv := some (.int v)) (hp1 := rH e g' q' c' l') rfl hj rfl rfl rfl rfl (rq_n rfl rfl hj2 rfl rfl) rfl hc (Nat.le_of_ble_eq_true rfl)]
  exact h
set_option maxRecDepth 100000 in
set_option maxHeartbeats 4000000 in
theorem bk_372_4 {b : Bool} {d : Nat} {t0 x1 : Int32} {e : Nat → x_E} {g : Nat → Int32} {q : Nat → Int64} {c : Nat → Nat → Int32} {l : Nat → Nat → Int64} {R : Option Value × List x_E} (h1 : xCn .eq t0 0 = true → rr b e d 372 8 [(0, .ref 49), (1, .int x1)] [] g q c l R) (h2 : ¬ xCn .eq t0 0 = true → rr b e d 372 7 [] [] g q c l R) : rr b e d 372 4 [(0, .ref 49), (1, .int x1)] [.int t0] g q c l R := by
  have key : ∀ f, nrun xZ (xY (xfm b)) xDT (f + 1) d 372 4 [(0, .ref 49), (1, .int x1)] [.int t0] (rH e g q c l) 0 0 = nrun xZ (xY (xfm b)) xDT f d 372 (if xCn .eq t0 0 = true then 8 else 7) [(0, .ref 49), (1, .int x1)] [] (rH e g q c l) 0 0 := by
    intro f
    obtain ⟨y, cb, hj⟩ := mq_372
    rw [n_step (st' := []) (pc' := (if xCn .eq t0 0 = true then 8 else 7)) (lv' := [(0, .ref 49), (1, .int x1)]) (hp' := rH e g q c l) (i := .ifCond .eq 4) (len := 3) rfl hj rfl rfl rfl]
  by_cases hc : xCn .eq t0 0 = true
  · obtain ⟨f, h⟩ := h1 hc
    refine ⟨f + 1, ?_⟩
    rw [key, if_pos hc]
    exact h
  · obtain ⟨f, h⟩ := h2 hc
    refine ⟨f + 1, ?_⟩
    rw [key, if_neg hc]
    exact nrun_ext f f _ _ R 372 7 [] [(0, .ref 49), (1, .int x1)] [] _ 0 0 122 (Nat.le_refl _) (Nat.le_refl _) (Nat.le_of_ble_eq_true rfl) (lvR_mk [] [0, 1] rfl rfl (by decide) (by decide) (fun _ h => nomatch h) (List.forall_mem_cons.mpr ⟨Or.inr rfl, (List.forall_mem_cons.mpr ⟨Or.inr rfl, (fun _ h => nomatch h)⟩)⟩)) h
set_option maxRecDepth 100000 in
set_option maxHeartbeats 4000000 in
theorem bk_372_7 {b : Bool} {d : Nat} {e : Nat → x_E} {g : Nat → Int32} {q : Nat → Int64} {c : Nat → Nat → Int32} {l : Nat → Nat → Int64} : rr b e d 372 7 [] [] g q c l (none, rH e g q c l) := by
  refine ⟨0 + 1, ?_⟩
  obtain ⟨y, cb, hj⟩ := mq_372
  exact n_ret rfl hj rfl rfl rfl
set_option maxRecDepth 100000 in
set_option maxHeartbeats 4000000 in
theorem bk_372_8 {b : Bool} {d : Nat} {x1 : Int32} {e : Nat → x_E} {g : Nat → Int32} {q : Nat → Int64} {c : Nat → Nat → Int32} {l : Nat → Nat → Int64} {g' : Nat → Int32} {q' : Nat → Int64} {c' : Nat → Nat → Int32} {l' : Nat → Nat → Int64} {v : Int32} {R : Option Value × List x_E} (hc : rr b e d 338 0 [(0, .ref 49), (1, .int x1)] [] g q c l (some (.int v), rH e g' q' c' l')) (h : rr b e (d + 1) 372 13 [(0, .ref 49)] [.int v] g' q' c' l' R) : rr b e (d + 1) 372 8 [(0, .ref 49), (1, .int x1)] [] g q c l R := by
  obtain ⟨f1, hc⟩ := hc
  obtain ⟨f2, h⟩ := h
  obtain ⟨f, hf1, hf2⟩ : ∃ f, f1 ≤ f ∧ f2 ≤ f := ⟨max f1 f2, Nat.le_max_left _ _, Nat.le_max_right _ _⟩
  have hc := nrun_fuel f1 f _ _ _ _ _ _ _ _ _ hf1 hc
  have h := nrun_fuel f2 f _ _ _ _ _ _ _ _ _ hf2 h
  refine ⟨f + 3, ?_⟩
  obtain ⟨y, cb, hj⟩ := mq_372
  rw [n_step (st' := [.ref 49]) (pc' := 9) (lv' := [(0, .ref 49), (1, .int x1)]) (hp' := rH e g q c l) (i := .aload_n 0) (len := 1) rfl hj rfl rfl rfl]
  rw [n_step (st' := [.int x1, .ref 49]) (pc' := 10) (lv' := [(0, .ref 49), (1, .int x1)]) (hp' := rH e g q c l) (i := .iload_n 1) (len := 1) rfl hj rfl rfl rfl]
  obtain ⟨y2, cb2, hj2⟩ := mq_338
  rw [n_call (f := f) (d := d) (ki := 0) (idx := 350) (j' := 338) (kd := 0) (M' := (y2, cb2, 2, some .boolean, 12, 1, 0, 0)) (avs := [.ref 49, .int x1]) (r := []) (rv := some (.int v)) (hp1 := rH e g' q' c' l') rfl hj rfl rfl rfl rfl (rq_n rfl rfl hj2 rfl rfl) rfl hc (Nat.le_of_ble_eq_true rfl)]
  exact nrun_ext f f _ _ R 372 13 [(0, .ref 49)] [(0, .ref 49), (1, .int x1)] [.int v] _ 0 0 122 (Nat.le_refl _) (Nat.le_refl _) (Nat.le_of_ble_eq_true rfl) (lvR_mk [0] [0, 1] rfl rfl (by decide) (by decide) (List.forall_mem_cons.mpr ⟨List.mem_cons_self, (fun _ h => nomatch h)⟩) (List.forall_mem_cons.mpr ⟨Or.inl List.mem_cons_self, (List.forall_mem_cons.mpr ⟨Or.inr rfl, (fun _ h => nomatch h)⟩)⟩)) h
set_option maxRecDepth 100000 in
set_option maxHeartbeats 4000000 in
theorem bk_372_13 {b : Bool} {d : Nat} {t0 : Int32} {e : Nat → x_E} {g : Nat → Int32} {q : Nat → Int64} {c : Nat → Nat → Int32} {l : Nat → Nat → Int64} {R : Option Value × List x_E} (h1 : xCn .eq t0 0 = true → rr b e d 372 23 [(0, .ref 49)] [] g q c l R) (h2 : ¬ xCn .eq t0 0 = true → rr b e d 372 16 [(0, .ref 49)] [] g q c l R) : rr b e d 372 13 [(0, .ref 49)] [.int t0] g q c l R := by
  have key : ∀ f, nrun xZ (xY (xfm b)) xDT (f + 1) d 372 13 [(0, .ref 49)] [.int t0] (rH e g q c l) 0 0 = nrun xZ (xY (xfm b)) xDT f d 372 (if xCn .eq t0 0 = true then 23 else 16) [(0, .ref 49)] [] (rH e g q c l) 0 0 := by
    intro f
    obtain ⟨y, cb, hj⟩ := mq_372
    rw [n_step (st' := []) (pc' := (if xCn .eq t0 0 = true then 23 else 16)) (lv' := [(0, .ref 49)]) (hp' := rH e g q c l) (i := .ifCond .eq 10) (len := 3) rfl hj rfl rfl rfl]
  by_cases hc : xCn .eq t0 0 = true
  · obtain ⟨f, h⟩ := h1 hc
    refine ⟨f + 1, ?_⟩
    rw [key, if_pos hc]
    exact h
  · obtain ⟨f, h⟩ := h2 hc
    refine ⟨f + 1, ?_⟩
    rw [key, if_neg hc]
    exact h
set_option maxRecDepth 100000 in
set_option maxHeartbeats 4000000 in
theorem bk_372_16 {b : Bool} {d : Nat} {e : Nat → x_E} {g : Nat → Int32} {q : Nat → Int64} {c : Nat → Nat → Int32} {l : Nat → Nat → Int64} {g' : Nat → Int32} {q' : Nat → Int64} {c' : Nat → Nat → Int32} {l' : Nat → Nat → Int64} {R : Option Value × List x_E} (hc : rr b e d 322 0 [(0, .ref 49)] [] g q c l (none, rH e g' q' c' l')) (h : rr b e (d + 1) 372 20 [] [] g' q' c' l' R) : rr b e (d + 1) 372 16 [(0, .ref 49)] [] g q c l R := by
  obtain ⟨f1, hc⟩ := hc
  obtain ⟨f2, h⟩ := h
  obtain ⟨f, hf1, hf2⟩ : ∃ f, f1 ≤ f ∧ f2 ≤ f := ⟨max f1 f2, Nat.le_max_left _ _, Nat.le_max_right _ _⟩
  have hc := nrun_fuel f1 f _ _ _ _ _ _ _ _ _ hf1 hc
  have h := nrun_fuel f2 f _ _ _ _ _ _ _ _ _ hf2 h
  refine ⟨f + 2, ?_⟩
  obtain ⟨y, cb, hj⟩ := mq_372
  rw [n_step (st' := [.ref 49]) (pc' := 17) (lv' := [(0, .ref 49)]) (hp' := rH e g q c l) (i := .aload_n 0) (len := 1) rfl hj rfl rfl rfl]
  obtain ⟨y2, cb2, hj2⟩ := mq_322
  rw [n_call (f := f) (d := d) (ki := 0) (idx := 344) (j' := 322) (kd := 0) (M' := (y2, cb2, 2, none, 12, 0, 0, 0)) (avs := [.ref 49]) (r := []) (rv := none) (hp1 := rH e g' q' c' l') rfl hj rfl rfl rfl rfl (rq_n rfl rfl hj2 rfl rfl) rfl hc (Nat.le_of_ble_eq_true rfl)]
  exact nrun_ext f f _ _ R 372 20 [] [(0, .ref 49)] [] _ 0 0 122 (Nat.le_refl _) (Nat.le_refl _) (Nat.le_of_ble_eq_true rfl) (lvR_mk [] [0] rfl rfl (by decide) (by decide) (fun _ h => nomatch h) (List.forall_mem_cons.mpr ⟨Or.inr rfl, (fun _ h => nomatch h)⟩)) h
set_option maxRecDepth 100000 in
set_option maxHeartbeats 4000000 in
theorem bk_372_20 {b : Bool} {d : Nat} {e : Nat → x_E} {g : Nat → Int32} {q : Nat → Int64} {c : Nat → Nat → Int32} {l : Nat → Nat → Int64} {R : Option Value × List x_E} (h : rr b e d 372 27 [] [] g q c l R) : rr b e d 372 20 [] [] g q c l R := by
  obtain ⟨f, h⟩ := h
  refine ⟨f + 1, ?_⟩
  obtain ⟨y, cb, hj⟩ := mq_372
  rw [n_step (st' := []) (pc' := 27) (lv' := []) (hp' := rH e g q c l) (i := .goto 7) (len := 3) rfl hj rfl rfl rfl]
  exact h
set_option maxRecDepth 100000 in
set_option maxHeartbeats 4000000 in
theorem bk_372_23 {b : Bool} {d : Nat} {e : Nat → x_E} {g : Nat → Int32} {q : Nat → Int64} {c : Nat → Nat → Int32} {l : Nat → Nat → Int64} {g' : Nat → Int32} {q' : Nat → Int64} {c' : Nat → Nat → Int32} {l' : Nat → Nat → Int64} {R : Option Value × List x_E} (hc : rr b e d 342 0 [(0, .ref 49)] [] g q c l (none, rH e g' q' c' l')) (h : rr b e (d + 1) 372 27 [] [] g' q' c' l' R) : rr b e (d + 1) 372 23 [(0, .ref 49)] [] g q c l R := by
  obtain ⟨f1, hc⟩ := hc
  obtain ⟨f2, h⟩ := h
  obtain ⟨f, hf1, hf2⟩ : ∃ f, f1 ≤ f ∧ f2 ≤ f := ⟨max f1 f2, Nat.le_max_left _ _, Nat.le_max_right _ _⟩
  have hc := nrun_fuel f1 f _ _ _ _ _ _ _ _ _ hf1 hc
  have h := nrun_fuel f2 f _ _ _ _ _ _ _ _ _ hf2 h
  refine ⟨f + 2, ?_⟩
  obtain ⟨y, cb, hj⟩ := mq_372
  rw [n_step (st' := [.ref 49]) (pc' := 24) (lv' := [(0, .ref 49)]) (hp' := rH e g q c l) (i := .aload_n 0) (len := 1) rfl hj rfl rfl rfl]
  obtain ⟨y2, cb2, hj2⟩ := mq_342
  rw [n_call (f := f) (d := d) (ki := 0) (idx := 347) (j' := 342) (kd := 0) (M' := (y2, cb2, 1, none, 12, 0, 0, 0)) (avs := [.ref 49]) (r := []) (rv := none) (hp1 := rH e g' q' c' l') rfl hj rfl rfl rfl rfl (rq_n rfl rfl hj2 rfl rfl) rfl hc (Nat.le_of_ble_eq_true rfl)]
  exact nrun_ext f f _ _ R 372 27 [] [(0, .ref 49)] [] _ 0 0 122 (Nat.le_refl _) (Nat.le_refl _) (Nat.le_of_ble_eq_true rfl) (lvR_mk [] [0] rfl rfl (by decide) (by decide) (fun _ h => nomatch h) (List.forall_mem_cons.mpr ⟨Or.inr rfl, (fun _ h => nomatch h)⟩)) h
set_option maxRecDepth 100000 in
set_option maxHeartbeats 4000000 in
theorem bk_372_27 {b : Bool} {d : Nat} {e : Nat → x_E} {g : Nat → Int32} {q : Nat → Int64} {c : Nat → Nat → Int32} {l : Nat → Nat → Int64} : rr b e d 372 27 [] [] g q c l (none, rH e g q c l) := by
  refine ⟨0 + 1, ?_⟩
  obtain ⟨y, cb, hj⟩ := mq_372
  exact n_ret rfl hj rfl rfl rfl
set_option maxRecDepth 100000 in
set_option maxHeartbeats 4000000 in
theorem bk_373_0 {b : Bool} {d : Nat} {e : Nat → x_E} {g : Nat → Int32} {q : Nat → Int64} {c : Nat → Nat → Int32} {l : Nat → Nat → Int64} {g' : Nat → Int32} {q' : Nat → Int64} {c' : Nat → Nat → Int32} {l' : Nat → Nat → Int64} {v : Int32} {R : Option Value × List x_E} (hc : rr b e d 374 0 [(0, .ref 49)] [] g q c l (some (.int v), rH e g' q' c' l')) (h : rr b e (d + 1) 373 9 [(0, .ref 49), (1, .int (g 11))] [.int v] g' q' c' l' R) : rr b e (d + 1) 373 0 [(0, .ref 49)] [] g q c l R := by
  obtain ⟨f1, hc⟩ := hc
  obtain ⟨f2, h⟩ := h
  obtain ⟨f, hf1, hf2⟩ : ∃ f, f1 ≤ f ∧ f2 ≤ f := ⟨max f1 f2, Nat.le_max_left _ _, Nat.le_max_right _ _⟩
  have hc := nrun_fuel f1 f _ _ _ _ _ _ _ _ _ hf1 hc
  have h := nrun_fuel f2 f _ _ _ _ _ _ _ _ _ hf2 h
  refine ⟨f + 5, ?_⟩
  obtain ⟨y, cb, hj⟩ := mq_373
  rw [n_step (st' := [.ref 49]) (pc' := 1) (lv' := [(0, .ref 49)]) (hp' := rH e g q c l) (i := .aload_n 0) (len := 1) rfl hj rfl rfl rfl]
  rw [n_get (st' := [.int (g 11)]) (pc' := 4) (lv' := [(0, .ref 49)]) (hp' := rH e g q c l) (i := .getfield 257) (len := 3) rfl hj rfl rfl rfl rfl]
  rw [n_step (st' := []) (pc' := 5) (lv' := [(1, .int (g 11)), (0, .ref 49)]) (hp' := rH e g q c l) (i := .istore_n 1) (len := 1) rfl hj rfl rfl rfl]
  rw [n_step (st' := [.ref 49]) (pc' := 6) (lv' := [(1, .int (g 11)), (0, .ref 49)]) (hp' := rH e g q c l) (i := .aload_n 0) (len := 1) rfl hj rfl rfl rfl]
  obtain ⟨y2, cb2, hj2⟩ := mq_374
  rw [n_call (f := f) (d := d) (ki := 0) (idx := 502) (j' := 374) (kd := 0) (M' := (y2, cb2, 5, some .int, 12, 0, 0, 0)) (avs := [.ref 49]) (r := []) (rv := some (.int v)) (hp1 := rH e g' q' c' l') rfl hj rfl rfl rfl rfl (rq_n rfl rfl hj2 rfl rfl) rfl hc (Nat.le_of_ble_eq_true rfl)]
  exact nrun_ext f f _ _ R 373 9 [(0, .ref 49), (1, .int (g 11))] [(1, .int (g 11)), (0, .ref 49)] [.int v] _ 0 0 122 (Nat.le_refl _) (Nat.le_refl _) (Nat.le_of_ble_eq_true rfl) (lvR_mk [0, 1] [1, 0] rfl rfl (by decide) (by decide) (List.forall_mem_cons.mpr ⟨(List.mem_cons_of_mem _ List.mem_cons_self), (List.forall_mem_cons.mpr ⟨List.mem_cons_self, (fun _ h => nomatch h)⟩)⟩) (List.forall_mem_cons.mpr ⟨Or.inl (List.mem_cons_of_mem _ List.mem_cons_self), (List.forall_mem_cons.mpr ⟨Or.inl List.mem_cons_self, (fun _ h => nomatch h)⟩)⟩)) h
set_option maxRecDepth 100000 in
set_option maxHeartbeats 4000000 in
theorem bk_373_9 {b : Bool} {d : Nat} {t0 x1 : Int32} {e : Nat → x_E} {g : Nat → Int32} {q : Nat → Int64} {c : Nat → Nat → Int32} {l : Nat → Nat → Int64} {R : Option Value × List x_E} (h : rr b e d 373 10 [(0, .ref 49), (1, .int x1), (2, .int t0)] [] g q c l R) : rr b e d 373 9 [(0, .ref 49), (1, .int x1)] [.int t0] g q c l R := by
  obtain ⟨f, h⟩ := h
  refine ⟨f + 1, ?_⟩
  obtain ⟨y, cb, hj⟩ := mq_373
  rw [n_step (st' := []) (pc' := 10) (lv' := [(2, .int t0), (0, .ref 49), (1, .int x1)]) (hp' := rH e g q c l) (i := .istore_n 2) (len := 1) rfl hj rfl rfl rfl]
  exact nrun_ext f f _ _ R 373 10 [(0, .ref 49), (1, .int x1), (2, .int t0)] [(2, .int t0), (0, .ref 49), (1, .int x1)] [] _ 0 0 122 (Nat.le_refl _) (Nat.le_refl _) (Nat.le_of_ble_eq_true rfl) (lvR_mk [0, 1, 2] [2, 0, 1] rfl rfl (by decide) (by decide) (List.forall_mem_cons.mpr ⟨(List.mem_cons_of_mem _ List.mem_cons_self), (List.forall_mem_cons.mpr ⟨(List.mem_cons_of_mem _ (List.mem_cons_of_mem _ List.mem_cons_self)), (List.forall_mem_cons.mpr ⟨List.mem_cons_self, (fun _ h => nomatch h)⟩)⟩)⟩) (List.forall_mem_cons.mpr ⟨Or.inl (List.mem_cons_of_mem _ (List.mem_cons_of_mem _ List.mem_cons_self)), (List.forall_mem_cons.mpr ⟨Or.inl List.mem_cons_self, (List.forall_mem_cons.mpr ⟨Or.inl (List.mem_cons_of_mem _ List.mem_cons_self), (fun _ h => nomatch h)⟩)⟩)⟩)) h
set_option maxRecDepth 100000 in
set_option maxHeartbeats 4000000 in
theorem bk_373_10 {b : Bool} {d : Nat} {x1 x2 : Int32} {e : Nat → x_E} {g : Nat → Int32} {q : Nat → Int64} {c : Nat → Nat → Int32} {l : Nat → Nat → Int64} {g' : Nat → Int32} {q' : Nat → Int64} {c' : Nat → Nat → Int32} {l' : Nat → Nat → Int64} {v : Int32} {R : Option Value × List x_E} (hc : rr b e d 337 0 [(0, .ref 49)] [] g q c l (some (.int v), rH e g' q' c' l')) (h : rr b e (d + 1) 373 14 [(0, .ref 49), (1, .int x1), (2, .int x2)] [.int v] g' q' c' l' R) : rr b e (d + 1) 373 10 [(0, .ref 49), (1, .int x1), (2, .int x2)] [] g q c l R := by
  obtain ⟨f1, hc⟩ := hc
  obtain ⟨f2, h⟩ := h
  obtain ⟨f, hf1, hf2⟩ : ∃ f, f1 ≤ f ∧ f2 ≤ f := ⟨max f1 f2, Nat.le_max_left _ _, Nat.le_max_right _ _⟩
  have hc := nrun_fuel f1 f _ _ _ _ _ _ _ _ _ hf1 hc
  have h := nrun_fuel f2 f _ _ _ _ _ _ _ _ _ hf2 h
  refine ⟨f + 2, ?_⟩
  obtain ⟨y, cb, hj⟩ := mq_373
  rw [n_step (st' := [.ref 49]) (pc' := 11) (lv' := [(0, .ref 49), (1, .int x1), (2, .int x2)]) (hp' := rH e g q c l) (i := .aload_n 0) (len := 1) rfl hj rfl rfl rfl]
  obtain ⟨y2, cb2, hj2⟩ := mq_337
  rw [n_call (f := f) (d := d) (ki := 0) (idx := 337) (j' := 337) (kd := 0) (M' := (y2, cb2, 1, some .boolean, 12, 0, 0, 0)) (avs := [.ref 49]) (r := []) (rv := some (.int v)) (hp1 := rH e g' q' c' l') rfl hj rfl rfl rfl rfl (rq_n rfl rfl hj2 rfl rfl) rfl hc (Nat.le_of_ble_eq_true rfl)]
  exact h
set_option maxRecDepth 100000 in
set_option maxHeartbeats 4000000 in
theorem bk_373_14 {b : Bool} {d : Nat} {t0 x1 x2 : Int32} {e : Nat → x_E} {g : Nat → Int32} {q : Nat → Int64} {c : Nat → Nat → Int32} {l : Nat → Nat → Int64} {R : Option Value × List x_E} (h1 : xCn .ne t0 0 = true → rr b e d 373 118 [(2, .int x2)] [] g q c l R) (h2 : ¬ xCn .ne t0 0 = true → rr b e d 373 17 [(0, .ref 49), (1, .int x1), (2, .int x2)] [] g q c l R) : rr b e d 373 14 [(0, .ref 49), (1, .int x1), (2, .int x2)] [.int t0] g q c l R := by
  have key : ∀ f, nrun xZ (xY (xfm b)) xDT (f + 1) d 373 14 [(0, .ref 49), (1, .int x1), (2, .int x2)] [.int t0] (rH e g q c l) 0 0 = nrun xZ (xY (xfm b)) xDT f d 373 (if xCn .ne t0 0 = true then 118 else 17) [(0, .ref 49), (1, .int x1), (2, .int x2)] [] (rH e g q c l) 0 0 := by
    intro f
    obtain ⟨y, cb, hj⟩ := mq_373
    rw [n_step (st' := []) (pc' := (if xCn .ne t0 0 = true then 118 else 17)) (lv' := [(0, .ref 49), (1, .int x1), (2, .int x2)]) (hp' := rH e g q c l) (i := .ifCond .ne 104) (len := 3) rfl hj rfl rfl rfl]
  by_cases hc : xCn .ne t0 0 = true
  · obtain ⟨f, h⟩ := h1 hc
    refine ⟨f + 1, ?_⟩
    rw [key, if_pos hc]
    exact nrun_ext f f _ _ R 373 118 [(2, .int x2)] [(0, .ref 49), (1, .int x1), (2, .int x2)] [] _ 0 0 122 (Nat.le_refl _) (Nat.le_refl _) (Nat.le_of_ble_eq_true rfl) (lvR_mk [2] [0, 1, 2] rfl rfl (by decide) (by decide) (List.forall_mem_cons.mpr ⟨(List.mem_cons_of_mem _ (List.mem_cons_of_mem _ List.mem_cons_self)), (fun _ h => nomatch h)⟩) (List.forall_mem_cons.mpr ⟨Or.inr rfl, (List.forall_mem_cons.mpr ⟨Or.inr rfl, (List.forall_mem_cons.mpr ⟨Or.inl List.mem_cons_self, (fun _ h => nomatch h)⟩)⟩)⟩)) h
  · obtain ⟨f, h⟩ := h2 hc
    refine ⟨f + 1, ?_⟩
    rw [key, if_neg hc]
    exact h
set_option maxRecDepth 100000 in
set_option maxHeartbeats 4000000 in
theorem bk_373_17 {b : Bool} {d : Nat} {x1 x2 : Int32} {e : Nat → x_E} {g : Nat → Int32} {q : Nat → Int64} {c : Nat → Nat → Int32} {l : Nat → Nat → Int64} {g' : Nat → Int32} {q' : Nat → Int64} {c' : Nat → Nat → Int32} {l' : Nat → Nat → Int64} {v : Int32} {R : Option Value × List x_E} (hc : rr b e d 344 0 [(0, .ref 49), (1, .int (Int8.ofInt (43)).toInt32)] [] g q c l (some (.int v), rH e g' q' c' l')) (h : rr b e (d + 1) 373 23 [(0, .ref 49), (1, .int x1), (2, .int x2)] [.int v] g' q' c' l' R) : rr b e (d + 1) 373 17 [(0, .ref 49), (1, .int x1), (2, .int x2)] [] g q c l R := by
  obtain ⟨f1, hc⟩ := hc
  obtain ⟨f2, h⟩ := h
  obtain ⟨f, hf1, hf2⟩ : ∃ f, f1 ≤ f ∧ f2 ≤ f := ⟨max f1 f2, Nat.le_max_left _ _, Nat.le_max_right _ _⟩
  have hc := nrun_fuel f1 f _ _ _ _ _ _ _ _ _ hf1 hc
  have h := nrun_fuel f2 f _ _ _ _ _ _ _ _ _ hf2 h
  refine ⟨f + 3, ?_⟩
  obtain ⟨y, cb, hj⟩ := mq_373
  rw [n_step (st' := [.ref 49]) (pc' := 18) (lv' := [(0, .ref 49), (1, .int x1), (2, .int x2)]) (hp' := rH e g q c l) (i := .aload_n 0) (len := 1) rfl hj rfl rfl rfl]
  rw [n_step (st' := [.int (Int8.ofInt (43)).toInt32, .ref 49]) (pc' := 20) (lv' := [(0, .ref 49), (1, .int x1), (2, .int x2)]) (hp' := rH e g q c l) (i := .bipush 43) (len := 2) rfl hj rfl rfl rfl]
  obtain ⟨y2, cb2, hj2⟩ := mq_344
  rw [n_call (f := f) (d := d) (ki := 0) (idx := 341) (j' := 344) (kd := 0) (M' := (y2, cb2, 2, some .boolean, 12, 1, 0, 0)) (avs := [.ref 49, .int (Int8.ofInt (43)).toInt32]) (r := []) (rv := some (.int v)) (hp1 := rH e g' q' c' l') rfl hj rfl rfl rfl rfl (rq_n rfl rfl hj2 rfl rfl) rfl hc (Nat.le_of_ble_eq_true rfl)]
  exact h
set_option maxRecDepth 100000 in
set_option maxHeartbeats 4000000 in
theorem bk_373_23 {b : Bool} {d : Nat} {t0 x1 x2 : Int32} {e : Nat → x_E} {g : Nat → Int32} {q : Nat → Int64} {c : Nat → Nat → Int32} {l : Nat → Nat → Int64} {R : Option Value × List x_E} (h1 : xCn .ne t0 0 = true → rr b e d 373 35 [(0, .ref 49), (1, .int x1), (2, .int x2)] [] g q c l R) (h2 : ¬ xCn .ne t0 0 = true → rr b e d 373 26 [(0, .ref 49), (1, .int x1), (2, .int x2)] [] g q c l R) : rr b e d 373 23 [(0, .ref 49), (1, .int x1), (2, .int x2)] [.int t0] g q c l R := by
  have key : ∀ f, nrun xZ (xY (xfm b)) xDT (f + 1) d 373 23 [(0, .ref 49), (1, .int x1), (2, .int x2)] [.int t0] (rH e g q c l) 0 0 = nrun xZ (xY (xfm b)) xDT f d 373 (if xCn .ne t0 0 = true then 35 else 26) [(0, .ref 49), (1, .int x1), (2, .int x2)] [] (rH e g q c l) 0 0 := by
    intro f
    obtain ⟨y, cb, hj⟩ := mq_373
    rw [n_step (st' := []) (pc' := (if xCn .ne t0 0 = true then 35 else 26)) (lv' := [(0, .ref 49), (1, .int x1), (2, .int x2)]) (hp' := rH e g q c l) (i := .ifCond .ne 12) (len := 3) rfl hj rfl rfl rfl]
  by_cases hc : xCn .ne t0 0 = true
  · obtain ⟨f, h⟩ := h1 hc
    refine ⟨f + 1, ?_⟩
    rw [key, if_pos hc]
    exact h
  · obtain ⟨f, h⟩ := h2 hc
    refine ⟨f + 1, ?_⟩
    rw [key, if_neg hc]
    exact h
set_option maxRecDepth 100000 in
set_option maxHeartbeats 4000000 in
theorem bk_373_26 {b : Bool} {d : Nat} {x1 x2 : Int32} {e : Nat → x_E} {g : Nat → Int32} {q : Nat → Int64} {c : Nat → Nat → Int32} {l : Nat → Nat → Int64} {g' : Nat → Int32} {q' : Nat → Int64} {c' : Nat → Nat → Int32} {l' : Nat → Nat → Int64} {v : Int32} {R : Option Value × List x_E} (hc : rr b e d 344 0 [(0, .ref 49), (1, .int (Int8.ofInt (45)).toInt32)] [] g q c l (some (.int v), rH e g' q' c' l')) (h : rr b e (d + 1) 373 32 [(0, .ref 49), (1, .int x1), (2, .int x2)] [.int v] g' q' c' l' R) : rr b e (d + 1) 373 26 [(0, .ref 49), (1, .int x1), (2, .int x2)] [] g q c l R := by
  obtain ⟨f1, hc⟩ := hc
  obtain ⟨f2, h⟩ := h
  obtain ⟨f, hf1, hf2⟩ : ∃ f, f1 ≤ f ∧ f2 ≤ f := ⟨max f1 f2, Nat.le_max_left _ _, Nat.le_max_right _ _⟩
  have hc := nrun_fuel f1 f _ _ _ _ _ _ _ _ _ hf1 hc
  have h := nrun_fuel f2 f _ _ _ _ _ _ _ _ _ hf2 h
  refine ⟨f + 3, ?_⟩
  obtain ⟨y, cb, hj⟩ := mq_373
  rw [n_step (st' := [.ref 49]) (pc' := 27) (lv' := [(0, .ref 49), (1, .int x1), (2, .int x2)]) (hp' := rH e g q c l) (i := .aload_n 0) (len := 1) rfl hj rfl rfl rfl]
  rw [n_step (st' := [.int (Int8.ofInt (45)).toInt32, .ref 49]) (pc' := 29) (lv' := [(0, .ref 49), (1, .int x1), (2, .int x2)]) (hp' := rH e g q c l) (i := .bipush 45) (len := 2) rfl hj rfl rfl rfl]
  obtain ⟨y2, cb2, hj2⟩ := mq_344
  rw [n_call (f := f) (d := d) (ki := 0) (idx := 341) (j' := 344) (kd := 0) (M' := (y2, cb2, 2, some .boolean, 12, 1, 0, 0)) (avs := [.ref 49, .int (Int8.ofInt (45)).toInt32]) (r := []) (rv := some (.int v)) (hp1 := rH e g' q' c' l') rfl hj rfl rfl rfl rfl (rq_n rfl rfl hj2 rfl rfl) rfl hc (Nat.le_of_ble_eq_true rfl)]
  exact h
set_option maxRecDepth 100000 in
set_option maxHeartbeats 4000000 in
theorem bk_373_32 {b : Bool} {d : Nat} {t0 x1 x2 : Int32} {e : Nat → x_E} {g : Nat → Int32} {q : Nat → Int64} {c : Nat → Nat → Int32} {l : Nat → Nat → Int64} {R : Option Value × List x_E} (h1 : xCn .eq t0 0 = true → rr b e d 373 118 [(2, .int x2)] [] g q c l R) (h2 : ¬ xCn .eq t0 0 = true → rr b e d 373 35 [(0, .ref 49), (1, .int x1), (2, .int x2)] [] g q c l R) : rr b e d 373 32 [(0, .ref 49), (1, .int x1), (2, .int x2)] [.int t0] g q c l R := by
  have key : ∀ f, nrun xZ (xY (xfm b)) xDT (f + 1) d 373 32 [(0, .ref 49), (1, .int x1), (2, .int x2)] [.int t0] (rH e g q c l) 0 0 = nrun xZ (xY (xfm b)) xDT f d 373 (if xCn .eq t0 0 = true then 118 else 35) [(0, .ref 49), (1, .int x1), (2, .int x2)] [] (rH e g q c l) 0 0 := by
    intro f
    obtain ⟨y, cb, hj⟩ := mq_373
    rw [n_step (st' := []) (pc' := (if xCn .eq t0 0 = true then 118 else 35)) (lv' := [(0, .ref 49), (1, .int x1), (2, .int x2)]) (hp' := rH e g q c l) (i := .ifCond .eq 86) (len := 3) rfl hj rfl rfl rfl]
  by_cases hc : xCn .eq t0 0 = true
  · obtain ⟨f, h⟩ := h1 hc
    refine ⟨f + 1, ?_⟩
    rw [key, if_pos hc]
    exact nrun_ext f f _ _ R 373 118 [(2, .int x2)] [(0, .ref 49), (1, .int x1), (2, .int x2)] [] _ 0 0 122 (Nat.le_refl _) (Nat.le_refl _) (Nat.le_of_ble_eq_true rfl) (lvR_mk [2] [0, 1, 2] rfl rfl (by decide) (by decide) (List.forall_mem_cons.mpr ⟨(List.mem_cons_of_mem _ (List.mem_cons_of_mem _ List.mem_cons_self)), (fun _ h => nomatch h)⟩) (List.forall_mem_cons.mpr ⟨Or.inr rfl, (List.forall_mem_cons.mpr ⟨Or.inr rfl, (List.forall_mem_cons.mpr ⟨Or.inl List.mem_cons_self, (fun _ h => nomatch h)⟩)⟩)⟩)) h
  · obtain ⟨f, h⟩ := h2 hc
    refine ⟨f + 1, ?_⟩
    rw [key, if_neg hc]
    exact h
set_option maxRecDepth 100000 in
set_option maxHeartbeats 4000000 in
theorem bk_373_35 {b : Bool} {d : Nat} {x1 x2 : Int32} {e : Nat → x_E} {g : Nat → Int32} {q : Nat → Int64} {c : Nat → Nat → Int32} {l : Nat → Nat → Int64} {R : Option Value × List x_E} (h1 : xCn .ne ((g 13)) ((Int8.ofInt (43)).toInt32) = true → rr b e d 373 48 [(0, .ref 49), (1, .int x1), (2, .int x2)] [] g q c l R) (h2 : ¬ xCn .ne ((g 13)) ((Int8.ofInt (43)).toInt32) = true → rr b e d 373 44 [(0, .ref 49), (1, .int x1), (2, .int x2)] [] g q c l R) : rr b e d 373 35 [(0, .ref 49), (1, .int x1), (2, .int x2)] [] g q c l R := by
  have key : ∀ f, nrun xZ (xY (xfm b)) xDT (f + 4) d 373 35 [(0, .ref 49), (1, .int x1), (2, .int x2)] [] (rH e g q c l) 0 0 = nrun xZ (xY (xfm b)) xDT f d 373 (if xCn .ne ((g 13)) ((Int8.ofInt (43)).toInt32) = true then 48 else 44) [(0, .ref 49), (1, .int x1), (2, .int x2)] [] (rH e g q c l) 0 0 := by
    intro f
    obtain ⟨y, cb, hj⟩ := mq_373
    rw [n_step (st' := [.ref 49]) (pc' := 36) (lv' := [(0, .ref 49), (1, .int x1), (2, .int x2)]) (hp' := rH e g q c l) (i := .aload_n 0) (len := 1) rfl hj rfl rfl rfl]
    rw [n_get (st' := [.int (g 13)]) (pc' := 39) (lv' := [(0, .ref 49), (1, .int x1), (2, .int x2)]) (hp' := rH e g q c l) (i := .getfield 270) (len := 3) rfl hj rfl rfl rfl rfl]
    rw [n_step (st' := [.int (Int8.ofInt (43)).toInt32, .int (g 13)]) (pc' := 41) (lv' := [(0, .ref 49), (1, .int x1), (2, .int x2)]) (hp' := rH e g q c l) (i := .bipush 43) (len := 2) rfl hj rfl rfl rfl]
    rw [n_step (st' := []) (pc' := (if xCn .ne ((g 13)) ((Int8.ofInt (43)).toInt32) = true then 48 else 44)) (lv' := [(0, .ref 49), (1, .int x1), (2, .int x2)]) (hp' := rH e g q c l) (i := .if_icmp .ne 7) (len := 3) rfl hj rfl rfl rfl]
  by_cases hc : xCn .ne ((g 13)) ((Int8.ofInt (43)).toInt32) = true
  · obtain ⟨f, h⟩ := h1 hc
    refine ⟨f + 4, ?_⟩
    rw [key, if_pos hc]
    exact h
  · obtain ⟨f, h⟩ := h2 hc
    refine ⟨f + 4, ?_⟩
    rw [key, if_neg hc]
    exact h
set_option maxRecDepth 100000 in
set_option maxHeartbeats 4000000 in
theorem bk_373_44 {b : Bool} {d : Nat} {x1 x2 : Int32} {e : Nat → x_E} {g : Nat → Int32} {q : Nat → Int64} {c : Nat → Nat → Int32} {l : Nat → Nat → Int64} {R : Option Value × List x_E} (h : rr b e d 373 50 [(0, .ref 49), (1, .int x1), (2, .int x2)] [.int (Int32.ofInt (5))] g q c l R) : rr b e d 373 44 [(0, .ref 49), (1, .int x1), (2, .int x2)] [] g q c l R := by
  obtain ⟨f, h⟩ := h
  refine ⟨f + 2, ?_⟩
  obtain ⟨y, cb, hj⟩ := mq_373
  rw [n_step (st' := [.int (Int32.ofInt (5))]) (pc' := 45) (lv' := [(0, .ref 49), (1, .int x1), (2, .int x2)]) (hp' := rH e g q c l) (i := .iconst 5) (len := 1) rfl hj rfl rfl rfl]
  rw [n_step (st' := [.int (Int32.ofInt (5))]) (pc' := 50) (lv' := [(0, .ref 49), (1, .int x1), (2, .int x2)]) (hp' := rH e g q c l) (i := .goto 5) (len := 3) rfl hj rfl rfl rfl]
  exact h
set_option maxRecDepth 100000 in
set_option maxHeartbeats 4000000 in
theorem bk_373_48 {b : Bool} {d : Nat} {x1 x2 : Int32} {e : Nat → x_E} {g : Nat → Int32} {q : Nat → Int64} {c : Nat → Nat → Int32} {l : Nat → Nat → Int64} {R : Option Value × List x_E} (h : rr b e d 373 50 [(0, .ref 49), (1, .int x1), (2, .int x2)] [.int (Int8.ofInt (6)).toInt32] g q c l R) : rr b e d 373 48 [(0, .ref 49), (1, .int x1), (2, .int x2)] [] g q c l R := by
  obtain ⟨f, h⟩ := h
  refine ⟨f + 1, ?_⟩
  obtain ⟨y, cb, hj⟩ := mq_373
  rw [n_step (st' := [.int (Int8.ofInt (6)).toInt32]) (pc' := 50) (lv' := [(0, .ref 49), (1, .int x1), (2, .int x2)]) (hp' := rH e g q c l) (i := .bipush 6) (len := 2) rfl hj rfl rfl rfl]
  exact h
set_option maxRecDepth 100000 in
set_option maxHeartbeats 4000000 in
theorem bk_373_50 {b : Bool} {d : Nat} {t0 x1 x2 : Int32} {e : Nat → x_E} {g : Nat → Int32} {q : Nat → Int64} {c : Nat → Nat → Int32} {l : Nat → Nat → Int64} {g' : Nat → Int32} {q' : Nat → Int64} {c' : Nat → Nat → Int32} {l' : Nat → Nat → Int64} {v : Int32} {R : Option Value × List x_E} (hc : rr b e d 385 0 [(0, .ref 49), (1, .int x2), (2, .int x1)] [] g q c l (some (.int v), rH e g' q' c' l')) (h : rr b e (d + 1) 373 57 [(0, .ref 49), (1, .int x1), (3, .int t0)] [.int v] g' q' c' l' R) : rr b e (d + 1) 373 50 [(0, .ref 49), (1, .int x1), (2, .int x2)] [.int t0] g q c l R := by
  obtain ⟨f1, hc⟩ := hc
  obtain ⟨f2, h⟩ := h
  obtain ⟨f, hf1, hf2⟩ : ∃ f, f1 ≤ f ∧ f2 ≤ f := ⟨max f1 f2, Nat.le_max_left _ _, Nat.le_max_right _ _⟩
  have hc := nrun_fuel f1 f _ _ _ _ _ _ _ _ _ hf1 hc
  have h := nrun_fuel f2 f _ _ _ _ _ _ _ _ _ hf2 h
  refine ⟨f + 5, ?_⟩
  obtain ⟨y, cb, hj⟩ := mq_373
  rw [n_step (st' := []) (pc' := 51) (lv' := [(3, .int t0), (0, .ref 49), (1, .int x1), (2, .int x2)]) (hp' := rH e g q c l) (i := .istore_n 3) (len := 1) rfl hj rfl rfl rfl]
  rw [n_step (st' := [.ref 49]) (pc' := 52) (lv' := [(3, .int t0), (0, .ref 49), (1, .int x1), (2, .int x2)]) (hp' := rH e g q c l) (i := .aload_n 0) (len := 1) rfl hj rfl rfl rfl]
  rw [n_step (st' := [.int x2, .ref 49]) (pc' := 53) (lv' := [(3, .int t0), (0, .ref 49), (1, .int x1), (2, .int x2)]) (hp' := rH e g q c l) (i := .iload_n 2) (len := 1) rfl hj rfl rfl rfl]
  rw [n_step (st' := [.int x1, .int x2, .ref 49]) (pc' := 54) (lv' := [(3, .int t0), (0, .ref 49), (1, .int x1), (2, .int x2)]) (hp' := rH e g q c l) (i := .iload_n 1) (len := 1) rfl hj rfl rfl rfl]
  obtain ⟨y2, cb2, hj2⟩ := mq_385
  rw [n_call (f := f) (d := d) (ki := 0) (idx := 505) (j' := 385) (kd := 0) (M' := (y2, cb2, 3, some .boolean, 12, 2, 0, 0)) (avs := [.ref 49, .int x2, .int x1]) (r := []) (rv := some (.int v)) (hp1 := rH e g' q' c' l') rfl hj rfl rfl rfl rfl (rq_n rfl rfl hj2 rfl rfl) rfl hc (Nat.le_of_ble_eq_true rfl)]
  exact nrun_ext f f _ _ R 373 57 [(0, .ref 49), (1, .int x1), (3, .int t0)] [(3, .int t0), (0, .ref 49), (1, .int x1), (2, .int x2)] [.int v] _ 0 0 122 (Nat.le_refl _) (Nat.le_refl _) (Nat.le_of_ble_eq_true rfl) (lvR_mk [0, 1, 3] [3, 0, 1, 2] rfl rfl (by decide) (by decide) (List.forall_mem_cons.mpr ⟨(List.mem_cons_of_mem _ List.mem_cons_self), (List.forall_mem_cons.mpr ⟨(List.mem_cons_of_mem _ (List.mem_cons_of_mem _ List.mem_cons_self)), (List.forall_mem_cons.mpr ⟨List.mem_cons_self, (fun _ h => nomatch h)⟩)⟩)⟩) (List.forall_mem_cons.mpr ⟨Or.inl (List.mem_cons_of_mem _ (List.mem_cons_of_mem _ List.mem_cons_self)), (List.forall_mem_cons.mpr ⟨Or.inl List.mem_cons_self, (List.forall_mem_cons.mpr ⟨Or.inl (List.mem_cons_of_mem _ List.mem_cons_self), (List.forall_mem_cons.mpr ⟨Or.inr rfl, (fun _ h => nomatch h)⟩)⟩)⟩)⟩)) h
set_option maxRecDepth 100000 in
set_option maxHeartbeats 4000000 in
theorem bk_373_57 {b : Bool} {d : Nat} {t0 x1 x3 : Int32} {e : Nat → x_E} {g : Nat → Int32} {q : Nat → Int64} {c : Nat → Nat → Int32} {l : Nat → Nat → Int64} {g' : Nat → Int32} {q' : Nat → Int64} {c' : Nat → Nat → Int32} {l' : Nat → Nat → Int64} {R : Option Value × List x_E} (hc : rr b e d 322 0 [(0, .ref 49)] [] g q c l (none, rH e g' q' c' l')) (h : rr b e (d + 1) 373 63 [(0, .ref 49), (1, .int x1), (3, .int x3), (4, .int t0)] [] g' q' c' l' R) : rr b e (d + 1) 373 57 [(0, .ref 49), (1, .int x1), (3, .int x3)] [.int t0] g q c l R := by
  obtain ⟨f1, hc⟩ := hc
  obtain ⟨f2, h⟩ := h
  obtain ⟨f, hf1, hf2⟩ : ∃ f, f1 ≤ f ∧ f2 ≤ f := ⟨max f1 f2, Nat.le_max_left _ _, Nat.le_max_right _ _⟩
  have hc := nrun_fuel f1 f _ _ _ _ _ _ _ _ _ hf1 hc
  have h := nrun_fuel f2 f _ _ _ _ _ _ _ _ _ hf2 h
  refine ⟨f + 3, ?_⟩
  obtain ⟨y, cb, hj⟩ := mq_373
  rw [n_step (st' := []) (pc' := 59) (lv' := [(4, .int t0), (0, .ref 49), (1, .int x1), (3, .int x3)]) (hp' := rH e g q c l) (i := .istore 4) (len := 2) rfl hj rfl rfl rfl]
  rw [n_step (st' := [.ref 49]) (pc' := 60) (lv' := [(4, .int t0), (0, .ref 49), (1, .int x1), (3, .int x3)]) (hp' := rH e g q c l) (i := .aload_n 0) (len := 1) rfl hj rfl rfl rfl]
  obtain ⟨y2, cb2, hj2⟩ := mq_322
  rw [n_call (f := f) (d := d) (ki := 0) (idx := 344) (j' := 322) (kd := 0) (M' := (y2, cb2, 2, none, 12, 0, 0, 0)) (avs := [.ref 49]) (r := []) (rv := none) (hp1 := rH e g' q' c' l') rfl hj rfl rfl rfl rfl (rq_n rfl rfl hj2 rfl rfl) rfl hc (Nat.le_of_ble_eq_true rfl)]
  exact nrun_ext f f _ _ R 373 63 [(0, .ref 49), (1, .int x1), (3, .int x3), (4, .int t0)] [(4, .int t0), (0, .ref 49), (1, .int x1), (3, .int x3)] [] _ 0 0 122 (Nat.le_refl _) (Nat.le_refl _) (Nat.le_of_ble_eq_true rfl) (lvR_mk [0, 1, 3, 4] [4, 0, 1, 3] rfl rfl (by decide) (by decide) (List.forall_mem_cons.mpr ⟨(List.mem_cons_of_mem _ List.mem_cons_self), (List.forall_mem_cons.mpr ⟨(List.mem_cons_of_mem _ (List.mem_cons_of_mem _ List.mem_cons_self)), (List.forall_mem_cons.mpr ⟨(List.mem_cons_of_mem _ (List.mem_cons_of_mem _ (List.mem_cons_of_mem _ List.mem_cons_self))), (List.forall_mem_cons.mpr ⟨List.mem_cons_self, (fun _ h => nomatch h)⟩)⟩)⟩)⟩) (List.forall_mem_cons.mpr ⟨Or.inl (List.mem_cons_of_mem _ (List.mem_cons_of_mem _ (List.mem_cons_of_mem _ List.mem_cons_self))), (List.forall_mem_cons.mpr ⟨Or.inl List.mem_cons_self, (List.forall_mem_cons.mpr ⟨Or.inl (List.mem_cons_of_mem _ List.mem_cons_self), (List.forall_mem_cons.mpr ⟨Or.inl (List.mem_cons_of_mem _ (List.mem_cons_of_mem _ List.mem_cons_self)), (fun _ h => nomatch h)⟩)⟩)⟩)⟩)) h
set_option maxRecDepth 100000 in
set_option maxHeartbeats 4000000 in
theorem bk_373_63 {b : Bool} {d : Nat} {x1 x3 x4 : Int32} {e : Nat → x_E} {g : Nat → Int32} {q : Nat → Int64} {c : Nat → Nat → Int32} {l : Nat → Nat → Int64} {g' : Nat → Int32} {q' : Nat → Int64} {c' : Nat → Nat → Int32} {l' : Nat → Nat → Int64} {v : Int32} {R : Option Value × List x_E} (hc : rr b e d 374 0 [(0, .ref 49)] [] g q c l (some (.int v), rH e g' q' c' l')) (h : rr b e (d + 1) 373 74 [(0, .ref 49), (1, .int x1), (3, .int x3), (4, .int x4), (5, .int (g 11))] [.int v, .ref 49] g' q' c' l' R) : rr b e (d + 1) 373 63 [(0, .ref 49), (1, .int x1), (3, .int x3), (4, .int x4)] [] g q c l R := by
  obtain ⟨f1, hc⟩ := hc
  obtain ⟨f2, h⟩ := h
  obtain ⟨f, hf1, hf2⟩ : ∃ f, f1 ≤ f ∧ f2 ≤ f := ⟨max f1 f2, Nat.le_max_left _ _, Nat.le_max_right _ _⟩
  have hc := nrun_fuel f1 f _ _ _ _ _ _ _ _ _ hf1 hc
  have h := nrun_fuel f2 f _ _ _ _ _ _ _ _ _ hf2 h
  refine ⟨f + 6, ?_⟩
  obtain ⟨y, cb, hj⟩ := mq_373
  rw [n_step (st' := [.ref 49]) (pc' := 64) (lv' := [(0, .ref 49), (1, .int x1), (3, .int x3), (4, .int x4)]) (hp' := rH e g q c l) (i := .aload_n 0) (len := 1) rfl hj rfl rfl rfl]
  rw [n_get (st' := [.int (g 11)]) (pc' := 67) (lv' := [(0, .ref 49), (1, .int x1), (3, .int x3), (4, .int x4)]) (hp' := rH e g q c l) (i := .getfield 257) (len := 3) rfl hj rfl rfl rfl rfl]
  rw [n_step (st' := []) (pc' := 69) (lv' := [(5, .int (g 11)), (0, .ref 49), (1, .int x1), (3, .int x3), (4, .int x4)]) (hp' := rH e g q c l) (i := .istore 5) (len := 2) rfl hj rfl rfl rfl]
  rw [n_step (st' := [.ref 49]) (pc' := 70) (lv' := [(5, .int (g 11)), (0, .ref 49), (1, .int x1), (3, .int x3), (4, .int x4)]) (hp' := rH e g q c l) (i := .aload_n 0) (len := 1) rfl hj rfl rfl rfl]
  rw [n_step (st' := [.ref 49, .ref 49]) (pc' := 71) (lv' := [(5, .int (g 11)), (0, .ref 49), (1, .int x1), (3, .int x3), (4, .int x4)]) (hp' := rH e g q c l) (i := .aload_n 0) (len := 1) rfl hj rfl rfl rfl]
  obtain ⟨y2, cb2, hj2⟩ := mq_374
  rw [n_call (f := f) (d := d) (ki := 0) (idx := 502) (j' := 374) (kd := 0) (M' := (y2, cb2, 5, some .int, 12, 0, 0, 0)) (avs := [.ref 49]) (r := [.ref 49]) (rv := some (.int v)) (hp1 := rH e g' q' c' l') rfl hj rfl rfl rfl rfl (rq_n rfl rfl hj2 rfl rfl) rfl hc (Nat.le_of_ble_eq_true rfl)]
  exact nrun_ext f f _ _ R 373 74 [(0, .ref 49), (1, .int x1), (3, .int x3), (4, .int x4), (5, .int (g 11))] [(5, .int (g 11)), (0, .ref 49), (1, .int x1), (3, .int x3), (4, .int x4)] [.int v, .ref 49] _ 0 0 122 (Nat.le_refl _) (Nat.le_refl _) (Nat.le_of_ble_eq_true rfl) (lvR_mk [0, 1, 3, 4, 5] [5, 0, 1, 3, 4] rfl rfl (by decide) (by decide) (List.forall_mem_cons.mpr ⟨(List.mem_cons_of_mem _ List.mem_cons_self), (List.forall_mem_cons.mpr ⟨(List.mem_cons_of_mem _ (List.mem_cons_of_mem _ List.mem_cons_self)), (List.forall_mem_cons.mpr ⟨(List.mem_cons_of_mem _ (List.mem_cons_of_mem _ (List.mem_cons_of_mem _ List.mem_cons_self))), (List.forall_mem_cons.mpr ⟨(List.mem_cons_of_mem _ (List.mem_cons_of_mem _ (List.mem_cons_of_mem _ (List.mem_cons_of_mem _ List.mem_cons_self)))), (List.forall_mem_cons.mpr ⟨List.mem_cons_self, (fun _ h => nomatch h)⟩)⟩)⟩)⟩)⟩) (List.forall_mem_cons.mpr ⟨Or.inl (List.mem_cons_of_mem _ (List.mem_cons_of_mem _ (List.mem_cons_of_mem _ (List.mem_cons_of_mem _ List.mem_cons_self)))), (List.forall_mem_cons.mpr ⟨Or.inl List.mem_cons_self, (List.forall_mem_cons.mpr ⟨Or.inl (List.mem_cons_of_mem _ List.mem_cons_self), (List.forall_mem_cons.mpr ⟨Or.inl (List.mem_cons_of_mem _ (List.mem_cons_of_mem _ List.mem_cons_self)), (List.forall_mem_cons.mpr ⟨Or.inl (List.mem_cons_of_mem _ (List.mem_cons_of_mem _ (List.mem_cons_of_mem _ List.mem_cons_self))), (fun _ h => nomatch h)⟩)⟩)⟩)⟩)⟩)) h
set_option maxRecDepth 100000 in
set_option maxHeartbeats 4000000 in
theorem bk_373_74 {b : Bool} {d : Nat} {t0 x1 x3 x4 x5 : Int32} {e : Nat → x_E} {g : Nat → Int32} {q : Nat → Int64} {c : Nat → Nat → Int32} {l : Nat → Nat → Int64} {g' : Nat → Int32} {q' : Nat → Int64} {c' : Nat → Nat → Int32} {l' : Nat → Nat → Int64} {v : Int32} {R : Option Value × List x_E} (hc : rr b e d 385 0 [(0, .ref 49), (1, .int t0), (2, .int x5)] [] g q c l (some (.int v), rH e g' q' c' l')) (h : rr b e (d + 1) 373 79 [(0, .ref 49), (1, .int x1), (3, .int x3), (4, .int x4)] [.int v] g' q' c' l' R) : rr b e (d + 1) 373 74 [(0, .ref 49), (1, .int x1), (3, .int x3), (4, .int x4), (5, .int x5)] [.int t0, .ref 49] g q c l R := by
  obtain ⟨f1, hc⟩ := hc
  obtain ⟨f2, h⟩ := h
  obtain ⟨f, hf1, hf2⟩ : ∃ f, f1 ≤ f ∧ f2 ≤ f := ⟨max f1 f2, Nat.le_max_left _ _, Nat.le_max_right _ _⟩
  have hc := nrun_fuel f1 f _ _ _ _ _ _ _ _ _ hf1 hc
  have h := nrun_fuel f2 f _ _ _ _ _ _ _ _ _ hf2 h
  refine ⟨f + 2, ?_⟩
  obtain ⟨y, cb, hj⟩ := mq_373
  rw [n_step (st' := [.int x5, .int t0, .ref 49]) (pc' := 76) (lv' := [(0, .ref 49), (1, .int x1), (3, .int x3), (4, .int x4), (5, .int x5)]) (hp' := rH e g q c l) (i := .iload 5) (len := 2) rfl hj rfl rfl rfl]
  obtain ⟨y2, cb2, hj2⟩ := mq_385
  rw [n_call (f := f) (d := d) (ki := 0) (idx := 505) (j' := 385) (kd := 0) (M' := (y2, cb2, 3, some .boolean, 12, 2, 0, 0)) (avs := [.ref 49, .int t0, .int x5]) (r := []) (rv := some (.int v)) (hp1 := rH e g' q' c' l') rfl hj rfl rfl rfl rfl (rq_n rfl rfl hj2 rfl rfl) rfl hc (Nat.le_of_ble_eq_true rfl)]
  exact nrun_ext f f _ _ R 373 79 [(0, .ref 49), (1, .int x1), (3, .int x3), (4, .int x4)] [(0, .ref 49), (1, .int x1), (3, .int x3), (4, .int x4), (5, .int x5)] [.int v] _ 0 0 122 (Nat.le_refl _) (Nat.le_refl _) (Nat.le_of_ble_eq_true rfl) (lvR_mk [0, 1, 3, 4] [0, 1, 3, 4, 5] rfl rfl (by decide) (by decide) (List.forall_mem_cons.mpr ⟨List.mem_cons_self, (List.forall_mem_cons.mpr ⟨(List.mem_cons_of_mem _ List.mem_cons_self), (List.forall_mem_cons.mpr ⟨(List.mem_cons_of_mem _ (List.mem_cons_of_mem _ List.mem_cons_self)), (List.forall_mem_cons.mpr ⟨(List.mem_cons_of_mem _ (List.mem_cons_of_mem _ (List.mem_cons_of_mem _ List.mem_cons_self))), (fun _ h => nomatch h)⟩)⟩)⟩)⟩) (List.forall_mem_cons.mpr ⟨Or.inl List.mem_cons_self, (List.forall_mem_cons.mpr ⟨Or.inl (List.mem_cons_of_mem _ List.mem_cons_self), (List.forall_mem_cons.mpr ⟨Or.inl (List.mem_cons_of_mem _ (List.mem_cons_of_mem _ List.mem_cons_self)), (List.forall_mem_cons.mpr ⟨Or.inl (List.mem_cons_of_mem _ (List.mem_cons_of_mem _ (List.mem_cons_of_mem _ List.mem_cons_self))), (List.forall_mem_cons.mpr ⟨Or.inr rfl, (fun _ h => nomatch h)⟩)⟩)⟩)⟩)⟩)) h
set_option maxRecDepth 100000 in
set_option maxHeartbeats 4000000 in
theorem bk_373_79 {b : Bool} {d : Nat} {t0 x1 x3 x4 : Int32} {e : Nat → x_E} {g : Nat → Int32} {q : Nat → Int64} {c : Nat → Nat → Int32} {l : Nat → Nat → Int64} {R : Option Value × List x_E} (h1 : xCn .eq t0 0 = true → rr b e d 373 91 [(0, .ref 49), (1, .int x1), (3, .int x3)] [] g q c l R) (h2 : ¬ xCn .eq t0 0 = true → rr b e d 373 82 [(0, .ref 49), (1, .int x1), (3, .int x3), (4, .int x4)] [] g q c l R) : rr b e d 373 79 [(0, .ref 49), (1, .int x1), (3, .int x3), (4, .int x4)] [.int t0] g q c l R := by
  have key : ∀ f, nrun xZ (xY (xfm b)) xDT (f + 1) d 373 79 [(0, .ref 49), (1, .int x1), (3, .int x3), (4, .int x4)] [.int t0] (rH e g q c l) 0 0 = nrun xZ (xY (xfm b)) xDT f d 373 (if xCn .eq t0 0 = true then 91 else 82) [(0, .ref 49), (1, .int x1), (3, .int x3), (4, .int x4)] [] (rH e g q c l) 0 0 := by
    intro f
    obtain ⟨y, cb, hj⟩ := mq_373
    rw [n_step (st' := []) (pc' := (if xCn .eq t0 0 = true then 91 else 82)) (lv' := [(0, .ref 49), (1, .int x1), (3, .int x3), (4, .int x4)]) (hp' := rH e g q c l) (i := .ifCond .eq 12) (len := 3) rfl hj rfl rfl rfl]
  by_cases hc : xCn .eq t0 0 = true
  · obtain ⟨f, h⟩ := h1 hc
    refine ⟨f + 1, ?_⟩
    rw [key, if_pos hc]
    exact nrun_ext f f _ _ R 373 91 [(0, .ref 49), (1, .int x1), (3, .int x3)] [(0, .ref 49), (1, .int x1), (3, .int x3), (4, .int x4)] [] _ 0 0 122 (Nat.le_refl _) (Nat.le_refl _) (Nat.le_of_ble_eq_true rfl) (lvR_mk [0, 1, 3] [0, 1, 3, 4] rfl rfl (by decide) (by decide) (List.forall_mem_cons.mpr ⟨List.mem_cons_self, (List.forall_mem_cons.mpr ⟨(List.mem_cons_of_mem _ List.mem_cons_self), (List.forall_mem_cons.mpr ⟨(List.mem_cons_of_mem _ (List.mem_cons_of_mem _ List.mem_cons_self)), (fun _ h => nomatch h)⟩)⟩)⟩) (List.forall_mem_cons.mpr ⟨Or.inl List.mem_cons_self, (List.forall_mem_cons.mpr ⟨Or.inl (List.mem_cons_of_mem _ List.mem_cons_self), (List.forall_mem_cons.mpr ⟨Or.inl (List.mem_cons_of_mem _ (List.mem_cons_of_mem _ List.mem_cons_self)), (List.forall_mem_cons.mpr ⟨Or.inr rfl, (fun _ h => nomatch h)⟩)⟩)⟩)⟩)) h
  · obtain ⟨f, h⟩ := h2 hc
    refine ⟨f + 1, ?_⟩
    rw [key, if_neg hc]
    exact h
set_option maxRecDepth 100000 in
set_option maxHeartbeats 4000000 in
theorem bk_373_82 {b : Bool} {d : Nat} {x1 x3 x4 : Int32} {e : Nat → x_E} {g : Nat → Int32} {q : Nat → Int64} {c : Nat → Nat → Int32} {l : Nat → Nat → Int64} {R : Option Value × List x_E} (h1 : xCn .eq x4 0 = true → rr b e d 373 91 [(0, .ref 49), (1, .int x1), (3, .int x3)] [] g q c l R) (h2 : ¬ xCn .eq x4 0 = true → rr b e d 373 87 [(0, .ref 49), (1, .int x1), (3, .int x3)] [] g q c l R) : rr b e d 373 82 [(0, .ref 49), (1, .int x1), (3, .int x3), (4, .int x4)] [] g q c l R := by
  have key : ∀ f, nrun xZ (xY (xfm b)) xDT (f + 2) d 373 82 [(0, .ref 49), (1, .int x1), (3, .int x3), (4, .int x4)] [] (rH e g q c l) 0 0 = nrun xZ (xY (xfm b)) xDT f d 373 (if xCn .eq x4 0 = true then 91 else 87) [(0, .ref 49), (1, .int x1), (3, .int x3), (4, .int x4)] [] (rH e g q c l) 0 0 := by
    intro f
    obtain ⟨y, cb, hj⟩ := mq_373
    rw [n_step (st' := [.int x4]) (pc' := 84) (lv' := [(0, .ref 49), (1, .int x1), (3, .int x3), (4, .int x4)]) (hp' := rH e g q c l) (i := .iload 4) (len := 2) rfl hj rfl rfl rfl]
    rw [n_step (st' := []) (pc' := (if xCn .eq x4 0 = true then 91 else 87)) (lv' := [(0, .ref 49), (1, .int x1), (3, .int x3), (4, .int x4)]) (hp' := rH e g q c l) (i := .ifCond .eq 7) (len := 3) rfl hj rfl rfl rfl]
  by_cases hc : xCn .eq x4 0 = true
  · obtain ⟨f, h⟩ := h1 hc
    refine ⟨f + 2, ?_⟩
    rw [key, if_pos hc]
    exact nrun_ext f f _ _ R 373 91 [(0, .ref 49), (1, .int x1), (3, .int x3)] [(0, .ref 49), (1, .int x1), (3, .int x3), (4, .int x4)] [] _ 0 0 122 (Nat.le_refl _) (Nat.le_refl _) (Nat.le_of_ble_eq_true rfl) (lvR_mk [0, 1, 3] [0, 1, 3, 4] rfl rfl (by decide) (by decide) (List.forall_mem_cons.mpr ⟨List.mem_cons_self, (List.forall_mem_cons.mpr ⟨(List.mem_cons_of_mem _ List.mem_cons_self), (List.forall_mem_cons.mpr ⟨(List.mem_cons_of_mem _ (List.mem_cons_of_mem _ List.mem_cons_self)), (fun _ h => nomatch h)⟩)⟩)⟩) (List.forall_mem_cons.mpr ⟨Or.inl List.mem_cons_self, (List.forall_mem_cons.mpr ⟨Or.inl (List.mem_cons_of_mem _ List.mem_cons_self), (List.forall_mem_cons.mpr ⟨Or.inl (List.mem_cons_of_mem _ (List.mem_cons_of_mem _ List.mem_cons_self)), (List.forall_mem_cons.mpr ⟨Or.inr rfl, (fun _ h => nomatch h)⟩)⟩)⟩)⟩)) h
  · obtain ⟨f, h⟩ := h2 hc
    refine ⟨f + 2, ?_⟩
    rw [key, if_neg hc]
    exact nrun_ext f f _ _ R 373 87 [(0, .ref 49), (1, .int x1), (3, .int x3)] [(0, .ref 49), (1, .int x1), (3, .int x3), (4, .int x4)] [] _ 0 0 122 (Nat.le_refl _) (Nat.le_refl _) (Nat.le_of_ble_eq_true rfl) (lvR_mk [0, 1, 3] [0, 1, 3, 4] rfl rfl (by decide) (by decide) (List.forall_mem_cons.mpr ⟨List.mem_cons_self, (List.forall_mem_cons.mpr ⟨(List.mem_cons_of_mem _ List.mem_cons_self), (List.forall_mem_cons.mpr ⟨(List.mem_cons_of_mem _ (List.mem_cons_of_mem _ List.mem_cons_self)), (fun _ h => nomatch h)⟩)⟩)⟩) (List.forall_mem_cons.mpr ⟨Or.inl List.mem_cons_self, (List.forall_mem_cons.mpr ⟨Or.inl (List.mem_cons_of_mem _ List.mem_cons_self), (List.forall_mem_cons.mpr ⟨Or.inl (List.mem_cons_of_mem _ (List.mem_cons_of_mem _ List.mem_cons_self)), (List.forall_mem_cons.mpr ⟨Or.inr rfl, (fun _ h => nomatch h)⟩)⟩)⟩)⟩)) h
set_option maxRecDepth 100000 in
set_option maxHeartbeats 4000000 in
theorem bk_373_87 {b : Bool} {d : Nat} {x1 x3 : Int32} {e : Nat → x_E} {g : Nat → Int32} {q : Nat → Int64} {c : Nat → Nat → Int32} {l : Nat → Nat → Int64} {R : Option Value × List x_E} (h : rr b e d 373 92 [(0, .ref 49), (1, .int x1), (3, .int x3)] [.int (Int32.ofInt (1))] g q c l R) : rr b e d 373 87 [(0, .ref 49), (1, .int x1), (3, .int x3)] [] g q c l R := by
  obtain ⟨f, h⟩ := h
  refine ⟨f + 2, ?_⟩
  obtain ⟨y, cb, hj⟩ := mq_373
  rw [n_step (st' := [.int (Int32.ofInt (1))]) (pc' := 88) (lv' := [(0, .ref 49), (1, .int x1), (3, .int x3)]) (hp' := rH e g q c l) (i := .iconst 1) (len := 1) rfl hj rfl rfl rfl]
  rw [n_step (st' := [.int (Int32.ofInt (1))]) (pc' := 92) (lv' := [(0, .ref 49), (1, .int x1), (3, .int x3)]) (hp' := rH e g q c l) (i := .goto 4) (len := 3) rfl hj rfl rfl rfl]
  exact h
set_option maxRecDepth 100000 in
set_option maxHeartbeats 4000000 in
theorem bk_373_91 {b : Bool} {d : Nat} {x1 x3 : Int32} {e : Nat → x_E} {g : Nat → Int32} {q : Nat → Int64} {c : Nat → Nat → Int32} {l : Nat → Nat → Int64} {R : Option Value × List x_E} (h : rr b e d 373 92 [(0, .ref 49), (1, .int x1), (3, .int x3)] [.int (Int32.ofInt (0))] g q c l R) : rr b e d 373 91 [(0, .ref 49), (1, .int x1), (3, .int x3)] [] g q c l R := by
  obtain ⟨f, h⟩ := h
  refine ⟨f + 1, ?_⟩
  obtain ⟨y, cb, hj⟩ := mq_373
  rw [n_step (st' := [.int (Int32.ofInt (0))]) (pc' := 92) (lv' := [(0, .ref 49), (1, .int x1), (3, .int x3)]) (hp' := rH e g q c l) (i := .iconst 0) (len := 1) rfl hj rfl rfl rfl]
  exact h
set_option maxRecDepth 100000 in
set_option maxHeartbeats 4000000 in
theorem bk_373_92 {b : Bool} {d : Nat} {t0 x1 x3 : Int32} {e : Nat → x_E} {g : Nat → Int32} {q : Nat → Int64} {c : Nat → Nat → Int32} {l : Nat → Nat → Int64} {g' : Nat → Int32} {q' : Nat → Int64} {c' : Nat → Nat → Int32} {l' : Nat → Nat → Int64} {v : Int32} {R : Option Value × List x_E} (hc : rr b e d 355 0 [(0, .ref 49), (1, .int x3), (2, .int (Int32.ofInt (0)))] [] g q c l (some (.int v), rH e g' q' c' l')) (h : rr b e (d + 1) 373 100 [(0, .ref 49), (1, .int x1), (4, .int t0)] [.int v] g' q' c' l' R) : rr b e (d + 1) 373 92 [(0, .ref 49), (1, .int x1), (3, .int x3)] [.int t0] g q c l R := by
  obtain ⟨f1, hc⟩ := hc
  obtain ⟨f2, h⟩ := h
  obtain ⟨f, hf1, hf2⟩ : ∃ f, f1 ≤ f ∧ f2 ≤ f := ⟨max f1 f2, Nat.le_max_left _ _, Nat.le_max_right _ _⟩
  have hc := nrun_fuel f1 f _ _ _ _ _ _ _ _ _ hf1 hc
  have h := nrun_fuel f2 f _ _ _ _ _ _ _ _ _ hf2 h
  refine ⟨f + 5, ?_⟩
  obtain ⟨y, cb, hj⟩ := mq_373
  rw [n_step (st' := []) (pc' := 94) (lv' := [(4, .int t0), (0, .ref 49), (1, .int x1), (3, .int x3)]) (hp' := rH e g q c l) (i := .istore 4) (len := 2) rfl hj rfl rfl rfl]
  rw [n_step (st' := [.ref 49]) (pc' := 95) (lv' := [(4, .int t0), (0, .ref 49), (1, .int x1), (3, .int x3)]) (hp' := rH e g q c l) (i := .aload_n 0) (len := 1) rfl hj rfl rfl rfl]
  rw [n_step (st' := [.int x3, .ref 49]) (pc' := 96) (lv' := [(4, .int t0), (0, .ref 49), (1, .int x1), (3, .int x3)]) (hp' := rH e g q c l) (i := .iload_n 3) (len := 1) rfl hj rfl rfl rfl]
  rw [n_step (st' := [.int (Int32.ofInt (0)), .int x3, .ref 49]) (pc' := 97) (lv' := [(4, .int t0), (0, .ref 49), (1, .int x1), (3, .int x3)]) (hp' := rH e g q c l) (i := .iconst 0) (len := 1) rfl hj rfl rfl rfl]
  obtain ⟨y2, cb2, hj2⟩ := mq_355
  rw [n_call (f := f) (d := d) (ki := 0) (idx := 496) (j' := 355) (kd := 0) (M' := (y2, cb2, 3, some .int, 12, 2, 0, 0)) (avs := [.ref 49, .int x3, .int (Int32.ofInt (0))]) (r := []) (rv := some (.int v)) (hp1 := rH e g' q' c' l') rfl hj rfl rfl rfl rfl (rq_n rfl rfl hj2 rfl rfl) rfl hc (Nat.le_of_ble_eq_true rfl)]
  exact nrun_ext f f _ _ R 373 100 [(0, .ref 49), (1, .int x1), (4, .int t0)] [(4, .int t0), (0, .ref 49), (1, .int x1), (3, .int x3)] [.int v] _ 0 0 122 (Nat.le_refl _) (Nat.le_refl _) (Nat.le_of_ble_eq_true rfl) (lvR_mk [0, 1, 4] [4, 0, 1, 3] rfl rfl (by decide) (by decide) (List.forall_mem_cons.mpr ⟨(List.mem_cons_of_mem _ List.mem_cons_self), (List.forall_mem_cons.mpr ⟨(List.mem_cons_of_mem _ (List.mem_cons_of_mem _ List.mem_cons_self)), (List.forall_mem_cons.mpr ⟨List.mem_cons_self, (fun _ h => nomatch h)⟩)⟩)⟩) (List.forall_mem_cons.mpr ⟨Or.inl (List.mem_cons_of_mem _ (List.mem_cons_of_mem _ List.mem_cons_self)), (List.forall_mem_cons.mpr ⟨Or.inl List.mem_cons_self, (List.forall_mem_cons.mpr ⟨Or.inl (List.mem_cons_of_mem _ List.mem_cons_self), (List.forall_mem_cons.mpr ⟨Or.inr rfl, (fun _ h => nomatch h)⟩)⟩)⟩)⟩)) h
set_option maxRecDepth 100000 in
set_option maxHeartbeats 4000000 in
theorem bk_373_100 {b : Bool} {d : Nat} {t0 x1 x4 : Int32} {e : Nat → x_E} {g : Nat → Int32} {q : Nat → Int64} {c : Nat → Nat → Int32} {l : Nat → Nat → Int64} {R : Option Value × List x_E} (h1 : xCn .eq x4 0 = true → rr b e d 373 113 [(0, .ref 49), (1, .int x1)] [] g q c l R) (h2 : ¬ xCn .eq x4 0 = true → rr b e d 373 106 [(0, .ref 49), (1, .int x1)] [] g q c l R) : rr b e d 373 100 [(0, .ref 49), (1, .int x1), (4, .int x4)] [.int t0] g q c l R := by
  have key : ∀ f, nrun xZ (xY (xfm b)) xDT (f + 3) d 373 100 [(0, .ref 49), (1, .int x1), (4, .int x4)] [.int t0] (rH e g q c l) 0 0 = nrun xZ (xY (xfm b)) xDT f d 373 (if xCn .eq x4 0 = true then 113 else 106) [(0, .ref 49), (1, .int x1), (4, .int x4)] [] (rH e g q c l) 0 0 := by
    intro f
    obtain ⟨y, cb, hj⟩ := mq_373
    rw [n_step (st' := []) (pc' := 101) (lv' := [(0, .ref 49), (1, .int x1), (4, .int x4)]) (hp' := rH e g q c l) (i := .pop) (len := 1) rfl hj rfl rfl rfl]
    rw [n_step (st' := [.int x4]) (pc' := 103) (lv' := [(0, .ref 49), (1, .int x1), (4, .int x4)]) (hp' := rH e g q c l) (i := .iload 4) (len := 2) rfl hj rfl rfl rfl]
    rw [n_step (st' := []) (pc' := (if xCn .eq x4 0 = true then 113 else 106)) (lv' := [(0, .ref 49), (1, .int x1), (4, .int x4)]) (hp' := rH e g q c l) (i := .ifCond .eq 10) (len := 3) rfl hj rfl rfl rfl]
  by_cases hc : xCn .eq x4 0 = true
  · obtain ⟨f, h⟩ := h1 hc
    refine ⟨f + 3, ?_⟩
    rw [key, if_pos hc]
    exact nrun_ext f f _ _ R 373 113 [(0, .ref 49), (1, .int x1)] [(0, .ref 49), (1, .int x1), (4, .int x4)] [] _ 0 0 122 (Nat.le_refl _) (Nat.le_refl _) (Nat.le_of_ble_eq_true rfl) (lvR_mk [0, 1] [0, 1, 4] rfl rfl (by decide) (by decide) (List.forall_mem_cons.mpr ⟨List.mem_cons_self, (List.forall_mem_cons.mpr ⟨(List.mem_cons_of_mem _ List.mem_cons_self), (fun _ h => nomatch h)⟩)⟩) (List.forall_mem_cons.mpr ⟨Or.inl List.mem_cons_self, (List.forall_mem_cons.mpr ⟨Or.inl (List.mem_cons_of_mem _ List.mem_cons_self), (List.forall_mem_cons.mpr ⟨Or.inr rfl, (fun _ h => nomatch h)⟩)⟩)⟩)) h
  · obtain ⟨f, h⟩ := h2 hc
    refine ⟨f + 3, ?_⟩
    rw [key, if_neg hc]
    exact nrun_ext f f _ _ R 373 106 [(0, .ref 49), (1, .int x1)] [(0, .ref 49), (1, .int x1), (4, .int x4)] [] _ 0 0 122 (Nat.le_refl _) (Nat.le_refl _) (Nat.le_of_ble_eq_true rfl) (lvR_mk [0, 1] [0, 1, 4] rfl rfl (by decide) (by decide) (List.forall_mem_cons.mpr ⟨List.mem_cons_self, (List.forall_mem_cons.mpr ⟨(List.mem_cons_of_mem _ List.mem_cons_self), (fun _ h => nomatch h)⟩)⟩) (List.forall_mem_cons.mpr ⟨Or.inl List.mem_cons_self, (List.forall_mem_cons.mpr ⟨Or.inl (List.mem_cons_of_mem _ List.mem_cons_self), (List.forall_mem_cons.mpr ⟨Or.inr rfl, (fun _ h => nomatch h)⟩)⟩)⟩)) h
set_option maxRecDepth 100000 in
set_option maxHeartbeats 4000000 in
theorem bk_373_106 {b : Bool} {d : Nat} {x1 : Int32} {e : Nat → x_E} {g : Nat → Int32} {q : Nat → Int64} {c : Nat → Nat → Int32} {l : Nat → Nat → Int64} {R : Option Value × List x_E} (h : rr b e d 373 114 [(0, .ref 49), (1, .int x1)] [.int (g 34)] g q c l R) : rr b e d 373 106 [(0, .ref 49), (1, .int x1)] [] g q c l R := by
  obtain ⟨f, h⟩ := h
  refine ⟨f + 3, ?_⟩
  obtain ⟨y, cb, hj⟩ := mq_373
  rw [n_step (st' := [.ref 49]) (pc' := 107) (lv' := [(0, .ref 49), (1, .int x1)]) (hp' := rH e g q c l) (i := .aload_n 0) (len := 1) rfl hj rfl rfl rfl]
  rw [n_get (st' := [.int (g 34)]) (pc' := 110) (lv' := [(0, .ref 49), (1, .int x1)]) (hp' := rH e g q c l) (i := .getfield 508) (len := 3) rfl hj rfl rfl rfl rfl]
  rw [n_step (st' := [.int (g 34)]) (pc' := 114) (lv' := [(0, .ref 49), (1, .int x1)]) (hp' := rH e g q c l) (i := .goto 4) (len := 3) rfl hj rfl rfl rfl]
  exact h
set_option maxRecDepth 100000 in
set_option maxHeartbeats 4000000 in
theorem bk_373_113 {b : Bool} {d : Nat} {x1 : Int32} {e : Nat → x_E} {g : Nat → Int32} {q : Nat → Int64} {c : Nat → Nat → Int32} {l : Nat → Nat → Int64} {R : Option Value × List x_E} (h : rr b e d 373 114 [(0, .ref 49), (1, .int x1)] [.int (Int32.ofInt (-1))] g q c l R) : rr b e d 373 113 [(0, .ref 49), (1, .int x1)] [] g q c l R := by
  obtain ⟨f, h⟩ := h
  refine ⟨f + 1, ?_⟩
  obtain ⟨y, cb, hj⟩ := mq_373
  rw [n_step (st' := [.int (Int32.ofInt (-1))]) (pc' := 114) (lv' := [(0, .ref 49), (1, .int x1)]) (hp' := rH e g q c l) (i := .iconst (-1)) (len := 1) rfl hj rfl rfl rfl]
  exact h
set_option maxRecDepth 100000 in
set_option maxHeartbeats 4000000 in
theorem bk_373_114 {b : Bool} {d : Nat} {t0 x1 : Int32} {e : Nat → x_E} {g : Nat → Int32} {q : Nat → Int64} {c : Nat → Nat → Int32} {l : Nat → Nat → Int64} {R : Option Value × List x_E} (h : rr b e d 373 10 [(0, .ref 49), (1, .int x1), (2, .int t0)] [] g q c l R) : rr b e d 373 114 [(0, .ref 49), (1, .int x1)] [.int t0] g q c l R := by
  obtain ⟨f, h⟩ := h
  refine ⟨f + 2, ?_⟩
  obtain ⟨y, cb, hj⟩ := mq_373
  rw [n_step (st' := []) (pc' := 115) (lv' := [(2, .int t0), (0, .ref 49), (1, .int x1)]) (hp' := rH e g q c l) (i := .istore_n 2) (len := 1) rfl hj rfl rfl rfl]
  rw [n_step (st' := []) (pc' := 10) (lv' := [(2, .int t0), (0, .ref 49), (1, .int x1)]) (hp' := rH e g q c l) (i := .goto (-105)) (len := 3) rfl hj rfl rfl rfl]
  exact nrun_ext f f _ _ R 373 10 [(0, .ref 49), (1, .int x1), (2, .int t0)] [(2, .int t0), (0, .ref 49), (1, .int x1)] [] _ 0 0 122 (Nat.le_refl _) (Nat.le_refl _) (Nat.le_of_ble_eq_true rfl) (lvR_mk [0, 1, 2] [2, 0, 1] rfl rfl (by decide) (by decide) (List.forall_mem_cons.mpr ⟨(List.mem_cons_of_mem _ List.mem_cons_self), (List.forall_mem_cons.mpr ⟨(List.mem_cons_of_mem _ (List.mem_cons_of_mem _ List.mem_cons_self)), (List.forall_mem_cons.mpr ⟨List.mem_cons_self, (fun _ h => nomatch h)⟩)⟩)⟩) (List.forall_mem_cons.mpr ⟨Or.inl (List.mem_cons_of_mem _ (List.mem_cons_of_mem _ List.mem_cons_self)), (List.forall_mem_cons.mpr ⟨Or.inl List.mem_cons_self, (List.forall_mem_cons.mpr ⟨Or.inl (List.mem_cons_of_mem _ List.mem_cons_self), (fun _ h => nomatch h)⟩)⟩)⟩)) h
set_option maxRecDepth 100000 in
set_option maxHeartbeats 4000000 in
theorem bk_373_118 {b : Bool} {d : Nat} {x2 : Int32} {e : Nat → x_E} {g : Nat → Int32} {q : Nat → Int64} {c : Nat → Nat → Int32} {l : Nat → Nat → Int64} : rr b e d 373 118 [(2, .int x2)] [] g q c l (some (.int x2), rH e g q c l) := by
  refine ⟨0 + 2, ?_⟩
  obtain ⟨y, cb, hj⟩ := mq_373
  rw [n_step (st' := [.int x2]) (pc' := 119) (lv' := [(2, .int x2)]) (hp' := rH e g q c l) (i := .iload_n 2) (len := 1) rfl hj rfl rfl rfl]
  exact n_ret rfl hj rfl rfl (x_ret rfl)
set_option maxRecDepth 100000 in
set_option maxHeartbeats 4000000 in
theorem bk_374_0 {b : Bool} {d : Nat} {e : Nat → x_E} {g : Nat → Int32} {q : Nat → Int64} {c : Nat → Nat → Int32} {l : Nat → Nat → Int64} {g' : Nat → Int32} {q' : Nat → Int64} {c' : Nat → Nat → Int32} {l' : Nat → Nat → Int64} {v : Int32} {R : Option Value × List x_E} (hc : rr b e d 375 0 [(0, .ref 49)] [] g q c l (some (.int v), rH e g' q' c' l')) (h : rr b e (d + 1) 374 9 [(0, .ref 49), (1, .int (g 11))] [.int v] g' q' c' l' R) : rr b e (d + 1) 374 0 [(0, .ref 49)] [] g q c l R := by
  obtain ⟨f1, hc⟩ := hc
  obtain ⟨f2, h⟩ := h
  obtain ⟨f, hf1, hf2⟩ : ∃ f, f1 ≤ f ∧ f2 ≤ f := ⟨max f1 f2, Nat.le_max_left _ _, Nat.le_max_right _ _⟩
  have hc := nrun_fuel f1 f _ _ _ _ _ _ _ _ _ hf1 hc
  have h := nrun_fuel f2 f _ _ _ _ _ _ _ _ _ hf2 h
  refine ⟨f + 5, ?_⟩
  obtain ⟨y, cb, hj⟩ := mq_374
  rw [n_step (st' := [.ref 49]) (pc' := 1) (lv' := [(0, .ref 49)]) (hp' := rH e g q c l) (i := .aload_n 0) (len := 1) rfl hj rfl rfl rfl]
  rw [n_get (st' := [.int (g 11)]) (pc' := 4) (lv' := [(0, .ref 49)]) (hp' := rH e g q c l) (i := .getfield 257) (len := 3) rfl hj rfl rfl rfl rfl]
  rw [n_step (st' := []) (pc' := 5) (lv' := [(1, .int (g 11)), (0, .ref 49)]) (hp' := rH e g q c l) (i := .istore_n 1) (len := 1) rfl hj rfl rfl rfl]
  rw [n_step (st' := [.ref 49]) (pc' := 6) (lv' := [(1, .int (g 11)), (0, .ref 49)]) (hp' := rH e g q c l) (i := .aload_n 0) (len := 1) rfl hj rfl rfl rfl]
  obtain ⟨y2, cb2, hj2⟩ := mq_375
  rw [n_call (f := f) (d := d) (ki := 0) (idx := 511) (j' := 375) (kd := 0) (M' := (y2, cb2, 4, some .int, 12, 0, 0, 0)) (avs := [.ref 49]) (r := []) (rv := some (.int v)) (hp1 := rH e g' q' c' l') rfl hj rfl rfl rfl rfl (rq_n rfl rfl hj2 rfl rfl) rfl hc (Nat.le_of_ble_eq_true rfl)]
  exact nrun_ext f f _ _ R 374 9 [(0, .ref 49), (1, .int (g 11))] [(1, .int (g 11)), (0, .ref 49)] [.int v] _ 0 0 122 (Nat.le_refl _) (Nat.le_refl _) (Nat.le_of_ble_eq_true rfl) (lvR_mk [0, 1] [1, 0] rfl rfl (by decide) (by decide) (List.forall_mem_cons.mpr ⟨(List.mem_cons_of_mem _ List.mem_cons_self), (List.forall_mem_cons.mpr ⟨List.mem_cons_self, (fun _ h => nomatch h)⟩)⟩) (List.forall_mem_cons.mpr ⟨Or.inl (List.mem_cons_of_mem _ List.mem_cons_self), (List.forall_mem_cons.mpr ⟨Or.inl List.mem_cons_self, (fun _ h => nomatch h)⟩)⟩)) h
set_option maxRecDepth 100000 in
set_option maxHeartbeats 4000000 in
theorem bk_374_9 {b : Bool} {d : Nat} {t0 x1 : Int32} {e : Nat → x_E} {g : Nat → Int32} {q : Nat → Int64} {c : Nat → Nat → Int32} {l : Nat → Nat → Int64} {R : Option Value × List x_E} (h : rr b e d 374 10 [(0, .ref 49), (1, .int x1), (2, .int t0)] [] g q c l R) : rr b e d 374 9 [(0, .ref 49), (1, .int x1)] [.int t0] g q c l R := by
  obtain ⟨f, h⟩ := h
  refine ⟨f + 1, ?_⟩
  obtain ⟨y, cb, hj⟩ := mq_374
  rw [n_step (st' := []) (pc' := 10) (lv' := [(2, .int t0), (0, .ref 49), (1, .int x1)]) (hp' := rH e g q c l) (i := .istore_n 2) (len := 1) rfl hj rfl rfl rfl]
  exact nrun_ext f f _ _ R 374 10 [(0, .ref 49), (1, .int x1), (2, .int t0)] [(2, .int t0), (0, .ref 49), (1, .int x1)] [] _ 0 0 122 (Nat.le_refl _) (Nat.le_refl _) (Nat.le_of_ble_eq_true rfl) (lvR_mk [0, 1, 2] [2, 0, 1] rfl rfl (by decide) (by decide) (List.forall_mem_cons.mpr ⟨(List.mem_cons_of_mem _ List.mem_cons_self), (List.forall_mem_cons.mpr ⟨(List.mem_cons_of_mem _ (List.mem_cons_of_mem _ List.mem_cons_self)), (List.forall_mem_cons.mpr ⟨List.mem_cons_self, (fun _ h => nomatch h)⟩)⟩)⟩) (List.forall_mem_cons.mpr ⟨Or.inl (List.mem_cons_of_mem _ (List.mem_cons_of_mem _ List.mem_cons_self)), (List.forall_mem_cons.mpr ⟨Or.inl List.mem_cons_self, (List.forall_mem_cons.mpr ⟨Or.inl (List.mem_cons_of_mem _ List.mem_cons_self), (fun _ h => nomatch h)⟩)⟩)⟩)) h
set_option maxRecDepth 100000 in
set_option maxHeartbeats 4000000 in
theorem bk_374_10 {b : Bool} {d : Nat} {x1 x2 : Int32} {e : Nat → x_E} {g : Nat → Int32} {q : Nat → Int64} {c : Nat → Nat → Int32} {l : Nat → Nat → Int64} {g' : Nat → Int32} {q' : Nat → Int64} {c' : Nat → Nat → Int32} {l' : Nat → Nat → Int64} {v : Int32} {R : Option Value × List x_E} (hc : rr b e d 337 0 [(0, .ref 49)] [] g q c l (some (.int v), rH e g' q' c' l')) (h : rr b e (d + 1) 374 14 [(0, .ref 49), (1, .int x1), (2, .int x2)] [.int v] g' q' c' l' R) : rr b e (d + 1) 374 10 [(0, .ref 49), (1, .int x1), (2, .int x2)] [] g q c l R := by
  obtain ⟨f1, hc⟩ := hc
  obtain ⟨f2, h⟩ := h
  obtain ⟨f, hf1, hf2⟩ : ∃ f, f1 ≤ f ∧ f2 ≤ f := ⟨max f1 f2, Nat.le_max_left _ _, Nat.le_max_right _ _⟩
  have hc := nrun_fuel f1 f _ _ _ _ _ _ _ _ _ hf1 hc
  have h := nrun_fuel f2 f _ _ _ _ _ _ _ _ _ hf2 h
  refine ⟨f + 2, ?_⟩
  obtain ⟨y, cb, hj⟩ := mq_374
  rw [n_step (st' := [.ref 49]) (pc' := 11) (lv' := [(0, .ref 49), (1, .int x1), (2, .int x2)]) (hp' := rH e g q c l) (i := .aload_n 0) (len := 1) rfl hj rfl rfl rfl]
  obtain ⟨y2, cb2, hj2⟩ := mq_337
  rw [n_call (f := f) (d := d) (ki := 0) (idx := 337) (j' := 337) (kd := 0) (M' := (y2, cb2, 1, some .boolean, 12, 0, 0, 0)) (avs := [.ref 49]) (r := []) (rv := some (.int v)) (hp1 := rH e g' q' c' l') rfl hj rfl rfl rfl rfl (rq_n rfl rfl hj2 rfl rfl) rfl hc (Nat.le_of_ble_eq_true rfl)]
  exact h
set_option maxRecDepth 100000 in
set_option maxHeartbeats 4000000 in
theorem bk_374_14 {b : Bool} {d : Nat} {t0 x1 x2 : Int32} {e : Nat → x_E} {g : Nat → Int32} {q : Nat → Int64} {c : Nat → Nat → Int32} {l : Nat → Nat → Int64} {R : Option Value × List x_E} (h1 : xCn .ne t0 0 = true → rr b e d 374 90 [(2, .int x2)] [] g q c l R) (h2 : ¬ xCn .ne t0 0 = true → rr b e d 374 17 [(0, .ref 49), (1, .int x1), (2, .int x2)] [] g q c l R) : rr b e d 374 14 [(0, .ref 49), (1, .int x1), (2, .int x2)] [.int t0] g q c l R := by
  have key : ∀ f, nrun xZ (xY (xfm b)) xDT (f + 1) d 374 14 [(0, .ref 49), (1, .int x1), (2, .int x2)] [.int t0] (rH e g q c l) 0 0 = nrun xZ (xY (xfm b)) xDT f d 374 (if xCn .ne t0 0 = true then 90 else 17) [(0, .ref 49), (1, .int x1), (2, .int x2)] [] (rH e g q c l) 0 0 := by
    intro f
    obtain ⟨y, cb, hj⟩ := mq_374
    rw [n_step (st' := []) (pc' := (if xCn .ne t0 0 = true then 90 else 17)) (lv' := [(0, .ref 49), (1, .int x1), (2, .int x2)]) (hp' := rH e g q c l) (i := .ifCond .ne 76) (len := 3) rfl hj rfl rfl rfl]
  by_cases hc : xCn .ne t0 0 = true
  · obtain ⟨f, h⟩ := h1 hc
    refine ⟨f + 1, ?_⟩
    rw [key, if_pos hc]
    exact nrun_ext f f _ _ R 374 90 [(2, .int x2)] [(0, .ref 49), (1, .int x1), (2, .int x2)] [] _ 0 0 122 (Nat.le_refl _) (Nat.le_refl _) (Nat.le_of_ble_eq_true rfl) (lvR_mk [2] [0, 1, 2] rfl rfl (by decide) (by decide) (List.forall_mem_cons.mpr ⟨(List.mem_cons_of_mem _ (List.mem_cons_of_mem _ List.mem_cons_self)), (fun _ h => nomatch h)⟩) (List.forall_mem_cons.mpr ⟨Or.inr rfl, (List.forall_mem_cons.mpr ⟨Or.inr rfl, (List.forall_mem_cons.mpr ⟨Or.inl List.mem_cons_self, (fun _ h => nomatch h)⟩)⟩)⟩)) h
  · obtain ⟨f, h⟩ := h2 hc
    refine ⟨f + 1, ?_⟩
    rw [key, if_neg hc]
    exact h
set_option maxRecDepth 100000 in
set_option maxHeartbeats 4000000 in
theorem bk_374_17 {b : Bool} {d : Nat} {x1 x2 : Int32} {e : Nat → x_E} {g : Nat → Int32} {q : Nat → Int64} {c : Nat → Nat → Int32} {l : Nat → Nat → Int64} {g' : Nat → Int32} {q' : Nat → Int64} {c' : Nat → Nat → Int32} {l' : Nat → Nat → Int64} {v : Int32} {R : Option Value × List x_E} (hc : rr b e d 344 0 [(0, .ref 49), (1, .int (Int8.ofInt (42)).toInt32)] [] g q c l (some (.int v), rH e g' q' c' l')) (h : rr b e (d + 1) 374 23 [(0, .ref 49), (1, .int x1), (2, .int x2)] [.int v] g' q' c' l' R) : rr b e (d + 1) 374 17 [(0, .ref 49), (1, .int x1), (2, .int x2)] [] g q c l R := by
  obtain ⟨f1, hc⟩ := hc
  obtain ⟨f2, h⟩ := h
  obtain ⟨f, hf1, hf2⟩ : ∃ f, f1 ≤ f ∧ f2 ≤ f := ⟨max f1 f2, Nat.le_max_left _ _, Nat.le_max_right _ _⟩
  have hc := nrun_fuel f1 f _ _ _ _ _ _ _ _ _ hf1 hc
  have h := nrun_fuel f2 f _ _ _ _ _ _ _ _ _ hf2 h
  refine ⟨f + 3, ?_⟩
  obtain ⟨y, cb, hj⟩ := mq_374
  rw [n_step (st' := [.ref 49]) (pc' := 18) (lv' := [(0, .ref 49), (1, .int x1), (2, .int x2)]) (hp' := rH e g q c l) (i := .aload_n 0) (len := 1) rfl hj rfl rfl rfl]
  rw [n_step (st' := [.int (Int8.ofInt (42)).toInt32, .ref 49]) (pc' := 20) (lv' := [(0, .ref 49), (1, .int x1), (2, .int x2)]) (hp' := rH e g q c l) (i := .bipush 42) (len := 2) rfl hj rfl rfl rfl]
  obtain ⟨y2, cb2, hj2⟩ := mq_344
  rw [n_call (f := f) (d := d) (ki := 0) (idx := 341) (j' := 344) (kd := 0) (M' := (y2, cb2, 2, some .boolean, 12, 1, 0, 0)) (avs := [.ref 49, .int (Int8.ofInt (42)).toInt32]) (r := []) (rv := some (.int v)) (hp1 := rH e g' q' c' l') rfl hj rfl rfl rfl rfl (rq_n rfl rfl hj2 rfl rfl) rfl hc (Nat.le_of_ble_eq_true rfl)]
  exact h
set_option maxRecDepth 100000 in
set_option maxHeartbeats 4000000 in
theorem bk_374_23 {b : Bool} {d : Nat} {t0 x1 x2 : Int32} {e : Nat → x_E} {g : Nat → Int32} {q : Nat → Int64} {c : Nat → Nat → Int32} {l : Nat → Nat → Int64} {R : Option Value × List x_E} (h1 : xCn .eq t0 0 = true → rr b e d 374 90 [(2, .int x2)] [] g q c l R) (h2 : ¬ xCn .eq t0 0 = true → rr b e d 374 26 [(0, .ref 49), (1, .int x1), (2, .int x2)] [] g q c l R) : rr b e d 374 23 [(0, .ref 49), (1, .int x1), (2, .int x2)] [.int t0] g q c l R := by
  have key : ∀ f, nrun xZ (xY (xfm b)) xDT (f + 1) d 374 23 [(0, .ref 49), (1, .int x1), (2, .int x2)] [.int t0] (rH e g q c l) 0 0 = nrun xZ (xY (xfm b)) xDT f d 374 (if xCn .eq t0 0 = true then 90 else 26) [(0, .ref 49), (1, .int x1), (2, .int x2)] [] (rH e g q c l) 0 0 := by
    intro f
    obtain ⟨y, cb, hj⟩ := mq_374
    rw [n_step (st' := []) (pc' := (if xCn .eq t0 0 = true then 90 else 26)) (lv' := [(0, .ref 49), (1, .int x1), (2, .int x2)]) (hp' := rH e g q c l) (i := .ifCond .eq 67) (len := 3) rfl hj rfl rfl rfl]
  by_cases hc : xCn .eq t0 0 = true
  · obtain ⟨f, h⟩ := h1 hc
    refine ⟨f + 1, ?_⟩
    rw [key, if_pos hc]
    exact nrun_ext f f _ _ R 374 90 [(2, .int x2)] [(0, .ref 49), (1, .int x1), (2, .int x2)] [] _ 0 0 122 (Nat.le_refl _) (Nat.le_refl _) (Nat.le_of_ble_eq_true rfl) (lvR_mk [2] [0, 1, 2] rfl rfl (by decide) (by decide) (List.forall_mem_cons.mpr ⟨(List.mem_cons_of_mem _ (List.mem_cons_of_mem _ List.mem_cons_self)), (fun _ h => nomatch h)⟩) (List.forall_mem_cons.mpr ⟨Or.inr rfl, (List.forall_mem_cons.mpr ⟨Or.inr rfl, (List.forall_mem_cons.mpr ⟨Or.inl List.mem_cons_self, (fun _ h => nomatch h)⟩)⟩)⟩)) h
  · obtain ⟨f, h⟩ := h2 hc
    refine ⟨f + 1, ?_⟩
    rw [key, if_neg hc]
    exact h
set_option maxRecDepth 100000 in
set_option maxHeartbeats 4000000 in
theorem bk_374_26 {b : Bool} {d : Nat} {x1 x2 : Int32} {e : Nat → x_E} {g : Nat → Int32} {q : Nat → Int64} {c : Nat → Nat → Int32} {l : Nat → Nat → Int64} {g' : Nat → Int32} {q' : Nat → Int64} {c' : Nat → Nat → Int32} {l' : Nat → Nat → Int64} {v : Int32} {R : Option Value × List x_E} (hc : rr b e d 385 0 [(0, .ref 49), (1, .int x2), (2, .int x1)] [] g q c l (some (.int v), rH e g' q' c' l')) (h : rr b e (d + 1) 374 32 [(0, .ref 49), (1, .int x1)] [.int v] g' q' c' l' R) : rr b e (d + 1) 374 26 [(0, .ref 49), (1, .int x1), (2, .int x2)] [] g q c l R := by
  obtain ⟨f1, hc⟩ := hc
  obtain ⟨f2, h⟩ := h
  obtain ⟨f, hf1, hf2⟩ : ∃ f, f1 ≤ f ∧ f2 ≤ f := ⟨max f1 f2, Nat.le_max_left _ _, Nat.le_max_right _ _⟩
  have hc := nrun_fuel f1 f _ _ _ _ _ _ _ _ _ hf1 hc
  have h := nrun_fuel f2 f _ _ _ _ _ _ _ _ _ hf2 h
  refine ⟨f + 4, ?_⟩
  obtain ⟨y, cb, hj⟩ := mq_374
  rw [n_step (st' := [.ref 49]) (pc' := 27) (lv' := [(0, .ref 49), (1, .int x1), (2, .int x2)]) (hp' := rH e g q c l) (i := .aload_n 0) (len := 1) rfl hj rfl rfl rfl]
  rw [n_step (st' := [.int x2, .ref 49]) (pc' := 28) (lv' := [(0, .ref 49), (1, .int x1), (2, .int x2)]) (hp' := rH e g q c l) (i := .iload_n 2) (len := 1) rfl hj rfl rfl rfl]
  rw [n_step (st' := [.int x1, .int x2, .ref 49]) (pc' := 29) (lv' := [(0, .ref 49), (1, .int x1), (2, .int x2)]) (hp' := rH e g q c l) (i := .iload_n 1) (len := 1) rfl hj rfl rfl rfl]
  obtain ⟨y2, cb2, hj2⟩ := mq_385
  rw [n_call (f := f) (d := d) (ki := 0) (idx := 505) (j' := 385) (kd := 0) (M' := (y2, cb2, 3, some .boolean, 12, 2, 0, 0)) (avs := [.ref 49, .int x2, .int x1]) (r := []) (rv := some (.int v)) (hp1 := rH e g' q' c' l') rfl hj rfl rfl rfl rfl (rq_n rfl rfl hj2 rfl rfl) rfl hc (Nat.le_of_ble_eq_true rfl)]
  exact nrun_ext f f _ _ R 374 32 [(0, .ref 49), (1, .int x1)] [(0, .ref 49), (1, .int x1), (2, .int x2)] [.int v] _ 0 0 122 (Nat.le_refl _) (Nat.le_refl _) (Nat.le_of_ble_eq_true rfl) (lvR_mk [0, 1] [0, 1, 2] rfl rfl (by decide) (by decide) (List.forall_mem_cons.mpr ⟨List.mem_cons_self, (List.forall_mem_cons.mpr ⟨(List.mem_cons_of_mem _ List.mem_cons_self), (fun _ h => nomatch h)⟩)⟩) (List.forall_mem_cons.mpr ⟨Or.inl List.mem_cons_self, (List.forall_mem_cons.mpr ⟨Or.inl (List.mem_cons_of_mem _ List.mem_cons_self), (List.forall_mem_cons.mpr ⟨Or.inr rfl, (fun _ h => nomatch h)⟩)⟩)⟩)) h
set_option maxRecDepth 100000 in
set_option maxHeartbeats 4000000 in
theorem bk_374_32 {b : Bool} {d : Nat} {t0 x1 : Int32} {e : Nat → x_E} {g : Nat → Int32} {q : Nat → Int64} {c : Nat → Nat → Int32} {l : Nat → Nat → Int64} {g' : Nat → Int32} {q' : Nat → Int64} {c' : Nat → Nat → Int32} {l' : Nat → Nat → Int64} {R : Option Value × List x_E} (hc : rr b e d 322 0 [(0, .ref 49)] [] g q c l (none, rH e g' q' c' l')) (h : rr b e (d + 1) 374 37 [(0, .ref 49), (1, .int x1), (3, .int t0)] [] g' q' c' l' R) : rr b e (d + 1) 374 32 [(0, .ref 49), (1, .int x1)] [.int t0] g q c l R := by
  obtain ⟨f1, hc⟩ := hc
  obtain ⟨f2, h⟩ := h
  obtain ⟨f, hf1, hf2⟩ : ∃ f, f1 ≤ f ∧ f2 ≤ f := ⟨max f1 f2, Nat.le_max_left _ _, Nat.le_max_right _ _⟩
  have hc := nrun_fuel f1 f _ _ _ _ _ _ _ _ _ hf1 hc
  have h := nrun_fuel f2 f _ _ _ _ _ _ _ _ _ hf2 h
  refine ⟨f + 3, ?_⟩
  obtain ⟨y, cb, hj⟩ := mq_374
  rw [n_step (st' := []) (pc' := 33) (lv' := [(3, .int t0), (0, .ref 49), (1, .int x1)]) (hp' := rH e g q c l) (i := .istore_n 3) (len := 1) rfl hj rfl rfl rfl]
  rw [n_step (st' := [.ref 49]) (pc' := 34) (lv' := [(3, .int t0), (0, .ref 49), (1, .int x1)]) (hp' := rH e g q c l) (i := .aload_n 0) (len := 1) rfl hj rfl rfl rfl]
  obtain ⟨y2, cb2, hj2⟩ := mq_322
  rw [n_call (f := f) (d := d) (ki := 0) (idx := 344) (j' := 322) (kd := 0) (M' := (y2, cb2, 2, none, 12, 0, 0, 0)) (avs := [.ref 49]) (r := []) (rv := none) (hp1 := rH e g' q' c' l') rfl hj rfl rfl rfl rfl (rq_n rfl rfl hj2 rfl rfl) rfl hc (Nat.le_of_ble_eq_true rfl)]
  exact nrun_ext f f _ _ R 374 37 [(0, .ref 49), (1, .int x1), (3, .int t0)] [(3, .int t0), (0, .ref 49), (1, .int x1)] [] _ 0 0 122 (Nat.le_refl _) (Nat.le_refl _) (Nat.le_of_ble_eq_true rfl) (lvR_mk [0, 1, 3] [3, 0, 1] rfl rfl (by decide) (by decide) (List.forall_mem_cons.mpr ⟨(List.mem_cons_of_mem _ List.mem_cons_self), (List.forall_mem_cons.mpr ⟨(List.mem_cons_of_mem _ (List.mem_cons_of_mem _ List.mem_cons_self)), (List.forall_mem_cons.mpr ⟨List.mem_cons_self, (fun _ h => nomatch h)⟩)⟩)⟩) (List.forall_mem_cons.mpr ⟨Or.inl (List.mem_cons_of_mem _ (List.mem_cons_of_mem _ List.mem_cons_self)), (List.forall_mem_cons.mpr ⟨Or.inl List.mem_cons_self, (List.forall_mem_cons.mpr ⟨Or.inl (List.mem_cons_of_mem _ List.mem_cons_self), (fun _ h => nomatch h)⟩)⟩)⟩)) h
set_option maxRecDepth 100000 in
set_option maxHeartbeats 4000000 in
theorem bk_374_37 {b : Bool} {d : Nat} {x1 x3 : Int32} {e : Nat → x_E} {g : Nat → Int32} {q : Nat → Int64} {c : Nat → Nat → Int32} {l : Nat → Nat → Int64} {g' : Nat → Int32} {q' : Nat → Int64} {c' : Nat → Nat → Int32} {l' : Nat → Nat → Int64} {v : Int32} {R : Option Value × List x_E} (hc : rr b e d 375 0 [(0, .ref 49)] [] g q c l (some (.int v), rH e g' q' c' l')) (h : rr b e (d + 1) 374 48 [(0, .ref 49), (1, .int x1), (3, .int x3), (4, .int (g 11))] [.int v, .ref 49] g' q' c' l' R) : rr b e (d + 1) 374 37 [(0, .ref 49), (1, .int x1), (3, .int x3)] [] g q c l R := by
  obtain ⟨f1, hc⟩ := hc
  obtain ⟨f2, h⟩ := h
  obtain ⟨f, hf1, hf2⟩ : ∃ f, f1 ≤ f ∧ f2 ≤ f := ⟨max f1 f2, Nat.le_max_left _ _, Nat.le_max_right _ _⟩
  have hc := nrun_fuel f1 f _ _ _ _ _ _ _ _ _ hf1 hc
  have h := nrun_fuel f2 f _ _ _ _ _ _ _ _ _ hf2 h
  refine ⟨f + 6, ?_⟩
  obtain ⟨y, cb, hj⟩ := mq_374
  rw [n_step (st' := [.ref 49]) (pc' := 38) (lv' := [(0, .ref 49), (1, .int x1), (3, .int x3)]) (hp' := rH e g q c l) (i := .aload_n 0) (len := 1) rfl hj rfl rfl rfl]
  rw [n_get (st' := [.int (g 11)]) (pc' := 41) (lv' := [(0, .ref 49), (1, .int x1), (3, .int x3)]) (hp' := rH e g q c l) (i := .getfield 257) (len := 3) rfl hj rfl rfl rfl rfl]
  rw [n_step (st' := []) (pc' := 43) (lv' := [(4, .int (g 11)), (0, .ref 49), (1, .int x1), (3, .int x3)]) (hp' := rH e g q c l) (i := .istore 4) (len := 2) rfl hj rfl rfl rfl]
  rw [n_step (st' := [.ref 49]) (pc' := 44) (lv' := [(4, .int (g 11)), (0, .ref 49), (1, .int x1), (3, .int x3)]) (hp' := rH e g q c l) (i := .aload_n 0) (len := 1) rfl hj rfl rfl rfl]
  rw [n_step (st' := [.ref 49, .ref 49]) (pc' := 45) (lv' := [(4, .int (g 11)), (0, .ref 49), (1, .int x1), (3, .int x3)]) (hp' := rH e g q c l) (i := .aload_n 0) (len := 1) rfl hj rfl rfl rfl]
  obtain ⟨y2, cb2, hj2⟩ := mq_375
  rw [n_call (f := f) (d := d) (ki := 0) (idx := 511) (j' := 375) (kd := 0) (M' := (y2, cb2, 4, some .int, 12, 0, 0, 0)) (avs := [.ref 49]) (r := [.ref 49]) (rv := some (.int v)) (hp1 := rH e g' q' c' l') rfl hj rfl rfl rfl rfl (rq_n rfl rfl hj2 rfl rfl) rfl hc (Nat.le_of_ble_eq_true rfl)]
  exact nrun_ext f f _ _ R 374 48 [(0, .ref 49), (1, .int x1), (3, .int x3), (4, .int (g 11))] [(4, .int (g 11)), (0, .ref 49), (1, .int x1), (3, .int x3)] [.int v, .ref 49] _ 0 0 122 (Nat.le_refl _) (Nat.le_refl _) (Nat.le_of_ble_eq_true rfl) (lvR_mk [0, 1, 3, 4] [4, 0, 1, 3] rfl rfl (by decide) (by decide) (List.forall_mem_cons.mpr ⟨(List.mem_cons_of_mem _ List.mem_cons_self), (List.forall_mem_cons.mpr ⟨(List.mem_cons_of_mem _ (List.mem_cons_of_mem _ List.mem_cons_self)), (List.forall_mem_cons.mpr ⟨(List.mem_cons_of_mem _ (List.mem_cons_of_mem _ (List.mem_cons_of_mem _ List.mem_cons_self))), (List.forall_mem_cons.mpr ⟨List.mem_cons_self, (fun _ h => nomatch h)⟩)⟩)⟩)⟩) (List.forall_mem_cons.mpr ⟨Or.inl (List.mem_cons_of_mem _ (List.mem_cons_of_mem _ (List.mem_cons_of_mem _ List.mem_cons_self))), (List.forall_mem_cons.mpr ⟨Or.inl List.mem_cons_self, (List.forall_mem_cons.mpr ⟨Or.inl (List.mem_cons_of_mem _ List.mem_cons_self), (List.forall_mem_cons.mpr ⟨Or.inl (List.mem_cons_of_mem _ (List.mem_cons_of_mem _ List.mem_cons_self)), (fun _ h => nomatch h)⟩)⟩)⟩)⟩)) h
set_option maxRecDepth 100000 in
set_option maxHeartbeats 4000000 in
theorem bk_374_48 {b : Bool} {d : Nat} {t0 x1 x3 x4 : Int32} {e : Nat → x_E} {g : Nat → Int32} {q : Nat → Int64} {c : Nat → Nat → Int32} {l : Nat → Nat → Int64} {g' : Nat → Int32} {q' : Nat → Int64} {c' : Nat → Nat → Int32} {l' : Nat → Nat → Int64} {v : Int32} {R : Option Value × List x_E} (hc : rr b e d 385 0 [(0, .ref 49), (1, .int t0), (2, .int x4)] [] g q c l (some (.int v), rH e g' q' c' l')) (h : rr b e (d + 1) 374 53 [(0, .ref 49), (1, .int x1), (3, .int x3)] [.int v] g' q' c' l' R) : rr b e (d + 1) 374 48 [(0, .ref 49), (1, .int x1), (3, .int x3), (4, .int x4)] [.int t0, .ref 49] g q c l R := by
  obtain ⟨f1, hc⟩ := hc
  obtain ⟨f2, h⟩ := h
  obtain ⟨f, hf1, hf2⟩ : ∃ f, f1 ≤ f ∧ f2 ≤ f := ⟨max f1 f2, Nat.le_max_left _ _, Nat.le_max_right _ _⟩
  have hc := nrun_fuel f1 f _ _ _ _ _ _ _ _ _ hf1 hc
  have h := nrun_fuel f2 f _ _ _ _ _ _ _ _ _ hf2 h
  refine ⟨f + 2, ?_⟩
  obtain ⟨y, cb, hj⟩ := mq_374
  rw [n_step (st' := [.int x4, .int t0, .ref 49]) (pc' := 50) (lv' := [(0, .ref 49), (1, .int x1), (3, .int x3), (4, .int x4)]) (hp' := rH e g q c l) (i := .iload 4) (len := 2) rfl hj rfl rfl rfl]
  obtain ⟨y2, cb2, hj2⟩ := mq_385
  rw [n_call (f := f) (d := d) (ki := 0) (idx := 505) (j' := 385) (kd := 0) (M' := (y2, cb2, 3, some .boolean, 12, 2, 0, 0)) (avs := [.ref 49, .int t0, .int x4]) (r := []) (rv := some (.int v)) (hp1 := rH e g' q' c' l') rfl hj rfl rfl rfl rfl (rq_n rfl rfl hj2 rfl rfl) rfl hc (Nat.le_of_ble_eq_true rfl)]
  exact nrun_ext f f _ _ R 374 53 [(0, .ref 49), (1, .int x1), (3, .int x3)] [(0, .ref 49), (1, .int x1), (3, .int x3), (4, .int x4)] [.int v] _ 0 0 122 (Nat.le_refl _) (Nat.le_refl _) (Nat.le_of_ble_eq_true rfl) (lvR_mk [0, 1, 3] [0, 1, 3, 4] rfl rfl (by decide) (by decide) (List.forall_mem_cons.mpr ⟨List.mem_cons_self, (List.forall_mem_cons.mpr ⟨(List.mem_cons_of_mem _ List.mem_cons_self), (List.forall_mem_cons.mpr ⟨(List.mem_cons_of_mem _ (List.mem_cons_of_mem _ List.mem_cons_self)), (fun _ h => nomatch h)⟩)⟩)⟩) (List.forall_mem_cons.mpr ⟨Or.inl List.mem_cons_self, (List.forall_mem_cons.mpr ⟨Or.inl (List.mem_cons_of_mem _ List.mem_cons_self), (List.forall_mem_cons.mpr ⟨Or.inl (List.mem_cons_of_mem _ (List.mem_cons_of_mem _ List.mem_cons_self)), (List.forall_mem_cons.mpr ⟨Or.inr rfl, (fun _ h => nomatch h)⟩)⟩)⟩)⟩)) h
set_option maxRecDepth 100000 in
set_option maxHeartbeats 4000000 in
theorem bk_374_53 {b : Bool} {d : Nat} {t0 x1 x3 : Int32} {e : Nat → x_E} {g : Nat → Int32} {q : Nat → Int64} {c : Nat → Nat → Int32} {l : Nat → Nat → Int64} {R : Option Value × List x_E} (h1 : xCn .eq t0 0 = true → rr b e d 374 64 [(0, .ref 49), (1, .int x1)] [] g q c l R) (h2 : ¬ xCn .eq t0 0 = true → rr b e d 374 56 [(0, .ref 49), (1, .int x1), (3, .int x3)] [] g q c l R) : rr b e d 374 53 [(0, .ref 49), (1, .int x1), (3, .int x3)] [.int t0] g q c l R := by
  have key : ∀ f, nrun xZ (xY (xfm b)) xDT (f + 1) d 374 53 [(0, .ref 49), (1, .int x1), (3, .int x3)] [.int t0] (rH e g q c l) 0 0 = nrun xZ (xY (xfm b)) xDT f d 374 (if xCn .eq t0 0 = true then 64 else 56) [(0, .ref 49), (1, .int x1), (3, .int x3)] [] (rH e g q c l) 0 0 := by
    intro f
    obtain ⟨y, cb, hj⟩ := mq_374
    rw [n_step (st' := []) (pc' := (if xCn .eq t0 0 = true then 64 else 56)) (lv' := [(0, .ref 49), (1, .int x1), (3, .int x3)]) (hp' := rH e g q c l) (i := .ifCond .eq 11) (len := 3) rfl hj rfl rfl rfl]
  by_cases hc : xCn .eq t0 0 = true
  · obtain ⟨f, h⟩ := h1 hc
    refine ⟨f + 1, ?_⟩
    rw [key, if_pos hc]
    exact nrun_ext f f _ _ R 374 64 [(0, .ref 49), (1, .int x1)] [(0, .ref 49), (1, .int x1), (3, .int x3)] [] _ 0 0 122 (Nat.le_refl _) (Nat.le_refl _) (Nat.le_of_ble_eq_true rfl) (lvR_mk [0, 1] [0, 1, 3] rfl rfl (by decide) (by decide) (List.forall_mem_cons.mpr ⟨List.mem_cons_self, (List.forall_mem_cons.mpr ⟨(List.mem_cons_of_mem _ List.mem_cons_self), (fun _ h => nomatch h)⟩)⟩) (List.forall_mem_cons.mpr ⟨Or.inl List.mem_cons_self, (List.forall_mem_cons.mpr ⟨Or.inl (List.mem_cons_of_mem _ List.mem_cons_self), (List.forall_mem_cons.mpr ⟨Or.inr rfl, (fun _ h => nomatch h)⟩)⟩)⟩)) h
  · obtain ⟨f, h⟩ := h2 hc
    refine ⟨f + 1, ?_⟩
    rw [key, if_neg hc]
    exact h
set_option maxRecDepth 100000 in
set_option maxHeartbeats 4000000 in
theorem bk_374_56 {b : Bool} {d : Nat} {x1 x3 : Int32} {e : Nat → x_E} {g : Nat → Int32} {q : Nat → Int64} {c : Nat → Nat → Int32} {l : Nat → Nat → Int64} {R : Option Value × List x_E} (h1 : xCn .eq x3 0 = true → rr b e d 374 64 [(0, .ref 49), (1, .int x1)] [] g q c l R) (h2 : ¬ xCn .eq x3 0 = true → rr b e d 374 60 [(0, .ref 49), (1, .int x1)] [] g q c l R) : rr b e d 374 56 [(0, .ref 49), (1, .int x1), (3, .int x3)] [] g q c l R := by
  have key : ∀ f, nrun xZ (xY (xfm b)) xDT (f + 2) d 374 56 [(0, .ref 49), (1, .int x1), (3, .int x3)] [] (rH e g q c l) 0 0 = nrun xZ (xY (xfm b)) xDT f d 374 (if xCn .eq x3 0 = true then 64 else 60) [(0, .ref 49), (1, .int x1), (3, .int x3)] [] (rH e g q c l) 0 0 := by
    intro f
    obtain ⟨y, cb, hj⟩ := mq_374
    rw [n_step (st' := [.int x3]) (pc' := 57) (lv' := [(0, .ref 49), (1, .int x1), (3, .int x3)]) (hp' := rH e g q c l) (i := .iload_n 3) (len := 1) rfl hj rfl rfl rfl]
    rw [n_step (st' := []) (pc' := (if xCn .eq x3 0 = true then 64 else 60)) (lv' := [(0, .ref 49), (1, .int x1), (3, .int x3)]) (hp' := rH e g q c l) (i := .ifCond .eq 7) (len := 3) rfl hj rfl rfl rfl]
  by_cases hc : xCn .eq x3 0 = true
  · obtain ⟨f, h⟩ := h1 hc
    refine ⟨f + 2, ?_⟩
    rw [key, if_pos hc]
    exact nrun_ext f f _ _ R 374 64 [(0, .ref 49), (1, .int x1)] [(0, .ref 49), (1, .int x1), (3, .int x3)] [] _ 0 0 122 (Nat.le_refl _) (Nat.le_refl _) (Nat.le_of_ble_eq_true rfl) (lvR_mk [0, 1] [0, 1, 3] rfl rfl (by decide) (by decide) (List.forall_mem_cons.mpr ⟨List.mem_cons_self, (List.forall_mem_cons.mpr ⟨(List.mem_cons_of_mem _ List.mem_cons_self), (fun _ h => nomatch h)⟩)⟩) (List.forall_mem_cons.mpr ⟨Or.inl List.mem_cons_self, (List.forall_mem_cons.mpr ⟨Or.inl (List.mem_cons_of_mem _ List.mem_cons_self), (List.forall_mem_cons.mpr ⟨Or.inr rfl, (fun _ h => nomatch h)⟩)⟩)⟩)) h
  · obtain ⟨f, h⟩ := h2 hc
    refine ⟨f + 2, ?_⟩
    rw [key, if_neg hc]
    exact nrun_ext f f _ _ R 374 60 [(0, .ref 49), (1, .int x1)] [(0, .ref 49), (1, .int x1), (3, .int x3)] [] _ 0 0 122 (Nat.le_refl _) (Nat.le_refl _) (Nat.le_of_ble_eq_true rfl) (lvR_mk [0, 1] [0, 1, 3] rfl rfl (by decide) (by decide) (List.forall_mem_cons.mpr ⟨List.mem_cons_self, (List.forall_mem_cons.mpr ⟨(List.mem_cons_of_mem _ List.mem_cons_self), (fun _ h => nomatch h)⟩)⟩) (List.forall_mem_cons.mpr ⟨Or.inl List.mem_cons_self, (List.forall_mem_cons.mpr ⟨Or.inl (List.mem_cons_of_mem _ List.mem_cons_self), (List.forall_mem_cons.mpr ⟨Or.inr rfl, (fun _ h => nomatch h)⟩)⟩)⟩)) h
set_option maxRecDepth 100000 in
set_option maxHeartbeats 4000000 in
theorem bk_374_60 {b : Bool} {d : Nat} {x1 : Int32} {e : Nat → x_E} {g : Nat → Int32} {q : Nat → Int64} {c : Nat → Nat → Int32} {l : Nat → Nat → Int64} {R : Option Value × List x_E} (h : rr b e d 374 65 [(0, .ref 49), (1, .int x1)] [.int (Int32.ofInt (1))] g q c l R) : rr b e d 374 60 [(0, .ref 49), (1, .int x1)] [] g q c l R := by
  obtain ⟨f, h⟩ := h
  refine ⟨f + 2, ?_⟩
  obtain ⟨y, cb, hj⟩ := mq_374
  rw [n_step (st' := [.int (Int32.ofInt (1))]) (pc' := 61) (lv' := [(0, .ref 49), (1, .int x1)]) (hp' := rH e g q c l) (i := .iconst 1) (len := 1) rfl hj rfl rfl rfl]
  rw [n_step (st' := [.int (Int32.ofInt (1))]) (pc' := 65) (lv' := [(0, .ref 49), (1, .int x1)]) (hp' := rH e g q c l) (i := .goto 4) (len := 3) rfl hj rfl rfl rfl]
  exact h
set_option maxRecDepth 100000 in
set_option maxHeartbeats 4000000 in
theorem bk_374_64 {b : Bool} {d : Nat} {x1 : Int32} {e : Nat → x_E} {g : Nat → Int32} {q : Nat → Int64} {c : Nat → Nat → Int32} {l : Nat → Nat → Int64} {R : Option Value × List x_E} (h : rr b e d 374 65 [(0, .ref 49), (1, .int x1)] [.int (Int32.ofInt (0))] g q c l R) : rr b e d 374 64 [(0, .ref 49), (1, .int x1)] [] g q c l R := by
  obtain ⟨f, h⟩ := h
  refine ⟨f + 1, ?_⟩
  obtain ⟨y, cb, hj⟩ := mq_374
  rw [n_step (st' := [.int (Int32.ofInt (0))]) (pc' := 65) (lv' := [(0, .ref 49), (1, .int x1)]) (hp' := rH e g q c l) (i := .iconst 0) (len := 1) rfl hj rfl rfl rfl]
  exact h
set_option maxRecDepth 100000 in
set_option maxHeartbeats 4000000 in
theorem bk_374_65 {b : Bool} {d : Nat} {t0 x1 : Int32} {e : Nat → x_E} {g : Nat → Int32} {q : Nat → Int64} {c : Nat → Nat → Int32} {l : Nat → Nat → Int64} {g' : Nat → Int32} {q' : Nat → Int64} {c' : Nat → Nat → Int32} {l' : Nat → Nat → Int64} {v : Int32} {R : Option Value × List x_E} (hc : rr b e d 355 0 [(0, .ref 49), (1, .int (Int8.ofInt (7)).toInt32), (2, .int (Int32.ofInt (0)))] [] g q c l (some (.int v), rH e g' q' c' l')) (h : rr b e (d + 1) 374 73 [(0, .ref 49), (1, .int x1), (3, .int t0)] [.int v] g' q' c' l' R) : rr b e (d + 1) 374 65 [(0, .ref 49), (1, .int x1)] [.int t0] g q c l R := by
  obtain ⟨f1, hc⟩ := hc
  obtain ⟨f2, h⟩ := h
  obtain ⟨f, hf1, hf2⟩ : ∃ f, f1 ≤ f ∧ f2 ≤ f := ⟨max f1 f2, Nat.le_max_left _ _, Nat.le_max_right _ _⟩
  have hc := nrun_fuel f1 f _ _ _ _ _ _ _ _ _ hf1 hc
  have h := nrun_fuel f2 f _ _ _ _ _ _ _ _ _ hf2 h
  refine ⟨f + 5, ?_⟩
  obtain ⟨y, cb, hj⟩ := mq_374
  rw [n_step (st' := []) (pc' := 66) (lv' := [(3, .int t0), (0, .ref 49), (1, .int x1)]) (hp' := rH e g q c l) (i := .istore_n 3) (len := 1) rfl hj rfl rfl rfl]
  rw [n_step (st' := [.ref 49]) (pc' := 67) (lv' := [(3, .int t0), (0, .ref 49), (1, .int x1)]) (hp' := rH e g q c l) (i := .aload_n 0) (len := 1) rfl hj rfl rfl rfl]
  rw [n_step (st' := [.int (Int8.ofInt (7)).toInt32, .ref 49]) (pc' := 69) (lv' := [(3, .int t0), (0, .ref 49), (1, .int x1)]) (hp' := rH e g q c l) (i := .bipush 7) (len := 2) rfl hj rfl rfl rfl]
  rw [n_step (st' := [.int (Int32.ofInt (0)), .int (Int8.ofInt (7)).toInt32, .ref 49]) (pc' := 70) (lv' := [(3, .int t0), (0, .ref 49), (1, .int x1)]) (hp' := rH e g q c l) (i := .iconst 0) (len := 1) rfl hj rfl rfl rfl]
  obtain ⟨y2, cb2, hj2⟩ := mq_355
  rw [n_call (f := f) (d := d) (ki := 0) (idx := 496) (j' := 355) (kd := 0) (M' := (y2, cb2, 3, some .int, 12, 2, 0, 0)) (avs := [.ref 49, .int (Int8.ofInt (7)).toInt32, .int (Int32.ofInt (0))]) (r := []) (rv := some (.int v)) (hp1 := rH e g' q' c' l') rfl hj rfl rfl rfl rfl (rq_n rfl rfl hj2 rfl rfl) rfl hc (Nat.le_of_ble_eq_true rfl)]
  exact nrun_ext f f _ _ R 374 73 [(0, .ref 49), (1, .int x1), (3, .int t0)] [(3, .int t0), (0, .ref 49), (1, .int x1)] [.int v] _ 0 0 122 (Nat.le_refl _) (Nat.le_refl _) (Nat.le_of_ble_eq_true rfl) (lvR_mk [0, 1, 3] [3, 0, 1] rfl rfl (by decide) (by decide) (List.forall_mem_cons.mpr ⟨(List.mem_cons_of_mem _ List.mem_cons_self), (List.forall_mem_cons.mpr ⟨(List.mem_cons_of_mem _ (List.mem_cons_of_mem _ List.mem_cons_self)), (List.forall_mem_cons.mpr ⟨List.mem_cons_self, (fun _ h => nomatch h)⟩)⟩)⟩) (List.forall_mem_cons.mpr ⟨Or.inl (List.mem_cons_of_mem _ (List.mem_cons_of_mem _ List.mem_cons_self)), (List.forall_mem_cons.mpr ⟨Or.inl List.mem_cons_self, (List.forall_mem_cons.mpr ⟨Or.inl (List.mem_cons_of_mem _ List.mem_cons_self), (fun _ h => nomatch h)⟩)⟩)⟩)) h
set_option maxRecDepth 100000 in
set_option maxHeartbeats 4000000 in
theorem bk_374_73 {b : Bool} {d : Nat} {t0 x1 x3 : Int32} {e : Nat → x_E} {g : Nat → Int32} {q : Nat → Int64} {c : Nat → Nat → Int32} {l : Nat → Nat → Int64} {R : Option Value × List x_E} (h1 : xCn .eq x3 0 = true → rr b e d 374 85 [(0, .ref 49), (1, .int x1)] [] g q c l R) (h2 : ¬ xCn .eq x3 0 = true → rr b e d 374 78 [(0, .ref 49), (1, .int x1)] [] g q c l R) : rr b e d 374 73 [(0, .ref 49), (1, .int x1), (3, .int x3)] [.int t0] g q c l R := by
  have key : ∀ f, nrun xZ (xY (xfm b)) xDT (f + 3) d 374 73 [(0, .ref 49), (1, .int x1), (3, .int x3)] [.int t0] (rH e g q c l) 0 0 = nrun xZ (xY (xfm b)) xDT f d 374 (if xCn .eq x3 0 = true then 85 else 78) [(0, .ref 49), (1, .int x1), (3, .int x3)] [] (rH e g q c l) 0 0 := by
    intro f
    obtain ⟨y, cb, hj⟩ := mq_374
    rw [n_step (st' := []) (pc' := 74) (lv' := [(0, .ref 49), (1, .int x1), (3, .int x3)]) (hp' := rH e g q c l) (i := .pop) (len := 1) rfl hj rfl rfl rfl]
    rw [n_step (st' := [.int x3]) (pc' := 75) (lv' := [(0, .ref 49), (1, .int x1), (3, .int x3)]) (hp' := rH e g q c l) (i := .iload_n 3) (len := 1) rfl hj rfl rfl rfl]
    rw [n_step (st' := []) (pc' := (if xCn .eq x3 0 = true then 85 else 78)) (lv' := [(0, .ref 49), (1, .int x1), (3, .int x3)]) (hp' := rH e g q c l) (i := .ifCond .eq 10) (len := 3) rfl hj rfl rfl rfl]
  by_cases hc : xCn .eq x3 0 = true
  · obtain ⟨f, h⟩ := h1 hc
    refine ⟨f + 3, ?_⟩
    rw [key, if_pos hc]
    exact nrun_ext f f _ _ R 374 85 [(0, .ref 49), (1, .int x1)] [(0, .ref 49), (1, .int x1), (3, .int x3)] [] _ 0 0 122 (Nat.le_refl _) (Nat.le_refl _) (Nat.le_of_ble_eq_true rfl) (lvR_mk [0, 1] [0, 1, 3] rfl rfl (by decide) (by decide) (List.forall_mem_cons.mpr ⟨List.mem_cons_self, (List.forall_mem_cons.mpr ⟨(List.mem_cons_of_mem _ List.mem_cons_self), (fun _ h => nomatch h)⟩)⟩) (List.forall_mem_cons.mpr ⟨Or.inl List.mem_cons_self, (List.forall_mem_cons.mpr ⟨Or.inl (List.mem_cons_of_mem _ List.mem_cons_self), (List.forall_mem_cons.mpr ⟨Or.inr rfl, (fun _ h => nomatch h)⟩)⟩)⟩)) h
  · obtain ⟨f, h⟩ := h2 hc
    refine ⟨f + 3, ?_⟩
    rw [key, if_neg hc]
    exact nrun_ext f f _ _ R 374 78 [(0, .ref 49), (1, .int x1)] [(0, .ref 49), (1, .int x1), (3, .int x3)] [] _ 0 0 122 (Nat.le_refl _) (Nat.le_refl _) (Nat.le_of_ble_eq_true rfl) (lvR_mk [0, 1] [0, 1, 3] rfl rfl (by decide) (by decide) (List.forall_mem_cons.mpr ⟨List.mem_cons_self, (List.forall_mem_cons.mpr ⟨(List.mem_cons_of_mem _ List.mem_cons_self), (fun _ h => nomatch h)⟩)⟩) (List.forall_mem_cons.mpr ⟨Or.inl List.mem_cons_self, (List.forall_mem_cons.mpr ⟨Or.inl (List.mem_cons_of_mem _ List.mem_cons_self), (List.forall_mem_cons.mpr ⟨Or.inr rfl, (fun _ h => nomatch h)⟩)⟩)⟩)) h
set_option maxRecDepth 100000 in
set_option maxHeartbeats 4000000 in
theorem bk_374_78 {b : Bool} {d : Nat} {x1 : Int32} {e : Nat → x_E} {g : Nat → Int32} {q : Nat → Int64} {c : Nat → Nat → Int32} {l : Nat → Nat → Int64} {R : Option Value × List x_E} (h : rr b e d 374 86 [(0, .ref 49), (1, .int x1)] [.int (g 34)] g q c l R) : rr b e d 374 78 [(0, .ref 49), (1, .int x1)] [] g q c l R := by
  obtain ⟨f, h⟩ := h
  refine ⟨f + 3, ?_⟩
  obtain ⟨y, cb, hj⟩ := mq_374
  rw [n_step (st' := [.ref 49]) (pc' := 79) (lv' := [(0, .ref 49), (1, .int x1)]) (hp' := rH e g q c l) (i := .aload_n 0) (len := 1) rfl hj rfl rfl rfl]
  rw [n_get (st' := [.int (g 34)]) (pc' := 82) (lv' := [(0, .ref 49), (1, .int x1)]) (hp' := rH e g q c l) (i := .getfield 508) (len := 3) rfl hj rfl rfl rfl rfl]
  rw [n_step (st' := [.int (g 34)]) (pc' := 86) (lv' := [(0, .ref 49), (1, .int x1)]) (hp' := rH e g q c l) (i := .goto 4) (len := 3) rfl hj rfl rfl rfl]
  exact h
set_option maxRecDepth 100000 in
set_option maxHeartbeats 4000000 in
theorem bk_374_85 {b : Bool} {d : Nat} {x1 : Int32} {e : Nat → x_E} {g : Nat → Int32} {q : Nat → Int64} {c : Nat → Nat → Int32} {l : Nat → Nat → Int64} {R : Option Value × List x_E} (h : rr b e d 374 86 [(0, .ref 49), (1, .int x1)] [.int (Int32.ofInt (-1))] g q c l R) : rr b e d 374 85 [(0, .ref 49), (1, .int x1)] [] g q c l R := by
  obtain ⟨f, h⟩ := h
  refine ⟨f + 1, ?_⟩
  obtain ⟨y, cb, hj⟩ := mq_374
  rw [n_step (st' := [.int (Int32.ofInt (-1))]) (pc' := 86) (lv' := [(0, .ref 49), (1, .int x1)]) (hp' := rH e g q c l) (i := .iconst (-1)) (len := 1) rfl hj rfl rfl rfl]
  exact h
set_option maxRecDepth 100000 in
set_option maxHeartbeats 4000000 in
theorem bk_374_86 {b : Bool} {d : Nat} {t0 x1 : Int32} {e : Nat → x_E} {g : Nat → Int32} {q : Nat → Int64} {c : Nat → Nat → Int32} {l : Nat → Nat → Int64} {R : Option Value × List x_E} (h : rr b e d 374 10 [(0, .ref 49), (1, .int x1), (2, .int t0)] [] g q c l R) : rr b e d 374 86 [(0, .ref 49), (1, .int x1)] [.int t0] g q c l R := by
  obtain ⟨f, h⟩ := h
  refine ⟨f + 2, ?_⟩
  obtain ⟨y, cb, hj⟩ := mq_374
  rw [n_step (st' := []) (pc' := 87) (lv' := [(2, .int t0), (0, .ref 49), (1, .int x1)]) (hp' := rH e g q c l) (i := .istore_n 2) (len := 1) rfl hj rfl rfl rfl]
  rw [n_step (st' := []) (pc' := 10) (lv' := [(2, .int t0), (0, .ref 49), (1, .int x1)]) (hp' := rH e g q c l) (i := .goto (-77)) (len := 3) rfl hj rfl rfl rfl]
  exact nrun_ext f f _ _ R 374 10 [(0, .ref 49), (1, .int x1), (2, .int t0)] [(2, .int t0), (0, .ref 49), (1, .int x1)] [] _ 0 0 122 (Nat.le_refl _) (Nat.le_refl _) (Nat.le_of_ble_eq_true rfl) (lvR_mk [0, 1, 2] [2, 0, 1] rfl rfl (by decide) (by decide) (List.forall_mem_cons.mpr ⟨(List.mem_cons_of_mem _ List.mem_cons_self), (List.forall_mem_cons.mpr ⟨(List.mem_cons_of_mem _ (List.mem_cons_of_mem _ List.mem_cons_self)), (List.forall_mem_cons.mpr ⟨List.mem_cons_self, (fun _ h => nomatch h)⟩)⟩)⟩) (List.forall_mem_cons.mpr ⟨Or.inl (List.mem_cons_of_mem _ (List.mem_cons_of_mem _ List.mem_cons_self)), (List.forall_mem_cons.mpr ⟨Or.inl List.mem_cons_self, (List.forall_mem_cons.mpr ⟨Or.inl (List.mem_cons_of_mem _ List.mem_cons_self), (fun _ h => nomatch h)⟩)⟩)⟩)) h
set_option maxRecDepth 100000 in
set_option maxHeartbeats 4000000 in
theorem bk_374_90 {b : Bool} {d : Nat} {x2 : Int32} {e : Nat → x_E} {g : Nat → Int32} {q : Nat → Int64} {c : Nat → Nat → Int32} {l : Nat → Nat → Int64} : rr b e d 374 90 [(2, .int x2)] [] g q c l (some (.int x2), rH e g q c l) := by
  refine ⟨0 + 2, ?_⟩
  obtain ⟨y, cb, hj⟩ := mq_374
  rw [n_step (st' := [.int x2]) (pc' := 91) (lv' := [(2, .int x2)]) (hp' := rH e g q c l) (i := .iload_n 2) (len := 1) rfl hj rfl rfl rfl]
  exact n_ret rfl hj rfl rfl (x_ret rfl)
set_option maxRecDepth 100000 in
set_option maxHeartbeats 4000000 in
theorem bk_375_0 {b : Bool} {d : Nat} {e : Nat → x_E} {g : Nat → Int32} {q : Nat → Int64} {c : Nat → Nat → Int32} {l : Nat → Nat → Int64} {g' : Nat → Int32} {q' : Nat → Int64} {c' : Nat → Nat → Int32} {l' : Nat → Nat → Int64} {v : Int32} {R : Option Value × List x_E} (hc : rr b e d 376 0 [(0, .ref 49)] [] g q c l (some (.int v), rH e g' q' c' l')) (h : rr b e (d + 1) 375 9 [(0, .ref 49), (1, .int (g 11))] [.int v] g' q' c' l' R) : rr b e (d + 1) 375 0 [(0, .ref 49)] [] g q c l R := by
  obtain ⟨f1, hc⟩ := hc
  obtain ⟨f2, h⟩ := h
  obtain ⟨f, hf1, hf2⟩ : ∃ f, f1 ≤ f ∧ f2 ≤ f := ⟨max f1 f2, Nat.le_max_left _ _, Nat.le_max_right _ _⟩
  have hc := nrun_fuel f1 f _ _ _ _ _ _ _ _ _ hf1 hc
  have h := nrun_fuel f2 f _ _ _ _ _ _ _ _ _ hf2 h
  refine ⟨f + 5, ?_⟩
  obtain ⟨y, cb, hj⟩ := mq_375
  rw [n_step (st' := [.ref 49]) (pc' := 1) (lv' := [(0, .ref 49)]) (hp' := rH e g q c l) (i := .aload_n 0) (len := 1) rfl hj rfl rfl rfl]
  rw [n_get (st' := [.int (g 11)]) (pc' := 4) (lv' := [(0, .ref 49)]) (hp' := rH e g q c l) (i := .getfield 257) (len := 3) rfl hj rfl rfl rfl rfl]
  rw [n_step (st' := []) (pc' := 5) (lv' := [(1, .int (g 11)), (0, .ref 49)]) (hp' := rH e g q c l) (i := .istore_n 1) (len := 1) rfl hj rfl rfl rfl]
  rw [n_step (st' := [.ref 49]) (pc' := 6) (lv' := [(1, .int (g 11)), (0, .ref 49)]) (hp' := rH e g q c l) (i := .aload_n 0) (len := 1) rfl hj rfl rfl rfl]
  obtain ⟨y2, cb2, hj2⟩ := mq_376
  rw [n_call (f := f) (d := d) (ki := 0) (idx := 514) (j' := 376) (kd := 0) (M' := (y2, cb2, 3, some .int, 12, 0, 0, 0)) (avs := [.ref 49]) (r := []) (rv := some (.int v)) (hp1 := rH e g' q' c' l') rfl hj rfl rfl rfl rfl (rq_n rfl rfl hj2 rfl rfl) rfl hc (Nat.le_of_ble_eq_true rfl)]
  exact nrun_ext f f _ _ R 375 9 [(0, .ref 49), (1, .int (g 11))] [(1, .int (g 11)), (0, .ref 49)] [.int v] _ 0 0 122 (Nat.le_refl _) (Nat.le_refl _) (Nat.le_of_ble_eq_true rfl) (lvR_mk [0, 1] [1, 0] rfl rfl (by decide) (by decide) (List.forall_mem_cons.mpr ⟨(List.mem_cons_of_mem _ List.mem_cons_self), (List.forall_mem_cons.mpr ⟨List.mem_cons_self, (fun _ h => nomatch h)⟩)⟩) (List.forall_mem_cons.mpr ⟨Or.inl (List.mem_cons_of_mem _ List.mem_cons_self), (List.forall_mem_cons.mpr ⟨Or.inl List.mem_cons_self, (fun _ h => nomatch h)⟩)⟩)) h
set_option maxRecDepth 100000 in
set_option maxHeartbeats 4000000 in
theorem bk_375_9 {b : Bool} {d : Nat} {t0 x1 : Int32} {e : Nat → x_E} {g : Nat → Int32} {q : Nat → Int64} {c : Nat → Nat → Int32} {l : Nat → Nat → Int64} {R : Option Value × List x_E} (h : rr b e d 375 12 [(0, .ref 49), (1, .int x1), (2, .int t0), (3, .int (Int32.ofInt (1)))] [] g q c l R) : rr b e d 375 9 [(0, .ref 49), (1, .int x1)] [.int t0] g q c l R := by
  obtain ⟨f, h⟩ := h
  refine ⟨f + 3, ?_⟩
  obtain ⟨y, cb, hj⟩ := mq_375
  rw [n_step (st' := []) (pc' := 10) (lv' := [(2, .int t0), (0, .ref 49), (1, .int x1)]) (hp' := rH e g q c l) (i := .istore_n 2) (len := 1) rfl hj rfl rfl rfl]
  rw [n_step (st' := [.int (Int32.ofInt (1))]) (pc' := 11) (lv' := [(2, .int t0), (0, .ref 49), (1, .int x1)]) (hp' := rH e g q c l) (i := .iconst 1) (len := 1) rfl hj rfl rfl rfl]
  rw [n_step (st' := []) (pc' := 12) (lv' := [(3, .int (Int32.ofInt (1))), (2, .int t0), (0, .ref 49), (1, .int x1)]) (hp' := rH e g q c l) (i := .istore_n 3) (len := 1) rfl hj rfl rfl rfl]
  exact nrun_ext f f _ _ R 375 12 [(0, .ref 49), (1, .int x1), (2, .int t0), (3, .int (Int32.ofInt (1)))] [(3, .int (Int32.ofInt (1))), (2, .int t0), (0, .ref 49), (1, .int x1)] [] _ 0 0 122 (Nat.le_refl _) (Nat.le_refl _) (Nat.le_of_ble_eq_true rfl) (lvR_mk [0, 1, 2, 3] [3, 2, 0, 1] rfl rfl (by decide) (by decide) (List.forall_mem_cons.mpr ⟨(List.mem_cons_of_mem _ (List.mem_cons_of_mem _ List.mem_cons_self)), (List.forall_mem_cons.mpr ⟨(List.mem_cons_of_mem _ (List.mem_cons_of_mem _ (List.mem_cons_of_mem _ List.mem_cons_self))), (List.forall_mem_cons.mpr ⟨(List.mem_cons_of_mem _ List.mem_cons_self), (List.forall_mem_cons.mpr ⟨List.mem_cons_self, (fun _ h => nomatch h)⟩)⟩)⟩)⟩) (List.forall_mem_cons.mpr ⟨Or.inl (List.mem_cons_of_mem _ (List.mem_cons_of_mem _ (List.mem_cons_of_mem _ List.mem_cons_self))), (List.forall_mem_cons.mpr ⟨Or.inl (List.mem_cons_of_mem _ (List.mem_cons_of_mem _ List.mem_cons_self)), (List.forall_mem_cons.mpr ⟨Or.inl List.mem_cons_self, (List.forall_mem_cons.mpr ⟨Or.inl (List.mem_cons_of_mem _ List.mem_cons_self), (fun _ h => nomatch h)⟩)⟩)⟩)⟩)) h
set_option maxRecDepth 100000 in
set_option maxHeartbeats 4000000 in
theorem bk_375_12 {b : Bool} {d : Nat} {x1 x2 x3 : Int32} {e : Nat → x_E} {g : Nat → Int32} {q : Nat → Int64} {c : Nat → Nat → Int32} {l : Nat → Nat → Int64} {R : Option Value × List x_E} (h1 : xCn .eq x3 0 = true → rr b e d 375 64 [(2, .int x2)] [] g q c l R) (h2 : ¬ xCn .eq x3 0 = true → rr b e d 375 16 [(0, .ref 49), (1, .int x1), (2, .int x2), (3, .int x3)] [] g q c l R) : rr b e d 375 12 [(0, .ref 49), (1, .int x1), (2, .int x2), (3, .int x3)] [] g q c l R := by
  have key : ∀ f, nrun xZ (xY (xfm b)) xDT (f + 2) d 375 12 [(0, .ref 49), (1, .int x1), (2, .int x2), (3, .int x3)] [] (rH e g q c l) 0 0 = nrun xZ (xY (xfm b)) xDT f d 375 (if xCn .eq x3 0 = true then 64 else 16) [(0, .ref 49), (1, .int x1), (2, .int x2), (3, .int x3)] [] (rH e g q c l) 0 0 := by
    intro f
    obtain ⟨y, cb, hj⟩ := mq_375
    rw [n_step (st' := [.int x3]) (pc' := 13) (lv' := [(0, .ref 49), (1, .int x1), (2, .int x2), (3, .int x3)]) (hp' := rH e g q c l) (i := .iload_n 3) (len := 1) rfl hj rfl rfl rfl]
    rw [n_step (st' := []) (pc' := (if xCn .eq x3 0 = true then 64 else 16)) (lv' := [(0, .ref 49), (1, .int x1), (2, .int x2), (3, .int x3)]) (hp' := rH e g q c l) (i := .ifCond .eq 51) (len := 3) rfl hj rfl rfl rfl]
  by_cases hc : xCn .eq x3 0 = true
  · obtain ⟨f, h⟩ := h1 hc
    refine ⟨f + 2, ?_⟩
    rw [key, if_pos hc]
    exact nrun_ext f f _ _ R 375 64 [(2, .int x2)] [(0, .ref 49), (1, .int x1), (2, .int x2), (3, .int x3)] [] _ 0 0 122 (Nat.le_refl _) (Nat.le_refl _) (Nat.le_of_ble_eq_true rfl) (lvR_mk [2] [0, 1, 2, 3] rfl rfl (by decide) (by decide) (List.forall_mem_cons.mpr ⟨(List.mem_cons_of_mem _ (List.mem_cons_of_mem _ List.mem_cons_self)), (fun _ h => nomatch h)⟩) (List.forall_mem_cons.mpr ⟨Or.inr rfl, (List.forall_mem_cons.mpr ⟨Or.inr rfl, (List.forall_mem_cons.mpr ⟨Or.inl List.mem_cons_self, (List.forall_mem_cons.mpr ⟨Or.inr rfl, (fun _ h => nomatch h)⟩)⟩)⟩)⟩)) h
  · obtain ⟨f, h⟩ := h2 hc
    refine ⟨f + 2, ?_⟩
    rw [key, if_neg hc]
    exact h
set_option maxRecDepth 100000 in
set_option maxHeartbeats 4000000 in
theorem bk_375_16 {b : Bool} {d : Nat} {x1 x2 x3 : Int32} {e : Nat → x_E} {g : Nat → Int32} {q : Nat → Int64} {c : Nat → Nat → Int32} {l : Nat → Nat → Int64} {g' : Nat → Int32} {q' : Nat → Int64} {c' : Nat → Nat → Int32} {l' : Nat → Nat → Int64} {v : Int32} {R : Option Value × List x_E} (hc : rr b e d 337 0 [(0, .ref 49)] [] g q c l (some (.int v), rH e g' q' c' l')) (h : rr b e (d + 1) 375 20 [(0, .ref 49), (1, .int x1), (2, .int x2), (3, .int x3)] [.int v] g' q' c' l' R) : rr b e (d + 1) 375 16 [(0, .ref 49), (1, .int x1), (2, .int x2), (3, .int x3)] [] g q c l R := by
  obtain ⟨f1, hc⟩ := hc
  obtain ⟨f2, h⟩ := h
  obtain ⟨f, hf1, hf2⟩ : ∃ f, f1 ≤ f ∧ f2 ≤ f := ⟨max f1 f2, Nat.le_max_left _ _, Nat.le_max_right _ _⟩
  have hc := nrun_fuel f1 f _ _ _ _ _ _ _ _ _ hf1 hc
  have h := nrun_fuel f2 f _ _ _ _ _ _ _ _ _ hf2 h
  refine ⟨f + 2, ?_⟩
  obtain ⟨y, cb, hj⟩ := mq_375
  rw [n_step (st' := [.ref 49]) (pc' := 17) (lv' := [(0, .ref 49), (1, .int x1), (2, .int x2), (3, .int x3)]) (hp' := rH e g q c l) (i := .aload_n 0) (len := 1) rfl hj rfl rfl rfl]
  obtain ⟨y2, cb2, hj2⟩ := mq_337
  rw [n_call (f := f) (d := d) (ki := 0) (idx := 337) (j' := 337) (kd := 0) (M' := (y2, cb2, 1, some .boolean, 12, 0, 0, 0)) (avs := [.ref 49]) (r := []) (rv := some (.int v)) (hp1 := rH e g' q' c' l') rfl hj rfl rfl rfl rfl (rq_n rfl rfl hj2 rfl rfl) rfl hc (Nat.le_of_ble_eq_true rfl)]
  exact h
set_option maxRecDepth 100000 in
set_option maxHeartbeats 4000000 in
theorem bk_375_20 {b : Bool} {d : Nat} {t0 x1 x2 x3 : Int32} {e : Nat → x_E} {g : Nat → Int32} {q : Nat → Int64} {c : Nat → Nat → Int32} {l : Nat → Nat → Int64} {R : Option Value × List x_E} (h1 : xCn .ne t0 0 = true → rr b e d 375 64 [(2, .int x2)] [] g q c l R) (h2 : ¬ xCn .ne t0 0 = true → rr b e d 375 23 [(0, .ref 49), (1, .int x1), (2, .int x2), (3, .int x3)] [] g q c l R) : rr b e d 375 20 [(0, .ref 49), (1, .int x1), (2, .int x2), (3, .int x3)] [.int t0] g q c l R := by
  have key : ∀ f, nrun xZ (xY (xfm b)) xDT (f + 1) d 375 20 [(0, .ref 49), (1, .int x1), (2, .int x2), (3, .int x3)] [.int t0] (rH e g q c l) 0 0 = nrun xZ (xY (xfm b)) xDT f d 375 (if xCn .ne t0 0 = true then 64 else 23) [(0, .ref 49), (1, .int x1), (2, .int x2), (3, .int x3)] [] (rH e g q c l) 0 0 := by
    intro f
    obtain ⟨y, cb, hj⟩ := mq_375
    rw [n_step (st' := []) (pc' := (if xCn .ne t0 0 = true then 64 else 23)) (lv' := [(0, .ref 49), (1, .int x1), (2, .int x2), (3, .int x3)]) (hp' := rH e g q c l) (i := .ifCond .ne 44) (len := 3) rfl hj rfl rfl rfl]
  by_cases hc : xCn .ne t0 0 = true
  · obtain ⟨f, h⟩ := h1 hc
    refine ⟨f + 1, ?_⟩
    rw [key, if_pos hc]
    exact nrun_ext f f _ _ R 375 64 [(2, .int x2)] [(0, .ref 49), (1, .int x1), (2, .int x2), (3, .int x3)] [] _ 0 0 122 (Nat.le_refl _) (Nat.le_refl _) (Nat.le_of_ble_eq_true rfl) (lvR_mk [2] [0, 1, 2, 3] rfl rfl (by decide) (by decide) (List.forall_mem_cons.mpr ⟨(List.mem_cons_of_mem _ (List.mem_cons_of_mem _ List.mem_cons_self)), (fun _ h => nomatch h)⟩) (List.forall_mem_cons.mpr ⟨Or.inr rfl, (List.forall_mem_cons.mpr ⟨Or.inr rfl, (List.forall_mem_cons.mpr ⟨Or.inl List.mem_cons_self, (List.forall_mem_cons.mpr ⟨Or.inr rfl, (fun _ h => nomatch h)⟩)⟩)⟩)⟩)) h
  · obtain ⟨f, h⟩ := h2 hc
    refine ⟨f + 1, ?_⟩
    rw [key, if_neg hc]
    exact h
set_option maxRecDepth 100000 in
set_option maxHeartbeats 4000000 in
theorem bk_375_23 {b : Bool} {d : Nat} {x1 x2 x3 : Int32} {e : Nat → x_E} {g : Nat → Int32} {q : Nat → Int64} {c : Nat → Nat → Int32} {l : Nat → Nat → Int64} {g' : Nat → Int32} {q' : Nat → Int64} {c' : Nat → Nat → Int32} {l' : Nat → Nat → Int64} {v : Int32} {R : Option Value × List x_E} (hc : rr b e d 344 0 [(0, .ref 49), (1, .int (Int8.ofInt (91)).toInt32)] [] g q c l (some (.int v), rH e g' q' c' l')) (h : rr b e (d + 1) 375 29 [(0, .ref 49), (1, .int x1), (2, .int x2), (3, .int x3)] [.int v] g' q' c' l' R) : rr b e (d + 1) 375 23 [(0, .ref 49), (1, .int x1), (2, .int x2), (3, .int x3)] [] g q c l R := by
  obtain ⟨f1, hc⟩ := hc
  obtain ⟨f2, h⟩ := h
  obtain ⟨f, hf1, hf2⟩ : ∃ f, f1 ≤ f ∧ f2 ≤ f := ⟨max f1 f2, Nat.le_max_left _ _, Nat.le_max_right _ _⟩
  have hc := nrun_fuel f1 f _ _ _ _ _ _ _ _ _ hf1 hc
  have h := nrun_fuel f2 f _ _ _ _ _ _ _ _ _ hf2 h
  refine ⟨f + 3, ?_⟩
  obtain ⟨y, cb, hj⟩ := mq_375
  rw [n_step (st' := [.ref 49]) (pc' := 24) (lv' := [(0, .ref 49), (1, .int x1), (2, .int x2), (3, .int x3)]) (hp' := rH e g q c l) (i := .aload_n 0) (len := 1) rfl hj rfl rfl rfl]
  rw [n_step (st' := [.int (Int8.ofInt (91)).toInt32, .ref 49]) (pc' := 26) (lv' := [(0, .ref 49), (1, .int x1), (2, .int x2), (3, .int x3)]) (hp' := rH e g q c l) (i := .bipush 91) (len := 2) rfl hj rfl rfl rfl]
  obtain ⟨y2, cb2, hj2⟩ := mq_344
  rw [n_call (f := f) (d := d) (ki := 0) (idx := 341) (j' := 344) (kd := 0) (M' := (y2, cb2, 2, some .boolean, 12, 1, 0, 0)) (avs := [.ref 49, .int (Int8.ofInt (91)).toInt32]) (r := []) (rv := some (.int v)) (hp1 := rH e g' q' c' l') rfl hj rfl rfl rfl rfl (rq_n rfl rfl hj2 rfl rfl) rfl hc (Nat.le_of_ble_eq_true rfl)]
  exact h
set_option maxRecDepth 100000 in
set_option maxHeartbeats 4000000 in
theorem bk_375_29 {b : Bool} {d : Nat} {t0 x1 x2 x3 : Int32} {e : Nat → x_E} {g : Nat → Int32} {q : Nat → Int64} {c : Nat → Nat → Int32} {l : Nat → Nat → Int64} {R : Option Value × List x_E} (h1 : xCn .eq t0 0 = true → rr b e d 375 42 [(0, .ref 49), (1, .int x1), (2, .int x2), (3, .int x3)] [] g q c l R) (h2 : ¬ xCn .eq t0 0 = true → rr b e d 375 32 [(0, .ref 49), (1, .int x1), (2, .int x2), (3, .int x3)] [] g q c l R) : rr b e d 375 29 [(0, .ref 49), (1, .int x1), (2, .int x2), (3, .int x3)] [.int t0] g q c l R := by
  have key : ∀ f, nrun xZ (xY (xfm b)) xDT (f + 1) d 375 29 [(0, .ref 49), (1, .int x1), (2, .int x2), (3, .int x3)] [.int t0] (rH e g q c l) 0 0 = nrun xZ (xY (xfm b)) xDT f d 375 (if xCn .eq t0 0 = true then 42 else 32) [(0, .ref 49), (1, .int x1), (2, .int x2), (3, .int x3)] [] (rH e g q c l) 0 0 := by
    intro f
    obtain ⟨y, cb, hj⟩ := mq_375
    rw [n_step (st' := []) (pc' := (if xCn .eq t0 0 = true then 42 else 32)) (lv' := [(0, .ref 49), (1, .int x1), (2, .int x2), (3, .int x3)]) (hp' := rH e g q c l) (i := .ifCond .eq 13) (len := 3) rfl hj rfl rfl rfl]
  by_cases hc : xCn .eq t0 0 = true
  · obtain ⟨f, h⟩ := h1 hc
    refine ⟨f + 1, ?_⟩
    rw [key, if_pos hc]
    exact h
  · obtain ⟨f, h⟩ := h2 hc
    refine ⟨f + 1, ?_⟩
    rw [key, if_neg hc]
    exact h
set_option maxRecDepth 100000 in
set_option maxHeartbeats 4000000 in
theorem bk_375_32 {b : Bool} {d : Nat} {x1 x2 x3 : Int32} {e : Nat → x_E} {g : Nat → Int32} {q : Nat → Int64} {c : Nat → Nat → Int32} {l : Nat → Nat → Int64} {g' : Nat → Int32} {q' : Nat → Int64} {c' : Nat → Nat → Int32} {l' : Nat → Nat → Int64} {v : Int32} {R : Option Value × List x_E} (hc : rr b e d 387 0 [(0, .ref 49), (1, .int x2), (2, .int x1)] [] g q c l (some (.int v), rH e g' q' c' l')) (h : rr b e (d + 1) 375 38 [(0, .ref 49), (1, .int x1), (3, .int x3)] [.int v] g' q' c' l' R) : rr b e (d + 1) 375 32 [(0, .ref 49), (1, .int x1), (2, .int x2), (3, .int x3)] [] g q c l R := by
  obtain ⟨f1, hc⟩ := hc
  obtain ⟨f2, h⟩ := h
  obtain ⟨f, hf1, hf2⟩ : ∃ f, f1 ≤ f ∧ f2 ≤ f := ⟨max f1 f2, Nat.le_max_left _ _, Nat.le_max_right _ _⟩
  have hc := nrun_fuel f1 f _ _ _ _ _ _ _ _ _ hf1 hc
  have h := nrun_fuel f2 f _ _ _ _ _ _ _ _ _ hf2 h
  refine ⟨f + 4, ?_⟩
  obtain ⟨y, cb, hj⟩ := mq_375
  rw [n_step (st' := [.ref 49]) (pc' := 33) (lv' := [(0, .ref 49), (1, .int x1), (2, .int x2), (3, .int x3)]) (hp' := rH e g q c l) (i := .aload_n 0) (len := 1) rfl hj rfl rfl rfl]
  rw [n_step (st' := [.int x2, .ref 49]) (pc' := 34) (lv' := [(0, .ref 49), (1, .int x1), (2, .int x2), (3, .int x3)]) (hp' := rH e g q c l) (i := .iload_n 2) (len := 1) rfl hj rfl rfl rfl]
  rw [n_step (st' := [.int x1, .int x2, .ref 49]) (pc' := 35) (lv' := [(0, .ref 49), (1, .int x1), (2, .int x2), (3, .int x3)]) (hp' := rH e g q c l) (i := .iload_n 1) (len := 1) rfl hj rfl rfl rfl]
  obtain ⟨y2, cb2, hj2⟩ := mq_387
  rw [n_call (f := f) (d := d) (ki := 0) (idx := 517) (j' := 387) (kd := 0) (M' := (y2, cb2, 5, some .int, 12, 2, 0, 0)) (avs := [.ref 49, .int x2, .int x1]) (r := []) (rv := some (.int v)) (hp1 := rH e g' q' c' l') rfl hj rfl rfl rfl rfl (rq_n rfl rfl hj2 rfl rfl) rfl hc (Nat.le_of_ble_eq_true rfl)]
  exact nrun_ext f f _ _ R 375 38 [(0, .ref 49), (1, .int x1), (3, .int x3)] [(0, .ref 49), (1, .int x1), (2, .int x2), (3, .int x3)] [.int v] _ 0 0 122 (Nat.le_refl _) (Nat.le_refl _) (Nat.le_of_ble_eq_true rfl) (lvR_mk [0, 1, 3] [0, 1, 2, 3] rfl rfl (by decide) (by decide) (List.forall_mem_cons.mpr ⟨List.mem_cons_self, (List.forall_mem_cons.mpr ⟨(List.mem_cons_of_mem _ List.mem_cons_self), (List.forall_mem_cons.mpr ⟨(List.mem_cons_of_mem _ (List.mem_cons_of_mem _ (List.mem_cons_of_mem _ List.mem_cons_self))), (fun _ h => nomatch h)⟩)⟩)⟩) (List.forall_mem_cons.mpr ⟨Or.inl List.mem_cons_self, (List.forall_mem_cons.mpr ⟨Or.inl (List.mem_cons_of_mem _ List.mem_cons_self), (List.forall_mem_cons.mpr ⟨Or.inr rfl, (List.forall_mem_cons.mpr ⟨Or.inl (List.mem_cons_of_mem _ (List.mem_cons_of_mem _ List.mem_cons_self)), (fun _ h => nomatch h)⟩)⟩)⟩)⟩)) h
set_option maxRecDepth 100000 in
set_option maxHeartbeats 4000000 in
theorem bk_375_38 {b : Bool} {d : Nat} {t0 x1 x3 : Int32} {e : Nat → x_E} {g : Nat → Int32} {q : Nat → Int64} {c : Nat → Nat → Int32} {l : Nat → Nat → Int64} {R : Option Value × List x_E} (h : rr b e d 375 12 [(0, .ref 49), (1, .int x1), (2, .int t0), (3, .int x3)] [] g q c l R) : rr b e d 375 38 [(0, .ref 49), (1, .int x1), (3, .int x3)] [.int t0] g q c l R := by
  obtain ⟨f, h⟩ := h
  refine ⟨f + 2, ?_⟩
  obtain ⟨y, cb, hj⟩ := mq_375
  rw [n_step (st' := []) (pc' := 39) (lv' := [(2, .int t0), (0, .ref 49), (1, .int x1), (3, .int x3)]) (hp' := rH e g q c l) (i := .istore_n 2) (len := 1) rfl hj rfl rfl rfl]
  rw [n_step (st' := []) (pc' := 12) (lv' := [(2, .int t0), (0, .ref 49), (1, .int x1), (3, .int x3)]) (hp' := rH e g q c l) (i := .goto (-27)) (len := 3) rfl hj rfl rfl rfl]
  exact nrun_ext f f _ _ R 375 12 [(0, .ref 49), (1, .int x1), (2, .int t0), (3, .int x3)] [(2, .int t0), (0, .ref 49), (1, .int x1), (3, .int x3)] [] _ 0 0 122 (Nat.le_refl _) (Nat.le_refl _) (Nat.le_of_ble_eq_true rfl) (lvR_mk [0, 1, 2, 3] [2, 0, 1, 3] rfl rfl (by decide) (by decide) (List.forall_mem_cons.mpr ⟨(List.mem_cons_of_mem _ List.mem_cons_self), (List.forall_mem_cons.mpr ⟨(List.mem_cons_of_mem _ (List.mem_cons_of_mem _ List.mem_cons_self)), (List.forall_mem_cons.mpr ⟨List.mem_cons_self, (List.forall_mem_cons.mpr ⟨(List.mem_cons_of_mem _ (List.mem_cons_of_mem _ (List.mem_cons_of_mem _ List.mem_cons_self))), (fun _ h => nomatch h)⟩)⟩)⟩)⟩) (List.forall_mem_cons.mpr ⟨Or.inl (List.mem_cons_of_mem _ (List.mem_cons_of_mem _ List.mem_cons_self)), (List.forall_mem_cons.mpr ⟨Or.inl List.mem_cons_self, (List.forall_mem_cons.mpr ⟨Or.inl (List.mem_cons_of_mem _ List.mem_cons_self), (List.forall_mem_cons.mpr ⟨Or.inl (List.mem_cons_of_mem _ (List.mem_cons_of_mem _ (List.mem_cons_of_mem _ List.mem_cons_self))), (fun _ h => nomatch h)⟩)⟩)⟩)⟩)) h
set_option maxRecDepth 100000 in
set_option maxHeartbeats 4000000 in
theorem bk_375_42 {b : Bool} {d : Nat} {x1 x2 x3 : Int32} {e : Nat → x_E} {g : Nat → Int32} {q : Nat → Int64} {c : Nat → Nat → Int32} {l : Nat → Nat → Int64} {g' : Nat → Int32} {q' : Nat → Int64} {c' : Nat → Nat → Int32} {l' : Nat → Nat → Int64} {v : Int32} {R : Option Value × List x_E} (hc : rr b e d 380 0 [(0, .ref 49)] [] g q c l (some (.int v), rH e g' q' c' l')) (h : rr b e (d + 1) 375 46 [(0, .ref 49), (1, .int x1), (2, .int x2), (3, .int x3)] [.int v] g' q' c' l' R) : rr b e (d + 1) 375 42 [(0, .ref 49), (1, .int x1), (2, .int x2), (3, .int x3)] [] g q c l R := by
  obtain ⟨f1, hc⟩ := hc
  obtain ⟨f2, h⟩ := h
  obtain ⟨f, hf1, hf2⟩ : ∃ f, f1 ≤ f ∧ f2 ≤ f := ⟨max f1 f2, Nat.le_max_left _ _, Nat.le_max_right _ _⟩
  have hc := nrun_fuel f1 f _ _ _ _ _ _ _ _ _ hf1 hc
  have h := nrun_fuel f2 f _ _ _ _ _ _ _ _ _ hf2 h
  refine ⟨f + 2, ?_⟩
  obtain ⟨y, cb, hj⟩ := mq_375
  rw [n_step (st' := [.ref 49]) (pc' := 43) (lv' := [(0, .ref 49), (1, .int x1), (2, .int x2), (3, .int x3)]) (hp' := rH e g q c l) (i := .aload_n 0) (len := 1) rfl hj rfl rfl rfl]
  obtain ⟨y2, cb2, hj2⟩ := mq_380
  rw [n_call (f := f) (d := d) (ki := 0) (idx := 520) (j' := 380) (kd := 0) (M' := (y2, cb2, 1, some .boolean, 12, 0, 0, 0)) (avs := [.ref 49]) (r := []) (rv := some (.int v)) (hp1 := rH e g' q' c' l') rfl hj rfl rfl rfl rfl (rq_n rfl rfl hj2 rfl rfl) rfl hc (Nat.le_of_ble_eq_true rfl)]
  exact h
set_option maxRecDepth 100000 in
set_option maxHeartbeats 4000000 in
theorem bk_375_46 {b : Bool} {d : Nat} {t0 x1 x2 x3 : Int32} {e : Nat → x_E} {g : Nat → Int32} {q : Nat → Int64} {c : Nat → Nat → Int32} {l : Nat → Nat → Int64} {R : Option Value × List x_E} (h1 : xCn .eq t0 0 = true → rr b e d 375 59 [(0, .ref 49), (1, .int x1), (2, .int x2)] [] g q c l R) (h2 : ¬ xCn .eq t0 0 = true → rr b e d 375 49 [(0, .ref 49), (1, .int x1), (2, .int x2), (3, .int x3)] [] g q c l R) : rr b e d 375 46 [(0, .ref 49), (1, .int x1), (2, .int x2), (3, .int x3)] [.int t0] g q c l R := by
  have key : ∀ f, nrun xZ (xY (xfm b)) xDT (f + 1) d 375 46 [(0, .ref 49), (1, .int x1), (2, .int x2), (3, .int x3)] [.int t0] (rH e g q c l) 0 0 = nrun xZ (xY (xfm b)) xDT f d 375 (if xCn .eq t0 0 = true then 59 else 49) [(0, .ref 49), (1, .int x1), (2, .int x2), (3, .int x3)] [] (rH e g q c l) 0 0 := by
    intro f
    obtain ⟨y, cb, hj⟩ := mq_375
    rw [n_step (st' := []) (pc' := (if xCn .eq t0 0 = true then 59 else 49)) (lv' := [(0, .ref 49), (1, .int x1), (2, .int x2), (3, .int x3)]) (hp' := rH e g q c l) (i := .ifCond .eq 13) (len := 3) rfl hj rfl rfl rfl]
  by_cases hc : xCn .eq t0 0 = true
  · obtain ⟨f, h⟩ := h1 hc
    refine ⟨f + 1, ?_⟩
    rw [key, if_pos hc]
    exact nrun_ext f f _ _ R 375 59 [(0, .ref 49), (1, .int x1), (2, .int x2)] [(0, .ref 49), (1, .int x1), (2, .int x2), (3, .int x3)] [] _ 0 0 122 (Nat.le_refl _) (Nat.le_refl _) (Nat.le_of_ble_eq_true rfl) (lvR_mk [0, 1, 2] [0, 1, 2, 3] rfl rfl (by decide) (by decide) (List.forall_mem_cons.mpr ⟨List.mem_cons_self, (List.forall_mem_cons.mpr ⟨(List.mem_cons_of_mem _ List.mem_cons_self), (List.forall_mem_cons.mpr ⟨(List.mem_cons_of_mem _ (List.mem_cons_of_mem _ List.mem_cons_self)), (fun _ h => nomatch h)⟩)⟩)⟩) (List.forall_mem_cons.mpr ⟨Or.inl List.mem_cons_self, (List.forall_mem_cons.mpr ⟨Or.inl (List.mem_cons_of_mem _ List.mem_cons_self), (List.forall_mem_cons.mpr ⟨Or.inl (List.mem_cons_of_mem _ (List.mem_cons_of_mem _ List.mem_cons_self)), (List.forall_mem_cons.mpr ⟨Or.inr rfl, (fun _ h => nomatch h)⟩)⟩)⟩)⟩)) h
  · obtain ⟨f, h⟩ := h2 hc
    refine ⟨f + 1, ?_⟩
    rw [key, if_neg hc]
    exact h
set_option maxRecDepth 100000 in
set_option maxHeartbeats 4000000 in
theorem bk_375_49 {b : Bool} {d : Nat} {x1 x2 x3 : Int32} {e : Nat → x_E} {g : Nat → Int32} {q : Nat → Int64} {c : Nat → Nat → Int32} {l : Nat → Nat → Int64} {g' : Nat → Int32} {q' : Nat → Int64} {c' : Nat → Nat → Int32} {l' : Nat → Nat → Int64} {v : Int32} {R : Option Value × List x_E} (hc : rr b e d 389 0 [(0, .ref 49), (1, .int x2), (2, .int x1)] [] g q c l (some (.int v), rH e g' q' c' l')) (h : rr b e (d + 1) 375 55 [(0, .ref 49), (1, .int x1), (3, .int x3)] [.int v] g' q' c' l' R) : rr b e (d + 1) 375 49 [(0, .ref 49), (1, .int x1), (2, .int x2), (3, .int x3)] [] g q c l R := by
  obtain ⟨f1, hc⟩ := hc
  obtain ⟨f2, h⟩ := h
  obtain ⟨f, hf1, hf2⟩ : ∃ f, f1 ≤ f ∧ f2 ≤ f := ⟨max f1 f2, Nat.le_max_left _ _, Nat.le_max_right _ _⟩
  have hc := nrun_fuel f1 f _ _ _ _ _ _ _ _ _ hf1 hc
  have h := nrun_fuel f2 f _ _ _ _ _ _ _ _ _ hf2 h
  refine ⟨f + 4, ?_⟩
  obtain ⟨y, cb, hj⟩ := mq_375
  rw [n_step (st' := [.ref 49]) (pc' := 50) (lv' := [(0, .ref 49), (1, .int x1), (2, .int x2), (3, .int x3)]) (hp' := rH e g q c l) (i := .aload_n 0) (len := 1) rfl hj rfl rfl rfl]
  rw [n_step (st' := [.int x2, .ref 49]) (pc' := 51) (lv' := [(0, .ref 49), (1, .int x1), (2, .int x2), (3, .int x3)]) (hp' := rH e g q c l) (i := .iload_n 2) (len := 1) rfl hj rfl rfl rfl]
  rw [n_step (st' := [.int x1, .int x2, .ref 49]) (pc' := 52) (lv' := [(0, .ref 49), (1, .int x1), (2, .int x2), (3, .int x3)]) (hp' := rH e g q c l) (i := .iload_n 1) (len := 1) rfl hj rfl rfl rfl]
  obtain ⟨y2, cb2, hj2⟩ := mq_389
  rw [n_call (f := f) (d := d) (ki := 0) (idx := 523) (j' := 389) (kd := 0) (M' := (y2, cb2, 8, some .int, 12, 2, 0, 0)) (avs := [.ref 49, .int x2, .int x1]) (r := []) (rv := some (.int v)) (hp1 := rH e g' q' c' l') rfl hj rfl rfl rfl rfl (rq_n rfl rfl hj2 rfl rfl) rfl hc (Nat.le_of_ble_eq_true rfl)]
  exact nrun_ext f f _ _ R 375 55 [(0, .ref 49), (1, .int x1), (3, .int x3)] [(0, .ref 49), (1, .int x1), (2, .int x2), (3, .int x3)] [.int v] _ 0 0 122 (Nat.le_refl _) (Nat.le_refl _) (Nat.le_of_ble_eq_true rfl) (lvR_mk [0, 1, 3] [0, 1, 2, 3] rfl rfl (by decide) (by decide) (List.forall_mem_cons.mpr ⟨List.mem_cons_self, (List.forall_mem_cons.mpr ⟨(List.mem_cons_of_mem _ List.mem_cons_self), (List.forall_mem_cons.mpr ⟨(List.mem_cons_of_mem _ (List.mem_cons_of_mem _ (List.mem_cons_of_mem _ List.mem_cons_self))), (fun _ h => nomatch h)⟩)⟩)⟩) (List.forall_mem_cons.mpr ⟨Or.inl List.mem_cons_self, (List.forall_mem_cons.mpr ⟨Or.inl (List.mem_cons_of_mem _ List.mem_cons_self), (List.forall_mem_cons.mpr ⟨Or.inr rfl, (List.forall_mem_cons.mpr ⟨Or.inl (List.mem_cons_of_mem _ (List.mem_cons_of_mem _ List.mem_cons_self)), (fun _ h => nomatch h)⟩)⟩)⟩)⟩)) h
set_option maxRecDepth 100000 in
set_option maxHeartbeats 4000000 in
theorem bk_375_55 {b : Bool} {d : Nat} {t0 x1 x3 : Int32} {e : Nat → x_E} {g : Nat → Int32} {q : Nat → Int64} {c : Nat → Nat → Int32} {l : Nat → Nat → Int64} {R : Option Value × List x_E} (h : rr b e d 375 12 [(0, .ref 49), (1, .int x1), (2, .int t0), (3, .int x3)] [] g q c l R) : rr b e d 375 55 [(0, .ref 49), (1, .int x1), (3, .int x3)] [.int t0] g q c l R := by
  obtain ⟨f, h⟩ := h
  refine ⟨f + 2, ?_⟩
  obtain ⟨y, cb, hj⟩ := mq_375
  rw [n_step (st' := []) (pc' := 56) (lv' := [(2, .int t0), (0, .ref 49), (1, .int x1), (3, .int x3)]) (hp' := rH e g q c l) (i := .istore_n 2) (len := 1) rfl hj rfl rfl rfl]
  rw [n_step (st' := []) (pc' := 12) (lv' := [(2, .int t0), (0, .ref 49), (1, .int x1), (3, .int x3)]) (hp' := rH e g q c l) (i := .goto (-44)) (len := 3) rfl hj rfl rfl rfl]
  exact nrun_ext f f _ _ R 375 12 [(0, .ref 49), (1, .int x1), (2, .int t0), (3, .int x3)] [(2, .int t0), (0, .ref 49), (1, .int x1), (3, .int x3)] [] _ 0 0 122 (Nat.le_refl _) (Nat.le_refl _) (Nat.le_of_ble_eq_true rfl) (lvR_mk [0, 1, 2, 3] [2, 0, 1, 3] rfl rfl (by decide) (by decide) (List.forall_mem_cons.mpr ⟨(List.mem_cons_of_mem _ List.mem_cons_self), (List.forall_mem_cons.mpr ⟨(List.mem_cons_of_mem _ (List.mem_cons_of_mem _ List.mem_cons_self)), (List.forall_mem_cons.mpr ⟨List.mem_cons_self, (List.forall_mem_cons.mpr ⟨(List.mem_cons_of_mem _ (List.mem_cons_of_mem _ (List.mem_cons_of_mem _ List.mem_cons_self))), (fun _ h => nomatch h)⟩)⟩)⟩)⟩) (List.forall_mem_cons.mpr ⟨Or.inl (List.mem_cons_of_mem _ (List.mem_cons_of_mem _ List.mem_cons_self)), (List.forall_mem_cons.mpr ⟨Or.inl List.mem_cons_self, (List.forall_mem_cons.mpr ⟨Or.inl (List.mem_cons_of_mem _ List.mem_cons_self), (List.forall_mem_cons.mpr ⟨Or.inl (List.mem_cons_of_mem _ (List.mem_cons_of_mem _ (List.mem_cons_of_mem _ List.mem_cons_self))), (fun _ h => nomatch h)⟩)⟩)⟩)⟩)) h
set_option maxRecDepth 100000 in
set_option maxHeartbeats 4000000 in
theorem bk_375_59 {b : Bool} {d : Nat} {x1 x2 : Int32} {e : Nat → x_E} {g : Nat → Int32} {q : Nat → Int64} {c : Nat → Nat → Int32} {l : Nat → Nat → Int64} {R : Option Value × List x_E} (h : rr b e d 375 12 [(0, .ref 49), (1, .int x1), (2, .int x2), (3, .int (Int32.ofInt (0)))] [] g q c l R) : rr b e d 375 59 [(0, .ref 49), (1, .int x1), (2, .int x2)] [] g q c l R := by
  obtain ⟨f, h⟩ := h
  refine ⟨f + 3, ?_⟩
  obtain ⟨y, cb, hj⟩ := mq_375
  rw [n_step (st' := [.int (Int32.ofInt (0))]) (pc' := 60) (lv' := [(0, .ref 49), (1, .int x1), (2, .int x2)]) (hp' := rH e g q c l) (i := .iconst 0) (len := 1) rfl hj rfl rfl rfl]
  rw [n_step (st' := []) (pc' := 61) (lv' := [(3, .int (Int32.ofInt (0))), (0, .ref 49), (1, .int x1), (2, .int x2)]) (hp' := rH e g q c l) (i := .istore_n 3) (len := 1) rfl hj rfl rfl rfl]
  rw [n_step (st' := []) (pc' := 12) (lv' := [(3, .int (Int32.ofInt (0))), (0, .ref 49), (1, .int x1), (2, .int x2)]) (hp' := rH e g q c l) (i := .goto (-49)) (len := 3) rfl hj rfl rfl rfl]
  exact nrun_ext f f _ _ R 375 12 [(0, .ref 49), (1, .int x1), (2, .int x2), (3, .int (Int32.ofInt (0)))] [(3, .int (Int32.ofInt (0))), (0, .ref 49), (1, .int x1), (2, .int x2)] [] _ 0 0 122 (Nat.le_refl _) (Nat.le_refl _) (Nat.le_of_ble_eq_true rfl) (lvR_mk [0, 1, 2, 3] [3, 0, 1, 2] rfl rfl (by decide) (by decide) (List.forall_mem_cons.mpr ⟨(List.mem_cons_of_mem _ List.mem_cons_self), (List.forall_mem_cons.mpr ⟨(List.mem_cons_of_mem _ (List.mem_cons_of_mem _ List.mem_cons_self)), (List.forall_mem_cons.mpr ⟨(List.mem_cons_of_mem _ (List.mem_cons_of_mem _ (List.mem_cons_of_mem _ List.mem_cons_self))), (List.forall_mem_cons.mpr ⟨List.mem_cons_self, (fun _ h => nomatch h)⟩)⟩)⟩)⟩) (List.forall_mem_cons.mpr ⟨Or.inl (List.mem_cons_of_mem _ (List.mem_cons_of_mem _ (List.mem_cons_of_mem _ List.mem_cons_self))), (List.forall_mem_cons.mpr ⟨Or.inl List.mem_cons_self, (List.forall_mem_cons.mpr ⟨Or.inl (List.mem_cons_of_mem _ List.mem_cons_self), (List.forall_mem_cons.mpr ⟨Or.inl (List.mem_cons_of_mem _ (List.mem_cons_of_mem _ List.mem_cons_self)), (fun _ h => nomatch h)⟩)⟩)⟩)⟩)) h
set_option maxRecDepth 100000 in
set_option maxHeartbeats 4000000 in
theorem bk_375_64 {b : Bool} {d : Nat} {x2 : Int32} {e : Nat → x_E} {g : Nat → Int32} {q : Nat → Int64} {c : Nat → Nat → Int32} {l : Nat → Nat → Int64} : rr b e d 375 64 [(2, .int x2)] [] g q c l (some (.int x2), rH e g q c l) := by
  refine ⟨0 + 2, ?_⟩
  obtain ⟨y, cb, hj⟩ := mq_375
  rw [n_step (st' := [.int x2]) (pc' := 65) (lv' := [(2, .int x2)]) (hp' := rH e g q c l) (i := .iload_n 2) (len := 1) rfl hj rfl rfl rfl]
  exact n_ret rfl hj rfl rfl (x_ret rfl)
set_option maxRecDepth 100000 in
set_option maxHeartbeats 4000000 in
theorem bk_376_0 {b : Bool} {d : Nat} {e : Nat → x_E} {g : Nat → Int32} {q : Nat → Int64} {c : Nat → Nat → Int32} {l : Nat → Nat → Int64} {g' : Nat → Int32} {q' : Nat → Int64} {c' : Nat → Nat → Int32} {l' : Nat → Nat → Int64} {v : Int32} {R : Option Value × List x_E} (hc : rr b e d 337 0 [(0, .ref 49)] [] g q c l (some (.int v), rH e g' q' c' l')) (h : rr b e (d + 1) 376 4 [(0, .ref 49)] [.int v] g' q' c' l' R) : rr b e (d + 1) 376 0 [(0, .ref 49)] [] g q c l R := by
  obtain ⟨f1, hc⟩ := hc
  obtain ⟨f2, h⟩ := h
  obtain ⟨f, hf1, hf2⟩ : ∃ f, f1 ≤ f ∧ f2 ≤ f := ⟨max f1 f2, Nat.le_max_left _ _, Nat.le_max_right _ _⟩
  have hc := nrun_fuel f1 f _ _ _ _ _ _ _ _ _ hf1 hc
  have h := nrun_fuel f2 f _ _ _ _ _ _ _ _ _ hf2 h
  refine ⟨f + 2, ?_⟩
  obtain ⟨y, cb, hj⟩ := mq_376
  rw [n_step (st' := [.ref 49]) (pc' := 1) (lv' := [(0, .ref 49)]) (hp' := rH e g q c l) (i := .aload_n 0) (len := 1) rfl hj rfl rfl rfl]
  obtain ⟨y2, cb2, hj2⟩ := mq_337
  rw [n_call (f := f) (d := d) (ki := 0) (idx := 337) (j' := 337) (kd := 0) (M' := (y2, cb2, 1, some .boolean, 12, 0, 0, 0)) (avs := [.ref 49]) (r := []) (rv := some (.int v)) (hp1 := rH e g' q' c' l') rfl hj rfl rfl rfl rfl (rq_n rfl rfl hj2 rfl rfl) rfl hc (Nat.le_of_ble_eq_true rfl)]
  exact h
set_option maxRecDepth 100000 in
set_option maxHeartbeats 4000000 in
theorem bk_376_4 {b : Bool} {d : Nat} {t0 : Int32} {e : Nat → x_E} {g : Nat → Int32} {q : Nat → Int64} {c : Nat → Nat → Int32} {l : Nat → Nat → Int64} {R : Option Value × List x_E} (h1 : xCn .eq t0 0 = true → rr b e d 376 9 [(0, .ref 49)] [] g q c l R) (h2 : ¬ xCn .eq t0 0 = true → rr b e d 376 7 [] [] g q c l R) : rr b e d 376 4 [(0, .ref 49)] [.int t0] g q c l R := by
  have key : ∀ f, nrun xZ (xY (xfm b)) xDT (f + 1) d 376 4 [(0, .ref 49)] [.int t0] (rH e g q c l) 0 0 = nrun xZ (xY (xfm b)) xDT f d 376 (if xCn .eq t0 0 = true then 9 else 7) [(0, .ref 49)] [] (rH e g q c l) 0 0 := by
    intro f
    obtain ⟨y, cb, hj⟩ := mq_376
    rw [n_step (st' := []) (pc' := (if xCn .eq t0 0 = true then 9 else 7)) (lv' := [(0, .ref 49)]) (hp' := rH e g q c l) (i := .ifCond .eq 5) (len := 3) rfl hj rfl rfl rfl]
  by_cases hc : xCn .eq t0 0 = true
  · obtain ⟨f, h⟩ := h1 hc
    refine ⟨f + 1, ?_⟩
    rw [key, if_pos hc]
    exact h
  · obtain ⟨f, h⟩ := h2 hc
    refine ⟨f + 1, ?_⟩
    rw [key, if_neg hc]
    exact nrun_ext f f _ _ R 376 7 [] [(0, .ref 49)] [] _ 0 0 122 (Nat.le_refl _) (Nat.le_refl _) (Nat.le_of_ble_eq_true rfl) (lvR_mk [] [0] rfl rfl (by decide) (by decide) (fun _ h => nomatch h) (List.forall_mem_cons.mpr ⟨Or.inr rfl, (fun _ h => nomatch h)⟩)) h
set_option maxRecDepth 100000 in
set_option maxHeartbeats 4000000 in
theorem bk_376_7 {b : Bool} {d : Nat} {e : Nat → x_E} {g : Nat → Int32} {q : Nat → Int64} {c : Nat → Nat → Int32} {l : Nat → Nat → Int64} : rr b e d 376 7 [] [] g q c l (some (.int (Int32.ofInt (-1))), rH e g q c l) := by
  refine ⟨0 + 2, ?_⟩
  obtain ⟨y, cb, hj⟩ := mq_376
  rw [n_step (st' := [.int (Int32.ofInt (-1))]) (pc' := 8) (lv' := []) (hp' := rH e g q c l) (i := .iconst (-1)) (len := 1) rfl hj rfl rfl rfl]
  exact n_ret rfl hj rfl rfl (x_ret rfl)
set_option maxRecDepth 100000 in
set_option maxHeartbeats 4000000 in
theorem bk_376_9 {b : Bool} {d : Nat} {e : Nat → x_E} {g : Nat → Int32} {q : Nat → Int64} {c : Nat → Nat → Int32} {l : Nat → Nat → Int64} {R : Option Value × List x_E} (h1 : xCn .ne ((g 10)) ((Int32.ofInt (2))) = true → rr b e d 376 41 [(0, .ref 49)] [] g q c l R) (h2 : ¬ xCn .ne ((g 10)) ((Int32.ofInt (2))) = true → rr b e d 376 22 [(0, .ref 49)] [] g q c l R) : rr b e d 376 9 [(0, .ref 49)] [] g q c l R := by
  have key : ∀ f, nrun xZ (xY (xfm b)) xDT (f + 7) d 376 9 [(0, .ref 49)] [] (rH e g q c l) 0 0 = nrun xZ (xY (xfm b)) xDT f d 376 (if xCn .ne ((g 10)) ((Int32.ofInt (2))) = true then 41 else 22) [(1, .int (g 11)), (0, .ref 49)] [] (rH e g q c l) 0 0 := by
    intro f
    obtain ⟨y, cb, hj⟩ := mq_376
    rw [n_step (st' := [.ref 49]) (pc' := 10) (lv' := [(0, .ref 49)]) (hp' := rH e g q c l) (i := .aload_n 0) (len := 1) rfl hj rfl rfl rfl]
    rw [n_get (st' := [.int (g 11)]) (pc' := 13) (lv' := [(0, .ref 49)]) (hp' := rH e g q c l) (i := .getfield 257) (len := 3) rfl hj rfl rfl rfl rfl]
    rw [n_step (st' := []) (pc' := 14) (lv' := [(1, .int (g 11)), (0, .ref 49)]) (hp' := rH e g q c l) (i := .istore_n 1) (len := 1) rfl hj rfl rfl rfl]
    rw [n_step (st' := [.ref 49]) (pc' := 15) (lv' := [(1, .int (g 11)), (0, .ref 49)]) (hp' := rH e g q c l) (i := .aload_n 0) (len := 1) rfl hj rfl rfl rfl]
    rw [n_get (st' := [.int (g 10)]) (pc' := 18) (lv' := [(1, .int (g 11)), (0, .ref 49)]) (hp' := rH e g q c l) (i := .getfield 273) (len := 3) rfl hj rfl rfl rfl rfl]
    rw [n_step (st' := [.int (Int32.ofInt (2)), .int (g 10)]) (pc' := 19) (lv' := [(1, .int (g 11)), (0, .ref 49)]) (hp' := rH e g q c l) (i := .iconst 2) (len := 1) rfl hj rfl rfl rfl]
    rw [n_step (st' := []) (pc' := (if xCn .ne ((g 10)) ((Int32.ofInt (2))) = true then 41 else 22)) (lv' := [(1, .int (g 11)), (0, .ref 49)]) (hp' := rH e g q c l) (i := .if_icmp .ne 22) (len := 3) rfl hj rfl rfl rfl]
  by_cases hc : xCn .ne ((g 10)) ((Int32.ofInt (2))) = true
  · obtain ⟨f, h⟩ := h1 hc
    refine ⟨f + 7, ?_⟩
    rw [key, if_pos hc]
    exact nrun_ext f f _ _ R 376 41 [(0, .ref 49)] [(1, .int (g 11)), (0, .ref 49)] [] _ 0 0 122 (Nat.le_refl _) (Nat.le_refl _) (Nat.le_of_ble_eq_true rfl) (lvR_mk [0] [1, 0] rfl rfl (by decide) (by decide) (List.forall_mem_cons.mpr ⟨(List.mem_cons_of_mem _ List.mem_cons_self), (fun _ h => nomatch h)⟩) (List.forall_mem_cons.mpr ⟨Or.inr rfl, (List.forall_mem_cons.mpr ⟨Or.inl List.mem_cons_self, (fun _ h => nomatch h)⟩)⟩)) h
  · obtain ⟨f, h⟩ := h2 hc
    refine ⟨f + 7, ?_⟩
    rw [key, if_neg hc]
    exact nrun_ext f f _ _ R 376 22 [(0, .ref 49)] [(1, .int (g 11)), (0, .ref 49)] [] _ 0 0 122 (Nat.le_refl _) (Nat.le_refl _) (Nat.le_of_ble_eq_true rfl) (lvR_mk [0] [1, 0] rfl rfl (by decide) (by decide) (List.forall_mem_cons.mpr ⟨(List.mem_cons_of_mem _ List.mem_cons_self), (fun _ h => nomatch h)⟩) (List.forall_mem_cons.mpr ⟨Or.inr rfl, (List.forall_mem_cons.mpr ⟨Or.inl List.mem_cons_self, (fun _ h => nomatch h)⟩)⟩)) h
set_option maxRecDepth 100000 in
set_option maxHeartbeats 4000000 in
theorem bk_376_22 {b : Bool} {d : Nat} {e : Nat → x_E} {g : Nat → Int32} {q : Nat → Int64} {c : Nat → Nat → Int32} {l : Nat → Nat → Int64} {g' : Nat → Int32} {q' : Nat → Int64} {c' : Nat → Nat → Int32} {l' : Nat → Nat → Int64} {v : Int32} {R : Option Value × List x_E} (hc : rr b e d 355 0 [(0, .ref 49), (1, .int (Int32.ofInt (0))), (2, .int (g 14))] [] g q c l (some (.int v), rH e g' q' c' l')) (h : rr b e (d + 1) 376 31 [(0, .ref 49)] [.int v] g' q' c' l' R) : rr b e (d + 1) 376 22 [(0, .ref 49)] [] g q c l R := by
  obtain ⟨f1, hc⟩ := hc
  obtain ⟨f2, h⟩ := h
  obtain ⟨f, hf1, hf2⟩ : ∃ f, f1 ≤ f ∧ f2 ≤ f := ⟨max f1 f2, Nat.le_max_left _ _, Nat.le_max_right _ _⟩
  have hc := nrun_fuel f1 f _ _ _ _ _ _ _ _ _ hf1 hc
  have h := nrun_fuel f2 f _ _ _ _ _ _ _ _ _ hf2 h
  refine ⟨f + 5, ?_⟩
  obtain ⟨y, cb, hj⟩ := mq_376
  rw [n_step (st' := [.ref 49]) (pc' := 23) (lv' := [(0, .ref 49)]) (hp' := rH e g q c l) (i := .aload_n 0) (len := 1) rfl hj rfl rfl rfl]
  rw [n_step (st' := [.int (Int32.ofInt (0)), .ref 49]) (pc' := 24) (lv' := [(0, .ref 49)]) (hp' := rH e g q c l) (i := .iconst 0) (len := 1) rfl hj rfl rfl rfl]
  rw [n_step (st' := [.ref 49, .int (Int32.ofInt (0)), .ref 49]) (pc' := 25) (lv' := [(0, .ref 49)]) (hp' := rH e g q c l) (i := .aload_n 0) (len := 1) rfl hj rfl rfl rfl]
  rw [n_get (st' := [.int (g 14), .int (Int32.ofInt (0)), .ref 49]) (pc' := 28) (lv' := [(0, .ref 49)]) (hp' := rH e g q c l) (i := .getfield 316) (len := 3) rfl hj rfl rfl rfl rfl]
  obtain ⟨y2, cb2, hj2⟩ := mq_355
  rw [n_call (f := f) (d := d) (ki := 0) (idx := 496) (j' := 355) (kd := 0) (M' := (y2, cb2, 3, some .int, 12, 2, 0, 0)) (avs := [.ref 49, .int (Int32.ofInt (0)), .int (g 14)]) (r := []) (rv := some (.int v)) (hp1 := rH e g' q' c' l') rfl hj rfl rfl rfl rfl (rq_n rfl rfl hj2 rfl rfl) rfl hc (Nat.le_of_ble_eq_true rfl)]
  exact h
set_option maxRecDepth 100000 in
set_option maxHeartbeats 4000000 in
theorem bk_376_31 {b : Bool} {d : Nat} {t0 : Int32} {e : Nat → x_E} {g : Nat → Int32} {q : Nat → Int64} {c : Nat → Nat → Int32} {l : Nat → Nat → Int64} {g' : Nat → Int32} {q' : Nat → Int64} {c' : Nat → Nat → Int32} {l' : Nat → Nat → Int64} {R : Option Value × List x_E} (hc : rr b e d 322 0 [(0, .ref 49)] [] g q c l (none, rH e g' q' c' l')) (h : rr b e (d + 1) 376 36 [(0, .ref 49)] [] g' q' c' l' R) : rr b e (d + 1) 376 31 [(0, .ref 49)] [.int t0] g q c l R := by
  obtain ⟨f1, hc⟩ := hc
  obtain ⟨f2, h⟩ := h
  obtain ⟨f, hf1, hf2⟩ : ∃ f, f1 ≤ f ∧ f2 ≤ f := ⟨max f1 f2, Nat.le_max_left _ _, Nat.le_max_right _ _⟩
  have hc := nrun_fuel f1 f _ _ _ _ _ _ _ _ _ hf1 hc
  have h := nrun_fuel f2 f _ _ _ _ _ _ _ _ _ hf2 h
  refine ⟨f + 3, ?_⟩
  obtain ⟨y, cb, hj⟩ := mq_376
  rw [n_step (st' := []) (pc' := 32) (lv' := [(0, .ref 49)]) (hp' := rH e g q c l) (i := .pop) (len := 1) rfl hj rfl rfl rfl]
  rw [n_step (st' := [.ref 49]) (pc' := 33) (lv' := [(0, .ref 49)]) (hp' := rH e g q c l) (i := .aload_n 0) (len := 1) rfl hj rfl rfl rfl]
  obtain ⟨y2, cb2, hj2⟩ := mq_322
  rw [n_call (f := f) (d := d) (ki := 0) (idx := 344) (j' := 322) (kd := 0) (M' := (y2, cb2, 2, none, 12, 0, 0, 0)) (avs := [.ref 49]) (r := []) (rv := none) (hp1 := rH e g' q' c' l') rfl hj rfl rfl rfl rfl (rq_n rfl rfl hj2 rfl rfl) rfl hc (Nat.le_of_ble_eq_true rfl)]
  exact h
set_option maxRecDepth 100000 in
set_option maxHeartbeats 4000000 in
theorem bk_376_36 {b : Bool} {d : Nat} {e : Nat → x_E} {g : Nat → Int32} {q : Nat → Int64} {c : Nat → Nat → Int32} {l : Nat → Nat → Int64} : rr b e d 376 36 [(0, .ref 49)] [] g q c l (some (.int (g 34)), rH e g q c l) := by
  refine ⟨0 + 3, ?_⟩
  obtain ⟨y, cb, hj⟩ := mq_376
  rw [n_step (st' := [.ref 49]) (pc' := 37) (lv' := [(0, .ref 49)]) (hp' := rH e g q c l) (i := .aload_n 0) (len := 1) rfl hj rfl rfl rfl]
  rw [n_get (st' := [.int (g 34)]) (pc' := 40) (lv' := [(0, .ref 49)]) (hp' := rH e g q c l) (i := .getfield 508) (len := 3) rfl hj rfl rfl rfl rfl]
  exact n_ret rfl hj rfl rfl (x_ret rfl)
set_option maxRecDepth 100000 in
set_option maxHeartbeats 4000000 in
theorem bk_376_41 {b : Bool} {d : Nat} {e : Nat → x_E} {g : Nat → Int32} {q : Nat → Int64} {c : Nat → Nat → Int32} {l : Nat → Nat → Int64} {R : Option Value × List x_E} (h1 : xCn .ne ((g 10)) ((Int32.ofInt (1))) = true → rr b e d 376 54 [(0, .ref 49)] [] g q c l R) (h2 : ¬ xCn .ne ((g 10)) ((Int32.ofInt (1))) = true → rr b e d 376 49 [(0, .ref 49)] [] g q c l R) : rr b e d 376 41 [(0, .ref 49)] [] g q c l R := by
  have key : ∀ f, nrun xZ (xY (xfm b)) xDT (f + 4) d 376 41 [(0, .ref 49)] [] (rH e g q c l) 0 0 = nrun xZ (xY (xfm b)) xDT f d 376 (if xCn .ne ((g 10)) ((Int32.ofInt (1))) = true then 54 else 49) [(0, .ref 49)] [] (rH e g q c l) 0 0 := by
    intro f
    obtain ⟨y, cb, hj⟩ := mq_376
    rw [n_step (st' := [.ref 49]) (pc' := 42) (lv' := [(0, .ref 49)]) (hp' := rH e g q c l) (i := .aload_n 0) (len := 1) rfl hj rfl rfl rfl]
    rw [n_get (st' := [.int (g 10)]) (pc' := 45) (lv' := [(0, .ref 49)]) (hp' := rH e g q c l) (i := .getfield 273) (len := 3) rfl hj rfl rfl rfl rfl]
    rw [n_step (st' := [.int (Int32.ofInt (1)), .int (g 10)]) (pc' := 46) (lv' := [(0, .ref 49)]) (hp' := rH e g q c l) (i := .iconst 1) (len := 1) rfl hj rfl rfl rfl]
    rw [n_step (st' := []) (pc' := (if xCn .ne ((g 10)) ((Int32.ofInt (1))) = true then 54 else 49)) (lv' := [(0, .ref 49)]) (hp' := rH e g q c l) (i := .if_icmp .ne 8) (len := 3) rfl hj rfl rfl rfl]
  by_cases hc : xCn .ne ((g 10)) ((Int32.ofInt (1))) = true
  · obtain ⟨f, h⟩ := h1 hc
    refine ⟨f + 4, ?_⟩
    rw [key, if_pos hc]
    exact h
  · obtain ⟨f, h⟩ := h2 hc
    refine ⟨f + 4, ?_⟩
    rw [key, if_neg hc]
    exact h
set_option maxRecDepth 100000 in
set_option maxHeartbeats 4000000 in
theorem bk_376_49 {b : Bool} {d : Nat} {e : Nat → x_E} {g : Nat → Int32} {q : Nat → Int64} {c : Nat → Nat → Int32} {l : Nat → Nat → Int64} {g' : Nat → Int32} {q' : Nat → Int64} {c' : Nat → Nat → Int32} {l' : Nat → Nat → Int64} {v : Int32} {R : Option Value × List x_E} (hc : rr b e d 377 0 [(0, .ref 49)] [] g q c l (some (.int v), rH e g' q' c' l')) (h : rr b e (d + 1) 376 53 [] [.int v] g' q' c' l' R) : rr b e (d + 1) 376 49 [(0, .ref 49)] [] g q c l R := by
  obtain ⟨f1, hc⟩ := hc
  obtain ⟨f2, h⟩ := h
  obtain ⟨f, hf1, hf2⟩ : ∃ f, f1 ≤ f ∧ f2 ≤ f := ⟨max f1 f2, Nat.le_max_left _ _, Nat.le_max_right _ _⟩
  have hc := nrun_fuel f1 f _ _ _ _ _ _ _ _ _ hf1 hc
  have h := nrun_fuel f2 f _ _ _ _ _ _ _ _ _ hf2 h
  refine ⟨f + 2, ?_⟩
  obtain ⟨y, cb, hj⟩ := mq_376
  rw [n_step (st' := [.ref 49]) (pc' := 50) (lv' := [(0, .ref 49)]) (hp' := rH e g q c l) (i := .aload_n 0) (len := 1) rfl hj rfl rfl rfl]
  obtain ⟨y2, cb2, hj2⟩ := mq_377
  rw [n_call (f := f) (d := d) (ki := 0) (idx := 533) (j' := 377) (kd := 0) (M' := (y2, cb2, 2, some .int, 12, 0, 0, 0)) (avs := [.ref 49]) (r := []) (rv := some (.int v)) (hp1 := rH e g' q' c' l') rfl hj rfl rfl rfl rfl (rq_n rfl rfl hj2 rfl rfl) rfl hc (Nat.le_of_ble_eq_true rfl)]
  exact nrun_ext f f _ _ R 376 53 [] [(0, .ref 49)] [.int v] _ 0 0 122 (Nat.le_refl _) (Nat.le_refl _) (Nat.le_of_ble_eq_true rfl) (lvR_mk [] [0] rfl rfl (by decide) (by decide) (fun _ h => nomatch h) (List.forall_mem_cons.mpr ⟨Or.inr rfl, (fun _ h => nomatch h)⟩)) h
set_option maxRecDepth 100000 in
set_option maxHeartbeats 4000000 in
theorem bk_376_53 {b : Bool} {d : Nat} {t0 : Int32} {e : Nat → x_E} {g : Nat → Int32} {q : Nat → Int64} {c : Nat → Nat → Int32} {l : Nat → Nat → Int64} : rr b e d 376 53 [] [.int t0] g q c l (some (.int t0), rH e g q c l) := by
  refine ⟨0 + 1, ?_⟩
  obtain ⟨y, cb, hj⟩ := mq_376
  exact n_ret rfl hj rfl rfl (x_ret rfl)
set_option maxRecDepth 100000 in
set_option maxHeartbeats 4000000 in
theorem bk_376_54 {b : Bool} {d : Nat} {e : Nat → x_E} {g : Nat → Int32} {q : Nat → Int64} {c : Nat → Nat → Int32} {l : Nat → Nat → Int64} {g' : Nat → Int32} {q' : Nat → Int64} {c' : Nat → Nat → Int32} {l' : Nat → Nat → Int64} {v : Int32} {R : Option Value × List x_E} (hc : rr b e d 344 0 [(0, .ref 49), (1, .int (Int8.ofInt (40)).toInt32)] [] g q c l (some (.int v), rH e g' q' c' l')) (h : rr b e (d + 1) 376 60 [(0, .ref 49)] [.int v] g' q' c' l' R) : rr b e (d + 1) 376 54 [(0, .ref 49)] [] g q c l R := by
  obtain ⟨f1, hc⟩ := hc
  obtain ⟨f2, h⟩ := h
  obtain ⟨f, hf1, hf2⟩ : ∃ f, f1 ≤ f ∧ f2 ≤ f := ⟨max f1 f2, Nat.le_max_left _ _, Nat.le_max_right _ _⟩
  have hc := nrun_fuel f1 f _ _ _ _ _ _ _ _ _ hf1 hc
  have h := nrun_fuel f2 f _ _ _ _ _ _ _ _ _ hf2 h
  refine ⟨f + 3, ?_⟩
  obtain ⟨y, cb, hj⟩ := mq_376
  rw [n_step (st' := [.ref 49]) (pc' := 55) (lv' := [(0, .ref 49)]) (hp' := rH e g q c l) (i := .aload_n 0) (len := 1) rfl hj rfl rfl rfl]
  rw [n_step (st' := [.int (Int8.ofInt (40)).toInt32, .ref 49]) (pc' := 57) (lv' := [(0, .ref 49)]) (hp' := rH e g q c l) (i := .bipush 40) (len := 2) rfl hj rfl rfl rfl]
  obtain ⟨y2, cb2, hj2⟩ := mq_344
  rw [n_call (f := f) (d := d) (ki := 0) (idx := 341) (j' := 344) (kd := 0) (M' := (y2, cb2, 2, some .boolean, 12, 1, 0, 0)) (avs := [.ref 49, .int (Int8.ofInt (40)).toInt32]) (r := []) (rv := some (.int v)) (hp1 := rH e g' q' c' l') rfl hj rfl rfl rfl rfl (rq_n rfl rfl hj2 rfl rfl) rfl hc (Nat.le_of_ble_eq_true rfl)]
  exact h
set_option maxRecDepth 100000 in
set_option maxHeartbeats 4000000 in
theorem bk_376_60 {b : Bool} {d : Nat} {t0 : Int32} {e : Nat → x_E} {g : Nat → Int32} {q : Nat → Int64} {c : Nat → Nat → Int32} {l : Nat → Nat → Int64} {R : Option Value × List x_E} (h1 : xCn .eq t0 0 = true → rr b e d 376 80 [(0, .ref 49)] [] g q c l R) (h2 : ¬ xCn .eq t0 0 = true → rr b e d 376 63 [(0, .ref 49)] [] g q c l R) : rr b e d 376 60 [(0, .ref 49)] [.int t0] g q c l R := by
  have key : ∀ f, nrun xZ (xY (xfm b)) xDT (f + 1) d 376 60 [(0, .ref 49)] [.int t0] (rH e g q c l) 0 0 = nrun xZ (xY (xfm b)) xDT f d 376 (if xCn .eq t0 0 = true then 80 else 63) [(0, .ref 49)] [] (rH e g q c l) 0 0 := by
    intro f
    obtain ⟨y, cb, hj⟩ := mq_376
    rw [n_step (st' := []) (pc' := (if xCn .eq t0 0 = true then 80 else 63)) (lv' := [(0, .ref 49)]) (hp' := rH e g q c l) (i := .ifCond .eq 20) (len := 3) rfl hj rfl rfl rfl]
  by_cases hc : xCn .eq t0 0 = true
  · obtain ⟨f, h⟩ := h1 hc
    refine ⟨f + 1, ?_⟩
    rw [key, if_pos hc]
    exact h
  · obtain ⟨f, h⟩ := h2 hc
    refine ⟨f + 1, ?_⟩
    rw [key, if_neg hc]
    exact h
set_option maxRecDepth 100000 in
set_option maxHeartbeats 4000000 in
theorem bk_376_63 {b : Bool} {d : Nat} {e : Nat → x_E} {g : Nat → Int32} {q : Nat → Int64} {c : Nat → Nat → Int32} {l : Nat → Nat → Int64} {g' : Nat → Int32} {q' : Nat → Int64} {c' : Nat → Nat → Int32} {l' : Nat → Nat → Int64} {R : Option Value × List x_E} (hc : rr b e d 340 0 [(0, .ref 49)] [] g q c l (none, rH e g' q' c' l')) (h : rr b e (d + 1) 376 67 [(0, .ref 49)] [] g' q' c' l' R) : rr b e (d + 1) 376 63 [(0, .ref 49)] [] g q c l R := by
  obtain ⟨f1, hc⟩ := hc
  obtain ⟨f2, h⟩ := h
  obtain ⟨f, hf1, hf2⟩ : ∃ f, f1 ≤ f ∧ f2 ≤ f := ⟨max f1 f2, Nat.le_max_left _ _, Nat.le_max_right _ _⟩
  have hc := nrun_fuel f1 f _ _ _ _ _ _ _ _ _ hf1 hc
  have h := nrun_fuel f2 f _ _ _ _ _ _ _ _ _ hf2 h
  refine ⟨f + 2, ?_⟩
  obtain ⟨y, cb, hj⟩ := mq_376
  rw [n_step (st' := [.ref 49]) (pc' := 64) (lv' := [(0, .ref 49)]) (hp' := rH e g q c l) (i := .aload_n 0) (len := 1) rfl hj rfl rfl rfl]
  obtain ⟨y2, cb2, hj2⟩ := mq_340
  rw [n_call (f := f) (d := d) (ki := 0) (idx := 356) (j' := 340) (kd := 0) (M' := (y2, cb2, 1, none, 12, 0, 0, 0)) (avs := [.ref 49]) (r := []) (rv := none) (hp1 := rH e g' q' c' l') rfl hj rfl rfl rfl rfl (rq_n rfl rfl hj2 rfl rfl) rfl hc (Nat.le_of_ble_eq_true rfl)]
  exact h
set_option maxRecDepth 100000 in
set_option maxHeartbeats 4000000 in
theorem bk_376_67 {b : Bool} {d : Nat} {e : Nat → x_E} {g : Nat → Int32} {q : Nat → Int64} {c : Nat → Nat → Int32} {l : Nat → Nat → Int64} {g' : Nat → Int32} {q' : Nat → Int64} {c' : Nat → Nat → Int32} {l' : Nat → Nat → Int64} {v : Int32} {R : Option Value × List x_E} (hc : rr b e d 336 0 [(0, .ref 49)] [] g q c l (some (.int v), rH e g' q' c' l')) (h : rr b e (d + 1) 376 71 [(0, .ref 49)] [.int v] g' q' c' l' R) : rr b e (d + 1) 376 67 [(0, .ref 49)] [] g q c l R := by
  obtain ⟨f1, hc⟩ := hc
  obtain ⟨f2, h⟩ := h
  obtain ⟨f, hf1, hf2⟩ : ∃ f, f1 ≤ f ∧ f2 ≤ f := ⟨max f1 f2, Nat.le_max_left _ _, Nat.le_max_right _ _⟩
  have hc := nrun_fuel f1 f _ _ _ _ _ _ _ _ _ hf1 hc
  have h := nrun_fuel f2 f _ _ _ _ _ _ _ _ _ hf2 h
  refine ⟨f + 2, ?_⟩
  obtain ⟨y, cb, hj⟩ := mq_376
  rw [n_step (st' := [.ref 49]) (pc' := 68) (lv' := [(0, .ref 49)]) (hp' := rH e g q c l) (i := .aload_n 0) (len := 1) rfl hj rfl rfl rfl]
  obtain ⟨y2, cb2, hj2⟩ := mq_336
  rw [n_call (f := f) (d := d) (ki := 0) (idx := 469) (j' := 336) (kd := 0) (M' := (y2, cb2, 1, some .int, 12, 0, 0, 0)) (avs := [.ref 49]) (r := []) (rv := some (.int v)) (hp1 := rH e g' q' c' l') rfl hj rfl rfl rfl rfl (rq_n rfl rfl hj2 rfl rfl) rfl hc (Nat.le_of_ble_eq_true rfl)]
  exact h
set_option maxRecDepth 100000 in
set_option maxHeartbeats 4000000 in
theorem bk_376_71 {b : Bool} {d : Nat} {t0 : Int32} {e : Nat → x_E} {g : Nat → Int32} {q : Nat → Int64} {c : Nat → Nat → Int32} {l : Nat → Nat → Int64} {g' : Nat → Int32} {q' : Nat → Int64} {c' : Nat → Nat → Int32} {l' : Nat → Nat → Int64} {R : Option Value × List x_E} (hc : rr b e d 353 0 [(0, .ref 49), (1, .int (Int8.ofInt (41)).toInt32)] [] g q c l (none, rH e g' q' c' l')) (h : rr b e (d + 1) 376 78 [(2, .int t0)] [] g' q' c' l' R) : rr b e (d + 1) 376 71 [(0, .ref 49)] [.int t0] g q c l R := by
  obtain ⟨f1, hc⟩ := hc
  obtain ⟨f2, h⟩ := h
  obtain ⟨f, hf1, hf2⟩ : ∃ f, f1 ≤ f ∧ f2 ≤ f := ⟨max f1 f2, Nat.le_max_left _ _, Nat.le_max_right _ _⟩
  have hc := nrun_fuel f1 f _ _ _ _ _ _ _ _ _ hf1 hc
  have h := nrun_fuel f2 f _ _ _ _ _ _ _ _ _ hf2 h
  refine ⟨f + 4, ?_⟩
  obtain ⟨y, cb, hj⟩ := mq_376
  rw [n_step (st' := []) (pc' := 72) (lv' := [(2, .int t0), (0, .ref 49)]) (hp' := rH e g q c l) (i := .istore_n 2) (len := 1) rfl hj rfl rfl rfl]
  rw [n_step (st' := [.ref 49]) (pc' := 73) (lv' := [(2, .int t0), (0, .ref 49)]) (hp' := rH e g q c l) (i := .aload_n 0) (len := 1) rfl hj rfl rfl rfl]
  rw [n_step (st' := [.int (Int8.ofInt (41)).toInt32, .ref 49]) (pc' := 75) (lv' := [(2, .int t0), (0, .ref 49)]) (hp' := rH e g q c l) (i := .bipush 41) (len := 2) rfl hj rfl rfl rfl]
  obtain ⟨y2, cb2, hj2⟩ := mq_353
  rw [n_call (f := f) (d := d) (ki := 0) (idx := 424) (j' := 353) (kd := 0) (M' := (y2, cb2, 2, none, 12, 1, 0, 0)) (avs := [.ref 49, .int (Int8.ofInt (41)).toInt32]) (r := []) (rv := none) (hp1 := rH e g' q' c' l') rfl hj rfl rfl rfl rfl (rq_n rfl rfl hj2 rfl rfl) rfl hc (Nat.le_of_ble_eq_true rfl)]
  exact nrun_ext f f _ _ R 376 78 [(2, .int t0)] [(2, .int t0), (0, .ref 49)] [] _ 0 0 122 (Nat.le_refl _) (Nat.le_refl _) (Nat.le_of_ble_eq_true rfl) (lvR_mk [2] [2, 0] rfl rfl (by decide) (by decide) (List.forall_mem_cons.mpr ⟨List.mem_cons_self, (fun _ h => nomatch h)⟩) (List.forall_mem_cons.mpr ⟨Or.inl List.mem_cons_self, (List.forall_mem_cons.mpr ⟨Or.inr rfl, (fun _ h => nomatch h)⟩)⟩)) h
set_option maxRecDepth 100000 in
set_option maxHeartbeats 4000000 in
theorem bk_376_78 {b : Bool} {d : Nat} {x2 : Int32} {e : Nat → x_E} {g : Nat → Int32} {q : Nat → Int64} {c : Nat → Nat → Int32} {l : Nat → Nat → Int64} : rr b e d 376 78 [(2, .int x2)] [] g q c l (some (.int x2), rH e g q c l) := by
  refine ⟨0 + 2, ?_⟩
  obtain ⟨y, cb, hj⟩ := mq_376
  rw [n_step (st' := [.int x2]) (pc' := 79) (lv' := [(2, .int x2)]) (hp' := rH e g q c l) (i := .iload_n 2) (len := 1) rfl hj rfl rfl rfl]
  exact n_ret rfl hj rfl rfl (x_ret rfl)
set_option maxRecDepth 100000 in
set_option maxHeartbeats 4000000 in
theorem bk_376_80 {b : Bool} {d : Nat} {e : Nat → x_E} {g : Nat → Int32} {q : Nat → Int64} {c : Nat → Nat → Int32} {l : Nat → Nat → Int64} {g' : Nat → Int32} {q' : Nat → Int64} {c' : Nat → Nat → Int32} {l' : Nat → Nat → Int64} {v : Int32} {R : Option Value × List x_E} (hc : rr b e d 344 0 [(0, .ref 49), (1, .int (Int8.ofInt (60)).toInt32)] [] g q c l (some (.int v), rH e g' q' c' l')) (h : rr b e (d + 1) 376 86 [(0, .ref 49)] [.int v] g' q' c' l' R) : rr b e (d + 1) 376 80 [(0, .ref 49)] [] g q c l R := by
  obtain ⟨f1, hc⟩ := hc
  obtain ⟨f2, h⟩ := h
  obtain ⟨f, hf1, hf2⟩ : ∃ f, f1 ≤ f ∧ f2 ≤ f := ⟨max f1 f2, Nat.le_max_left _ _, Nat.le_max_right _ _⟩
  have hc := nrun_fuel f1 f _ _ _ _ _ _ _ _ _ hf1 hc
  have h := nrun_fuel f2 f _ _ _ _ _ _ _ _ _ hf2 h
  refine ⟨f + 3, ?_⟩
  obtain ⟨y, cb, hj⟩ := mq_376
  rw [n_step (st' := [.ref 49]) (pc' := 81) (lv' := [(0, .ref 49)]) (hp' := rH e g q c l) (i := .aload_n 0) (len := 1) rfl hj rfl rfl rfl]
  rw [n_step (st' := [.int (Int8.ofInt (60)).toInt32, .ref 49]) (pc' := 83) (lv' := [(0, .ref 49)]) (hp' := rH e g q c l) (i := .bipush 60) (len := 2) rfl hj rfl rfl rfl]
  obtain ⟨y2, cb2, hj2⟩ := mq_344
  rw [n_call (f := f) (d := d) (ki := 0) (idx := 341) (j' := 344) (kd := 0) (M' := (y2, cb2, 2, some .boolean, 12, 1, 0, 0)) (avs := [.ref 49, .int (Int8.ofInt (60)).toInt32]) (r := []) (rv := some (.int v)) (hp1 := rH e g' q' c' l') rfl hj rfl rfl rfl rfl (rq_n rfl rfl hj2 rfl rfl) rfl hc (Nat.le_of_ble_eq_true rfl)]
  exact h
set_option maxRecDepth 100000 in
set_option maxHeartbeats 4000000 in
theorem bk_376_86 {b : Bool} {d : Nat} {t0 : Int32} {e : Nat → x_E} {g : Nat → Int32} {q : Nat → Int64} {c : Nat → Nat → Int32} {l : Nat → Nat → Int64} {R : Option Value × List x_E} (h1 : xCn .eq t0 0 = true → rr b e d 376 94 [(0, .ref 49)] [] g q c l R) (h2 : ¬ xCn .eq t0 0 = true → rr b e d 376 89 [(0, .ref 49)] [] g q c l R) : rr b e d 376 86 [(0, .ref 49)] [.int t0] g q c l R := by
  have key : ∀ f, nrun xZ (xY (xfm b)) xDT (f + 1) d 376 86 [(0, .ref 49)] [.int t0] (rH e g q c l) 0 0 = nrun xZ (xY (xfm b)) xDT f d 376 (if xCn .eq t0 0 = true then 94 else 89) [(0, .ref 49)] [] (rH e g q c l) 0 0 := by
    intro f
    obtain ⟨y, cb, hj⟩ := mq_376
    rw [n_step (st' := []) (pc' := (if xCn .eq t0 0 = true then 94 else 89)) (lv' := [(0, .ref 49)]) (hp' := rH e g q c l) (i := .ifCond .eq 8) (len := 3) rfl hj rfl rfl rfl]
  by_cases hc : xCn .eq t0 0 = true
  · obtain ⟨f, h⟩ := h1 hc
    refine ⟨f + 1, ?_⟩
    rw [key, if_pos hc]
    exact h
  · obtain ⟨f, h⟩ := h2 hc
    refine ⟨f + 1, ?_⟩
    rw [key, if_neg hc]
    exact h
set_option maxRecDepth 100000 in
set_option maxHeartbeats 4000000 in
theorem bk_376_89 {b : Bool} {d : Nat} {e : Nat → x_E} {g : Nat → Int32} {q : Nat → Int64} {c : Nat → Nat → Int32} {l : Nat → Nat → Int64} {g' : Nat → Int32} {q' : Nat → Int64} {c' : Nat → Nat → Int32} {l' : Nat → Nat → Int64} {v : Int32} {R : Option Value × List x_E} (hc : rr b e d 379 0 [(0, .ref 49)] [] g q c l (some (.int v), rH e g' q' c' l')) (h : rr b e (d + 1) 376 93 [] [.int v] g' q' c' l' R) : rr b e (d + 1) 376 89 [(0, .ref 49)] [] g q c l R := by
  obtain ⟨f1, hc⟩ := hc
  obtain ⟨f2, h⟩ := h
  obtain ⟨f, hf1, hf2⟩ : ∃ f, f1 ≤ f ∧ f2 ≤ f := ⟨max f1 f2, Nat.le_max_left _ _, Nat.le_max_right _ _⟩
  have hc := nrun_fuel f1 f _ _ _ _ _ _ _ _ _ hf1 hc
  have h := nrun_fuel f2 f _ _ _ _ _ _ _ _ _ hf2 h
  refine ⟨f + 2, ?_⟩
  obtain ⟨y, cb, hj⟩ := mq_376
  rw [n_step (st' := [.ref 49]) (pc' := 90) (lv' := [(0, .ref 49)]) (hp' := rH e g q c l) (i := .aload_n 0) (len := 1) rfl hj rfl rfl rfl]
  obtain ⟨y2, cb2, hj2⟩ := mq_379
  rw [n_call (f := f) (d := d) (ki := 0) (idx := 536) (j' := 379) (kd := 0) (M' := (y2, cb2, 9, some .int, 12, 0, 0, 0)) (avs := [.ref 49]) (r := []) (rv := some (.int v)) (hp1 := rH e g' q' c' l') rfl hj rfl rfl rfl rfl (rq_n rfl rfl hj2 rfl rfl) rfl hc (Nat.le_of_ble_eq_true rfl)]
  exact nrun_ext f f _ _ R 376 93 [] [(0, .ref 49)] [.int v] _ 0 0 122 (Nat.le_refl _) (Nat.le_refl _) (Nat.le_of_ble_eq_true rfl) (lvR_mk [] [0] rfl rfl (by decide) (by decide) (fun _ h => nomatch h) (List.forall_mem_cons.mpr ⟨Or.inr rfl, (fun _ h => nomatch h)⟩)) h
set_option maxRecDepth 100000 in
set_option maxHeartbeats 4000000 in
theorem bk_376_93 {b : Bool} {d : Nat} {t0 : Int32} {e : Nat → x_E} {g : Nat → Int32} {q : Nat → Int64} {c : Nat → Nat → Int32} {l : Nat → Nat → Int64} : rr b e d 376 93 [] [.int t0] g q c l (some (.int t0), rH e g q c l) := by
  refine ⟨0 + 1, ?_⟩
  obtain ⟨y, cb, hj⟩ := mq_376
  exact n_ret rfl hj rfl rfl (x_ret rfl)
set_option maxRecDepth 100000 in
set_option maxHeartbeats 4000000 in
theorem bk_376_94 {b : Bool} {d : Nat} {e : Nat → x_E} {g : Nat → Int32} {q : Nat → Int64} {c : Nat → Nat → Int32} {l : Nat → Nat → Int64} {g' : Nat → Int32} {q' : Nat → Int64} {c' : Nat → Nat → Int32} {l' : Nat → Nat → Int64} {v : Int32} {R : Option Value × List x_E} (hc : rr b e d 344 0 [(0, .ref 49), (1, .int (Int8.ofInt (35)).toInt32)] [] g q c l (some (.int v), rH e g' q' c' l')) (h : rr b e (d + 1) 376 100 [(0, .ref 49)] [.int v] g' q' c' l' R) : rr b e (d + 1) 376 94 [(0, .ref 49)] [] g q c l R := by
  obtain ⟨f1, hc⟩ := hc
  obtain ⟨f2, h⟩ := h
  obtain ⟨f, hf1, hf2⟩ : ∃ f, f1 ≤ f ∧ f2 ≤ f := ⟨max f1 f2, Nat.le_max_left _ _, Nat.le_max_right _ _⟩
  have hc := nrun_fuel f1 f _ _ _ _ _ _ _ _ _ hf1 hc
  have h := nrun_fuel f2 f _ _ _ _ _ _ _ _ _ hf2 h
  refine ⟨f + 3, ?_⟩
  obtain ⟨y, cb, hj⟩ := mq_376
  rw [n_step (st' := [.ref 49]) (pc' := 95) (lv' := [(0, .ref 49)]) (hp' := rH e g q c l) (i := .aload_n 0) (len := 1) rfl hj rfl rfl rfl]
  rw [n_step (st' := [.int (Int8.ofInt (35)).toInt32, .ref 49]) (pc' := 97) (lv' := [(0, .ref 49)]) (hp' := rH e g q c l) (i := .bipush 35) (len := 2) rfl hj rfl rfl rfl]
  obtain ⟨y2, cb2, hj2⟩ := mq_344
  rw [n_call (f := f) (d := d) (ki := 0) (idx := 341) (j' := 344) (kd := 0) (M' := (y2, cb2, 2, some .boolean, 12, 1, 0, 0)) (avs := [.ref 49, .int (Int8.ofInt (35)).toInt32]) (r := []) (rv := some (.int v)) (hp1 := rH e g' q' c' l') rfl hj rfl rfl rfl rfl (rq_n rfl rfl hj2 rfl rfl) rfl hc (Nat.le_of_ble_eq_true rfl)]
  exact h
set_option maxRecDepth 100000 in
set_option maxHeartbeats 4000000 in
theorem bk_376_100 {b : Bool} {d : Nat} {t0 : Int32} {e : Nat → x_E} {g : Nat → Int32} {q : Nat → Int64} {c : Nat → Nat → Int32} {l : Nat → Nat → Int64} {R : Option Value × List x_E} (h1 : xCn .eq t0 0 = true → rr b e d 376 108 [(0, .ref 49)] [] g q c l R) (h2 : ¬ xCn .eq t0 0 = true → rr b e d 376 103 [(0, .ref 49)] [] g q c l R) : rr b e d 376 100 [(0, .ref 49)] [.int t0] g q c l R := by
  have key : ∀ f, nrun xZ (xY (xfm b)) xDT (f + 1) d 376 100 [(0, .ref 49)] [.int t0] (rH e g q c l) 0 0 = nrun xZ (xY (xfm b)) xDT f d 376 (if xCn .eq t0 0 = true then 108 else 103) [(0, .ref 49)] [] (rH e g q c l) 0 0 := by
    intro f
    obtain ⟨y, cb, hj⟩ := mq_376
    rw [n_step (st' := []) (pc' := (if xCn .eq t0 0 = true then 108 else 103)) (lv' := [(0, .ref 49)]) (hp' := rH e g q c l) (i := .ifCond .eq 8) (len := 3) rfl hj rfl rfl rfl]
  by_cases hc : xCn .eq t0 0 = true
  · obtain ⟨f, h⟩ := h1 hc
    refine ⟨f + 1, ?_⟩
    rw [key, if_pos hc]
    exact h
  · obtain ⟨f, h⟩ := h2 hc
    refine ⟨f + 1, ?_⟩
    rw [key, if_neg hc]
    exact h
set_option maxRecDepth 100000 in
set_option maxHeartbeats 4000000 in
theorem bk_376_103 {b : Bool} {d : Nat} {e : Nat → x_E} {g : Nat → Int32} {q : Nat → Int64} {c : Nat → Nat → Int32} {l : Nat → Nat → Int64} {g' : Nat → Int32} {q' : Nat → Int64} {c' : Nat → Nat → Int32} {l' : Nat → Nat → Int64} {v : Int32} {R : Option Value × List x_E} (hc : rr b e d 381 0 [(0, .ref 49)] [] g q c l (some (.int v), rH e g' q' c' l')) (h : rr b e (d + 1) 376 107 [] [.int v] g' q' c' l' R) : rr b e (d + 1) 376 103 [(0, .ref 49)] [] g q c l R := by
  obtain ⟨f1, hc⟩ := hc
  obtain ⟨f2, h⟩ := h
  obtain ⟨f, hf1, hf2⟩ : ∃ f, f1 ≤ f ∧ f2 ≤ f := ⟨max f1 f2, Nat.le_max_left _ _, Nat.le_max_right _ _⟩
  have hc := nrun_fuel f1 f _ _ _ _ _ _ _ _ _ hf1 hc
  have h := nrun_fuel f2 f _ _ _ _ _ _ _ _ _ hf2 h
  refine ⟨f + 2, ?_⟩
  obtain ⟨y, cb, hj⟩ := mq_376
  rw [n_step (st' := [.ref 49]) (pc' := 104) (lv' := [(0, .ref 49)]) (hp' := rH e g q c l) (i := .aload_n 0) (len := 1) rfl hj rfl rfl rfl]
  obtain ⟨y2, cb2, hj2⟩ := mq_381
  rw [n_call (f := f) (d := d) (ki := 0) (idx := 539) (j' := 381) (kd := 0) (M' := (y2, cb2, 7, some .int, 12, 0, 0, 0)) (avs := [.ref 49]) (r := []) (rv := some (.int v)) (hp1 := rH e g' q' c' l') rfl hj rfl rfl rfl rfl (rq_n rfl rfl hj2 rfl rfl) rfl hc (Nat.le_of_ble_eq_true rfl)]
  exact nrun_ext f f _ _ R 376 107 [] [(0, .ref 49)] [.int v] _ 0 0 122 (Nat.le_refl _) (Nat.le_refl _) (Nat.le_of_ble_eq_true rfl) (lvR_mk [] [0] rfl rfl (by decide) (by decide) (fun _ h => nomatch h) (List.forall_mem_cons.mpr ⟨Or.inr rfl, (fun _ h => nomatch h)⟩)) h
set_option maxRecDepth 100000 in
set_option maxHeartbeats 4000000 in
theorem bk_376_107 {b : Bool} {d : Nat} {t0 : Int32} {e : Nat → x_E} {g : Nat → Int32} {q : Nat → Int64} {c : Nat → Nat → Int32} {l : Nat → Nat → Int64} : rr b e d 376 107 [] [.int t0] g q c l (some (.int t0), rH e g q c l) := by
  refine ⟨0 + 1, ?_⟩
  obtain ⟨y, cb, hj⟩ := mq_376
  exact n_ret rfl hj rfl rfl (x_ret rfl)
set_option maxRecDepth 100000 in
set_option maxHeartbeats 4000000 in
theorem bk_376_108 {b : Bool} {d : Nat} {e : Nat → x_E} {g : Nat → Int32} {q : Nat → Int64} {c : Nat → Nat → Int32} {l : Nat → Nat → Int64} {g' : Nat → Int32} {q' : Nat → Int64} {c' : Nat → Nat → Int32} {l' : Nat → Nat → Int64} {v : Int32} {R : Option Value × List x_E} (hc : rr b e d 338 0 [(0, .ref 49), (1, .int (Int8.ofInt (7)).toInt32)] [] g q c l (some (.int v), rH e g' q' c' l')) (h : rr b e (d + 1) 376 114 [(0, .ref 49)] [.int v] g' q' c' l' R) : rr b e (d + 1) 376 108 [(0, .ref 49)] [] g q c l R := by
  obtain ⟨f1, hc⟩ := hc
  obtain ⟨f2, h⟩ := h
  obtain ⟨f, hf1, hf2⟩ : ∃ f, f1 ≤ f ∧ f2 ≤ f := ⟨max f1 f2, Nat.le_max_left _ _, Nat.le_max_right _ _⟩
  have hc := nrun_fuel f1 f _ _ _ _ _ _ _ _ _ hf1 hc
  have h := nrun_fuel f2 f _ _ _ _ _ _ _ _ _ hf2 h
  refine ⟨f + 3, ?_⟩
  obtain ⟨y, cb, hj⟩ := mq_376
  rw [n_step (st' := [.ref 49]) (pc' := 109) (lv' := [(0, .ref 49)]) (hp' := rH e g q c l) (i := .aload_n 0) (len := 1) rfl hj rfl rfl rfl]
  rw [n_step (st' := [.int (Int8.ofInt (7)).toInt32, .ref 49]) (pc' := 111) (lv' := [(0, .ref 49)]) (hp' := rH e g q c l) (i := .bipush 7) (len := 2) rfl hj rfl rfl rfl]
  obtain ⟨y2, cb2, hj2⟩ := mq_338
  rw [n_call (f := f) (d := d) (ki := 0) (idx := 350) (j' := 338) (kd := 0) (M' := (y2, cb2, 2, some .boolean, 12, 1, 0, 0)) (avs := [.ref 49, .int (Int8.ofInt (7)).toInt32]) (r := []) (rv := some (.int v)) (hp1 := rH e g' q' c' l') rfl hj rfl rfl rfl rfl (rq_n rfl rfl hj2 rfl rfl) rfl hc (Nat.le_of_ble_eq_true rfl)]
  exact h
set_option maxRecDepth 100000 in
set_option maxHeartbeats 4000000 in
theorem bk_376_114 {b : Bool} {d : Nat} {t0 : Int32} {e : Nat → x_E} {g : Nat → Int32} {q : Nat → Int64} {c : Nat → Nat → Int32} {l : Nat → Nat → Int64} {R : Option Value × List x_E} (h1 : xCn .eq t0 0 = true → rr b e d 376 122 [(0, .ref 49)] [] g q c l R) (h2 : ¬ xCn .eq t0 0 = true → rr b e d 376 117 [(0, .ref 49)] [] g q c l R) : rr b e d 376 114 [(0, .ref 49)] [.int t0] g q c l R := by
  have key : ∀ f, nrun xZ (xY (xfm b)) xDT (f + 1) d 376 114 [(0, .ref 49)] [.int t0] (rH e g q c l) 0 0 = nrun xZ (xY (xfm b)) xDT f d 376 (if xCn .eq t0 0 = true then 122 else 117) [(0, .ref 49)] [] (rH e g q c l) 0 0 := by
    intro f
    obtain ⟨y, cb, hj⟩ := mq_376
    rw [n_step (st' := []) (pc' := (if xCn .eq t0 0 = true then 122 else 117)) (lv' := [(0, .ref 49)]) (hp' := rH e g q c l) (i := .ifCond .eq 8) (len := 3) rfl hj rfl rfl rfl]
  by_cases hc : xCn .eq t0 0 = true
  · obtain ⟨f, h⟩ := h1 hc
    refine ⟨f + 1, ?_⟩
    rw [key, if_pos hc]
    exact h
  · obtain ⟨f, h⟩ := h2 hc
    refine ⟨f + 1, ?_⟩
    rw [key, if_neg hc]
    exact h
set_option maxRecDepth 100000 in
set_option maxHeartbeats 4000000 in
theorem bk_376_117 {b : Bool} {d : Nat} {e : Nat → x_E} {g : Nat → Int32} {q : Nat → Int64} {c : Nat → Nat → Int32} {l : Nat → Nat → Int64} {g' : Nat → Int32} {q' : Nat → Int64} {c' : Nat → Nat → Int32} {l' : Nat → Nat → Int64} {v : Int32} {R : Option Value × List x_E} (hc : rr b e d 384 0 [(0, .ref 49)] [] g q c l (some (.int v), rH e g' q' c' l')) (h : rr b e (d + 1) 376 121 [] [.int v] g' q' c' l' R) : rr b e (d + 1) 376 117 [(0, .ref 49)] [] g q c l R := by
  obtain ⟨f1, hc⟩ := hc
  obtain ⟨f2, h⟩ := h
  obtain ⟨f, hf1, hf2⟩ : ∃ f, f1 ≤ f ∧ f2 ≤ f := ⟨max f1 f2, Nat.le_max_left _ _, Nat.le_max_right _ _⟩
  have hc := nrun_fuel f1 f _ _ _ _ _ _ _ _ _ hf1 hc
  have h := nrun_fuel f2 f _ _ _ _ _ _ _ _ _ hf2 h
  refine ⟨f + 2, ?_⟩
  obtain ⟨y, cb, hj⟩ := mq_376
  rw [n_step (st' := [.ref 49]) (pc' := 118) (lv' := [(0, .ref 49)]) (hp' := rH e g q c l) (i := .aload_n 0) (len := 1) rfl hj rfl rfl rfl]
  obtain ⟨y2, cb2, hj2⟩ := mq_384
  rw [n_call (f := f) (d := d) (ki := 0) (idx := 542) (j' := 384) (kd := 0) (M' := (y2, cb2, 8, some .int, 12, 0, 0, 0)) (avs := [.ref 49]) (r := []) (rv := some (.int v)) (hp1 := rH e g' q' c' l') rfl hj rfl rfl rfl rfl (rq_n rfl rfl hj2 rfl rfl) rfl hc (Nat.le_of_ble_eq_true rfl)]
  exact nrun_ext f f _ _ R 376 121 [] [(0, .ref 49)] [.int v] _ 0 0 122 (Nat.le_refl _) (Nat.le_refl _) (Nat.le_of_ble_eq_true rfl) (lvR_mk [] [0] rfl rfl (by decide) (by decide) (fun _ h => nomatch h) (List.forall_mem_cons.mpr ⟨Or.inr rfl, (fun _ h => nomatch h)⟩)) h
set_option maxRecDepth 100000 in
set_option maxHeartbeats 4000000 in
theorem bk_376_121 {b : Bool} {d : Nat} {t0 : Int32} {e : Nat → x_E} {g : Nat → Int32} {q : Nat → Int64} {c : Nat → Nat → Int32} {l : Nat → Nat → Int64} : rr b e d 376 121 [] [.int t0] g q c l (some (.int t0), rH e g q c l) := by
  refine ⟨0 + 1, ?_⟩
  obtain ⟨y, cb, hj⟩ := mq_376
  exact n_ret rfl hj rfl rfl (x_ret rfl)
set_option maxRecDepth 100000 in
set_option maxHeartbeats 4000000 in
theorem bk_376_122 {b : Bool} {d : Nat} {e : Nat → x_E} {g : Nat → Int32} {q : Nat → Int64} {c : Nat → Nat → Int32} {l : Nat → Nat → Int64} {g' : Nat → Int32} {q' : Nat → Int64} {c' : Nat → Nat → Int32} {l' : Nat → Nat → Int64} {R : Option Value × List x_E} (hc : rr b e d 342 0 [(0, .ref 49)] [] g q c l (none, rH e g' q' c' l')) (h : rr b e (d + 1) 376 126 [] [] g' q' c' l' R) : rr b e (d + 1) 376 122 [(0, .ref 49)] [] g q c l R := by
  obtain ⟨f1, hc⟩ := hc
  obtain ⟨f2, h⟩ := h
  obtain ⟨f, hf1, hf2⟩ : ∃ f, f1 ≤ f ∧ f2 ≤ f := ⟨max f1 f2, Nat.le_max_left _ _, Nat.le_max_right _ _⟩
  have hc := nrun_fuel f1 f _ _ _ _ _ _ _ _ _ hf1 hc
  have h := nrun_fuel f2 f _ _ _ _ _ _ _ _ _ hf2 h
  refine ⟨f + 2, ?_⟩
  obtain ⟨y, cb, hj⟩ := mq_376
  rw [n_step (st' := [.ref 49]) (pc' := 123) (lv' := [(0, .ref 49)]) (hp' := rH e g q c l) (i := .aload_n 0) (len := 1) rfl hj rfl rfl rfl]
  obtain ⟨y2, cb2, hj2⟩ := mq_342
  rw [n_call (f := f) (d := d) (ki := 0) (idx := 347) (j' := 342) (kd := 0) (M' := (y2, cb2, 1, none, 12, 0, 0, 0)) (avs := [.ref 49]) (r := []) (rv := none) (hp1 := rH e g' q' c' l') rfl hj rfl rfl rfl rfl (rq_n rfl rfl hj2 rfl rfl) rfl hc (Nat.le_of_ble_eq_true rfl)]
  exact nrun_ext f f _ _ R 376 126 [] [(0, .ref 49)] [] _ 0 0 122 (Nat.le_refl _) (Nat.le_refl _) (Nat.le_of_ble_eq_true rfl) (lvR_mk [] [0] rfl rfl (by decide) (by decide) (fun _ h => nomatch h) (List.forall_mem_cons.mpr ⟨Or.inr rfl, (fun _ h => nomatch h)⟩)) h
set_option maxRecDepth 100000 in
set_option maxHeartbeats 4000000 in
theorem bk_376_126 {b : Bool} {d : Nat} {e : Nat → x_E} {g : Nat → Int32} {q : Nat → Int64} {c : Nat → Nat → Int32} {l : Nat → Nat → Int64} : rr b e d 376 126 [] [] g q c l (some (.int (Int32.ofInt (-1))), rH e g q c l) := by
  refine ⟨0 + 2, ?_⟩
  obtain ⟨y, cb, hj⟩ := mq_376
  rw [n_step (st' := [.int (Int32.ofInt (-1))]) (pc' := 127) (lv' := []) (hp' := rH e g q c l) (i := .iconst (-1)) (len := 1) rfl hj rfl rfl rfl]
  exact n_ret rfl hj rfl rfl (x_ret rfl)
set_option maxRecDepth 100000 in
set_option maxHeartbeats 4000000 in
theorem bk_380_0 {b : Bool} {d : Nat} {e : Nat → x_E} {g : Nat → Int32} {q : Nat → Int64} {c : Nat → Nat → Int32} {l : Nat → Nat → Int64} {R : Option Value × List x_E} (h1 : xCn .eq ((g 10)) ((Int32.ofInt (2))) = true → rr b e d 380 52 [] [] g q c l R) (h2 : ¬ xCn .eq ((g 10)) ((Int32.ofInt (2))) = true → rr b e d 380 8 [(0, .ref 49)] [] g q c l R) : rr b e d 380 0 [(0, .ref 49)] [] g q c l R := by
  have key : ∀ f, nrun xZ (xY (xfm b)) xDT (f + 4) d 380 0 [(0, .ref 49)] [] (rH e g q c l) 0 0 = nrun xZ (xY (xfm b)) xDT f d 380 (if xCn .eq ((g 10)) ((Int32.ofInt (2))) = true then 52 else 8) [(0, .ref 49)] [] (rH e g q c l) 0 0 := by
    intro f
    obtain ⟨y, cb, hj⟩ := mq_380
    rw [n_step (st' := [.ref 49]) (pc' := 1) (lv' := [(0, .ref 49)]) (hp' := rH e g q c l) (i := .aload_n 0) (len := 1) rfl hj rfl rfl rfl]
    rw [n_get (st' := [.int (g 10)]) (pc' := 4) (lv' := [(0, .ref 49)]) (hp' := rH e g q c l) (i := .getfield 273) (len := 3) rfl hj rfl rfl rfl rfl]
    rw [n_step (st' := [.int (Int32.ofInt (2)), .int (g 10)]) (pc' := 5) (lv' := [(0, .ref 49)]) (hp' := rH e g q c l) (i := .iconst 2) (len := 1) rfl hj rfl rfl rfl]
    rw [n_step (st' := []) (pc' := (if xCn .eq ((g 10)) ((Int32.ofInt (2))) = true then 52 else 8)) (lv' := [(0, .ref 49)]) (hp' := rH e g q c l) (i := .if_icmp .eq 47) (len := 3) rfl hj rfl rfl rfl]
  by_cases hc : xCn .eq ((g 10)) ((Int32.ofInt (2))) = true
  · obtain ⟨f, h⟩ := h1 hc
    refine ⟨f + 4, ?_⟩
    rw [key, if_pos hc]
    exact nrun_ext f f _ _ R 380 52 [] [(0, .ref 49)] [] _ 0 0 122 (Nat.le_refl _) (Nat.le_refl _) (Nat.le_of_ble_eq_true rfl) (lvR_mk [] [0] rfl rfl (by decide) (by decide) (fun _ h => nomatch h) (List.forall_mem_cons.mpr ⟨Or.inr rfl, (fun _ h => nomatch h)⟩)) h
  · obtain ⟨f, h⟩ := h2 hc
    refine ⟨f + 4, ?_⟩
    rw [key, if_neg hc]
    exact h
set_option maxRecDepth 100000 in
set_option maxHeartbeats 4000000 in
theorem bk_380_8 {b : Bool} {d : Nat} {e : Nat → x_E} {g : Nat → Int32} {q : Nat → Int64} {c : Nat → Nat → Int32} {l : Nat → Nat → Int64} {R : Option Value × List x_E} (h1 : xCn .eq ((g 10)) ((Int32.ofInt (1))) = true → rr b e d 380 52 [] [] g q c l R) (h2 : ¬ xCn .eq ((g 10)) ((Int32.ofInt (1))) = true → rr b e d 380 16 [(0, .ref 49)] [] g q c l R) : rr b e d 380 8 [(0, .ref 49)] [] g q c l R := by
  have key : ∀ f, nrun xZ (xY (xfm b)) xDT (f + 4) d 380 8 [(0, .ref 49)] [] (rH e g q c l) 0 0 = nrun xZ (xY (xfm b)) xDT f d 380 (if xCn .eq ((g 10)) ((Int32.ofInt (1))) = true then 52 else 16) [(0, .ref 49)] [] (rH e g q c l) 0 0 := by
    intro f
    obtain ⟨y, cb, hj⟩ := mq_380
    rw [n_step (st' := [.ref 49]) (pc' := 9) (lv' := [(0, .ref 49)]) (hp' := rH e g q c l) (i := .aload_n 0) (len := 1) rfl hj rfl rfl rfl]
    rw [n_get (st' := [.int (g 10)]) (pc' := 12) (lv' := [(0, .ref 49)]) (hp' := rH e g q c l) (i := .getfield 273) (len := 3) rfl hj rfl rfl rfl rfl]
    rw [n_step (st' := [.int (Int32.ofInt (1)), .int (g 10)]) (pc' := 13) (lv' := [(0, .ref 49)]) (hp' := rH e g q c l) (i := .iconst 1) (len := 1) rfl hj rfl rfl rfl]
    rw [n_step (st' := []) (pc' := (if xCn .eq ((g 10)) ((Int32.ofInt (1))) = true then 52 else 16)) (lv' := [(0, .ref 49)]) (hp' := rH e g q c l) (i := .if_icmp .eq 39) (len := 3) rfl hj rfl rfl rfl]
  by_cases hc : xCn .eq ((g 10)) ((Int32.ofInt (1))) = true
  · obtain ⟨f, h⟩ := h1 hc
    refine ⟨f + 4, ?_⟩
    rw [key, if_pos hc]
    exact nrun_ext f f _ _ R 380 52 [] [(0, .ref 49)] [] _ 0 0 122 (Nat.le_refl _) (Nat.le_refl _) (Nat.le_of_ble_eq_true rfl) (lvR_mk [] [0] rfl rfl (by decide) (by decide) (fun _ h => nomatch h) (List.forall_mem_cons.mpr ⟨Or.inr rfl, (fun _ h => nomatch h)⟩)) h
  · obtain ⟨f, h⟩ := h2 hc
    refine ⟨f + 4, ?_⟩
    rw [key, if_neg hc]
    exact h
set_option maxRecDepth 100000 in
set_option maxHeartbeats 4000000 in
theorem bk_380_16 {b : Bool} {d : Nat} {e : Nat → x_E} {g : Nat → Int32} {q : Nat → Int64} {c : Nat → Nat → Int32} {l : Nat → Nat → Int64} {g' : Nat → Int32} {q' : Nat → Int64} {c' : Nat → Nat → Int32} {l' : Nat → Nat → Int64} {v : Int32} {R : Option Value × List x_E} (hc : rr b e d 338 0 [(0, .ref 49), (1, .int (Int8.ofInt (7)).toInt32)] [] g q c l (some (.int v), rH e g' q' c' l')) (h : rr b e (d + 1) 380 22 [(0, .ref 49)] [.int v] g' q' c' l' R) : rr b e (d + 1) 380 16 [(0, .ref 49)] [] g q c l R := by
  obtain ⟨f1, hc⟩ := hc
  obtain ⟨f2, h⟩ := h
  obtain ⟨f, hf1, hf2⟩ : ∃ f, f1 ≤ f ∧ f2 ≤ f := ⟨max f1 f2, Nat.le_max_left _ _, Nat.le_max_right _ _⟩
  have hc := nrun_fuel f1 f _ _ _ _ _ _ _ _ _ hf1 hc
  have h := nrun_fuel f2 f _ _ _ _ _ _ _ _ _ hf2 h
  refine ⟨f + 3, ?_⟩
  obtain ⟨y, cb, hj⟩ := mq_380
  rw [n_step (st' := [.ref 49]) (pc' := 17) (lv' := [(0, .ref 49)]) (hp' := rH e g q c l) (i := .aload_n 0) (len := 1) rfl hj rfl rfl rfl]
  rw [n_step (st' := [.int (Int8.ofInt (7)).toInt32, .ref 49]) (pc' := 19) (lv' := [(0, .ref 49)]) (hp' := rH e g q c l) (i := .bipush 7) (len := 2) rfl hj rfl rfl rfl]
  obtain ⟨y2, cb2, hj2⟩ := mq_338
  rw [n_call (f := f) (d := d) (ki := 0) (idx := 350) (j' := 338) (kd := 0) (M' := (y2, cb2, 2, some .boolean, 12, 1, 0, 0)) (avs := [.ref 49, .int (Int8.ofInt (7)).toInt32]) (r := []) (rv := some (.int v)) (hp1 := rH e g' q' c' l') rfl hj rfl rfl rfl rfl (rq_n rfl rfl hj2 rfl rfl) rfl hc (Nat.le_of_ble_eq_true rfl)]
  exact h
set_option maxRecDepth 100000 in
set_option maxHeartbeats 4000000 in
theorem bk_380_22 {b : Bool} {d : Nat} {t0 : Int32} {e : Nat → x_E} {g : Nat → Int32} {q : Nat → Int64} {c : Nat → Nat → Int32} {l : Nat → Nat → Int64} {R : Option Value × List x_E} (h1 : xCn .ne t0 0 = true → rr b e d 380 52 [] [] g q c l R) (h2 : ¬ xCn .ne t0 0 = true → rr b e d 380 25 [(0, .ref 49)] [] g q c l R) : rr b e d 380 22 [(0, .ref 49)] [.int t0] g q c l R := by
  have key : ∀ f, nrun xZ (xY (xfm b)) xDT (f + 1) d 380 22 [(0, .ref 49)] [.int t0] (rH e g q c l) 0 0 = nrun xZ (xY (xfm b)) xDT f d 380 (if xCn .ne t0 0 = true then 52 else 25) [(0, .ref 49)] [] (rH e g q c l) 0 0 := by
    intro f
    obtain ⟨y, cb, hj⟩ := mq_380
    rw [n_step (st' := []) (pc' := (if xCn .ne t0 0 = true then 52 else 25)) (lv' := [(0, .ref 49)]) (hp' := rH e g q c l) (i := .ifCond .ne 30) (len := 3) rfl hj rfl rfl rfl]
  by_cases hc : xCn .ne t0 0 = true
  · obtain ⟨f, h⟩ := h1 hc
    refine ⟨f + 1, ?_⟩
    rw [key, if_pos hc]
    exact nrun_ext f f _ _ R 380 52 [] [(0, .ref 49)] [] _ 0 0 122 (Nat.le_refl _) (Nat.le_refl _) (Nat.le_of_ble_eq_true rfl) (lvR_mk [] [0] rfl rfl (by decide) (by decide) (fun _ h => nomatch h) (List.forall_mem_cons.mpr ⟨Or.inr rfl, (fun _ h => nomatch h)⟩)) h
  · obtain ⟨f, h⟩ := h2 hc
    refine ⟨f + 1, ?_⟩
    rw [key, if_neg hc]
    exact h
set_option maxRecDepth 100000 in
set_option maxHeartbeats 4000000 in
theorem bk_380_25 {b : Bool} {d : Nat} {e : Nat → x_E} {g : Nat → Int32} {q : Nat → Int64} {c : Nat → Nat → Int32} {l : Nat → Nat → Int64} {g' : Nat → Int32} {q' : Nat → Int64} {c' : Nat → Nat → Int32} {l' : Nat → Nat → Int64} {v : Int32} {R : Option Value × List x_E} (hc : rr b e d 344 0 [(0, .ref 49), (1, .int (Int8.ofInt (40)).toInt32)] [] g q c l (some (.int v), rH e g' q' c' l')) (h : rr b e (d + 1) 380 31 [(0, .ref 49)] [.int v] g' q' c' l' R) : rr b e (d + 1) 380 25 [(0, .ref 49)] [] g q c l R := by
  obtain ⟨f1, hc⟩ := hc
  obtain ⟨f2, h⟩ := h
  obtain ⟨f, hf1, hf2⟩ : ∃ f, f1 ≤ f ∧ f2 ≤ f := ⟨max f1 f2, Nat.le_max_left _ _, Nat.le_max_right _ _⟩
  have hc := nrun_fuel f1 f _ _ _ _ _ _ _ _ _ hf1 hc
  have h := nrun_fuel f2 f _ _ _ _ _ _ _ _ _ hf2 h
  refine ⟨f + 3, ?_⟩
  obtain ⟨y, cb, hj⟩ := mq_380
  rw [n_step (st' := [.ref 49]) (pc' := 26) (lv' := [(0, .ref 49)]) (hp' := rH e g q c l) (i := .aload_n 0) (len := 1) rfl hj rfl rfl rfl]
  rw [n_step (st' := [.int (Int8.ofInt (40)).toInt32, .ref 49]) (pc' := 28) (lv' := [(0, .ref 49)]) (hp' := rH e g q c l) (i := .bipush 40) (len := 2) rfl hj rfl rfl rfl]
  obtain ⟨y2, cb2, hj2⟩ := mq_344
  rw [n_call (f := f) (d := d) (ki := 0) (idx := 341) (j' := 344) (kd := 0) (M' := (y2, cb2, 2, some .boolean, 12, 1, 0, 0)) (avs := [.ref 49, .int (Int8.ofInt (40)).toInt32]) (r := []) (rv := some (.int v)) (hp1 := rH e g' q' c' l') rfl hj rfl rfl rfl rfl (rq_n rfl rfl hj2 rfl rfl) rfl hc (Nat.le_of_ble_eq_true rfl)]
  exact h
set_option maxRecDepth 100000 in
set_option maxHeartbeats 4000000 in
theorem bk_380_31 {b : Bool} {d : Nat} {t0 : Int32} {e : Nat → x_E} {g : Nat → Int32} {q : Nat → Int64} {c : Nat → Nat → Int32} {l : Nat → Nat → Int64} {R : Option Value × List x_E} (h1 : xCn .ne t0 0 = true → rr b e d 380 52 [] [] g q c l R) (h2 : ¬ xCn .ne t0 0 = true → rr b e d 380 34 [(0, .ref 49)] [] g q c l R) : rr b e d 380 31 [(0, .ref 49)] [.int t0] g q c l R := by
  have key : ∀ f, nrun xZ (xY (xfm b)) xDT (f + 1) d 380 31 [(0, .ref 49)] [.int t0] (rH e g q c l) 0 0 = nrun xZ (xY (xfm b)) xDT f d 380 (if xCn .ne t0 0 = true then 52 else 34) [(0, .ref 49)] [] (rH e g q c l) 0 0 := by
    intro f
    obtain ⟨y, cb, hj⟩ := mq_380
    rw [n_step (st' := []) (pc' := (if xCn .ne t0 0 = true then 52 else 34)) (lv' := [(0, .ref 49)]) (hp' := rH e g q c l) (i := .ifCond .ne 21) (len := 3) rfl hj rfl rfl rfl]
  by_cases hc : xCn .ne t0 0 = true
  · obtain ⟨f, h⟩ := h1 hc
    refine ⟨f + 1, ?_⟩
    rw [key, if_pos hc]
    exact nrun_ext f f _ _ R 380 52 [] [(0, .ref 49)] [] _ 0 0 122 (Nat.le_refl _) (Nat.le_refl _) (Nat.le_of_ble_eq_true rfl) (lvR_mk [] [0] rfl rfl (by decide) (by decide) (fun _ h => nomatch h) (List.forall_mem_cons.mpr ⟨Or.inr rfl, (fun _ h => nomatch h)⟩)) h
  · obtain ⟨f, h⟩ := h2 hc
    refine ⟨f + 1, ?_⟩
    rw [key, if_neg hc]
    exact h
set_option maxRecDepth 100000 in
set_option maxHeartbeats 4000000 in
theorem bk_380_34 {b : Bool} {d : Nat} {e : Nat → x_E} {g : Nat → Int32} {q : Nat → Int64} {c : Nat → Nat → Int32} {l : Nat → Nat → Int64} {g' : Nat → Int32} {q' : Nat → Int64} {c' : Nat → Nat → Int32} {l' : Nat → Nat → Int64} {v : Int32} {R : Option Value × List x_E} (hc : rr b e d 344 0 [(0, .ref 49), (1, .int (Int8.ofInt (60)).toInt32)] [] g q c l (some (.int v), rH e g' q' c' l')) (h : rr b e (d + 1) 380 40 [(0, .ref 49)] [.int v] g' q' c' l' R) : rr b e (d + 1) 380 34 [(0, .ref 49)] [] g q c l R := by
  obtain ⟨f1, hc⟩ := hc
  obtain ⟨f2, h⟩ := h
  obtain ⟨f, hf1, hf2⟩ : ∃ f, f1 ≤ f ∧ f2 ≤ f := ⟨max f1 f2, Nat.le_max_left _ _, Nat.le_max_right _ _⟩
  have hc := nrun_fuel f1 f _ _ _ _ _ _ _ _ _ hf1 hc
  have h := nrun_fuel f2 f _ _ _ _ _ _ _ _ _ hf2 h
  refine ⟨f + 3, ?_⟩
  obtain ⟨y, cb, hj⟩ := mq_380
  rw [n_step (st' := [.ref 49]) (pc' := 35) (lv' := [(0, .ref 49)]) (hp' := rH e g q c l) (i := .aload_n 0) (len := 1) rfl hj rfl rfl rfl]
  rw [n_step (st' := [.int (Int8.ofInt (60)).toInt32, .ref 49]) (pc' := 37) (lv' := [(0, .ref 49)]) (hp' := rH e g q c l) (i := .bipush 60) (len := 2) rfl hj rfl rfl rfl]
  obtain ⟨y2, cb2, hj2⟩ := mq_344
  rw [n_call (f := f) (d := d) (ki := 0) (idx := 341) (j' := 344) (kd := 0) (M' := (y2, cb2, 2, some .boolean, 12, 1, 0, 0)) (avs := [.ref 49, .int (Int8.ofInt (60)).toInt32]) (r := []) (rv := some (.int v)) (hp1 := rH e g' q' c' l') rfl hj rfl rfl rfl rfl (rq_n rfl rfl hj2 rfl rfl) rfl hc (Nat.le_of_ble_eq_true rfl)]
  exact h
set_option maxRecDepth 100000 in
set_option maxHeartbeats 4000000 in
theorem bk_380_40 {b : Bool} {d : Nat} {t0 : Int32} {e : Nat → x_E} {g : Nat → Int32} {q : Nat → Int64} {c : Nat → Nat → Int32} {l : Nat → Nat → Int64} {R : Option Value × List x_E} (h1 : xCn .ne t0 0 = true → rr b e d 380 52 [] [] g q c l R) (h2 : ¬ xCn .ne t0 0 = true → rr b e d 380 43 [(0, .ref 49)] [] g q c l R) : rr b e d 380 40 [(0, .ref 49)] [.int t0] g q c l R := by
  have key : ∀ f, nrun xZ (xY (xfm b)) xDT (f + 1) d 380 40 [(0, .ref 49)] [.int t0] (rH e g q c l) 0 0 = nrun xZ (xY (xfm b)) xDT f d 380 (if xCn .ne t0 0 = true then 52 else 43) [(0, .ref 49)] [] (rH e g q c l) 0 0 := by
    intro f
    obtain ⟨y, cb, hj⟩ := mq_380
    rw [n_step (st' := []) (pc' := (if xCn .ne t0 0 = true then 52 else 43)) (lv' := [(0, .ref 49)]) (hp' := rH e g q c l) (i := .ifCond .ne 12) (len := 3) rfl hj rfl rfl rfl]
  by_cases hc : xCn .ne t0 0 = true
  · obtain ⟨f, h⟩ := h1 hc
    refine ⟨f + 1, ?_⟩
    rw [key, if_pos hc]
    exact nrun_ext f f _ _ R 380 52 [] [(0, .ref 49)] [] _ 0 0 122 (Nat.le_refl _) (Nat.le_refl _) (Nat.le_of_ble_eq_true rfl) (lvR_mk [] [0] rfl rfl (by decide) (by decide) (fun _ h => nomatch h) (List.forall_mem_cons.mpr ⟨Or.inr rfl, (fun _ h => nomatch h)⟩)) h
  · obtain ⟨f, h⟩ := h2 hc
    refine ⟨f + 1, ?_⟩
    rw [key, if_neg hc]
    exact h
set_option maxRecDepth 100000 in
set_option maxHeartbeats 4000000 in
theorem bk_380_43 {b : Bool} {d : Nat} {e : Nat → x_E} {g : Nat → Int32} {q : Nat → Int64} {c : Nat → Nat → Int32} {l : Nat → Nat → Int64} {g' : Nat → Int32} {q' : Nat → Int64} {c' : Nat → Nat → Int32} {l' : Nat → Nat → Int64} {v : Int32} {R : Option Value × List x_E} (hc : rr b e d 344 0 [(0, .ref 49), (1, .int (Int8.ofInt (35)).toInt32)] [] g q c l (some (.int v), rH e g' q' c' l')) (h : rr b e (d + 1) 380 49 [] [.int v] g' q' c' l' R) : rr b e (d + 1) 380 43 [(0, .ref 49)] [] g q c l R := by
  obtain ⟨f1, hc⟩ := hc
  obtain ⟨f2, h⟩ := h
  obtain ⟨f, hf1, hf2⟩ : ∃ f, f1 ≤ f ∧ f2 ≤ f := ⟨max f1 f2, Nat.le_max_left _ _, Nat.le_max_right _ _⟩
  have hc := nrun_fuel f1 f _ _ _ _ _ _ _ _ _ hf1 hc
  have h := nrun_fuel f2 f _ _ _ _ _ _ _ _ _ hf2 h
  refine ⟨f + 3, ?_⟩
  obtain ⟨y, cb, hj⟩ := mq_380
  rw [n_step (st' := [.ref 49]) (pc' := 44) (lv' := [(0, .ref 49)]) (hp' := rH e g q c l) (i := .aload_n 0) (len := 1) rfl hj rfl rfl rfl]
  rw [n_step (st' := [.int (Int8.ofInt (35)).toInt32, .ref 49]) (pc' := 46) (lv' := [(0, .ref 49)]) (hp' := rH e g q c l) (i := .bipush 35) (len := 2) rfl hj rfl rfl rfl]
  obtain ⟨y2, cb2, hj2⟩ := mq_344
  rw [n_call (f := f) (d := d) (ki := 0) (idx := 341) (j' := 344) (kd := 0) (M' := (y2, cb2, 2, some .boolean, 12, 1, 0, 0)) (avs := [.ref 49, .int (Int8.ofInt (35)).toInt32]) (r := []) (rv := some (.int v)) (hp1 := rH e g' q' c' l') rfl hj rfl rfl rfl rfl (rq_n rfl rfl hj2 rfl rfl) rfl hc (Nat.le_of_ble_eq_true rfl)]
  exact nrun_ext f f _ _ R 380 49 [] [(0, .ref 49)] [.int v] _ 0 0 122 (Nat.le_refl _) (Nat.le_refl _) (Nat.le_of_ble_eq_true rfl) (lvR_mk [] [0] rfl rfl (by decide) (by decide) (fun _ h => nomatch h) (List.forall_mem_cons.mpr ⟨Or.inr rfl, (fun _ h => nomatch h)⟩)) h
set_option maxRecDepth 100000 in
set_option maxHeartbeats 4000000 in
theorem bk_380_49 {b : Bool} {d : Nat} {t0 : Int32} {e : Nat → x_E} {g : Nat → Int32} {q : Nat → Int64} {c : Nat → Nat → Int32} {l : Nat → Nat → Int64} {R : Option Value × List x_E} (h1 : xCn .eq t0 0 = true → rr b e d 380 56 [] [] g q c l R) (h2 : ¬ xCn .eq t0 0 = true → rr b e d 380 52 [] [] g q c l R) : rr b e d 380 49 [] [.int t0] g q c l R := by
  have key : ∀ f, nrun xZ (xY (xfm b)) xDT (f + 1) d 380 49 [] [.int t0] (rH e g q c l) 0 0 = nrun xZ (xY (xfm b)) xDT f d 380 (if xCn .eq t0 0 = true then 56 else 52) [] [] (rH e g q c l) 0 0 := by
    intro f
    obtain ⟨y, cb, hj⟩ := mq_380
    rw [n_step (st' := []) (pc' := (if xCn .eq t0 0 = true then 56 else 52)) (lv' := []) (hp' := rH e g q c l) (i := .ifCond .eq 7) (len := 3) rfl hj rfl rfl rfl]
  by_cases hc : xCn .eq t0 0 = true
  · obtain ⟨f, h⟩ := h1 hc
    refine ⟨f + 1, ?_⟩
    rw [key, if_pos hc]
    exact h
  · obtain ⟨f, h⟩ := h2 hc
    refine ⟨f + 1, ?_⟩
    rw [key, if_neg hc]
    exact h
set_option maxRecDepth 100000 in
set_option maxHeartbeats 4000000 in
theorem bk_380_52 {b : Bool} {d : Nat} {e : Nat → x_E} {g : Nat → Int32} {q : Nat → Int64} {c : Nat → Nat → Int32} {l : Nat → Nat → Int64} {R : Option Value × List x_E} (h : rr b e d 380 57 [] [.int (Int32.ofInt (1))] g q c l R) : rr b e d 380 52 [] [] g q c l R := by
  obtain ⟨f, h⟩ := h
  refine ⟨f + 2, ?_⟩
  obtain ⟨y, cb, hj⟩ := mq_380
  rw [n_step (st' := [.int (Int32.ofInt (1))]) (pc' := 53) (lv' := []) (hp' := rH e g q c l) (i := .iconst 1) (len := 1) rfl hj rfl rfl rfl]
  rw [n_step (st' := [.int (Int32.ofInt (1))]) (pc' := 57) (lv' := []) (hp' := rH e g q c l) (i := .goto 4) (len := 3) rfl hj rfl rfl rfl]
  exact h
set_option maxRecDepth 100000 in
set_option maxHeartbeats 4000000 in
theorem bk_380_56 {b : Bool} {d : Nat} {e : Nat → x_E} {g : Nat → Int32} {q : Nat → Int64} {c : Nat → Nat → Int32} {l : Nat → Nat → Int64} {R : Option Value × List x_E} (h : rr b e d 380 57 [] [.int (Int32.ofInt (0))] g q c l R) : rr b e d 380 56 [] [] g q c l R := by
  obtain ⟨f, h⟩ := h
  refine ⟨f + 1, ?_⟩
  obtain ⟨y, cb, hj⟩ := mq_380
  rw [n_step (st' := [.int (Int32.ofInt (0))]) (pc' := 57) (lv' := []) (hp' := rH e g q c l) (i := .iconst 0) (len := 1) rfl hj rfl rfl rfl]
  exact h
set_option maxRecDepth 100000 in
set_option maxHeartbeats 4000000 in
theorem bk_380_57 {b : Bool} {d : Nat} {t0 : Int32} {e : Nat → x_E} {g : Nat → Int32} {q : Nat → Int64} {c : Nat → Nat → Int32} {l : Nat → Nat → Int64} (hv : t0 = 0 ∨ t0 = 1) : rr b e d 380 57 [] [.int t0] g q c l (some (.int t0), rH e g q c l) := by
  refine ⟨0 + 1, ?_⟩
  obtain ⟨y, cb, hj⟩ := mq_380
  exact n_ret rfl hj rfl rfl (x_ret (nb_01 hv))
set_option maxRecDepth 100000 in
set_option maxHeartbeats 4000000 in
theorem bk_390_0 {b : Bool} {d : Nat} {e : Nat → x_E} {g : Nat → Int32} {q : Nat → Int64} {c : Nat → Nat → Int32} {l : Nat → Nat → Int64} {R : Option Value × List x_E} (h1 : xCn .ne ((g 19)) 0 = true → rr b e d 390 30 [(0, .ref 49)] [] g q c l R) (h2 : ¬ xCn .ne ((g 19)) 0 = true → rr b e d 390 7 [(0, .ref 49)] [] g q c l R) : rr b e d 390 0 [(0, .ref 49)] [] g q c l R := by
  have key : ∀ f, nrun xZ (xY (xfm b)) xDT (f + 3) d 390 0 [(0, .ref 49)] [] (rH e g q c l) 0 0 = nrun xZ (xY (xfm b)) xDT f d 390 (if xCn .ne ((g 19)) 0 = true then 30 else 7) [(0, .ref 49)] [] (rH e g q c l) 0 0 := by
    intro f
    obtain ⟨y, cb, hj⟩ := mq_390
    rw [n_step (st' := [.ref 49]) (pc' := 1) (lv' := [(0, .ref 49)]) (hp' := rH e g q c l) (i := .aload_n 0) (len := 1) rfl hj rfl rfl rfl]
    rw [n_get (st' := [.int (g 19)]) (pc' := 4) (lv' := [(0, .ref 49)]) (hp' := rH e g q c l) (i := .getfield 319) (len := 3) rfl hj rfl rfl rfl rfl]
    rw [n_step (st' := []) (pc' := (if xCn .ne ((g 19)) 0 = true then 30 else 7)) (lv' := [(0, .ref 49)]) (hp' := rH e g q c l) (i := .ifCond .ne 26) (len := 3) rfl hj rfl rfl rfl]
  by_cases hc : xCn .ne ((g 19)) 0 = true
  · obtain ⟨f, h⟩ := h1 hc
    refine ⟨f + 3, ?_⟩
    rw [key, if_pos hc]
    exact h
  · obtain ⟨f, h⟩ := h2 hc
    refine ⟨f + 3, ?_⟩
    rw [key, if_neg hc]
    exact h
set_option maxRecDepth 100000 in
set_option maxHeartbeats 4000000 in
theorem bk_390_7 {b : Bool} {d : Nat} {e : Nat → x_E} {g : Nat → Int32} {q : Nat → Int64} {c : Nat → Nat → Int32} {l : Nat → Nat → Int64} {R : Option Value × List x_E} (h1 : xCn .eq ((g 21)) 0 = true → rr b e d 390 30 [(0, .ref 49)] [] g q c l R) (h2 : ¬ xCn .eq ((g 21)) 0 = true → rr b e d 390 14 [(0, .ref 49)] [] g q c l R) : rr b e d 390 7 [(0, .ref 49)] [] g q c l R := by
  have key : ∀ f, nrun xZ (xY (xfm b)) xDT (f + 3) d 390 7 [(0, .ref 49)] [] (rH e g q c l) 0 0 = nrun xZ (xY (xfm b)) xDT f d 390 (if xCn .eq ((g 21)) 0 = true then 30 else 14) [(0, .ref 49)] [] (rH e g q c l) 0 0 := by
    intro f
    obtain ⟨y, cb, hj⟩ := mq_390
    rw [n_step (st' := [.ref 49]) (pc' := 8) (lv' := [(0, .ref 49)]) (hp' := rH e g q c l) (i := .aload_n 0) (len := 1) rfl hj rfl rfl rfl]
    rw [n_get (st' := [.int (g 21)]) (pc' := 11) (lv' := [(0, .ref 49)]) (hp' := rH e g q c l) (i := .getfield 331) (len := 3) rfl hj rfl rfl rfl rfl]
    rw [n_step (st' := []) (pc' := (if xCn .eq ((g 21)) 0 = true then 30 else 14)) (lv' := [(0, .ref 49)]) (hp' := rH e g q c l) (i := .ifCond .eq 19) (len := 3) rfl hj rfl rfl rfl]
  by_cases hc : xCn .eq ((g 21)) 0 = true
  · obtain ⟨f, h⟩ := h1 hc
    refine ⟨f + 3, ?_⟩
    rw [key, if_pos hc]
    exact h
  · obtain ⟨f, h⟩ := h2 hc
    refine ⟨f + 3, ?_⟩
    rw [key, if_neg hc]
    exact h
set_option maxRecDepth 100000 in
set_option maxHeartbeats 4000000 in
theorem bk_390_14 {b : Bool} {d : Nat} {e : Nat → x_E} {g : Nat → Int32} {q : Nat → Int64} {c : Nat → Nat → Int32} {l : Nat → Nat → Int64} {R : Option Value × List x_E} (h : rr b e d 390 30 [(0, .ref 49)] [] (upd (upd g 19 ((g 21))) 20 (((upd g 19 ((g 21))) 22))) q c l R) : rr b e d 390 14 [(0, .ref 49)] [] g q c l R := by
  obtain ⟨f, h⟩ := h
  refine ⟨f + 8, ?_⟩
  obtain ⟨y, cb, hj⟩ := mq_390
  rw [n_step (st' := [.ref 49]) (pc' := 15) (lv' := [(0, .ref 49)]) (hp' := rH e g q c l) (i := .aload_n 0) (len := 1) rfl hj rfl rfl rfl]
  rw [n_step (st' := [.ref 49, .ref 49]) (pc' := 16) (lv' := [(0, .ref 49)]) (hp' := rH e g q c l) (i := .aload_n 0) (len := 1) rfl hj rfl rfl rfl]
  rw [n_get (st' := [.int (g 21), .ref 49]) (pc' := 19) (lv' := [(0, .ref 49)]) (hp' := rH e g q c l) (i := .getfield 331) (len := 3) rfl hj rfl rfl rfl rfl]
  rw [n_put (st' := []) (hp' := rH e (upd g 19 ((g 21))) q c l) rfl hj pf_19]
  rw [n_step (st' := [.ref 49]) (pc' := 23) (lv' := [(0, .ref 49)]) (hp' := rH e (upd g 19 ((g 21))) q c l) (i := .aload_n 0) (len := 1) rfl hj rfl rfl rfl]
  rw [n_step (st' := [.ref 49, .ref 49]) (pc' := 24) (lv' := [(0, .ref 49)]) (hp' := rH e (upd g 19 ((g 21))) q c l) (i := .aload_n 0) (len := 1) rfl hj rfl rfl rfl]
  rw [n_get (st' := [.int ((upd g 19 ((g 21))) 22), .ref 49]) (pc' := 27) (lv' := [(0, .ref 49)]) (hp' := rH e (upd g 19 ((g 21))) q c l) (i := .getfield 334) (len := 3) rfl hj rfl rfl rfl rfl]
  rw [n_put (st' := []) (hp' := rH e (upd (upd g 19 ((g 21))) 20 (((upd g 19 ((g 21))) 22))) q c l) rfl hj pf_20]
  exact h
set_option maxRecDepth 100000 in
set_option maxHeartbeats 4000000 in
theorem bk_390_30 {b : Bool} {d : Nat} {e : Nat → x_E} {g : Nat → Int32} {q : Nat → Int64} {c : Nat → Nat → Int32} {l : Nat → Nat → Int64} {R : Option Value × List x_E} (h1 : xCn .ne ((g 19)) 0 = true → rr b e d 390 42 [(0, .ref 49)] [.ref 49] g q c l R) (h2 : ¬ xCn .ne ((g 19)) 0 = true → rr b e d 390 38 [(0, .ref 49)] [.ref 49] g q c l R) : rr b e d 390 30 [(0, .ref 49)] [] g q c l R := by
  have key : ∀ f, nrun xZ (xY (xfm b)) xDT (f + 4) d 390 30 [(0, .ref 49)] [] (rH e g q c l) 0 0 = nrun xZ (xY (xfm b)) xDT f d 390 (if xCn .ne ((g 19)) 0 = true then 42 else 38) [(0, .ref 49)] [.ref 49] (rH e g q c l) 0 0 := by
    intro f
    obtain ⟨y, cb, hj⟩ := mq_390
    rw [n_step (st' := [.ref 49]) (pc' := 31) (lv' := [(0, .ref 49)]) (hp' := rH e g q c l) (i := .aload_n 0) (len := 1) rfl hj rfl rfl rfl]
    rw [n_step (st' := [.ref 49, .ref 49]) (pc' := 32) (lv' := [(0, .ref 49)]) (hp' := rH e g q c l) (i := .aload_n 0) (len := 1) rfl hj rfl rfl rfl]
    rw [n_get (st' := [.int (g 19), .ref 49]) (pc' := 35) (lv' := [(0, .ref 49)]) (hp' := rH e g q c l) (i := .getfield 319) (len := 3) rfl hj rfl rfl rfl rfl]
    rw [n_step (st' := [.ref 49]) (pc' := (if xCn .ne ((g 19)) 0 = true then 42 else 38)) (lv' := [(0, .ref 49)]) (hp' := rH e g q c l) (i := .ifCond .ne 7) (len := 3) rfl hj rfl rfl rfl]
  by_cases hc : xCn .ne ((g 19)) 0 = true
  · obtain ⟨f, h⟩ := h1 hc
    refine ⟨f + 4, ?_⟩
    rw [key, if_pos hc]
    exact h
  · obtain ⟨f, h⟩ := h2 hc
    refine ⟨f + 4, ?_⟩
    rw [key, if_neg hc]
    exact h
set_option maxRecDepth 100000 in
set_option maxHeartbeats 4000000 in
theorem bk_390_38 {b : Bool} {d : Nat} {e : Nat → x_E} {g : Nat → Int32} {q : Nat → Int64} {c : Nat → Nat → Int32} {l : Nat → Nat → Int64} {R : Option Value × List x_E} (h : rr b e d 390 46 [(0, .ref 49)] [.int (Int32.ofInt (-1)), .ref 49] g q c l R) : rr b e d 390 38 [(0, .ref 49)] [.ref 49] g q c l R := by
  obtain ⟨f, h⟩ := h
  refine ⟨f + 2, ?_⟩
  obtain ⟨y, cb, hj⟩ := mq_390
  rw [n_step (st' := [.int (Int32.ofInt (-1)), .ref 49]) (pc' := 39) (lv' := [(0, .ref 49)]) (hp' := rH e g q c l) (i := .iconst (-1)) (len := 1) rfl hj rfl rfl rfl]
  rw [n_step (st' := [.int (Int32.ofInt (-1)), .ref 49]) (pc' := 46) (lv' := [(0, .ref 49)]) (hp' := rH e g q c l) (i := .goto 7) (len := 3) rfl hj rfl rfl rfl]
  exact h
set_option maxRecDepth 100000 in
set_option maxHeartbeats 4000000 in
theorem bk_390_42 {b : Bool} {d : Nat} {e : Nat → x_E} {g : Nat → Int32} {q : Nat → Int64} {c : Nat → Nat → Int32} {l : Nat → Nat → Int64} {R : Option Value × List x_E} (h : rr b e d 390 46 [(0, .ref 49)] [.int (g 20), .ref 49] g q c l R) : rr b e d 390 42 [(0, .ref 49)] [.ref 49] g q c l R := by
  obtain ⟨f, h⟩ := h
  refine ⟨f + 2, ?_⟩
  obtain ⟨y, cb, hj⟩ := mq_390
  rw [n_step (st' := [.ref 49, .ref 49]) (pc' := 43) (lv' := [(0, .ref 49)]) (hp' := rH e g q c l) (i := .aload_n 0) (len := 1) rfl hj rfl rfl rfl]
  rw [n_get (st' := [.int (g 20), .ref 49]) (pc' := 46) (lv' := [(0, .ref 49)]) (hp' := rH e g q c l) (i := .getfield 322) (len := 3) rfl hj rfl rfl rfl rfl]
  exact h
set_option maxRecDepth 100000 in
set_option maxHeartbeats 4000000 in
theorem bk_390_46 {b : Bool} {d : Nat} {t0 : Int32} {e : Nat → x_E} {g : Nat → Int32} {q : Nat → Int64} {c : Nat → Nat → Int32} {l : Nat → Nat → Int64} : rr b e d 390 46 [(0, .ref 49)] [.int t0, .ref 49] g q c l (some (.int ((upd g 4 t0) 19)), rH e (upd g 4 t0) q c l) := by
  refine ⟨0 + 4, ?_⟩
  obtain ⟨y, cb, hj⟩ := mq_390
  rw [n_put (st' := []) (hp' := rH e (upd g 4 t0) q c l) rfl hj pf_4]
  rw [n_step (st' := [.ref 49]) (pc' := 50) (lv' := [(0, .ref 49)]) (hp' := rH e (upd g 4 t0) q c l) (i := .aload_n 0) (len := 1) rfl hj rfl rfl rfl]
  rw [n_get (st' := [.int ((upd g 4 t0) 19)]) (pc' := 53) (lv' := [(0, .ref 49)]) (hp' := rH e (upd g 4 t0) q c l) (i := .getfield 319) (len := 3) rfl hj rfl rfl rfl rfl]
  exact n_ret rfl hj rfl rfl (x_ret rfl)
set_option maxRecDepth 100000 in
set_option maxHeartbeats 4000000 in
theorem bk_391_0 {b : Bool} {d : Nat} {x1 : Int32} {e : Nat → x_E} {g : Nat → Int32} {q : Nat → Int64} {c : Nat → Nat → Int32} {l : Nat → Nat → Int64} {R : Option Value × List x_E} (h1 : xCn .ne ((g 5)) ((Int32.ofInt (1))) = true → rr b e d 391 12 [] [] g q c l R) (h2 : ¬ xCn .ne ((g 5)) ((Int32.ofInt (1))) = true → rr b e d 391 8 [(0, .ref 49), (1, .int x1)] [] g q c l R) : rr b e d 391 0 [(0, .ref 49), (1, .int x1)] [] g q c l R := by
  have key : ∀ f, nrun xZ (xY (xfm b)) xDT (f + 4) d 391 0 [(0, .ref 49), (1, .int x1)] [] (rH e g q c l) 0 0 = nrun xZ (xY (xfm b)) xDT f d 391 (if xCn .ne ((g 5)) ((Int32.ofInt (1))) = true then 12 else 8) [(0, .ref 49), (1, .int x1)] [] (rH e g q c l) 0 0 := by
    intro f
    obtain ⟨y, cb, hj⟩ := mq_391
    rw [n_step (st' := [.ref 49]) (pc' := 1) (lv' := [(0, .ref 49), (1, .int x1)]) (hp' := rH e g q c l) (i := .aload_n 0) (len := 1) rfl hj rfl rfl rfl]
    rw [n_get (st' := [.int (g 5)]) (pc' := 4) (lv' := [(0, .ref 49), (1, .int x1)]) (hp' := rH e g q c l) (i := .getfield 575) (len := 3) rfl hj rfl rfl rfl rfl]
    rw [n_step (st' := [.int (Int32.ofInt (1)), .int (g 5)]) (pc' := 5) (lv' := [(0, .ref 49), (1, .int x1)]) (hp' := rH e g q c l) (i := .iconst 1) (len := 1) rfl hj rfl rfl rfl]
    rw [n_step (st' := []) (pc' := (if xCn .ne ((g 5)) ((Int32.ofInt (1))) = true then 12 else 8)) (lv' := [(0, .ref 49), (1, .int x1)]) (hp' := rH e g q c l) (i := .if_icmp .ne 7) (len := 3) rfl hj rfl rfl rfl]
  by_cases hc : xCn .ne ((g 5)) ((Int32.ofInt (1))) = true
  · obtain ⟨f, h⟩ := h1 hc
    refine ⟨f + 4, ?_⟩
    rw [key, if_pos hc]
    exact nrun_ext f f _ _ R 391 12 [] [(0, .ref 49), (1, .int x1)] [] _ 0 0 122 (Nat.le_refl _) (Nat.le_refl _) (Nat.le_of_ble_eq_true rfl) (lvR_mk [] [0, 1] rfl rfl (by decide) (by decide) (fun _ h => nomatch h) (List.forall_mem_cons.mpr ⟨Or.inr rfl, (List.forall_mem_cons.mpr ⟨Or.inr rfl, (fun _ h => nomatch h)⟩)⟩)) h
  · obtain ⟨f, h⟩ := h2 hc
    refine ⟨f + 4, ?_⟩
    rw [key, if_neg hc]
    exact h
set_option maxRecDepth 100000 in
set_option maxHeartbeats 4000000 in
theorem bk_391_8 {b : Bool} {d : Nat} {x1 : Int32} {e : Nat → x_E} {g : Nat → Int32} {q : Nat → Int64} {c : Nat → Nat → Int32} {l : Nat → Nat → Int64} {R : Option Value × List x_E} (h1 : xCn .ge x1 0 = true → rr b e d 391 14 [(0, .ref 49), (1, .int x1)] [] g q c l R) (h2 : ¬ xCn .ge x1 0 = true → rr b e d 391 12 [] [] g q c l R) : rr b e d 391 8 [(0, .ref 49), (1, .int x1)] [] g q c l R := by
  have key : ∀ f, nrun xZ (xY (xfm b)) xDT (f + 2) d 391 8 [(0, .ref 49), (1, .int x1)] [] (rH e g q c l) 0 0 = nrun xZ (xY (xfm b)) xDT f d 391 (if xCn .ge x1 0 = true then 14 else 12) [(0, .ref 49), (1, .int x1)] [] (rH e g q c l) 0 0 := by
    intro f
    obtain ⟨y, cb, hj⟩ := mq_391
    rw [n_step (st' := [.int x1]) (pc' := 9) (lv' := [(0, .ref 49), (1, .int x1)]) (hp' := rH e g q c l) (i := .iload_n 1) (len := 1) rfl hj rfl rfl rfl]
    rw [n_step (st' := []) (pc' := (if xCn .ge x1 0 = true then 14 else 12)) (lv' := [(0, .ref 49), (1, .int x1)]) (hp' := rH e g q c l) (i := .ifCond .ge 5) (len := 3) rfl hj rfl rfl rfl]
  by_cases hc : xCn .ge x1 0 = true
  · obtain ⟨f, h⟩ := h1 hc
    refine ⟨f + 2, ?_⟩
    rw [key, if_pos hc]
    exact h
  · obtain ⟨f, h⟩ := h2 hc
    refine ⟨f + 2, ?_⟩
    rw [key, if_neg hc]
    exact nrun_ext f f _ _ R 391 12 [] [(0, .ref 49), (1, .int x1)] [] _ 0 0 122 (Nat.le_refl _) (Nat.le_refl _) (Nat.le_of_ble_eq_true rfl) (lvR_mk [] [0, 1] rfl rfl (by decide) (by decide) (fun _ h => nomatch h) (List.forall_mem_cons.mpr ⟨Or.inr rfl, (List.forall_mem_cons.mpr ⟨Or.inr rfl, (fun _ h => nomatch h)⟩)⟩)) h
set_option maxRecDepth 100000 in
set_option maxHeartbeats 4000000 in
theorem bk_391_12 {b : Bool} {d : Nat} {e : Nat → x_E} {g : Nat → Int32} {q : Nat → Int64} {c : Nat → Nat → Int32} {l : Nat → Nat → Int64} : rr b e d 391 12 [] [] g q c l (some (.int (Int32.ofInt (-1))), rH e g q c l) := by
  refine ⟨0 + 2, ?_⟩
  obtain ⟨y, cb, hj⟩ := mq_391
  rw [n_step (st' := [.int (Int32.ofInt (-1))]) (pc' := 13) (lv' := []) (hp' := rH e g q c l) (i := .iconst (-1)) (len := 1) rfl hj rfl rfl rfl]
  exact n_ret rfl hj rfl rfl (x_ret rfl)
set_option maxRecDepth 100000 in
set_option maxHeartbeats 4000000 in
theorem bk_391_14 {b : Bool} {d : Nat} {x1 : Int32} {e : Nat → x_E} {g : Nat → Int32} {q : Nat → Int64} {c : Nat → Nat → Int32} {l : Nat → Nat → Int64} {g' : Nat → Int32} {q' : Nat → Int64} {c' : Nat → Nat → Int32} {l' : Nat → Nat → Int64} {R : Option Value × List x_E} (hz0 : ¬ ((g 63) < 0 ∨ 1300 ≤ ((g 63)).toNatClampNeg)) (hc : rr b e d 392 0 [(0, .ref 49), (1, .int (c 56 ((g 63)).toNatClampNeg))] [] g q c l (none, rH e g' q' c' l')) (h : rr b e (d + 1) 391 27 [(0, .ref 49), (1, .int x1)] [] g' q' c' l' R) : rr b e (d + 1) 391 14 [(0, .ref 49), (1, .int x1)] [] g q c l R := by
  obtain ⟨f1, hc⟩ := hc
  obtain ⟨f2, h⟩ := h
  obtain ⟨f, hf1, hf2⟩ : ∃ f, f1 ≤ f ∧ f2 ≤ f := ⟨max f1 f2, Nat.le_max_left _ _, Nat.le_max_right _ _⟩
  have hc := nrun_fuel f1 f _ _ _ _ _ _ _ _ _ hf1 hc
  have h := nrun_fuel f2 f _ _ _ _ _ _ _ _ _ hf2 h
  refine ⟨f + 7, ?_⟩
  obtain ⟨y, cb, hj⟩ := mq_391
  rw [n_step (st' := [.ref 49]) (pc' := 15) (lv' := [(0, .ref 49), (1, .int x1)]) (hp' := rH e g q c l) (i := .aload_n 0) (len := 1) rfl hj rfl rfl rfl]
  rw [n_step (st' := [.ref 49, .ref 49]) (pc' := 16) (lv' := [(0, .ref 49), (1, .int x1)]) (hp' := rH e g q c l) (i := .aload_n 0) (len := 1) rfl hj rfl rfl rfl]
  rw [n_get (st' := [.ref 56, .ref 49]) (pc' := 19) (lv' := [(0, .ref 49), (1, .int x1)]) (hp' := rH e g q c l) (i := .getfield 34) (len := 3) rfl hj rfl rfl rfl rfl]
  rw [n_step (st' := [.ref 49, .ref 56, .ref 49]) (pc' := 20) (lv' := [(0, .ref 49), (1, .int x1)]) (hp' := rH e g q c l) (i := .aload_n 0) (len := 1) rfl hj rfl rfl rfl]
  rw [n_get (st' := [.int (g 63), .ref 56, .ref 49]) (pc' := 23) (lv' := [(0, .ref 49), (1, .int x1)]) (hp' := rH e g q c l) (i := .getfield 590) (len := 3) rfl hj rfl rfl rfl rfl]
  rw [n_ial (st' := [.int (c 56 ((g 63)).toNatClampNeg), .ref 49]) rfl hj (ald_56 hz0)]
  obtain ⟨y2, cb2, hj2⟩ := mq_392
  rw [n_call (f := f) (d := d) (ki := 0) (idx := 676) (j' := 392) (kd := 0) (M' := (y2, cb2, 3, none, 12, 1, 0, 0)) (avs := [.ref 49, .int (c 56 ((g 63)).toNatClampNeg)]) (r := []) (rv := none) (hp1 := rH e g' q' c' l') rfl hj rfl rfl rfl rfl (rq_n rfl rfl hj2 rfl rfl) rfl hc (Nat.le_of_ble_eq_true rfl)]
  exact h
set_option maxRecDepth 100000 in
set_option maxHeartbeats 4000000 in
theorem bk_391_27 {b : Bool} {d : Nat} {x1 : Int32} {e : Nat → x_E} {g : Nat → Int32} {q : Nat → Int64} {c : Nat → Nat → Int32} {l : Nat → Nat → Int64} {R : Option Value × List x_E} (h1 : xCn .ge x1 ((g 79)) = true → rr b e d 391 44 [] [] g q c l R) (h2 : ¬ xCn .ge x1 ((g 79)) = true → rr b e d 391 35 [(0, .ref 49), (1, .int x1)] [] g q c l R) : rr b e d 391 27 [(0, .ref 49), (1, .int x1)] [] g q c l R := by
  have key : ∀ f, nrun xZ (xY (xfm b)) xDT (f + 4) d 391 27 [(0, .ref 49), (1, .int x1)] [] (rH e g q c l) 0 0 = nrun xZ (xY (xfm b)) xDT f d 391 (if xCn .ge x1 ((g 79)) = true then 44 else 35) [(0, .ref 49), (1, .int x1)] [] (rH e g q c l) 0 0 := by
    intro f
    obtain ⟨y, cb, hj⟩ := mq_391
    rw [n_step (st' := [.int x1]) (pc' := 28) (lv' := [(0, .ref 49), (1, .int x1)]) (hp' := rH e g q c l) (i := .iload_n 1) (len := 1) rfl hj rfl rfl rfl]
    rw [n_step (st' := [.ref 49, .int x1]) (pc' := 29) (lv' := [(0, .ref 49), (1, .int x1)]) (hp' := rH e g q c l) (i := .aload_n 0) (len := 1) rfl hj rfl rfl rfl]
    rw [n_get (st' := [.int (g 79), .int x1]) (pc' := 32) (lv' := [(0, .ref 49), (1, .int x1)]) (hp' := rH e g q c l) (i := .getfield 654) (len := 3) rfl hj rfl rfl rfl rfl]
    rw [n_step (st' := []) (pc' := (if xCn .ge x1 ((g 79)) = true then 44 else 35)) (lv' := [(0, .ref 49), (1, .int x1)]) (hp' := rH e g q c l) (i := .if_icmp .ge 12) (len := 3) rfl hj rfl rfl rfl]
  by_cases hc : xCn .ge x1 ((g 79)) = true
  · obtain ⟨f, h⟩ := h1 hc
    refine ⟨f + 4, ?_⟩
    rw [key, if_pos hc]
    exact nrun_ext f f _ _ R 391 44 [] [(0, .ref 49), (1, .int x1)] [] _ 0 0 122 (Nat.le_refl _) (Nat.le_refl _) (Nat.le_of_ble_eq_true rfl) (lvR_mk [] [0, 1] rfl rfl (by decide) (by decide) (fun _ h => nomatch h) (List.forall_mem_cons.mpr ⟨Or.inr rfl, (List.forall_mem_cons.mpr ⟨Or.inr rfl, (fun _ h => nomatch h)⟩)⟩)) h
  · obtain ⟨f, h⟩ := h2 hc
    refine ⟨f + 4, ?_⟩
    rw [key, if_neg hc]
    exact h
set_option maxRecDepth 100000 in
set_option maxHeartbeats 4000000 in
theorem bk_391_35 {b : Bool} {d : Nat} {x1 : Int32} {e : Nat → x_E} {g : Nat → Int32} {q : Nat → Int64} {c : Nat → Nat → Int32} {l : Nat → Nat → Int64} {R : Option Value × List x_E} (hz0 : ¬ (x1 < 0 ∨ 4000 ≤ (x1).toNatClampNeg)) (h : rr b e d 391 45 [] [.int (c 81 (x1).toNatClampNeg)] g q c l R) : rr b e d 391 35 [(0, .ref 49), (1, .int x1)] [] g q c l R := by
  obtain ⟨f, h⟩ := h
  refine ⟨f + 5, ?_⟩
  obtain ⟨y, cb, hj⟩ := mq_391
  rw [n_step (st' := [.ref 49]) (pc' := 36) (lv' := [(0, .ref 49), (1, .int x1)]) (hp' := rH e g q c l) (i := .aload_n 0) (len := 1) rfl hj rfl rfl rfl]
  rw [n_get (st' := [.ref 81]) (pc' := 39) (lv' := [(0, .ref 49), (1, .int x1)]) (hp' := rH e g q c l) (i := .getfield 113) (len := 3) rfl hj rfl rfl rfl rfl]
  rw [n_step (st' := [.int x1, .ref 81]) (pc' := 40) (lv' := [(0, .ref 49), (1, .int x1)]) (hp' := rH e g q c l) (i := .iload_n 1) (len := 1) rfl hj rfl rfl rfl]
  rw [n_ial (st' := [.int (c 81 (x1).toNatClampNeg)]) rfl hj (ald_81 hz0)]
  rw [n_step (st' := [.int (c 81 (x1).toNatClampNeg)]) (pc' := 45) (lv' := [(0, .ref 49), (1, .int x1)]) (hp' := rH e g q c l) (i := .goto 4) (len := 3) rfl hj rfl rfl rfl]
  exact nrun_ext f f _ _ R 391 45 [] [(0, .ref 49), (1, .int x1)] [.int (c 81 (x1).toNatClampNeg)] _ 0 0 122 (Nat.le_refl _) (Nat.le_refl _) (Nat.le_of_ble_eq_true rfl) (lvR_mk [] [0, 1] rfl rfl (by decide) (by decide) (fun _ h => nomatch h) (List.forall_mem_cons.mpr ⟨Or.inr rfl, (List.forall_mem_cons.mpr ⟨Or.inr rfl, (fun _ h => nomatch h)⟩)⟩)) h
set_option maxRecDepth 100000 in
set_option maxHeartbeats 4000000 in
theorem bk_391_44 {b : Bool} {d : Nat} {e : Nat → x_E} {g : Nat → Int32} {q : Nat → Int64} {c : Nat → Nat → Int32} {l : Nat → Nat → Int64} {R : Option Value × List x_E} (h : rr b e d 391 45 [] [.int (Int32.ofInt (-1))] g q c l R) : rr b e d 391 44 [] [] g q c l R := by
  obtain ⟨f, h⟩ := h
  refine ⟨f + 1, ?_⟩
  obtain ⟨y, cb, hj⟩ := mq_391
  rw [n_step (st' := [.int (Int32.ofInt (-1))]) (pc' := 45) (lv' := []) (hp' := rH e g q c l) (i := .iconst (-1)) (len := 1) rfl hj rfl rfl rfl]
  exact h
set_option maxRecDepth 100000 in
set_option maxHeartbeats 4000000 in
theorem bk_391_45 {b : Bool} {d : Nat} {t0 : Int32} {e : Nat → x_E} {g : Nat → Int32} {q : Nat → Int64} {c : Nat → Nat → Int32} {l : Nat → Nat → Int64} : rr b e d 391 45 [] [.int t0] g q c l (some (.int t0), rH e g q c l) := by
  refine ⟨0 + 1, ?_⟩
  obtain ⟨y, cb, hj⟩ := mq_391
  exact n_ret rfl hj rfl rfl (x_ret rfl)
set_option maxRecDepth 100000 in
set_option maxHeartbeats 4000000 in
theorem bk_398_0 {b : Bool} {d : Nat} {x1 : Int32} {e : Nat → x_E} {g : Nat → Int32} {q : Nat → Int64} {c : Nat → Nat → Int32} {l : Nat → Nat → Int64} {R : Option Value × List x_E} (h1 : xCn .lt x1 0 = true → rr b e d 398 12 [] [] g q c l R) (h2 : ¬ xCn .lt x1 0 = true → rr b e d 398 4 [(0, .ref 49), (1, .int x1)] [] g q c l R) : rr b e d 398 0 [(0, .ref 49), (1, .int x1)] [] g q c l R := by
  have key : ∀ f, nrun xZ (xY (xfm b)) xDT (f + 2) d 398 0 [(0, .ref 49), (1, .int x1)] [] (rH e g q c l) 0 0 = nrun xZ (xY (xfm b)) xDT f d 398 (if xCn .lt x1 0 = true then 12 else 4) [(0, .ref 49), (1, .int x1)] [] (rH e g q c l) 0 0 := by
    intro f
    obtain ⟨y, cb, hj⟩ := mq_398
    rw [n_step (st' := [.int x1]) (pc' := 1) (lv' := [(0, .ref 49), (1, .int x1)]) (hp' := rH e g q c l) (i := .iload_n 1) (len := 1) rfl hj rfl rfl rfl]
    rw [n_step (st' := []) (pc' := (if xCn .lt x1 0 = true then 12 else 4)) (lv' := [(0, .ref 49), (1, .int x1)]) (hp' := rH e g q c l) (i := .ifCond .lt 11) (len := 3) rfl hj rfl rfl rfl]
  by_cases hc : xCn .lt x1 0 = true
  · obtain ⟨f, h⟩ := h1 hc
    refine ⟨f + 2, ?_⟩
    rw [key, if_pos hc]
    exact nrun_ext f f _ _ R 398 12 [] [(0, .ref 49), (1, .int x1)] [] _ 0 0 122 (Nat.le_refl _) (Nat.le_refl _) (Nat.le_of_ble_eq_true rfl) (lvR_mk [] [0, 1] rfl rfl (by decide) (by decide) (fun _ h => nomatch h) (List.forall_mem_cons.mpr ⟨Or.inr rfl, (List.forall_mem_cons.mpr ⟨Or.inr rfl, (fun _ h => nomatch h)⟩)⟩)) h
  · obtain ⟨f, h⟩ := h2 hc
    refine ⟨f + 2, ?_⟩
    rw [key, if_neg hc]
    exact h
set_option maxRecDepth 100000 in
set_option maxHeartbeats 4000000 in
theorem bk_398_4 {b : Bool} {d : Nat} {x1 : Int32} {e : Nat → x_E} {g : Nat → Int32} {q : Nat → Int64} {c : Nat → Nat → Int32} {l : Nat → Nat → Int64} {R : Option Value × List x_E} (h1 : xCn .le x1 ((g 1)) = true → rr b e d 398 14 [(0, .ref 49), (1, .int x1)] [] g q c l R) (h2 : ¬ xCn .le x1 ((g 1)) = true → rr b e d 398 12 [] [] g q c l R) : rr b e d 398 4 [(0, .ref 49), (1, .int x1)] [] g q c l R := by
  have key : ∀ f, nrun xZ (xY (xfm b)) xDT (f + 4) d 398 4 [(0, .ref 49), (1, .int x1)] [] (rH e g q c l) 0 0 = nrun xZ (xY (xfm b)) xDT f d 398 (if xCn .le x1 ((g 1)) = true then 14 else 12) [(0, .ref 49), (1, .int x1)] [] (rH e g q c l) 0 0 := by
    intro f
    obtain ⟨y, cb, hj⟩ := mq_398
    rw [n_step (st' := [.int x1]) (pc' := 5) (lv' := [(0, .ref 49), (1, .int x1)]) (hp' := rH e g q c l) (i := .iload_n 1) (len := 1) rfl hj rfl rfl rfl]
    rw [n_step (st' := [.ref 49, .int x1]) (pc' := 6) (lv' := [(0, .ref 49), (1, .int x1)]) (hp' := rH e g q c l) (i := .aload_n 0) (len := 1) rfl hj rfl rfl rfl]
    rw [n_get (st' := [.int (g 1), .int x1]) (pc' := 9) (lv' := [(0, .ref 49), (1, .int x1)]) (hp' := rH e g q c l) (i := .getfield 237) (len := 3) rfl hj rfl rfl rfl rfl]
    rw [n_step (st' := []) (pc' := (if xCn .le x1 ((g 1)) = true then 14 else 12)) (lv' := [(0, .ref 49), (1, .int x1)]) (hp' := rH e g q c l) (i := .if_icmp .le 5) (len := 3) rfl hj rfl rfl rfl]
  by_cases hc : xCn .le x1 ((g 1)) = true
  · obtain ⟨f, h⟩ := h1 hc
    refine ⟨f + 4, ?_⟩
    rw [key, if_pos hc]
    exact h
  · obtain ⟨f, h⟩ := h2 hc
    refine ⟨f + 4, ?_⟩
    rw [key, if_neg hc]
    exact nrun_ext f f _ _ R 398 12 [] [(0, .ref 49), (1, .int x1)] [] _ 0 0 122 (Nat.le_refl _) (Nat.le_refl _) (Nat.le_of_ble_eq_true rfl) (lvR_mk [] [0, 1] rfl rfl (by decide) (by decide) (fun _ h => nomatch h) (List.forall_mem_cons.mpr ⟨Or.inr rfl, (List.forall_mem_cons.mpr ⟨Or.inr rfl, (fun _ h => nomatch h)⟩)⟩)) h
set_option maxRecDepth 100000 in
set_option maxHeartbeats 4000000 in
theorem bk_398_12 {b : Bool} {d : Nat} {e : Nat → x_E} {g : Nat → Int32} {q : Nat → Int64} {c : Nat → Nat → Int32} {l : Nat → Nat → Int64} : rr b e d 398 12 [] [] g q c l (some (.int (Int32.ofInt (-1))), rH e g q c l) := by
  refine ⟨0 + 2, ?_⟩
  obtain ⟨y, cb, hj⟩ := mq_398
  rw [n_step (st' := [.int (Int32.ofInt (-1))]) (pc' := 13) (lv' := []) (hp' := rH e g q c l) (i := .iconst (-1)) (len := 1) rfl hj rfl rfl rfl]
  exact n_ret rfl hj rfl rfl (x_ret rfl)
set_option maxRecDepth 100000 in
set_option maxHeartbeats 4000000 in
theorem bk_398_14 {b : Bool} {d : Nat} {x1 : Int32} {e : Nat → x_E} {g : Nat → Int32} {q : Nat → Int64} {c : Nat → Nat → Int32} {l : Nat → Nat → Int64} {g' : Nat → Int32} {q' : Nat → Int64} {c' : Nat → Nat → Int32} {l' : Nat → Nat → Int64} {R : Option Value × List x_E} (hc : rr b e d 318 0 [(0, .ref 49), (1, .int (Int32.ofInt (1))), (2, .int x1)] [] (upd g 1 ((Int32.ofInt (0)))) q c l (none, rH e g' q' c' l')) (h : rr b e (d + 1) 398 25 [(0, .ref 49)] [] g' q' c' l' R) : rr b e (d + 1) 398 14 [(0, .ref 49), (1, .int x1)] [] g q c l R := by
  obtain ⟨f1, hc⟩ := hc
  obtain ⟨f2, h⟩ := h
  obtain ⟨f, hf1, hf2⟩ : ∃ f, f1 ≤ f ∧ f2 ≤ f := ⟨max f1 f2, Nat.le_max_left _ _, Nat.le_max_right _ _⟩
  have hc := nrun_fuel f1 f _ _ _ _ _ _ _ _ _ hf1 hc
  have h := nrun_fuel f2 f _ _ _ _ _ _ _ _ _ hf2 h
  refine ⟨f + 7, ?_⟩
  obtain ⟨y, cb, hj⟩ := mq_398
  rw [n_step (st' := [.ref 49]) (pc' := 15) (lv' := [(0, .ref 49), (1, .int x1)]) (hp' := rH e g q c l) (i := .aload_n 0) (len := 1) rfl hj rfl rfl rfl]
  rw [n_step (st' := [.int (Int32.ofInt (0)), .ref 49]) (pc' := 16) (lv' := [(0, .ref 49), (1, .int x1)]) (hp' := rH e g q c l) (i := .iconst 0) (len := 1) rfl hj rfl rfl rfl]
  rw [n_put (st' := []) (hp' := rH e (upd g 1 ((Int32.ofInt (0)))) q c l) rfl hj pf_1]
  rw [n_step (st' := [.ref 49]) (pc' := 20) (lv' := [(0, .ref 49), (1, .int x1)]) (hp' := rH e (upd g 1 ((Int32.ofInt (0)))) q c l) (i := .aload_n 0) (len := 1) rfl hj rfl rfl rfl]
  rw [n_step (st' := [.int (Int32.ofInt (1)), .ref 49]) (pc' := 21) (lv' := [(0, .ref 49), (1, .int x1)]) (hp' := rH e (upd g 1 ((Int32.ofInt (0)))) q c l) (i := .iconst 1) (len := 1) rfl hj rfl rfl rfl]
  rw [n_step (st' := [.int x1, .int (Int32.ofInt (1)), .ref 49]) (pc' := 22) (lv' := [(0, .ref 49), (1, .int x1)]) (hp' := rH e (upd g 1 ((Int32.ofInt (0)))) q c l) (i := .iload_n 1) (len := 1) rfl hj rfl rfl rfl]
  obtain ⟨y2, cb2, hj2⟩ := mq_318
  rw [n_call (f := f) (d := d) (ki := 0) (idx := 571) (j' := 318) (kd := 0) (M' := (y2, cb2, 4, none, 12, 2, 0, 0)) (avs := [.ref 49, .int (Int32.ofInt (1)), .int x1]) (r := []) (rv := none) (hp1 := rH e g' q' c' l') rfl hj rfl rfl rfl rfl (rq_n rfl rfl hj2 rfl rfl) rfl hc (Nat.le_of_ble_eq_true rfl)]
  exact nrun_ext f f _ _ R 398 25 [(0, .ref 49)] [(0, .ref 49), (1, .int x1)] [] _ 0 0 122 (Nat.le_refl _) (Nat.le_refl _) (Nat.le_of_ble_eq_true rfl) (lvR_mk [0] [0, 1] rfl rfl (by decide) (by decide) (List.forall_mem_cons.mpr ⟨List.mem_cons_self, (fun _ h => nomatch h)⟩) (List.forall_mem_cons.mpr ⟨Or.inl List.mem_cons_self, (List.forall_mem_cons.mpr ⟨Or.inr rfl, (fun _ h => nomatch h)⟩)⟩)) h
set_option maxRecDepth 100000 in
set_option maxHeartbeats 4000000 in
theorem bk_398_25 {b : Bool} {d : Nat} {e : Nat → x_E} {g : Nat → Int32} {q : Nat → Int64} {c : Nat → Nat → Int32} {l : Nat → Nat → Int64} {g' : Nat → Int32} {q' : Nat → Int64} {c' : Nat → Nat → Int32} {l' : Nat → Nat → Int64} {R : Option Value × List x_E} (hc : rr b e d 319 0 [(0, .ref 49)] [] (upd g 5 ((Int32.ofInt (0)))) q c l (none, rH e g' q' c' l')) (h : rr b e (d + 1) 398 34 [(0, .ref 49)] [] g' q' c' l' R) : rr b e (d + 1) 398 25 [(0, .ref 49)] [] g q c l R := by
  obtain ⟨f1, hc⟩ := hc
  obtain ⟨f2, h⟩ := h
  obtain ⟨f, hf1, hf2⟩ : ∃ f, f1 ≤ f ∧ f2 ≤ f := ⟨max f1 f2, Nat.le_max_left _ _, Nat.le_max_right _ _⟩
  have hc := nrun_fuel f1 f _ _ _ _ _ _ _ _ _ hf1 hc
  have h := nrun_fuel f2 f _ _ _ _ _ _ _ _ _ hf2 h
  refine ⟨f + 5, ?_⟩
  obtain ⟨y, cb, hj⟩ := mq_398
  rw [n_step (st' := [.ref 49]) (pc' := 26) (lv' := [(0, .ref 49)]) (hp' := rH e g q c l) (i := .aload_n 0) (len := 1) rfl hj rfl rfl rfl]
  rw [n_step (st' := [.int (Int32.ofInt (0)), .ref 49]) (pc' := 27) (lv' := [(0, .ref 49)]) (hp' := rH e g q c l) (i := .iconst 0) (len := 1) rfl hj rfl rfl rfl]
  rw [n_put (st' := []) (hp' := rH e (upd g 5 ((Int32.ofInt (0)))) q c l) rfl hj pf_5]
  rw [n_step (st' := [.ref 49]) (pc' := 31) (lv' := [(0, .ref 49)]) (hp' := rH e (upd g 5 ((Int32.ofInt (0)))) q c l) (i := .aload_n 0) (len := 1) rfl hj rfl rfl rfl]
  obtain ⟨y2, cb2, hj2⟩ := mq_319
  rw [n_call (f := f) (d := d) (ki := 0) (idx := 578) (j' := 319) (kd := 0) (M' := (y2, cb2, 1, none, 12, 0, 0, 0)) (avs := [.ref 49]) (r := []) (rv := none) (hp1 := rH e g' q' c' l') rfl hj rfl rfl rfl rfl (rq_n rfl rfl hj2 rfl rfl) rfl hc (Nat.le_of_ble_eq_true rfl)]
  exact h
set_option maxRecDepth 100000 in
set_option maxHeartbeats 4000000 in
theorem bk_398_34 {b : Bool} {d : Nat} {e : Nat → x_E} {g : Nat → Int32} {q : Nat → Int64} {c : Nat → Nat → Int32} {l : Nat → Nat → Int64} {g' : Nat → Int32} {q' : Nat → Int64} {c' : Nat → Nat → Int32} {l' : Nat → Nat → Int64} {v : Int32} {R : Option Value × List x_E} (hz0 : ((Int32.ofInt (0))) = 0 ∨ ((Int32.ofInt (0))) = 1) (hz1 : ((Int32.ofInt (0))) = 0 ∨ ((Int32.ofInt (0))) = 1) (hc : rr b e d 399 0 [(0, .ref 49), (1, .int (Int32.ofInt (0))), (2, .int (Int32.ofInt (0))), (3, .int (Int32.ofInt (0))), (4, .int (Int32.ofInt (0)))] [] (upd (upd (upd (upd (upd g 23 ((Int32.ofInt (0)))) 134 ((Int32.ofInt (0)))) 85 ((Int32.ofInt (0)))) 92 ((Int32.ofInt (0)))) 94 ((Int32.ofInt (0)))) q c l (some (.int v), rH e g' q' c' l')) (h : rr b e (d + 1) 398 68 [(0, .ref 49)] [.int v, .ref 49] g' q' c' l' R) : rr b e (d + 1) 398 34 [(0, .ref 49)] [] g q c l R := by
  obtain ⟨f1, hc⟩ := hc
  obtain ⟨f2, h⟩ := h
  obtain ⟨f, hf1, hf2⟩ : ∃ f, f1 ≤ f ∧ f2 ≤ f := ⟨max f1 f2, Nat.le_max_left _ _, Nat.le_max_right _ _⟩
  have hc := nrun_fuel f1 f _ _ _ _ _ _ _ _ _ hf1 hc
  have h := nrun_fuel f2 f _ _ _ _ _ _ _ _ _ hf2 h
  refine ⟨f + 22, ?_⟩
  obtain ⟨y, cb, hj⟩ := mq_398
  rw [n_step (st' := [.ref 49]) (pc' := 35) (lv' := [(0, .ref 49)]) (hp' := rH e g q c l) (i := .aload_n 0) (len := 1) rfl hj rfl rfl rfl]
  rw [n_step (st' := [.int (Int32.ofInt (0)), .ref 49]) (pc' := 36) (lv' := [(0, .ref 49)]) (hp' := rH e g q c l) (i := .iconst 0) (len := 1) rfl hj rfl rfl rfl]
  rw [n_put (st' := []) (hp' := rH e (upd g 23 ((Int32.ofInt (0)))) q c l) rfl hj (pf_23 hz0)]
  rw [n_step (st' := [.ref 49]) (pc' := 40) (lv' := [(0, .ref 49)]) (hp' := rH e (upd g 23 ((Int32.ofInt (0)))) q c l) (i := .aload_n 0) (len := 1) rfl hj rfl rfl rfl]
  rw [n_step (st' := [.int (Int32.ofInt (0)), .ref 49]) (pc' := 41) (lv' := [(0, .ref 49)]) (hp' := rH e (upd g 23 ((Int32.ofInt (0)))) q c l) (i := .iconst 0) (len := 1) rfl hj rfl rfl rfl]
  rw [n_put (st' := []) (hp' := rH e (upd (upd g 23 ((Int32.ofInt (0)))) 134 ((Int32.ofInt (0)))) q c l) rfl hj (pf_134 hz1)]
  rw [n_step (st' := [.ref 49]) (pc' := 45) (lv' := [(0, .ref 49)]) (hp' := rH e (upd (upd g 23 ((Int32.ofInt (0)))) 134 ((Int32.ofInt (0)))) q c l) (i := .aload_n 0) (len := 1) rfl hj rfl rfl rfl]
  rw [n_step (st' := [.int (Int32.ofInt (0)), .ref 49]) (pc' := 46) (lv' := [(0, .ref 49)]) (hp' := rH e (upd (upd g 23 ((Int32.ofInt (0)))) 134 ((Int32.ofInt (0)))) q c l) (i := .iconst 0) (len := 1) rfl hj rfl rfl rfl]
  rw [n_put (st' := []) (hp' := rH e (upd (upd (upd g 23 ((Int32.ofInt (0)))) 134 ((Int32.ofInt (0)))) 85 ((Int32.ofInt (0)))) q c l) rfl hj pf_85]
  rw [n_step (st' := [.ref 49]) (pc' := 50) (lv' := [(0, .ref 49)]) (hp' := rH e (upd (upd (upd g 23 ((Int32.ofInt (0)))) 134 ((Int32.ofInt (0)))) 85 ((Int32.ofInt (0)))) q c l) (i := .aload_n 0) (len := 1) rfl hj rfl rfl rfl]
  rw [n_step (st' := [.int (Int32.ofInt (0)), .ref 49]) (pc' := 51) (lv' := [(0, .ref 49)]) (hp' := rH e (upd (upd (upd g 23 ((Int32.ofInt (0)))) 134 ((Int32.ofInt (0)))) 85 ((Int32.ofInt (0)))) q c l) (i := .iconst 0) (len := 1) rfl hj rfl rfl rfl]
  rw [n_put (st' := []) (hp' := rH e (upd (upd (upd (upd g 23 ((Int32.ofInt (0)))) 134 ((Int32.ofInt (0)))) 85 ((Int32.ofInt (0)))) 92 ((Int32.ofInt (0)))) q c l) rfl hj pf_92]
  rw [n_step (st' := [.ref 49]) (pc' := 55) (lv' := [(0, .ref 49)]) (hp' := rH e (upd (upd (upd (upd g 23 ((Int32.ofInt (0)))) 134 ((Int32.ofInt (0)))) 85 ((Int32.ofInt (0)))) 92 ((Int32.ofInt (0)))) q c l) (i := .aload_n 0) (len := 1) rfl hj rfl rfl rfl]
  rw [n_step (st' := [.int (Int32.ofInt (0)), .ref 49]) (pc' := 56) (lv' := [(0, .ref 49)]) (hp' := rH e (upd (upd (upd (upd g 23 ((Int32.ofInt (0)))) 134 ((Int32.ofInt (0)))) 85 ((Int32.ofInt (0)))) 92 ((Int32.ofInt (0)))) q c l) (i := .iconst 0) (len := 1) rfl hj rfl rfl rfl]
  rw [n_put (st' := []) (hp' := rH e (upd (upd (upd (upd (upd g 23 ((Int32.ofInt (0)))) 134 ((Int32.ofInt (0)))) 85 ((Int32.ofInt (0)))) 92 ((Int32.ofInt (0)))) 94 ((Int32.ofInt (0)))) q c l) rfl hj pf_94]
  rw [n_step (st' := [.ref 49]) (pc' := 60) (lv' := [(0, .ref 49)]) (hp' := rH e (upd (upd (upd (upd (upd g 23 ((Int32.ofInt (0)))) 134 ((Int32.ofInt (0)))) 85 ((Int32.ofInt (0)))) 92 ((Int32.ofInt (0)))) 94 ((Int32.ofInt (0)))) q c l) (i := .aload_n 0) (len := 1) rfl hj rfl rfl rfl]
  rw [n_step (st' := [.ref 49, .ref 49]) (pc' := 61) (lv' := [(0, .ref 49)]) (hp' := rH e (upd (upd (upd (upd (upd g 23 ((Int32.ofInt (0)))) 134 ((Int32.ofInt (0)))) 85 ((Int32.ofInt (0)))) 92 ((Int32.ofInt (0)))) 94 ((Int32.ofInt (0)))) q c l) (i := .aload_n 0) (len := 1) rfl hj rfl rfl rfl]
  rw [n_step (st' := [.int (Int32.ofInt (0)), .ref 49, .ref 49]) (pc' := 62) (lv' := [(0, .ref 49)]) (hp' := rH e (upd (upd (upd (upd (upd g 23 ((Int32.ofInt (0)))) 134 ((Int32.ofInt (0)))) 85 ((Int32.ofInt (0)))) 92 ((Int32.ofInt (0)))) 94 ((Int32.ofInt (0)))) q c l) (i := .iconst 0) (len := 1) rfl hj rfl rfl rfl]
  rw [n_step (st' := [.int (Int32.ofInt (0)), .int (Int32.ofInt (0)), .ref 49, .ref 49]) (pc' := 63) (lv' := [(0, .ref 49)]) (hp' := rH e (upd (upd (upd (upd (upd g 23 ((Int32.ofInt (0)))) 134 ((Int32.ofInt (0)))) 85 ((Int32.ofInt (0)))) 92 ((Int32.ofInt (0)))) 94 ((Int32.ofInt (0)))) q c l) (i := .iconst 0) (len := 1) rfl hj rfl rfl rfl]
  rw [n_step (st' := [.int (Int32.ofInt (0)), .int (Int32.ofInt (0)), .int (Int32.ofInt (0)), .ref 49, .ref 49]) (pc' := 64) (lv' := [(0, .ref 49)]) (hp' := rH e (upd (upd (upd (upd (upd g 23 ((Int32.ofInt (0)))) 134 ((Int32.ofInt (0)))) 85 ((Int32.ofInt (0)))) 92 ((Int32.ofInt (0)))) 94 ((Int32.ofInt (0)))) q c l) (i := .iconst 0) (len := 1) rfl hj rfl rfl rfl]
  rw [n_step (st' := [.int (Int32.ofInt (0)), .int (Int32.ofInt (0)), .int (Int32.ofInt (0)), .int (Int32.ofInt (0)), .ref 49, .ref 49]) (pc' := 65) (lv' := [(0, .ref 49)]) (hp' := rH e (upd (upd (upd (upd (upd g 23 ((Int32.ofInt (0)))) 134 ((Int32.ofInt (0)))) 85 ((Int32.ofInt (0)))) 92 ((Int32.ofInt (0)))) 94 ((Int32.ofInt (0)))) q c l) (i := .iconst 0) (len := 1) rfl hj rfl rfl rfl]
  obtain ⟨y2, cb2, hj2⟩ := mq_399
  rw [n_call (f := f) (d := d) (ki := 0) (idx := 712) (j' := 399) (kd := 0) (M' := (y2, cb2, 5, some .int, 12, 4, 0, 0)) (avs := [.ref 49, .int (Int32.ofInt (0)), .int (Int32.ofInt (0)), .int (Int32.ofInt (0)), .int (Int32.ofInt (0))]) (r := [.ref 49]) (rv := some (.int v)) (hp1 := rH e g' q' c' l') rfl hj rfl rfl rfl rfl (rq_n rfl rfl hj2 rfl rfl) rfl hc (Nat.le_of_ble_eq_true rfl)]
  exact h
set_option maxRecDepth 100000 in
set_option maxHeartbeats 4000000 in
theorem bk_398_68 {b : Bool} {d : Nat} {t0 : Int32} {e : Nat → x_E} {g : Nat → Int32} {q : Nat → Int64} {c : Nat → Nat → Int32} {l : Nat → Nat → Int64} {g' : Nat → Int32} {q' : Nat → Int64} {c' : Nat → Nat → Int32} {l' : Nat → Nat → Int64} {R : Option Value × List x_E} (hc : rr b e d 400 0 [(0, .ref 49)] [] (upd g 95 t0) q c l (none, rH e g' q' c' l')) (h : rr b e (d + 1) 398 75 [(0, .ref 49)] [] g' q' c' l' R) : rr b e (d + 1) 398 68 [(0, .ref 49)] [.int t0, .ref 49] g q c l R := by
  obtain ⟨f1, hc⟩ := hc
  obtain ⟨f2, h⟩ := h
  obtain ⟨f, hf1, hf2⟩ : ∃ f, f1 ≤ f ∧ f2 ≤ f := ⟨max f1 f2, Nat.le_max_left _ _, Nat.le_max_right _ _⟩
  have hc := nrun_fuel f1 f _ _ _ _ _ _ _ _ _ hf1 hc
  have h := nrun_fuel f2 f _ _ _ _ _ _ _ _ _ hf2 h
  refine ⟨f + 3, ?_⟩
  obtain ⟨y, cb, hj⟩ := mq_398
  rw [n_put (st' := []) (hp' := rH e (upd g 95 t0) q c l) rfl hj pf_95]
  rw [n_step (st' := [.ref 49]) (pc' := 72) (lv' := [(0, .ref 49)]) (hp' := rH e (upd g 95 t0) q c l) (i := .aload_n 0) (len := 1) rfl hj rfl rfl rfl]
  obtain ⟨y2, cb2, hj2⟩ := mq_400
  rw [n_call (f := f) (d := d) (ki := 0) (idx := 757) (j' := 400) (kd := 0) (M' := (y2, cb2, 2, none, 12, 0, 0, 0)) (avs := [.ref 49]) (r := []) (rv := none) (hp1 := rH e g' q' c' l') rfl hj rfl rfl rfl rfl (rq_n rfl rfl hj2 rfl rfl) rfl hc (Nat.le_of_ble_eq_true rfl)]
  exact h
set_option maxRecDepth 100000 in
set_option maxHeartbeats 4000000 in
theorem bk_398_75 {b : Bool} {d : Nat} {e : Nat → x_E} {g : Nat → Int32} {q : Nat → Int64} {c : Nat → Nat → Int32} {l : Nat → Nat → Int64} {R : Option Value × List x_E} (h1 : xCn .ne ((g 19)) 0 = true → rr b e d 398 105 [(0, .ref 49)] [] g q c l R) (h2 : ¬ xCn .ne ((g 19)) 0 = true → rr b e d 398 82 [(0, .ref 49)] [] g q c l R) : rr b e d 398 75 [(0, .ref 49)] [] g q c l R := by
  have key : ∀ f, nrun xZ (xY (xfm b)) xDT (f + 3) d 398 75 [(0, .ref 49)] [] (rH e g q c l) 0 0 = nrun xZ (xY (xfm b)) xDT f d 398 (if xCn .ne ((g 19)) 0 = true then 105 else 82) [(0, .ref 49)] [] (rH e g q c l) 0 0 := by
    intro f
    obtain ⟨y, cb, hj⟩ := mq_398
    rw [n_step (st' := [.ref 49]) (pc' := 76) (lv' := [(0, .ref 49)]) (hp' := rH e g q c l) (i := .aload_n 0) (len := 1) rfl hj rfl rfl rfl]
    rw [n_get (st' := [.int (g 19)]) (pc' := 79) (lv' := [(0, .ref 49)]) (hp' := rH e g q c l) (i := .getfield 319) (len := 3) rfl hj rfl rfl rfl rfl]
    rw [n_step (st' := []) (pc' := (if xCn .ne ((g 19)) 0 = true then 105 else 82)) (lv' := [(0, .ref 49)]) (hp' := rH e g q c l) (i := .ifCond .ne 26) (len := 3) rfl hj rfl rfl rfl]
  by_cases hc : xCn .ne ((g 19)) 0 = true
  · obtain ⟨f, h⟩ := h1 hc
    refine ⟨f + 3, ?_⟩
    rw [key, if_pos hc]
    exact h
  · obtain ⟨f, h⟩ := h2 hc
    refine ⟨f + 3, ?_⟩
    rw [key, if_neg hc]
    exact h
set_option maxRecDepth 100000 in
set_option maxHeartbeats 4000000 in
theorem bk_398_82 {b : Bool} {d : Nat} {e : Nat → x_E} {g : Nat → Int32} {q : Nat → Int64} {c : Nat → Nat → Int32} {l : Nat → Nat → Int64} {g' : Nat → Int32} {q' : Nat → Int64} {c' : Nat → Nat → Int32} {l' : Nat → Nat → Int64} {R : Option Value × List x_E} (hz0 : ((Int32.ofInt (1))) = 0 ∨ ((Int32.ofInt (1))) = 1) (hc : rr b e d 400 0 [(0, .ref 49)] [] (upd g 23 ((Int32.ofInt (1)))) q c l (none, rH e g' q' c' l')) (h : rr b e (d + 1) 398 91 [(0, .ref 49)] [] g' q' c' l' R) : rr b e (d + 1) 398 82 [(0, .ref 49)] [] g q c l R := by
  obtain ⟨f1, hc⟩ := hc
  obtain ⟨f2, h⟩ := h
  obtain ⟨f, hf1, hf2⟩ : ∃ f, f1 ≤ f ∧ f2 ≤ f := ⟨max f1 f2, Nat.le_max_left _ _, Nat.le_max_right _ _⟩
  have hc := nrun_fuel f1 f _ _ _ _ _ _ _ _ _ hf1 hc
  have h := nrun_fuel f2 f _ _ _ _ _ _ _ _ _ hf2 h
  refine ⟨f + 5, ?_⟩
  obtain ⟨y, cb, hj⟩ := mq_398
  rw [n_step (st' := [.ref 49]) (pc' := 83) (lv' := [(0, .ref 49)]) (hp' := rH e g q c l) (i := .aload_n 0) (len := 1) rfl hj rfl rfl rfl]
  rw [n_step (st' := [.int (Int32.ofInt (1)), .ref 49]) (pc' := 84) (lv' := [(0, .ref 49)]) (hp' := rH e g q c l) (i := .iconst 1) (len := 1) rfl hj rfl rfl rfl]
  rw [n_put (st' := []) (hp' := rH e (upd g 23 ((Int32.ofInt (1)))) q c l) rfl hj (pf_23 hz0)]
  rw [n_step (st' := [.ref 49]) (pc' := 88) (lv' := [(0, .ref 49)]) (hp' := rH e (upd g 23 ((Int32.ofInt (1)))) q c l) (i := .aload_n 0) (len := 1) rfl hj rfl rfl rfl]
  obtain ⟨y2, cb2, hj2⟩ := mq_400
  rw [n_call (f := f) (d := d) (ki := 0) (idx := 757) (j' := 400) (kd := 0) (M' := (y2, cb2, 2, none, 12, 0, 0, 0)) (avs := [.ref 49]) (r := []) (rv := none) (hp1 := rH e g' q' c' l') rfl hj rfl rfl rfl rfl (rq_n rfl rfl hj2 rfl rfl) rfl hc (Nat.le_of_ble_eq_true rfl)]
  exact h
set_option maxRecDepth 100000 in
set_option maxHeartbeats 4000000 in
theorem bk_398_91 {b : Bool} {d : Nat} {e : Nat → x_E} {g : Nat → Int32} {q : Nat → Int64} {c : Nat → Nat → Int32} {l : Nat → Nat → Int64} {g' : Nat → Int32} {q' : Nat → Int64} {c' : Nat → Nat → Int32} {l' : Nat → Nat → Int64} {R : Option Value × List x_E} (hz0 : ((Int32.ofInt (1))) = 0 ∨ ((Int32.ofInt (1))) = 1) (hc : rr b e d 400 0 [(0, .ref 49)] [] (upd (upd g 21 ((Int32.ofInt (0)))) 134 ((Int32.ofInt (1)))) q c l (none, rH e g' q' c' l')) (h : rr b e (d + 1) 398 105 [(0, .ref 49)] [] g' q' c' l' R) : rr b e (d + 1) 398 91 [(0, .ref 49)] [] g q c l R := by
  obtain ⟨f1, hc⟩ := hc
  obtain ⟨f2, h⟩ := h
  obtain ⟨f, hf1, hf2⟩ : ∃ f, f1 ≤ f ∧ f2 ≤ f := ⟨max f1 f2, Nat.le_max_left _ _, Nat.le_max_right _ _⟩
  have hc := nrun_fuel f1 f _ _ _ _ _ _ _ _ _ hf1 hc
  have h := nrun_fuel f2 f _ _ _ _ _ _ _ _ _ hf2 h
  refine ⟨f + 8, ?_⟩
  obtain ⟨y, cb, hj⟩ := mq_398
  rw [n_step (st' := [.ref 49]) (pc' := 92) (lv' := [(0, .ref 49)]) (hp' := rH e g q c l) (i := .aload_n 0) (len := 1) rfl hj rfl rfl rfl]
  rw [n_step (st' := [.int (Int32.ofInt (0)), .ref 49]) (pc' := 93) (lv' := [(0, .ref 49)]) (hp' := rH e g q c l) (i := .iconst 0) (len := 1) rfl hj rfl rfl rfl]
  rw [n_put (st' := []) (hp' := rH e (upd g 21 ((Int32.ofInt (0)))) q c l) rfl hj pf_21]
  rw [n_step (st' := [.ref 49]) (pc' := 97) (lv' := [(0, .ref 49)]) (hp' := rH e (upd g 21 ((Int32.ofInt (0)))) q c l) (i := .aload_n 0) (len := 1) rfl hj rfl rfl rfl]
  rw [n_step (st' := [.int (Int32.ofInt (1)), .ref 49]) (pc' := 98) (lv' := [(0, .ref 49)]) (hp' := rH e (upd g 21 ((Int32.ofInt (0)))) q c l) (i := .iconst 1) (len := 1) rfl hj rfl rfl rfl]
  rw [n_put (st' := []) (hp' := rH e (upd (upd g 21 ((Int32.ofInt (0)))) 134 ((Int32.ofInt (1)))) q c l) rfl hj (pf_134 hz0)]
  rw [n_step (st' := [.ref 49]) (pc' := 102) (lv' := [(0, .ref 49)]) (hp' := rH e (upd (upd g 21 ((Int32.ofInt (0)))) 134 ((Int32.ofInt (1)))) q c l) (i := .aload_n 0) (len := 1) rfl hj rfl rfl rfl]
  obtain ⟨y2, cb2, hj2⟩ := mq_400
  rw [n_call (f := f) (d := d) (ki := 0) (idx := 757) (j' := 400) (kd := 0) (M' := (y2, cb2, 2, none, 12, 0, 0, 0)) (avs := [.ref 49]) (r := []) (rv := none) (hp1 := rH e g' q' c' l') rfl hj rfl rfl rfl rfl (rq_n rfl rfl hj2 rfl rfl) rfl hc (Nat.le_of_ble_eq_true rfl)]
  exact h
set_option maxRecDepth 100000 in
set_option maxHeartbeats 4000000 in
theorem bk_398_105 {b : Bool} {d : Nat} {e : Nat → x_E} {g : Nat → Int32} {q : Nat → Int64} {c : Nat → Nat → Int32} {l : Nat → Nat → Int64} {g' : Nat → Int32} {q' : Nat → Int64} {c' : Nat → Nat → Int32} {l' : Nat → Nat → Int64} {v : Int32} {R : Option Value × List x_E} (hc : rr b e d 390 0 [(0, .ref 49)] [] g q c l (some (.int v), rH e g' q' c' l')) (h : rr b e (d + 1) 398 109 [(0, .ref 49)] [.int v] g' q' c' l' R) : rr b e (d + 1) 398 105 [(0, .ref 49)] [] g q c l R := by
  obtain ⟨f1, hc⟩ := hc
  obtain ⟨f2, h⟩ := h
  obtain ⟨f, hf1, hf2⟩ : ∃ f, f1 ≤ f ∧ f2 ≤ f := ⟨max f1 f2, Nat.le_max_left _ _, Nat.le_max_right _ _⟩
  have hc := nrun_fuel f1 f _ _ _ _ _ _ _ _ _ hf1 hc
  have h := nrun_fuel f2 f _ _ _ _ _ _ _ _ _ hf2 h
  refine ⟨f + 2, ?_⟩
  obtain ⟨y, cb, hj⟩ := mq_398
  rw [n_step (st' := [.ref 49]) (pc' := 106) (lv' := [(0, .ref 49)]) (hp' := rH e g q c l) (i := .aload_n 0) (len := 1) rfl hj rfl rfl rfl]
  obtain ⟨y2, cb2, hj2⟩ := mq_390
  rw [n_call (f := f) (d := d) (ki := 0) (idx := 584) (j' := 390) (kd := 0) (M' := (y2, cb2, 1, some .int, 12, 0, 0, 0)) (avs := [.ref 49]) (r := []) (rv := some (.int v)) (hp1 := rH e g' q' c' l') rfl hj rfl rfl rfl rfl (rq_n rfl rfl hj2 rfl rfl) rfl hc (Nat.le_of_ble_eq_true rfl)]
  exact h
set_option maxRecDepth 100000 in
set_option maxHeartbeats 4000000 in
theorem bk_398_109 {b : Bool} {d : Nat} {t0 : Int32} {e : Nat → x_E} {g : Nat → Int32} {q : Nat → Int64} {c : Nat → Nat → Int32} {l : Nat → Nat → Int64} {R : Option Value × List x_E} (h1 : xCn .eq t0 0 = true → rr b e d 398 117 [(0, .ref 49)] [] g q c l R) (h2 : ¬ xCn .eq t0 0 = true → rr b e d 398 112 [(0, .ref 49)] [] g q c l R) : rr b e d 398 109 [(0, .ref 49)] [.int t0] g q c l R := by
  have key : ∀ f, nrun xZ (xY (xfm b)) xDT (f + 1) d 398 109 [(0, .ref 49)] [.int t0] (rH e g q c l) 0 0 = nrun xZ (xY (xfm b)) xDT f d 398 (if xCn .eq t0 0 = true then 117 else 112) [(0, .ref 49)] [] (rH e g q c l) 0 0 := by
    intro f
    obtain ⟨y, cb, hj⟩ := mq_398
    rw [n_step (st' := []) (pc' := (if xCn .eq t0 0 = true then 117 else 112)) (lv' := [(0, .ref 49)]) (hp' := rH e g q c l) (i := .ifCond .eq 8) (len := 3) rfl hj rfl rfl rfl]
  by_cases hc : xCn .eq t0 0 = true
  · obtain ⟨f, h⟩ := h1 hc
    refine ⟨f + 1, ?_⟩
    rw [key, if_pos hc]
    exact h
  · obtain ⟨f, h⟩ := h2 hc
    refine ⟨f + 1, ?_⟩
    rw [key, if_neg hc]
    exact h
set_option maxRecDepth 100000 in
set_option maxHeartbeats 4000000 in
theorem bk_398_112 {b : Bool} {d : Nat} {e : Nat → x_E} {g : Nat → Int32} {q : Nat → Int64} {c : Nat → Nat → Int32} {l : Nat → Nat → Int64} : rr b e d 398 112 [(0, .ref 49)] [] g q c l (some (.int (g 19)), rH e g q c l) := by
  refine ⟨0 + 3, ?_⟩
  obtain ⟨y, cb, hj⟩ := mq_398
  rw [n_step (st' := [.ref 49]) (pc' := 113) (lv' := [(0, .ref 49)]) (hp' := rH e g q c l) (i := .aload_n 0) (len := 1) rfl hj rfl rfl rfl]
  rw [n_get (st' := [.int (g 19)]) (pc' := 116) (lv' := [(0, .ref 49)]) (hp' := rH e g q c l) (i := .getfield 319) (len := 3) rfl hj rfl rfl rfl rfl]
  exact n_ret rfl hj rfl rfl (x_ret rfl)
set_option maxRecDepth 100000 in
set_option maxHeartbeats 4000000 in
theorem bk_398_117 {b : Bool} {d : Nat} {e : Nat → x_E} {g : Nat → Int32} {q : Nat → Int64} {c : Nat → Nat → Int32} {l : Nat → Nat → Int64} {g' : Nat → Int32} {q' : Nat → Int64} {c' : Nat → Nat → Int32} {l' : Nat → Nat → Int64} {R : Option Value × List x_E} (hc : rr b e d 432 0 [(0, .ref 49)] [] (upd g 5 ((Int32.ofInt (2)))) q c l (none, rH e g' q' c' l')) (h : rr b e (d + 1) 398 126 [] [] g' q' c' l' R) : rr b e (d + 1) 398 117 [(0, .ref 49)] [] g q c l R := by
  obtain ⟨f1, hc⟩ := hc
  obtain ⟨f2, h⟩ := h
  obtain ⟨f, hf1, hf2⟩ : ∃ f, f1 ≤ f ∧ f2 ≤ f := ⟨max f1 f2, Nat.le_max_left _ _, Nat.le_max_right _ _⟩
  have hc := nrun_fuel f1 f _ _ _ _ _ _ _ _ _ hf1 hc
  have h := nrun_fuel f2 f _ _ _ _ _ _ _ _ _ hf2 h
  refine ⟨f + 5, ?_⟩
  obtain ⟨y, cb, hj⟩ := mq_398
  rw [n_step (st' := [.ref 49]) (pc' := 118) (lv' := [(0, .ref 49)]) (hp' := rH e g q c l) (i := .aload_n 0) (len := 1) rfl hj rfl rfl rfl]
  rw [n_step (st' := [.int (Int32.ofInt (2)), .ref 49]) (pc' := 119) (lv' := [(0, .ref 49)]) (hp' := rH e g q c l) (i := .iconst 2) (len := 1) rfl hj rfl rfl rfl]
  rw [n_put (st' := []) (hp' := rH e (upd g 5 ((Int32.ofInt (2)))) q c l) rfl hj pf_5]
  rw [n_step (st' := [.ref 49]) (pc' := 123) (lv' := [(0, .ref 49)]) (hp' := rH e (upd g 5 ((Int32.ofInt (2)))) q c l) (i := .aload_n 0) (len := 1) rfl hj rfl rfl rfl]
  obtain ⟨y2, cb2, hj2⟩ := mq_432
  rw [n_call (f := f) (d := d) (ki := 0) (idx := 760) (j' := 432) (kd := 0) (M' := (y2, cb2, 4, none, 12, 0, 0, 0)) (avs := [.ref 49]) (r := []) (rv := none) (hp1 := rH e g' q' c' l') rfl hj rfl rfl rfl rfl (rq_n rfl rfl hj2 rfl rfl) rfl hc (Nat.le_of_ble_eq_true rfl)]
  exact nrun_ext f f _ _ R 398 126 [] [(0, .ref 49)] [] _ 0 0 122 (Nat.le_refl _) (Nat.le_refl _) (Nat.le_of_ble_eq_true rfl) (lvR_mk [] [0] rfl rfl (by decide) (by decide) (fun _ h => nomatch h) (List.forall_mem_cons.mpr ⟨Or.inr rfl, (fun _ h => nomatch h)⟩)) h
set_option maxRecDepth 100000 in
set_option maxHeartbeats 4000000 in
theorem bk_398_126 {b : Bool} {d : Nat} {e : Nat → x_E} {g : Nat → Int32} {q : Nat → Int64} {c : Nat → Nat → Int32} {l : Nat → Nat → Int64} : rr b e d 398 126 [] [] g q c l (some (.int (Int32.ofInt (0))), rH e g q c l) := by
  refine ⟨0 + 2, ?_⟩
  obtain ⟨y, cb, hj⟩ := mq_398
  rw [n_step (st' := [.int (Int32.ofInt (0))]) (pc' := 127) (lv' := []) (hp' := rH e g q c l) (i := .iconst 0) (len := 1) rfl hj rfl rfl rfl]
  exact n_ret rfl hj rfl rfl (x_ret rfl)
set_option maxRecDepth 100000 in
set_option maxHeartbeats 4000000 in
theorem bk_399_0 {b : Bool} {d : Nat} {x1 x2 x3 x4 : Int32} {e : Nat → x_E} {g : Nat → Int32} {q : Nat → Int64} {c : Nat → Nat → Int32} {l : Nat → Nat → Int64} (hz0 : ¬ ((g 85) < 0 ∨ 66000 ≤ ((g 85)).toNatClampNeg)) (hz1 : ¬ ((g 85) < 0 ∨ 66000 ≤ ((g 85)).toNatClampNeg)) (hz2 : ¬ ((g 85) < 0 ∨ 66000 ≤ ((g 85)).toNatClampNeg)) (hz3 : ¬ ((g 85) < 0 ∨ 66000 ≤ ((g 85)).toNatClampNeg)) (hz4 : ¬ ((g 85) < 0 ∨ 66000 ≤ ((g 85)).toNatClampNeg)) (hz5 : ¬ ((g 85) < 0 ∨ 66000 ≤ ((g 85)).toNatClampNeg)) : rr b e d 399 0 [(0, .ref 49), (1, .int x1), (2, .int x2), (3, .int x3), (4, .int x4)] [] g q c l (some (.int (((upd g 85 (((g 85) + (Int32.ofInt (1))))) 85) - (Int32.ofInt (1)))), rH e (upd g 85 (((g 85) + (Int32.ofInt (1))))) q (updA (updA (updA (updA (updA (updA c 86 (upd (c 86) ((g 85)).toNatClampNeg x1)) 87 (upd ((updA c 86 (upd (c 86) ((g 85)).toNatClampNeg x1)) 87) ((g 85)).toNatClampNeg x2)) 88 (upd ((updA (updA c 86 (upd (c 86) ((g 85)).toNatClampNeg x1)) 87 (upd ((updA c 86 (upd (c 86) ((g 85)).toNatClampNeg x1)) 87) ((g 85)).toNatClampNeg x2)) 88) ((g 85)).toNatClampNeg x3)) 91 (upd ((updA (updA (updA c 86 (upd (c 86) ((g 85)).toNatClampNeg x1)) 87 (upd ((updA c 86 (upd (c 86) ((g 85)).toNatClampNeg x1)) 87) ((g 85)).toNatClampNeg x2)) 88 (upd ((updA (updA c 86 (upd (c 86) ((g 85)).toNatClampNeg x1)) 87 (upd ((updA c 86 (upd (c 86) ((g 85)).toNatClampNeg x1)) 87) ((g 85)).toNatClampNeg x2)) 88) ((g 85)).toNatClampNeg x3)) 91) ((g 85)).toNatClampNeg x4)) 89 (upd ((updA (updA (updA (updA c 86 (upd (c 86) ((g 85)).toNatClampNeg x1)) 87 (upd ((updA c 86 (upd (c 86) ((g 85)).toNatClampNeg x1)) 87) ((g 85)).toNatClampNeg x2)) 88 (upd ((updA (updA c 86 (upd (c 86) ((g 85)).toNatClampNeg x1)) 87 (upd ((updA c 86 (upd (c 86) ((g 85)).toNatClampNeg x1)) 87) ((g 85)).toNatClampNeg x2)) 88) ((g 85)).toNatClampNeg x3)) 91 (upd ((updA (updA (updA c 86 (upd (c 86) ((g 85)).toNatClampNeg x1)) 87 (upd ((updA c 86 (upd (c 86) ((g 85)).toNatClampNeg x1)) 87) ((g 85)).toNatClampNeg x2)) 88 (upd ((updA (updA c 86 (upd (c 86) ((g 85)).toNatClampNeg x1)) 87 (upd ((updA c 86 (upd (c 86) ((g 85)).toNatClampNeg x1)) 87) ((g 85)).toNatClampNeg x2)) 88) ((g 85)).toNatClampNeg x3)) 91) ((g 85)).toNatClampNeg x4)) 89) ((g 85)).toNatClampNeg ((g 92)))) 90 (upd ((updA (updA (updA (updA (updA c 86 (upd (c 86) ((g 85)).toNatClampNeg x1)) 87 (upd ((updA c 86 (upd (c 86) ((g 85)).toNatClampNeg x1)) 87) ((g 85)).toNatClampNeg x2)) 88 (upd ((updA (updA c 86 (upd (c 86) ((g 85)).toNatClampNeg x1)) 87 (upd ((updA c 86 (upd (c 86) ((g 85)).toNatClampNeg x1)) 87) ((g 85)).toNatClampNeg x2)) 88) ((g 85)).toNatClampNeg x3)) 91 (upd ((updA (updA (updA c 86 (upd (c 86) ((g 85)).toNatClampNeg x1)) 87 (upd ((updA c 86 (upd (c 86) ((g 85)).toNatClampNeg x1)) 87) ((g 85)).toNatClampNeg x2)) 88 (upd ((updA (updA c 86 (upd (c 86) ((g 85)).toNatClampNeg x1)) 87 (upd ((updA c 86 (upd (c 86) ((g 85)).toNatClampNeg x1)) 87) ((g 85)).toNatClampNeg x2)) 88) ((g 85)).toNatClampNeg x3)) 91) ((g 85)).toNatClampNeg x4)) 89 (upd ((updA (updA (updA (updA c 86 (upd (c 86) ((g 85)).toNatClampNeg x1)) 87 (upd ((updA c 86 (upd (c 86) ((g 85)).toNatClampNeg x1)) 87) ((g 85)).toNatClampNeg x2)) 88 (upd ((updA (updA c 86 (upd (c 86) ((g 85)).toNatClampNeg x1)) 87 (upd ((updA c 86 (upd (c 86) ((g 85)).toNatClampNeg x1)) 87) ((g 85)).toNatClampNeg x2)) 88) ((g 85)).toNatClampNeg x3)) 91 (upd ((updA (updA (updA c 86 (upd (c 86) ((g 85)).toNatClampNeg x1)) 87 (upd ((updA c 86 (upd (c 86) ((g 85)).toNatClampNeg x1)) 87) ((g 85)).toNatClampNeg x2)) 88 (upd ((updA (updA c 86 (upd (c 86) ((g 85)).toNatClampNeg x1)) 87 (upd ((updA c 86 (upd (c 86) ((g 85)).toNatClampNeg x1)) 87) ((g 85)).toNatClampNeg x2)) 88) ((g 85)).toNatClampNeg x3)) 91) ((g 85)).toNatClampNeg x4)) 89) ((g 85)).toNatClampNeg ((g 92)))) 90) ((g 85)).toNatClampNeg ((Int32.ofInt (0))))) l) := by
  refine ⟨0 + 48, ?_⟩
  obtain ⟨y, cb, hj⟩ := mq_399
  rw [n_step (st' := [.ref 49]) (pc' := 1) (lv' := [(0, .ref 49), (1, .int x1), (2, .int x2), (3, .int x3), (4, .int x4)]) (hp' := rH e g q c l) (i := .aload_n 0) (len := 1) rfl hj rfl rfl rfl]
  rw [n_get (st' := [.ref 86]) (pc' := 4) (lv' := [(0, .ref 49), (1, .int x1), (2, .int x2), (3, .int x3), (4, .int x4)]) (hp' := rH e g q c l) (i := .getfield 128) (len := 3) rfl hj rfl rfl rfl rfl]
  rw [n_step (st' := [.ref 49, .ref 86]) (pc' := 5) (lv' := [(0, .ref 49), (1, .int x1), (2, .int x2), (3, .int x3), (4, .int x4)]) (hp' := rH e g q c l) (i := .aload_n 0) (len := 1) rfl hj rfl rfl rfl]
  rw [n_get (st' := [.int (g 85), .ref 86]) (pc' := 8) (lv' := [(0, .ref 49), (1, .int x1), (2, .int x2), (3, .int x3), (4, .int x4)]) (hp' := rH e g q c l) (i := .getfield 679) (len := 3) rfl hj rfl rfl rfl rfl]
  rw [n_step (st' := [.int x1, .int (g 85), .ref 86]) (pc' := 9) (lv' := [(0, .ref 49), (1, .int x1), (2, .int x2), (3, .int x3), (4, .int x4)]) (hp' := rH e g q c l) (i := .iload_n 1) (len := 1) rfl hj rfl rfl rfl]
  rw [n_ias (st' := []) (hp' := rH e g q (updA c 86 (upd (c 86) ((g 85)).toNatClampNeg x1)) l) rfl hj (ast_86 hz0)]
  rw [n_step (st' := [.ref 49]) (pc' := 11) (lv' := [(0, .ref 49), (1, .int x1), (2, .int x2), (3, .int x3), (4, .int x4)]) (hp' := rH e g q (updA c 86 (upd (c 86) ((g 85)).toNatClampNeg x1)) l) (i := .aload_n 0) (len := 1) rfl hj rfl rfl rfl]
  rw [n_get (st' := [.ref 87]) (pc' := 14) (lv' := [(0, .ref 49), (1, .int x1), (2, .int x2), (3, .int x3), (4, .int x4)]) (hp' := rH e g q (updA c 86 (upd (c 86) ((g 85)).toNatClampNeg x1)) l) (i := .getfield 131) (len := 3) rfl hj rfl rfl rfl rfl]
  rw [n_step (st' := [.ref 49, .ref 87]) (pc' := 15) (lv' := [(0, .ref 49), (1, .int x1), (2, .int x2), (3, .int x3), (4, .int x4)]) (hp' := rH e g q (updA c 86 (upd (c 86) ((g 85)).toNatClampNeg x1)) l) (i := .aload_n 0) (len := 1) rfl hj rfl rfl rfl]
  rw [n_get (st' := [.int (g 85), .ref 87]) (pc' := 18) (lv' := [(0, .ref 49), (1, .int x1), (2, .int x2), (3, .int x3), (4, .int x4)]) (hp' := rH e g q (updA c 86 (upd (c 86) ((g 85)).toNatClampNeg x1)) l) (i := .getfield 679) (len := 3) rfl hj rfl rfl rfl rfl]
  rw [n_step (st' := [.int x2, .int (g 85), .ref 87]) (pc' := 19) (lv' := [(0, .ref 49), (1, .int x1), (2, .int x2), (3, .int x3), (4, .int x4)]) (hp' := rH e g q (updA c 86 (upd (c 86) ((g 85)).toNatClampNeg x1)) l) (i := .iload_n 2) (len := 1) rfl hj rfl rfl rfl]
  rw [n_ias (st' := []) (hp' := rH e g q (updA (updA c 86 (upd (c 86) ((g 85)).toNatClampNeg x1)) 87 (upd ((updA c 86 (upd (c 86) ((g 85)).toNatClampNeg x1)) 87) ((g 85)).toNatClampNeg x2)) l) rfl hj (ast_87 hz1)]
  rw [n_step (st' := [.ref 49]) (pc' := 21) (lv' := [(0, .ref 49), (1, .int x1), (2, .int x2), (3, .int x3), (4, .int x4)]) (hp' := rH e g q (updA (updA c 86 (upd (c 86) ((g 85)).toNatClampNeg x1)) 87 (upd ((updA c 86 (upd (c 86) ((g 85)).toNatClampNeg x1)) 87) ((g 85)).toNatClampNeg x2)) l) (i := .aload_n 0) (len := 1) rfl hj rfl rfl rfl]
  rw [n_get (st' := [.ref 88]) (pc' := 24) (lv' := [(0, .ref 49), (1, .int x1), (2, .int x2), (3, .int x3), (4, .int x4)]) (hp' := rH e g q (updA (updA c 86 (upd (c 86) ((g 85)).toNatClampNeg x1)) 87 (upd ((updA c 86 (upd (c 86) ((g 85)).toNatClampNeg x1)) 87) ((g 85)).toNatClampNeg x2)) l) (i := .getfield 134) (len := 3) rfl hj rfl rfl rfl rfl]
  rw [n_step (st' := [.ref 49, .ref 88]) (pc' := 25) (lv' := [(0, .ref 49), (1, .int x1), (2, .int x2), (3, .int x3), (4, .int x4)]) (hp' := rH e g q (updA (updA c 86 (upd (c 86) ((g 85)).toNatClampNeg x1)) 87 (upd ((updA c 86 (upd (c 86) ((g 85)).toNatClampNeg x1)) 87) ((g 85)).toNatClampNeg x2)) l) (i := .aload_n 0) (len := 1) rfl hj rfl rfl rfl]
  rw [n_get (st' := [.int (g 85), .ref 88]) (pc' := 28) (lv' := [(0, .ref 49), (1, .int x1), (2, .int x2), (3, .int x3), (4, .int x4)]) (hp' := rH e g q (updA (updA c 86 (upd (c 86) ((g 85)).toNatClampNeg x1)) 87 (upd ((updA c 86 (upd (c 86) ((g 85)).toNatClampNeg x1)) 87) ((g 85)).toNatClampNeg x2)) l) (i := .getfield 679) (len := 3) rfl hj rfl rfl rfl rfl]
  rw [n_step (st' := [.int x3, .int (g 85), .ref 88]) (pc' := 29) (lv' := [(0, .ref 49), (1, .int x1), (2, .int x2), (3, .int x3), (4, .int x4)]) (hp' := rH e g q (updA (updA c 86 (upd (c 86) ((g 85)).toNatClampNeg x1)) 87 (upd ((updA c 86 (upd (c 86) ((g 85)).toNatClampNeg x1)) 87) ((g 85)).toNatClampNeg x2)) l) (i := .iload_n 3) (len := 1) rfl hj rfl rfl rfl]
  rw [n_ias (st' := []) (hp' := rH e g q (updA (updA (updA c 86 (upd (c 86) ((g 85)).toNatClampNeg x1)) 87 (upd ((updA c 86 (upd (c 86) ((g 85)).toNatClampNeg x1)) 87) ((g 85)).toNatClampNeg x2)) 88 (upd ((updA (updA c 86 (upd (c 86) ((g 85)).toNatClampNeg x1)) 87 (upd ((updA c 86 (upd (c 86) ((g 85)).toNatClampNeg x1)) 87) ((g 85)).toNatClampNeg x2)) 88) ((g 85)).toNatClampNeg x3)) l) rfl hj (ast_88 hz2)]
  rw [n_step (st' := [.ref 49]) (pc' := 31) (lv' := [(0, .ref 49), (1, .int x1), (2, .int x2), (3, .int x3), (4, .int x4)]) (hp' := rH e g q (updA (updA (updA c 86 (upd (c 86) ((g 85)).toNatClampNeg x1)) 87 (upd ((updA c 86 (upd (c 86) ((g 85)).toNatClampNeg x1)) 87) ((g 85)).toNatClampNeg x2)) 88 (upd ((updA (updA c 86 (upd (c 86) ((g 85)).toNatClampNeg x1)) 87 (upd ((updA c 86 (upd (c 86) ((g 85)).toNatClampNeg x1)) 87) ((g 85)).toNatClampNeg x2)) 88) ((g 85)).toNatClampNeg x3)) l) (i := .aload_n 0) (len := 1) rfl hj rfl rfl rfl]
  rw [n_get (st' := [.ref 91]) (pc' := 34) (lv' := [(0, .ref 49), (1, .int x1), (2, .int x2), (3, .int x3), (4, .int x4)]) (hp' := rH e g q (updA (updA (updA c 86 (upd (c 86) ((g 85)).toNatClampNeg x1)) 87 (upd ((updA c 86 (upd (c 86) ((g 85)).toNatClampNeg x1)) 87) ((g 85)).toNatClampNeg x2)) 88 (upd ((updA (updA c 86 (upd (c 86) ((g 85)).toNatClampNeg x1)) 87 (upd ((updA c 86 (upd (c 86) ((g 85)).toNatClampNeg x1)) 87) ((g 85)).toNatClampNeg x2)) 88) ((g 85)).toNatClampNeg x3)) l) (i := .getfield 143) (len := 3) rfl hj rfl rfl rfl rfl]
  rw [n_step (st' := [.ref 49, .ref 91]) (pc' := 35) (lv' := [(0, .ref 49), (1, .int x1), (2, .int x2), (3, .int x3), (4, .int x4)]) (hp' := rH e g q (updA (updA (updA c 86 (upd (c 86) ((g 85)).toNatClampNeg x1)) 87 (upd ((updA c 86 (upd (c 86) ((g 85)).toNatClampNeg x1)) 87) ((g 85)).toNatClampNeg x2)) 88 (upd ((updA (updA c 86 (upd (c 86) ((g 85)).toNatClampNeg x1)) 87 (upd ((updA c 86 (upd (c 86) ((g 85)).toNatClampNeg x1)) 87) ((g 85)).toNatClampNeg x2)) 88) ((g 85)).toNatClampNeg x3)) l) (i := .aload_n 0) (len := 1) rfl hj rfl rfl rfl]
  rw [n_get (st' := [.int (g 85), .ref 91]) (pc' := 38) (lv' := [(0, .ref 49), (1, .int x1), (2, .int x2), (3, .int x3), (4, .int x4)]) (hp' := rH e g q (updA (updA (updA c 86 (upd (c 86) ((g 85)).toNatClampNeg x1)) 87 (upd ((updA c 86 (upd (c 86) ((g 85)).toNatClampNeg x1)) 87) ((g 85)).toNatClampNeg x2)) 88 (upd ((updA (updA c 86 (upd (c 86) ((g 85)).toNatClampNeg x1)) 87 (upd ((updA c 86 (upd (c 86) ((g 85)).toNatClampNeg x1)) 87) ((g 85)).toNatClampNeg x2)) 88) ((g 85)).toNatClampNeg x3)) l) (i := .getfield 679) (len := 3) rfl hj rfl rfl rfl rfl]
  rw [n_step (st' := [.int x4, .int (g 85), .ref 91]) (pc' := 40) (lv' := [(0, .ref 49), (1, .int x1), (2, .int x2), (3, .int x3), (4, .int x4)]) (hp' := rH e g q (updA (updA (updA c 86 (upd (c 86) ((g 85)).toNatClampNeg x1)) 87 (upd ((updA c 86 (upd (c 86) ((g 85)).toNatClampNeg x1)) 87) ((g 85)).toNatClampNeg x2)) 88 (upd ((updA (updA c 86 (upd (c 86) ((g 85)).toNatClampNeg x1)) 87 (upd ((updA c 86 (upd (c 86) ((g 85)).toNatClampNeg x1)) 87) ((g 85)).toNatClampNeg x2)) 88) ((g 85)).toNatClampNeg x3)) l) (i := .iload 4) (len := 2) rfl hj rfl rfl rfl]
  rw [n_ias (st' := []) (hp' := rH e g q (updA (updA (updA (updA c 86 (upd (c 86) ((g 85)).toNatClampNeg x1)) 87 (upd ((updA c 86 (upd (c 86) ((g 85)).toNatClampNeg x1)) 87) ((g 85)).toNatClampNeg x2)) 88 (upd ((updA (updA c 86 (upd (c 86) ((g 85)).toNatClampNeg x1)) 87 (upd ((updA c 86 (upd (c 86) ((g 85)).toNatClampNeg x1)) 87) ((g 85)).toNatClampNeg x2)) 88) ((g 85)).toNatClampNeg x3)) 91 (upd ((updA (updA (updA c 86 (upd (c 86) ((g 85)).toNatClampNeg x1)) 87 (upd ((updA c 86 (upd (c 86) ((g 85)).toNatClampNeg x1)) 87) ((g 85)).toNatClampNeg x2)) 88 (upd ((updA (updA c 86 (upd (c 86) ((g 85)).toNatClampNeg x1)) 87 (upd ((updA c 86 (upd (c 86) ((g 85)).toNatClampNeg x1)) 87) ((g 85)).toNatClampNeg x2)) 88) ((g 85)).toNatClampNeg x3)) 91) ((g 85)).toNatClampNeg x4)) l) rfl hj (ast_91 hz3)]
  rw [n_step (st' := [.ref 49]) (pc' := 42) (lv' := [(0, .ref 49), (1, .int x1), (2, .int x2), (3, .int x3), (4, .int x4)]) (hp' := rH e g q (updA (updA (updA (updA c 86 (upd (c 86) ((g 85)).toNatClampNeg x1)) 87 (upd ((updA c 86 (upd (c 86) ((g 85)).toNatClampNeg x1)) 87) ((g 85)).toNatClampNeg x2)) 88 (upd ((updA (updA c 86 (upd (c 86) ((g 85)).toNatClampNeg x1)) 87 (upd ((updA c 86 (upd (c 86) ((g 85)).toNatClampNeg x1)) 87) ((g 85)).toNatClampNeg x2)) 88) ((g 85)).toNatClampNeg x3)) 91 (upd ((updA (updA (updA c 86 (upd (c 86) ((g 85)).toNatClampNeg x1)) 87 (upd ((updA c 86 (upd (c 86) ((g 85)).toNatClampNeg x1)) 87) ((g 85)).toNatClampNeg x2)) 88 (upd ((updA (updA c 86 (upd (c 86) ((g 85)).toNatClampNeg x1)) 87 (upd ((updA c 86 (upd (c 86) ((g 85)).toNatClampNeg x1)) 87) ((g 85)).toNatClampNeg x2)) 88) ((g 85)).toNatClampNeg x3)) 91) ((g 85)).toNatClampNeg x4)) l) (i := .aload_n 0) (len := 1) rfl hj rfl rfl rfl]
  rw [n_get (st' := [.ref 89]) (pc' := 45) (lv' := [(0, .ref 49), (1, .int x1), (2, .int x2), (3, .int x3), (4, .int x4)]) (hp' := rH e g q (updA (updA (updA (updA c 86 (upd (c 86) ((g 85)).toNatClampNeg x1)) 87 (upd ((updA c 86 (upd (c 86) ((g 85)).toNatClampNeg x1)) 87) ((g 85)).toNatClampNeg x2)) 88 (upd ((updA (updA c 86 (upd (c 86) ((g 85)).toNatClampNeg x1)) 87 (upd ((updA c 86 (upd (c 86) ((g 85)).toNatClampNeg x1)) 87) ((g 85)).toNatClampNeg x2)) 88) ((g 85)).toNatClampNeg x3)) 91 (upd ((updA (updA (updA c 86 (upd (c 86) ((g 85)).toNatClampNeg x1)) 87 (upd ((updA c 86 (upd (c 86) ((g 85)).toNatClampNeg x1)) 87) ((g 85)).toNatClampNeg x2)) 88 (upd ((updA (updA c 86 (upd (c 86) ((g 85)).toNatClampNeg x1)) 87 (upd ((updA c 86 (upd (c 86) ((g 85)).toNatClampNeg x1)) 87) ((g 85)).toNatClampNeg x2)) 88) ((g 85)).toNatClampNeg x3)) 91) ((g 85)).toNatClampNeg x4)) l) (i := .getfield 137) (len := 3) rfl hj rfl rfl rfl rfl]
  rw [n_step (st' := [.ref 49, .ref 89]) (pc' := 46) (lv' := [(0, .ref 49), (1, .int x1), (2, .int x2), (3, .int x3), (4, .int x4)]) (hp' := rH e g q (updA (updA (updA (updA c 86 (upd (c 86) ((g 85)).toNatClampNeg x1)) 87 (upd ((updA c 86 (upd (c 86) ((g 85)).toNatClampNeg x1)) 87) ((g 85)).toNatClampNeg x2)) 88 (upd ((updA (updA c 86 (upd (c 86) ((g 85)).toNatClampNeg x1)) 87 (upd ((updA c 86 (upd (c 86) ((g 85)).toNatClampNeg x1)) 87) ((g 85)).toNatClampNeg x2)) 88) ((g 85)).toNatClampNeg x3)) 91 (upd ((updA (updA (updA c 86 (upd (c 86) ((g 85)).toNatClampNeg x1)) 87 (upd ((updA c 86 (upd (c 86) ((g 85)).toNatClampNeg x1)) 87) ((g 85)).toNatClampNeg x2)) 88 (upd ((updA (updA c 86 (upd (c 86) ((g 85)).toNatClampNeg x1)) 87 (upd ((updA c 86 (upd (c 86) ((g 85)).toNatClampNeg x1)) 87) ((g 85)).toNatClampNeg x2)) 88) ((g 85)).toNatClampNeg x3)) 91) ((g 85)).toNatClampNeg x4)) l) (i := .aload_n 0) (len := 1) rfl hj rfl rfl rfl]
  rw [n_get (st' := [.int (g 85), .ref 89]) (pc' := 49) (lv' := [(0, .ref 49), (1, .int x1), (2, .int x2), (3, .int x3), (4, .int x4)]) (hp' := rH e g q (updA (updA (updA (updA c 86 (upd (c 86) ((g 85)).toNatClampNeg x1)) 87 (upd ((updA c 86 (upd (c 86) ((g 85)).toNatClampNeg x1)) 87) ((g 85)).toNatClampNeg x2)) 88 (upd ((updA (updA c 86 (upd (c 86) ((g 85)).toNatClampNeg x1)) 87 (upd ((updA c 86 (upd (c 86) ((g 85)).toNatClampNeg x1)) 87) ((g 85)).toNatClampNeg x2)) 88) ((g 85)).toNatClampNeg x3)) 91 (upd ((updA (updA (updA c 86 (upd (c 86) ((g 85)).toNatClampNeg x1)) 87 (upd ((updA c 86 (upd (c 86) ((g 85)).toNatClampNeg x1)) 87) ((g 85)).toNatClampNeg x2)) 88 (upd ((updA (updA c 86 (upd (c 86) ((g 85)).toNatClampNeg x1)) 87 (upd ((updA c 86 (upd (c 86) ((g 85)).toNatClampNeg x1)) 87) ((g 85)).toNatClampNeg x2)) 88) ((g 85)).toNatClampNeg x3)) 91) ((g 85)).toNatClampNeg x4)) l) (i := .getfield 679) (len := 3) rfl hj rfl rfl rfl rfl]
  rw [n_step (st' := [.ref 49, .int (g 85), .ref 89]) (pc' := 50) (lv' := [(0, .ref 49), (1, .int x1), (2, .int x2), (3, .int x3), (4, .int x4)]) (hp' := rH e g q (updA (updA (updA (updA c 86 (upd (c 86) ((g 85)).toNatClampNeg x1)) 87 (upd ((updA c 86 (upd (c 86) ((g 85)).toNatClampNeg x1)) 87) ((g 85)).toNatClampNeg x2)) 88 (upd ((updA (updA c 86 (upd (c 86) ((g 85)).toNatClampNeg x1)) 87 (upd ((updA c 86 (upd (c 86) ((g 85)).toNatClampNeg x1)) 87) ((g 85)).toNatClampNeg x2)) 88) ((g 85)).toNatClampNeg x3)) 91 (upd ((updA (updA (updA c 86 (upd (c 86) ((g 85)).toNatClampNeg x1)) 87 (upd ((updA c 86 (upd (c 86) ((g 85)).toNatClampNeg x1)) 87) ((g 85)).toNatClampNeg x2)) 88 (upd ((updA (updA c 86 (upd (c 86) ((g 85)).toNatClampNeg x1)) 87 (upd ((updA c 86 (upd (c 86) ((g 85)).toNatClampNeg x1)) 87) ((g 85)).toNatClampNeg x2)) 88) ((g 85)).toNatClampNeg x3)) 91) ((g 85)).toNatClampNeg x4)) l) (i := .aload_n 0) (len := 1) rfl hj rfl rfl rfl]
  rw [n_get (st' := [.int (g 92), .int (g 85), .ref 89]) (pc' := 53) (lv' := [(0, .ref 49), (1, .int x1), (2, .int x2), (3, .int x3), (4, .int x4)]) (hp' := rH e g q (updA (updA (updA (updA c 86 (upd (c 86) ((g 85)).toNatClampNeg x1)) 87 (upd ((updA c 86 (upd (c 86) ((g 85)).toNatClampNeg x1)) 87) ((g 85)).toNatClampNeg x2)) 88 (upd ((updA (updA c 86 (upd (c 86) ((g 85)).toNatClampNeg x1)) 87 (upd ((updA c 86 (upd (c 86) ((g 85)).toNatClampNeg x1)) 87) ((g 85)).toNatClampNeg x2)) 88) ((g 85)).toNatClampNeg x3)) 91 (upd ((updA (updA (updA c 86 (upd (c 86) ((g 85)).toNatClampNeg x1)) 87 (upd ((updA c 86 (upd (c 86) ((g 85)).toNatClampNeg x1)) 87) ((g 85)).toNatClampNeg x2)) 88 (upd ((updA (updA c 86 (upd (c 86) ((g 85)).toNatClampNeg x1)) 87 (upd ((updA c 86 (upd (c 86) ((g 85)).toNatClampNeg x1)) 87) ((g 85)).toNatClampNeg x2)) 88) ((g 85)).toNatClampNeg x3)) 91) ((g 85)).toNatClampNeg x4)) l) (i := .getfield 682) (len := 3) rfl hj rfl rfl rfl rfl]
  rw [n_ias (st' := []) (hp' := rH e g q (updA (updA (updA (updA (updA c 86 (upd (c 86) ((g 85)).toNatClampNeg x1)) 87 (upd ((updA c 86 (upd (c 86) ((g 85)).toNatClampNeg x1)) 87) ((g 85)).toNatClampNeg x2)) 88 (upd ((updA (updA c 86 (upd (c 86) ((g 85)).toNatClampNeg x1)) 87 (upd ((updA c 86 (upd (c 86) ((g 85)).toNatClampNeg x1)) 87) ((g 85)).toNatClampNeg x2)) 88) ((g 85)).toNatClampNeg x3)) 91 (upd ((updA (updA (updA c 86 (upd (c 86) ((g 85)).toNatClampNeg x1)) 87 (upd ((updA c 86 (upd (c 86) ((g 85)).toNatClampNeg x1)) 87) ((g 85)).toNatClampNeg x2)) 88 (upd ((updA (updA c 86 (upd (c 86) ((g 85)).toNatClampNeg x1)) 87 (upd ((updA c 86 (upd (c 86) ((g 85)).toNatClampNeg x1)) 87) ((g 85)).toNatClampNeg x2)) 88) ((g 85)).toNatClampNeg x3)) 91) ((g 85)).toNatClampNeg x4)) 89 (upd ((updA (updA (updA (updA c 86 (upd (c 86) ((g 85)).toNatClampNeg x1)) 87 (upd ((updA c 86 (upd (c 86) ((g 85)).toNatClampNeg x1)) 87) ((g 85)).toNatClampNeg x2)) 88 (upd ((updA (updA c 86 (upd (c 86) ((g 85)).toNatClampNeg x1)) 87 (upd ((updA c 86 (upd (c 86) ((g 85)).toNatClampNeg x1)) 87) ((g 85)).toNatClampNeg x2)) 88) ((g 85)).toNatClampNeg x3)) 91 (upd ((updA (updA (updA c 86 (upd (c 86) ((g 85)).toNatClampNeg x1)) 87 (upd ((updA c 86 (upd (c 86) ((g 85)).toNatClampNeg x1)) 87) ((g 85)).toNatClampNeg x2)) 88 (upd ((updA (updA c 86 (upd (c 86) ((g 85)).toNatClampNeg x1)) 87 (upd ((updA c 86 (upd (c 86) ((g 85)).toNatClampNeg x1)) 87) ((g 85)).toNatClampNeg x2)) 88) ((g 85)).toNatClampNeg x3)) 91) ((g 85)).toNatClampNeg x4)) 89) ((g 85)).toNatClampNeg ((g 92)))) l) rfl hj (ast_89 hz4)]
  rw [n_step (st' := [.ref 49]) (pc' := 55) (lv' := [(0, .ref 49), (1, .int x1), (2, .int x2), (3, .int x3), (4, .int x4)]) (hp' := rH e g q (updA (updA (updA (updA (updA c 86 (upd (c 86) ((g 85)).toNatClampNeg x1)) 87 (upd ((updA c 86 (upd (c 86) ((g 85)).toNatClampNeg x1)) 87) ((g 85)).toNatClampNeg x2)) 88 (upd ((updA (updA c 86 (upd (c 86) ((g 85)).toNatClampNeg x1)) 87 (upd ((updA c 86 (upd (c 86) ((g 85)).toNatClampNeg x1)) 87) ((g 85)).toNatClampNeg x2)) 88) ((g 85)).toNatClampNeg x3)) 91 (upd ((updA (updA (updA c 86 (upd (c 86) ((g 85)).toNatClampNeg x1)) 87 (upd ((updA c 86 (upd (c 86) ((g 85)).toNatClampNeg x1)) 87) ((g 85)).toNatClampNeg x2)) 88 (upd ((updA (updA c 86 (upd (c 86) ((g 85)).toNatClampNeg x1)) 87 (upd ((updA c 86 (upd (c 86) ((g 85)).toNatClampNeg x1)) 87) ((g 85)).toNatClampNeg x2)) 88) ((g 85)).toNatClampNeg x3)) 91) ((g 85)).toNatClampNeg x4)) 89 (upd ((updA (updA (updA (updA c 86 (upd (c 86) ((g 85)).toNatClampNeg x1)) 87 (upd ((updA c 86 (upd (c 86) ((g 85)).toNatClampNeg x1)) 87) ((g 85)).toNatClampNeg x2)) 88 (upd ((updA (updA c 86 (upd (c 86) ((g 85)).toNatClampNeg x1)) 87 (upd ((updA c 86 (upd (c 86) ((g 85)).toNatClampNeg x1)) 87) ((g 85)).toNatClampNeg x2)) 88) ((g 85)).toNatClampNeg x3)) 91 (upd ((updA (updA (updA c 86 (upd (c 86) ((g 85)).toNatClampNeg x1)) 87 (upd ((updA c 86 (upd (c 86) ((g 85)).toNatClampNeg x1)) 87) ((g 85)).toNatClampNeg x2)) 88 (upd ((updA (updA c 86 (upd (c 86) ((g 85)).toNatClampNeg x1)) 87 (upd ((updA c 86 (upd (c 86) ((g 85)).toNatClampNeg x1)) 87) ((g 85)).toNatClampNeg x2)) 88) ((g 85)).toNatClampNeg x3)) 91) ((g 85)).toNatClampNeg x4)) 89) ((g 85)).toNatClampNeg ((g 92)))) l) (i := .aload_n 0) (len := 1) rfl hj rfl rfl rfl]
  rw [n_get (st' := [.ref 90]) (pc' := 58) (lv' := [(0, .ref 49), (1, .int x1), (2, .int x2), (3, .int x3), (4, .int x4)]) (hp' := rH e g q (updA (updA (updA (updA (updA c 86 (upd (c 86) ((g 85)).toNatClampNeg x1)) 87 (upd ((updA c 86 (upd (c 86) ((g 85)).toNatClampNeg x1)) 87) ((g 85)).toNatClampNeg x2)) 88 (upd ((updA (updA c 86 (upd (c 86) ((g 85)).toNatClampNeg x1)) 87 (upd ((updA c 86 (upd (c 86) ((g 85)).toNatClampNeg x1)) 87) ((g 85)).toNatClampNeg x2)) 88) ((g 85)).toNatClampNeg x3)) 91 (upd ((updA (updA (updA c 86 (upd (c 86) ((g 85)).toNatClampNeg x1)) 87 (upd ((updA c 86 (upd (c 86) ((g 85)).toNatClampNeg x1)) 87) ((g 85)).toNatClampNeg x2)) 88 (upd ((updA (updA c 86 (upd (c 86) ((g 85)).toNatClampNeg x1)) 87 (upd ((updA c 86 (upd (c 86) ((g 85)).toNatClampNeg x1)) 87) ((g 85)).toNatClampNeg x2)) 88) ((g 85)).toNatClampNeg x3)) 91) ((g 85)).toNatClampNeg x4)) 89 (upd ((updA (updA (updA (updA c 86 (upd (c 86) ((g 85)).toNatClampNeg x1)) 87 (upd ((updA c 86 (upd (c 86) ((g 85)).toNatClampNeg x1)) 87) ((g 85)).toNatClampNeg x2)) 88 (upd ((updA (updA c 86 (upd (c 86) ((g 85)).toNatClampNeg x1)) 87 (upd ((updA c 86 (upd (c 86) ((g 85)).toNatClampNeg x1)) 87) ((g 85)).toNatClampNeg x2)) 88) ((g 85)).toNatClampNeg x3)) 91 (upd ((updA (updA (updA c 86 (upd (c 86) ((g 85)).toNatClampNeg x1)) 87 (upd ((updA c 86 (upd (c 86) ((g 85)).toNatClampNeg x1)) 87) ((g 85)).toNatClampNeg x2)) 88 (upd ((updA (updA c 86 (upd (c 86) ((g 85)).toNatClampNeg x1)) 87 (upd ((updA c 86 (upd (c 86) ((g 85)).toNatClampNeg x1)) 87) ((g 85)).toNatClampNeg x2)) 88) ((g 85)).toNatClampNeg x3)) 91) ((g 85)).toNatClampNeg x4)) 89) ((g 85)).toNatClampNeg ((g 92)))) l) (i := .getfield 140) (len := 3) rfl hj rfl rfl rfl rfl]
  rw [n_step (st' := [.ref 49, .ref 90]) (pc' := 59) (lv' := [(0, .ref 49), (1, .int x1), (2, .int x2), (3, .int x3), (4, .int x4)]) (hp' := rH e g q (updA (updA (updA (updA (updA c 86 (upd (c 86) ((g 85)).toNatClampNeg x1)) 87 (upd ((updA c 86 (upd (c 86) ((g 85)).toNatClampNeg x1)) 87) ((g 85)).toNatClampNeg x2)) 88 (upd ((updA (updA c 86 (upd (c 86) ((g 85)).toNatClampNeg x1)) 87 (upd ((updA c 86 (upd (c 86) ((g 85)).toNatClampNeg x1)) 87) ((g 85)).toNatClampNeg x2)) 88) ((g 85)).toNatClampNeg x3)) 91 (upd ((updA (updA (updA c 86 (upd (c 86) ((g 85)).toNatClampNeg x1)) 87 (upd ((updA c 86 (upd (c 86) ((g 85)).toNatClampNeg x1)) 87) ((g 85)).toNatClampNeg x2)) 88 (upd ((updA (updA c 86 (upd (c 86) ((g 85)).toNatClampNeg x1)) 87 (upd ((updA c 86 (upd (c 86) ((g 85)).toNatClampNeg x1)) 87) ((g 85)).toNatClampNeg x2)) 88) ((g 85)).toNatClampNeg x3)) 91) ((g 85)).toNatClampNeg x4)) 89 (upd ((updA (updA (updA (updA c 86 (upd (c 86) ((g 85)).toNatClampNeg x1)) 87 (upd ((updA c 86 (upd (c 86) ((g 85)).toNatClampNeg x1)) 87) ((g 85)).toNatClampNeg x2)) 88 (upd ((updA (updA c 86 (upd (c 86) ((g 85)).toNatClampNeg x1)) 87 (upd ((updA c 86 (upd (c 86) ((g 85)).toNatClampNeg x1)) 87) ((g 85)).toNatClampNeg x2)) 88) ((g 85)).toNatClampNeg x3)) 91 (upd ((updA (updA (updA c 86 (upd (c 86) ((g 85)).toNatClampNeg x1)) 87 (upd ((updA c 86 (upd (c 86) ((g 85)).toNatClampNeg x1)) 87) ((g 85)).toNatClampNeg x2)) 88 (upd ((updA (updA c 86 (upd (c 86) ((g 85)).toNatClampNeg x1)) 87 (upd ((updA c 86 (upd (c 86) ((g 85)).toNatClampNeg x1)) 87) ((g 85)).toNatClampNeg x2)) 88) ((g 85)).toNatClampNeg x3)) 91) ((g 85)).toNatClampNeg x4)) 89) ((g 85)).toNatClampNeg ((g 92)))) l) (i := .aload_n 0) (len := 1) rfl hj rfl rfl rfl]
  rw [n_get (st' := [.int (g 85), .ref 90]) (pc' := 62) (lv' := [(0, .ref 49), (1, .int x1), (2, .int x2), (3, .int x3), (4, .int x4)]) (hp' := rH e g q (updA (updA (updA (updA (updA c 86 (upd (c 86) ((g 85)).toNatClampNeg x1)) 87 (upd ((updA c 86 (upd (c 86) ((g 85)).toNatClampNeg x1)) 87) ((g 85)).toNatClampNeg x2)) 88 (upd ((updA (updA c 86 (upd (c 86) ((g 85)).toNatClampNeg x1)) 87 (upd ((updA c 86 (upd (c 86) ((g 85)).toNatClampNeg x1)) 87) ((g 85)).toNatClampNeg x2)) 88) ((g 85)).toNatClampNeg x3)) 91 (upd ((updA (updA (updA c 86 (upd (c 86) ((g 85)).toNatClampNeg x1)) 87 (upd ((updA c 86 (upd (c 86) ((g 85)).toNatClampNeg x1)) 87) ((g 85)).toNatClampNeg x2)) 88 (upd ((updA (updA c 86 (upd (c 86) ((g 85)).toNatClampNeg x1)) 87 (upd ((updA c 86 (upd (c 86) ((g 85)).toNatClampNeg x1)) 87) ((g 85)).toNatClampNeg x2)) 88) ((g 85)).toNatClampNeg x3)) 91) ((g 85)).toNatClampNeg x4)) 89 (upd ((updA (updA (updA (updA c 86 (upd (c 86) ((g 85)).toNatClampNeg x1)) 87 (upd ((updA c 86 (upd (c 86) ((g 85)).toNatClampNeg x1)) 87) ((g 85)).toNatClampNeg x2)) 88 (upd ((updA (updA c 86 (upd (c 86) ((g 85)).toNatClampNeg x1)) 87 (upd ((updA c 86 (upd (c 86) ((g 85)).toNatClampNeg x1)) 87) ((g 85)).toNatClampNeg x2)) 88) ((g 85)).toNatClampNeg x3)) 91 (upd ((updA (updA (updA c 86 (upd (c 86) ((g 85)).toNatClampNeg x1)) 87 (upd ((updA c 86 (upd (c 86) ((g 85)).toNatClampNeg x1)) 87) ((g 85)).toNatClampNeg x2)) 88 (upd ((updA (updA c 86 (upd (c 86) ((g 85)).toNatClampNeg x1)) 87 (upd ((updA c 86 (upd (c 86) ((g 85)).toNatClampNeg x1)) 87) ((g 85)).toNatClampNeg x2)) 88) ((g 85)).toNatClampNeg x3)) 91) ((g 85)).toNatClampNeg x4)) 89) ((g 85)).toNatClampNeg ((g 92)))) l) (i := .getfield 679) (len := 3) rfl hj rfl rfl rfl rfl]
  rw [n_step (st' := [.int (Int32.ofInt (0)), .int (g 85), .ref 90]) (pc' := 63) (lv' := [(0, .ref 49), (1, .int x1), (2, .int x2), (3, .int x3), (4, .int x4)]) (hp' := rH e g q (updA (updA (updA (updA (updA c 86 (upd (c 86) ((g 85)).toNatClampNeg x1)) 87 (upd ((updA c 86 (upd (c 86) ((g 85)).toNatClampNeg x1)) 87) ((g 85)).toNatClampNeg x2)) 88 (upd ((updA (updA c 86 (upd (c 86) ((g 85)).toNatClampNeg x1)) 87 (upd ((updA c 86 (upd (c 86) ((g 85)).toNatClampNeg x1)) 87) ((g 85)).toNatClampNeg x2)) 88) ((g 85)).toNatClampNeg x3)) 91 (upd ((updA (updA (updA c 86 (upd (c 86) ((g 85)).toNatClampNeg x1)) 87 (upd ((updA c 86 (upd (c 86) ((g 85)).toNatClampNeg x1)) 87) ((g 85)).toNatClampNeg x2)) 88 (upd ((updA (updA c 86 (upd (c 86) ((g 85)).toNatClampNeg x1)) 87 (upd ((updA c 86 (upd (c 86) ((g 85)).toNatClampNeg x1)) 87) ((g 85)).toNatClampNeg x2)) 88) ((g 85)).toNatClampNeg x3)) 91) ((g 85)).toNatClampNeg x4)) 89 (upd ((updA (updA (updA (updA c 86 (upd (c 86) ((g 85)).toNatClampNeg x1)) 87 (upd ((updA c 86 (upd (c 86) ((g 85)).toNatClampNeg x1)) 87) ((g 85)).toNatClampNeg x2)) 88 (upd ((updA (updA c 86 (upd (c 86) ((g 85)).toNatClampNeg x1)) 87 (upd ((updA c 86 (upd (c 86) ((g 85)).toNatClampNeg x1)) 87) ((g 85)).toNatClampNeg x2)) 88) ((g 85)).toNatClampNeg x3)) 91 (upd ((updA (updA (updA c 86 (upd (c 86) ((g 85)).toNatClampNeg x1)) 87 (upd ((updA c 86 (upd (c 86) ((g 85)).toNatClampNeg x1)) 87) ((g 85)).toNatClampNeg x2)) 88 (upd ((updA (updA c 86 (upd (c 86) ((g 85)).toNatClampNeg x1)) 87 (upd ((updA c 86 (upd (c 86) ((g 85)).toNatClampNeg x1)) 87) ((g 85)).toNatClampNeg x2)) 88) ((g 85)).toNatClampNeg x3)) 91) ((g 85)).toNatClampNeg x4)) 89) ((g 85)).toNatClampNeg ((g 92)))) l) (i := .iconst 0) (len := 1) rfl hj rfl rfl rfl]
  rw [n_ias (st' := []) (hp' := rH e g q (updA (updA (updA (updA (updA (updA c 86 (upd (c 86) ((g 85)).toNatClampNeg x1)) 87 (upd ((updA c 86 (upd (c 86) ((g 85)).toNatClampNeg x1)) 87) ((g 85)).toNatClampNeg x2)) 88 (upd ((updA (updA c 86 (upd (c 86) ((g 85)).toNatClampNeg x1)) 87 (upd ((updA c 86 (upd (c 86) ((g 85)).toNatClampNeg x1)) 87) ((g 85)).toNatClampNeg x2)) 88) ((g 85)).toNatClampNeg x3)) 91 (upd ((updA (updA (updA c 86 (upd (c 86) ((g 85)).toNatClampNeg x1)) 87 (upd ((updA c 86 (upd (c 86) ((g 85)).toNatClampNeg x1)) 87) ((g 85)).toNatClampNeg x2)) 88 (upd ((updA (updA c 86 (upd (c 86) ((g 85)).toNatClampNeg x1)) 87 (upd ((updA c 86 (upd (c 86) ((g 85)).toNatClampNeg x1)) 87) ((g 85)).toNatClampNeg x2)) 88) ((g 85)).toNatClampNeg x3)) 91) ((g 85)).toNatClampNeg x4)) 89 (upd ((updA (updA (updA (updA c 86 (upd (c 86) ((g 85)).toNatClampNeg x1)) 87 (upd ((updA c 86 (upd (c 86) ((g 85)).toNatClampNeg x1)) 87) ((g 85)).toNatClampNeg x2)) 88 (upd ((updA (updA c 86 (upd (c 86) ((g 85)).toNatClampNeg x1)) 87 (upd ((updA c 86 (upd (c 86) ((g 85)).toNatClampNeg x1)) 87) ((g 85)).toNatClampNeg x2)) 88) ((g 85)).toNatClampNeg x3)) 91 (upd ((updA (updA (updA c 86 (upd (c 86) ((g 85)).toNatClampNeg x1)) 87 (upd ((updA c 86 (upd (c 86) ((g 85)).toNatClampNeg x1)) 87) ((g 85)).toNatClampNeg x2)) 88 (upd ((updA (updA c 86 (upd (c 86) ((g 85)).toNatClampNeg x1)) 87 (upd ((updA c 86 (upd (c 86) ((g 85)).toNatClampNeg x1)) 87) ((g 85)).toNatClampNeg x2)) 88) ((g 85)).toNatClampNeg x3)) 91) ((g 85)).toNatClampNeg x4)) 89) ((g 85)).toNatClampNeg ((g 92)))) 90 (upd ((updA (updA (updA (updA (updA c 86 (upd (c 86) ((g 85)).toNatClampNeg x1)) 87 (upd ((updA c 86 (upd (c 86) ((g 85)).toNatClampNeg x1)) 87) ((g 85)).toNatClampNeg x2)) 88 (upd ((updA (updA c 86 (upd (c 86) ((g 85)).toNatClampNeg x1)) 87 (upd ((updA c 86 (upd (c 86) ((g 85)).toNatClampNeg x1)) 87) ((g 85)).toNatClampNeg x2)) 88) ((g 85)).toNatClampNeg x3)) 91 (upd ((updA (updA (updA c 86 (upd (c 86) ((g 85)).toNatClampNeg x1)) 87 (upd ((updA c 86 (upd (c 86) ((g 85)).toNatClampNeg x1)) 87) ((g 85)).toNatClampNeg x2)) 88 (upd ((updA (updA c 86 (upd (c 86) ((g 85)).toNatClampNeg x1)) 87 (upd ((updA c 86 (upd (c 86) ((g 85)).toNatClampNeg x1)) 87) ((g 85)).toNatClampNeg x2)) 88) ((g 85)).toNatClampNeg x3)) 91) ((g 85)).toNatClampNeg x4)) 89 (upd ((updA (updA (updA (updA c 86 (upd (c 86) ((g 85)).toNatClampNeg x1)) 87 (upd ((updA c 86 (upd (c 86) ((g 85)).toNatClampNeg x1)) 87) ((g 85)).toNatClampNeg x2)) 88 (upd ((updA (updA c 86 (upd (c 86) ((g 85)).toNatClampNeg x1)) 87 (upd ((updA c 86 (upd (c 86) ((g 85)).toNatClampNeg x1)) 87) ((g 85)).toNatClampNeg x2)) 88) ((g 85)).toNatClampNeg x3)) 91 (upd ((updA (updA (updA c 86 (upd (c 86) ((g 85)).toNatClampNeg x1)) 87 (upd ((updA c 86 (upd (c 86) ((g 85)).toNatClampNeg x1)) 87) ((g 85)).toNatClampNeg x2)) 88 (upd ((updA (updA c 86 (upd (c 86) ((g 85)).toNatClampNeg x1)) 87 (upd ((updA c 86 (upd (c 86) ((g 85)).toNatClampNeg x1)) 87) ((g 85)).toNatClampNeg x2)) 88) ((g 85)).toNatClampNeg x3)) 91) ((g 85)).toNatClampNeg x4)) 89) ((g 85)).toNatClampNeg ((g 92)))) 90) ((g 85)).toNatClampNeg ((Int32.ofInt (0))))) l) rfl hj (ast_90 hz5)]
  rw [n_step (st' := [.ref 49]) (pc' := 65) (lv' := [(0, .ref 49), (1, .int x1), (2, .int x2), (3, .int x3), (4, .int x4)]) (hp' := rH e g q (updA (updA (updA (updA (updA (updA c 86 (upd (c 86) ((g 85)).toNatClampNeg x1)) 87 (upd ((updA c 86 (upd (c 86) ((g 85)).toNatClampNeg x1)) 87) ((g 85)).toNatClampNeg x2)) 88 (upd ((updA (updA c 86 (upd (c 86) ((g 85)).toNatClampNeg x1)) 87 (upd ((updA c 86 (upd (c 86) ((g 85)).toNatClampNeg x1)) 87) ((g 85)).toNatClampNeg x2)) 88) ((g 85)).toNatClampNeg x3)) 91 (upd ((updA (updA (updA c 86 (upd (c 86) ((g 85)).toNatClampNeg x1)) 87 (upd ((updA c 86 (upd (c 86) ((g 85)).toNatClampNeg x1)) 87) ((g 85)).toNatClampNeg x2)) 88 (upd ((updA (updA c 86 (upd (c 86) ((g 85)).toNatClampNeg x1)) 87 (upd ((updA c 86 (upd (c 86) ((g 85)).toNatClampNeg x1)) 87) ((g 85)).toNatClampNeg x2)) 88) ((g 85)).toNatClampNeg x3)) 91) ((g 85)).toNatClampNeg x4)) 89 (upd ((updA (updA (updA (updA c 86 (upd (c 86) ((g 85)).toNatClampNeg x1)) 87 (upd ((updA c 86 (upd (c 86) ((g 85)).toNatClampNeg x1)) 87) ((g 85)).toNatClampNeg x2)) 88 (upd ((updA (updA c 86 (upd (c 86) ((g 85)).toNatClampNeg x1)) 87 (upd ((updA c 86 (upd (c 86) ((g 85)).toNatClampNeg x1)) 87) ((g 85)).toNatClampNeg x2)) 88) ((g 85)).toNatClampNeg x3)) 91 (upd ((updA (updA (updA c 86 (upd (c 86) ((g 85)).toNatClampNeg x1)) 87 (upd ((updA c 86 (upd (c 86) ((g 85)).toNatClampNeg x1)) 87) ((g 85)).toNatClampNeg x2)) 88 (upd ((updA (updA c 86 (upd (c 86) ((g 85)).toNatClampNeg x1)) 87 (upd ((updA c 86 (upd (c 86) ((g 85)).toNatClampNeg x1)) 87) ((g 85)).toNatClampNeg x2)) 88) ((g 85)).toNatClampNeg x3)) 91) ((g 85)).toNatClampNeg x4)) 89) ((g 85)).toNatClampNeg ((g 92)))) 90 (upd ((updA (updA (updA (updA (updA c 86 (upd (c 86) ((g 85)).toNatClampNeg x1)) 87 (upd ((updA c 86 (upd (c 86) ((g 85)).toNatClampNeg x1)) 87) ((g 85)).toNatClampNeg x2)) 88 (upd ((updA (updA c 86 (upd (c 86) ((g 85)).toNatClampNeg x1)) 87 (upd ((updA c 86 (upd (c 86) ((g 85)).toNatClampNeg x1)) 87) ((g 85)).toNatClampNeg x2)) 88) ((g 85)).toNatClampNeg x3)) 91 (upd ((updA (updA (updA c 86 (upd (c 86) ((g 85)).toNatClampNeg x1)) 87 (upd ((updA c 86 (upd (c 86) ((g 85)).toNatClampNeg x1)) 87) ((g 85)).toNatClampNeg x2)) 88 (upd ((updA (updA c 86 (upd (c 86) ((g 85)).toNatClampNeg x1)) 87 (upd ((updA c 86 (upd (c 86) ((g 85)).toNatClampNeg x1)) 87) ((g 85)).toNatClampNeg x2)) 88) ((g 85)).toNatClampNeg x3)) 91) ((g 85)).toNatClampNeg x4)) 89 (upd ((updA (updA (updA (updA c 86 (upd (c 86) ((g 85)).toNatClampNeg x1)) 87 (upd ((updA c 86 (upd (c 86) ((g 85)).toNatClampNeg x1)) 87) ((g 85)).toNatClampNeg x2)) 88 (upd ((updA (updA c 86 (upd (c 86) ((g 85)).toNatClampNeg x1)) 87 (upd ((updA c 86 (upd (c 86) ((g 85)).toNatClampNeg x1)) 87) ((g 85)).toNatClampNeg x2)) 88) ((g 85)).toNatClampNeg x3)) 91 (upd ((updA (updA (updA c 86 (upd (c 86) ((g 85)).toNatClampNeg x1)) 87 (upd ((updA c 86 (upd (c 86) ((g 85)).toNatClampNeg x1)) 87) ((g 85)).toNatClampNeg x2)) 88 (upd ((updA (updA c 86 (upd (c 86) ((g 85)).toNatClampNeg x1)) 87 (upd ((updA c 86 (upd (c 86) ((g 85)).toNatClampNeg x1)) 87) ((g 85)).toNatClampNeg x2)) 88) ((g 85)).toNatClampNeg x3)) 91) ((g 85)).toNatClampNeg x4)) 89) ((g 85)).toNatClampNeg ((g 92)))) 90) ((g 85)).toNatClampNeg ((Int32.ofInt (0))))) l) (i := .aload_n 0) (len := 1) rfl hj rfl rfl rfl]
  rw [n_step (st' := [.ref 49, .ref 49]) (pc' := 66) (lv' := [(0, .ref 49), (1, .int x1), (2, .int x2), (3, .int x3), (4, .int x4)]) (hp' := rH e g q (updA (updA (updA (updA (updA (updA c 86 (upd (c 86) ((g 85)).toNatClampNeg x1)) 87 (upd ((updA c 86 (upd (c 86) ((g 85)).toNatClampNeg x1)) 87) ((g 85)).toNatClampNeg x2)) 88 (upd ((updA (updA c 86 (upd (c 86) ((g 85)).toNatClampNeg x1)) 87 (upd ((updA c 86 (upd (c 86) ((g 85)).toNatClampNeg x1)) 87) ((g 85)).toNatClampNeg x2)) 88) ((g 85)).toNatClampNeg x3)) 91 (upd ((updA (updA (updA c 86 (upd (c 86) ((g 85)).toNatClampNeg x1)) 87 (upd ((updA c 86 (upd (c 86) ((g 85)).toNatClampNeg x1)) 87) ((g 85)).toNatClampNeg x2)) 88 (upd ((updA (updA c 86 (upd (c 86) ((g 85)).toNatClampNeg x1)) 87 (upd ((updA c 86 (upd (c 86) ((g 85)).toNatClampNeg x1)) 87) ((g 85)).toNatClampNeg x2)) 88) ((g 85)).toNatClampNeg x3)) 91) ((g 85)).toNatClampNeg x4)) 89 (upd ((updA (updA (updA (updA c 86 (upd (c 86) ((g 85)).toNatClampNeg x1)) 87 (upd ((updA c 86 (upd (c 86) ((g 85)).toNatClampNeg x1)) 87) ((g 85)).toNatClampNeg x2)) 88 (upd ((updA (updA c 86 (upd (c 86) ((g 85)).toNatClampNeg x1)) 87 (upd ((updA c 86 (upd (c 86) ((g 85)).toNatClampNeg x1)) 87) ((g 85)).toNatClampNeg x2)) 88) ((g 85)).toNatClampNeg x3)) 91 (upd ((updA (updA (updA c 86 (upd (c 86) ((g 85)).toNatClampNeg x1)) 87 (upd ((updA c 86 (upd (c 86) ((g 85)).toNatClampNeg x1)) 87) ((g 85)).toNatClampNeg x2)) 88 (upd ((updA (updA c 86 (upd (c 86) ((g 85)).toNatClampNeg x1)) 87 (upd ((updA c 86 (upd (c 86) ((g 85)).toNatClampNeg x1)) 87) ((g 85)).toNatClampNeg x2)) 88) ((g 85)).toNatClampNeg x3)) 91) ((g 85)).toNatClampNeg x4)) 89) ((g 85)).toNatClampNeg ((g 92)))) 90 (upd ((updA (updA (updA (updA (updA c 86 (upd (c 86) ((g 85)).toNatClampNeg x1)) 87 (upd ((updA c 86 (upd (c 86) ((g 85)).toNatClampNeg x1)) 87) ((g 85)).toNatClampNeg x2)) 88 (upd ((updA (updA c 86 (upd (c 86) ((g 85)).toNatClampNeg x1)) 87 (upd ((updA c 86 (upd (c 86) ((g 85)).toNatClampNeg x1)) 87) ((g 85)).toNatClampNeg x2)) 88) ((g 85)).toNatClampNeg x3)) 91 (upd ((updA (updA (updA c 86 (upd (c 86) ((g 85)).toNatClampNeg x1)) 87 (upd ((updA c 86 (upd (c 86) ((g 85)).toNatClampNeg x1)) 87) ((g 85)).toNatClampNeg x2)) 88 (upd ((updA (updA c 86 (upd (c 86) ((g 85)).toNatClampNeg x1)) 87 (upd ((updA c 86 (upd (c 86) ((g 85)).toNatClampNeg x1)) 87) ((g 85)).toNatClampNeg x2)) 88) ((g 85)).toNatClampNeg x3)) 91) ((g 85)).toNatClampNeg x4)) 89 (upd ((updA (updA (updA (updA c 86 (upd (c 86) ((g 85)).toNatClampNeg x1)) 87 (upd ((updA c 86 (upd (c 86) ((g 85)).toNatClampNeg x1)) 87) ((g 85)).toNatClampNeg x2)) 88 (upd ((updA (updA c 86 (upd (c 86) ((g 85)).toNatClampNeg x1)) 87 (upd ((updA c 86 (upd (c 86) ((g 85)).toNatClampNeg x1)) 87) ((g 85)).toNatClampNeg x2)) 88) ((g 85)).toNatClampNeg x3)) 91 (upd ((updA (updA (updA c 86 (upd (c 86) ((g 85)).toNatClampNeg x1)) 87 (upd ((updA c 86 (upd (c 86) ((g 85)).toNatClampNeg x1)) 87) ((g 85)).toNatClampNeg x2)) 88 (upd ((updA (updA c 86 (upd (c 86) ((g 85)).toNatClampNeg x1)) 87 (upd ((updA c 86 (upd (c 86) ((g 85)).toNatClampNeg x1)) 87) ((g 85)).toNatClampNeg x2)) 88) ((g 85)).toNatClampNeg x3)) 91) ((g 85)).toNatClampNeg x4)) 89) ((g 85)).toNatClampNeg ((g 92)))) 90) ((g 85)).toNatClampNeg ((Int32.ofInt (0))))) l) (i := .aload_n 0) (len := 1) rfl hj rfl rfl rfl]
  rw [n_get (st' := [.int (g 85), .ref 49]) (pc' := 69) (lv' := [(0, .ref 49), (1, .int x1), (2, .int x2), (3, .int x3), (4, .int x4)]) (hp' := rH e g q (updA (updA (updA (updA (updA (updA c 86 (upd (c 86) ((g 85)).toNatClampNeg x1)) 87 (upd ((updA c 86 (upd (c 86) ((g 85)).toNatClampNeg x1)) 87) ((g 85)).toNatClampNeg x2)) 88 (upd ((updA (updA c 86 (upd (c 86) ((g 85)).toNatClampNeg x1)) 87 (upd ((updA c 86 (upd (c 86) ((g 85)).toNatClampNeg x1)) 87) ((g 85)).toNatClampNeg x2)) 88) ((g 85)).toNatClampNeg x3)) 91 (upd ((updA (updA (updA c 86 (upd (c 86) ((g 85)).toNatClampNeg x1)) 87 (upd ((updA c 86 (upd (c 86) ((g 85)).toNatClampNeg x1)) 87) ((g 85)).toNatClampNeg x2)) 88 (upd ((updA (updA c 86 (upd (c 86) ((g 85)).toNatClampNeg x1)) 87 (upd ((updA c 86 (upd (c 86) ((g 85)).toNatClampNeg x1)) 87) ((g 85)).toNatClampNeg x2)) 88) ((g 85)).toNatClampNeg x3)) 91) ((g 85)).toNatClampNeg x4)) 89 (upd ((updA (updA (updA (updA c 86 (upd (c 86) ((g 85)).toNatClampNeg x1)) 87 (upd ((updA c 86 (upd (c 86) ((g 85)).toNatClampNeg x1)) 87) ((g 85)).toNatClampNeg x2)) 88 (upd ((updA (updA c 86 (upd (c 86) ((g 85)).toNatClampNeg x1)) 87 (upd ((updA c 86 (upd (c 86) ((g 85)).toNatClampNeg x1)) 87) ((g 85)).toNatClampNeg x2)) 88) ((g 85)).toNatClampNeg x3)) 91 (upd ((updA (updA (updA c 86 (upd (c 86) ((g 85)).toNatClampNeg x1)) 87 (upd ((updA c 86 (upd (c 86) ((g 85)).toNatClampNeg x1)) 87) ((g 85)).toNatClampNeg x2)) 88 (upd ((updA (updA c 86 (upd (c 86) ((g 85)).toNatClampNeg x1)) 87 (upd ((updA c 86 (upd (c 86) ((g 85)).toNatClampNeg x1)) 87) ((g 85)).toNatClampNeg x2)) 88) ((g 85)).toNatClampNeg x3)) 91) ((g 85)).toNatClampNeg x4)) 89) ((g 85)).toNatClampNeg ((g 92)))) 90 (upd ((updA (updA (updA (updA (updA c 86 (upd (c 86) ((g 85)).toNatClampNeg x1)) 87 (upd ((updA c 86 (upd (c 86) ((g 85)).toNatClampNeg x1)) 87) ((g 85)).toNatClampNeg x2)) 88 (upd ((updA (updA c 86 (upd (c 86) ((g 85)).toNatClampNeg x1)) 87 (upd ((updA c 86 (upd (c 86) ((g 85)).toNatClampNeg x1)) 87) ((g 85)).toNatClampNeg x2)) 88) ((g 85)).toNatClampNeg x3)) 91 (upd ((updA (updA (updA c 86 (upd (c 86) ((g 85)).toNatClampNeg x1)) 87 (upd ((updA c 86 (upd (c 86) ((g 85)).toNatClampNeg x1)) 87) ((g 85)).toNatClampNeg x2)) 88 (upd ((updA (updA c 86 (upd (c 86) ((g 85)).toNatClampNeg x1)) 87 (upd ((updA c 86 (upd (c 86) ((g 85)).toNatClampNeg x1)) 87) ((g 85)).toNatClampNeg x2)) 88) ((g 85)).toNatClampNeg x3)) 91) ((g 85)).toNatClampNeg x4)) 89 (upd ((updA (updA (updA (updA c 86 (upd (c 86) ((g 85)).toNatClampNeg x1)) 87 (upd ((updA c 86 (upd (c 86) ((g 85)).toNatClampNeg x1)) 87) ((g 85)).toNatClampNeg x2)) 88 (upd ((updA (updA c 86 (upd (c 86) ((g 85)).toNatClampNeg x1)) 87 (upd ((updA c 86 (upd (c 86) ((g 85)).toNatClampNeg x1)) 87) ((g 85)).toNatClampNeg x2)) 88) ((g 85)).toNatClampNeg x3)) 91 (upd ((updA (updA (updA c 86 (upd (c 86) ((g 85)).toNatClampNeg x1)) 87 (upd ((updA c 86 (upd (c 86) ((g 85)).toNatClampNeg x1)) 87) ((g 85)).toNatClampNeg x2)) 88 (upd ((updA (updA c 86 (upd (c 86) ((g 85)).toNatClampNeg x1)) 87 (upd ((updA c 86 (upd (c 86) ((g 85)).toNatClampNeg x1)) 87) ((g 85)).toNatClampNeg x2)) 88) ((g 85)).toNatClampNeg x3)) 91) ((g 85)).toNatClampNeg x4)) 89) ((g 85)).toNatClampNeg ((g 92)))) 90) ((g 85)).toNatClampNeg ((Int32.ofInt (0))))) l) (i := .getfield 679) (len := 3) rfl hj rfl rfl rfl rfl]
  rw [n_step (st' := [.int (Int32.ofInt (1)), .int (g 85), .ref 49]) (pc' := 70) (lv' := [(0, .ref 49), (1, .int x1), (2, .int x2), (3, .int x3), (4, .int x4)]) (hp' := rH e g q (updA (updA (updA (updA (updA (updA c 86 (upd (c 86) ((g 85)).toNatClampNeg x1)) 87 (upd ((updA c 86 (upd (c 86) ((g 85)).toNatClampNeg x1)) 87) ((g 85)).toNatClampNeg x2)) 88 (upd ((updA (updA c 86 (upd (c 86) ((g 85)).toNatClampNeg x1)) 87 (upd ((updA c 86 (upd (c 86) ((g 85)).toNatClampNeg x1)) 87) ((g 85)).toNatClampNeg x2)) 88) ((g 85)).toNatClampNeg x3)) 91 (upd ((updA (updA (updA c 86 (upd (c 86) ((g 85)).toNatClampNeg x1)) 87 (upd ((updA c 86 (upd (c 86) ((g 85)).toNatClampNeg x1)) 87) ((g 85)).toNatClampNeg x2)) 88 (upd ((updA (updA c 86 (upd (c 86) ((g 85)).toNatClampNeg x1)) 87 (upd ((updA c 86 (upd (c 86) ((g 85)).toNatClampNeg x1)) 87) ((g 85)).toNatClampNeg x2)) 88) ((g 85)).toNatClampNeg x3)) 91) ((g 85)).toNatClampNeg x4)) 89 (upd ((updA (updA (updA (updA c 86 (upd (c 86) ((g 85)).toNatClampNeg x1)) 87 (upd ((updA c 86 (upd (c 86) ((g 85)).toNatClampNeg x1)) 87) ((g 85)).toNatClampNeg x2)) 88 (upd ((updA (updA c 86 (upd (c 86) ((g 85)).toNatClampNeg x1)) 87 (upd ((updA c 86 (upd (c 86) ((g 85)).toNatClampNeg x1)) 87) ((g 85)).toNatClampNeg x2)) 88) ((g 85)).toNatClampNeg x3)) 91 (upd ((updA (updA (updA c 86 (upd (c 86) ((g 85)).toNatClampNeg x1)) 87 (upd ((updA c 86 (upd (c 86) ((g 85)).toNatClampNeg x1)) 87) ((g 85)).toNatClampNeg x2)) 88 (upd ((updA (updA c 86 (upd (c 86) ((g 85)).toNatClampNeg x1)) 87 (upd ((updA c 86 (upd (c 86) ((g 85)).toNatClampNeg x1)) 87) ((g 85)).toNatClampNeg x2)) 88) ((g 85)).toNatClampNeg x3)) 91) ((g 85)).toNatClampNeg x4)) 89) ((g 85)).toNatClampNeg ((g 92)))) 90 (upd ((updA (updA (updA (updA (updA c 86 (upd (c 86) ((g 85)).toNatClampNeg x1)) 87 (upd ((updA c 86 (upd (c 86) ((g 85)).toNatClampNeg x1)) 87) ((g 85)).toNatClampNeg x2)) 88 (upd ((updA (updA c 86 (upd (c 86) ((g 85)).toNatClampNeg x1)) 87 (upd ((updA c 86 (upd (c 86) ((g 85)).toNatClampNeg x1)) 87) ((g 85)).toNatClampNeg x2)) 88) ((g 85)).toNatClampNeg x3)) 91 (upd ((updA (updA (updA c 86 (upd (c 86) ((g 85)).toNatClampNeg x1)) 87 (upd ((updA c 86 (upd (c 86) ((g 85)).toNatClampNeg x1)) 87) ((g 85)).toNatClampNeg x2)) 88 (upd ((updA (updA c 86 (upd (c 86) ((g 85)).toNatClampNeg x1)) 87 (upd ((updA c 86 (upd (c 86) ((g 85)).toNatClampNeg x1)) 87) ((g 85)).toNatClampNeg x2)) 88) ((g 85)).toNatClampNeg x3)) 91) ((g 85)).toNatClampNeg x4)) 89 (upd ((updA (updA (updA (updA c 86 (upd (c 86) ((g 85)).toNatClampNeg x1)) 87 (upd ((updA c 86 (upd (c 86) ((g 85)).toNatClampNeg x1)) 87) ((g 85)).toNatClampNeg x2)) 88 (upd ((updA (updA c 86 (upd (c 86) ((g 85)).toNatClampNeg x1)) 87 (upd ((updA c 86 (upd (c 86) ((g 85)).toNatClampNeg x1)) 87) ((g 85)).toNatClampNeg x2)) 88) ((g 85)).toNatClampNeg x3)) 91 (upd ((updA (updA (updA c 86 (upd (c 86) ((g 85)).toNatClampNeg x1)) 87 (upd ((updA c 86 (upd (c 86) ((g 85)).toNatClampNeg x1)) 87) ((g 85)).toNatClampNeg x2)) 88 (upd ((updA (updA c 86 (upd (c 86) ((g 85)).toNatClampNeg x1)) 87 (upd ((updA c 86 (upd (c 86) ((g 85)).toNatClampNeg x1)) 87) ((g 85)).toNatClampNeg x2)) 88) ((g 85)).toNatClampNeg x3)) 91) ((g 85)).toNatClampNeg x4)) 89) ((g 85)).toNatClampNeg ((g 92)))) 90) ((g 85)).toNatClampNeg ((Int32.ofInt (0))))) l) (i := .iconst 1) (len := 1) rfl hj rfl rfl rfl]
  rw [n_step (st' := [.int ((g 85) + (Int32.ofInt (1))), .ref 49]) (pc' := 71) (lv' := [(0, .ref 49), (1, .int x1), (2, .int x2), (3, .int x3), (4, .int x4)]) (hp' := rH e g q (updA (updA (updA (updA (updA (updA c 86 (upd (c 86) ((g 85)).toNatClampNeg x1)) 87 (upd ((updA c 86 (upd (c 86) ((g 85)).toNatClampNeg x1)) 87) ((g 85)).toNatClampNeg x2)) 88 (upd ((updA (updA c 86 (upd (c 86) ((g 85)).toNatClampNeg x1)) 87 (upd ((updA c 86 (upd (c 86) ((g 85)).toNatClampNeg x1)) 87) ((g 85)).toNatClampNeg x2)) 88) ((g 85)).toNatClampNeg x3)) 91 (upd ((updA (updA (updA c 86 (upd (c 86) ((g 85)).toNatClampNeg x1)) 87 (upd ((updA c 86 (upd (c 86) ((g 85)).toNatClampNeg x1)) 87) ((g 85)).toNatClampNeg x2)) 88 (upd ((updA (updA c 86 (upd (c 86) ((g 85)).toNatClampNeg x1)) 87 (upd ((updA c 86 (upd (c 86) ((g 85)).toNatClampNeg x1)) 87) ((g 85)).toNatClampNeg x2)) 88) ((g 85)).toNatClampNeg x3)) 91) ((g 85)).toNatClampNeg x4)) 89 (upd ((updA (updA (updA (updA c 86 (upd (c 86) ((g 85)).toNatClampNeg x1)) 87 (upd ((updA c 86 (upd (c 86) ((g 85)).toNatClampNeg x1)) 87) ((g 85)).toNatClampNeg x2)) 88 (upd ((updA (updA c 86 (upd (c 86) ((g 85)).toNatClampNeg x1)) 87 (upd ((updA c 86 (upd (c 86) ((g 85)).toNatClampNeg x1)) 87) ((g 85)).toNatClampNeg x2)) 88) ((g 85)).toNatClampNeg x3)) 91 (upd ((updA (updA (updA c 86 (upd (c 86) ((g 85)).toNatClampNeg x1)) 87 (upd ((updA c 86 (upd (c 86) ((g 85)).toNatClampNeg x1)) 87) ((g 85)).toNatClampNeg x2)) 88 (upd ((updA (updA c 86 (upd (c 86) ((g 85)).toNatClampNeg x1)) 87 (upd ((updA c 86 (upd (c 86) ((g 85)).toNatClampNeg x1)) 87) ((g 85)).toNatClampNeg x2)) 88) ((g 85)).toNatClampNeg x3)) 91) ((g 85)).toNatClampNeg x4)) 89) ((g 85)).toNatClampNeg ((g 92)))) 90 (upd ((updA (updA (updA (updA (updA c 86 (upd (c 86) ((g 85)).toNatClampNeg x1)) 87 (upd ((updA c 86 (upd (c 86) ((g 85)).toNatClampNeg x1)) 87) ((g 85)).toNatClampNeg x2)) 88 (upd ((updA (updA c 86 (upd (c 86) ((g 85)).toNatClampNeg x1)) 87 (upd ((updA c 86 (upd (c 86) ((g 85)).toNatClampNeg x1)) 87) ((g 85)).toNatClampNeg x2)) 88) ((g 85)).toNatClampNeg x3)) 91 (upd ((updA (updA (updA c 86 (upd (c 86) ((g 85)).toNatClampNeg x1)) 87 (upd ((updA c 86 (upd (c 86) ((g 85)).toNatClampNeg x1)) 87) ((g 85)).toNatClampNeg x2)) 88 (upd ((updA (updA c 86 (upd (c 86) ((g 85)).toNatClampNeg x1)) 87 (upd ((updA c 86 (upd (c 86) ((g 85)).toNatClampNeg x1)) 87) ((g 85)).toNatClampNeg x2)) 88) ((g 85)).toNatClampNeg x3)) 91) ((g 85)).toNatClampNeg x4)) 89 (upd ((updA (updA (updA (updA c 86 (upd (c 86) ((g 85)).toNatClampNeg x1)) 87 (upd ((updA c 86 (upd (c 86) ((g 85)).toNatClampNeg x1)) 87) ((g 85)).toNatClampNeg x2)) 88 (upd ((updA (updA c 86 (upd (c 86) ((g 85)).toNatClampNeg x1)) 87 (upd ((updA c 86 (upd (c 86) ((g 85)).toNatClampNeg x1)) 87) ((g 85)).toNatClampNeg x2)) 88) ((g 85)).toNatClampNeg x3)) 91 (upd ((updA (updA (updA c 86 (upd (c 86) ((g 85)).toNatClampNeg x1)) 87 (upd ((updA c 86 (upd (c 86) ((g 85)).toNatClampNeg x1)) 87) ((g 85)).toNatClampNeg x2)) 88 (upd ((updA (updA c 86 (upd (c 86) ((g 85)).toNatClampNeg x1)) 87 (upd ((updA c 86 (upd (c 86) ((g 85)).toNatClampNeg x1)) 87) ((g 85)).toNatClampNeg x2)) 88) ((g 85)).toNatClampNeg x3)) 91) ((g 85)).toNatClampNeg x4)) 89) ((g 85)).toNatClampNeg ((g 92)))) 90) ((g 85)).toNatClampNeg ((Int32.ofInt (0))))) l) (i := .iadd) (len := 1) rfl hj rfl rfl rfl]
  rw [n_put (st' := []) (hp' := rH e (upd g 85 (((g 85) + (Int32.ofInt (1))))) q (updA (updA (updA (updA (updA (updA c 86 (upd (c 86) ((g 85)).toNatClampNeg x1)) 87 (upd ((updA c 86 (upd (c 86) ((g 85)).toNatClampNeg x1)) 87) ((g 85)).toNatClampNeg x2)) 88 (upd ((updA (updA c 86 (upd (c 86) ((g 85)).toNatClampNeg x1)) 87 (upd ((updA c 86 (upd (c 86) ((g 85)).toNatClampNeg x1)) 87) ((g 85)).toNatClampNeg x2)) 88) ((g 85)).toNatClampNeg x3)) 91 (upd ((updA (updA (updA c 86 (upd (c 86) ((g 85)).toNatClampNeg x1)) 87 (upd ((updA c 86 (upd (c 86) ((g 85)).toNatClampNeg x1)) 87) ((g 85)).toNatClampNeg x2)) 88 (upd ((updA (updA c 86 (upd (c 86) ((g 85)).toNatClampNeg x1)) 87 (upd ((updA c 86 (upd (c 86) ((g 85)).toNatClampNeg x1)) 87) ((g 85)).toNatClampNeg x2)) 88) ((g 85)).toNatClampNeg x3)) 91) ((g 85)).toNatClampNeg x4)) 89 (upd ((updA (updA (updA (updA c 86 (upd (c 86) ((g 85)).toNatClampNeg x1)) 87 (upd ((updA c 86 (upd (c 86) ((g 85)).toNatClampNeg x1)) 87) ((g 85)).toNatClampNeg x2)) 88 (upd ((updA (updA c 86 (upd (c 86) ((g 85)).toNatClampNeg x1)) 87 (upd ((updA c 86 (upd (c 86) ((g 85)).toNatClampNeg x1)) 87) ((g 85)).toNatClampNeg x2)) 88) ((g 85)).toNatClampNeg x3)) 91 (upd ((updA (updA (updA c 86 (upd (c 86) ((g 85)).toNatClampNeg x1)) 87 (upd ((updA c 86 (upd (c 86) ((g 85)).toNatClampNeg x1)) 87) ((g 85)).toNatClampNeg x2)) 88 (upd ((updA (updA c 86 (upd (c 86) ((g 85)).toNatClampNeg x1)) 87 (upd ((updA c 86 (upd (c 86) ((g 85)).toNatClampNeg x1)) 87) ((g 85)).toNatClampNeg x2)) 88) ((g 85)).toNatClampNeg x3)) 91) ((g 85)).toNatClampNeg x4)) 89) ((g 85)).toNatClampNeg ((g 92)))) 90 (upd ((updA (updA (updA (updA (updA c 86 (upd (c 86) ((g 85)).toNatClampNeg x1)) 87 (upd ((updA c 86 (upd (c 86) ((g 85)).toNatClampNeg x1)) 87) ((g 85)).toNatClampNeg x2)) 88 (upd ((updA (updA c 86 (upd (c 86) ((g 85)).toNatClampNeg x1)) 87 (upd ((updA c 86 (upd (c 86) ((g 85)).toNatClampNeg x1)) 87) ((g 85)).toNatClampNeg x2)) 88) ((g 85)).toNatClampNeg x3)) 91 (upd ((updA (updA (updA c 86 (upd (c 86) ((g 85)).toNatClampNeg x1)) 87 (upd ((updA c 86 (upd (c 86) ((g 85)).toNatClampNeg x1)) 87) ((g 85)).toNatClampNeg x2)) 88 (upd ((updA (updA c 86 (upd (c 86) ((g 85)).toNatClampNeg x1)) 87 (upd ((updA c 86 (upd (c 86) ((g 85)).toNatClampNeg x1)) 87) ((g 85)).toNatClampNeg x2)) 88) ((g 85)).toNatClampNeg x3)) 91) ((g 85)).toNatClampNeg x4)) 89 (upd ((updA (updA (updA (updA c 86 (upd (c 86) ((g 85)).toNatClampNeg x1)) 87 (upd ((updA c 86 (upd (c 86) ((g 85)).toNatClampNeg x1)) 87) ((g 85)).toNatClampNeg x2)) 88 (upd ((updA (updA c 86 (upd (c 86) ((g 85)).toNatClampNeg x1)) 87 (upd ((updA c 86 (upd (c 86) ((g 85)).toNatClampNeg x1)) 87) ((g 85)).toNatClampNeg x2)) 88) ((g 85)).toNatClampNeg x3)) 91 (upd ((updA (updA (updA c 86 (upd (c 86) ((g 85)).toNatClampNeg x1)) 87 (upd ((updA c 86 (upd (c 86) ((g 85)).toNatClampNeg x1)) 87) ((g 85)).toNatClampNeg x2)) 88 (upd ((updA (updA c 86 (upd (c 86) ((g 85)).toNatClampNeg x1)) 87 (upd ((updA c 86 (upd (c 86) ((g 85)).toNatClampNeg x1)) 87) ((g 85)).toNatClampNeg x2)) 88) ((g 85)).toNatClampNeg x3)) 91) ((g 85)).toNatClampNeg x4)) 89) ((g 85)).toNatClampNeg ((g 92)))) 90) ((g 85)).toNatClampNeg ((Int32.ofInt (0))))) l) rfl hj pf_85]
  rw [n_step (st' := [.ref 49]) (pc' := 75) (lv' := [(0, .ref 49), (1, .int x1), (2, .int x2), (3, .int x3), (4, .int x4)]) (hp' := rH e (upd g 85 (((g 85) + (Int32.ofInt (1))))) q (updA (updA (updA (updA (updA (updA c 86 (upd (c 86) ((g 85)).toNatClampNeg x1)) 87 (upd ((updA c 86 (upd (c 86) ((g 85)).toNatClampNeg x1)) 87) ((g 85)).toNatClampNeg x2)) 88 (upd ((updA (updA c 86 (upd (c 86) ((g 85)).toNatClampNeg x1)) 87 (upd ((updA c 86 (upd (c 86) ((g 85)).toNatClampNeg x1)) 87) ((g 85)).toNatClampNeg x2)) 88) ((g 85)).toNatClampNeg x3)) 91 (upd ((updA (updA (updA c 86 (upd (c 86) ((g 85)).toNatClampNeg x1)) 87 (upd ((updA c 86 (upd (c 86) ((g 85)).toNatClampNeg x1)) 87) ((g 85)).toNatClampNeg x2)) 88 (upd ((updA (updA c 86 (upd (c 86) ((g 85)).toNatClampNeg x1)) 87 (upd ((updA c 86 (upd (c 86) ((g 85)).toNatClampNeg x1)) 87) ((g 85)).toNatClampNeg x2)) 88) ((g 85)).toNatClampNeg x3)) 91) ((g 85)).toNatClampNeg x4)) 89 (upd ((updA (updA (updA (updA c 86 (upd (c 86) ((g 85)).toNatClampNeg x1)) 87 (upd ((updA c 86 (upd (c 86) ((g 85)).toNatClampNeg x1)) 87) ((g 85)).toNatClampNeg x2)) 88 (upd ((updA (updA c 86 (upd (c 86) ((g 85)).toNatClampNeg x1)) 87 (upd ((updA c 86 (upd (c 86) ((g 85)).toNatClampNeg x1)) 87) ((g 85)).toNatClampNeg x2)) 88) ((g 85)).toNatClampNeg x3)) 91 (upd ((updA (updA (updA c 86 (upd (c 86) ((g 85)).toNatClampNeg x1)) 87 (upd ((updA c 86 (upd (c 86) ((g 85)).toNatClampNeg x1)) 87) ((g 85)).toNatClampNeg x2)) 88 (upd ((updA (updA c 86 (upd (c 86) ((g 85)).toNatClampNeg x1)) 87 (upd ((updA c 86 (upd (c 86) ((g 85)).toNatClampNeg x1)) 87) ((g 85)).toNatClampNeg x2)) 88) ((g 85)).toNatClampNeg x3)) 91) ((g 85)).toNatClampNeg x4)) 89) ((g 85)).toNatClampNeg ((g 92)))) 90 (upd ((updA (updA (updA (updA (updA c 86 (upd (c 86) ((g 85)).toNatClampNeg x1)) 87 (upd ((updA c 86 (upd (c 86) ((g 85)).toNatClampNeg x1)) 87) ((g 85)).toNatClampNeg x2)) 88 (upd ((updA (updA c 86 (upd (c 86) ((g 85)).toNatClampNeg x1)) 87 (upd ((updA c 86 (upd (c 86) ((g 85)).toNatClampNeg x1)) 87) ((g 85)).toNatClampNeg x2)) 88) ((g 85)).toNatClampNeg x3)) 91 (upd ((updA (updA (updA c 86 (upd (c 86) ((g 85)).toNatClampNeg x1)) 87 (upd ((updA c 86 (upd (c 86) ((g 85)).toNatClampNeg x1)) 87) ((g 85)).toNatClampNeg x2)) 88 (upd ((updA (updA c 86 (upd (c 86) ((g 85)).toNatClampNeg x1)) 87 (upd ((updA c 86 (upd (c 86) ((g 85)).toNatClampNeg x1)) 87) ((g 85)).toNatClampNeg x2)) 88) ((g 85)).toNatClampNeg x3)) 91) ((g 85)).toNatClampNeg x4)) 89 (upd ((updA (updA (updA (updA c 86 (upd (c 86) ((g 85)).toNatClampNeg x1)) 87 (upd ((updA c 86 (upd (c 86) ((g 85)).toNatClampNeg x1)) 87) ((g 85)).toNatClampNeg x2)) 88 (upd ((updA (updA c 86 (upd (c 86) ((g 85)).toNatClampNeg x1)) 87 (upd ((updA c 86 (upd (c 86) ((g 85)).toNatClampNeg x1)) 87) ((g 85)).toNatClampNeg x2)) 88) ((g 85)).toNatClampNeg x3)) 91 (upd ((updA (updA (updA c 86 (upd (c 86) ((g 85)).toNatClampNeg x1)) 87 (upd ((updA c 86 (upd (c 86) ((g 85)).toNatClampNeg x1)) 87) ((g 85)).toNatClampNeg x2)) 88 (upd ((updA (updA c 86 (upd (c 86) ((g 85)).toNatClampNeg x1)) 87 (upd ((updA c 86 (upd (c 86) ((g 85)).toNatClampNeg x1)) 87) ((g 85)).toNatClampNeg x2)) 88) ((g 85)).toNatClampNeg x3)) 91) ((g 85)).toNatClampNeg x4)) 89) ((g 85)).toNatClampNeg ((g 92)))) 90) ((g 85)).toNatClampNeg ((Int32.ofInt (0))))) l) (i := .aload_n 0) (len := 1) rfl hj rfl rfl rfl]
  rw [n_get (st' := [.int ((upd g 85 (((g 85) + (Int32.ofInt (1))))) 85)]) (pc' := 78) (lv' := [(0, .ref 49), (1, .int x1), (2, .int x2), (3, .int x3), (4, .int x4)]) (hp' := rH e (upd g 85 (((g 85) + (Int32.ofInt (1))))) q (updA (updA (updA (updA (updA (updA c 86 (upd (c 86) ((g 85)).toNatClampNeg x1)) 87 (upd ((updA c 86 (upd (c 86) ((g 85)).toNatClampNeg x1)) 87) ((g 85)).toNatClampNeg x2)) 88 (upd ((updA (updA c 86 (upd (c 86) ((g 85)).toNatClampNeg x1)) 87 (upd ((updA c 86 (upd (c 86) ((g 85)).toNatClampNeg x1)) 87) ((g 85)).toNatClampNeg x2)) 88) ((g 85)).toNatClampNeg x3)) 91 (upd ((updA (updA (updA c 86 (upd (c 86) ((g 85)).toNatClampNeg x1)) 87 (upd ((updA c 86 (upd (c 86) ((g 85)).toNatClampNeg x1)) 87) ((g 85)).toNatClampNeg x2)) 88 (upd ((updA (updA c 86 (upd (c 86) ((g 85)).toNatClampNeg x1)) 87 (upd ((updA c 86 (upd (c 86) ((g 85)).toNatClampNeg x1)) 87) ((g 85)).toNatClampNeg x2)) 88) ((g 85)).toNatClampNeg x3)) 91) ((g 85)).toNatClampNeg x4)) 89 (upd ((updA (updA (updA (updA c 86 (upd (c 86) ((g 85)).toNatClampNeg x1)) 87 (upd ((updA c 86 (upd (c 86) ((g 85)).toNatClampNeg x1)) 87) ((g 85)).toNatClampNeg x2)) 88 (upd ((updA (updA c 86 (upd (c 86) ((g 85)).toNatClampNeg x1)) 87 (upd ((updA c 86 (upd (c 86) ((g 85)).toNatClampNeg x1)) 87) ((g 85)).toNatClampNeg x2)) 88) ((g 85)).toNatClampNeg x3)) 91 (upd ((updA (updA (updA c 86 (upd (c 86) ((g 85)).toNatClampNeg x1)) 87 (upd ((updA c 86 (upd (c 86) ((g 85)).toNatClampNeg x1)) 87) ((g 85)).toNatClampNeg x2)) 88 (upd ((updA (updA c 86 (upd (c 86) ((g 85)).toNatClampNeg x1)) 87 (upd ((updA c 86 (upd (c 86) ((g 85)).toNatClampNeg x1)) 87) ((g 85)).toNatClampNeg x2)) 88) ((g 85)).toNatClampNeg x3)) 91) ((g 85)).toNatClampNeg x4)) 89) ((g 85)).toNatClampNeg ((g 92)))) 90 (upd ((updA (updA (updA (updA (updA c 86 (upd (c 86) ((g 85)).toNatClampNeg x1)) 87 (upd ((updA c 86 (upd (c 86) ((g 85)).toNatClampNeg x1)) 87) ((g 85)).toNatClampNeg x2)) 88 (upd ((updA (updA c 86 (upd (c 86) ((g 85)).toNatClampNeg x1)) 87 (upd ((updA c 86 (upd (c 86) ((g 85)).toNatClampNeg x1)) 87) ((g 85)).toNatClampNeg x2)) 88) ((g 85)).toNatClampNeg x3)) 91 (upd ((updA (updA (updA c 86 (upd (c 86) ((g 85)).toNatClampNeg x1)) 87 (upd ((updA c 86 (upd (c 86) ((g 85)).toNatClampNeg x1)) 87) ((g 85)).toNatClampNeg x2)) 88 (upd ((updA (updA c 86 (upd (c 86) ((g 85)).toNatClampNeg x1)) 87 (upd ((updA c 86 (upd (c 86) ((g 85)).toNatClampNeg x1)) 87) ((g 85)).toNatClampNeg x2)) 88) ((g 85)).toNatClampNeg x3)) 91) ((g 85)).toNatClampNeg x4)) 89 (upd ((updA (updA (updA (updA c 86 (upd (c 86) ((g 85)).toNatClampNeg x1)) 87 (upd ((updA c 86 (upd (c 86) ((g 85)).toNatClampNeg x1)) 87) ((g 85)).toNatClampNeg x2)) 88 (upd ((updA (updA c 86 (upd (c 86) ((g 85)).toNatClampNeg x1)) 87 (upd ((updA c 86 (upd (c 86) ((g 85)).toNatClampNeg x1)) 87) ((g 85)).toNatClampNeg x2)) 88) ((g 85)).toNatClampNeg x3)) 91 (upd ((updA (updA (updA c 86 (upd (c 86) ((g 85)).toNatClampNeg x1)) 87 (upd ((updA c 86 (upd (c 86) ((g 85)).toNatClampNeg x1)) 87) ((g 85)).toNatClampNeg x2)) 88 (upd ((updA (updA c 86 (upd (c 86) ((g 85)).toNatClampNeg x1)) 87 (upd ((updA c 86 (upd (c 86) ((g 85)).toNatClampNeg x1)) 87) ((g 85)).toNatClampNeg x2)) 88) ((g 85)).toNatClampNeg x3)) 91) ((g 85)).toNatClampNeg x4)) 89) ((g 85)).toNatClampNeg ((g 92)))) 90) ((g 85)).toNatClampNeg ((Int32.ofInt (0))))) l) (i := .getfield 679) (len := 3) rfl hj rfl rfl rfl rfl]
  rw [n_step (st' := [.int (Int32.ofInt (1)), .int ((upd g 85 (((g 85) + (Int32.ofInt (1))))) 85)]) (pc' := 79) (lv' := [(0, .ref 49), (1, .int x1), (2, .int x2), (3, .int x3), (4, .int x4)]) (hp' := rH e (upd g 85 (((g 85) + (Int32.ofInt (1))))) q (updA (updA (updA (updA (updA (updA c 86 (upd (c 86) ((g 85)).toNatClampNeg x1)) 87 (upd ((updA c 86 (upd (c 86) ((g 85)).toNatClampNeg x1)) 87) ((g 85)).toNatClampNeg x2)) 88 (upd ((updA (updA c 86 (upd (c 86) ((g 85)).toNatClampNeg x1)) 87 (upd ((updA c 86 (upd (c 86) ((g 85)).toNatClampNeg x1)) 87) ((g 85)).toNatClampNeg x2)) 88) ((g 85)).toNatClampNeg x3)) 91 (upd ((updA (updA (updA c 86 (upd (c 86) ((g 85)).toNatClampNeg x1)) 87 (upd ((updA c 86 (upd (c 86) ((g 85)).toNatClampNeg x1)) 87) ((g 85)).toNatClampNeg x2)) 88 (upd ((updA (updA c 86 (upd (c 86) ((g 85)).toNatClampNeg x1)) 87 (upd ((updA c 86 (upd (c 86) ((g 85)).toNatClampNeg x1)) 87) ((g 85)).toNatClampNeg x2)) 88) ((g 85)).toNatClampNeg x3)) 91) ((g 85)).toNatClampNeg x4)) 89 (upd ((updA (updA (updA (updA c 86 (upd (c 86) ((g 85)).toNatClampNeg x1)) 87 (upd ((updA c 86 (upd (c 86) ((g 85)).toNatClampNeg x1)) 87) ((g 85)).toNatClampNeg x2)) 88 (upd ((updA (updA c 86 (upd (c 86) ((g 85)).toNatClampNeg x1)) 87 (upd ((updA c 86 (upd (c 86) ((g 85)).toNatClampNeg x1)) 87) ((g 85)).toNatClampNeg x2)) 88) ((g 85)).toNatClampNeg x3)) 91 (upd ((updA (updA (updA c 86 (upd (c 86) ((g 85)).toNatClampNeg x1)) 87 (upd ((updA c 86 (upd (c 86) ((g 85)).toNatClampNeg x1)) 87) ((g 85)).toNatClampNeg x2)) 88 (upd ((updA (updA c 86 (upd (c 86) ((g 85)).toNatClampNeg x1)) 87 (upd ((updA c 86 (upd (c 86) ((g 85)).toNatClampNeg x1)) 87) ((g 85)).toNatClampNeg x2)) 88) ((g 85)).toNatClampNeg x3)) 91) ((g 85)).toNatClampNeg x4)) 89) ((g 85)).toNatClampNeg ((g 92)))) 90 (upd ((updA (updA (updA (updA (updA c 86 (upd (c 86) ((g 85)).toNatClampNeg x1)) 87 (upd ((updA c 86 (upd (c 86) ((g 85)).toNatClampNeg x1)) 87) ((g 85)).toNatClampNeg x2)) 88 (upd ((updA (updA c 86 (upd (c 86) ((g 85)).toNatClampNeg x1)) 87 (upd ((updA c 86 (upd (c 86) ((g 85)).toNatClampNeg x1)) 87) ((g 85)).toNatClampNeg x2)) 88) ((g 85)).toNatClampNeg x3)) 91 (upd ((updA (updA (updA c 86 (upd (c 86) ((g 85)).toNatClampNeg x1)) 87 (upd ((updA c 86 (upd (c 86) ((g 85)).toNatClampNeg x1)) 87) ((g 85)).toNatClampNeg x2)) 88 (upd ((updA (updA c 86 (upd (c 86) ((g 85)).toNatClampNeg x1)) 87 (upd ((updA c 86 (upd (c 86) ((g 85)).toNatClampNeg x1)) 87) ((g 85)).toNatClampNeg x2)) 88) ((g 85)).toNatClampNeg x3)) 91) ((g 85)).toNatClampNeg x4)) 89 (upd ((updA (updA (updA (updA c 86 (upd (c 86) ((g 85)).toNatClampNeg x1)) 87 (upd ((updA c 86 (upd (c 86) ((g 85)).toNatClampNeg x1)) 87) ((g 85)).toNatClampNeg x2)) 88 (upd ((updA (updA c 86 (upd (c 86) ((g 85)).toNatClampNeg x1)) 87 (upd ((updA c 86 (upd (c 86) ((g 85)).toNatClampNeg x1)) 87) ((g 85)).toNatClampNeg x2)) 88) ((g 85)).toNatClampNeg x3)) 91 (upd ((updA (updA (updA c 86 (upd (c 86) ((g 85)).toNatClampNeg x1)) 87 (upd ((updA c 86 (upd (c 86) ((g 85)).toNatClampNeg x1)) 87) ((g 85)).toNatClampNeg x2)) 88 (upd ((updA (updA c 86 (upd (c 86) ((g 85)).toNatClampNeg x1)) 87 (upd ((updA c 86 (upd (c 86) ((g 85)).toNatClampNeg x1)) 87) ((g 85)).toNatClampNeg x2)) 88) ((g 85)).toNatClampNeg x3)) 91) ((g 85)).toNatClampNeg x4)) 89) ((g 85)).toNatClampNeg ((g 92)))) 90) ((g 85)).toNatClampNeg ((Int32.ofInt (0))))) l) (i := .iconst 1) (len := 1) rfl hj rfl rfl rfl]
  rw [n_step (st' := [.int (((upd g 85 (((g 85) + (Int32.ofInt (1))))) 85) - (Int32.ofInt (1)))]) (pc' := 80) (lv' := [(0, .ref 49), (1, .int x1), (2, .int x2), (3, .int x3), (4, .int x4)]) (hp' := rH e (upd g 85 (((g 85) + (Int32.ofInt (1))))) q (updA (updA (updA (updA (updA (updA c 86 (upd (c 86) ((g 85)).toNatClampNeg x1)) 87 (upd ((updA c 86 (upd (c 86) ((g 85)).toNatClampNeg x1)) 87) ((g 85)).toNatClampNeg x2)) 88 (upd ((updA (updA c 86 (upd (c 86) ((g 85)).toNatClampNeg x1)) 87 (upd ((updA c 86 (upd (c 86) ((g 85)).toNatClampNeg x1)) 87) ((g 85)).toNatClampNeg x2)) 88) ((g 85)).toNatClampNeg x3)) 91 (upd ((updA (updA (updA c 86 (upd (c 86) ((g 85)).toNatClampNeg x1)) 87 (upd ((updA c 86 (upd (c 86) ((g 85)).toNatClampNeg x1)) 87) ((g 85)).toNatClampNeg x2)) 88 (upd ((updA (updA c 86 (upd (c 86) ((g 85)).toNatClampNeg x1)) 87 (upd ((updA c 86 (upd (c 86) ((g 85)).toNatClampNeg x1)) 87) ((g 85)).toNatClampNeg x2)) 88) ((g 85)).toNatClampNeg x3)) 91) ((g 85)).toNatClampNeg x4)) 89 (upd ((updA (updA (updA (updA c 86 (upd (c 86) ((g 85)).toNatClampNeg x1)) 87 (upd ((updA c 86 (upd (c 86) ((g 85)).toNatClampNeg x1)) 87) ((g 85)).toNatClampNeg x2)) 88 (upd ((updA (updA c 86 (upd (c 86) ((g 85)).toNatClampNeg x1)) 87 (upd ((updA c 86 (upd (c 86) ((g 85)).toNatClampNeg x1)) 87) ((g 85)).toNatClampNeg x2)) 88) ((g 85)).toNatClampNeg x3)) 91 (upd ((updA (updA (updA c 86 (upd (c 86) ((g 85)).toNatClampNeg x1)) 87 (upd ((updA c 86 (upd (c 86) ((g 85)).toNatClampNeg x1)) 87) ((g 85)).toNatClampNeg x2)) 88 (upd ((updA (updA c 86 (upd (c 86) ((g 85)).toNatClampNeg x1)) 87 (upd ((updA c 86 (upd (c 86) ((g 85)).toNatClampNeg x1)) 87) ((g 85)).toNatClampNeg x2)) 88) ((g 85)).toNatClampNeg x3)) 91) ((g 85)).toNatClampNeg x4)) 89) ((g 85)).toNatClampNeg ((g 92)))) 90 (upd ((updA (updA (updA (updA (updA c 86 (upd (c 86) ((g 85)).toNatClampNeg x1)) 87 (upd ((updA c 86 (upd (c 86) ((g 85)).toNatClampNeg x1)) 87) ((g 85)).toNatClampNeg x2)) 88 (upd ((updA (updA c 86 (upd (c 86) ((g 85)).toNatClampNeg x1)) 87 (upd ((updA c 86 (upd (c 86) ((g 85)).toNatClampNeg x1)) 87) ((g 85)).toNatClampNeg x2)) 88) ((g 85)).toNatClampNeg x3)) 91 (upd ((updA (updA (updA c 86 (upd (c 86) ((g 85)).toNatClampNeg x1)) 87 (upd ((updA c 86 (upd (c 86) ((g 85)).toNatClampNeg x1)) 87) ((g 85)).toNatClampNeg x2)) 88 (upd ((updA (updA c 86 (upd (c 86) ((g 85)).toNatClampNeg x1)) 87 (upd ((updA c 86 (upd (c 86) ((g 85)).toNatClampNeg x1)) 87) ((g 85)).toNatClampNeg x2)) 88) ((g 85)).toNatClampNeg x3)) 91) ((g 85)).toNatClampNeg x4)) 89 (upd ((updA (updA (updA (updA c 86 (upd (c 86) ((g 85)).toNatClampNeg x1)) 87 (upd ((updA c 86 (upd (c 86) ((g 85)).toNatClampNeg x1)) 87) ((g 85)).toNatClampNeg x2)) 88 (upd ((updA (updA c 86 (upd (c 86) ((g 85)).toNatClampNeg x1)) 87 (upd ((updA c 86 (upd (c 86) ((g 85)).toNatClampNeg x1)) 87) ((g 85)).toNatClampNeg x2)) 88) ((g 85)).toNatClampNeg x3)) 91 (upd ((updA (updA (updA c 86 (upd (c 86) ((g 85)).toNatClampNeg x1)) 87 (upd ((updA c 86 (upd (c 86) ((g 85)).toNatClampNeg x1)) 87) ((g 85)).toNatClampNeg x2)) 88 (upd ((updA (updA c 86 (upd (c 86) ((g 85)).toNatClampNeg x1)) 87 (upd ((updA c 86 (upd (c 86) ((g 85)).toNatClampNeg x1)) 87) ((g 85)).toNatClampNeg x2)) 88) ((g 85)).toNatClampNeg x3)) 91) ((g 85)).toNatClampNeg x4)) 89) ((g 85)).toNatClampNeg ((g 92)))) 90) ((g 85)).toNatClampNeg ((Int32.ofInt (0))))) l) (i := .isub) (len := 1) rfl hj rfl rfl rfl]
  exact n_ret rfl hj rfl rfl (x_ret rfl)
set_option maxRecDepth 100000 in
set_option maxHeartbeats 4000000 in
theorem bk_400_0 {b : Bool} {d : Nat} {e : Nat → x_E} {g : Nat → Int32} {q : Nat → Int64} {c : Nat → Nat → Int32} {l : Nat → Nat → Int64} {g' : Nat → Int32} {q' : Nat → Int64} {c' : Nat → Nat → Int32} {l' : Nat → Nat → Int64} {R : Option Value × List x_E} (hc : rr b e d 321 0 [(0, .ref 49)] [] (upd g 18 ((Int16.ofInt (1200)).toInt32)) q c l (none, rH e g' q' c' l')) (h : rr b e (d + 1) 400 11 [(0, .ref 49)] [] g' q' c' l' R) : rr b e (d + 1) 400 0 [(0, .ref 49)] [] g q c l R := by
  obtain ⟨f1, hc⟩ := hc
  obtain ⟨f2, h⟩ := h
  obtain ⟨f, hf1, hf2⟩ : ∃ f, f1 ≤ f ∧ f2 ≤ f := ⟨max f1 f2, Nat.le_max_left _ _, Nat.le_max_right _ _⟩
  have hc := nrun_fuel f1 f _ _ _ _ _ _ _ _ _ hf1 hc
  have h := nrun_fuel f2 f _ _ _ _ _ _ _ _ _ hf2 h
  refine ⟨f + 5, ?_⟩
  obtain ⟨y, cb, hj⟩ := mq_400
  rw [n_step (st' := [.ref 49]) (pc' := 1) (lv' := [(0, .ref 49)]) (hp' := rH e g q c l) (i := .aload_n 0) (len := 1) rfl hj rfl rfl rfl]
  rw [n_step (st' := [.int (Int16.ofInt (1200)).toInt32, .ref 49]) (pc' := 4) (lv' := [(0, .ref 49)]) (hp' := rH e g q c l) (i := .sipush 1200) (len := 3) rfl hj rfl rfl rfl]
  rw [n_put (st' := []) (hp' := rH e (upd g 18 ((Int16.ofInt (1200)).toInt32)) q c l) rfl hj pf_18]
  rw [n_step (st' := [.ref 49]) (pc' := 8) (lv' := [(0, .ref 49)]) (hp' := rH e (upd g 18 ((Int16.ofInt (1200)).toInt32)) q c l) (i := .aload_n 0) (len := 1) rfl hj rfl rfl rfl]
  obtain ⟨y2, cb2, hj2⟩ := mq_321
  rw [n_call (f := f) (d := d) (ki := 0) (idx := 587) (j' := 321) (kd := 0) (M' := (y2, cb2, 1, none, 12, 0, 0, 0)) (avs := [.ref 49]) (r := []) (rv := none) (hp1 := rH e g' q' c' l') rfl hj rfl rfl rfl rfl (rq_n rfl rfl hj2 rfl rfl) rfl hc (Nat.le_of_ble_eq_true rfl)]
  exact h
set_option maxRecDepth 100000 in
set_option maxHeartbeats 4000000 in
theorem bk_400_11 {b : Bool} {d : Nat} {e : Nat → x_E} {g : Nat → Int32} {q : Nat → Int64} {c : Nat → Nat → Int32} {l : Nat → Nat → Int64} {R : Option Value × List x_E} (h : rr b e d 400 33 [(0, .ref 49), (1, .int (Int32.ofInt (1)))] [] (upd (upd (upd (upd g 96 ((Int32.ofInt (0)))) 102 ((Int32.ofInt (0)))) 118 ((Int32.ofInt (0)))) 125 ((Int32.ofInt (0)))) q c l R) : rr b e d 400 11 [(0, .ref 49)] [] g q c l R := by
  obtain ⟨f, h⟩ := h
  refine ⟨f + 14, ?_⟩
  obtain ⟨y, cb, hj⟩ := mq_400
  rw [n_step (st' := [.ref 49]) (pc' := 12) (lv' := [(0, .ref 49)]) (hp' := rH e g q c l) (i := .aload_n 0) (len := 1) rfl hj rfl rfl rfl]
  rw [n_step (st' := [.int (Int32.ofInt (0)), .ref 49]) (pc' := 13) (lv' := [(0, .ref 49)]) (hp' := rH e g q c l) (i := .iconst 0) (len := 1) rfl hj rfl rfl rfl]
  rw [n_put (st' := []) (hp' := rH e (upd g 96 ((Int32.ofInt (0)))) q c l) rfl hj pf_96]
  rw [n_step (st' := [.ref 49]) (pc' := 17) (lv' := [(0, .ref 49)]) (hp' := rH e (upd g 96 ((Int32.ofInt (0)))) q c l) (i := .aload_n 0) (len := 1) rfl hj rfl rfl rfl]
  rw [n_step (st' := [.int (Int32.ofInt (0)), .ref 49]) (pc' := 18) (lv' := [(0, .ref 49)]) (hp' := rH e (upd g 96 ((Int32.ofInt (0)))) q c l) (i := .iconst 0) (len := 1) rfl hj rfl rfl rfl]
  rw [n_put (st' := []) (hp' := rH e (upd (upd g 96 ((Int32.ofInt (0)))) 102 ((Int32.ofInt (0)))) q c l) rfl hj pf_102]
  rw [n_step (st' := [.ref 49]) (pc' := 22) (lv' := [(0, .ref 49)]) (hp' := rH e (upd (upd g 96 ((Int32.ofInt (0)))) 102 ((Int32.ofInt (0)))) q c l) (i := .aload_n 0) (len := 1) rfl hj rfl rfl rfl]
  rw [n_step (st' := [.int (Int32.ofInt (0)), .ref 49]) (pc' := 23) (lv' := [(0, .ref 49)]) (hp' := rH e (upd (upd g 96 ((Int32.ofInt (0)))) 102 ((Int32.ofInt (0)))) q c l) (i := .iconst 0) (len := 1) rfl hj rfl rfl rfl]
  rw [n_put (st' := []) (hp' := rH e (upd (upd (upd g 96 ((Int32.ofInt (0)))) 102 ((Int32.ofInt (0)))) 118 ((Int32.ofInt (0)))) q c l) rfl hj pf_118]
  rw [n_step (st' := [.ref 49]) (pc' := 27) (lv' := [(0, .ref 49)]) (hp' := rH e (upd (upd (upd g 96 ((Int32.ofInt (0)))) 102 ((Int32.ofInt (0)))) 118 ((Int32.ofInt (0)))) q c l) (i := .aload_n 0) (len := 1) rfl hj rfl rfl rfl]
  rw [n_step (st' := [.int (Int32.ofInt (0)), .ref 49]) (pc' := 28) (lv' := [(0, .ref 49)]) (hp' := rH e (upd (upd (upd g 96 ((Int32.ofInt (0)))) 102 ((Int32.ofInt (0)))) 118 ((Int32.ofInt (0)))) q c l) (i := .iconst 0) (len := 1) rfl hj rfl rfl rfl]
  rw [n_put (st' := []) (hp' := rH e (upd (upd (upd (upd g 96 ((Int32.ofInt (0)))) 102 ((Int32.ofInt (0)))) 118 ((Int32.ofInt (0)))) 125 ((Int32.ofInt (0)))) q c l) rfl hj pf_125]
  rw [n_step (st' := [.int (Int32.ofInt (1))]) (pc' := 32) (lv' := [(0, .ref 49)]) (hp' := rH e (upd (upd (upd (upd g 96 ((Int32.ofInt (0)))) 102 ((Int32.ofInt (0)))) 118 ((Int32.ofInt (0)))) 125 ((Int32.ofInt (0)))) q c l) (i := .iconst 1) (len := 1) rfl hj rfl rfl rfl]
  rw [n_step (st' := []) (pc' := 33) (lv' := [(1, .int (Int32.ofInt (1))), (0, .ref 49)]) (hp' := rH e (upd (upd (upd (upd g 96 ((Int32.ofInt (0)))) 102 ((Int32.ofInt (0)))) 118 ((Int32.ofInt (0)))) 125 ((Int32.ofInt (0)))) q c l) (i := .istore_n 1) (len := 1) rfl hj rfl rfl rfl]
  exact nrun_ext f f _ _ R 400 33 [(0, .ref 49), (1, .int (Int32.ofInt (1)))] [(1, .int (Int32.ofInt (1))), (0, .ref 49)] [] _ 0 0 122 (Nat.le_refl _) (Nat.le_refl _) (Nat.le_of_ble_eq_true rfl) (lvR_mk [0, 1] [1, 0] rfl rfl (by decide) (by decide) (List.forall_mem_cons.mpr ⟨(List.mem_cons_of_mem _ List.mem_cons_self), (List.forall_mem_cons.mpr ⟨List.mem_cons_self, (fun _ h => nomatch h)⟩)⟩) (List.forall_mem_cons.mpr ⟨Or.inl (List.mem_cons_of_mem _ List.mem_cons_self), (List.forall_mem_cons.mpr ⟨Or.inl List.mem_cons_self, (fun _ h => nomatch h)⟩)⟩)) h
set_option maxRecDepth 100000 in
set_option maxHeartbeats 4000000 in
theorem bk_400_33 {b : Bool} {d : Nat} {x1 : Int32} {e : Nat → x_E} {g : Nat → Int32} {q : Nat → Int64} {c : Nat → Nat → Int32} {l : Nat → Nat → Int64} {R : Option Value × List x_E} (h1 : xCn .eq x1 0 = true → rr b e d 400 71 [(0, .ref 49)] [] g q c l R) (h2 : ¬ xCn .eq x1 0 = true → rr b e d 400 37 [(0, .ref 49)] [] g q c l R) : rr b e d 400 33 [(0, .ref 49), (1, .int x1)] [] g q c l R := by
  have key : ∀ f, nrun xZ (xY (xfm b)) xDT (f + 2) d 400 33 [(0, .ref 49), (1, .int x1)] [] (rH e g q c l) 0 0 = nrun xZ (xY (xfm b)) xDT f d 400 (if xCn .eq x1 0 = true then 71 else 37) [(0, .ref 49), (1, .int x1)] [] (rH e g q c l) 0 0 := by
    intro f
    obtain ⟨y, cb, hj⟩ := mq_400
    rw [n_step (st' := [.int x1]) (pc' := 34) (lv' := [(0, .ref 49), (1, .int x1)]) (hp' := rH e g q c l) (i := .iload_n 1) (len := 1) rfl hj rfl rfl rfl]
    rw [n_step (st' := []) (pc' := (if xCn .eq x1 0 = true then 71 else 37)) (lv' := [(0, .ref 49), (1, .int x1)]) (hp' := rH e g q c l) (i := .ifCond .eq 37) (len := 3) rfl hj rfl rfl rfl]
  by_cases hc : xCn .eq x1 0 = true
  · obtain ⟨f, h⟩ := h1 hc
    refine ⟨f + 2, ?_⟩
    rw [key, if_pos hc]
    exact nrun_ext f f _ _ R 400 71 [(0, .ref 49)] [(0, .ref 49), (1, .int x1)] [] _ 0 0 122 (Nat.le_refl _) (Nat.le_refl _) (Nat.le_of_ble_eq_true rfl) (lvR_mk [0] [0, 1] rfl rfl (by decide) (by decide) (List.forall_mem_cons.mpr ⟨List.mem_cons_self, (fun _ h => nomatch h)⟩) (List.forall_mem_cons.mpr ⟨Or.inl List.mem_cons_self, (List.forall_mem_cons.mpr ⟨Or.inr rfl, (fun _ h => nomatch h)⟩)⟩)) h
  · obtain ⟨f, h⟩ := h2 hc
    refine ⟨f + 2, ?_⟩
    rw [key, if_neg hc]
    exact nrun_ext f f _ _ R 400 37 [(0, .ref 49)] [(0, .ref 49), (1, .int x1)] [] _ 0 0 122 (Nat.le_refl _) (Nat.le_refl _) (Nat.le_of_ble_eq_true rfl) (lvR_mk [0] [0, 1] rfl rfl (by decide) (by decide) (List.forall_mem_cons.mpr ⟨List.mem_cons_self, (fun _ h => nomatch h)⟩) (List.forall_mem_cons.mpr ⟨Or.inl List.mem_cons_self, (List.forall_mem_cons.mpr ⟨Or.inr rfl, (fun _ h => nomatch h)⟩)⟩)) h
set_option maxRecDepth 100000 in
set_option maxHeartbeats 4000000 in
theorem bk_400_37 {b : Bool} {d : Nat} {e : Nat → x_E} {g : Nat → Int32} {q : Nat → Int64} {c : Nat → Nat → Int32} {l : Nat → Nat → Int64} {g' : Nat → Int32} {q' : Nat → Int64} {c' : Nat → Nat → Int32} {l' : Nat → Nat → Int64} {v : Int32} {R : Option Value × List x_E} (hc : rr b e d 337 0 [(0, .ref 49)] [] g q c l (some (.int v), rH e g' q' c' l')) (h : rr b e (d + 1) 400 41 [(0, .ref 49)] [.int v] g' q' c' l' R) : rr b e (d + 1) 400 37 [(0, .ref 49)] [] g q c l R := by
  obtain ⟨f1, hc⟩ := hc
  obtain ⟨f2, h⟩ := h
  obtain ⟨f, hf1, hf2⟩ : ∃ f, f1 ≤ f ∧ f2 ≤ f := ⟨max f1 f2, Nat.le_max_left _ _, Nat.le_max_right _ _⟩
  have hc := nrun_fuel f1 f _ _ _ _ _ _ _ _ _ hf1 hc
  have h := nrun_fuel f2 f _ _ _ _ _ _ _ _ _ hf2 h
  refine ⟨f + 2, ?_⟩
  obtain ⟨y, cb, hj⟩ := mq_400
  rw [n_step (st' := [.ref 49]) (pc' := 38) (lv' := [(0, .ref 49)]) (hp' := rH e g q c l) (i := .aload_n 0) (len := 1) rfl hj rfl rfl rfl]
  obtain ⟨y2, cb2, hj2⟩ := mq_337
  rw [n_call (f := f) (d := d) (ki := 0) (idx := 337) (j' := 337) (kd := 0) (M' := (y2, cb2, 1, some .boolean, 12, 0, 0, 0)) (avs := [.ref 49]) (r := []) (rv := some (.int v)) (hp1 := rH e g' q' c' l') rfl hj rfl rfl rfl rfl (rq_n rfl rfl hj2 rfl rfl) rfl hc (Nat.le_of_ble_eq_true rfl)]
  exact h
set_option maxRecDepth 100000 in
set_option maxHeartbeats 4000000 in
theorem bk_400_41 {b : Bool} {d : Nat} {t0 : Int32} {e : Nat → x_E} {g : Nat → Int32} {q : Nat → Int64} {c : Nat → Nat → Int32} {l : Nat → Nat → Int64} {R : Option Value × List x_E} (h1 : xCn .ne t0 0 = true → rr b e d 400 71 [(0, .ref 49)] [] g q c l R) (h2 : ¬ xCn .ne t0 0 = true → rr b e d 400 44 [(0, .ref 49)] [] g q c l R) : rr b e d 400 41 [(0, .ref 49)] [.int t0] g q c l R := by
  have key : ∀ f, nrun xZ (xY (xfm b)) xDT (f + 1) d 400 41 [(0, .ref 49)] [.int t0] (rH e g q c l) 0 0 = nrun xZ (xY (xfm b)) xDT f d 400 (if xCn .ne t0 0 = true then 71 else 44) [(0, .ref 49)] [] (rH e g q c l) 0 0 := by
    intro f
    obtain ⟨y, cb, hj⟩ := mq_400
    rw [n_step (st' := []) (pc' := (if xCn .ne t0 0 = true then 71 else 44)) (lv' := [(0, .ref 49)]) (hp' := rH e g q c l) (i := .ifCond .ne 30) (len := 3) rfl hj rfl rfl rfl]
  by_cases hc : xCn .ne t0 0 = true
  · obtain ⟨f, h⟩ := h1 hc
    refine ⟨f + 1, ?_⟩
    rw [key, if_pos hc]
    exact h
  · obtain ⟨f, h⟩ := h2 hc
    refine ⟨f + 1, ?_⟩
    rw [key, if_neg hc]
    exact h
set_option maxRecDepth 100000 in
set_option maxHeartbeats 4000000 in
theorem bk_400_44 {b : Bool} {d : Nat} {e : Nat → x_E} {g : Nat → Int32} {q : Nat → Int64} {c : Nat → Nat → Int32} {l : Nat → Nat → Int64} {g' : Nat → Int32} {q' : Nat → Int64} {c' : Nat → Nat → Int32} {l' : Nat → Nat → Int64} {R : Option Value × List x_E} (hc : rr b e d 401 0 [(0, .ref 49)] [] g q c l (none, rH e g' q' c' l')) (h : rr b e (d + 1) 400 48 [(0, .ref 49)] [] g' q' c' l' R) : rr b e (d + 1) 400 44 [(0, .ref 49)] [] g q c l R := by
  obtain ⟨f1, hc⟩ := hc
  obtain ⟨f2, h⟩ := h
  obtain ⟨f, hf1, hf2⟩ : ∃ f, f1 ≤ f ∧ f2 ≤ f := ⟨max f1 f2, Nat.le_max_left _ _, Nat.le_max_right _ _⟩
  have hc := nrun_fuel f1 f _ _ _ _ _ _ _ _ _ hf1 hc
  have h := nrun_fuel f2 f _ _ _ _ _ _ _ _ _ hf2 h
  refine ⟨f + 2, ?_⟩
  obtain ⟨y, cb, hj⟩ := mq_400
  rw [n_step (st' := [.ref 49]) (pc' := 45) (lv' := [(0, .ref 49)]) (hp' := rH e g q c l) (i := .aload_n 0) (len := 1) rfl hj rfl rfl rfl]
  obtain ⟨y2, cb2, hj2⟩ := mq_401
  rw [n_call (f := f) (d := d) (ki := 0) (idx := 769) (j' := 401) (kd := 0) (M' := (y2, cb2, 10, none, 12, 0, 0, 0)) (avs := [.ref 49]) (r := []) (rv := none) (hp1 := rH e g' q' c' l') rfl hj rfl rfl rfl rfl (rq_n rfl rfl hj2 rfl rfl) rfl hc (Nat.le_of_ble_eq_true rfl)]
  exact h
set_option maxRecDepth 100000 in
set_option maxHeartbeats 4000000 in
theorem bk_400_48 {b : Bool} {d : Nat} {e : Nat → x_E} {g : Nat → Int32} {q : Nat → Int64} {c : Nat → Nat → Int32} {l : Nat → Nat → Int64} {g' : Nat → Int32} {q' : Nat → Int64} {c' : Nat → Nat → Int32} {l' : Nat → Nat → Int64} {v : Int32} {R : Option Value × List x_E} (hc : rr b e d 337 0 [(0, .ref 49)] [] g q c l (some (.int v), rH e g' q' c' l')) (h : rr b e (d + 1) 400 52 [(0, .ref 49)] [.int v] g' q' c' l' R) : rr b e (d + 1) 400 48 [(0, .ref 49)] [] g q c l R := by
  obtain ⟨f1, hc⟩ := hc
  obtain ⟨f2, h⟩ := h
  obtain ⟨f, hf1, hf2⟩ : ∃ f, f1 ≤ f ∧ f2 ≤ f := ⟨max f1 f2, Nat.le_max_left _ _, Nat.le_max_right _ _⟩
  have hc := nrun_fuel f1 f _ _ _ _ _ _ _ _ _ hf1 hc
  have h := nrun_fuel f2 f _ _ _ _ _ _ _ _ _ hf2 h
  refine ⟨f + 2, ?_⟩
  obtain ⟨y, cb, hj⟩ := mq_400
  rw [n_step (st' := [.ref 49]) (pc' := 49) (lv' := [(0, .ref 49)]) (hp' := rH e g q c l) (i := .aload_n 0) (len := 1) rfl hj rfl rfl rfl]
  obtain ⟨y2, cb2, hj2⟩ := mq_337
  rw [n_call (f := f) (d := d) (ki := 0) (idx := 337) (j' := 337) (kd := 0) (M' := (y2, cb2, 1, some .boolean, 12, 0, 0, 0)) (avs := [.ref 49]) (r := []) (rv := some (.int v)) (hp1 := rH e g' q' c' l') rfl hj rfl rfl rfl rfl (rq_n rfl rfl hj2 rfl rfl) rfl hc (Nat.le_of_ble_eq_true rfl)]
  exact h
set_option maxRecDepth 100000 in
set_option maxHeartbeats 4000000 in
theorem bk_400_52 {b : Bool} {d : Nat} {t0 : Int32} {e : Nat → x_E} {g : Nat → Int32} {q : Nat → Int64} {c : Nat → Nat → Int32} {l : Nat → Nat → Int64} {R : Option Value × List x_E} (h1 : xCn .ne t0 0 = true → rr b e d 400 66 [(0, .ref 49)] [] g q c l R) (h2 : ¬ xCn .ne t0 0 = true → rr b e d 400 55 [(0, .ref 49)] [] g q c l R) : rr b e d 400 52 [(0, .ref 49)] [.int t0] g q c l R := by
  have key : ∀ f, nrun xZ (xY (xfm b)) xDT (f + 1) d 400 52 [(0, .ref 49)] [.int t0] (rH e g q c l) 0 0 = nrun xZ (xY (xfm b)) xDT f d 400 (if xCn .ne t0 0 = true then 66 else 55) [(0, .ref 49)] [] (rH e g q c l) 0 0 := by
    intro f
    obtain ⟨y, cb, hj⟩ := mq_400
    rw [n_step (st' := []) (pc' := (if xCn .ne t0 0 = true then 66 else 55)) (lv' := [(0, .ref 49)]) (hp' := rH e g q c l) (i := .ifCond .ne 14) (len := 3) rfl hj rfl rfl rfl]
  by_cases hc : xCn .ne t0 0 = true
  · obtain ⟨f, h⟩ := h1 hc
    refine ⟨f + 1, ?_⟩
    rw [key, if_pos hc]
    exact h
  · obtain ⟨f, h⟩ := h2 hc
    refine ⟨f + 1, ?_⟩
    rw [key, if_neg hc]
    exact h
set_option maxRecDepth 100000 in
set_option maxHeartbeats 4000000 in
theorem bk_400_55 {b : Bool} {d : Nat} {e : Nat → x_E} {g : Nat → Int32} {q : Nat → Int64} {c : Nat → Nat → Int32} {l : Nat → Nat → Int64} {R : Option Value × List x_E} (h1 : xCn .eq ((g 10)) 0 = true → rr b e d 400 66 [(0, .ref 49)] [] g q c l R) (h2 : ¬ xCn .eq ((g 10)) 0 = true → rr b e d 400 62 [(0, .ref 49)] [] g q c l R) : rr b e d 400 55 [(0, .ref 49)] [] g q c l R := by
  have key : ∀ f, nrun xZ (xY (xfm b)) xDT (f + 3) d 400 55 [(0, .ref 49)] [] (rH e g q c l) 0 0 = nrun xZ (xY (xfm b)) xDT f d 400 (if xCn .eq ((g 10)) 0 = true then 66 else 62) [(0, .ref 49)] [] (rH e g q c l) 0 0 := by
    intro f
    obtain ⟨y, cb, hj⟩ := mq_400
    rw [n_step (st' := [.ref 49]) (pc' := 56) (lv' := [(0, .ref 49)]) (hp' := rH e g q c l) (i := .aload_n 0) (len := 1) rfl hj rfl rfl rfl]
    rw [n_get (st' := [.int (g 10)]) (pc' := 59) (lv' := [(0, .ref 49)]) (hp' := rH e g q c l) (i := .getfield 273) (len := 3) rfl hj rfl rfl rfl rfl]
    rw [n_step (st' := []) (pc' := (if xCn .eq ((g 10)) 0 = true then 66 else 62)) (lv' := [(0, .ref 49)]) (hp' := rH e g q c l) (i := .ifCond .eq 7) (len := 3) rfl hj rfl rfl rfl]
  by_cases hc : xCn .eq ((g 10)) 0 = true
  · obtain ⟨f, h⟩ := h1 hc
    refine ⟨f + 3, ?_⟩
    rw [key, if_pos hc]
    exact h
  · obtain ⟨f, h⟩ := h2 hc
    refine ⟨f + 3, ?_⟩
    rw [key, if_neg hc]
    exact h
set_option maxRecDepth 100000 in
set_option maxHeartbeats 4000000 in
theorem bk_400_62 {b : Bool} {d : Nat} {e : Nat → x_E} {g : Nat → Int32} {q : Nat → Int64} {c : Nat → Nat → Int32} {l : Nat → Nat → Int64} {R : Option Value × List x_E} (h : rr b e d 400 67 [(0, .ref 49)] [.int (Int32.ofInt (1))] g q c l R) : rr b e d 400 62 [(0, .ref 49)] [] g q c l R := by
  obtain ⟨f, h⟩ := h
  refine ⟨f + 2, ?_⟩
  obtain ⟨y, cb, hj⟩ := mq_400
  rw [n_step (st' := [.int (Int32.ofInt (1))]) (pc' := 63) (lv' := [(0, .ref 49)]) (hp' := rH e g q c l) (i := .iconst 1) (len := 1) rfl hj rfl rfl rfl]
  rw [n_step (st' := [.int (Int32.ofInt (1))]) (pc' := 67) (lv' := [(0, .ref 49)]) (hp' := rH e g q c l) (i := .goto 4) (len := 3) rfl hj rfl rfl rfl]
  exact h
set_option maxRecDepth 100000 in
set_option maxHeartbeats 4000000 in
theorem bk_400_66 {b : Bool} {d : Nat} {e : Nat → x_E} {g : Nat → Int32} {q : Nat → Int64} {c : Nat → Nat → Int32} {l : Nat → Nat → Int64} {R : Option Value × List x_E} (h : rr b e d 400 67 [(0, .ref 49)] [.int (Int32.ofInt (0))] g q c l R) : rr b e d 400 66 [(0, .ref 49)] [] g q c l R := by
  obtain ⟨f, h⟩ := h
  refine ⟨f + 1, ?_⟩
  obtain ⟨y, cb, hj⟩ := mq_400
  rw [n_step (st' := [.int (Int32.ofInt (0))]) (pc' := 67) (lv' := [(0, .ref 49)]) (hp' := rH e g q c l) (i := .iconst 0) (len := 1) rfl hj rfl rfl rfl]
  exact h
set_option maxRecDepth 100000 in
set_option maxHeartbeats 4000000 in
theorem bk_400_67 {b : Bool} {d : Nat} {t0 : Int32} {e : Nat → x_E} {g : Nat → Int32} {q : Nat → Int64} {c : Nat → Nat → Int32} {l : Nat → Nat → Int64} {R : Option Value × List x_E} (h : rr b e d 400 33 [(0, .ref 49), (1, .int t0)] [] g q c l R) : rr b e d 400 67 [(0, .ref 49)] [.int t0] g q c l R := by
  obtain ⟨f, h⟩ := h
  refine ⟨f + 2, ?_⟩
  obtain ⟨y, cb, hj⟩ := mq_400
  rw [n_step (st' := []) (pc' := 68) (lv' := [(1, .int t0), (0, .ref 49)]) (hp' := rH e g q c l) (i := .istore_n 1) (len := 1) rfl hj rfl rfl rfl]
  rw [n_step (st' := []) (pc' := 33) (lv' := [(1, .int t0), (0, .ref 49)]) (hp' := rH e g q c l) (i := .goto (-35)) (len := 3) rfl hj rfl rfl rfl]
  exact nrun_ext f f _ _ R 400 33 [(0, .ref 49), (1, .int t0)] [(1, .int t0), (0, .ref 49)] [] _ 0 0 122 (Nat.le_refl _) (Nat.le_refl _) (Nat.le_of_ble_eq_true rfl) (lvR_mk [0, 1] [1, 0] rfl rfl (by decide) (by decide) (List.forall_mem_cons.mpr ⟨(List.mem_cons_of_mem _ List.mem_cons_self), (List.forall_mem_cons.mpr ⟨List.mem_cons_self, (fun _ h => nomatch h)⟩)⟩) (List.forall_mem_cons.mpr ⟨Or.inl (List.mem_cons_of_mem _ List.mem_cons_self), (List.forall_mem_cons.mpr ⟨Or.inl List.mem_cons_self, (fun _ h => nomatch h)⟩)⟩)) h
set_option maxRecDepth 100000 in
set_option maxHeartbeats 4000000 in
theorem bk_400_71 {b : Bool} {d : Nat} {e : Nat → x_E} {g : Nat → Int32} {q : Nat → Int64} {c : Nat → Nat → Int32} {l : Nat → Nat → Int64} : rr b e d 400 71 [(0, .ref 49)] [] g q c l (none, rH e (upd g 124 ((g 118))) q c l) := by
  refine ⟨0 + 5, ?_⟩
  obtain ⟨y, cb, hj⟩ := mq_400
  rw [n_step (st' := [.ref 49]) (pc' := 72) (lv' := [(0, .ref 49)]) (hp' := rH e g q c l) (i := .aload_n 0) (len := 1) rfl hj rfl rfl rfl]
  rw [n_step (st' := [.ref 49, .ref 49]) (pc' := 73) (lv' := [(0, .ref 49)]) (hp' := rH e g q c l) (i := .aload_n 0) (len := 1) rfl hj rfl rfl rfl]
  rw [n_get (st' := [.int (g 118), .ref 49]) (pc' := 76) (lv' := [(0, .ref 49)]) (hp' := rH e g q c l) (i := .getfield 763) (len := 3) rfl hj rfl rfl rfl rfl]
  rw [n_put (st' := []) (hp' := rH e (upd g 124 ((g 118))) q c l) rfl hj pf_124]
  exact n_ret rfl hj rfl rfl rfl
set_option maxRecDepth 100000 in
set_option maxHeartbeats 4000000 in
theorem bk_443_0 {b : Bool} {d : Nat} {x1 : Int32} {e : Nat → x_E} {g : Nat → Int32} {q : Nat → Int64} {c : Nat → Nat → Int32} {l : Nat → Nat → Int64} {R : Option Value × List x_E} (h1 : xCn .ne ((g 5)) ((Int32.ofInt (2))) = true → rr b e d 443 40 [] [] g q c l R) (h2 : ¬ xCn .ne ((g 5)) ((Int32.ofInt (2))) = true → rr b e d 443 8 [(0, .ref 49), (1, .int x1)] [] g q c l R) : rr b e d 443 0 [(0, .ref 49), (1, .int x1)] [] g q c l R := by
  have key : ∀ f, nrun xZ (xY (xfm b)) xDT (f + 4) d 443 0 [(0, .ref 49), (1, .int x1)] [] (rH e g q c l) 0 0 = nrun xZ (xY (xfm b)) xDT f d 443 (if xCn .ne ((g 5)) ((Int32.ofInt (2))) = true then 40 else 8) [(0, .ref 49), (1, .int x1)] [] (rH e g q c l) 0 0 := by
    intro f
    obtain ⟨y, cb, hj⟩ := mq_443
    rw [n_step (st' := [.ref 49]) (pc' := 1) (lv' := [(0, .ref 49), (1, .int x1)]) (hp' := rH e g q c l) (i := .aload_n 0) (len := 1) rfl hj rfl rfl rfl]
    rw [n_get (st' := [.int (g 5)]) (pc' := 4) (lv' := [(0, .ref 49), (1, .int x1)]) (hp' := rH e g q c l) (i := .getfield 575) (len := 3) rfl hj rfl rfl rfl rfl]
    rw [n_step (st' := [.int (Int32.ofInt (2)), .int (g 5)]) (pc' := 5) (lv' := [(0, .ref 49), (1, .int x1)]) (hp' := rH e g q c l) (i := .iconst 2) (len := 1) rfl hj rfl rfl rfl]
    rw [n_step (st' := []) (pc' := (if xCn .ne ((g 5)) ((Int32.ofInt (2))) = true then 40 else 8)) (lv' := [(0, .ref 49), (1, .int x1)]) (hp' := rH e g q c l) (i := .if_icmp .ne 35) (len := 3) rfl hj rfl rfl rfl]
  by_cases hc : xCn .ne ((g 5)) ((Int32.ofInt (2))) = true
  · obtain ⟨f, h⟩ := h1 hc
    refine ⟨f + 4, ?_⟩
    rw [key, if_pos hc]
    exact nrun_ext f f _ _ R 443 40 [] [(0, .ref 49), (1, .int x1)] [] _ 0 0 122 (Nat.le_refl _) (Nat.le_refl _) (Nat.le_of_ble_eq_true rfl) (lvR_mk [] [0, 1] rfl rfl (by decide) (by decide) (fun _ h => nomatch h) (List.forall_mem_cons.mpr ⟨Or.inr rfl, (List.forall_mem_cons.mpr ⟨Or.inr rfl, (fun _ h => nomatch h)⟩)⟩)) h
  · obtain ⟨f, h⟩ := h2 hc
    refine ⟨f + 4, ?_⟩
    rw [key, if_neg hc]
    exact h
set_option maxRecDepth 100000 in
set_option maxHeartbeats 4000000 in
theorem bk_443_8 {b : Bool} {d : Nat} {x1 : Int32} {e : Nat → x_E} {g : Nat → Int32} {q : Nat → Int64} {c : Nat → Nat → Int32} {l : Nat → Nat → Int64} {R : Option Value × List x_E} (h1 : xCn .lt x1 ((Int16.ofInt (8192)).toInt32) = true → rr b e d 443 40 [] [] g q c l R) (h2 : ¬ xCn .lt x1 ((Int16.ofInt (8192)).toInt32) = true → rr b e d 443 15 [(0, .ref 49), (1, .int x1)] [] g q c l R) : rr b e d 443 8 [(0, .ref 49), (1, .int x1)] [] g q c l R := by
  have key : ∀ f, nrun xZ (xY (xfm b)) xDT (f + 3) d 443 8 [(0, .ref 49), (1, .int x1)] [] (rH e g q c l) 0 0 = nrun xZ (xY (xfm b)) xDT f d 443 (if xCn .lt x1 ((Int16.ofInt (8192)).toInt32) = true then 40 else 15) [(0, .ref 49), (1, .int x1)] [] (rH e g q c l) 0 0 := by
    intro f
    obtain ⟨y, cb, hj⟩ := mq_443
    rw [n_step (st' := [.int x1]) (pc' := 9) (lv' := [(0, .ref 49), (1, .int x1)]) (hp' := rH e g q c l) (i := .iload_n 1) (len := 1) rfl hj rfl rfl rfl]
    rw [n_step (st' := [.int (Int16.ofInt (8192)).toInt32, .int x1]) (pc' := 12) (lv' := [(0, .ref 49), (1, .int x1)]) (hp' := rH e g q c l) (i := .sipush 8192) (len := 3) rfl hj rfl rfl rfl]
    rw [n_step (st' := []) (pc' := (if xCn .lt x1 ((Int16.ofInt (8192)).toInt32) = true then 40 else 15)) (lv' := [(0, .ref 49), (1, .int x1)]) (hp' := rH e g q c l) (i := .if_icmp .lt 28) (len := 3) rfl hj rfl rfl rfl]
  by_cases hc : xCn .lt x1 ((Int16.ofInt (8192)).toInt32) = true
  · obtain ⟨f, h⟩ := h1 hc
    refine ⟨f + 3, ?_⟩
    rw [key, if_pos hc]
    exact nrun_ext f f _ _ R 443 40 [] [(0, .ref 49), (1, .int x1)] [] _ 0 0 122 (Nat.le_refl _) (Nat.le_refl _) (Nat.le_of_ble_eq_true rfl) (lvR_mk [] [0, 1] rfl rfl (by decide) (by decide) (fun _ h => nomatch h) (List.forall_mem_cons.mpr ⟨Or.inr rfl, (List.forall_mem_cons.mpr ⟨Or.inr rfl, (fun _ h => nomatch h)⟩)⟩)) h
  · obtain ⟨f, h⟩ := h2 hc
    refine ⟨f + 3, ?_⟩
    rw [key, if_neg hc]
    exact h
set_option maxRecDepth 100000 in
set_option maxHeartbeats 4000000 in
theorem bk_443_15 {b : Bool} {d : Nat} {x1 : Int32} {e : Nat → x_E} {g : Nat → Int32} {q : Nat → Int64} {c : Nat → Nat → Int32} {l : Nat → Nat → Int64} {R : Option Value × List x_E} (h1 : xCn .ge x1 (((Int16.ofInt (8192)).toInt32 + (g 139))) = true → rr b e d 443 40 [] [] g q c l R) (h2 : ¬ xCn .ge x1 (((Int16.ofInt (8192)).toInt32 + (g 139))) = true → rr b e d 443 27 [(0, .ref 49), (1, .int x1)] [] g q c l R) : rr b e d 443 15 [(0, .ref 49), (1, .int x1)] [] g q c l R := by
  have key : ∀ f, nrun xZ (xY (xfm b)) xDT (f + 6) d 443 15 [(0, .ref 49), (1, .int x1)] [] (rH e g q c l) 0 0 = nrun xZ (xY (xfm b)) xDT f d 443 (if xCn .ge x1 (((Int16.ofInt (8192)).toInt32 + (g 139))) = true then 40 else 27) [(0, .ref 49), (1, .int x1)] [] (rH e g q c l) 0 0 := by
    intro f
    obtain ⟨y, cb, hj⟩ := mq_443
    rw [n_step (st' := [.int x1]) (pc' := 16) (lv' := [(0, .ref 49), (1, .int x1)]) (hp' := rH e g q c l) (i := .iload_n 1) (len := 1) rfl hj rfl rfl rfl]
    rw [n_step (st' := [.int (Int16.ofInt (8192)).toInt32, .int x1]) (pc' := 19) (lv' := [(0, .ref 49), (1, .int x1)]) (hp' := rH e g q c l) (i := .sipush 8192) (len := 3) rfl hj rfl rfl rfl]
    rw [n_step (st' := [.ref 49, .int (Int16.ofInt (8192)).toInt32, .int x1]) (pc' := 20) (lv' := [(0, .ref 49), (1, .int x1)]) (hp' := rH e g q c l) (i := .aload_n 0) (len := 1) rfl hj rfl rfl rfl]
    rw [n_get (st' := [.int (g 139), .int (Int16.ofInt (8192)).toInt32, .int x1]) (pc' := 23) (lv' := [(0, .ref 49), (1, .int x1)]) (hp' := rH e g q c l) (i := .getfield 842) (len := 3) rfl hj rfl rfl rfl rfl]
    rw [n_step (st' := [.int ((Int16.ofInt (8192)).toInt32 + (g 139)), .int x1]) (pc' := 24) (lv' := [(0, .ref 49), (1, .int x1)]) (hp' := rH e g q c l) (i := .iadd) (len := 1) rfl hj rfl rfl rfl]
    rw [n_step (st' := []) (pc' := (if xCn .ge x1 (((Int16.ofInt (8192)).toInt32 + (g 139))) = true then 40 else 27)) (lv' := [(0, .ref 49), (1, .int x1)]) (hp' := rH e g q c l) (i := .if_icmp .ge 16) (len := 3) rfl hj rfl rfl rfl]
  by_cases hc : xCn .ge x1 (((Int16.ofInt (8192)).toInt32 + (g 139))) = true
  · obtain ⟨f, h⟩ := h1 hc
    refine ⟨f + 6, ?_⟩
    rw [key, if_pos hc]
    exact nrun_ext f f _ _ R 443 40 [] [(0, .ref 49), (1, .int x1)] [] _ 0 0 122 (Nat.le_refl _) (Nat.le_refl _) (Nat.le_of_ble_eq_true rfl) (lvR_mk [] [0, 1] rfl rfl (by decide) (by decide) (fun _ h => nomatch h) (List.forall_mem_cons.mpr ⟨Or.inr rfl, (List.forall_mem_cons.mpr ⟨Or.inr rfl, (fun _ h => nomatch h)⟩)⟩)) h
  · obtain ⟨f, h⟩ := h2 hc
    refine ⟨f + 6, ?_⟩
    rw [key, if_neg hc]
    exact h
set_option maxRecDepth 100000 in
set_option maxHeartbeats 4000000 in
theorem bk_443_27 {b : Bool} {d : Nat} {x1 : Int32} {e : Nat → x_E} {g : Nat → Int32} {q : Nat → Int64} {c : Nat → Nat → Int32} {l : Nat → Nat → Int64} {R : Option Value × List x_E} (hz0 : ¬ ((x1 - (Int16.ofInt (8192)).toInt32) < 0 ∨ 24000 ≤ ((x1 - (Int16.ofInt (8192)).toInt32)).toNatClampNeg)) (h : rr b e d 443 41 [] [.int (c 119 ((x1 - (Int16.ofInt (8192)).toInt32)).toNatClampNeg)] g q c l R) : rr b e d 443 27 [(0, .ref 49), (1, .int x1)] [] g q c l R := by
  obtain ⟨f, h⟩ := h
  refine ⟨f + 7, ?_⟩
  obtain ⟨y, cb, hj⟩ := mq_443
  rw [n_step (st' := [.ref 49]) (pc' := 28) (lv' := [(0, .ref 49), (1, .int x1)]) (hp' := rH e g q c l) (i := .aload_n 0) (len := 1) rfl hj rfl rfl rfl]
  rw [n_get (st' := [.ref 119]) (pc' := 31) (lv' := [(0, .ref 49), (1, .int x1)]) (hp' := rH e g q c l) (i := .getfield 228) (len := 3) rfl hj rfl rfl rfl rfl]
  rw [n_step (st' := [.int x1, .ref 119]) (pc' := 32) (lv' := [(0, .ref 49), (1, .int x1)]) (hp' := rH e g q c l) (i := .iload_n 1) (len := 1) rfl hj rfl rfl rfl]
  rw [n_step (st' := [.int (Int16.ofInt (8192)).toInt32, .int x1, .ref 119]) (pc' := 35) (lv' := [(0, .ref 49), (1, .int x1)]) (hp' := rH e g q c l) (i := .sipush 8192) (len := 3) rfl hj rfl rfl rfl]
  rw [n_step (st' := [.int (x1 - (Int16.ofInt (8192)).toInt32), .ref 119]) (pc' := 36) (lv' := [(0, .ref 49), (1, .int x1)]) (hp' := rH e g q c l) (i := .isub) (len := 1) rfl hj rfl rfl rfl]
  rw [n_ial (st' := [.int (c 119 ((x1 - (Int16.ofInt (8192)).toInt32)).toNatClampNeg)]) rfl hj (ald_119 hz0)]
  rw [n_step (st' := [.int (c 119 ((x1 - (Int16.ofInt (8192)).toInt32)).toNatClampNeg)]) (pc' := 41) (lv' := [(0, .ref 49), (1, .int x1)]) (hp' := rH e g q c l) (i := .goto 4) (len := 3) rfl hj rfl rfl rfl]
  exact nrun_ext f f _ _ R 443 41 [] [(0, .ref 49), (1, .int x1)] [.int (c 119 ((x1 - (Int16.ofInt (8192)).toInt32)).toNatClampNeg)] _ 0 0 122 (Nat.le_refl _) (Nat.le_refl _) (Nat.le_of_ble_eq_true rfl) (lvR_mk [] [0, 1] rfl rfl (by decide) (by decide) (fun _ h => nomatch h) (List.forall_mem_cons.mpr ⟨Or.inr rfl, (List.forall_mem_cons.mpr ⟨Or.inr rfl, (fun _ h => nomatch h)⟩)⟩)) h
set_option maxRecDepth 100000 in
set_option maxHeartbeats 4000000 in
theorem bk_443_40 {b : Bool} {d : Nat} {e : Nat → x_E} {g : Nat → Int32} {q : Nat → Int64} {c : Nat → Nat → Int32} {l : Nat → Nat → Int64} {R : Option Value × List x_E} (h : rr b e d 443 41 [] [.int (Int32.ofInt (-1))] g q c l R) : rr b e d 443 40 [] [] g q c l R := by
  obtain ⟨f, h⟩ := h
  refine ⟨f + 1, ?_⟩
  obtain ⟨y, cb, hj⟩ := mq_443
  rw [n_step (st' := [.int (Int32.ofInt (-1))]) (pc' := 41) (lv' := []) (hp' := rH e g q c l) (i := .iconst (-1)) (len := 1) rfl hj rfl rfl rfl]
  exact h
set_option maxRecDepth 100000 in
set_option maxHeartbeats 4000000 in
theorem bk_443_41 {b : Bool} {d : Nat} {t0 : Int32} {e : Nat → x_E} {g : Nat → Int32} {q : Nat → Int64} {c : Nat → Nat → Int32} {l : Nat → Nat → Int64} : rr b e d 443 41 [] [.int t0] g q c l (some (.int t0), rH e g q c l) := by
  refine ⟨0 + 1, ?_⟩
  obtain ⟨y, cb, hj⟩ := mq_443
  exact n_ret rfl hj rfl rfl (x_ret rfl)
set_option maxRecDepth 100000 in
set_option maxHeartbeats 4000000 in
theorem bk_444_0 {b : Bool} {d : Nat} {x1 : Int32} {e : Nat → x_E} {g : Nat → Int32} {q : Nat → Int64} {c : Nat → Nat → Int32} {l : Nat → Nat → Int64} {R : Option Value × List x_E} (h1 : xCn .ne ((g 5)) ((Int32.ofInt (2))) = true → rr b e d 444 29 [] [] g q c l R) (h2 : ¬ xCn .ne ((g 5)) ((Int32.ofInt (2))) = true → rr b e d 444 8 [(0, .ref 49), (1, .int x1)] [] g q c l R) : rr b e d 444 0 [(0, .ref 49), (1, .int x1)] [] g q c l R := by
  have key : ∀ f, nrun xZ (xY (xfm b)) xDT (f + 4) d 444 0 [(0, .ref 49), (1, .int x1)] [] (rH e g q c l) 0 0 = nrun xZ (xY (xfm b)) xDT f d 444 (if xCn .ne ((g 5)) ((Int32.ofInt (2))) = true then 29 else 8) [(0, .ref 49), (1, .int x1)] [] (rH e g q c l) 0 0 := by
    intro f
    obtain ⟨y, cb, hj⟩ := mq_444
    rw [n_step (st' := [.ref 49]) (pc' := 1) (lv' := [(0, .ref 49), (1, .int x1)]) (hp' := rH e g q c l) (i := .aload_n 0) (len := 1) rfl hj rfl rfl rfl]
    rw [n_get (st' := [.int (g 5)]) (pc' := 4) (lv' := [(0, .ref 49), (1, .int x1)]) (hp' := rH e g q c l) (i := .getfield 575) (len := 3) rfl hj rfl rfl rfl rfl]
    rw [n_step (st' := [.int (Int32.ofInt (2)), .int (g 5)]) (pc' := 5) (lv' := [(0, .ref 49), (1, .int x1)]) (hp' := rH e g q c l) (i := .iconst 2) (len := 1) rfl hj rfl rfl rfl]
    rw [n_step (st' := []) (pc' := (if xCn .ne ((g 5)) ((Int32.ofInt (2))) = true then 29 else 8)) (lv' := [(0, .ref 49), (1, .int x1)]) (hp' := rH e g q c l) (i := .if_icmp .ne 24) (len := 3) rfl hj rfl rfl rfl]
  by_cases hc : xCn .ne ((g 5)) ((Int32.ofInt (2))) = true
  · obtain ⟨f, h⟩ := h1 hc
    refine ⟨f + 4, ?_⟩
    rw [key, if_pos hc]
    exact nrun_ext f f _ _ R 444 29 [] [(0, .ref 49), (1, .int x1)] [] _ 0 0 122 (Nat.le_refl _) (Nat.le_refl _) (Nat.le_of_ble_eq_true rfl) (lvR_mk [] [0, 1] rfl rfl (by decide) (by decide) (fun _ h => nomatch h) (List.forall_mem_cons.mpr ⟨Or.inr rfl, (List.forall_mem_cons.mpr ⟨Or.inr rfl, (fun _ h => nomatch h)⟩)⟩)) h
  · obtain ⟨f, h⟩ := h2 hc
    refine ⟨f + 4, ?_⟩
    rw [key, if_neg hc]
    exact h
set_option maxRecDepth 100000 in
set_option maxHeartbeats 4000000 in
theorem bk_444_8 {b : Bool} {d : Nat} {x1 : Int32} {e : Nat → x_E} {g : Nat → Int32} {q : Nat → Int64} {c : Nat → Nat → Int32} {l : Nat → Nat → Int64} {R : Option Value × List x_E} (h1 : xCn .lt x1 0 = true → rr b e d 444 29 [] [] g q c l R) (h2 : ¬ xCn .lt x1 0 = true → rr b e d 444 12 [(0, .ref 49), (1, .int x1)] [] g q c l R) : rr b e d 444 8 [(0, .ref 49), (1, .int x1)] [] g q c l R := by
  have key : ∀ f, nrun xZ (xY (xfm b)) xDT (f + 2) d 444 8 [(0, .ref 49), (1, .int x1)] [] (rH e g q c l) 0 0 = nrun xZ (xY (xfm b)) xDT f d 444 (if xCn .lt x1 0 = true then 29 else 12) [(0, .ref 49), (1, .int x1)] [] (rH e g q c l) 0 0 := by
    intro f
    obtain ⟨y, cb, hj⟩ := mq_444
    rw [n_step (st' := [.int x1]) (pc' := 9) (lv' := [(0, .ref 49), (1, .int x1)]) (hp' := rH e g q c l) (i := .iload_n 1) (len := 1) rfl hj rfl rfl rfl]
    rw [n_step (st' := []) (pc' := (if xCn .lt x1 0 = true then 29 else 12)) (lv' := [(0, .ref 49), (1, .int x1)]) (hp' := rH e g q c l) (i := .ifCond .lt 20) (len := 3) rfl hj rfl rfl rfl]
  by_cases hc : xCn .lt x1 0 = true
  · obtain ⟨f, h⟩ := h1 hc
    refine ⟨f + 2, ?_⟩
    rw [key, if_pos hc]
    exact nrun_ext f f _ _ R 444 29 [] [(0, .ref 49), (1, .int x1)] [] _ 0 0 122 (Nat.le_refl _) (Nat.le_refl _) (Nat.le_of_ble_eq_true rfl) (lvR_mk [] [0, 1] rfl rfl (by decide) (by decide) (fun _ h => nomatch h) (List.forall_mem_cons.mpr ⟨Or.inr rfl, (List.forall_mem_cons.mpr ⟨Or.inr rfl, (fun _ h => nomatch h)⟩)⟩)) h
  · obtain ⟨f, h⟩ := h2 hc
    refine ⟨f + 2, ?_⟩
    rw [key, if_neg hc]
    exact h
set_option maxRecDepth 100000 in
set_option maxHeartbeats 4000000 in
theorem bk_444_12 {b : Bool} {d : Nat} {x1 : Int32} {e : Nat → x_E} {g : Nat → Int32} {q : Nat → Int64} {c : Nat → Nat → Int32} {l : Nat → Nat → Int64} {R : Option Value × List x_E} (h1 : xCn .ge x1 ((g 118)) = true → rr b e d 444 29 [] [] g q c l R) (h2 : ¬ xCn .ge x1 ((g 118)) = true → rr b e d 444 20 [(0, .ref 49), (1, .int x1)] [] g q c l R) : rr b e d 444 12 [(0, .ref 49), (1, .int x1)] [] g q c l R := by
  have key : ∀ f, nrun xZ (xY (xfm b)) xDT (f + 4) d 444 12 [(0, .ref 49), (1, .int x1)] [] (rH e g q c l) 0 0 = nrun xZ (xY (xfm b)) xDT f d 444 (if xCn .ge x1 ((g 118)) = true then 29 else 20) [(0, .ref 49), (1, .int x1)] [] (rH e g q c l) 0 0 := by
    intro f
    obtain ⟨y, cb, hj⟩ := mq_444
    rw [n_step (st' := [.int x1]) (pc' := 13) (lv' := [(0, .ref 49), (1, .int x1)]) (hp' := rH e g q c l) (i := .iload_n 1) (len := 1) rfl hj rfl rfl rfl]
    rw [n_step (st' := [.ref 49, .int x1]) (pc' := 14) (lv' := [(0, .ref 49), (1, .int x1)]) (hp' := rH e g q c l) (i := .aload_n 0) (len := 1) rfl hj rfl rfl rfl]
    rw [n_get (st' := [.int (g 118), .int x1]) (pc' := 17) (lv' := [(0, .ref 49), (1, .int x1)]) (hp' := rH e g q c l) (i := .getfield 763) (len := 3) rfl hj rfl rfl rfl rfl]
    rw [n_step (st' := []) (pc' := (if xCn .ge x1 ((g 118)) = true then 29 else 20)) (lv' := [(0, .ref 49), (1, .int x1)]) (hp' := rH e g q c l) (i := .if_icmp .ge 12) (len := 3) rfl hj rfl rfl rfl]
  by_cases hc : xCn .ge x1 ((g 118)) = true
  · obtain ⟨f, h⟩ := h1 hc
    refine ⟨f + 4, ?_⟩
    rw [key, if_pos hc]
    exact nrun_ext f f _ _ R 444 29 [] [(0, .ref 49), (1, .int x1)] [] _ 0 0 122 (Nat.le_refl _) (Nat.le_refl _) (Nat.le_of_ble_eq_true rfl) (lvR_mk [] [0, 1] rfl rfl (by decide) (by decide) (fun _ h => nomatch h) (List.forall_mem_cons.mpr ⟨Or.inr rfl, (List.forall_mem_cons.mpr ⟨Or.inr rfl, (fun _ h => nomatch h)⟩)⟩)) h
  · obtain ⟨f, h⟩ := h2 hc
    refine ⟨f + 4, ?_⟩
    rw [key, if_neg hc]
    exact h
set_option maxRecDepth 100000 in
set_option maxHeartbeats 4000000 in
theorem bk_444_20 {b : Bool} {d : Nat} {x1 : Int32} {e : Nat → x_E} {g : Nat → Int32} {q : Nat → Int64} {c : Nat → Nat → Int32} {l : Nat → Nat → Int64} {R : Option Value × List x_E} (hz0 : ¬ (x1 < 0 ∨ 41 ≤ (x1).toNatClampNeg)) (h : rr b e d 444 30 [] [.int (c 110 (x1).toNatClampNeg)] g q c l R) : rr b e d 444 20 [(0, .ref 49), (1, .int x1)] [] g q c l R := by
  obtain ⟨f, h⟩ := h
  refine ⟨f + 5, ?_⟩
  obtain ⟨y, cb, hj⟩ := mq_444
  rw [n_step (st' := [.ref 49]) (pc' := 21) (lv' := [(0, .ref 49), (1, .int x1)]) (hp' := rH e g q c l) (i := .aload_n 0) (len := 1) rfl hj rfl rfl rfl]
  rw [n_get (st' := [.ref 110]) (pc' := 24) (lv' := [(0, .ref 49), (1, .int x1)]) (hp' := rH e g q c l) (i := .getfield 201) (len := 3) rfl hj rfl rfl rfl rfl]
  rw [n_step (st' := [.int x1, .ref 110]) (pc' := 25) (lv' := [(0, .ref 49), (1, .int x1)]) (hp' := rH e g q c l) (i := .iload_n 1) (len := 1) rfl hj rfl rfl rfl]
  rw [n_ial (st' := [.int (c 110 (x1).toNatClampNeg)]) rfl hj (ald_110 hz0)]
  rw [n_step (st' := [.int (c 110 (x1).toNatClampNeg)]) (pc' := 30) (lv' := [(0, .ref 49), (1, .int x1)]) (hp' := rH e g q c l) (i := .goto 4) (len := 3) rfl hj rfl rfl rfl]
  exact nrun_ext f f _ _ R 444 30 [] [(0, .ref 49), (1, .int x1)] [.int (c 110 (x1).toNatClampNeg)] _ 0 0 122 (Nat.le_refl _) (Nat.le_refl _) (Nat.le_of_ble_eq_true rfl) (lvR_mk [] [0, 1] rfl rfl (by decide) (by decide) (fun _ h => nomatch h) (List.forall_mem_cons.mpr ⟨Or.inr rfl, (List.forall_mem_cons.mpr ⟨Or.inr rfl, (fun _ h => nomatch h)⟩)⟩)) h
set_option maxRecDepth 100000 in
set_option maxHeartbeats 4000000 in
theorem bk_444_29 {b : Bool} {d : Nat} {e : Nat → x_E} {g : Nat → Int32} {q : Nat → Int64} {c : Nat → Nat → Int32} {l : Nat → Nat → Int64} {R : Option Value × List x_E} (h : rr b e d 444 30 [] [.int (Int32.ofInt (-1))] g q c l R) : rr b e d 444 29 [] [] g q c l R := by
  obtain ⟨f, h⟩ := h
  refine ⟨f + 1, ?_⟩
  obtain ⟨y, cb, hj⟩ := mq_444
  rw [n_step (st' := [.int (Int32.ofInt (-1))]) (pc' := 30) (lv' := []) (hp' := rH e g q c l) (i := .iconst (-1)) (len := 1) rfl hj rfl rfl rfl]
  exact h
set_option maxRecDepth 100000 in
set_option maxHeartbeats 4000000 in
theorem bk_444_30 {b : Bool} {d : Nat} {t0 : Int32} {e : Nat → x_E} {g : Nat → Int32} {q : Nat → Int64} {c : Nat → Nat → Int32} {l : Nat → Nat → Int64} : rr b e d 444 30 [] [.int t0] g q c l (some (.int t0), rH e g q c l) := by
  refine ⟨0 + 1, ?_⟩
  obtain ⟨y, cb, hj⟩ := mq_444
  exact n_ret rfl hj rfl rfl (x_ret rfl)
set_option maxRecDepth 100000 in
set_option maxHeartbeats 4000000 in
theorem bk_445_0 {b : Bool} {d : Nat} {x1 x2 : Int32} {e : Nat → x_E} {g : Nat → Int32} {q : Nat → Int64} {c : Nat → Nat → Int32} {l : Nat → Nat → Int64} {R : Option Value × List x_E} (h1 : xCn .eq ((g 5)) 0 = true → rr b e d 445 29 [] [] g q c l R) (h2 : ¬ xCn .eq ((g 5)) 0 = true → rr b e d 445 7 [(0, .ref 49), (1, .int x1), (2, .int x2)] [] g q c l R) : rr b e d 445 0 [(0, .ref 49), (1, .int x1), (2, .int x2)] [] g q c l R := by
  have key : ∀ f, nrun xZ (xY (xfm b)) xDT (f + 3) d 445 0 [(0, .ref 49), (1, .int x1), (2, .int x2)] [] (rH e g q c l) 0 0 = nrun xZ (xY (xfm b)) xDT f d 445 (if xCn .eq ((g 5)) 0 = true then 29 else 7) [(0, .ref 49), (1, .int x1), (2, .int x2)] [] (rH e g q c l) 0 0 := by
    intro f
    obtain ⟨y, cb, hj⟩ := mq_445
    rw [n_step (st' := [.ref 49]) (pc' := 1) (lv' := [(0, .ref 49), (1, .int x1), (2, .int x2)]) (hp' := rH e g q c l) (i := .aload_n 0) (len := 1) rfl hj rfl rfl rfl]
    rw [n_get (st' := [.int (g 5)]) (pc' := 4) (lv' := [(0, .ref 49), (1, .int x1), (2, .int x2)]) (hp' := rH e g q c l) (i := .getfield 575) (len := 3) rfl hj rfl rfl rfl rfl]
    rw [n_step (st' := []) (pc' := (if xCn .eq ((g 5)) 0 = true then 29 else 7)) (lv' := [(0, .ref 49), (1, .int x1), (2, .int x2)]) (hp' := rH e g q c l) (i := .ifCond .eq 25) (len := 3) rfl hj rfl rfl rfl]
  by_cases hc : xCn .eq ((g 5)) 0 = true
  · obtain ⟨f, h⟩ := h1 hc
    refine ⟨f + 3, ?_⟩
    rw [key, if_pos hc]
    exact nrun_ext f f _ _ R 445 29 [] [(0, .ref 49), (1, .int x1), (2, .int x2)] [] _ 0 0 122 (Nat.le_refl _) (Nat.le_refl _) (Nat.le_of_ble_eq_true rfl) (lvR_mk [] [0, 1, 2] rfl rfl (by decide) (by decide) (fun _ h => nomatch h) (List.forall_mem_cons.mpr ⟨Or.inr rfl, (List.forall_mem_cons.mpr ⟨Or.inr rfl, (List.forall_mem_cons.mpr ⟨Or.inr rfl, (fun _ h => nomatch h)⟩)⟩)⟩)) h
  · obtain ⟨f, h⟩ := h2 hc
    refine ⟨f + 3, ?_⟩
    rw [key, if_neg hc]
    exact h
set_option maxRecDepth 100000 in
set_option maxHeartbeats 4000000 in
theorem bk_445_7 {b : Bool} {d : Nat} {x1 x2 : Int32} {e : Nat → x_E} {g : Nat → Int32} {q : Nat → Int64} {c : Nat → Nat → Int32} {l : Nat → Nat → Int64} {R : Option Value × List x_E} (h1 : xCn .lt x1 0 = true → rr b e d 445 29 [] [] g q c l R) (h2 : ¬ xCn .lt x1 0 = true → rr b e d 445 11 [(0, .ref 49), (1, .int x1), (2, .int x2)] [] g q c l R) : rr b e d 445 7 [(0, .ref 49), (1, .int x1), (2, .int x2)] [] g q c l R := by
  have key : ∀ f, nrun xZ (xY (xfm b)) xDT (f + 2) d 445 7 [(0, .ref 49), (1, .int x1), (2, .int x2)] [] (rH e g q c l) 0 0 = nrun xZ (xY (xfm b)) xDT f d 445 (if xCn .lt x1 0 = true then 29 else 11) [(0, .ref 49), (1, .int x1), (2, .int x2)] [] (rH e g q c l) 0 0 := by
    intro f
    obtain ⟨y, cb, hj⟩ := mq_445
    rw [n_step (st' := [.int x1]) (pc' := 8) (lv' := [(0, .ref 49), (1, .int x1), (2, .int x2)]) (hp' := rH e g q c l) (i := .iload_n 1) (len := 1) rfl hj rfl rfl rfl]
    rw [n_step (st' := []) (pc' := (if xCn .lt x1 0 = true then 29 else 11)) (lv' := [(0, .ref 49), (1, .int x1), (2, .int x2)]) (hp' := rH e g q c l) (i := .ifCond .lt 21) (len := 3) rfl hj rfl rfl rfl]
  by_cases hc : xCn .lt x1 0 = true
  · obtain ⟨f, h⟩ := h1 hc
    refine ⟨f + 2, ?_⟩
    rw [key, if_pos hc]
    exact nrun_ext f f _ _ R 445 29 [] [(0, .ref 49), (1, .int x1), (2, .int x2)] [] _ 0 0 122 (Nat.le_refl _) (Nat.le_refl _) (Nat.le_of_ble_eq_true rfl) (lvR_mk [] [0, 1, 2] rfl rfl (by decide) (by decide) (fun _ h => nomatch h) (List.forall_mem_cons.mpr ⟨Or.inr rfl, (List.forall_mem_cons.mpr ⟨Or.inr rfl, (List.forall_mem_cons.mpr ⟨Or.inr rfl, (fun _ h => nomatch h)⟩)⟩)⟩)) h
  · obtain ⟨f, h⟩ := h2 hc
    refine ⟨f + 2, ?_⟩
    rw [key, if_neg hc]
    exact h
set_option maxRecDepth 100000 in
set_option maxHeartbeats 4000000 in
theorem bk_445_11 {b : Bool} {d : Nat} {x1 x2 : Int32} {e : Nat → x_E} {g : Nat → Int32} {q : Nat → Int64} {c : Nat → Nat → Int32} {l : Nat → Nat → Int64} {R : Option Value × List x_E} (h1 : xCn .gt x1 ((Int16.ofInt (20000)).toInt32) = true → rr b e d 445 29 [] [] g q c l R) (h2 : ¬ xCn .gt x1 ((Int16.ofInt (20000)).toInt32) = true → rr b e d 445 18 [(0, .ref 49), (1, .int x1), (2, .int x2)] [] g q c l R) : rr b e d 445 11 [(0, .ref 49), (1, .int x1), (2, .int x2)] [] g q c l R := by
  have key : ∀ f, nrun xZ (xY (xfm b)) xDT (f + 3) d 445 11 [(0, .ref 49), (1, .int x1), (2, .int x2)] [] (rH e g q c l) 0 0 = nrun xZ (xY (xfm b)) xDT f d 445 (if xCn .gt x1 ((Int16.ofInt (20000)).toInt32) = true then 29 else 18) [(0, .ref 49), (1, .int x1), (2, .int x2)] [] (rH e g q c l) 0 0 := by
    intro f
    obtain ⟨y, cb, hj⟩ := mq_445
    rw [n_step (st' := [.int x1]) (pc' := 12) (lv' := [(0, .ref 49), (1, .int x1), (2, .int x2)]) (hp' := rH e g q c l) (i := .iload_n 1) (len := 1) rfl hj rfl rfl rfl]
    rw [n_step (st' := [.int (Int16.ofInt (20000)).toInt32, .int x1]) (pc' := 15) (lv' := [(0, .ref 49), (1, .int x1), (2, .int x2)]) (hp' := rH e g q c l) (i := .sipush 20000) (len := 3) rfl hj rfl rfl rfl]
    rw [n_step (st' := []) (pc' := (if xCn .gt x1 ((Int16.ofInt (20000)).toInt32) = true then 29 else 18)) (lv' := [(0, .ref 49), (1, .int x1), (2, .int x2)]) (hp' := rH e g q c l) (i := .if_icmp .gt 14) (len := 3) rfl hj rfl rfl rfl]
  by_cases hc : xCn .gt x1 ((Int16.ofInt (20000)).toInt32) = true
  · obtain ⟨f, h⟩ := h1 hc
    refine ⟨f + 3, ?_⟩
    rw [key, if_pos hc]
    exact nrun_ext f f _ _ R 445 29 [] [(0, .ref 49), (1, .int x1), (2, .int x2)] [] _ 0 0 122 (Nat.le_refl _) (Nat.le_refl _) (Nat.le_of_ble_eq_true rfl) (lvR_mk [] [0, 1, 2] rfl rfl (by decide) (by decide) (fun _ h => nomatch h) (List.forall_mem_cons.mpr ⟨Or.inr rfl, (List.forall_mem_cons.mpr ⟨Or.inr rfl, (List.forall_mem_cons.mpr ⟨Or.inr rfl, (fun _ h => nomatch h)⟩)⟩)⟩)) h
  · obtain ⟨f, h⟩ := h2 hc
    refine ⟨f + 3, ?_⟩
    rw [key, if_neg hc]
    exact h
set_option maxRecDepth 100000 in
set_option maxHeartbeats 4000000 in
theorem bk_445_18 {b : Bool} {d : Nat} {x1 x2 : Int32} {e : Nat → x_E} {g : Nat → Int32} {q : Nat → Int64} {c : Nat → Nat → Int32} {l : Nat → Nat → Int64} {R : Option Value × List x_E} (h1 : xCn .lt x2 0 = true → rr b e d 445 29 [] [] g q c l R) (h2 : ¬ xCn .lt x2 0 = true → rr b e d 445 22 [(0, .ref 49), (1, .int x1), (2, .int x2)] [] g q c l R) : rr b e d 445 18 [(0, .ref 49), (1, .int x1), (2, .int x2)] [] g q c l R := by
  have key : ∀ f, nrun xZ (xY (xfm b)) xDT (f + 2) d 445 18 [(0, .ref 49), (1, .int x1), (2, .int x2)] [] (rH e g q c l) 0 0 = nrun xZ (xY (xfm b)) xDT f d 445 (if xCn .lt x2 0 = true then 29 else 22) [(0, .ref 49), (1, .int x1), (2, .int x2)] [] (rH e g q c l) 0 0 := by
    intro f
    obtain ⟨y, cb, hj⟩ := mq_445
    rw [n_step (st' := [.int x2]) (pc' := 19) (lv' := [(0, .ref 49), (1, .int x1), (2, .int x2)]) (hp' := rH e g q c l) (i := .iload_n 2) (len := 1) rfl hj rfl rfl rfl]
    rw [n_step (st' := []) (pc' := (if xCn .lt x2 0 = true then 29 else 22)) (lv' := [(0, .ref 49), (1, .int x1), (2, .int x2)]) (hp' := rH e g q c l) (i := .ifCond .lt 10) (len := 3) rfl hj rfl rfl rfl]
  by_cases hc : xCn .lt x2 0 = true
  · obtain ⟨f, h⟩ := h1 hc
    refine ⟨f + 2, ?_⟩
    rw [key, if_pos hc]
    exact nrun_ext f f _ _ R 445 29 [] [(0, .ref 49), (1, .int x1), (2, .int x2)] [] _ 0 0 122 (Nat.le_refl _) (Nat.le_refl _) (Nat.le_of_ble_eq_true rfl) (lvR_mk [] [0, 1, 2] rfl rfl (by decide) (by decide) (fun _ h => nomatch h) (List.forall_mem_cons.mpr ⟨Or.inr rfl, (List.forall_mem_cons.mpr ⟨Or.inr rfl, (List.forall_mem_cons.mpr ⟨Or.inr rfl, (fun _ h => nomatch h)⟩)⟩)⟩)) h
  · obtain ⟨f, h⟩ := h2 hc
    refine ⟨f + 2, ?_⟩
    rw [key, if_neg hc]
    exact h
set_option maxRecDepth 100000 in
set_option maxHeartbeats 4000000 in
theorem bk_445_22 {b : Bool} {d : Nat} {x1 x2 : Int32} {e : Nat → x_E} {g : Nat → Int32} {q : Nat → Int64} {c : Nat → Nat → Int32} {l : Nat → Nat → Int64} {R : Option Value × List x_E} (h1 : xCn .le x2 ((Int16.ofInt (20000)).toInt32) = true → rr b e d 445 31 [(0, .ref 49), (1, .int x1), (2, .int x2)] [] g q c l R) (h2 : ¬ xCn .le x2 ((Int16.ofInt (20000)).toInt32) = true → rr b e d 445 29 [] [] g q c l R) : rr b e d 445 22 [(0, .ref 49), (1, .int x1), (2, .int x2)] [] g q c l R := by
  have key : ∀ f, nrun xZ (xY (xfm b)) xDT (f + 3) d 445 22 [(0, .ref 49), (1, .int x1), (2, .int x2)] [] (rH e g q c l) 0 0 = nrun xZ (xY (xfm b)) xDT f d 445 (if xCn .le x2 ((Int16.ofInt (20000)).toInt32) = true then 31 else 29) [(0, .ref 49), (1, .int x1), (2, .int x2)] [] (rH e g q c l) 0 0 := by
    intro f
    obtain ⟨y, cb, hj⟩ := mq_445
    rw [n_step (st' := [.int x2]) (pc' := 23) (lv' := [(0, .ref 49), (1, .int x1), (2, .int x2)]) (hp' := rH e g q c l) (i := .iload_n 2) (len := 1) rfl hj rfl rfl rfl]
    rw [n_step (st' := [.int (Int16.ofInt (20000)).toInt32, .int x2]) (pc' := 26) (lv' := [(0, .ref 49), (1, .int x1), (2, .int x2)]) (hp' := rH e g q c l) (i := .sipush 20000) (len := 3) rfl hj rfl rfl rfl]
    rw [n_step (st' := []) (pc' := (if xCn .le x2 ((Int16.ofInt (20000)).toInt32) = true then 31 else 29)) (lv' := [(0, .ref 49), (1, .int x1), (2, .int x2)]) (hp' := rH e g q c l) (i := .if_icmp .le 5) (len := 3) rfl hj rfl rfl rfl]
  by_cases hc : xCn .le x2 ((Int16.ofInt (20000)).toInt32) = true
  · obtain ⟨f, h⟩ := h1 hc
    refine ⟨f + 3, ?_⟩
    rw [key, if_pos hc]
    exact h
  · obtain ⟨f, h⟩ := h2 hc
    refine ⟨f + 3, ?_⟩
    rw [key, if_neg hc]
    exact nrun_ext f f _ _ R 445 29 [] [(0, .ref 49), (1, .int x1), (2, .int x2)] [] _ 0 0 122 (Nat.le_refl _) (Nat.le_refl _) (Nat.le_of_ble_eq_true rfl) (lvR_mk [] [0, 1, 2] rfl rfl (by decide) (by decide) (fun _ h => nomatch h) (List.forall_mem_cons.mpr ⟨Or.inr rfl, (List.forall_mem_cons.mpr ⟨Or.inr rfl, (List.forall_mem_cons.mpr ⟨Or.inr rfl, (fun _ h => nomatch h)⟩)⟩)⟩)) h
set_option maxRecDepth 100000 in
set_option maxHeartbeats 4000000 in
theorem bk_445_29 {b : Bool} {d : Nat} {e : Nat → x_E} {g : Nat → Int32} {q : Nat → Int64} {c : Nat → Nat → Int32} {l : Nat → Nat → Int64} : rr b e d 445 29 [] [] g q c l (some (.int (Int32.ofInt (-1))), rH e g q c l) := by
  refine ⟨0 + 2, ?_⟩
  obtain ⟨y, cb, hj⟩ := mq_445
  rw [n_step (st' := [.int (Int32.ofInt (-1))]) (pc' := 30) (lv' := []) (hp' := rH e g q c l) (i := .iconst (-1)) (len := 1) rfl hj rfl rfl rfl]
  exact n_ret rfl hj rfl rfl (x_ret rfl)
set_option maxRecDepth 100000 in
set_option maxHeartbeats 4000000 in
theorem bk_445_31 {b : Bool} {d : Nat} {x1 x2 : Int32} {e : Nat → x_E} {g : Nat → Int32} {q : Nat → Int64} {c : Nat → Nat → Int32} {l : Nat → Nat → Int64} {R : Option Value × List x_E} (h1 : xCn .ne ((g 5)) ((Int32.ofInt (1))) = true → rr b e d 445 52 [(0, .ref 49), (1, .int x1), (2, .int x2)] [] g q c l R) (h2 : ¬ xCn .ne ((g 5)) ((Int32.ofInt (1))) = true → rr b e d 445 39 [(0, .ref 49), (1, .int x1), (2, .int x2)] [] g q c l R) : rr b e d 445 31 [(0, .ref 49), (1, .int x1), (2, .int x2)] [] g q c l R := by
  have key : ∀ f, nrun xZ (xY (xfm b)) xDT (f + 4) d 445 31 [(0, .ref 49), (1, .int x1), (2, .int x2)] [] (rH e g q c l) 0 0 = nrun xZ (xY (xfm b)) xDT f d 445 (if xCn .ne ((g 5)) ((Int32.ofInt (1))) = true then 52 else 39) [(0, .ref 49), (1, .int x1), (2, .int x2)] [] (rH e g q c l) 0 0 := by
    intro f
    obtain ⟨y, cb, hj⟩ := mq_445
    rw [n_step (st' := [.ref 49]) (pc' := 32) (lv' := [(0, .ref 49), (1, .int x1), (2, .int x2)]) (hp' := rH e g q c l) (i := .aload_n 0) (len := 1) rfl hj rfl rfl rfl]
    rw [n_get (st' := [.int (g 5)]) (pc' := 35) (lv' := [(0, .ref 49), (1, .int x1), (2, .int x2)]) (hp' := rH e g q c l) (i := .getfield 575) (len := 3) rfl hj rfl rfl rfl rfl]
    rw [n_step (st' := [.int (Int32.ofInt (1)), .int (g 5)]) (pc' := 36) (lv' := [(0, .ref 49), (1, .int x1), (2, .int x2)]) (hp' := rH e g q c l) (i := .iconst 1) (len := 1) rfl hj rfl rfl rfl]
    rw [n_step (st' := []) (pc' := (if xCn .ne ((g 5)) ((Int32.ofInt (1))) = true then 52 else 39)) (lv' := [(0, .ref 49), (1, .int x1), (2, .int x2)]) (hp' := rH e g q c l) (i := .if_icmp .ne 16) (len := 3) rfl hj rfl rfl rfl]
  by_cases hc : xCn .ne ((g 5)) ((Int32.ofInt (1))) = true
  · obtain ⟨f, h⟩ := h1 hc
    refine ⟨f + 4, ?_⟩
    rw [key, if_pos hc]
    exact h
  · obtain ⟨f, h⟩ := h2 hc
    refine ⟨f + 4, ?_⟩
    rw [key, if_neg hc]
    exact h
set_option maxRecDepth 100000 in
set_option maxHeartbeats 4000000 in
theorem bk_445_39 {b : Bool} {d : Nat} {x1 x2 : Int32} {e : Nat → x_E} {g : Nat → Int32} {q : Nat → Int64} {c : Nat → Nat → Int32} {l : Nat → Nat → Int64} {g' : Nat → Int32} {q' : Nat → Int64} {c' : Nat → Nat → Int32} {l' : Nat → Nat → Int64} {v : Int32} {R : Option Value × List x_E} (hc : rr b e d 386 0 [(0, .ref 49), (1, .int (g 63))] [] g q c l (some (.int v), rH e g' q' c' l')) (h : rr b e (d + 1) 445 47 [(0, .ref 49), (1, .int x1), (2, .int x2)] [.int v] g' q' c' l' R) : rr b e (d + 1) 445 39 [(0, .ref 49), (1, .int x1), (2, .int x2)] [] g q c l R := by
  obtain ⟨f1, hc⟩ := hc
  obtain ⟨f2, h⟩ := h
  obtain ⟨f, hf1, hf2⟩ : ∃ f, f1 ≤ f ∧ f2 ≤ f := ⟨max f1 f2, Nat.le_max_left _ _, Nat.le_max_right _ _⟩
  have hc := nrun_fuel f1 f _ _ _ _ _ _ _ _ _ hf1 hc
  have h := nrun_fuel f2 f _ _ _ _ _ _ _ _ _ hf2 h
  refine ⟨f + 4, ?_⟩
  obtain ⟨y, cb, hj⟩ := mq_445
  rw [n_step (st' := [.ref 49]) (pc' := 40) (lv' := [(0, .ref 49), (1, .int x1), (2, .int x2)]) (hp' := rH e g q c l) (i := .aload_n 0) (len := 1) rfl hj rfl rfl rfl]
  rw [n_step (st' := [.ref 49, .ref 49]) (pc' := 41) (lv' := [(0, .ref 49), (1, .int x1), (2, .int x2)]) (hp' := rH e g q c l) (i := .aload_n 0) (len := 1) rfl hj rfl rfl rfl]
  rw [n_get (st' := [.int (g 63), .ref 49]) (pc' := 44) (lv' := [(0, .ref 49), (1, .int x1), (2, .int x2)]) (hp' := rH e g q c l) (i := .getfield 590) (len := 3) rfl hj rfl rfl rfl rfl]
  obtain ⟨y2, cb2, hj2⟩ := mq_386
  rw [n_call (f := f) (d := d) (ki := 0) (idx := 442) (j' := 386) (kd := 0) (M' := (y2, cb2, 2, some .boolean, 12, 1, 0, 0)) (avs := [.ref 49, .int (g 63)]) (r := []) (rv := some (.int v)) (hp1 := rH e g' q' c' l') rfl hj rfl rfl rfl rfl (rq_n rfl rfl hj2 rfl rfl) rfl hc (Nat.le_of_ble_eq_true rfl)]
  exact h
set_option maxRecDepth 100000 in
set_option maxHeartbeats 4000000 in
theorem bk_445_47 {b : Bool} {d : Nat} {t0 x1 x2 : Int32} {e : Nat → x_E} {g : Nat → Int32} {q : Nat → Int64} {c : Nat → Nat → Int32} {l : Nat → Nat → Int64} {R : Option Value × List x_E} (h1 : xCn .ne t0 0 = true → rr b e d 445 52 [(0, .ref 49), (1, .int x1), (2, .int x2)] [] g q c l R) (h2 : ¬ xCn .ne t0 0 = true → rr b e d 445 50 [] [] g q c l R) : rr b e d 445 47 [(0, .ref 49), (1, .int x1), (2, .int x2)] [.int t0] g q c l R := by
  have key : ∀ f, nrun xZ (xY (xfm b)) xDT (f + 1) d 445 47 [(0, .ref 49), (1, .int x1), (2, .int x2)] [.int t0] (rH e g q c l) 0 0 = nrun xZ (xY (xfm b)) xDT f d 445 (if xCn .ne t0 0 = true then 52 else 50) [(0, .ref 49), (1, .int x1), (2, .int x2)] [] (rH e g q c l) 0 0 := by
    intro f
    obtain ⟨y, cb, hj⟩ := mq_445
    rw [n_step (st' := []) (pc' := (if xCn .ne t0 0 = true then 52 else 50)) (lv' := [(0, .ref 49), (1, .int x1), (2, .int x2)]) (hp' := rH e g q c l) (i := .ifCond .ne 5) (len := 3) rfl hj rfl rfl rfl]
  by_cases hc : xCn .ne t0 0 = true
  · obtain ⟨f, h⟩ := h1 hc
    refine ⟨f + 1, ?_⟩
    rw [key, if_pos hc]
    exact h
  · obtain ⟨f, h⟩ := h2 hc
    refine ⟨f + 1, ?_⟩
    rw [key, if_neg hc]
    exact nrun_ext f f _ _ R 445 50 [] [(0, .ref 49), (1, .int x1), (2, .int x2)] [] _ 0 0 122 (Nat.le_refl _) (Nat.le_refl _) (Nat.le_of_ble_eq_true rfl) (lvR_mk [] [0, 1, 2] rfl rfl (by decide) (by decide) (fun _ h => nomatch h) (List.forall_mem_cons.mpr ⟨Or.inr rfl, (List.forall_mem_cons.mpr ⟨Or.inr rfl, (List.forall_mem_cons.mpr ⟨Or.inr rfl, (fun _ h => nomatch h)⟩)⟩)⟩)) h
set_option maxRecDepth 100000 in
set_option maxHeartbeats 4000000 in
theorem bk_445_50 {b : Bool} {d : Nat} {e : Nat → x_E} {g : Nat → Int32} {q : Nat → Int64} {c : Nat → Nat → Int32} {l : Nat → Nat → Int64} : rr b e d 445 50 [] [] g q c l (some (.int (Int32.ofInt (-1))), rH e g q c l) := by
  refine ⟨0 + 2, ?_⟩
  obtain ⟨y, cb, hj⟩ := mq_445
  rw [n_step (st' := [.int (Int32.ofInt (-1))]) (pc' := 51) (lv' := []) (hp' := rH e g q c l) (i := .iconst (-1)) (len := 1) rfl hj rfl rfl rfl]
  exact n_ret rfl hj rfl rfl (x_ret rfl)
set_option maxRecDepth 100000 in
set_option maxHeartbeats 4000000 in
theorem bk_445_52 {b : Bool} {d : Nat} {x1 x2 : Int32} {e : Nat → x_E} {g : Nat → Int32} {q : Nat → Int64} {c : Nat → Nat → Int32} {l : Nat → Nat → Int64} {g' : Nat → Int32} {q' : Nat → Int64} {c' : Nat → Nat → Int32} {l' : Nat → Nat → Int64} {R : Option Value × List x_E} (hc : rr b e d 319 0 [(0, .ref 49)] [] g q c l (none, rH e g' q' c' l')) (h : rr b e (d + 1) 445 56 [(0, .ref 49), (1, .int x1), (2, .int x2)] [] g' q' c' l' R) : rr b e (d + 1) 445 52 [(0, .ref 49), (1, .int x1), (2, .int x2)] [] g q c l R := by
  obtain ⟨f1, hc⟩ := hc
  obtain ⟨f2, h⟩ := h
  obtain ⟨f, hf1, hf2⟩ : ∃ f, f1 ≤ f ∧ f2 ≤ f := ⟨max f1 f2, Nat.le_max_left _ _, Nat.le_max_right _ _⟩
  have hc := nrun_fuel f1 f _ _ _ _ _ _ _ _ _ hf1 hc
  have h := nrun_fuel f2 f _ _ _ _ _ _ _ _ _ hf2 h
  refine ⟨f + 2, ?_⟩
  obtain ⟨y, cb, hj⟩ := mq_445
  rw [n_step (st' := [.ref 49]) (pc' := 53) (lv' := [(0, .ref 49), (1, .int x1), (2, .int x2)]) (hp' := rH e g q c l) (i := .aload_n 0) (len := 1) rfl hj rfl rfl rfl]
  obtain ⟨y2, cb2, hj2⟩ := mq_319
  rw [n_call (f := f) (d := d) (ki := 0) (idx := 578) (j' := 319) (kd := 0) (M' := (y2, cb2, 1, none, 12, 0, 0, 0)) (avs := [.ref 49]) (r := []) (rv := none) (hp1 := rH e g' q' c' l') rfl hj rfl rfl rfl rfl (rq_n rfl rfl hj2 rfl rfl) rfl hc (Nat.le_of_ble_eq_true rfl)]
  exact h
set_option maxRecDepth 100000 in
set_option maxHeartbeats 4000000 in
theorem bk_445_56 {b : Bool} {d : Nat} {x1 x2 : Int32} {e : Nat → x_E} {g : Nat → Int32} {q : Nat → Int64} {c : Nat → Nat → Int32} {l : Nat → Nat → Int64} {R : Option Value × List x_E} (h1 : xCn .ne (((upd (upd g 65 x2) 71 ((Int32.ofInt (0)))) 5)) ((Int32.ofInt (2))) = true → rr b e d 445 79 [(0, .ref 49), (1, .int x1)] [.ref 49] (upd (upd g 65 x2) 71 ((Int32.ofInt (0)))) q c l R) (h2 : ¬ xCn .ne (((upd (upd g 65 x2) 71 ((Int32.ofInt (0)))) 5)) ((Int32.ofInt (2))) = true → rr b e d 445 75 [(0, .ref 49), (1, .int x1)] [.ref 49] (upd (upd g 65 x2) 71 ((Int32.ofInt (0)))) q c l R) : rr b e d 445 56 [(0, .ref 49), (1, .int x1), (2, .int x2)] [] g q c l R := by
  have key : ∀ f, nrun xZ (xY (xfm b)) xDT (f + 11) d 445 56 [(0, .ref 49), (1, .int x1), (2, .int x2)] [] (rH e g q c l) 0 0 = nrun xZ (xY (xfm b)) xDT f d 445 (if xCn .ne (((upd (upd g 65 x2) 71 ((Int32.ofInt (0)))) 5)) ((Int32.ofInt (2))) = true then 79 else 75) [(0, .ref 49), (1, .int x1), (2, .int x2)] [.ref 49] (rH e (upd (upd g 65 x2) 71 ((Int32.ofInt (0)))) q c l) 0 0 := by
    intro f
    obtain ⟨y, cb, hj⟩ := mq_445
    rw [n_step (st' := [.ref 49]) (pc' := 57) (lv' := [(0, .ref 49), (1, .int x1), (2, .int x2)]) (hp' := rH e g q c l) (i := .aload_n 0) (len := 1) rfl hj rfl rfl rfl]
    rw [n_step (st' := [.int x2, .ref 49]) (pc' := 58) (lv' := [(0, .ref 49), (1, .int x1), (2, .int x2)]) (hp' := rH e g q c l) (i := .iload_n 2) (len := 1) rfl hj rfl rfl rfl]
    rw [n_put (st' := []) (hp' := rH e (upd g 65 x2) q c l) rfl hj pf_65]
    rw [n_step (st' := [.ref 49]) (pc' := 62) (lv' := [(0, .ref 49), (1, .int x1), (2, .int x2)]) (hp' := rH e (upd g 65 x2) q c l) (i := .aload_n 0) (len := 1) rfl hj rfl rfl rfl]
    rw [n_step (st' := [.int (Int32.ofInt (0)), .ref 49]) (pc' := 63) (lv' := [(0, .ref 49), (1, .int x1), (2, .int x2)]) (hp' := rH e (upd g 65 x2) q c l) (i := .iconst 0) (len := 1) rfl hj rfl rfl rfl]
    rw [n_put (st' := []) (hp' := rH e (upd (upd g 65 x2) 71 ((Int32.ofInt (0)))) q c l) rfl hj pf_71]
    rw [n_step (st' := [.ref 49]) (pc' := 67) (lv' := [(0, .ref 49), (1, .int x1), (2, .int x2)]) (hp' := rH e (upd (upd g 65 x2) 71 ((Int32.ofInt (0)))) q c l) (i := .aload_n 0) (len := 1) rfl hj rfl rfl rfl]
    rw [n_step (st' := [.ref 49, .ref 49]) (pc' := 68) (lv' := [(0, .ref 49), (1, .int x1), (2, .int x2)]) (hp' := rH e (upd (upd g 65 x2) 71 ((Int32.ofInt (0)))) q c l) (i := .aload_n 0) (len := 1) rfl hj rfl rfl rfl]
    rw [n_get (st' := [.int ((upd (upd g 65 x2) 71 ((Int32.ofInt (0)))) 5), .ref 49]) (pc' := 71) (lv' := [(0, .ref 49), (1, .int x1), (2, .int x2)]) (hp' := rH e (upd (upd g 65 x2) 71 ((Int32.ofInt (0)))) q c l) (i := .getfield 575) (len := 3) rfl hj rfl rfl rfl rfl]
    rw [n_step (st' := [.int (Int32.ofInt (2)), .int ((upd (upd g 65 x2) 71 ((Int32.ofInt (0)))) 5), .ref 49]) (pc' := 72) (lv' := [(0, .ref 49), (1, .int x1), (2, .int x2)]) (hp' := rH e (upd (upd g 65 x2) 71 ((Int32.ofInt (0)))) q c l) (i := .iconst 2) (len := 1) rfl hj rfl rfl rfl]
    rw [n_step (st' := [.ref 49]) (pc' := (if xCn .ne (((upd (upd g 65 x2) 71 ((Int32.ofInt (0)))) 5)) ((Int32.ofInt (2))) = true then 79 else 75)) (lv' := [(0, .ref 49), (1, .int x1), (2, .int x2)]) (hp' := rH e (upd (upd g 65 x2) 71 ((Int32.ofInt (0)))) q c l) (i := .if_icmp .ne 7) (len := 3) rfl hj rfl rfl rfl]
  by_cases hc : xCn .ne (((upd (upd g 65 x2) 71 ((Int32.ofInt (0)))) 5)) ((Int32.ofInt (2))) = true
  · obtain ⟨f, h⟩ := h1 hc
    refine ⟨f + 11, ?_⟩
    rw [key, if_pos hc]
    exact nrun_ext f f _ _ R 445 79 [(0, .ref 49), (1, .int x1)] [(0, .ref 49), (1, .int x1), (2, .int x2)] [.ref 49] _ 0 0 122 (Nat.le_refl _) (Nat.le_refl _) (Nat.le_of_ble_eq_true rfl) (lvR_mk [0, 1] [0, 1, 2] rfl rfl (by decide) (by decide) (List.forall_mem_cons.mpr ⟨List.mem_cons_self, (List.forall_mem_cons.mpr ⟨(List.mem_cons_of_mem _ List.mem_cons_self), (fun _ h => nomatch h)⟩)⟩) (List.forall_mem_cons.mpr ⟨Or.inl List.mem_cons_self, (List.forall_mem_cons.mpr ⟨Or.inl (List.mem_cons_of_mem _ List.mem_cons_self), (List.forall_mem_cons.mpr ⟨Or.inr rfl, (fun _ h => nomatch h)⟩)⟩)⟩)) h
  · obtain ⟨f, h⟩ := h2 hc
    refine ⟨f + 11, ?_⟩
    rw [key, if_neg hc]
    exact nrun_ext f f _ _ R 445 75 [(0, .ref 49), (1, .int x1)] [(0, .ref 49), (1, .int x1), (2, .int x2)] [.ref 49] _ 0 0 122 (Nat.le_refl _) (Nat.le_refl _) (Nat.le_of_ble_eq_true rfl) (lvR_mk [0, 1] [0, 1, 2] rfl rfl (by decide) (by decide) (List.forall_mem_cons.mpr ⟨List.mem_cons_self, (List.forall_mem_cons.mpr ⟨(List.mem_cons_of_mem _ List.mem_cons_self), (fun _ h => nomatch h)⟩)⟩) (List.forall_mem_cons.mpr ⟨Or.inl List.mem_cons_self, (List.forall_mem_cons.mpr ⟨Or.inl (List.mem_cons_of_mem _ List.mem_cons_self), (List.forall_mem_cons.mpr ⟨Or.inr rfl, (fun _ h => nomatch h)⟩)⟩)⟩)) h
set_option maxRecDepth 100000 in
set_option maxHeartbeats 4000000 in
theorem bk_445_75 {b : Bool} {d : Nat} {x1 : Int32} {e : Nat → x_E} {g : Nat → Int32} {q : Nat → Int64} {c : Nat → Nat → Int32} {l : Nat → Nat → Int64} {R : Option Value × List x_E} (h : rr b e d 445 80 [(0, .ref 49), (1, .int x1)] [.int (Int32.ofInt (1)), .ref 49] g q c l R) : rr b e d 445 75 [(0, .ref 49), (1, .int x1)] [.ref 49] g q c l R := by
  obtain ⟨f, h⟩ := h
  refine ⟨f + 2, ?_⟩
  obtain ⟨y, cb, hj⟩ := mq_445
  rw [n_step (st' := [.int (Int32.ofInt (1)), .ref 49]) (pc' := 76) (lv' := [(0, .ref 49), (1, .int x1)]) (hp' := rH e g q c l) (i := .iconst 1) (len := 1) rfl hj rfl rfl rfl]
  rw [n_step (st' := [.int (Int32.ofInt (1)), .ref 49]) (pc' := 80) (lv' := [(0, .ref 49), (1, .int x1)]) (hp' := rH e g q c l) (i := .goto 4) (len := 3) rfl hj rfl rfl rfl]
  exact h
set_option maxRecDepth 100000 in
set_option maxHeartbeats 4000000 in
theorem bk_445_79 {b : Bool} {d : Nat} {x1 : Int32} {e : Nat → x_E} {g : Nat → Int32} {q : Nat → Int64} {c : Nat → Nat → Int32} {l : Nat → Nat → Int64} {R : Option Value × List x_E} (h : rr b e d 445 80 [(0, .ref 49), (1, .int x1)] [.int (Int32.ofInt (0)), .ref 49] g q c l R) : rr b e d 445 79 [(0, .ref 49), (1, .int x1)] [.ref 49] g q c l R := by
  obtain ⟨f, h⟩ := h
  refine ⟨f + 1, ?_⟩
  obtain ⟨y, cb, hj⟩ := mq_445
  rw [n_step (st' := [.int (Int32.ofInt (0)), .ref 49]) (pc' := 80) (lv' := [(0, .ref 49), (1, .int x1)]) (hp' := rH e g q c l) (i := .iconst 0) (len := 1) rfl hj rfl rfl rfl]
  exact h
set_option maxRecDepth 100000 in
set_option maxHeartbeats 4000000 in
theorem bk_445_80 {b : Bool} {d : Nat} {t0 x1 : Int32} {e : Nat → x_E} {g : Nat → Int32} {q : Nat → Int64} {c : Nat → Nat → Int32} {l : Nat → Nat → Int64} {R : Option Value × List x_E} (hz0 : t0 = 0 ∨ t0 = 1) (h1 : xCn .ne (((upd g 143 t0) 5)) ((Int32.ofInt (1))) = true → rr b e d 445 99 [(0, .ref 49), (1, .int x1)] [] (upd g 143 t0) q c l R) (h2 : ¬ xCn .ne (((upd g 143 t0) 5)) ((Int32.ofInt (1))) = true → rr b e d 445 91 [(0, .ref 49), (1, .int x1)] [] (upd g 143 t0) q c l R) : rr b e d 445 80 [(0, .ref 49), (1, .int x1)] [.int t0, .ref 49] g q c l R := by
  have key : ∀ f, nrun xZ (xY (xfm b)) xDT (f + 5) d 445 80 [(0, .ref 49), (1, .int x1)] [.int t0, .ref 49] (rH e g q c l) 0 0 = nrun xZ (xY (xfm b)) xDT f d 445 (if xCn .ne (((upd g 143 t0) 5)) ((Int32.ofInt (1))) = true then 99 else 91) [(0, .ref 49), (1, .int x1)] [] (rH e (upd g 143 t0) q c l) 0 0 := by
    intro f
    obtain ⟨y, cb, hj⟩ := mq_445
    rw [n_put (st' := []) (hp' := rH e (upd g 143 t0) q c l) rfl hj (pf_143 hz0)]
    rw [n_step (st' := [.ref 49]) (pc' := 84) (lv' := [(0, .ref 49), (1, .int x1)]) (hp' := rH e (upd g 143 t0) q c l) (i := .aload_n 0) (len := 1) rfl hj rfl rfl rfl]
    rw [n_get (st' := [.int ((upd g 143 t0) 5)]) (pc' := 87) (lv' := [(0, .ref 49), (1, .int x1)]) (hp' := rH e (upd g 143 t0) q c l) (i := .getfield 575) (len := 3) rfl hj rfl rfl rfl rfl]
    rw [n_step (st' := [.int (Int32.ofInt (1)), .int ((upd g 143 t0) 5)]) (pc' := 88) (lv' := [(0, .ref 49), (1, .int x1)]) (hp' := rH e (upd g 143 t0) q c l) (i := .iconst 1) (len := 1) rfl hj rfl rfl rfl]
    rw [n_step (st' := []) (pc' := (if xCn .ne (((upd g 143 t0) 5)) ((Int32.ofInt (1))) = true then 99 else 91)) (lv' := [(0, .ref 49), (1, .int x1)]) (hp' := rH e (upd g 143 t0) q c l) (i := .if_icmp .ne 11) (len := 3) rfl hj rfl rfl rfl]
  by_cases hc : xCn .ne (((upd g 143 t0) 5)) ((Int32.ofInt (1))) = true
  · obtain ⟨f, h⟩ := h1 hc
    refine ⟨f + 5, ?_⟩
    rw [key, if_pos hc]
    exact h
  · obtain ⟨f, h⟩ := h2 hc
    refine ⟨f + 5, ?_⟩
    rw [key, if_neg hc]
    exact h
set_option maxRecDepth 100000 in
set_option maxHeartbeats 4000000 in
theorem bk_445_91 {b : Bool} {d : Nat} {x1 : Int32} {e : Nat → x_E} {g : Nat → Int32} {q : Nat → Int64} {c : Nat → Nat → Int32} {l : Nat → Nat → Int64} {g' : Nat → Int32} {q' : Nat → Int64} {c' : Nat → Nat → Int32} {l' : Nat → Nat → Int64} {v : Int32} {R : Option Value × List x_E} (hc : rr b e d 446 0 [(0, .ref 49), (1, .int x1)] [] g q c l (some (.int v), rH e g' q' c' l')) (h : rr b e (d + 1) 445 96 [] [.int v] g' q' c' l' R) : rr b e (d + 1) 445 91 [(0, .ref 49), (1, .int x1)] [] g q c l R := by
  obtain ⟨f1, hc⟩ := hc
  obtain ⟨f2, h⟩ := h
  obtain ⟨f, hf1, hf2⟩ : ∃ f, f1 ≤ f ∧ f2 ≤ f := ⟨max f1 f2, Nat.le_max_left _ _, Nat.le_max_right _ _⟩
  have hc := nrun_fuel f1 f _ _ _ _ _ _ _ _ _ hf1 hc
  have h := nrun_fuel f2 f _ _ _ _ _ _ _ _ _ hf2 h
  refine ⟨f + 3, ?_⟩
  obtain ⟨y, cb, hj⟩ := mq_445
  rw [n_step (st' := [.ref 49]) (pc' := 92) (lv' := [(0, .ref 49), (1, .int x1)]) (hp' := rH e g q c l) (i := .aload_n 0) (len := 1) rfl hj rfl rfl rfl]
  rw [n_step (st' := [.int x1, .ref 49]) (pc' := 93) (lv' := [(0, .ref 49), (1, .int x1)]) (hp' := rH e g q c l) (i := .iload_n 1) (len := 1) rfl hj rfl rfl rfl]
  obtain ⟨y2, cb2, hj2⟩ := mq_446
  rw [n_call (f := f) (d := d) (ki := 0) (idx := 888) (j' := 446) (kd := 0) (M' := (y2, cb2, 4, some .int, 12, 1, 0, 0)) (avs := [.ref 49, .int x1]) (r := []) (rv := some (.int v)) (hp1 := rH e g' q' c' l') rfl hj rfl rfl rfl rfl (rq_n rfl rfl hj2 rfl rfl) rfl hc (Nat.le_of_ble_eq_true rfl)]
  exact nrun_ext f f _ _ R 445 96 [] [(0, .ref 49), (1, .int x1)] [.int v] _ 0 0 122 (Nat.le_refl _) (Nat.le_refl _) (Nat.le_of_ble_eq_true rfl) (lvR_mk [] [0, 1] rfl rfl (by decide) (by decide) (fun _ h => nomatch h) (List.forall_mem_cons.mpr ⟨Or.inr rfl, (List.forall_mem_cons.mpr ⟨Or.inr rfl, (fun _ h => nomatch h)⟩)⟩)) h
set_option maxRecDepth 100000 in
set_option maxHeartbeats 4000000 in
theorem bk_445_96 {b : Bool} {d : Nat} {t0 : Int32} {e : Nat → x_E} {g : Nat → Int32} {q : Nat → Int64} {c : Nat → Nat → Int32} {l : Nat → Nat → Int64} {R : Option Value × List x_E} (h : rr b e d 445 104 [] [.int t0] g q c l R) : rr b e d 445 96 [] [.int t0] g q c l R := by
  obtain ⟨f, h⟩ := h
  refine ⟨f + 1, ?_⟩
  obtain ⟨y, cb, hj⟩ := mq_445
  rw [n_step (st' := [.int t0]) (pc' := 104) (lv' := []) (hp' := rH e g q c l) (i := .goto 8) (len := 3) rfl hj rfl rfl rfl]
  exact h
set_option maxRecDepth 100000 in
set_option maxHeartbeats 4000000 in
theorem bk_445_99 {b : Bool} {d : Nat} {x1 : Int32} {e : Nat → x_E} {g : Nat → Int32} {q : Nat → Int64} {c : Nat → Nat → Int32} {l : Nat → Nat → Int64} {g' : Nat → Int32} {q' : Nat → Int64} {c' : Nat → Nat → Int32} {l' : Nat → Nat → Int64} {v : Int32} {R : Option Value × List x_E} (hc : rr b e d 457 0 [(0, .ref 49), (1, .int x1)] [] g q c l (some (.int v), rH e g' q' c' l')) (h : rr b e (d + 1) 445 104 [] [.int v] g' q' c' l' R) : rr b e (d + 1) 445 99 [(0, .ref 49), (1, .int x1)] [] g q c l R := by
  obtain ⟨f1, hc⟩ := hc
  obtain ⟨f2, h⟩ := h
  obtain ⟨f, hf1, hf2⟩ : ∃ f, f1 ≤ f ∧ f2 ≤ f := ⟨max f1 f2, Nat.le_max_left _ _, Nat.le_max_right _ _⟩
  have hc := nrun_fuel f1 f _ _ _ _ _ _ _ _ _ hf1 hc
  have h := nrun_fuel f2 f _ _ _ _ _ _ _ _ _ hf2 h
  refine ⟨f + 3, ?_⟩
  obtain ⟨y, cb, hj⟩ := mq_445
  rw [n_step (st' := [.ref 49]) (pc' := 100) (lv' := [(0, .ref 49), (1, .int x1)]) (hp' := rH e g q c l) (i := .aload_n 0) (len := 1) rfl hj rfl rfl rfl]
  rw [n_step (st' := [.int x1, .ref 49]) (pc' := 101) (lv' := [(0, .ref 49), (1, .int x1)]) (hp' := rH e g q c l) (i := .iload_n 1) (len := 1) rfl hj rfl rfl rfl]
  obtain ⟨y2, cb2, hj2⟩ := mq_457
  rw [n_call (f := f) (d := d) (ki := 0) (idx := 891) (j' := 457) (kd := 0) (M' := (y2, cb2, 6, some .int, 12, 1, 0, 0)) (avs := [.ref 49, .int x1]) (r := []) (rv := some (.int v)) (hp1 := rH e g' q' c' l') rfl hj rfl rfl rfl rfl (rq_n rfl rfl hj2 rfl rfl) rfl hc (Nat.le_of_ble_eq_true rfl)]
  exact nrun_ext f f _ _ R 445 104 [] [(0, .ref 49), (1, .int x1)] [.int v] _ 0 0 122 (Nat.le_refl _) (Nat.le_refl _) (Nat.le_of_ble_eq_true rfl) (lvR_mk [] [0, 1] rfl rfl (by decide) (by decide) (fun _ h => nomatch h) (List.forall_mem_cons.mpr ⟨Or.inr rfl, (List.forall_mem_cons.mpr ⟨Or.inr rfl, (fun _ h => nomatch h)⟩)⟩)) h
set_option maxRecDepth 100000 in
set_option maxHeartbeats 4000000 in
theorem bk_445_104 {b : Bool} {d : Nat} {t0 : Int32} {e : Nat → x_E} {g : Nat → Int32} {q : Nat → Int64} {c : Nat → Nat → Int32} {l : Nat → Nat → Int64} : rr b e d 445 104 [] [.int t0] g q c l (some (.int t0), rH e g q c l) := by
  refine ⟨0 + 1, ?_⟩
  obtain ⟨y, cb, hj⟩ := mq_445
  exact n_ret rfl hj rfl rfl (x_ret rfl)
set_option maxRecDepth 100000 in
set_option maxHeartbeats 4000000 in
theorem bk_460_0 {b : Bool} {d : Nat} {e : Nat → x_E} {g : Nat → Int32} {q : Nat → Int64} {c : Nat → Nat → Int32} {l : Nat → Nat → Int64} : rr b e d 460 0 [(0, .ref 49)] [] g q c l (some (.int (g 4)), rH e g q c l) := by
  refine ⟨0 + 3, ?_⟩
  obtain ⟨y, cb, hj⟩ := mq_460
  rw [n_step (st' := [.ref 49]) (pc' := 1) (lv' := [(0, .ref 49)]) (hp' := rH e g q c l) (i := .aload_n 0) (len := 1) rfl hj rfl rfl rfl]
  rw [n_get (st' := [.int (g 4)]) (pc' := 4) (lv' := [(0, .ref 49)]) (hp' := rH e g q c l) (i := .getfield 16) (len := 3) rfl hj rfl rfl rfl rfl]
  exact n_ret rfl hj rfl rfl (x_ret rfl)
set_option maxRecDepth 100000 in
set_option maxHeartbeats 4000000 in
theorem bk_461_0 {b : Bool} {d : Nat} {e : Nat → x_E} {g : Nat → Int32} {q : Nat → Int64} {c : Nat → Nat → Int32} {l : Nat → Nat → Int64} : rr b e d 461 0 [(0, .ref 49)] [] g q c l (some (.int (g 69)), rH e g q c l) := by
  refine ⟨0 + 3, ?_⟩
  obtain ⟨y, cb, hj⟩ := mq_461
  rw [n_step (st' := [.ref 49]) (pc' := 1) (lv' := [(0, .ref 49)]) (hp' := rH e g q c l) (i := .aload_n 0) (len := 1) rfl hj rfl rfl rfl]
  rw [n_get (st' := [.int (g 69)]) (pc' := 4) (lv' := [(0, .ref 49)]) (hp' := rH e g q c l) (i := .getfield 614) (len := 3) rfl hj rfl rfl rfl rfl]
  exact n_ret rfl hj rfl rfl (x_ret rfl)
set_option maxRecDepth 100000 in
set_option maxHeartbeats 4000000 in
theorem bk_463_0 {b : Bool} {d : Nat} {x1 : Int32} {e : Nat → x_E} {g : Nat → Int32} {q : Nat → Int64} {c : Nat → Nat → Int32} {l : Nat → Nat → Int64} {R : Option Value × List x_E} (h1 : xCn .eq ((g 143)) 0 = true → rr b e d 463 27 [] [] g q c l R) (h2 : ¬ xCn .eq ((g 143)) 0 = true → rr b e d 463 7 [(0, .ref 49), (1, .int x1)] [] g q c l R) : rr b e d 463 0 [(0, .ref 49), (1, .int x1)] [] g q c l R := by
  have key : ∀ f, nrun xZ (xY (xfm b)) xDT (f + 3) d 463 0 [(0, .ref 49), (1, .int x1)] [] (rH e g q c l) 0 0 = nrun xZ (xY (xfm b)) xDT f d 463 (if xCn .eq ((g 143)) 0 = true then 27 else 7) [(0, .ref 49), (1, .int x1)] [] (rH e g q c l) 0 0 := by
    intro f
    obtain ⟨y, cb, hj⟩ := mq_463
    rw [n_step (st' := [.ref 49]) (pc' := 1) (lv' := [(0, .ref 49), (1, .int x1)]) (hp' := rH e g q c l) (i := .aload_n 0) (len := 1) rfl hj rfl rfl rfl]
    rw [n_get (st' := [.int (g 143)]) (pc' := 4) (lv' := [(0, .ref 49), (1, .int x1)]) (hp' := rH e g q c l) (i := .getfield 878) (len := 3) rfl hj rfl rfl rfl rfl]
    rw [n_step (st' := []) (pc' := (if xCn .eq ((g 143)) 0 = true then 27 else 7)) (lv' := [(0, .ref 49), (1, .int x1)]) (hp' := rH e g q c l) (i := .ifCond .eq 23) (len := 3) rfl hj rfl rfl rfl]
  by_cases hc : xCn .eq ((g 143)) 0 = true
  · obtain ⟨f, h⟩ := h1 hc
    refine ⟨f + 3, ?_⟩
    rw [key, if_pos hc]
    exact nrun_ext f f _ _ R 463 27 [] [(0, .ref 49), (1, .int x1)] [] _ 0 0 122 (Nat.le_refl _) (Nat.le_refl _) (Nat.le_of_ble_eq_true rfl) (lvR_mk [] [0, 1] rfl rfl (by decide) (by decide) (fun _ h => nomatch h) (List.forall_mem_cons.mpr ⟨Or.inr rfl, (List.forall_mem_cons.mpr ⟨Or.inr rfl, (fun _ h => nomatch h)⟩)⟩)) h
  · obtain ⟨f, h⟩ := h2 hc
    refine ⟨f + 3, ?_⟩
    rw [key, if_neg hc]
    exact h
set_option maxRecDepth 100000 in
set_option maxHeartbeats 4000000 in
theorem bk_463_7 {b : Bool} {d : Nat} {x1 : Int32} {e : Nat → x_E} {g : Nat → Int32} {q : Nat → Int64} {c : Nat → Nat → Int32} {l : Nat → Nat → Int64} {R : Option Value × List x_E} (h1 : xCn .lt x1 ((Int32.ofInt (1))) = true → rr b e d 463 27 [] [] g q c l R) (h2 : ¬ xCn .lt x1 ((Int32.ofInt (1))) = true → rr b e d 463 12 [(0, .ref 49), (1, .int x1)] [] g q c l R) : rr b e d 463 7 [(0, .ref 49), (1, .int x1)] [] g q c l R := by
  have key : ∀ f, nrun xZ (xY (xfm b)) xDT (f + 3) d 463 7 [(0, .ref 49), (1, .int x1)] [] (rH e g q c l) 0 0 = nrun xZ (xY (xfm b)) xDT f d 463 (if xCn .lt x1 ((Int32.ofInt (1))) = true then 27 else 12) [(0, .ref 49), (1, .int x1)] [] (rH e g q c l) 0 0 := by
    intro f
    obtain ⟨y, cb, hj⟩ := mq_463
    rw [n_step (st' := [.int x1]) (pc' := 8) (lv' := [(0, .ref 49), (1, .int x1)]) (hp' := rH e g q c l) (i := .iload_n 1) (len := 1) rfl hj rfl rfl rfl]
    rw [n_step (st' := [.int (Int32.ofInt (1)), .int x1]) (pc' := 9) (lv' := [(0, .ref 49), (1, .int x1)]) (hp' := rH e g q c l) (i := .iconst 1) (len := 1) rfl hj rfl rfl rfl]
    rw [n_step (st' := []) (pc' := (if xCn .lt x1 ((Int32.ofInt (1))) = true then 27 else 12)) (lv' := [(0, .ref 49), (1, .int x1)]) (hp' := rH e g q c l) (i := .if_icmp .lt 18) (len := 3) rfl hj rfl rfl rfl]
  by_cases hc : xCn .lt x1 ((Int32.ofInt (1))) = true
  · obtain ⟨f, h⟩ := h1 hc
    refine ⟨f + 3, ?_⟩
    rw [key, if_pos hc]
    exact nrun_ext f f _ _ R 463 27 [] [(0, .ref 49), (1, .int x1)] [] _ 0 0 122 (Nat.le_refl _) (Nat.le_refl _) (Nat.le_of_ble_eq_true rfl) (lvR_mk [] [0, 1] rfl rfl (by decide) (by decide) (fun _ h => nomatch h) (List.forall_mem_cons.mpr ⟨Or.inr rfl, (List.forall_mem_cons.mpr ⟨Or.inr rfl, (fun _ h => nomatch h)⟩)⟩)) h
  · obtain ⟨f, h⟩ := h2 hc
    refine ⟨f + 3, ?_⟩
    rw [key, if_neg hc]
    exact h
set_option maxRecDepth 100000 in
set_option maxHeartbeats 4000000 in
theorem bk_463_12 {b : Bool} {d : Nat} {x1 : Int32} {e : Nat → x_E} {g : Nat → Int32} {q : Nat → Int64} {c : Nat → Nat → Int32} {l : Nat → Nat → Int64} {R : Option Value × List x_E} (h1 : xCn .gt x1 ((Int8.ofInt (15)).toInt32) = true → rr b e d 463 27 [] [] g q c l R) (h2 : ¬ xCn .gt x1 ((Int8.ofInt (15)).toInt32) = true → rr b e d 463 18 [(0, .ref 49), (1, .int x1)] [] g q c l R) : rr b e d 463 12 [(0, .ref 49), (1, .int x1)] [] g q c l R := by
  have key : ∀ f, nrun xZ (xY (xfm b)) xDT (f + 3) d 463 12 [(0, .ref 49), (1, .int x1)] [] (rH e g q c l) 0 0 = nrun xZ (xY (xfm b)) xDT f d 463 (if xCn .gt x1 ((Int8.ofInt (15)).toInt32) = true then 27 else 18) [(0, .ref 49), (1, .int x1)] [] (rH e g q c l) 0 0 := by
    intro f
    obtain ⟨y, cb, hj⟩ := mq_463
    rw [n_step (st' := [.int x1]) (pc' := 13) (lv' := [(0, .ref 49), (1, .int x1)]) (hp' := rH e g q c l) (i := .iload_n 1) (len := 1) rfl hj rfl rfl rfl]
    rw [n_step (st' := [.int (Int8.ofInt (15)).toInt32, .int x1]) (pc' := 15) (lv' := [(0, .ref 49), (1, .int x1)]) (hp' := rH e g q c l) (i := .bipush 15) (len := 2) rfl hj rfl rfl rfl]
    rw [n_step (st' := []) (pc' := (if xCn .gt x1 ((Int8.ofInt (15)).toInt32) = true then 27 else 18)) (lv' := [(0, .ref 49), (1, .int x1)]) (hp' := rH e g q c l) (i := .if_icmp .gt 12) (len := 3) rfl hj rfl rfl rfl]
  by_cases hc : xCn .gt x1 ((Int8.ofInt (15)).toInt32) = true
  · obtain ⟨f, h⟩ := h1 hc
    refine ⟨f + 3, ?_⟩
    rw [key, if_pos hc]
    exact nrun_ext f f _ _ R 463 27 [] [(0, .ref 49), (1, .int x1)] [] _ 0 0 122 (Nat.le_refl _) (Nat.le_refl _) (Nat.le_of_ble_eq_true rfl) (lvR_mk [] [0, 1] rfl rfl (by decide) (by decide) (fun _ h => nomatch h) (List.forall_mem_cons.mpr ⟨Or.inr rfl, (List.forall_mem_cons.mpr ⟨Or.inr rfl, (fun _ h => nomatch h)⟩)⟩)) h
  · obtain ⟨f, h⟩ := h2 hc
    refine ⟨f + 3, ?_⟩
    rw [key, if_neg hc]
    exact h
set_option maxRecDepth 100000 in
set_option maxHeartbeats 4000000 in
theorem bk_463_18 {b : Bool} {d : Nat} {x1 : Int32} {e : Nat → x_E} {g : Nat → Int32} {q : Nat → Int64} {c : Nat → Nat → Int32} {l : Nat → Nat → Int64} {R : Option Value × List x_E} (hz0 : ¬ (x1 < 0 ∨ 16 ≤ (x1).toNatClampNeg)) (h : rr b e d 463 28 [] [.int (c 120 (x1).toNatClampNeg)] g q c l R) : rr b e d 463 18 [(0, .ref 49), (1, .int x1)] [] g q c l R := by
  obtain ⟨f, h⟩ := h
  refine ⟨f + 5, ?_⟩
  obtain ⟨y, cb, hj⟩ := mq_463
  rw [n_step (st' := [.ref 49]) (pc' := 19) (lv' := [(0, .ref 49), (1, .int x1)]) (hp' := rH e g q c l) (i := .aload_n 0) (len := 1) rfl hj rfl rfl rfl]
  rw [n_get (st' := [.ref 120]) (pc' := 22) (lv' := [(0, .ref 49), (1, .int x1)]) (hp' := rH e g q c l) (i := .getfield 231) (len := 3) rfl hj rfl rfl rfl rfl]
  rw [n_step (st' := [.int x1, .ref 120]) (pc' := 23) (lv' := [(0, .ref 49), (1, .int x1)]) (hp' := rH e g q c l) (i := .iload_n 1) (len := 1) rfl hj rfl rfl rfl]
  rw [n_ial (st' := [.int (c 120 (x1).toNatClampNeg)]) rfl hj (ald_120 hz0)]
  rw [n_step (st' := [.int (c 120 (x1).toNatClampNeg)]) (pc' := 28) (lv' := [(0, .ref 49), (1, .int x1)]) (hp' := rH e g q c l) (i := .goto 4) (len := 3) rfl hj rfl rfl rfl]
  exact nrun_ext f f _ _ R 463 28 [] [(0, .ref 49), (1, .int x1)] [.int (c 120 (x1).toNatClampNeg)] _ 0 0 122 (Nat.le_refl _) (Nat.le_refl _) (Nat.le_of_ble_eq_true rfl) (lvR_mk [] [0, 1] rfl rfl (by decide) (by decide) (fun _ h => nomatch h) (List.forall_mem_cons.mpr ⟨Or.inr rfl, (List.forall_mem_cons.mpr ⟨Or.inr rfl, (fun _ h => nomatch h)⟩)⟩)) h
set_option maxRecDepth 100000 in
set_option maxHeartbeats 4000000 in
theorem bk_463_27 {b : Bool} {d : Nat} {e : Nat → x_E} {g : Nat → Int32} {q : Nat → Int64} {c : Nat → Nat → Int32} {l : Nat → Nat → Int64} {R : Option Value × List x_E} (h : rr b e d 463 28 [] [.int (Int32.ofInt (0))] g q c l R) : rr b e d 463 27 [] [] g q c l R := by
  obtain ⟨f, h⟩ := h
  refine ⟨f + 1, ?_⟩
  obtain ⟨y, cb, hj⟩ := mq_463
  rw [n_step (st' := [.int (Int32.ofInt (0))]) (pc' := 28) (lv' := []) (hp' := rH e g q c l) (i := .iconst 0) (len := 1) rfl hj rfl rfl rfl]
  exact h
set_option maxRecDepth 100000 in
set_option maxHeartbeats 4000000 in
theorem bk_463_28 {b : Bool} {d : Nat} {t0 : Int32} {e : Nat → x_E} {g : Nat → Int32} {q : Nat → Int64} {c : Nat → Nat → Int32} {l : Nat → Nat → Int64} : rr b e d 463 28 [] [.int t0] g q c l (some (.int t0), rH e g q c l) := by
  refine ⟨0 + 1, ?_⟩
  obtain ⟨y, cb, hj⟩ := mq_463
  exact n_ret rfl hj rfl rfl (x_ret rfl)
set_option maxRecDepth 100000 in
set_option maxHeartbeats 4000000 in
theorem bk_464_0 {b : Bool} {d : Nat} {x1 : Int32} {e : Nat → x_E} {g : Nat → Int32} {q : Nat → Int64} {c : Nat → Nat → Int32} {l : Nat → Nat → Int64} {R : Option Value × List x_E} (h1 : xCn .eq ((g 143)) 0 = true → rr b e d 464 28 [] [] g q c l R) (h2 : ¬ xCn .eq ((g 143)) 0 = true → rr b e d 464 7 [(0, .ref 49), (1, .int x1)] [] g q c l R) : rr b e d 464 0 [(0, .ref 49), (1, .int x1)] [] g q c l R := by
  have key : ∀ f, nrun xZ (xY (xfm b)) xDT (f + 3) d 464 0 [(0, .ref 49), (1, .int x1)] [] (rH e g q c l) 0 0 = nrun xZ (xY (xfm b)) xDT f d 464 (if xCn .eq ((g 143)) 0 = true then 28 else 7) [(0, .ref 49), (1, .int x1)] [] (rH e g q c l) 0 0 := by
    intro f
    obtain ⟨y, cb, hj⟩ := mq_464
    rw [n_step (st' := [.ref 49]) (pc' := 1) (lv' := [(0, .ref 49), (1, .int x1)]) (hp' := rH e g q c l) (i := .aload_n 0) (len := 1) rfl hj rfl rfl rfl]
    rw [n_get (st' := [.int (g 143)]) (pc' := 4) (lv' := [(0, .ref 49), (1, .int x1)]) (hp' := rH e g q c l) (i := .getfield 878) (len := 3) rfl hj rfl rfl rfl rfl]
    rw [n_step (st' := []) (pc' := (if xCn .eq ((g 143)) 0 = true then 28 else 7)) (lv' := [(0, .ref 49), (1, .int x1)]) (hp' := rH e g q c l) (i := .ifCond .eq 24) (len := 3) rfl hj rfl rfl rfl]
  by_cases hc : xCn .eq ((g 143)) 0 = true
  · obtain ⟨f, h⟩ := h1 hc
    refine ⟨f + 3, ?_⟩
    rw [key, if_pos hc]
    exact nrun_ext f f _ _ R 464 28 [] [(0, .ref 49), (1, .int x1)] [] _ 0 0 122 (Nat.le_refl _) (Nat.le_refl _) (Nat.le_of_ble_eq_true rfl) (lvR_mk [] [0, 1] rfl rfl (by decide) (by decide) (fun _ h => nomatch h) (List.forall_mem_cons.mpr ⟨Or.inr rfl, (List.forall_mem_cons.mpr ⟨Or.inr rfl, (fun _ h => nomatch h)⟩)⟩)) h
  · obtain ⟨f, h⟩ := h2 hc
    refine ⟨f + 3, ?_⟩
    rw [key, if_neg hc]
    exact h
set_option maxRecDepth 100000 in
set_option maxHeartbeats 4000000 in
theorem bk_464_7 {b : Bool} {d : Nat} {x1 : Int32} {e : Nat → x_E} {g : Nat → Int32} {q : Nat → Int64} {c : Nat → Nat → Int32} {l : Nat → Nat → Int64} {R : Option Value × List x_E} (h1 : xCn .lt x1 0 = true → rr b e d 464 28 [] [] g q c l R) (h2 : ¬ xCn .lt x1 0 = true → rr b e d 464 11 [(0, .ref 49), (1, .int x1)] [] g q c l R) : rr b e d 464 7 [(0, .ref 49), (1, .int x1)] [] g q c l R := by
  have key : ∀ f, nrun xZ (xY (xfm b)) xDT (f + 2) d 464 7 [(0, .ref 49), (1, .int x1)] [] (rH e g q c l) 0 0 = nrun xZ (xY (xfm b)) xDT f d 464 (if xCn .lt x1 0 = true then 28 else 11) [(0, .ref 49), (1, .int x1)] [] (rH e g q c l) 0 0 := by
    intro f
    obtain ⟨y, cb, hj⟩ := mq_464
    rw [n_step (st' := [.int x1]) (pc' := 8) (lv' := [(0, .ref 49), (1, .int x1)]) (hp' := rH e g q c l) (i := .iload_n 1) (len := 1) rfl hj rfl rfl rfl]
    rw [n_step (st' := []) (pc' := (if xCn .lt x1 0 = true then 28 else 11)) (lv' := [(0, .ref 49), (1, .int x1)]) (hp' := rH e g q c l) (i := .ifCond .lt 20) (len := 3) rfl hj rfl rfl rfl]
  by_cases hc : xCn .lt x1 0 = true
  · obtain ⟨f, h⟩ := h1 hc
    refine ⟨f + 2, ?_⟩
    rw [key, if_pos hc]
    exact nrun_ext f f _ _ R 464 28 [] [(0, .ref 49), (1, .int x1)] [] _ 0 0 122 (Nat.le_refl _) (Nat.le_refl _) (Nat.le_of_ble_eq_true rfl) (lvR_mk [] [0, 1] rfl rfl (by decide) (by decide) (fun _ h => nomatch h) (List.forall_mem_cons.mpr ⟨Or.inr rfl, (List.forall_mem_cons.mpr ⟨Or.inr rfl, (fun _ h => nomatch h)⟩)⟩)) h
  · obtain ⟨f, h⟩ := h2 hc
    refine ⟨f + 2, ?_⟩
    rw [key, if_neg hc]
    exact h
set_option maxRecDepth 100000 in
set_option maxHeartbeats 4000000 in
theorem bk_464_11 {b : Bool} {d : Nat} {x1 : Int32} {e : Nat → x_E} {g : Nat → Int32} {q : Nat → Int64} {c : Nat → Nat → Int32} {l : Nat → Nat → Int64} {R : Option Value × List x_E} (h1 : xCn .ge x1 ((g 64)) = true → rr b e d 464 28 [] [] g q c l R) (h2 : ¬ xCn .ge x1 ((g 64)) = true → rr b e d 464 19 [(0, .ref 49), (1, .int x1)] [] g q c l R) : rr b e d 464 11 [(0, .ref 49), (1, .int x1)] [] g q c l R := by
  have key : ∀ f, nrun xZ (xY (xfm b)) xDT (f + 4) d 464 11 [(0, .ref 49), (1, .int x1)] [] (rH e g q c l) 0 0 = nrun xZ (xY (xfm b)) xDT f d 464 (if xCn .ge x1 ((g 64)) = true then 28 else 19) [(0, .ref 49), (1, .int x1)] [] (rH e g q c l) 0 0 := by
    intro f
    obtain ⟨y, cb, hj⟩ := mq_464
    rw [n_step (st' := [.int x1]) (pc' := 12) (lv' := [(0, .ref 49), (1, .int x1)]) (hp' := rH e g q c l) (i := .iload_n 1) (len := 1) rfl hj rfl rfl rfl]
    rw [n_step (st' := [.ref 49, .int x1]) (pc' := 13) (lv' := [(0, .ref 49), (1, .int x1)]) (hp' := rH e g q c l) (i := .aload_n 0) (len := 1) rfl hj rfl rfl rfl]
    rw [n_get (st' := [.int (g 64), .int x1]) (pc' := 16) (lv' := [(0, .ref 49), (1, .int x1)]) (hp' := rH e g q c l) (i := .getfield 593) (len := 3) rfl hj rfl rfl rfl rfl]
    rw [n_step (st' := []) (pc' := (if xCn .ge x1 ((g 64)) = true then 28 else 19)) (lv' := [(0, .ref 49), (1, .int x1)]) (hp' := rH e g q c l) (i := .if_icmp .ge 12) (len := 3) rfl hj rfl rfl rfl]
  by_cases hc : xCn .ge x1 ((g 64)) = true
  · obtain ⟨f, h⟩ := h1 hc
    refine ⟨f + 4, ?_⟩
    rw [key, if_pos hc]
    exact nrun_ext f f _ _ R 464 28 [] [(0, .ref 49), (1, .int x1)] [] _ 0 0 122 (Nat.le_refl _) (Nat.le_refl _) (Nat.le_of_ble_eq_true rfl) (lvR_mk [] [0, 1] rfl rfl (by decide) (by decide) (fun _ h => nomatch h) (List.forall_mem_cons.mpr ⟨Or.inr rfl, (List.forall_mem_cons.mpr ⟨Or.inr rfl, (fun _ h => nomatch h)⟩)⟩)) h
  · obtain ⟨f, h⟩ := h2 hc
    refine ⟨f + 4, ?_⟩
    rw [key, if_neg hc]
    exact h
set_option maxRecDepth 100000 in
set_option maxHeartbeats 4000000 in
theorem bk_464_19 {b : Bool} {d : Nat} {x1 : Int32} {e : Nat → x_E} {g : Nat → Int32} {q : Nat → Int64} {c : Nat → Nat → Int32} {l : Nat → Nat → Int64} {R : Option Value × List x_E} (hz0 : ¬ (x1 < 0 ∨ 20001 ≤ (x1).toNatClampNeg)) (h : rr b e d 464 29 [] [.int (c 121 (x1).toNatClampNeg)] g q c l R) : rr b e d 464 19 [(0, .ref 49), (1, .int x1)] [] g q c l R := by
  obtain ⟨f, h⟩ := h
  refine ⟨f + 5, ?_⟩
  obtain ⟨y, cb, hj⟩ := mq_464
  rw [n_step (st' := [.ref 49]) (pc' := 20) (lv' := [(0, .ref 49), (1, .int x1)]) (hp' := rH e g q c l) (i := .aload_n 0) (len := 1) rfl hj rfl rfl rfl]
  rw [n_get (st' := [.ref 121]) (pc' := 23) (lv' := [(0, .ref 49), (1, .int x1)]) (hp' := rH e g q c l) (i := .getfield 234) (len := 3) rfl hj rfl rfl rfl rfl]
  rw [n_step (st' := [.int x1, .ref 121]) (pc' := 24) (lv' := [(0, .ref 49), (1, .int x1)]) (hp' := rH e g q c l) (i := .iload_n 1) (len := 1) rfl hj rfl rfl rfl]
  rw [n_ial (st' := [.int (c 121 (x1).toNatClampNeg)]) rfl hj (ald_121 hz0)]
  rw [n_step (st' := [.int (c 121 (x1).toNatClampNeg)]) (pc' := 29) (lv' := [(0, .ref 49), (1, .int x1)]) (hp' := rH e g q c l) (i := .goto 4) (len := 3) rfl hj rfl rfl rfl]
  exact nrun_ext f f _ _ R 464 29 [] [(0, .ref 49), (1, .int x1)] [.int (c 121 (x1).toNatClampNeg)] _ 0 0 122 (Nat.le_refl _) (Nat.le_refl _) (Nat.le_of_ble_eq_true rfl) (lvR_mk [] [0, 1] rfl rfl (by decide) (by decide) (fun _ h => nomatch h) (List.forall_mem_cons.mpr ⟨Or.inr rfl, (List.forall_mem_cons.mpr ⟨Or.inr rfl, (fun _ h => nomatch h)⟩)⟩)) h
set_option maxRecDepth 100000 in
set_option maxHeartbeats 4000000 in
theorem bk_464_28 {b : Bool} {d : Nat} {e : Nat → x_E} {g : Nat → Int32} {q : Nat → Int64} {c : Nat → Nat → Int32} {l : Nat → Nat → Int64} {R : Option Value × List x_E} (h : rr b e d 464 29 [] [.int (Int32.ofInt (0))] g q c l R) : rr b e d 464 28 [] [] g q c l R := by
  obtain ⟨f, h⟩ := h
  refine ⟨f + 1, ?_⟩
  obtain ⟨y, cb, hj⟩ := mq_464
  rw [n_step (st' := [.int (Int32.ofInt (0))]) (pc' := 29) (lv' := []) (hp' := rH e g q c l) (i := .iconst 0) (len := 1) rfl hj rfl rfl rfl]
  exact h
set_option maxRecDepth 100000 in
set_option maxHeartbeats 4000000 in
theorem bk_464_29 {b : Bool} {d : Nat} {t0 : Int32} {e : Nat → x_E} {g : Nat → Int32} {q : Nat → Int64} {c : Nat → Nat → Int32} {l : Nat → Nat → Int64} : rr b e d 464 29 [] [.int t0] g q c l (some (.int t0), rH e g q c l) := by
  refine ⟨0 + 1, ?_⟩
  obtain ⟨y, cb, hj⟩ := mq_464
  exact n_ret rfl hj rfl rfl (x_ret rfl)
