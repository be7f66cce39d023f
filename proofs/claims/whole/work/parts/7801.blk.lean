set_option maxRecDepth 100000 in
set_option maxHeartbeats 4000000 in
theorem bk_315_0 {b : Bool} {d : Nat} {x1 x2 x3 x4 x5 : Int32} {e : Nat → x_E} {g : Nat → Int32} {q : Nat → Int64} {c : Nat → Nat → Int32} {l : Nat → Nat → Int64} {R : Option Value × List x_E} (h1 : xCn .le (((g 1) + (Int8.ofInt (20)).toInt32)) ((Int16.ofInt (6000)).toInt32) = true → rr b e d 315 15 [(0, .ref 49), (1, .int x1), (2, .int x2), (3, .int x3), (4, .int x4), (5, .int x5)] [] g q c l R) (h2 : ¬ xCn .le (((g 1) + (Int8.ofInt (20)).toInt32)) ((Int16.ofInt (6000)).toInt32) = true → rr b e d 315 13 [] [] g q c l R) : rr b e d 315 0 [(0, .ref 49), (1, .int x1), (2, .int x2), (3, .int x3), (4, .int x4), (5, .int x5)] [] g q c l R := by
  have key : ∀ f, nrun xZ (xY (xfm b)) xDT (f + 6) d 315 0 [(0, .ref 49), (1, .int x1), (2, .int x2), (3, .int x3), (4, .int x4), (5, .int x5)] [] (rH e g q c l) 0 0 = nrun xZ (xY (xfm b)) xDT f d 315 (if xCn .le (((g 1) + (Int8.ofInt (20)).toInt32)) ((Int16.ofInt (6000)).toInt32) = true then 15 else 13) [(0, .ref 49), (1, .int x1), (2, .int x2), (3, .int x3), (4, .int x4), (5, .int x5)] [] (rH e g q c l) 0 0 := by
    intro f
    obtain ⟨y, cb, hj⟩ := mq_315
    rw [n_step (st' := [.ref 49]) (pc' := 1) (lv' := [(0, .ref 49), (1, .int x1), (2, .int x2), (3, .int x3), (4, .int x4), (5, .int x5)]) (hp' := rH e g q c l) (i := .aload_n 0) (len := 1) rfl hj rfl rfl rfl]
    rw [n_get (st' := [.int (g 1)]) (pc' := 4) (lv' := [(0, .ref 49), (1, .int x1), (2, .int x2), (3, .int x3), (4, .int x4), (5, .int x5)]) (hp' := rH e g q c l) (i := .getfield 237) (len := 3) rfl hj rfl rfl rfl rfl]
    rw [n_step (st' := [.int (Int8.ofInt (20)).toInt32, .int (g 1)]) (pc' := 6) (lv' := [(0, .ref 49), (1, .int x1), (2, .int x2), (3, .int x3), (4, .int x4), (5, .int x5)]) (hp' := rH e g q c l) (i := .bipush 20) (len := 2) rfl hj rfl rfl rfl]
    rw [n_step (st' := [.int ((g 1) + (Int8.ofInt (20)).toInt32)]) (pc' := 7) (lv' := [(0, .ref 49), (1, .int x1), (2, .int x2), (3, .int x3), (4, .int x4), (5, .int x5)]) (hp' := rH e g q c l) (i := .iadd) (len := 1) rfl hj rfl rfl rfl]
    rw [n_step (st' := [.int (Int16.ofInt (6000)).toInt32, .int ((g 1) + (Int8.ofInt (20)).toInt32)]) (pc' := 10) (lv' := [(0, .ref 49), (1, .int x1), (2, .int x2), (3, .int x3), (4, .int x4), (5, .int x5)]) (hp' := rH e g q c l) (i := .sipush 6000) (len := 3) rfl hj rfl rfl rfl]
    rw [n_step (st' := []) (pc' := (if xCn .le (((g 1) + (Int8.ofInt (20)).toInt32)) ((Int16.ofInt (6000)).toInt32) = true then 15 else 13)) (lv' := [(0, .ref 49), (1, .int x1), (2, .int x2), (3, .int x3), (4, .int x4), (5, .int x5)]) (hp' := rH e g q c l) (i := .if_icmp .le 5) (len := 3) rfl hj rfl rfl rfl]
  by_cases hc : xCn .le (((g 1) + (Int8.ofInt (20)).toInt32)) ((Int16.ofInt (6000)).toInt32) = true
  · obtain ⟨f, h⟩ := h1 hc
    refine ⟨f + 6, ?_⟩
    rw [key, if_pos hc]
    exact h
  · obtain ⟨f, h⟩ := h2 hc
    refine ⟨f + 6, ?_⟩
    rw [key, if_neg hc]
    exact nrun_ext f f _ _ R 315 13 [] [(0, .ref 49), (1, .int x1), (2, .int x2), (3, .int x3), (4, .int x4), (5, .int x5)] [] _ 0 0 122 (Nat.le_refl _) (Nat.le_refl _) (Nat.le_of_ble_eq_true rfl) (lvR_mk [] [0, 1, 2, 3, 4, 5] rfl rfl (by decide) (by decide) (fun _ h => nomatch h) (List.forall_mem_cons.mpr ⟨Or.inr rfl, (List.forall_mem_cons.mpr ⟨Or.inr rfl, (List.forall_mem_cons.mpr ⟨Or.inr rfl, (List.forall_mem_cons.mpr ⟨Or.inr rfl, (List.forall_mem_cons.mpr ⟨Or.inr rfl, (List.forall_mem_cons.mpr ⟨Or.inr rfl, (fun _ h => nomatch h)⟩)⟩)⟩)⟩)⟩)⟩)) h
set_option maxRecDepth 100000 in
set_option maxHeartbeats 4000000 in
theorem bk_315_13 {b : Bool} {d : Nat} {e : Nat → x_E} {g : Nat → Int32} {q : Nat → Int64} {c : Nat → Nat → Int32} {l : Nat → Nat → Int64} : rr b e d 315 13 [] [] g q c l (some (.int (Int32.ofInt (0))), rH e g q c l) := by
  refine ⟨0 + 2, ?_⟩
  obtain ⟨y, cb, hj⟩ := mq_315
  rw [n_step (st' := [.int (Int32.ofInt (0))]) (pc' := 14) (lv' := []) (hp' := rH e g q c l) (i := .iconst 0) (len := 1) rfl hj rfl rfl rfl]
  exact n_ret rfl hj rfl rfl (x_ret rfl)
set_option maxRecDepth 100000 in
set_option maxHeartbeats 4000000 in
theorem bk_315_15 {b : Bool} {d : Nat} {x1 x2 x3 x4 x5 : Int32} {e : Nat → x_E} {g : Nat → Int32} {q : Nat → Int64} {c : Nat → Nat → Int32} {l : Nat → Nat → Int64} {g' : Nat → Int32} {q' : Nat → Int64} {c' : Nat → Nat → Int32} {l' : Nat → Nat → Int64} {R : Option Value × List x_E} (hc : rr b e d 316 0 [(0, .ref 49), (1, .int x1)] [] g q c l (none, rH e g' q' c' l')) (h : rr b e (d + 1) 315 20 [(0, .ref 49), (2, .int x2), (3, .int x3), (4, .int x4), (5, .int x5)] [] g' q' c' l' R) : rr b e (d + 1) 315 15 [(0, .ref 49), (1, .int x1), (2, .int x2), (3, .int x3), (4, .int x4), (5, .int x5)] [] g q c l R := by
  obtain ⟨f1, hc⟩ := hc
  obtain ⟨f2, h⟩ := h
  obtain ⟨f, hf1, hf2⟩ : ∃ f, f1 ≤ f ∧ f2 ≤ f := ⟨max f1 f2, Nat.le_max_left _ _, Nat.le_max_right _ _⟩
  have hc := nrun_fuel f1 f _ _ _ _ _ _ _ _ _ hf1 hc
  have h := nrun_fuel f2 f _ _ _ _ _ _ _ _ _ hf2 h
  refine ⟨f + 3, ?_⟩
  obtain ⟨y, cb, hj⟩ := mq_315
  rw [n_step (st' := [.ref 49]) (pc' := 16) (lv' := [(0, .ref 49), (1, .int x1), (2, .int x2), (3, .int x3), (4, .int x4), (5, .int x5)]) (hp' := rH e g q c l) (i := .aload_n 0) (len := 1) rfl hj rfl rfl rfl]
  rw [n_step (st' := [.int x1, .ref 49]) (pc' := 17) (lv' := [(0, .ref 49), (1, .int x1), (2, .int x2), (3, .int x3), (4, .int x4), (5, .int x5)]) (hp' := rH e g q c l) (i := .iload_n 1) (len := 1) rfl hj rfl rfl rfl]
  obtain ⟨y2, cb2, hj2⟩ := mq_316
  rw [n_call (f := f) (d := d) (ki := 0) (idx := 240) (j' := 316) (kd := 0) (M' := (y2, cb2, 3, none, 12, 1, 0, 0)) (avs := [.ref 49, .int x1]) (r := []) (rv := none) (hp1 := rH e g' q' c' l') rfl hj rfl rfl rfl rfl (rq_n rfl rfl hj2 rfl rfl) rfl hc (Nat.le_of_ble_eq_true rfl)]
  exact nrun_ext f f _ _ R 315 20 [(0, .ref 49), (2, .int x2), (3, .int x3), (4, .int x4), (5, .int x5)] [(0, .ref 49), (1, .int x1), (2, .int x2), (3, .int x3), (4, .int x4), (5, .int x5)] [] _ 0 0 122 (Nat.le_refl _) (Nat.le_refl _) (Nat.le_of_ble_eq_true rfl) (lvR_mk [0, 2, 3, 4, 5] [0, 1, 2, 3, 4, 5] rfl rfl (by decide) (by decide) (List.forall_mem_cons.mpr ⟨List.mem_cons_self, (List.forall_mem_cons.mpr ⟨(List.mem_cons_of_mem _ (List.mem_cons_of_mem _ List.mem_cons_self)), (List.forall_mem_cons.mpr ⟨(List.mem_cons_of_mem _ (List.mem_cons_of_mem _ (List.mem_cons_of_mem _ List.mem_cons_self))), (List.forall_mem_cons.mpr ⟨(List.mem_cons_of_mem _ (List.mem_cons_of_mem _ (List.mem_cons_of_mem _ (List.mem_cons_of_mem _ List.mem_cons_self)))), (List.forall_mem_cons.mpr ⟨(List.mem_cons_of_mem _ (List.mem_cons_of_mem _ (List.mem_cons_of_mem _ (List.mem_cons_of_mem _ (List.mem_cons_of_mem _ List.mem_cons_self))))), (fun _ h => nomatch h)⟩)⟩)⟩)⟩)⟩) (List.forall_mem_cons.mpr ⟨Or.inl List.mem_cons_self, (List.forall_mem_cons.mpr ⟨Or.inr rfl, (List.forall_mem_cons.mpr ⟨Or.inl (List.mem_cons_of_mem _ List.mem_cons_self), (List.forall_mem_cons.mpr ⟨Or.inl (List.mem_cons_of_mem _ (List.mem_cons_of_mem _ List.mem_cons_self)), (List.forall_mem_cons.mpr ⟨Or.inl (List.mem_cons_of_mem _ (List.mem_cons_of_mem _ (List.mem_cons_of_mem _ List.mem_cons_self))), (List.forall_mem_cons.mpr ⟨Or.inl (List.mem_cons_of_mem _ (List.mem_cons_of_mem _ (List.mem_cons_of_mem _ (List.mem_cons_of_mem _ List.mem_cons_self)))), (fun _ h => nomatch h)⟩)⟩)⟩)⟩)⟩)⟩)) h
set_option maxRecDepth 100000 in
set_option maxHeartbeats 4000000 in
theorem bk_315_20 {b : Bool} {d : Nat} {x2 x3 x4 x5 : Int32} {e : Nat → x_E} {g : Nat → Int32} {q : Nat → Int64} {c : Nat → Nat → Int32} {l : Nat → Nat → Int64} {g' : Nat → Int32} {q' : Nat → Int64} {c' : Nat → Nat → Int32} {l' : Nat → Nat → Int64} {R : Option Value × List x_E} (hc : rr b e d 316 0 [(0, .ref 49), (1, .int x2)] [] g q c l (none, rH e g' q' c' l')) (h : rr b e (d + 1) 315 25 [(0, .ref 49), (3, .int x3), (4, .int x4), (5, .int x5)] [] g' q' c' l' R) : rr b e (d + 1) 315 20 [(0, .ref 49), (2, .int x2), (3, .int x3), (4, .int x4), (5, .int x5)] [] g q c l R := by
  obtain ⟨f1, hc⟩ := hc
  obtain ⟨f2, h⟩ := h
  obtain ⟨f, hf1, hf2⟩ : ∃ f, f1 ≤ f ∧ f2 ≤ f := ⟨max f1 f2, Nat.le_max_left _ _, Nat.le_max_right _ _⟩
  have hc := nrun_fuel f1 f _ _ _ _ _ _ _ _ _ hf1 hc
  have h := nrun_fuel f2 f _ _ _ _ _ _ _ _ _ hf2 h
  refine ⟨f + 3, ?_⟩
  obtain ⟨y, cb, hj⟩ := mq_315
  rw [n_step (st' := [.ref 49]) (pc' := 21) (lv' := [(0, .ref 49), (2, .int x2), (3, .int x3), (4, .int x4), (5, .int x5)]) (hp' := rH e g q c l) (i := .aload_n 0) (len := 1) rfl hj rfl rfl rfl]
  rw [n_step (st' := [.int x2, .ref 49]) (pc' := 22) (lv' := [(0, .ref 49), (2, .int x2), (3, .int x3), (4, .int x4), (5, .int x5)]) (hp' := rH e g q c l) (i := .iload_n 2) (len := 1) rfl hj rfl rfl rfl]
  obtain ⟨y2, cb2, hj2⟩ := mq_316
  rw [n_call (f := f) (d := d) (ki := 0) (idx := 240) (j' := 316) (kd := 0) (M' := (y2, cb2, 3, none, 12, 1, 0, 0)) (avs := [.ref 49, .int x2]) (r := []) (rv := none) (hp1 := rH e g' q' c' l') rfl hj rfl rfl rfl rfl (rq_n rfl rfl hj2 rfl rfl) rfl hc (Nat.le_of_ble_eq_true rfl)]
  exact nrun_ext f f _ _ R 315 25 [(0, .ref 49), (3, .int x3), (4, .int x4), (5, .int x5)] [(0, .ref 49), (2, .int x2), (3, .int x3), (4, .int x4), (5, .int x5)] [] _ 0 0 122 (Nat.le_refl _) (Nat.le_refl _) (Nat.le_of_ble_eq_true rfl) (lvR_mk [0, 3, 4, 5] [0, 2, 3, 4, 5] rfl rfl (by decide) (by decide) (List.forall_mem_cons.mpr ⟨List.mem_cons_self, (List.forall_mem_cons.mpr ⟨(List.mem_cons_of_mem _ (List.mem_cons_of_mem _ List.mem_cons_self)), (List.forall_mem_cons.mpr ⟨(List.mem_cons_of_mem _ (List.mem_cons_of_mem _ (List.mem_cons_of_mem _ List.mem_cons_self))), (List.forall_mem_cons.mpr ⟨(List.mem_cons_of_mem _ (List.mem_cons_of_mem _ (List.mem_cons_of_mem _ (List.mem_cons_of_mem _ List.mem_cons_self)))), (fun _ h => nomatch h)⟩)⟩)⟩)⟩) (List.forall_mem_cons.mpr ⟨Or.inl List.mem_cons_self, (List.forall_mem_cons.mpr ⟨Or.inr rfl, (List.forall_mem_cons.mpr ⟨Or.inl (List.mem_cons_of_mem _ List.mem_cons_self), (List.forall_mem_cons.mpr ⟨Or.inl (List.mem_cons_of_mem _ (List.mem_cons_of_mem _ List.mem_cons_self)), (List.forall_mem_cons.mpr ⟨Or.inl (List.mem_cons_of_mem _ (List.mem_cons_of_mem _ (List.mem_cons_of_mem _ List.mem_cons_self))), (fun _ h => nomatch h)⟩)⟩)⟩)⟩)⟩)) h
set_option maxRecDepth 100000 in
set_option maxHeartbeats 4000000 in
theorem bk_315_25 {b : Bool} {d : Nat} {x3 x4 x5 : Int32} {e : Nat → x_E} {g : Nat → Int32} {q : Nat → Int64} {c : Nat → Nat → Int32} {l : Nat → Nat → Int64} {g' : Nat → Int32} {q' : Nat → Int64} {c' : Nat → Nat → Int32} {l' : Nat → Nat → Int64} {R : Option Value × List x_E} (hc : rr b e d 316 0 [(0, .ref 49), (1, .int x3)] [] g q c l (none, rH e g' q' c' l')) (h : rr b e (d + 1) 315 30 [(0, .ref 49), (4, .int x4), (5, .int x5)] [] g' q' c' l' R) : rr b e (d + 1) 315 25 [(0, .ref 49), (3, .int x3), (4, .int x4), (5, .int x5)] [] g q c l R := by
  obtain ⟨f1, hc⟩ := hc
  obtain ⟨f2, h⟩ := h
  obtain ⟨f, hf1, hf2⟩ : ∃ f, f1 ≤ f ∧ f2 ≤ f := ⟨max f1 f2, Nat.le_max_left _ _, Nat.le_max_right _ _⟩
  have hc := nrun_fuel f1 f _ _ _ _ _ _ _ _ _ hf1 hc
  have h := nrun_fuel f2 f _ _ _ _ _ _ _ _ _ hf2 h
  refine ⟨f + 3, ?_⟩
  obtain ⟨y, cb, hj⟩ := mq_315
  rw [n_step (st' := [.ref 49]) (pc' := 26) (lv' := [(0, .ref 49), (3, .int x3), (4, .int x4), (5, .int x5)]) (hp' := rH e g q c l) (i := .aload_n 0) (len := 1) rfl hj rfl rfl rfl]
  rw [n_step (st' := [.int x3, .ref 49]) (pc' := 27) (lv' := [(0, .ref 49), (3, .int x3), (4, .int x4), (5, .int x5)]) (hp' := rH e g q c l) (i := .iload_n 3) (len := 1) rfl hj rfl rfl rfl]
  obtain ⟨y2, cb2, hj2⟩ := mq_316
  rw [n_call (f := f) (d := d) (ki := 0) (idx := 240) (j' := 316) (kd := 0) (M' := (y2, cb2, 3, none, 12, 1, 0, 0)) (avs := [.ref 49, .int x3]) (r := []) (rv := none) (hp1 := rH e g' q' c' l') rfl hj rfl rfl rfl rfl (rq_n rfl rfl hj2 rfl rfl) rfl hc (Nat.le_of_ble_eq_true rfl)]
  exact nrun_ext f f _ _ R 315 30 [(0, .ref 49), (4, .int x4), (5, .int x5)] [(0, .ref 49), (3, .int x3), (4, .int x4), (5, .int x5)] [] _ 0 0 122 (Nat.le_refl _) (Nat.le_refl _) (Nat.le_of_ble_eq_true rfl) (lvR_mk [0, 4, 5] [0, 3, 4, 5] rfl rfl (by decide) (by decide) (List.forall_mem_cons.mpr ⟨List.mem_cons_self, (List.forall_mem_cons.mpr ⟨(List.mem_cons_of_mem _ (List.mem_cons_of_mem _ List.mem_cons_self)), (List.forall_mem_cons.mpr ⟨(List.mem_cons_of_mem _ (List.mem_cons_of_mem _ (List.mem_cons_of_mem _ List.mem_cons_self))), (fun _ h => nomatch h)⟩)⟩)⟩) (List.forall_mem_cons.mpr ⟨Or.inl List.mem_cons_self, (List.forall_mem_cons.mpr ⟨Or.inr rfl, (List.forall_mem_cons.mpr ⟨Or.inl (List.mem_cons_of_mem _ List.mem_cons_self), (List.forall_mem_cons.mpr ⟨Or.inl (List.mem_cons_of_mem _ (List.mem_cons_of_mem _ List.mem_cons_self)), (fun _ h => nomatch h)⟩)⟩)⟩)⟩)) h
set_option maxRecDepth 100000 in
set_option maxHeartbeats 4000000 in
theorem bk_315_30 {b : Bool} {d : Nat} {x4 x5 : Int32} {e : Nat → x_E} {g : Nat → Int32} {q : Nat → Int64} {c : Nat → Nat → Int32} {l : Nat → Nat → Int64} {g' : Nat → Int32} {q' : Nat → Int64} {c' : Nat → Nat → Int32} {l' : Nat → Nat → Int64} {R : Option Value × List x_E} (hc : rr b e d 316 0 [(0, .ref 49), (1, .int x4)] [] g q c l (none, rH e g' q' c' l')) (h : rr b e (d + 1) 315 36 [(0, .ref 49), (5, .int x5)] [] g' q' c' l' R) : rr b e (d + 1) 315 30 [(0, .ref 49), (4, .int x4), (5, .int x5)] [] g q c l R := by
  obtain ⟨f1, hc⟩ := hc
  obtain ⟨f2, h⟩ := h
  obtain ⟨f, hf1, hf2⟩ : ∃ f, f1 ≤ f ∧ f2 ≤ f := ⟨max f1 f2, Nat.le_max_left _ _, Nat.le_max_right _ _⟩
  have hc := nrun_fuel f1 f _ _ _ _ _ _ _ _ _ hf1 hc
  have h := nrun_fuel f2 f _ _ _ _ _ _ _ _ _ hf2 h
  refine ⟨f + 3, ?_⟩
  obtain ⟨y, cb, hj⟩ := mq_315
  rw [n_step (st' := [.ref 49]) (pc' := 31) (lv' := [(0, .ref 49), (4, .int x4), (5, .int x5)]) (hp' := rH e g q c l) (i := .aload_n 0) (len := 1) rfl hj rfl rfl rfl]
  rw [n_step (st' := [.int x4, .ref 49]) (pc' := 33) (lv' := [(0, .ref 49), (4, .int x4), (5, .int x5)]) (hp' := rH e g q c l) (i := .iload 4) (len := 2) rfl hj rfl rfl rfl]
  obtain ⟨y2, cb2, hj2⟩ := mq_316
  rw [n_call (f := f) (d := d) (ki := 0) (idx := 240) (j' := 316) (kd := 0) (M' := (y2, cb2, 3, none, 12, 1, 0, 0)) (avs := [.ref 49, .int x4]) (r := []) (rv := none) (hp1 := rH e g' q' c' l') rfl hj rfl rfl rfl rfl (rq_n rfl rfl hj2 rfl rfl) rfl hc (Nat.le_of_ble_eq_true rfl)]
  exact nrun_ext f f _ _ R 315 36 [(0, .ref 49), (5, .int x5)] [(0, .ref 49), (4, .int x4), (5, .int x5)] [] _ 0 0 122 (Nat.le_refl _) (Nat.le_refl _) (Nat.le_of_ble_eq_true rfl) (lvR_mk [0, 5] [0, 4, 5] rfl rfl (by decide) (by decide) (List.forall_mem_cons.mpr ⟨List.mem_cons_self, (List.forall_mem_cons.mpr ⟨(List.mem_cons_of_mem _ (List.mem_cons_of_mem _ List.mem_cons_self)), (fun _ h => nomatch h)⟩)⟩) (List.forall_mem_cons.mpr ⟨Or.inl List.mem_cons_self, (List.forall_mem_cons.mpr ⟨Or.inr rfl, (List.forall_mem_cons.mpr ⟨Or.inl (List.mem_cons_of_mem _ List.mem_cons_self), (fun _ h => nomatch h)⟩)⟩)⟩)) h
set_option maxRecDepth 100000 in
set_option maxHeartbeats 4000000 in
theorem bk_315_36 {b : Bool} {d : Nat} {x5 : Int32} {e : Nat → x_E} {g : Nat → Int32} {q : Nat → Int64} {c : Nat → Nat → Int32} {l : Nat → Nat → Int64} {g' : Nat → Int32} {q' : Nat → Int64} {c' : Nat → Nat → Int32} {l' : Nat → Nat → Int64} {R : Option Value × List x_E} (hc : rr b e d 316 0 [(0, .ref 49), (1, .int x5)] [] g q c l (none, rH e g' q' c' l')) (h : rr b e (d + 1) 315 42 [] [] g' q' c' l' R) : rr b e (d + 1) 315 36 [(0, .ref 49), (5, .int x5)] [] g q c l R := by
  obtain ⟨f1, hc⟩ := hc
  obtain ⟨f2, h⟩ := h
  obtain ⟨f, hf1, hf2⟩ : ∃ f, f1 ≤ f ∧ f2 ≤ f := ⟨max f1 f2, Nat.le_max_left _ _, Nat.le_max_right _ _⟩
  have hc := nrun_fuel f1 f _ _ _ _ _ _ _ _ _ hf1 hc
  have h := nrun_fuel f2 f _ _ _ _ _ _ _ _ _ hf2 h
  refine ⟨f + 3, ?_⟩
  obtain ⟨y, cb, hj⟩ := mq_315
  rw [n_step (st' := [.ref 49]) (pc' := 37) (lv' := [(0, .ref 49), (5, .int x5)]) (hp' := rH e g q c l) (i := .aload_n 0) (len := 1) rfl hj rfl rfl rfl]
  rw [n_step (st' := [.int x5, .ref 49]) (pc' := 39) (lv' := [(0, .ref 49), (5, .int x5)]) (hp' := rH e g q c l) (i := .iload 5) (len := 2) rfl hj rfl rfl rfl]
  obtain ⟨y2, cb2, hj2⟩ := mq_316
  rw [n_call (f := f) (d := d) (ki := 0) (idx := 240) (j' := 316) (kd := 0) (M' := (y2, cb2, 3, none, 12, 1, 0, 0)) (avs := [.ref 49, .int x5]) (r := []) (rv := none) (hp1 := rH e g' q' c' l') rfl hj rfl rfl rfl rfl (rq_n rfl rfl hj2 rfl rfl) rfl hc (Nat.le_of_ble_eq_true rfl)]
  exact nrun_ext f f _ _ R 315 42 [] [(0, .ref 49), (5, .int x5)] [] _ 0 0 122 (Nat.le_refl _) (Nat.le_refl _) (Nat.le_of_ble_eq_true rfl) (lvR_mk [] [0, 5] rfl rfl (by decide) (by decide) (fun _ h => nomatch h) (List.forall_mem_cons.mpr ⟨Or.inr rfl, (List.forall_mem_cons.mpr ⟨Or.inr rfl, (fun _ h => nomatch h)⟩)⟩)) h
set_option maxRecDepth 100000 in
set_option maxHeartbeats 4000000 in
theorem bk_315_42 {b : Bool} {d : Nat} {e : Nat → x_E} {g : Nat → Int32} {q : Nat → Int64} {c : Nat → Nat → Int32} {l : Nat → Nat → Int64} : rr b e d 315 42 [] [] g q c l (some (.int (Int32.ofInt (1))), rH e g q c l) := by
  refine ⟨0 + 2, ?_⟩
  obtain ⟨y, cb, hj⟩ := mq_315
  rw [n_step (st' := [.int (Int32.ofInt (1))]) (pc' := 43) (lv' := []) (hp' := rH e g q c l) (i := .iconst 1) (len := 1) rfl hj rfl rfl rfl]
  exact n_ret rfl hj rfl rfl (x_ret rfl)
set_option maxRecDepth 100000 in
set_option maxHeartbeats 4000000 in
theorem bk_316_0 {b : Bool} {d : Nat} {x1 : Int32} {e : Nat → x_E} {g : Nat → Int32} {q : Nat → Int64} {c : Nat → Nat → Int32} {l : Nat → Nat → Int64} {R : Option Value × List x_E} (h : rr b e d 316 2 [(0, .ref 49), (1, .int x1), (2, .int (Int32.ofInt (3)))] [] g q c l R) : rr b e d 316 0 [(0, .ref 49), (1, .int x1)] [] g q c l R := by
  obtain ⟨f, h⟩ := h
  refine ⟨f + 2, ?_⟩
  obtain ⟨y, cb, hj⟩ := mq_316
  rw [n_step (st' := [.int (Int32.ofInt (3))]) (pc' := 1) (lv' := [(0, .ref 49), (1, .int x1)]) (hp' := rH e g q c l) (i := .iconst 3) (len := 1) rfl hj rfl rfl rfl]
  rw [n_step (st' := []) (pc' := 2) (lv' := [(2, .int (Int32.ofInt (3))), (0, .ref 49), (1, .int x1)]) (hp' := rH e g q c l) (i := .istore_n 2) (len := 1) rfl hj rfl rfl rfl]
  exact nrun_ext f f _ _ R 316 2 [(0, .ref 49), (1, .int x1), (2, .int (Int32.ofInt (3)))] [(2, .int (Int32.ofInt (3))), (0, .ref 49), (1, .int x1)] [] _ 0 0 122 (Nat.le_refl _) (Nat.le_refl _) (Nat.le_of_ble_eq_true rfl) (lvR_mk [0, 1, 2] [2, 0, 1] rfl rfl (by decide) (by decide) (List.forall_mem_cons.mpr ⟨(List.mem_cons_of_mem _ List.mem_cons_self), (List.forall_mem_cons.mpr ⟨(List.mem_cons_of_mem _ (List.mem_cons_of_mem _ List.mem_cons_self)), (List.forall_mem_cons.mpr ⟨List.mem_cons_self, (fun _ h => nomatch h)⟩)⟩)⟩) (List.forall_mem_cons.mpr ⟨Or.inl (List.mem_cons_of_mem _ (List.mem_cons_of_mem _ List.mem_cons_self)), (List.forall_mem_cons.mpr ⟨Or.inl List.mem_cons_self, (List.forall_mem_cons.mpr ⟨Or.inl (List.mem_cons_of_mem _ List.mem_cons_self), (fun _ h => nomatch h)⟩)⟩)⟩)) h
set_option maxRecDepth 100000 in
set_option maxHeartbeats 4000000 in
theorem bk_316_2 {b : Bool} {d : Nat} {x1 x2 : Int32} {e : Nat → x_E} {g : Nat → Int32} {q : Nat → Int64} {c : Nat → Nat → Int32} {l : Nat → Nat → Int64} {R : Option Value × List x_E} (h1 : xCn .lt x2 0 = true → rr b e d 316 41 [] [] g q c l R) (h2 : ¬ xCn .lt x2 0 = true → rr b e d 316 6 [(0, .ref 49), (1, .int x1), (2, .int x2)] [] g q c l R) : rr b e d 316 2 [(0, .ref 49), (1, .int x1), (2, .int x2)] [] g q c l R := by
  have key : ∀ f, nrun xZ (xY (xfm b)) xDT (f + 2) d 316 2 [(0, .ref 49), (1, .int x1), (2, .int x2)] [] (rH e g q c l) 0 0 = nrun xZ (xY (xfm b)) xDT f d 316 (if xCn .lt x2 0 = true then 41 else 6) [(0, .ref 49), (1, .int x1), (2, .int x2)] [] (rH e g q c l) 0 0 := by
    intro f
    obtain ⟨y, cb, hj⟩ := mq_316
    rw [n_step (st' := [.int x2]) (pc' := 3) (lv' := [(0, .ref 49), (1, .int x1), (2, .int x2)]) (hp' := rH e g q c l) (i := .iload_n 2) (len := 1) rfl hj rfl rfl rfl]
    rw [n_step (st' := []) (pc' := (if xCn .lt x2 0 = true then 41 else 6)) (lv' := [(0, .ref 49), (1, .int x1), (2, .int x2)]) (hp' := rH e g q c l) (i := .ifCond .lt 38) (len := 3) rfl hj rfl rfl rfl]
  by_cases hc : xCn .lt x2 0 = true
  · obtain ⟨f, h⟩ := h1 hc
    refine ⟨f + 2, ?_⟩
    rw [key, if_pos hc]
    exact nrun_ext f f _ _ R 316 41 [] [(0, .ref 49), (1, .int x1), (2, .int x2)] [] _ 0 0 122 (Nat.le_refl _) (Nat.le_refl _) (Nat.le_of_ble_eq_true rfl) (lvR_mk [] [0, 1, 2] rfl rfl (by decide) (by decide) (fun _ h => nomatch h) (List.forall_mem_cons.mpr ⟨Or.inr rfl, (List.forall_mem_cons.mpr ⟨Or.inr rfl, (List.forall_mem_cons.mpr ⟨Or.inr rfl, (fun _ h => nomatch h)⟩)⟩)⟩)) h
  · obtain ⟨f, h⟩ := h2 hc
    refine ⟨f + 2, ?_⟩
    rw [key, if_neg hc]
    exact h
set_option maxRecDepth 100000 in
set_option maxHeartbeats 4000000 in
theorem bk_316_6 {b : Bool} {d : Nat} {x1 x2 : Int32} {e : Nat → x_E} {g : Nat → Int32} {q : Nat → Int64} {c : Nat → Nat → Int32} {l : Nat → Nat → Int64} {R : Option Value × List x_E} (hz0 : ¬ ((g 1) < 0 ∨ 6000 ≤ ((g 1)).toNatClampNeg)) (h : rr b e d 316 2 [(0, .ref 49), (1, .int x1), (2, .int (x2 + Int32.ofInt (-1)))] [] (upd g 1 (((g 1) + (Int32.ofInt (1))))) q (updA c 50 (upd (c 50) ((g 1)).toNatClampNeg (((x1 >>> (((Int8.ofInt (8)).toInt32 * x2) &&& 31)) &&& (Int16.ofInt (255)).toInt32)))) l R) : rr b e d 316 6 [(0, .ref 49), (1, .int x1), (2, .int x2)] [] g q c l R := by
  obtain ⟨f, h⟩ := h
  refine ⟨f + 20, ?_⟩
  obtain ⟨y, cb, hj⟩ := mq_316
  rw [n_step (st' := [.ref 49]) (pc' := 7) (lv' := [(0, .ref 49), (1, .int x1), (2, .int x2)]) (hp' := rH e g q c l) (i := .aload_n 0) (len := 1) rfl hj rfl rfl rfl]
  rw [n_get (st' := [.ref 50]) (pc' := 10) (lv' := [(0, .ref 49), (1, .int x1), (2, .int x2)]) (hp' := rH e g q c l) (i := .getfield 7) (len := 3) rfl hj rfl rfl rfl rfl]
  rw [n_step (st' := [.ref 49, .ref 50]) (pc' := 11) (lv' := [(0, .ref 49), (1, .int x1), (2, .int x2)]) (hp' := rH e g q c l) (i := .aload_n 0) (len := 1) rfl hj rfl rfl rfl]
  rw [n_get (st' := [.int (g 1), .ref 50]) (pc' := 14) (lv' := [(0, .ref 49), (1, .int x1), (2, .int x2)]) (hp' := rH e g q c l) (i := .getfield 237) (len := 3) rfl hj rfl rfl rfl rfl]
  rw [n_step (st' := [.int x1, .int (g 1), .ref 50]) (pc' := 15) (lv' := [(0, .ref 49), (1, .int x1), (2, .int x2)]) (hp' := rH e g q c l) (i := .iload_n 1) (len := 1) rfl hj rfl rfl rfl]
  rw [n_step (st' := [.int (Int8.ofInt (8)).toInt32, .int x1, .int (g 1), .ref 50]) (pc' := 17) (lv' := [(0, .ref 49), (1, .int x1), (2, .int x2)]) (hp' := rH e g q c l) (i := .bipush 8) (len := 2) rfl hj rfl rfl rfl]
  rw [n_step (st' := [.int x2, .int (Int8.ofInt (8)).toInt32, .int x1, .int (g 1), .ref 50]) (pc' := 18) (lv' := [(0, .ref 49), (1, .int x1), (2, .int x2)]) (hp' := rH e g q c l) (i := .iload_n 2) (len := 1) rfl hj rfl rfl rfl]
  rw [n_step (st' := [.int ((Int8.ofInt (8)).toInt32 * x2), .int x1, .int (g 1), .ref 50]) (pc' := 19) (lv' := [(0, .ref 49), (1, .int x1), (2, .int x2)]) (hp' := rH e g q c l) (i := .imul) (len := 1) rfl hj rfl rfl rfl]
  rw [n_step (st' := [.int (x1 >>> (((Int8.ofInt (8)).toInt32 * x2) &&& 31)), .int (g 1), .ref 50]) (pc' := 20) (lv' := [(0, .ref 49), (1, .int x1), (2, .int x2)]) (hp' := rH e g q c l) (i := .ishr) (len := 1) rfl hj rfl rfl rfl]
  rw [n_step (st' := [.int (Int16.ofInt (255)).toInt32, .int (x1 >>> (((Int8.ofInt (8)).toInt32 * x2) &&& 31)), .int (g 1), .ref 50]) (pc' := 23) (lv' := [(0, .ref 49), (1, .int x1), (2, .int x2)]) (hp' := rH e g q c l) (i := .sipush 255) (len := 3) rfl hj rfl rfl rfl]
  rw [n_step (st' := [.int ((x1 >>> (((Int8.ofInt (8)).toInt32 * x2) &&& 31)) &&& (Int16.ofInt (255)).toInt32), .int (g 1), .ref 50]) (pc' := 24) (lv' := [(0, .ref 49), (1, .int x1), (2, .int x2)]) (hp' := rH e g q c l) (i := .iand) (len := 1) rfl hj rfl rfl rfl]
  rw [n_ias (st' := []) (hp' := rH e g q (updA c 50 (upd (c 50) ((g 1)).toNatClampNeg (((x1 >>> (((Int8.ofInt (8)).toInt32 * x2) &&& 31)) &&& (Int16.ofInt (255)).toInt32)))) l) rfl hj (ast_50 hz0)]
  rw [n_step (st' := [.ref 49]) (pc' := 26) (lv' := [(0, .ref 49), (1, .int x1), (2, .int x2)]) (hp' := rH e g q (updA c 50 (upd (c 50) ((g 1)).toNatClampNeg (((x1 >>> (((Int8.ofInt (8)).toInt32 * x2) &&& 31)) &&& (Int16.ofInt (255)).toInt32)))) l) (i := .aload_n 0) (len := 1) rfl hj rfl rfl rfl]
  rw [n_step (st' := [.ref 49, .ref 49]) (pc' := 27) (lv' := [(0, .ref 49), (1, .int x1), (2, .int x2)]) (hp' := rH e g q (updA c 50 (upd (c 50) ((g 1)).toNatClampNeg (((x1 >>> (((Int8.ofInt (8)).toInt32 * x2) &&& 31)) &&& (Int16.ofInt (255)).toInt32)))) l) (i := .aload_n 0) (len := 1) rfl hj rfl rfl rfl]
  rw [n_get (st' := [.int (g 1), .ref 49]) (pc' := 30) (lv' := [(0, .ref 49), (1, .int x1), (2, .int x2)]) (hp' := rH e g q (updA c 50 (upd (c 50) ((g 1)).toNatClampNeg (((x1 >>> (((Int8.ofInt (8)).toInt32 * x2) &&& 31)) &&& (Int16.ofInt (255)).toInt32)))) l) (i := .getfield 237) (len := 3) rfl hj rfl rfl rfl rfl]
  rw [n_step (st' := [.int (Int32.ofInt (1)), .int (g 1), .ref 49]) (pc' := 31) (lv' := [(0, .ref 49), (1, .int x1), (2, .int x2)]) (hp' := rH e g q (updA c 50 (upd (c 50) ((g 1)).toNatClampNeg (((x1 >>> (((Int8.ofInt (8)).toInt32 * x2) &&& 31)) &&& (Int16.ofInt (255)).toInt32)))) l) (i := .iconst 1) (len := 1) rfl hj rfl rfl rfl]
  rw [n_step (st' := [.int ((g 1) + (Int32.ofInt (1))), .ref 49]) (pc' := 32) (lv' := [(0, .ref 49), (1, .int x1), (2, .int x2)]) (hp' := rH e g q (updA c 50 (upd (c 50) ((g 1)).toNatClampNeg (((x1 >>> (((Int8.ofInt (8)).toInt32 * x2) &&& 31)) &&& (Int16.ofInt (255)).toInt32)))) l) (i := .iadd) (len := 1) rfl hj rfl rfl rfl]
  rw [n_put (st' := []) (hp' := rH e (upd g 1 (((g 1) + (Int32.ofInt (1))))) q (updA c 50 (upd (c 50) ((g 1)).toNatClampNeg (((x1 >>> (((Int8.ofInt (8)).toInt32 * x2) &&& 31)) &&& (Int16.ofInt (255)).toInt32)))) l) rfl hj pf_1]
  rw [n_step (st' := []) (pc' := 38) (lv' := [(2, .int (x2 + Int32.ofInt (-1))), (0, .ref 49), (1, .int x1)]) (hp' := rH e (upd g 1 (((g 1) + (Int32.ofInt (1))))) q (updA c 50 (upd (c 50) ((g 1)).toNatClampNeg (((x1 >>> (((Int8.ofInt (8)).toInt32 * x2) &&& 31)) &&& (Int16.ofInt (255)).toInt32)))) l) (i := .iinc 2 (-1)) (len := 3) rfl hj rfl rfl rfl]
  rw [n_step (st' := []) (pc' := 2) (lv' := [(2, .int (x2 + Int32.ofInt (-1))), (0, .ref 49), (1, .int x1)]) (hp' := rH e (upd g 1 (((g 1) + (Int32.ofInt (1))))) q (updA c 50 (upd (c 50) ((g 1)).toNatClampNeg (((x1 >>> (((Int8.ofInt (8)).toInt32 * x2) &&& 31)) &&& (Int16.ofInt (255)).toInt32)))) l) (i := .goto (-36)) (len := 3) rfl hj rfl rfl rfl]
  exact nrun_ext f f _ _ R 316 2 [(0, .ref 49), (1, .int x1), (2, .int (x2 + Int32.ofInt (-1)))] [(2, .int (x2 + Int32.ofInt (-1))), (0, .ref 49), (1, .int x1)] [] _ 0 0 122 (Nat.le_refl _) (Nat.le_refl _) (Nat.le_of_ble_eq_true rfl) (lvR_mk [0, 1, 2] [2, 0, 1] rfl rfl (by decide) (by decide) (List.forall_mem_cons.mpr ⟨(List.mem_cons_of_mem _ List.mem_cons_self), (List.forall_mem_cons.mpr ⟨(List.mem_cons_of_mem _ (List.mem_cons_of_mem _ List.mem_cons_self)), (List.forall_mem_cons.mpr ⟨List.mem_cons_self, (fun _ h => nomatch h)⟩)⟩)⟩) (List.forall_mem_cons.mpr ⟨Or.inl (List.mem_cons_of_mem _ (List.mem_cons_of_mem _ List.mem_cons_self)), (List.forall_mem_cons.mpr ⟨Or.inl List.mem_cons_self, (List.forall_mem_cons.mpr ⟨Or.inl (List.mem_cons_of_mem _ List.mem_cons_self), (fun _ h => nomatch h)⟩)⟩)⟩)) h
set_option maxRecDepth 100000 in
set_option maxHeartbeats 4000000 in
theorem bk_316_41 {b : Bool} {d : Nat} {e : Nat → x_E} {g : Nat → Int32} {q : Nat → Int64} {c : Nat → Nat → Int32} {l : Nat → Nat → Int64} : rr b e d 316 41 [] [] g q c l (none, rH e g q c l) := by
  refine ⟨0 + 1, ?_⟩
  obtain ⟨y, cb, hj⟩ := mq_316
  exact n_ret rfl hj rfl rfl rfl
set_option maxRecDepth 100000 in
set_option maxHeartbeats 4000000 in
theorem bk_317_0 {b : Bool} {d : Nat} {x1 : Int32} {e : Nat → x_E} {g : Nat → Int32} {q : Nat → Int64} {c : Nat → Nat → Int32} {l : Nat → Nat → Int64} {R : Option Value × List x_E} (h1 : xCn .lt x1 0 = true → rr b e d 317 12 [] [] g q c l R) (h2 : ¬ xCn .lt x1 0 = true → rr b e d 317 4 [(0, .ref 49), (1, .int x1)] [] g q c l R) : rr b e d 317 0 [(0, .ref 49), (1, .int x1)] [] g q c l R := by
  have key : ∀ f, nrun xZ (xY (xfm b)) xDT (f + 2) d 317 0 [(0, .ref 49), (1, .int x1)] [] (rH e g q c l) 0 0 = nrun xZ (xY (xfm b)) xDT f d 317 (if xCn .lt x1 0 = true then 12 else 4) [(0, .ref 49), (1, .int x1)] [] (rH e g q c l) 0 0 := by
    intro f
    obtain ⟨y, cb, hj⟩ := mq_317
    rw [n_step (st' := [.int x1]) (pc' := 1) (lv' := [(0, .ref 49), (1, .int x1)]) (hp' := rH e g q c l) (i := .iload_n 1) (len := 1) rfl hj rfl rfl rfl]
    rw [n_step (st' := []) (pc' := (if xCn .lt x1 0 = true then 12 else 4)) (lv' := [(0, .ref 49), (1, .int x1)]) (hp' := rH e g q c l) (i := .ifCond .lt 11) (len := 3) rfl hj rfl rfl rfl]
  by_cases hc : xCn .lt x1 0 = true
  · obtain ⟨f, h⟩ := h1 hc
    refine ⟨f + 2, ?_⟩
    rw [key, if_pos hc]
    exact nrun_ext f f _ _ R 317 12 [] [(0, .ref 49), (1, .int x1)] [] _ 0 0 122 (Nat.le_refl _) (Nat.le_refl _) (Nat.le_of_ble_eq_true rfl) (lvR_mk [] [0, 1] rfl rfl (by decide) (by decide) (fun _ h => nomatch h) (List.forall_mem_cons.mpr ⟨Or.inr rfl, (List.forall_mem_cons.mpr ⟨Or.inr rfl, (fun _ h => nomatch h)⟩)⟩)) h
  · obtain ⟨f, h⟩ := h2 hc
    refine ⟨f + 2, ?_⟩
    rw [key, if_neg hc]
    exact h
set_option maxRecDepth 100000 in
set_option maxHeartbeats 4000000 in
theorem bk_317_4 {b : Bool} {d : Nat} {x1 : Int32} {e : Nat → x_E} {g : Nat → Int32} {q : Nat → Int64} {c : Nat → Nat → Int32} {l : Nat → Nat → Int64} {R : Option Value × List x_E} (h1 : xCn .le x1 ((g 1)) = true → rr b e d 317 14 [(0, .ref 49), (1, .int x1)] [] g q c l R) (h2 : ¬ xCn .le x1 ((g 1)) = true → rr b e d 317 12 [] [] g q c l R) : rr b e d 317 4 [(0, .ref 49), (1, .int x1)] [] g q c l R := by
  have key : ∀ f, nrun xZ (xY (xfm b)) xDT (f + 4) d 317 4 [(0, .ref 49), (1, .int x1)] [] (rH e g q c l) 0 0 = nrun xZ (xY (xfm b)) xDT f d 317 (if xCn .le x1 ((g 1)) = true then 14 else 12) [(0, .ref 49), (1, .int x1)] [] (rH e g q c l) 0 0 := by
    intro f
    obtain ⟨y, cb, hj⟩ := mq_317
    rw [n_step (st' := [.int x1]) (pc' := 5) (lv' := [(0, .ref 49), (1, .int x1)]) (hp' := rH e g q c l) (i := .iload_n 1) (len := 1) rfl hj rfl rfl rfl]
    rw [n_step (st' := [.ref 49, .int x1]) (pc' := 6) (lv' := [(0, .ref 49), (1, .int x1)]) (hp' := rH e g q c l) (i := .aload_n 0) (len := 1) rfl hj rfl rfl rfl]
    rw [n_get (st' := [.int (g 1), .int x1]) (pc' := 9) (lv' := [(0, .ref 49), (1, .int x1)]) (hp' := rH e g q c l) (i := .getfield 237) (len := 3) rfl hj rfl rfl rfl rfl]
    rw [n_step (st' := []) (pc' := (if xCn .le x1 ((g 1)) = true then 14 else 12)) (lv' := [(0, .ref 49), (1, .int x1)]) (hp' := rH e g q c l) (i := .if_icmp .le 5) (len := 3) rfl hj rfl rfl rfl]
  by_cases hc : xCn .le x1 ((g 1)) = true
  · obtain ⟨f, h⟩ := h1 hc
    refine ⟨f + 4, ?_⟩
    rw [key, if_pos hc]
    exact h
  · obtain ⟨f, h⟩ := h2 hc
    refine ⟨f + 4, ?_⟩
    rw [key, if_neg hc]
    exact nrun_ext f f _ _ R 317 12 [] [(0, .ref 49), (1, .int x1)] [] _ 0 0 122 (Nat.le_refl _) (Nat.le_refl _) (Nat.le_of_ble_eq_true rfl) (lvR_mk [] [0, 1] rfl rfl (by decide) (by decide) (fun _ h => nomatch h) (List.forall_mem_cons.mpr ⟨Or.inr rfl, (List.forall_mem_cons.mpr ⟨Or.inr rfl, (fun _ h => nomatch h)⟩)⟩)) h
set_option maxRecDepth 100000 in
set_option maxHeartbeats 4000000 in
theorem bk_317_12 {b : Bool} {d : Nat} {e : Nat → x_E} {g : Nat → Int32} {q : Nat → Int64} {c : Nat → Nat → Int32} {l : Nat → Nat → Int64} : rr b e d 317 12 [] [] g q c l (some (.int (Int32.ofInt (-1))), rH e g q c l) := by
  refine ⟨0 + 2, ?_⟩
  obtain ⟨y, cb, hj⟩ := mq_317
  rw [n_step (st' := [.int (Int32.ofInt (-1))]) (pc' := 13) (lv' := []) (hp' := rH e g q c l) (i := .iconst (-1)) (len := 1) rfl hj rfl rfl rfl]
  exact n_ret rfl hj rfl rfl (x_ret rfl)
set_option maxRecDepth 100000 in
set_option maxHeartbeats 4000000 in
theorem bk_317_14 {b : Bool} {d : Nat} {x1 : Int32} {e : Nat → x_E} {g : Nat → Int32} {q : Nat → Int64} {c : Nat → Nat → Int32} {l : Nat → Nat → Int64} {g' : Nat → Int32} {q' : Nat → Int64} {c' : Nat → Nat → Int32} {l' : Nat → Nat → Int64} {R : Option Value × List x_E} (hc : rr b e d 318 0 [(0, .ref 49), (1, .int (Int32.ofInt (0))), (2, .int x1)] [] (upd g 1 ((Int32.ofInt (0)))) q c l (none, rH e g' q' c' l')) (h : rr b e (d + 1) 317 25 [(0, .ref 49)] [] g' q' c' l' R) : rr b e (d + 1) 317 14 [(0, .ref 49), (1, .int x1)] [] g q c l R := by
  obtain ⟨f1, hc⟩ := hc
  obtain ⟨f2, h⟩ := h
  obtain ⟨f, hf1, hf2⟩ : ∃ f, f1 ≤ f ∧ f2 ≤ f := ⟨max f1 f2, Nat.le_max_left _ _, Nat.le_max_right _ _⟩
  have hc := nrun_fuel f1 f _ _ _ _ _ _ _ _ _ hf1 hc
  have h := nrun_fuel f2 f _ _ _ _ _ _ _ _ _ hf2 h
  refine ⟨f + 7, ?_⟩
  obtain ⟨y, cb, hj⟩ := mq_317
  rw [n_step (st' := [.ref 49]) (pc' := 15) (lv' := [(0, .ref 49), (1, .int x1)]) (hp' := rH e g q c l) (i := .aload_n 0) (len := 1) rfl hj rfl rfl rfl]
  rw [n_step (st' := [.int (Int32.ofInt (0)), .ref 49]) (pc' := 16) (lv' := [(0, .ref 49), (1, .int x1)]) (hp' := rH e g q c l) (i := .iconst 0) (len := 1) rfl hj rfl rfl rfl]
  rw [n_put (st' := []) (hp' := rH e (upd g 1 ((Int32.ofInt (0)))) q c l) rfl hj pf_1]
  rw [n_step (st' := [.ref 49]) (pc' := 20) (lv' := [(0, .ref 49), (1, .int x1)]) (hp' := rH e (upd g 1 ((Int32.ofInt (0)))) q c l) (i := .aload_n 0) (len := 1) rfl hj rfl rfl rfl]
  rw [n_step (st' := [.int (Int32.ofInt (0)), .ref 49]) (pc' := 21) (lv' := [(0, .ref 49), (1, .int x1)]) (hp' := rH e (upd g 1 ((Int32.ofInt (0)))) q c l) (i := .iconst 0) (len := 1) rfl hj rfl rfl rfl]
  rw [n_step (st' := [.int x1, .int (Int32.ofInt (0)), .ref 49]) (pc' := 22) (lv' := [(0, .ref 49), (1, .int x1)]) (hp' := rH e (upd g 1 ((Int32.ofInt (0)))) q c l) (i := .iload_n 1) (len := 1) rfl hj rfl rfl rfl]
  obtain ⟨y2, cb2, hj2⟩ := mq_318
  rw [n_call (f := f) (d := d) (ki := 0) (idx := 571) (j' := 318) (kd := 0) (M' := (y2, cb2, 4, none, 12, 2, 0, 0)) (avs := [.ref 49, .int (Int32.ofInt (0)), .int x1]) (r := []) (rv := none) (hp1 := rH e g' q' c' l') rfl hj rfl rfl rfl rfl (rq_n rfl rfl hj2 rfl rfl) rfl hc (Nat.le_of_ble_eq_true rfl)]
  exact nrun_ext f f _ _ R 317 25 [(0, .ref 49)] [(0, .ref 49), (1, .int x1)] [] _ 0 0 122 (Nat.le_refl _) (Nat.le_refl _) (Nat.le_of_ble_eq_true rfl) (lvR_mk [0] [0, 1] rfl rfl (by decide) (by decide) (List.forall_mem_cons.mpr ⟨List.mem_cons_self, (fun _ h => nomatch h)⟩) (List.forall_mem_cons.mpr ⟨Or.inl List.mem_cons_self, (List.forall_mem_cons.mpr ⟨Or.inr rfl, (fun _ h => nomatch h)⟩)⟩)) h
set_option maxRecDepth 100000 in
set_option maxHeartbeats 4000000 in
theorem bk_317_25 {b : Bool} {d : Nat} {e : Nat → x_E} {g : Nat → Int32} {q : Nat → Int64} {c : Nat → Nat → Int32} {l : Nat → Nat → Int64} {g' : Nat → Int32} {q' : Nat → Int64} {c' : Nat → Nat → Int32} {l' : Nat → Nat → Int64} {R : Option Value × List x_E} (hc : rr b e d 319 0 [(0, .ref 49)] [] (upd g 5 ((Int32.ofInt (0)))) q c l (none, rH e g' q' c' l')) (h : rr b e (d + 1) 317 34 [(0, .ref 49)] [] g' q' c' l' R) : rr b e (d + 1) 317 25 [(0, .ref 49)] [] g q c l R := by
  obtain ⟨f1, hc⟩ := hc
  obtain ⟨f2, h⟩ := h
  obtain ⟨f, hf1, hf2⟩ : ∃ f, f1 ≤ f ∧ f2 ≤ f := ⟨max f1 f2, Nat.le_max_left _ _, Nat.le_max_right _ _⟩
  have hc := nrun_fuel f1 f _ _ _ _ _ _ _ _ _ hf1 hc
  have h := nrun_fuel f2 f _ _ _ _ _ _ _ _ _ hf2 h
  refine ⟨f + 5, ?_⟩
  obtain ⟨y, cb, hj⟩ := mq_317
  rw [n_step (st' := [.ref 49]) (pc' := 26) (lv' := [(0, .ref 49)]) (hp' := rH e g q c l) (i := .aload_n 0) (len := 1) rfl hj rfl rfl rfl]
  rw [n_step (st' := [.int (Int32.ofInt (0)), .ref 49]) (pc' := 27) (lv' := [(0, .ref 49)]) (hp' := rH e g q c l) (i := .iconst 0) (len := 1) rfl hj rfl rfl rfl]
  rw [n_put (st' := []) (hp' := rH e (upd g 5 ((Int32.ofInt (0)))) q c l) rfl hj pf_5]
  rw [n_step (st' := [.ref 49]) (pc' := 31) (lv' := [(0, .ref 49)]) (hp' := rH e (upd g 5 ((Int32.ofInt (0)))) q c l) (i := .aload_n 0) (len := 1) rfl hj rfl rfl rfl]
  obtain ⟨y2, cb2, hj2⟩ := mq_319
  rw [n_call (f := f) (d := d) (ki := 0) (idx := 578) (j' := 319) (kd := 0) (M' := (y2, cb2, 1, none, 12, 0, 0, 0)) (avs := [.ref 49]) (r := []) (rv := none) (hp1 := rH e g' q' c' l') rfl hj rfl rfl rfl rfl (rq_n rfl rfl hj2 rfl rfl) rfl hc (Nat.le_of_ble_eq_true rfl)]
  exact h
set_option maxRecDepth 100000 in
set_option maxHeartbeats 4000000 in
theorem bk_317_34 {b : Bool} {d : Nat} {e : Nat → x_E} {g : Nat → Int32} {q : Nat → Int64} {c : Nat → Nat → Int32} {l : Nat → Nat → Int64} {g' : Nat → Int32} {q' : Nat → Int64} {c' : Nat → Nat → Int32} {l' : Nat → Nat → Int64} {R : Option Value × List x_E} (hz0 : ((Int32.ofInt (0))) = 0 ∨ ((Int32.ofInt (0))) = 1) (hc : rr b e d 320 0 [(0, .ref 49)] [] (upd g 23 ((Int32.ofInt (0)))) q c l (none, rH e g' q' c' l')) (h : rr b e (d + 1) 317 43 [(0, .ref 49)] [] g' q' c' l' R) : rr b e (d + 1) 317 34 [(0, .ref 49)] [] g q c l R := by
  obtain ⟨f1, hc⟩ := hc
  obtain ⟨f2, h⟩ := h
  obtain ⟨f, hf1, hf2⟩ : ∃ f, f1 ≤ f ∧ f2 ≤ f := ⟨max f1 f2, Nat.le_max_left _ _, Nat.le_max_right _ _⟩
  have hc := nrun_fuel f1 f _ _ _ _ _ _ _ _ _ hf1 hc
  have h := nrun_fuel f2 f _ _ _ _ _ _ _ _ _ hf2 h
  refine ⟨f + 5, ?_⟩
  obtain ⟨y, cb, hj⟩ := mq_317
  rw [n_step (st' := [.ref 49]) (pc' := 35) (lv' := [(0, .ref 49)]) (hp' := rH e g q c l) (i := .aload_n 0) (len := 1) rfl hj rfl rfl rfl]
  rw [n_step (st' := [.int (Int32.ofInt (0)), .ref 49]) (pc' := 36) (lv' := [(0, .ref 49)]) (hp' := rH e g q c l) (i := .iconst 0) (len := 1) rfl hj rfl rfl rfl]
  rw [n_put (st' := []) (hp' := rH e (upd g 23 ((Int32.ofInt (0)))) q c l) rfl hj (pf_23 hz0)]
  rw [n_step (st' := [.ref 49]) (pc' := 40) (lv' := [(0, .ref 49)]) (hp' := rH e (upd g 23 ((Int32.ofInt (0)))) q c l) (i := .aload_n 0) (len := 1) rfl hj rfl rfl rfl]
  obtain ⟨y2, cb2, hj2⟩ := mq_320
  rw [n_call (f := f) (d := d) (ki := 0) (idx := 581) (j' := 320) (kd := 0) (M' := (y2, cb2, 1, none, 12, 0, 0, 0)) (avs := [.ref 49]) (r := []) (rv := none) (hp1 := rH e g' q' c' l') rfl hj rfl rfl rfl rfl (rq_n rfl rfl hj2 rfl rfl) rfl hc (Nat.le_of_ble_eq_true rfl)]
  exact h
set_option maxRecDepth 100000 in
set_option maxHeartbeats 4000000 in
theorem bk_317_43 {b : Bool} {d : Nat} {e : Nat → x_E} {g : Nat → Int32} {q : Nat → Int64} {c : Nat → Nat → Int32} {l : Nat → Nat → Int64} {R : Option Value × List x_E} (h1 : xCn .ne ((g 19)) 0 = true → rr b e d 317 59 [(0, .ref 49)] [] g q c l R) (h2 : ¬ xCn .ne ((g 19)) 0 = true → rr b e d 317 50 [(0, .ref 49)] [] g q c l R) : rr b e d 317 43 [(0, .ref 49)] [] g q c l R := by
  have key : ∀ f, nrun xZ (xY (xfm b)) xDT (f + 3) d 317 43 [(0, .ref 49)] [] (rH e g q c l) 0 0 = nrun xZ (xY (xfm b)) xDT f d 317 (if xCn .ne ((g 19)) 0 = true then 59 else 50) [(0, .ref 49)] [] (rH e g q c l) 0 0 := by
    intro f
    obtain ⟨y, cb, hj⟩ := mq_317
    rw [n_step (st' := [.ref 49]) (pc' := 44) (lv' := [(0, .ref 49)]) (hp' := rH e g q c l) (i := .aload_n 0) (len := 1) rfl hj rfl rfl rfl]
    rw [n_get (st' := [.int (g 19)]) (pc' := 47) (lv' := [(0, .ref 49)]) (hp' := rH e g q c l) (i := .getfield 319) (len := 3) rfl hj rfl rfl rfl rfl]
    rw [n_step (st' := []) (pc' := (if xCn .ne ((g 19)) 0 = true then 59 else 50)) (lv' := [(0, .ref 49)]) (hp' := rH e g q c l) (i := .ifCond .ne 12) (len := 3) rfl hj rfl rfl rfl]
  by_cases hc : xCn .ne ((g 19)) 0 = true
  · obtain ⟨f, h⟩ := h1 hc
    refine ⟨f + 3, ?_⟩
    rw [key, if_pos hc]
    exact h
  · obtain ⟨f, h⟩ := h2 hc
    refine ⟨f + 3, ?_⟩
    rw [key, if_neg hc]
    exact h
set_option maxRecDepth 100000 in
set_option maxHeartbeats 4000000 in
theorem bk_317_50 {b : Bool} {d : Nat} {e : Nat → x_E} {g : Nat → Int32} {q : Nat → Int64} {c : Nat → Nat → Int32} {l : Nat → Nat → Int64} {g' : Nat → Int32} {q' : Nat → Int64} {c' : Nat → Nat → Int32} {l' : Nat → Nat → Int64} {R : Option Value × List x_E} (hz0 : ((Int32.ofInt (1))) = 0 ∨ ((Int32.ofInt (1))) = 1) (hc : rr b e d 320 0 [(0, .ref 49)] [] (upd g 23 ((Int32.ofInt (1)))) q c l (none, rH e g' q' c' l')) (h : rr b e (d + 1) 317 59 [(0, .ref 49)] [] g' q' c' l' R) : rr b e (d + 1) 317 50 [(0, .ref 49)] [] g q c l R := by
  obtain ⟨f1, hc⟩ := hc
  obtain ⟨f2, h⟩ := h
  obtain ⟨f, hf1, hf2⟩ : ∃ f, f1 ≤ f ∧ f2 ≤ f := ⟨max f1 f2, Nat.le_max_left _ _, Nat.le_max_right _ _⟩
  have hc := nrun_fuel f1 f _ _ _ _ _ _ _ _ _ hf1 hc
  have h := nrun_fuel f2 f _ _ _ _ _ _ _ _ _ hf2 h
  refine ⟨f + 5, ?_⟩
  obtain ⟨y, cb, hj⟩ := mq_317
  rw [n_step (st' := [.ref 49]) (pc' := 51) (lv' := [(0, .ref 49)]) (hp' := rH e g q c l) (i := .aload_n 0) (len := 1) rfl hj rfl rfl rfl]
  rw [n_step (st' := [.int (Int32.ofInt (1)), .ref 49]) (pc' := 52) (lv' := [(0, .ref 49)]) (hp' := rH e g q c l) (i := .iconst 1) (len := 1) rfl hj rfl rfl rfl]
  rw [n_put (st' := []) (hp' := rH e (upd g 23 ((Int32.ofInt (1)))) q c l) rfl hj (pf_23 hz0)]
  rw [n_step (st' := [.ref 49]) (pc' := 56) (lv' := [(0, .ref 49)]) (hp' := rH e (upd g 23 ((Int32.ofInt (1)))) q c l) (i := .aload_n 0) (len := 1) rfl hj rfl rfl rfl]
  obtain ⟨y2, cb2, hj2⟩ := mq_320
  rw [n_call (f := f) (d := d) (ki := 0) (idx := 581) (j' := 320) (kd := 0) (M' := (y2, cb2, 1, none, 12, 0, 0, 0)) (avs := [.ref 49]) (r := []) (rv := none) (hp1 := rH e g' q' c' l') rfl hj rfl rfl rfl rfl (rq_n rfl rfl hj2 rfl rfl) rfl hc (Nat.le_of_ble_eq_true rfl)]
  exact h
set_option maxRecDepth 100000 in
set_option maxHeartbeats 4000000 in
theorem bk_317_59 {b : Bool} {d : Nat} {e : Nat → x_E} {g : Nat → Int32} {q : Nat → Int64} {c : Nat → Nat → Int32} {l : Nat → Nat → Int64} {g' : Nat → Int32} {q' : Nat → Int64} {c' : Nat → Nat → Int32} {l' : Nat → Nat → Int64} {v : Int32} {R : Option Value × List x_E} (hc : rr b e d 390 0 [(0, .ref 49)] [] g q c l (some (.int v), rH e g' q' c' l')) (h : rr b e (d + 1) 317 63 [(0, .ref 49)] [.int v] g' q' c' l' R) : rr b e (d + 1) 317 59 [(0, .ref 49)] [] g q c l R := by
  obtain ⟨f1, hc⟩ := hc
  obtain ⟨f2, h⟩ := h
  obtain ⟨f, hf1, hf2⟩ : ∃ f, f1 ≤ f ∧ f2 ≤ f := ⟨max f1 f2, Nat.le_max_left _ _, Nat.le_max_right _ _⟩
  have hc := nrun_fuel f1 f _ _ _ _ _ _ _ _ _ hf1 hc
  have h := nrun_fuel f2 f _ _ _ _ _ _ _ _ _ hf2 h
  refine ⟨f + 2, ?_⟩
  obtain ⟨y, cb, hj⟩ := mq_317
  rw [n_step (st' := [.ref 49]) (pc' := 60) (lv' := [(0, .ref 49)]) (hp' := rH e g q c l) (i := .aload_n 0) (len := 1) rfl hj rfl rfl rfl]
  obtain ⟨y2, cb2, hj2⟩ := mq_390
  rw [n_call (f := f) (d := d) (ki := 0) (idx := 584) (j' := 390) (kd := 0) (M' := (y2, cb2, 1, some .int, 12, 0, 0, 0)) (avs := [.ref 49]) (r := []) (rv := some (.int v)) (hp1 := rH e g' q' c' l') rfl hj rfl rfl rfl rfl (rq_n rfl rfl hj2 rfl rfl) rfl hc (Nat.le_of_ble_eq_true rfl)]
  exact h
set_option maxRecDepth 100000 in
set_option maxHeartbeats 4000000 in
theorem bk_317_63 {b : Bool} {d : Nat} {t0 : Int32} {e : Nat → x_E} {g : Nat → Int32} {q : Nat → Int64} {c : Nat → Nat → Int32} {l : Nat → Nat → Int64} {R : Option Value × List x_E} (h1 : xCn .eq t0 0 = true → rr b e d 317 71 [(0, .ref 49)] [] g q c l R) (h2 : ¬ xCn .eq t0 0 = true → rr b e d 317 66 [(0, .ref 49)] [] g q c l R) : rr b e d 317 63 [(0, .ref 49)] [.int t0] g q c l R := by
  have key : ∀ f, nrun xZ (xY (xfm b)) xDT (f + 1) d 317 63 [(0, .ref 49)] [.int t0] (rH e g q c l) 0 0 = nrun xZ (xY (xfm b)) xDT f d 317 (if xCn .eq t0 0 = true then 71 else 66) [(0, .ref 49)] [] (rH e g q c l) 0 0 := by
    intro f
    obtain ⟨y, cb, hj⟩ := mq_317
    rw [n_step (st' := []) (pc' := (if xCn .eq t0 0 = true then 71 else 66)) (lv' := [(0, .ref 49)]) (hp' := rH e g q c l) (i := .ifCond .eq 8) (len := 3) rfl hj rfl rfl rfl]
  by_cases hc : xCn .eq t0 0 = true
  · obtain ⟨f, h⟩ := h1 hc
    refine ⟨f + 1, ?_⟩
    rw [key, if_pos hc]
    exact h
  · obtain ⟨f, h⟩ := h2 hc
    refine ⟨f + 1, ?_⟩
    rw [key, if_neg hc]
    exact h
set_option maxRecDepth 100000 in
set_option maxHeartbeats 4000000 in
theorem bk_317_66 {b : Bool} {d : Nat} {e : Nat → x_E} {g : Nat → Int32} {q : Nat → Int64} {c : Nat → Nat → Int32} {l : Nat → Nat → Int64} : rr b e d 317 66 [(0, .ref 49)] [] g q c l (some (.int (g 19)), rH e g q c l) := by
  refine ⟨0 + 3, ?_⟩
  obtain ⟨y, cb, hj⟩ := mq_317
  rw [n_step (st' := [.ref 49]) (pc' := 67) (lv' := [(0, .ref 49)]) (hp' := rH e g q c l) (i := .aload_n 0) (len := 1) rfl hj rfl rfl rfl]
  rw [n_get (st' := [.int (g 19)]) (pc' := 70) (lv' := [(0, .ref 49)]) (hp' := rH e g q c l) (i := .getfield 319) (len := 3) rfl hj rfl rfl rfl rfl]
  exact n_ret rfl hj rfl rfl (x_ret rfl)
set_option maxRecDepth 100000 in
set_option maxHeartbeats 4000000 in
theorem bk_317_71 {b : Bool} {d : Nat} {e : Nat → x_E} {g : Nat → Int32} {q : Nat → Int64} {c : Nat → Nat → Int32} {l : Nat → Nat → Int64} : rr b e d 317 71 [(0, .ref 49)] [] g q c l (some (.int (Int32.ofInt (0))), rH e (upd g 5 ((Int32.ofInt (1)))) q c l) := by
  refine ⟨0 + 5, ?_⟩
  obtain ⟨y, cb, hj⟩ := mq_317
  rw [n_step (st' := [.ref 49]) (pc' := 72) (lv' := [(0, .ref 49)]) (hp' := rH e g q c l) (i := .aload_n 0) (len := 1) rfl hj rfl rfl rfl]
  rw [n_step (st' := [.int (Int32.ofInt (1)), .ref 49]) (pc' := 73) (lv' := [(0, .ref 49)]) (hp' := rH e g q c l) (i := .iconst 1) (len := 1) rfl hj rfl rfl rfl]
  rw [n_put (st' := []) (hp' := rH e (upd g 5 ((Int32.ofInt (1)))) q c l) rfl hj pf_5]
  rw [n_step (st' := [.int (Int32.ofInt (0))]) (pc' := 77) (lv' := [(0, .ref 49)]) (hp' := rH e (upd g 5 ((Int32.ofInt (1)))) q c l) (i := .iconst 0) (len := 1) rfl hj rfl rfl rfl]
  exact n_ret rfl hj rfl rfl (x_ret rfl)
set_option maxRecDepth 100000 in
set_option maxHeartbeats 4000000 in
theorem bk_318_0 {b : Bool} {d : Nat} {x1 x2 : Int32} {e : Nat → x_E} {g : Nat → Int32} {q : Nat → Int64} {c : Nat → Nat → Int32} {l : Nat → Nat → Int64} {R : Option Value × List x_E} (hz0 : x1 = 0 ∨ x1 = 1) (h : rr b e d 318 12 [(0, .ref 49), (2, .int x2), (3, .int (Int32.ofInt (0)))] [] (upd (upd g 9 x1) 3 x2) q c l R) : rr b e d 318 0 [(0, .ref 49), (1, .int x1), (2, .int x2)] [] g q c l R := by
  obtain ⟨f, h⟩ := h
  refine ⟨f + 8, ?_⟩
  obtain ⟨y, cb, hj⟩ := mq_318
  rw [n_step (st' := [.ref 49]) (pc' := 1) (lv' := [(0, .ref 49), (1, .int x1), (2, .int x2)]) (hp' := rH e g q c l) (i := .aload_n 0) (len := 1) rfl hj rfl rfl rfl]
  rw [n_step (st' := [.int x1, .ref 49]) (pc' := 2) (lv' := [(0, .ref 49), (1, .int x1), (2, .int x2)]) (hp' := rH e g q c l) (i := .iload_n 1) (len := 1) rfl hj rfl rfl rfl]
  rw [n_put (st' := []) (hp' := rH e (upd g 9 x1) q c l) rfl hj (pf_9 hz0)]
  rw [n_step (st' := [.ref 49]) (pc' := 6) (lv' := [(0, .ref 49), (1, .int x1), (2, .int x2)]) (hp' := rH e (upd g 9 x1) q c l) (i := .aload_n 0) (len := 1) rfl hj rfl rfl rfl]
  rw [n_step (st' := [.int x2, .ref 49]) (pc' := 7) (lv' := [(0, .ref 49), (1, .int x1), (2, .int x2)]) (hp' := rH e (upd g 9 x1) q c l) (i := .iload_n 2) (len := 1) rfl hj rfl rfl rfl]
  rw [n_put (st' := []) (hp' := rH e (upd (upd g 9 x1) 3 x2) q c l) rfl hj pf_3]
  rw [n_step (st' := [.int (Int32.ofInt (0))]) (pc' := 11) (lv' := [(0, .ref 49), (1, .int x1), (2, .int x2)]) (hp' := rH e (upd (upd g 9 x1) 3 x2) q c l) (i := .iconst 0) (len := 1) rfl hj rfl rfl rfl]
  rw [n_step (st' := []) (pc' := 12) (lv' := [(3, .int (Int32.ofInt (0))), (0, .ref 49), (1, .int x1), (2, .int x2)]) (hp' := rH e (upd (upd g 9 x1) 3 x2) q c l) (i := .istore_n 3) (len := 1) rfl hj rfl rfl rfl]
  exact nrun_ext f f _ _ R 318 12 [(0, .ref 49), (2, .int x2), (3, .int (Int32.ofInt (0)))] [(3, .int (Int32.ofInt (0))), (0, .ref 49), (1, .int x1), (2, .int x2)] [] _ 0 0 122 (Nat.le_refl _) (Nat.le_refl _) (Nat.le_of_ble_eq_true rfl) (lvR_mk [0, 2, 3] [3, 0, 1, 2] rfl rfl (by decide) (by decide) (List.forall_mem_cons.mpr ⟨(List.mem_cons_of_mem _ List.mem_cons_self), (List.forall_mem_cons.mpr ⟨(List.mem_cons_of_mem _ (List.mem_cons_of_mem _ (List.mem_cons_of_mem _ List.mem_cons_self))), (List.forall_mem_cons.mpr ⟨List.mem_cons_self, (fun _ h => nomatch h)⟩)⟩)⟩) (List.forall_mem_cons.mpr ⟨Or.inl (List.mem_cons_of_mem _ (List.mem_cons_of_mem _ List.mem_cons_self)), (List.forall_mem_cons.mpr ⟨Or.inl List.mem_cons_self, (List.forall_mem_cons.mpr ⟨Or.inr rfl, (List.forall_mem_cons.mpr ⟨Or.inl (List.mem_cons_of_mem _ List.mem_cons_self), (fun _ h => nomatch h)⟩)⟩)⟩)⟩)) h
set_option maxRecDepth 100000 in
set_option maxHeartbeats 4000000 in
theorem bk_318_12 {b : Bool} {d : Nat} {x2 x3 : Int32} {e : Nat → x_E} {g : Nat → Int32} {q : Nat → Int64} {c : Nat → Nat → Int32} {l : Nat → Nat → Int64} {R : Option Value × List x_E} (h1 : xCn .ge x3 x2 = true → rr b e d 318 35 [(0, .ref 49)] [] g q c l R) (h2 : ¬ xCn .ge x3 x2 = true → rr b e d 318 17 [(0, .ref 49), (2, .int x2), (3, .int x3)] [] g q c l R) : rr b e d 318 12 [(0, .ref 49), (2, .int x2), (3, .int x3)] [] g q c l R := by
  have key : ∀ f, nrun xZ (xY (xfm b)) xDT (f + 3) d 318 12 [(0, .ref 49), (2, .int x2), (3, .int x3)] [] (rH e g q c l) 0 0 = nrun xZ (xY (xfm b)) xDT f d 318 (if xCn .ge x3 x2 = true then 35 else 17) [(0, .ref 49), (2, .int x2), (3, .int x3)] [] (rH e g q c l) 0 0 := by
    intro f
    obtain ⟨y, cb, hj⟩ := mq_318
    rw [n_step (st' := [.int x3]) (pc' := 13) (lv' := [(0, .ref 49), (2, .int x2), (3, .int x3)]) (hp' := rH e g q c l) (i := .iload_n 3) (len := 1) rfl hj rfl rfl rfl]
    rw [n_step (st' := [.int x2, .int x3]) (pc' := 14) (lv' := [(0, .ref 49), (2, .int x2), (3, .int x3)]) (hp' := rH e g q c l) (i := .iload_n 2) (len := 1) rfl hj rfl rfl rfl]
    rw [n_step (st' := []) (pc' := (if xCn .ge x3 x2 = true then 35 else 17)) (lv' := [(0, .ref 49), (2, .int x2), (3, .int x3)]) (hp' := rH e g q c l) (i := .if_icmp .ge 21) (len := 3) rfl hj rfl rfl rfl]
  by_cases hc : xCn .ge x3 x2 = true
  · obtain ⟨f, h⟩ := h1 hc
    refine ⟨f + 3, ?_⟩
    rw [key, if_pos hc]
    exact nrun_ext f f _ _ R 318 35 [(0, .ref 49)] [(0, .ref 49), (2, .int x2), (3, .int x3)] [] _ 0 0 122 (Nat.le_refl _) (Nat.le_refl _) (Nat.le_of_ble_eq_true rfl) (lvR_mk [0] [0, 2, 3] rfl rfl (by decide) (by decide) (List.forall_mem_cons.mpr ⟨List.mem_cons_self, (fun _ h => nomatch h)⟩) (List.forall_mem_cons.mpr ⟨Or.inl List.mem_cons_self, (List.forall_mem_cons.mpr ⟨Or.inr rfl, (List.forall_mem_cons.mpr ⟨Or.inr rfl, (fun _ h => nomatch h)⟩)⟩)⟩)) h
  · obtain ⟨f, h⟩ := h2 hc
    refine ⟨f + 3, ?_⟩
    rw [key, if_neg hc]
    exact h
set_option maxRecDepth 100000 in
set_option maxHeartbeats 4000000 in
theorem bk_318_17 {b : Bool} {d : Nat} {x2 x3 : Int32} {e : Nat → x_E} {g : Nat → Int32} {q : Nat → Int64} {c : Nat → Nat → Int32} {l : Nat → Nat → Int64} {R : Option Value × List x_E} (hz0 : ¬ (x3 < 0 ∨ 6000 ≤ (x3).toNatClampNeg)) (hz1 : ¬ (x3 < 0 ∨ 6000 ≤ (x3).toNatClampNeg)) (h : rr b e d 318 12 [(0, .ref 49), (2, .int x2), (3, .int (x3 + Int32.ofInt (1)))] [] g q (updA c 51 (upd (c 51) (x3).toNatClampNeg ((c 50 (x3).toNatClampNeg)))) l R) : rr b e d 318 17 [(0, .ref 49), (2, .int x2), (3, .int x3)] [] g q c l R := by
  obtain ⟨f, h⟩ := h
  refine ⟨f + 10, ?_⟩
  obtain ⟨y, cb, hj⟩ := mq_318
  rw [n_step (st' := [.ref 49]) (pc' := 18) (lv' := [(0, .ref 49), (2, .int x2), (3, .int x3)]) (hp' := rH e g q c l) (i := .aload_n 0) (len := 1) rfl hj rfl rfl rfl]
  rw [n_get (st' := [.ref 51]) (pc' := 21) (lv' := [(0, .ref 49), (2, .int x2), (3, .int x3)]) (hp' := rH e g q c l) (i := .getfield 13) (len := 3) rfl hj rfl rfl rfl rfl]
  rw [n_step (st' := [.int x3, .ref 51]) (pc' := 22) (lv' := [(0, .ref 49), (2, .int x2), (3, .int x3)]) (hp' := rH e g q c l) (i := .iload_n 3) (len := 1) rfl hj rfl rfl rfl]
  rw [n_step (st' := [.ref 49, .int x3, .ref 51]) (pc' := 23) (lv' := [(0, .ref 49), (2, .int x2), (3, .int x3)]) (hp' := rH e g q c l) (i := .aload_n 0) (len := 1) rfl hj rfl rfl rfl]
  rw [n_get (st' := [.ref 50, .int x3, .ref 51]) (pc' := 26) (lv' := [(0, .ref 49), (2, .int x2), (3, .int x3)]) (hp' := rH e g q c l) (i := .getfield 7) (len := 3) rfl hj rfl rfl rfl rfl]
  rw [n_step (st' := [.int x3, .ref 50, .int x3, .ref 51]) (pc' := 27) (lv' := [(0, .ref 49), (2, .int x2), (3, .int x3)]) (hp' := rH e g q c l) (i := .iload_n 3) (len := 1) rfl hj rfl rfl rfl]
  rw [n_ial (st' := [.int (c 50 (x3).toNatClampNeg), .int x3, .ref 51]) rfl hj (ald_50 hz0)]
  rw [n_ias (st' := []) (hp' := rH e g q (updA c 51 (upd (c 51) (x3).toNatClampNeg ((c 50 (x3).toNatClampNeg)))) l) rfl hj (ast_51 hz1)]
  rw [n_step (st' := []) (pc' := 32) (lv' := [(3, .int (x3 + Int32.ofInt (1))), (0, .ref 49), (2, .int x2)]) (hp' := rH e g q (updA c 51 (upd (c 51) (x3).toNatClampNeg ((c 50 (x3).toNatClampNeg)))) l) (i := .iinc 3 1) (len := 3) rfl hj rfl rfl rfl]
  rw [n_step (st' := []) (pc' := 12) (lv' := [(3, .int (x3 + Int32.ofInt (1))), (0, .ref 49), (2, .int x2)]) (hp' := rH e g q (updA c 51 (upd (c 51) (x3).toNatClampNeg ((c 50 (x3).toNatClampNeg)))) l) (i := .goto (-20)) (len := 3) rfl hj rfl rfl rfl]
  exact nrun_ext f f _ _ R 318 12 [(0, .ref 49), (2, .int x2), (3, .int (x3 + Int32.ofInt (1)))] [(3, .int (x3 + Int32.ofInt (1))), (0, .ref 49), (2, .int x2)] [] _ 0 0 122 (Nat.le_refl _) (Nat.le_refl _) (Nat.le_of_ble_eq_true rfl) (lvR_mk [0, 2, 3] [3, 0, 2] rfl rfl (by decide) (by decide) (List.forall_mem_cons.mpr ⟨(List.mem_cons_of_mem _ List.mem_cons_self), (List.forall_mem_cons.mpr ⟨(List.mem_cons_of_mem _ (List.mem_cons_of_mem _ List.mem_cons_self)), (List.forall_mem_cons.mpr ⟨List.mem_cons_self, (fun _ h => nomatch h)⟩)⟩)⟩) (List.forall_mem_cons.mpr ⟨Or.inl (List.mem_cons_of_mem _ (List.mem_cons_of_mem _ List.mem_cons_self)), (List.forall_mem_cons.mpr ⟨Or.inl List.mem_cons_self, (List.forall_mem_cons.mpr ⟨Or.inl (List.mem_cons_of_mem _ List.mem_cons_self), (fun _ h => nomatch h)⟩)⟩)⟩)) h
set_option maxRecDepth 100000 in
set_option maxHeartbeats 4000000 in
theorem bk_318_35 {b : Bool} {d : Nat} {e : Nat → x_E} {g : Nat → Int32} {q : Nat → Int64} {c : Nat → Nat → Int32} {l : Nat → Nat → Int64} : rr b e d 318 35 [(0, .ref 49)] [] g q c l (none, rH e (upd (upd g 19 ((Int32.ofInt (0)))) 21 ((Int32.ofInt (0)))) q c l) := by
  refine ⟨0 + 7, ?_⟩
  obtain ⟨y, cb, hj⟩ := mq_318
  rw [n_step (st' := [.ref 49]) (pc' := 36) (lv' := [(0, .ref 49)]) (hp' := rH e g q c l) (i := .aload_n 0) (len := 1) rfl hj rfl rfl rfl]
  rw [n_step (st' := [.int (Int32.ofInt (0)), .ref 49]) (pc' := 37) (lv' := [(0, .ref 49)]) (hp' := rH e g q c l) (i := .iconst 0) (len := 1) rfl hj rfl rfl rfl]
  rw [n_put (st' := []) (hp' := rH e (upd g 19 ((Int32.ofInt (0)))) q c l) rfl hj pf_19]
  rw [n_step (st' := [.ref 49]) (pc' := 41) (lv' := [(0, .ref 49)]) (hp' := rH e (upd g 19 ((Int32.ofInt (0)))) q c l) (i := .aload_n 0) (len := 1) rfl hj rfl rfl rfl]
  rw [n_step (st' := [.int (Int32.ofInt (0)), .ref 49]) (pc' := 42) (lv' := [(0, .ref 49)]) (hp' := rH e (upd g 19 ((Int32.ofInt (0)))) q c l) (i := .iconst 0) (len := 1) rfl hj rfl rfl rfl]
  rw [n_put (st' := []) (hp' := rH e (upd (upd g 19 ((Int32.ofInt (0)))) 21 ((Int32.ofInt (0)))) q c l) rfl hj pf_21]
  exact n_ret rfl hj rfl rfl rfl
set_option maxRecDepth 100000 in
set_option maxHeartbeats 4000000 in
theorem bk_319_0 {b : Bool} {d : Nat} {e : Nat → x_E} {g : Nat → Int32} {q : Nat → Int64} {c : Nat → Nat → Int32} {l : Nat → Nat → Int64} (hz0 : ((Int32.ofInt (0))) = 0 ∨ ((Int32.ofInt (0))) = 1) : rr b e d 319 0 [(0, .ref 49)] [] g q c l (none, rH e (upd (upd (upd (upd (upd (upd g 64 ((Int32.ofInt (0)))) 66 ((Int32.ofInt (0)))) 67 ((Int32.ofInt (0)))) 68 ((Int32.ofInt (0)))) 69 ((Int32.ofInt (0)))) 143 ((Int32.ofInt (0)))) q c l) := by
  refine ⟨0 + 19, ?_⟩
  obtain ⟨y, cb, hj⟩ := mq_319
  rw [n_step (st' := [.ref 49]) (pc' := 1) (lv' := [(0, .ref 49)]) (hp' := rH e g q c l) (i := .aload_n 0) (len := 1) rfl hj rfl rfl rfl]
  rw [n_step (st' := [.int (Int32.ofInt (0)), .ref 49]) (pc' := 2) (lv' := [(0, .ref 49)]) (hp' := rH e g q c l) (i := .iconst 0) (len := 1) rfl hj rfl rfl rfl]
  rw [n_put (st' := []) (hp' := rH e (upd g 64 ((Int32.ofInt (0)))) q c l) rfl hj pf_64]
  rw [n_step (st' := [.ref 49]) (pc' := 6) (lv' := [(0, .ref 49)]) (hp' := rH e (upd g 64 ((Int32.ofInt (0)))) q c l) (i := .aload_n 0) (len := 1) rfl hj rfl rfl rfl]
  rw [n_step (st' := [.int (Int32.ofInt (0)), .ref 49]) (pc' := 7) (lv' := [(0, .ref 49)]) (hp' := rH e (upd g 64 ((Int32.ofInt (0)))) q c l) (i := .iconst 0) (len := 1) rfl hj rfl rfl rfl]
  rw [n_put (st' := []) (hp' := rH e (upd (upd g 64 ((Int32.ofInt (0)))) 66 ((Int32.ofInt (0)))) q c l) rfl hj pf_66]
  rw [n_step (st' := [.ref 49]) (pc' := 11) (lv' := [(0, .ref 49)]) (hp' := rH e (upd (upd g 64 ((Int32.ofInt (0)))) 66 ((Int32.ofInt (0)))) q c l) (i := .aload_n 0) (len := 1) rfl hj rfl rfl rfl]
  rw [n_step (st' := [.int (Int32.ofInt (0)), .ref 49]) (pc' := 12) (lv' := [(0, .ref 49)]) (hp' := rH e (upd (upd g 64 ((Int32.ofInt (0)))) 66 ((Int32.ofInt (0)))) q c l) (i := .iconst 0) (len := 1) rfl hj rfl rfl rfl]
  rw [n_put (st' := []) (hp' := rH e (upd (upd (upd g 64 ((Int32.ofInt (0)))) 66 ((Int32.ofInt (0)))) 67 ((Int32.ofInt (0)))) q c l) rfl hj pf_67]
  rw [n_step (st' := [.ref 49]) (pc' := 16) (lv' := [(0, .ref 49)]) (hp' := rH e (upd (upd (upd g 64 ((Int32.ofInt (0)))) 66 ((Int32.ofInt (0)))) 67 ((Int32.ofInt (0)))) q c l) (i := .aload_n 0) (len := 1) rfl hj rfl rfl rfl]
  rw [n_step (st' := [.int (Int32.ofInt (0)), .ref 49]) (pc' := 17) (lv' := [(0, .ref 49)]) (hp' := rH e (upd (upd (upd g 64 ((Int32.ofInt (0)))) 66 ((Int32.ofInt (0)))) 67 ((Int32.ofInt (0)))) q c l) (i := .iconst 0) (len := 1) rfl hj rfl rfl rfl]
  rw [n_put (st' := []) (hp' := rH e (upd (upd (upd (upd g 64 ((Int32.ofInt (0)))) 66 ((Int32.ofInt (0)))) 67 ((Int32.ofInt (0)))) 68 ((Int32.ofInt (0)))) q c l) rfl hj pf_68]
  rw [n_step (st' := [.ref 49]) (pc' := 21) (lv' := [(0, .ref 49)]) (hp' := rH e (upd (upd (upd (upd g 64 ((Int32.ofInt (0)))) 66 ((Int32.ofInt (0)))) 67 ((Int32.ofInt (0)))) 68 ((Int32.ofInt (0)))) q c l) (i := .aload_n 0) (len := 1) rfl hj rfl rfl rfl]
  rw [n_step (st' := [.int (Int32.ofInt (0)), .ref 49]) (pc' := 22) (lv' := [(0, .ref 49)]) (hp' := rH e (upd (upd (upd (upd g 64 ((Int32.ofInt (0)))) 66 ((Int32.ofInt (0)))) 67 ((Int32.ofInt (0)))) 68 ((Int32.ofInt (0)))) q c l) (i := .iconst 0) (len := 1) rfl hj rfl rfl rfl]
  rw [n_put (st' := []) (hp' := rH e (upd (upd (upd (upd (upd g 64 ((Int32.ofInt (0)))) 66 ((Int32.ofInt (0)))) 67 ((Int32.ofInt (0)))) 68 ((Int32.ofInt (0)))) 69 ((Int32.ofInt (0)))) q c l) rfl hj pf_69]
  rw [n_step (st' := [.ref 49]) (pc' := 26) (lv' := [(0, .ref 49)]) (hp' := rH e (upd (upd (upd (upd (upd g 64 ((Int32.ofInt (0)))) 66 ((Int32.ofInt (0)))) 67 ((Int32.ofInt (0)))) 68 ((Int32.ofInt (0)))) 69 ((Int32.ofInt (0)))) q c l) (i := .aload_n 0) (len := 1) rfl hj rfl rfl rfl]
  rw [n_step (st' := [.int (Int32.ofInt (0)), .ref 49]) (pc' := 27) (lv' := [(0, .ref 49)]) (hp' := rH e (upd (upd (upd (upd (upd g 64 ((Int32.ofInt (0)))) 66 ((Int32.ofInt (0)))) 67 ((Int32.ofInt (0)))) 68 ((Int32.ofInt (0)))) 69 ((Int32.ofInt (0)))) q c l) (i := .iconst 0) (len := 1) rfl hj rfl rfl rfl]
  rw [n_put (st' := []) (hp' := rH e (upd (upd (upd (upd (upd (upd g 64 ((Int32.ofInt (0)))) 66 ((Int32.ofInt (0)))) 67 ((Int32.ofInt (0)))) 68 ((Int32.ofInt (0)))) 69 ((Int32.ofInt (0)))) 143 ((Int32.ofInt (0)))) q c l) rfl hj (pf_143 hz0)]
  exact n_ret rfl hj rfl rfl rfl
set_option maxRecDepth 100000 in
set_option maxHeartbeats 4000000 in
theorem bk_320_0 {b : Bool} {d : Nat} {e : Nat → x_E} {g : Nat → Int32} {q : Nat → Int64} {c : Nat → Nat → Int32} {l : Nat → Nat → Int64} {g' : Nat → Int32} {q' : Nat → Int64} {c' : Nat → Nat → Int32} {l' : Nat → Nat → Int64} {R : Option Value × List x_E} (hc : rr b e d 321 0 [(0, .ref 49)] [] (upd g 18 ((Int16.ofInt (400)).toInt32)) q c l (none, rH e g' q' c' l')) (h : rr b e (d + 1) 320 11 [(0, .ref 49)] [] g' q' c' l' R) : rr b e (d + 1) 320 0 [(0, .ref 49)] [] g q c l R := by
  obtain ⟨f1, hc⟩ := hc
  obtain ⟨f2, h⟩ := h
  obtain ⟨f, hf1, hf2⟩ : ∃ f, f1 ≤ f ∧ f2 ≤ f := ⟨max f1 f2, Nat.le_max_left _ _, Nat.le_max_right _ _⟩
  have hc := nrun_fuel f1 f _ _ _ _ _ _ _ _ _ hf1 hc
  have h := nrun_fuel f2 f _ _ _ _ _ _ _ _ _ hf2 h
  refine ⟨f + 5, ?_⟩
  obtain ⟨y, cb, hj⟩ := mq_320
  rw [n_step (st' := [.ref 49]) (pc' := 1) (lv' := [(0, .ref 49)]) (hp' := rH e g q c l) (i := .aload_n 0) (len := 1) rfl hj rfl rfl rfl]
  rw [n_step (st' := [.int (Int16.ofInt (400)).toInt32, .ref 49]) (pc' := 4) (lv' := [(0, .ref 49)]) (hp' := rH e g q c l) (i := .sipush 400) (len := 3) rfl hj rfl rfl rfl]
  rw [n_put (st' := []) (hp' := rH e (upd g 18 ((Int16.ofInt (400)).toInt32)) q c l) rfl hj pf_18]
  rw [n_step (st' := [.ref 49]) (pc' := 8) (lv' := [(0, .ref 49)]) (hp' := rH e (upd g 18 ((Int16.ofInt (400)).toInt32)) q c l) (i := .aload_n 0) (len := 1) rfl hj rfl rfl rfl]
  obtain ⟨y2, cb2, hj2⟩ := mq_321
  rw [n_call (f := f) (d := d) (ki := 0) (idx := 587) (j' := 321) (kd := 0) (M' := (y2, cb2, 1, none, 12, 0, 0, 0)) (avs := [.ref 49]) (r := []) (rv := none) (hp1 := rH e g' q' c' l') rfl hj rfl rfl rfl rfl (rq_n rfl rfl hj2 rfl rfl) rfl hc (Nat.le_of_ble_eq_true rfl)]
  exact h
set_option maxRecDepth 100000 in
set_option maxHeartbeats 4000000 in
theorem bk_320_11 {b : Bool} {d : Nat} {e : Nat → x_E} {g : Nat → Int32} {q : Nat → Int64} {c : Nat → Nat → Int32} {l : Nat → Nat → Int64} {g' : Nat → Int32} {q' : Nat → Int64} {c' : Nat → Nat → Int32} {l' : Nat → Nat → Int64} {v : Int32} {R : Option Value × List x_E} (hz0 : ¬ ((Int32.ofInt (0)) < 0 ∨ 900 ≤ ((Int32.ofInt (0))).toNatClampNeg)) (hz1 : ¬ ((Int32.ofInt (0)) < 0 ∨ 900 ≤ ((Int32.ofInt (0))).toNatClampNeg)) (hc : rr b e d 333 0 [(0, .ref 49)] [] (upd (upd (upd (upd (upd (upd (upd (upd (upd (upd g 31 ((Int32.ofInt (0)))) 30 ((Int32.ofInt (0)))) 40 ((Int32.ofInt (0)))) 36 ((Int32.ofInt (0)))) 41 ((Int32.ofInt (0)))) 56 ((Int32.ofInt (0)))) 61 ((Int32.ofInt (0)))) 43 ((Int32.ofInt (0)))) 49 ((Int32.ofInt (1)))) 55 ((Int32.ofInt (0)))) q (updA (updA c 67 (upd (c 67) ((Int32.ofInt (0))).toNatClampNeg ((Int32.ofInt (0))))) 68 (upd ((updA c 67 (upd (c 67) ((Int32.ofInt (0))).toNatClampNeg ((Int32.ofInt (0))))) 68) ((Int32.ofInt (0))).toNatClampNeg ((Int32.ofInt (0))))) l (some (.int v), rH e g' q' c' l')) (h : rr b e (d + 1) 320 80 [(0, .ref 49)] [.int v, .ref 49] g' q' c' l' R) : rr b e (d + 1) 320 11 [(0, .ref 49)] [] g q c l R := by
  obtain ⟨f1, hc⟩ := hc
  obtain ⟨f2, h⟩ := h
  obtain ⟨f, hf1, hf2⟩ : ∃ f, f1 ≤ f ∧ f2 ≤ f := ⟨max f1 f2, Nat.le_max_left _ _, Nat.le_max_right _ _⟩
  have hc := nrun_fuel f1 f _ _ _ _ _ _ _ _ _ hf1 hc
  have h := nrun_fuel f2 f _ _ _ _ _ _ _ _ _ hf2 h
  refine ⟨f + 43, ?_⟩
  obtain ⟨y, cb, hj⟩ := mq_320
  rw [n_step (st' := [.ref 49]) (pc' := 12) (lv' := [(0, .ref 49)]) (hp' := rH e g q c l) (i := .aload_n 0) (len := 1) rfl hj rfl rfl rfl]
  rw [n_step (st' := [.int (Int32.ofInt (0)), .ref 49]) (pc' := 13) (lv' := [(0, .ref 49)]) (hp' := rH e g q c l) (i := .iconst 0) (len := 1) rfl hj rfl rfl rfl]
  rw [n_put (st' := []) (hp' := rH e (upd g 31 ((Int32.ofInt (0)))) q c l) rfl hj pf_31]
  rw [n_step (st' := [.ref 49]) (pc' := 17) (lv' := [(0, .ref 49)]) (hp' := rH e (upd g 31 ((Int32.ofInt (0)))) q c l) (i := .aload_n 0) (len := 1) rfl hj rfl rfl rfl]
  rw [n_step (st' := [.int (Int32.ofInt (0)), .ref 49]) (pc' := 18) (lv' := [(0, .ref 49)]) (hp' := rH e (upd g 31 ((Int32.ofInt (0)))) q c l) (i := .iconst 0) (len := 1) rfl hj rfl rfl rfl]
  rw [n_put (st' := []) (hp' := rH e (upd (upd g 31 ((Int32.ofInt (0)))) 30 ((Int32.ofInt (0)))) q c l) rfl hj pf_30]
  rw [n_step (st' := [.ref 49]) (pc' := 22) (lv' := [(0, .ref 49)]) (hp' := rH e (upd (upd g 31 ((Int32.ofInt (0)))) 30 ((Int32.ofInt (0)))) q c l) (i := .aload_n 0) (len := 1) rfl hj rfl rfl rfl]
  rw [n_step (st' := [.int (Int32.ofInt (0)), .ref 49]) (pc' := 23) (lv' := [(0, .ref 49)]) (hp' := rH e (upd (upd g 31 ((Int32.ofInt (0)))) 30 ((Int32.ofInt (0)))) q c l) (i := .iconst 0) (len := 1) rfl hj rfl rfl rfl]
  rw [n_put (st' := []) (hp' := rH e (upd (upd (upd g 31 ((Int32.ofInt (0)))) 30 ((Int32.ofInt (0)))) 40 ((Int32.ofInt (0)))) q c l) rfl hj pf_40]
  rw [n_step (st' := [.ref 49]) (pc' := 27) (lv' := [(0, .ref 49)]) (hp' := rH e (upd (upd (upd g 31 ((Int32.ofInt (0)))) 30 ((Int32.ofInt (0)))) 40 ((Int32.ofInt (0)))) q c l) (i := .aload_n 0) (len := 1) rfl hj rfl rfl rfl]
  rw [n_step (st' := [.int (Int32.ofInt (0)), .ref 49]) (pc' := 28) (lv' := [(0, .ref 49)]) (hp' := rH e (upd (upd (upd g 31 ((Int32.ofInt (0)))) 30 ((Int32.ofInt (0)))) 40 ((Int32.ofInt (0)))) q c l) (i := .iconst 0) (len := 1) rfl hj rfl rfl rfl]
  rw [n_put (st' := []) (hp' := rH e (upd (upd (upd (upd g 31 ((Int32.ofInt (0)))) 30 ((Int32.ofInt (0)))) 40 ((Int32.ofInt (0)))) 36 ((Int32.ofInt (0)))) q c l) rfl hj pf_36]
  rw [n_step (st' := [.ref 49]) (pc' := 32) (lv' := [(0, .ref 49)]) (hp' := rH e (upd (upd (upd (upd g 31 ((Int32.ofInt (0)))) 30 ((Int32.ofInt (0)))) 40 ((Int32.ofInt (0)))) 36 ((Int32.ofInt (0)))) q c l) (i := .aload_n 0) (len := 1) rfl hj rfl rfl rfl]
  rw [n_step (st' := [.int (Int32.ofInt (0)), .ref 49]) (pc' := 33) (lv' := [(0, .ref 49)]) (hp' := rH e (upd (upd (upd (upd g 31 ((Int32.ofInt (0)))) 30 ((Int32.ofInt (0)))) 40 ((Int32.ofInt (0)))) 36 ((Int32.ofInt (0)))) q c l) (i := .iconst 0) (len := 1) rfl hj rfl rfl rfl]
  rw [n_put (st' := []) (hp' := rH e (upd (upd (upd (upd (upd g 31 ((Int32.ofInt (0)))) 30 ((Int32.ofInt (0)))) 40 ((Int32.ofInt (0)))) 36 ((Int32.ofInt (0)))) 41 ((Int32.ofInt (0)))) q c l) rfl hj pf_41]
  rw [n_step (st' := [.ref 49]) (pc' := 37) (lv' := [(0, .ref 49)]) (hp' := rH e (upd (upd (upd (upd (upd g 31 ((Int32.ofInt (0)))) 30 ((Int32.ofInt (0)))) 40 ((Int32.ofInt (0)))) 36 ((Int32.ofInt (0)))) 41 ((Int32.ofInt (0)))) q c l) (i := .aload_n 0) (len := 1) rfl hj rfl rfl rfl]
  rw [n_step (st' := [.int (Int32.ofInt (0)), .ref 49]) (pc' := 38) (lv' := [(0, .ref 49)]) (hp' := rH e (upd (upd (upd (upd (upd g 31 ((Int32.ofInt (0)))) 30 ((Int32.ofInt (0)))) 40 ((Int32.ofInt (0)))) 36 ((Int32.ofInt (0)))) 41 ((Int32.ofInt (0)))) q c l) (i := .iconst 0) (len := 1) rfl hj rfl rfl rfl]
  rw [n_put (st' := []) (hp' := rH e (upd (upd (upd (upd (upd (upd g 31 ((Int32.ofInt (0)))) 30 ((Int32.ofInt (0)))) 40 ((Int32.ofInt (0)))) 36 ((Int32.ofInt (0)))) 41 ((Int32.ofInt (0)))) 56 ((Int32.ofInt (0)))) q c l) rfl hj pf_56]
  rw [n_step (st' := [.ref 49]) (pc' := 42) (lv' := [(0, .ref 49)]) (hp' := rH e (upd (upd (upd (upd (upd (upd g 31 ((Int32.ofInt (0)))) 30 ((Int32.ofInt (0)))) 40 ((Int32.ofInt (0)))) 36 ((Int32.ofInt (0)))) 41 ((Int32.ofInt (0)))) 56 ((Int32.ofInt (0)))) q c l) (i := .aload_n 0) (len := 1) rfl hj rfl rfl rfl]
  rw [n_step (st' := [.int (Int32.ofInt (0)), .ref 49]) (pc' := 43) (lv' := [(0, .ref 49)]) (hp' := rH e (upd (upd (upd (upd (upd (upd g 31 ((Int32.ofInt (0)))) 30 ((Int32.ofInt (0)))) 40 ((Int32.ofInt (0)))) 36 ((Int32.ofInt (0)))) 41 ((Int32.ofInt (0)))) 56 ((Int32.ofInt (0)))) q c l) (i := .iconst 0) (len := 1) rfl hj rfl rfl rfl]
  rw [n_put (st' := []) (hp' := rH e (upd (upd (upd (upd (upd (upd (upd g 31 ((Int32.ofInt (0)))) 30 ((Int32.ofInt (0)))) 40 ((Int32.ofInt (0)))) 36 ((Int32.ofInt (0)))) 41 ((Int32.ofInt (0)))) 56 ((Int32.ofInt (0)))) 61 ((Int32.ofInt (0)))) q c l) rfl hj pf_61]
  rw [n_step (st' := [.ref 49]) (pc' := 47) (lv' := [(0, .ref 49)]) (hp' := rH e (upd (upd (upd (upd (upd (upd (upd g 31 ((Int32.ofInt (0)))) 30 ((Int32.ofInt (0)))) 40 ((Int32.ofInt (0)))) 36 ((Int32.ofInt (0)))) 41 ((Int32.ofInt (0)))) 56 ((Int32.ofInt (0)))) 61 ((Int32.ofInt (0)))) q c l) (i := .aload_n 0) (len := 1) rfl hj rfl rfl rfl]
  rw [n_step (st' := [.int (Int32.ofInt (0)), .ref 49]) (pc' := 48) (lv' := [(0, .ref 49)]) (hp' := rH e (upd (upd (upd (upd (upd (upd (upd g 31 ((Int32.ofInt (0)))) 30 ((Int32.ofInt (0)))) 40 ((Int32.ofInt (0)))) 36 ((Int32.ofInt (0)))) 41 ((Int32.ofInt (0)))) 56 ((Int32.ofInt (0)))) 61 ((Int32.ofInt (0)))) q c l) (i := .iconst 0) (len := 1) rfl hj rfl rfl rfl]
  rw [n_put (st' := []) (hp' := rH e (upd (upd (upd (upd (upd (upd (upd (upd g 31 ((Int32.ofInt (0)))) 30 ((Int32.ofInt (0)))) 40 ((Int32.ofInt (0)))) 36 ((Int32.ofInt (0)))) 41 ((Int32.ofInt (0)))) 56 ((Int32.ofInt (0)))) 61 ((Int32.ofInt (0)))) 43 ((Int32.ofInt (0)))) q c l) rfl hj pf_43]
  rw [n_step (st' := [.ref 49]) (pc' := 52) (lv' := [(0, .ref 49)]) (hp' := rH e (upd (upd (upd (upd (upd (upd (upd (upd g 31 ((Int32.ofInt (0)))) 30 ((Int32.ofInt (0)))) 40 ((Int32.ofInt (0)))) 36 ((Int32.ofInt (0)))) 41 ((Int32.ofInt (0)))) 56 ((Int32.ofInt (0)))) 61 ((Int32.ofInt (0)))) 43 ((Int32.ofInt (0)))) q c l) (i := .aload_n 0) (len := 1) rfl hj rfl rfl rfl]
  rw [n_step (st' := [.int (Int32.ofInt (1)), .ref 49]) (pc' := 53) (lv' := [(0, .ref 49)]) (hp' := rH e (upd (upd (upd (upd (upd (upd (upd (upd g 31 ((Int32.ofInt (0)))) 30 ((Int32.ofInt (0)))) 40 ((Int32.ofInt (0)))) 36 ((Int32.ofInt (0)))) 41 ((Int32.ofInt (0)))) 56 ((Int32.ofInt (0)))) 61 ((Int32.ofInt (0)))) 43 ((Int32.ofInt (0)))) q c l) (i := .iconst 1) (len := 1) rfl hj rfl rfl rfl]
  rw [n_put (st' := []) (hp' := rH e (upd (upd (upd (upd (upd (upd (upd (upd (upd g 31 ((Int32.ofInt (0)))) 30 ((Int32.ofInt (0)))) 40 ((Int32.ofInt (0)))) 36 ((Int32.ofInt (0)))) 41 ((Int32.ofInt (0)))) 56 ((Int32.ofInt (0)))) 61 ((Int32.ofInt (0)))) 43 ((Int32.ofInt (0)))) 49 ((Int32.ofInt (1)))) q c l) rfl hj pf_49]
  rw [n_step (st' := [.ref 49]) (pc' := 57) (lv' := [(0, .ref 49)]) (hp' := rH e (upd (upd (upd (upd (upd (upd (upd (upd (upd g 31 ((Int32.ofInt (0)))) 30 ((Int32.ofInt (0)))) 40 ((Int32.ofInt (0)))) 36 ((Int32.ofInt (0)))) 41 ((Int32.ofInt (0)))) 56 ((Int32.ofInt (0)))) 61 ((Int32.ofInt (0)))) 43 ((Int32.ofInt (0)))) 49 ((Int32.ofInt (1)))) q c l) (i := .aload_n 0) (len := 1) rfl hj rfl rfl rfl]
  rw [n_step (st' := [.int (Int32.ofInt (0)), .ref 49]) (pc' := 58) (lv' := [(0, .ref 49)]) (hp' := rH e (upd (upd (upd (upd (upd (upd (upd (upd (upd g 31 ((Int32.ofInt (0)))) 30 ((Int32.ofInt (0)))) 40 ((Int32.ofInt (0)))) 36 ((Int32.ofInt (0)))) 41 ((Int32.ofInt (0)))) 56 ((Int32.ofInt (0)))) 61 ((Int32.ofInt (0)))) 43 ((Int32.ofInt (0)))) 49 ((Int32.ofInt (1)))) q c l) (i := .iconst 0) (len := 1) rfl hj rfl rfl rfl]
  rw [n_put (st' := []) (hp' := rH e (upd (upd (upd (upd (upd (upd (upd (upd (upd (upd g 31 ((Int32.ofInt (0)))) 30 ((Int32.ofInt (0)))) 40 ((Int32.ofInt (0)))) 36 ((Int32.ofInt (0)))) 41 ((Int32.ofInt (0)))) 56 ((Int32.ofInt (0)))) 61 ((Int32.ofInt (0)))) 43 ((Int32.ofInt (0)))) 49 ((Int32.ofInt (1)))) 55 ((Int32.ofInt (0)))) q c l) rfl hj pf_55]
  rw [n_step (st' := [.ref 49]) (pc' := 62) (lv' := [(0, .ref 49)]) (hp' := rH e (upd (upd (upd (upd (upd (upd (upd (upd (upd (upd g 31 ((Int32.ofInt (0)))) 30 ((Int32.ofInt (0)))) 40 ((Int32.ofInt (0)))) 36 ((Int32.ofInt (0)))) 41 ((Int32.ofInt (0)))) 56 ((Int32.ofInt (0)))) 61 ((Int32.ofInt (0)))) 43 ((Int32.ofInt (0)))) 49 ((Int32.ofInt (1)))) 55 ((Int32.ofInt (0)))) q c l) (i := .aload_n 0) (len := 1) rfl hj rfl rfl rfl]
  rw [n_get (st' := [.ref 67]) (pc' := 65) (lv' := [(0, .ref 49)]) (hp' := rH e (upd (upd (upd (upd (upd (upd (upd (upd (upd (upd g 31 ((Int32.ofInt (0)))) 30 ((Int32.ofInt (0)))) 40 ((Int32.ofInt (0)))) 36 ((Int32.ofInt (0)))) 41 ((Int32.ofInt (0)))) 56 ((Int32.ofInt (0)))) 61 ((Int32.ofInt (0)))) 43 ((Int32.ofInt (0)))) 49 ((Int32.ofInt (1)))) 55 ((Int32.ofInt (0)))) q c l) (i := .getfield 68) (len := 3) rfl hj rfl rfl rfl rfl]
  rw [n_step (st' := [.int (Int32.ofInt (0)), .ref 67]) (pc' := 66) (lv' := [(0, .ref 49)]) (hp' := rH e (upd (upd (upd (upd (upd (upd (upd (upd (upd (upd g 31 ((Int32.ofInt (0)))) 30 ((Int32.ofInt (0)))) 40 ((Int32.ofInt (0)))) 36 ((Int32.ofInt (0)))) 41 ((Int32.ofInt (0)))) 56 ((Int32.ofInt (0)))) 61 ((Int32.ofInt (0)))) 43 ((Int32.ofInt (0)))) 49 ((Int32.ofInt (1)))) 55 ((Int32.ofInt (0)))) q c l) (i := .iconst 0) (len := 1) rfl hj rfl rfl rfl]
  rw [n_step (st' := [.int (Int32.ofInt (0)), .int (Int32.ofInt (0)), .ref 67]) (pc' := 67) (lv' := [(0, .ref 49)]) (hp' := rH e (upd (upd (upd (upd (upd (upd (upd (upd (upd (upd g 31 ((Int32.ofInt (0)))) 30 ((Int32.ofInt (0)))) 40 ((Int32.ofInt (0)))) 36 ((Int32.ofInt (0)))) 41 ((Int32.ofInt (0)))) 56 ((Int32.ofInt (0)))) 61 ((Int32.ofInt (0)))) 43 ((Int32.ofInt (0)))) 49 ((Int32.ofInt (1)))) 55 ((Int32.ofInt (0)))) q c l) (i := .iconst 0) (len := 1) rfl hj rfl rfl rfl]
  rw [n_ias (st' := []) (hp' := rH e (upd (upd (upd (upd (upd (upd (upd (upd (upd (upd g 31 ((Int32.ofInt (0)))) 30 ((Int32.ofInt (0)))) 40 ((Int32.ofInt (0)))) 36 ((Int32.ofInt (0)))) 41 ((Int32.ofInt (0)))) 56 ((Int32.ofInt (0)))) 61 ((Int32.ofInt (0)))) 43 ((Int32.ofInt (0)))) 49 ((Int32.ofInt (1)))) 55 ((Int32.ofInt (0)))) q (updA c 67 (upd (c 67) ((Int32.ofInt (0))).toNatClampNeg ((Int32.ofInt (0))))) l) rfl hj (ast_67 hz0)]
  rw [n_step (st' := [.ref 49]) (pc' := 69) (lv' := [(0, .ref 49)]) (hp' := rH e (upd (upd (upd (upd (upd (upd (upd (upd (upd (upd g 31 ((Int32.ofInt (0)))) 30 ((Int32.ofInt (0)))) 40 ((Int32.ofInt (0)))) 36 ((Int32.ofInt (0)))) 41 ((Int32.ofInt (0)))) 56 ((Int32.ofInt (0)))) 61 ((Int32.ofInt (0)))) 43 ((Int32.ofInt (0)))) 49 ((Int32.ofInt (1)))) 55 ((Int32.ofInt (0)))) q (updA c 67 (upd (c 67) ((Int32.ofInt (0))).toNatClampNeg ((Int32.ofInt (0))))) l) (i := .aload_n 0) (len := 1) rfl hj rfl rfl rfl]
  rw [n_get (st' := [.ref 68]) (pc' := 72) (lv' := [(0, .ref 49)]) (hp' := rH e (upd (upd (upd (upd (upd (upd (upd (upd (upd (upd g 31 ((Int32.ofInt (0)))) 30 ((Int32.ofInt (0)))) 40 ((Int32.ofInt (0)))) 36 ((Int32.ofInt (0)))) 41 ((Int32.ofInt (0)))) 56 ((Int32.ofInt (0)))) 61 ((Int32.ofInt (0)))) 43 ((Int32.ofInt (0)))) 49 ((Int32.ofInt (1)))) 55 ((Int32.ofInt (0)))) q (updA c 67 (upd (c 67) ((Int32.ofInt (0))).toNatClampNeg ((Int32.ofInt (0))))) l) (i := .getfield 71) (len := 3) rfl hj rfl rfl rfl rfl]
  rw [n_step (st' := [.int (Int32.ofInt (0)), .ref 68]) (pc' := 73) (lv' := [(0, .ref 49)]) (hp' := rH e (upd (upd (upd (upd (upd (upd (upd (upd (upd (upd g 31 ((Int32.ofInt (0)))) 30 ((Int32.ofInt (0)))) 40 ((Int32.ofInt (0)))) 36 ((Int32.ofInt (0)))) 41 ((Int32.ofInt (0)))) 56 ((Int32.ofInt (0)))) 61 ((Int32.ofInt (0)))) 43 ((Int32.ofInt (0)))) 49 ((Int32.ofInt (1)))) 55 ((Int32.ofInt (0)))) q (updA c 67 (upd (c 67) ((Int32.ofInt (0))).toNatClampNeg ((Int32.ofInt (0))))) l) (i := .iconst 0) (len := 1) rfl hj rfl rfl rfl]
  rw [n_step (st' := [.int (Int32.ofInt (0)), .int (Int32.ofInt (0)), .ref 68]) (pc' := 74) (lv' := [(0, .ref 49)]) (hp' := rH e (upd (upd (upd (upd (upd (upd (upd (upd (upd (upd g 31 ((Int32.ofInt (0)))) 30 ((Int32.ofInt (0)))) 40 ((Int32.ofInt (0)))) 36 ((Int32.ofInt (0)))) 41 ((Int32.ofInt (0)))) 56 ((Int32.ofInt (0)))) 61 ((Int32.ofInt (0)))) 43 ((Int32.ofInt (0)))) 49 ((Int32.ofInt (1)))) 55 ((Int32.ofInt (0)))) q (updA c 67 (upd (c 67) ((Int32.ofInt (0))).toNatClampNeg ((Int32.ofInt (0))))) l) (i := .iconst 0) (len := 1) rfl hj rfl rfl rfl]
  rw [n_ias (st' := []) (hp' := rH e (upd (upd (upd (upd (upd (upd (upd (upd (upd (upd g 31 ((Int32.ofInt (0)))) 30 ((Int32.ofInt (0)))) 40 ((Int32.ofInt (0)))) 36 ((Int32.ofInt (0)))) 41 ((Int32.ofInt (0)))) 56 ((Int32.ofInt (0)))) 61 ((Int32.ofInt (0)))) 43 ((Int32.ofInt (0)))) 49 ((Int32.ofInt (1)))) 55 ((Int32.ofInt (0)))) q (updA (updA c 67 (upd (c 67) ((Int32.ofInt (0))).toNatClampNeg ((Int32.ofInt (0))))) 68 (upd ((updA c 67 (upd (c 67) ((Int32.ofInt (0))).toNatClampNeg ((Int32.ofInt (0))))) 68) ((Int32.ofInt (0))).toNatClampNeg ((Int32.ofInt (0))))) l) rfl hj (ast_68 hz1)]
  rw [n_step (st' := [.ref 49]) (pc' := 76) (lv' := [(0, .ref 49)]) (hp' := rH e (upd (upd (upd (upd (upd (upd (upd (upd (upd (upd g 31 ((Int32.ofInt (0)))) 30 ((Int32.ofInt (0)))) 40 ((Int32.ofInt (0)))) 36 ((Int32.ofInt (0)))) 41 ((Int32.ofInt (0)))) 56 ((Int32.ofInt (0)))) 61 ((Int32.ofInt (0)))) 43 ((Int32.ofInt (0)))) 49 ((Int32.ofInt (1)))) 55 ((Int32.ofInt (0)))) q (updA (updA c 67 (upd (c 67) ((Int32.ofInt (0))).toNatClampNeg ((Int32.ofInt (0))))) 68 (upd ((updA c 67 (upd (c 67) ((Int32.ofInt (0))).toNatClampNeg ((Int32.ofInt (0))))) 68) ((Int32.ofInt (0))).toNatClampNeg ((Int32.ofInt (0))))) l) (i := .aload_n 0) (len := 1) rfl hj rfl rfl rfl]
  rw [n_step (st' := [.ref 49, .ref 49]) (pc' := 77) (lv' := [(0, .ref 49)]) (hp' := rH e (upd (upd (upd (upd (upd (upd (upd (upd (upd (upd g 31 ((Int32.ofInt (0)))) 30 ((Int32.ofInt (0)))) 40 ((Int32.ofInt (0)))) 36 ((Int32.ofInt (0)))) 41 ((Int32.ofInt (0)))) 56 ((Int32.ofInt (0)))) 61 ((Int32.ofInt (0)))) 43 ((Int32.ofInt (0)))) 49 ((Int32.ofInt (1)))) 55 ((Int32.ofInt (0)))) q (updA (updA c 67 (upd (c 67) ((Int32.ofInt (0))).toNatClampNeg ((Int32.ofInt (0))))) 68 (upd ((updA c 67 (upd (c 67) ((Int32.ofInt (0))).toNatClampNeg ((Int32.ofInt (0))))) 68) ((Int32.ofInt (0))).toNatClampNeg ((Int32.ofInt (0))))) l) (i := .aload_n 0) (len := 1) rfl hj rfl rfl rfl]
  obtain ⟨y2, cb2, hj2⟩ := mq_333
  rw [n_call (f := f) (d := d) (ki := 0) (idx := 380) (j' := 333) (kd := 0) (M' := (y2, cb2, 1, some .int, 12, 0, 0, 0)) (avs := [.ref 49]) (r := [.ref 49]) (rv := some (.int v)) (hp1 := rH e g' q' c' l') rfl hj rfl rfl rfl rfl (rq_n rfl rfl hj2 rfl rfl) rfl hc (Nat.le_of_ble_eq_true rfl)]
  exact h
set_option maxRecDepth 100000 in
set_option maxHeartbeats 4000000 in
theorem bk_320_80 {b : Bool} {d : Nat} {t0 : Int32} {e : Nat → x_E} {g : Nat → Int32} {q : Nat → Int64} {c : Nat → Nat → Int32} {l : Nat → Nat → Int64} {g' : Nat → Int32} {q' : Nat → Int64} {c' : Nat → Nat → Int32} {l' : Nat → Nat → Int64} {R : Option Value × List x_E} (hc : rr b e d 334 0 [(0, .ref 49), (1, .int (Int32.ofInt (0)))] [] (upd g 34 t0) q c l (none, rH e g' q' c' l')) (h : rr b e (d + 1) 320 88 [(0, .ref 49)] [] g' q' c' l' R) : rr b e (d + 1) 320 80 [(0, .ref 49)] [.int t0, .ref 49] g q c l R := by
  obtain ⟨f1, hc⟩ := hc
  obtain ⟨f2, h⟩ := h
  obtain ⟨f, hf1, hf2⟩ : ∃ f, f1 ≤ f ∧ f2 ≤ f := ⟨max f1 f2, Nat.le_max_left _ _, Nat.le_max_right _ _⟩
  have hc := nrun_fuel f1 f _ _ _ _ _ _ _ _ _ hf1 hc
  have h := nrun_fuel f2 f _ _ _ _ _ _ _ _ _ hf2 h
  refine ⟨f + 4, ?_⟩
  obtain ⟨y, cb, hj⟩ := mq_320
  rw [n_put (st' := []) (hp' := rH e (upd g 34 t0) q c l) rfl hj pf_34]
  rw [n_step (st' := [.ref 49]) (pc' := 84) (lv' := [(0, .ref 49)]) (hp' := rH e (upd g 34 t0) q c l) (i := .aload_n 0) (len := 1) rfl hj rfl rfl rfl]
  rw [n_step (st' := [.int (Int32.ofInt (0)), .ref 49]) (pc' := 85) (lv' := [(0, .ref 49)]) (hp' := rH e (upd g 34 t0) q c l) (i := .iconst 0) (len := 1) rfl hj rfl rfl rfl]
  obtain ⟨y2, cb2, hj2⟩ := mq_334
  rw [n_call (f := f) (d := d) (ki := 0) (idx := 377) (j' := 334) (kd := 0) (M' := (y2, cb2, 2, none, 12, 1, 0, 0)) (avs := [.ref 49, .int (Int32.ofInt (0))]) (r := []) (rv := none) (hp1 := rH e g' q' c' l') rfl hj rfl rfl rfl rfl (rq_n rfl rfl hj2 rfl rfl) rfl hc (Nat.le_of_ble_eq_true rfl)]
  exact h
set_option maxRecDepth 100000 in
set_option maxHeartbeats 4000000 in
theorem bk_320_88 {b : Bool} {d : Nat} {e : Nat → x_E} {g : Nat → Int32} {q : Nat → Int64} {c : Nat → Nat → Int32} {l : Nat → Nat → Int64} {g' : Nat → Int32} {q' : Nat → Int64} {c' : Nat → Nat → Int32} {l' : Nat → Nat → Int64} {v : Int32} {R : Option Value × List x_E} (hc : rr b e d 335 0 [(0, .ref 49), (1, .int (g 34))] [] g q c l (some (.int v), rH e g' q' c' l')) (h : rr b e (d + 1) 320 96 [(0, .ref 49)] [.int v] g' q' c' l' R) : rr b e (d + 1) 320 88 [(0, .ref 49)] [] g q c l R := by
  obtain ⟨f1, hc⟩ := hc
  obtain ⟨f2, h⟩ := h
  obtain ⟨f, hf1, hf2⟩ : ∃ f, f1 ≤ f ∧ f2 ≤ f := ⟨max f1 f2, Nat.le_max_left _ _, Nat.le_max_right _ _⟩
  have hc := nrun_fuel f1 f _ _ _ _ _ _ _ _ _ hf1 hc
  have h := nrun_fuel f2 f _ _ _ _ _ _ _ _ _ hf2 h
  refine ⟨f + 4, ?_⟩
  obtain ⟨y, cb, hj⟩ := mq_320
  rw [n_step (st' := [.ref 49]) (pc' := 89) (lv' := [(0, .ref 49)]) (hp' := rH e g q c l) (i := .aload_n 0) (len := 1) rfl hj rfl rfl rfl]
  rw [n_step (st' := [.ref 49, .ref 49]) (pc' := 90) (lv' := [(0, .ref 49)]) (hp' := rH e g q c l) (i := .aload_n 0) (len := 1) rfl hj rfl rfl rfl]
  rw [n_get (st' := [.int (g 34), .ref 49]) (pc' := 93) (lv' := [(0, .ref 49)]) (hp' := rH e g q c l) (i := .getfield 508) (len := 3) rfl hj rfl rfl rfl rfl]
  obtain ⟨y2, cb2, hj2⟩ := mq_335
  rw [n_call (f := f) (d := d) (ki := 0) (idx := 384) (j' := 335) (kd := 0) (M' := (y2, cb2, 2, some .int, 12, 1, 0, 0)) (avs := [.ref 49, .int (g 34)]) (r := []) (rv := some (.int v)) (hp1 := rH e g' q' c' l') rfl hj rfl rfl rfl rfl (rq_n rfl rfl hj2 rfl rfl) rfl hc (Nat.le_of_ble_eq_true rfl)]
  exact h
set_option maxRecDepth 100000 in
set_option maxHeartbeats 4000000 in
theorem bk_320_96 {b : Bool} {d : Nat} {t0 : Int32} {e : Nat → x_E} {g : Nat → Int32} {q : Nat → Int64} {c : Nat → Nat → Int32} {l : Nat → Nat → Int64} {g' : Nat → Int32} {q' : Nat → Int64} {c' : Nat → Nat → Int32} {l' : Nat → Nat → Int64} {v : Int32} {R : Option Value × List x_E} (hc : rr b e d 336 0 [(0, .ref 49)] [] g q c l (some (.int v), rH e g' q' c' l')) (h : rr b e (d + 1) 320 102 [(0, .ref 49)] [.int v, .ref 49] g' q' c' l' R) : rr b e (d + 1) 320 96 [(0, .ref 49)] [.int t0] g q c l R := by
  obtain ⟨f1, hc⟩ := hc
  obtain ⟨f2, h⟩ := h
  obtain ⟨f, hf1, hf2⟩ : ∃ f, f1 ≤ f ∧ f2 ≤ f := ⟨max f1 f2, Nat.le_max_left _ _, Nat.le_max_right _ _⟩
  have hc := nrun_fuel f1 f _ _ _ _ _ _ _ _ _ hf1 hc
  have h := nrun_fuel f2 f _ _ _ _ _ _ _ _ _ hf2 h
  refine ⟨f + 4, ?_⟩
  obtain ⟨y, cb, hj⟩ := mq_320
  rw [n_step (st' := []) (pc' := 97) (lv' := [(0, .ref 49)]) (hp' := rH e g q c l) (i := .pop) (len := 1) rfl hj rfl rfl rfl]
  rw [n_step (st' := [.ref 49]) (pc' := 98) (lv' := [(0, .ref 49)]) (hp' := rH e g q c l) (i := .aload_n 0) (len := 1) rfl hj rfl rfl rfl]
  rw [n_step (st' := [.ref 49, .ref 49]) (pc' := 99) (lv' := [(0, .ref 49)]) (hp' := rH e g q c l) (i := .aload_n 0) (len := 1) rfl hj rfl rfl rfl]
  obtain ⟨y2, cb2, hj2⟩ := mq_336
  rw [n_call (f := f) (d := d) (ki := 0) (idx := 469) (j' := 336) (kd := 0) (M' := (y2, cb2, 1, some .int, 12, 0, 0, 0)) (avs := [.ref 49]) (r := [.ref 49]) (rv := some (.int v)) (hp1 := rH e g' q' c' l') rfl hj rfl rfl rfl rfl (rq_n rfl rfl hj2 rfl rfl) rfl hc (Nat.le_of_ble_eq_true rfl)]
  exact h
set_option maxRecDepth 100000 in
set_option maxHeartbeats 4000000 in
theorem bk_320_102 {b : Bool} {d : Nat} {t0 : Int32} {e : Nat → x_E} {g : Nat → Int32} {q : Nat → Int64} {c : Nat → Nat → Int32} {l : Nat → Nat → Int64} {g' : Nat → Int32} {q' : Nat → Int64} {c' : Nat → Nat → Int32} {l' : Nat → Nat → Int64} {v : Int32} {R : Option Value × List x_E} (hc : rr b e d 337 0 [(0, .ref 49)] [] (upd g 63 t0) q c l (some (.int v), rH e g' q' c' l')) (h : rr b e (d + 1) 320 109 [(0, .ref 49)] [.int v] g' q' c' l' R) : rr b e (d + 1) 320 102 [(0, .ref 49)] [.int t0, .ref 49] g q c l R := by
  obtain ⟨f1, hc⟩ := hc
  obtain ⟨f2, h⟩ := h
  obtain ⟨f, hf1, hf2⟩ : ∃ f, f1 ≤ f ∧ f2 ≤ f := ⟨max f1 f2, Nat.le_max_left _ _, Nat.le_max_right _ _⟩
  have hc := nrun_fuel f1 f _ _ _ _ _ _ _ _ _ hf1 hc
  have h := nrun_fuel f2 f _ _ _ _ _ _ _ _ _ hf2 h
  refine ⟨f + 3, ?_⟩
  obtain ⟨y, cb, hj⟩ := mq_320
  rw [n_put (st' := []) (hp' := rH e (upd g 63 t0) q c l) rfl hj pf_63]
  rw [n_step (st' := [.ref 49]) (pc' := 106) (lv' := [(0, .ref 49)]) (hp' := rH e (upd g 63 t0) q c l) (i := .aload_n 0) (len := 1) rfl hj rfl rfl rfl]
  obtain ⟨y2, cb2, hj2⟩ := mq_337
  rw [n_call (f := f) (d := d) (ki := 0) (idx := 337) (j' := 337) (kd := 0) (M' := (y2, cb2, 1, some .boolean, 12, 0, 0, 0)) (avs := [.ref 49]) (r := []) (rv := some (.int v)) (hp1 := rH e g' q' c' l') rfl hj rfl rfl rfl rfl (rq_n rfl rfl hj2 rfl rfl) rfl hc (Nat.le_of_ble_eq_true rfl)]
  exact h
set_option maxRecDepth 100000 in
set_option maxHeartbeats 4000000 in
theorem bk_320_109 {b : Bool} {d : Nat} {t0 : Int32} {e : Nat → x_E} {g : Nat → Int32} {q : Nat → Int64} {c : Nat → Nat → Int32} {l : Nat → Nat → Int64} {R : Option Value × List x_E} (h1 : xCn .ne t0 0 = true → rr b e d 320 123 [(0, .ref 49)] [] g q c l R) (h2 : ¬ xCn .ne t0 0 = true → rr b e d 320 112 [(0, .ref 49)] [] g q c l R) : rr b e d 320 109 [(0, .ref 49)] [.int t0] g q c l R := by
  have key : ∀ f, nrun xZ (xY (xfm b)) xDT (f + 1) d 320 109 [(0, .ref 49)] [.int t0] (rH e g q c l) 0 0 = nrun xZ (xY (xfm b)) xDT f d 320 (if xCn .ne t0 0 = true then 123 else 112) [(0, .ref 49)] [] (rH e g q c l) 0 0 := by
    intro f
    obtain ⟨y, cb, hj⟩ := mq_320
    rw [n_step (st' := []) (pc' := (if xCn .ne t0 0 = true then 123 else 112)) (lv' := [(0, .ref 49)]) (hp' := rH e g q c l) (i := .ifCond .ne 14) (len := 3) rfl hj rfl rfl rfl]
  by_cases hc : xCn .ne t0 0 = true
  · obtain ⟨f, h⟩ := h1 hc
    refine ⟨f + 1, ?_⟩
    rw [key, if_pos hc]
    exact h
  · obtain ⟨f, h⟩ := h2 hc
    refine ⟨f + 1, ?_⟩
    rw [key, if_neg hc]
    exact h
set_option maxRecDepth 100000 in
set_option maxHeartbeats 4000000 in
theorem bk_320_112 {b : Bool} {d : Nat} {e : Nat → x_E} {g : Nat → Int32} {q : Nat → Int64} {c : Nat → Nat → Int32} {l : Nat → Nat → Int64} {R : Option Value × List x_E} (h1 : xCn .eq ((g 10)) 0 = true → rr b e d 320 123 [(0, .ref 49)] [] g q c l R) (h2 : ¬ xCn .eq ((g 10)) 0 = true → rr b e d 320 119 [(0, .ref 49)] [] g q c l R) : rr b e d 320 112 [(0, .ref 49)] [] g q c l R := by
  have key : ∀ f, nrun xZ (xY (xfm b)) xDT (f + 3) d 320 112 [(0, .ref 49)] [] (rH e g q c l) 0 0 = nrun xZ (xY (xfm b)) xDT f d 320 (if xCn .eq ((g 10)) 0 = true then 123 else 119) [(0, .ref 49)] [] (rH e g q c l) 0 0 := by
    intro f
    obtain ⟨y, cb, hj⟩ := mq_320
    rw [n_step (st' := [.ref 49]) (pc' := 113) (lv' := [(0, .ref 49)]) (hp' := rH e g q c l) (i := .aload_n 0) (len := 1) rfl hj rfl rfl rfl]
    rw [n_get (st' := [.int (g 10)]) (pc' := 116) (lv' := [(0, .ref 49)]) (hp' := rH e g q c l) (i := .getfield 273) (len := 3) rfl hj rfl rfl rfl rfl]
    rw [n_step (st' := []) (pc' := (if xCn .eq ((g 10)) 0 = true then 123 else 119)) (lv' := [(0, .ref 49)]) (hp' := rH e g q c l) (i := .ifCond .eq 7) (len := 3) rfl hj rfl rfl rfl]
  by_cases hc : xCn .eq ((g 10)) 0 = true
  · obtain ⟨f, h⟩ := h1 hc
    refine ⟨f + 3, ?_⟩
    rw [key, if_pos hc]
    exact h
  · obtain ⟨f, h⟩ := h2 hc
    refine ⟨f + 3, ?_⟩
    rw [key, if_neg hc]
    exact h
set_option maxRecDepth 100000 in
set_option maxHeartbeats 4000000 in
theorem bk_320_119 {b : Bool} {d : Nat} {e : Nat → x_E} {g : Nat → Int32} {q : Nat → Int64} {c : Nat → Nat → Int32} {l : Nat → Nat → Int64} {g' : Nat → Int32} {q' : Nat → Int64} {c' : Nat → Nat → Int32} {l' : Nat → Nat → Int64} {R : Option Value × List x_E} (hc : rr b e d 342 0 [(0, .ref 49)] [] g q c l (none, rH e g' q' c' l')) (h : rr b e (d + 1) 320 123 [(0, .ref 49)] [] g' q' c' l' R) : rr b e (d + 1) 320 119 [(0, .ref 49)] [] g q c l R := by
  obtain ⟨f1, hc⟩ := hc
  obtain ⟨f2, h⟩ := h
  obtain ⟨f, hf1, hf2⟩ : ∃ f, f1 ≤ f ∧ f2 ≤ f := ⟨max f1 f2, Nat.le_max_left _ _, Nat.le_max_right _ _⟩
  have hc := nrun_fuel f1 f _ _ _ _ _ _ _ _ _ hf1 hc
  have h := nrun_fuel f2 f _ _ _ _ _ _ _ _ _ hf2 h
  refine ⟨f + 2, ?_⟩
  obtain ⟨y, cb, hj⟩ := mq_320
  rw [n_step (st' := [.ref 49]) (pc' := 120) (lv' := [(0, .ref 49)]) (hp' := rH e g q c l) (i := .aload_n 0) (len := 1) rfl hj rfl rfl rfl]
  obtain ⟨y2, cb2, hj2⟩ := mq_342
  rw [n_call (f := f) (d := d) (ki := 0) (idx := 347) (j' := 342) (kd := 0) (M' := (y2, cb2, 1, none, 12, 0, 0, 0)) (avs := [.ref 49]) (r := []) (rv := none) (hp1 := rH e g' q' c' l') rfl hj rfl rfl rfl rfl (rq_n rfl rfl hj2 rfl rfl) rfl hc (Nat.le_of_ble_eq_true rfl)]
  exact h
set_option maxRecDepth 100000 in
set_option maxHeartbeats 4000000 in
theorem bk_320_123 {b : Bool} {d : Nat} {e : Nat → x_E} {g : Nat → Int32} {q : Nat → Int64} {c : Nat → Nat → Int32} {l : Nat → Nat → Int64} {g' : Nat → Int32} {q' : Nat → Int64} {c' : Nat → Nat → Int32} {l' : Nat → Nat → Int64} {v : Int32} {R : Option Value × List x_E} (hc : rr b e d 355 0 [(0, .ref 49), (1, .int (Int8.ofInt (14)).toInt32), (2, .int (Int32.ofInt (0)))] [] g q c l (some (.int v), rH e g' q' c' l')) (h : rr b e (d + 1) 320 130 [(0, .ref 49)] [.int v] g' q' c' l' R) : rr b e (d + 1) 320 123 [(0, .ref 49)] [] g q c l R := by
  obtain ⟨f1, hc⟩ := hc
  obtain ⟨f2, h⟩ := h
  obtain ⟨f, hf1, hf2⟩ : ∃ f, f1 ≤ f ∧ f2 ≤ f := ⟨max f1 f2, Nat.le_max_left _ _, Nat.le_max_right _ _⟩
  have hc := nrun_fuel f1 f _ _ _ _ _ _ _ _ _ hf1 hc
  have h := nrun_fuel f2 f _ _ _ _ _ _ _ _ _ hf2 h
  refine ⟨f + 4, ?_⟩
  obtain ⟨y, cb, hj⟩ := mq_320
  rw [n_step (st' := [.ref 49]) (pc' := 124) (lv' := [(0, .ref 49)]) (hp' := rH e g q c l) (i := .aload_n 0) (len := 1) rfl hj rfl rfl rfl]
  rw [n_step (st' := [.int (Int8.ofInt (14)).toInt32, .ref 49]) (pc' := 126) (lv' := [(0, .ref 49)]) (hp' := rH e g q c l) (i := .bipush 14) (len := 2) rfl hj rfl rfl rfl]
  rw [n_step (st' := [.int (Int32.ofInt (0)), .int (Int8.ofInt (14)).toInt32, .ref 49]) (pc' := 127) (lv' := [(0, .ref 49)]) (hp' := rH e g q c l) (i := .iconst 0) (len := 1) rfl hj rfl rfl rfl]
  obtain ⟨y2, cb2, hj2⟩ := mq_355
  rw [n_call (f := f) (d := d) (ki := 0) (idx := 496) (j' := 355) (kd := 0) (M' := (y2, cb2, 3, some .int, 12, 2, 0, 0)) (avs := [.ref 49, .int (Int8.ofInt (14)).toInt32, .int (Int32.ofInt (0))]) (r := []) (rv := some (.int v)) (hp1 := rH e g' q' c' l') rfl hj rfl rfl rfl rfl (rq_n rfl rfl hj2 rfl rfl) rfl hc (Nat.le_of_ble_eq_true rfl)]
  exact h
set_option maxRecDepth 100000 in
set_option maxHeartbeats 4000000 in
theorem bk_320_130 {b : Bool} {d : Nat} {t0 : Int32} {e : Nat → x_E} {g : Nat → Int32} {q : Nat → Int64} {c : Nat → Nat → Int32} {l : Nat → Nat → Int64} {R : Option Value × List x_E} (h1 : xCn .eq ((g 23)) 0 = true → rr b e d 320 161 [] [] g q c l R) (h2 : ¬ xCn .eq ((g 23)) 0 = true → rr b e d 320 138 [(0, .ref 49)] [] g q c l R) : rr b e d 320 130 [(0, .ref 49)] [.int t0] g q c l R := by
  have key : ∀ f, nrun xZ (xY (xfm b)) xDT (f + 4) d 320 130 [(0, .ref 49)] [.int t0] (rH e g q c l) 0 0 = nrun xZ (xY (xfm b)) xDT f d 320 (if xCn .eq ((g 23)) 0 = true then 161 else 138) [(0, .ref 49)] [] (rH e g q c l) 0 0 := by
    intro f
    obtain ⟨y, cb, hj⟩ := mq_320
    rw [n_step (st' := []) (pc' := 131) (lv' := [(0, .ref 49)]) (hp' := rH e g q c l) (i := .pop) (len := 1) rfl hj rfl rfl rfl]
    rw [n_step (st' := [.ref 49]) (pc' := 132) (lv' := [(0, .ref 49)]) (hp' := rH e g q c l) (i := .aload_n 0) (len := 1) rfl hj rfl rfl rfl]
    rw [n_get (st' := [.int (g 23)]) (pc' := 135) (lv' := [(0, .ref 49)]) (hp' := rH e g q c l) (i := .getfield 325) (len := 3) rfl hj rfl rfl rfl rfl]
    rw [n_step (st' := []) (pc' := (if xCn .eq ((g 23)) 0 = true then 161 else 138)) (lv' := [(0, .ref 49)]) (hp' := rH e g q c l) (i := .ifCond .eq 26) (len := 3) rfl hj rfl rfl rfl]
  by_cases hc : xCn .eq ((g 23)) 0 = true
  · obtain ⟨f, h⟩ := h1 hc
    refine ⟨f + 4, ?_⟩
    rw [key, if_pos hc]
    exact nrun_ext f f _ _ R 320 161 [] [(0, .ref 49)] [] _ 0 0 122 (Nat.le_refl _) (Nat.le_refl _) (Nat.le_of_ble_eq_true rfl) (lvR_mk [] [0] rfl rfl (by decide) (by decide) (fun _ h => nomatch h) (List.forall_mem_cons.mpr ⟨Or.inr rfl, (fun _ h => nomatch h)⟩)) h
  · obtain ⟨f, h⟩ := h2 hc
    refine ⟨f + 4, ?_⟩
    rw [key, if_neg hc]
    exact h
set_option maxRecDepth 100000 in
set_option maxHeartbeats 4000000 in
theorem bk_320_138 {b : Bool} {d : Nat} {e : Nat → x_E} {g : Nat → Int32} {q : Nat → Int64} {c : Nat → Nat → Int32} {l : Nat → Nat → Int64} {g' : Nat → Int32} {q' : Nat → Int64} {c' : Nat → Nat → Int32} {l' : Nat → Nat → Int64} {v : Int32} {R : Option Value × List x_E} (hc : rr b e d 337 0 [(0, .ref 49)] [] g q c l (some (.int v), rH e g' q' c' l')) (h : rr b e (d + 1) 320 142 [(0, .ref 49)] [.int v] g' q' c' l' R) : rr b e (d + 1) 320 138 [(0, .ref 49)] [] g q c l R := by
  obtain ⟨f1, hc⟩ := hc
  obtain ⟨f2, h⟩ := h
  obtain ⟨f, hf1, hf2⟩ : ∃ f, f1 ≤ f ∧ f2 ≤ f := ⟨max f1 f2, Nat.le_max_left _ _, Nat.le_max_right _ _⟩
  have hc := nrun_fuel f1 f _ _ _ _ _ _ _ _ _ hf1 hc
  have h := nrun_fuel f2 f _ _ _ _ _ _ _ _ _ hf2 h
  refine ⟨f + 2, ?_⟩
  obtain ⟨y, cb, hj⟩ := mq_320
  rw [n_step (st' := [.ref 49]) (pc' := 139) (lv' := [(0, .ref 49)]) (hp' := rH e g q c l) (i := .aload_n 0) (len := 1) rfl hj rfl rfl rfl]
  obtain ⟨y2, cb2, hj2⟩ := mq_337
  rw [n_call (f := f) (d := d) (ki := 0) (idx := 337) (j' := 337) (kd := 0) (M' := (y2, cb2, 1, some .boolean, 12, 0, 0, 0)) (avs := [.ref 49]) (r := []) (rv := some (.int v)) (hp1 := rH e g' q' c' l') rfl hj rfl rfl rfl rfl (rq_n rfl rfl hj2 rfl rfl) rfl hc (Nat.le_of_ble_eq_true rfl)]
  exact h
set_option maxRecDepth 100000 in
set_option maxHeartbeats 4000000 in
theorem bk_320_142 {b : Bool} {d : Nat} {t0 : Int32} {e : Nat → x_E} {g : Nat → Int32} {q : Nat → Int64} {c : Nat → Nat → Int32} {l : Nat → Nat → Int64} {R : Option Value × List x_E} (h1 : xCn .ne t0 0 = true → rr b e d 320 161 [] [] g q c l R) (h2 : ¬ xCn .ne t0 0 = true → rr b e d 320 145 [(0, .ref 49)] [] g q c l R) : rr b e d 320 142 [(0, .ref 49)] [.int t0] g q c l R := by
  have key : ∀ f, nrun xZ (xY (xfm b)) xDT (f + 1) d 320 142 [(0, .ref 49)] [.int t0] (rH e g q c l) 0 0 = nrun xZ (xY (xfm b)) xDT f d 320 (if xCn .ne t0 0 = true then 161 else 145) [(0, .ref 49)] [] (rH e g q c l) 0 0 := by
    intro f
    obtain ⟨y, cb, hj⟩ := mq_320
    rw [n_step (st' := []) (pc' := (if xCn .ne t0 0 = true then 161 else 145)) (lv' := [(0, .ref 49)]) (hp' := rH e g q c l) (i := .ifCond .ne 19) (len := 3) rfl hj rfl rfl rfl]
  by_cases hc : xCn .ne t0 0 = true
  · obtain ⟨f, h⟩ := h1 hc
    refine ⟨f + 1, ?_⟩
    rw [key, if_pos hc]
    exact nrun_ext f f _ _ R 320 161 [] [(0, .ref 49)] [] _ 0 0 122 (Nat.le_refl _) (Nat.le_refl _) (Nat.le_of_ble_eq_true rfl) (lvR_mk [] [0] rfl rfl (by decide) (by decide) (fun _ h => nomatch h) (List.forall_mem_cons.mpr ⟨Or.inr rfl, (fun _ h => nomatch h)⟩)) h
  · obtain ⟨f, h⟩ := h2 hc
    refine ⟨f + 1, ?_⟩
    rw [key, if_neg hc]
    exact h
set_option maxRecDepth 100000 in
set_option maxHeartbeats 4000000 in
theorem bk_320_145 {b : Bool} {d : Nat} {e : Nat → x_E} {g : Nat → Int32} {q : Nat → Int64} {c : Nat → Nat → Int32} {l : Nat → Nat → Int64} {R : Option Value × List x_E} (h1 : xCn .ne ((g 21)) 0 = true → rr b e d 320 161 [] [] g q c l R) (h2 : ¬ xCn .ne ((g 21)) 0 = true → rr b e d 320 152 [(0, .ref 49)] [] g q c l R) : rr b e d 320 145 [(0, .ref 49)] [] g q c l R := by
  have key : ∀ f, nrun xZ (xY (xfm b)) xDT (f + 3) d 320 145 [(0, .ref 49)] [] (rH e g q c l) 0 0 = nrun xZ (xY (xfm b)) xDT f d 320 (if xCn .ne ((g 21)) 0 = true then 161 else 152) [(0, .ref 49)] [] (rH e g q c l) 0 0 := by
    intro f
    obtain ⟨y, cb, hj⟩ := mq_320
    rw [n_step (st' := [.ref 49]) (pc' := 146) (lv' := [(0, .ref 49)]) (hp' := rH e g q c l) (i := .aload_n 0) (len := 1) rfl hj rfl rfl rfl]
    rw [n_get (st' := [.int (g 21)]) (pc' := 149) (lv' := [(0, .ref 49)]) (hp' := rH e g q c l) (i := .getfield 331) (len := 3) rfl hj rfl rfl rfl rfl]
    rw [n_step (st' := []) (pc' := (if xCn .ne ((g 21)) 0 = true then 161 else 152)) (lv' := [(0, .ref 49)]) (hp' := rH e g q c l) (i := .ifCond .ne 12) (len := 3) rfl hj rfl rfl rfl]
  by_cases hc : xCn .ne ((g 21)) 0 = true
  · obtain ⟨f, h⟩ := h1 hc
    refine ⟨f + 3, ?_⟩
    rw [key, if_pos hc]
    exact nrun_ext f f _ _ R 320 161 [] [(0, .ref 49)] [] _ 0 0 122 (Nat.le_refl _) (Nat.le_refl _) (Nat.le_of_ble_eq_true rfl) (lvR_mk [] [0] rfl rfl (by decide) (by decide) (fun _ h => nomatch h) (List.forall_mem_cons.mpr ⟨Or.inr rfl, (fun _ h => nomatch h)⟩)) h
  · obtain ⟨f, h⟩ := h2 hc
    refine ⟨f + 3, ?_⟩
    rw [key, if_neg hc]
    exact h
set_option maxRecDepth 100000 in
set_option maxHeartbeats 4000000 in
theorem bk_320_152 {b : Bool} {d : Nat} {e : Nat → x_E} {g : Nat → Int32} {q : Nat → Int64} {c : Nat → Nat → Int32} {l : Nat → Nat → Int64} {g' : Nat → Int32} {q' : Nat → Int64} {c' : Nat → Nat → Int32} {l' : Nat → Nat → Int64} {R : Option Value × List x_E} (hc : rr b e d 358 0 [(0, .ref 49), (1, .int (Int32.ofInt (0))), (2, .int (g 43))] [] g q c l (none, rH e g' q' c' l')) (h : rr b e (d + 1) 320 161 [] [] g' q' c' l' R) : rr b e (d + 1) 320 152 [(0, .ref 49)] [] g q c l R := by
  obtain ⟨f1, hc⟩ := hc
  obtain ⟨f2, h⟩ := h
  obtain ⟨f, hf1, hf2⟩ : ∃ f, f1 ≤ f ∧ f2 ≤ f := ⟨max f1 f2, Nat.le_max_left _ _, Nat.le_max_right _ _⟩
  have hc := nrun_fuel f1 f _ _ _ _ _ _ _ _ _ hf1 hc
  have h := nrun_fuel f2 f _ _ _ _ _ _ _ _ _ hf2 h
  refine ⟨f + 5, ?_⟩
  obtain ⟨y, cb, hj⟩ := mq_320
  rw [n_step (st' := [.ref 49]) (pc' := 153) (lv' := [(0, .ref 49)]) (hp' := rH e g q c l) (i := .aload_n 0) (len := 1) rfl hj rfl rfl rfl]
  rw [n_step (st' := [.int (Int32.ofInt (0)), .ref 49]) (pc' := 154) (lv' := [(0, .ref 49)]) (hp' := rH e g q c l) (i := .iconst 0) (len := 1) rfl hj rfl rfl rfl]
  rw [n_step (st' := [.ref 49, .int (Int32.ofInt (0)), .ref 49]) (pc' := 155) (lv' := [(0, .ref 49)]) (hp' := rH e g q c l) (i := .aload_n 0) (len := 1) rfl hj rfl rfl rfl]
  rw [n_get (st' := [.int (g 43), .int (Int32.ofInt (0)), .ref 49]) (pc' := 158) (lv' := [(0, .ref 49)]) (hp' := rH e g q c l) (i := .getfield 430) (len := 3) rfl hj rfl rfl rfl rfl]
  obtain ⟨y2, cb2, hj2⟩ := mq_358
  rw [n_call (f := f) (d := d) (ki := 0) (idx := 554) (j' := 358) (kd := 0) (M' := (y2, cb2, 6, none, 12, 2, 0, 0)) (avs := [.ref 49, .int (Int32.ofInt (0)), .int (g 43)]) (r := []) (rv := none) (hp1 := rH e g' q' c' l') rfl hj rfl rfl rfl rfl (rq_n rfl rfl hj2 rfl rfl) rfl hc (Nat.le_of_ble_eq_true rfl)]
  exact nrun_ext f f _ _ R 320 161 [] [(0, .ref 49)] [] _ 0 0 122 (Nat.le_refl _) (Nat.le_refl _) (Nat.le_of_ble_eq_true rfl) (lvR_mk [] [0] rfl rfl (by decide) (by decide) (fun _ h => nomatch h) (List.forall_mem_cons.mpr ⟨Or.inr rfl, (fun _ h => nomatch h)⟩)) h
set_option maxRecDepth 100000 in
set_option maxHeartbeats 4000000 in
theorem bk_320_161 {b : Bool} {d : Nat} {e : Nat → x_E} {g : Nat → Int32} {q : Nat → Int64} {c : Nat → Nat → Int32} {l : Nat → Nat → Int64} : rr b e d 320 161 [] [] g q c l (none, rH e g q c l) := by
  refine ⟨0 + 1, ?_⟩
  obtain ⟨y, cb, hj⟩ := mq_320
  exact n_ret rfl hj rfl rfl rfl
set_option maxRecDepth 100000 in
set_option maxHeartbeats 4000000 in
theorem bk_321_0 {b : Bool} {d : Nat} {e : Nat → x_E} {g : Nat → Int32} {q : Nat → Int64} {c : Nat → Nat → Int32} {l : Nat → Nat → Int64} {g' : Nat → Int32} {q' : Nat → Int64} {c' : Nat → Nat → Int32} {l' : Nat → Nat → Int64} {R : Option Value × List x_E} (hc : rr b e d 322 0 [(0, .ref 49)] [] (upd (upd (upd g 12 ((Int32.ofInt (0)))) 17 ((Int32.ofInt (0)))) 24 ((Int32.ofInt (0)))) q c l (none, rH e g' q' c' l')) (h : rr b e (d + 1) 321 19 [] [] g' q' c' l' R) : rr b e (d + 1) 321 0 [(0, .ref 49)] [] g q c l R := by
  obtain ⟨f1, hc⟩ := hc
  obtain ⟨f2, h⟩ := h
  obtain ⟨f, hf1, hf2⟩ : ∃ f, f1 ≤ f ∧ f2 ≤ f := ⟨max f1 f2, Nat.le_max_left _ _, Nat.le_max_right _ _⟩
  have hc := nrun_fuel f1 f _ _ _ _ _ _ _ _ _ hf1 hc
  have h := nrun_fuel f2 f _ _ _ _ _ _ _ _ _ hf2 h
  refine ⟨f + 11, ?_⟩
  obtain ⟨y, cb, hj⟩ := mq_321
  rw [n_step (st' := [.ref 49]) (pc' := 1) (lv' := [(0, .ref 49)]) (hp' := rH e g q c l) (i := .aload_n 0) (len := 1) rfl hj rfl rfl rfl]
  rw [n_step (st' := [.int (Int32.ofInt (0)), .ref 49]) (pc' := 2) (lv' := [(0, .ref 49)]) (hp' := rH e g q c l) (i := .iconst 0) (len := 1) rfl hj rfl rfl rfl]
  rw [n_put (st' := []) (hp' := rH e (upd g 12 ((Int32.ofInt (0)))) q c l) rfl hj pf_12]
  rw [n_step (st' := [.ref 49]) (pc' := 6) (lv' := [(0, .ref 49)]) (hp' := rH e (upd g 12 ((Int32.ofInt (0)))) q c l) (i := .aload_n 0) (len := 1) rfl hj rfl rfl rfl]
  rw [n_step (st' := [.int (Int32.ofInt (0)), .ref 49]) (pc' := 7) (lv' := [(0, .ref 49)]) (hp' := rH e (upd g 12 ((Int32.ofInt (0)))) q c l) (i := .iconst 0) (len := 1) rfl hj rfl rfl rfl]
  rw [n_put (st' := []) (hp' := rH e (upd (upd g 12 ((Int32.ofInt (0)))) 17 ((Int32.ofInt (0)))) q c l) rfl hj pf_17]
  rw [n_step (st' := [.ref 49]) (pc' := 11) (lv' := [(0, .ref 49)]) (hp' := rH e (upd (upd g 12 ((Int32.ofInt (0)))) 17 ((Int32.ofInt (0)))) q c l) (i := .aload_n 0) (len := 1) rfl hj rfl rfl rfl]
  rw [n_step (st' := [.int (Int32.ofInt (0)), .ref 49]) (pc' := 12) (lv' := [(0, .ref 49)]) (hp' := rH e (upd (upd g 12 ((Int32.ofInt (0)))) 17 ((Int32.ofInt (0)))) q c l) (i := .iconst 0) (len := 1) rfl hj rfl rfl rfl]
  rw [n_put (st' := []) (hp' := rH e (upd (upd (upd g 12 ((Int32.ofInt (0)))) 17 ((Int32.ofInt (0)))) 24 ((Int32.ofInt (0)))) q c l) rfl hj pf_24]
  rw [n_step (st' := [.ref 49]) (pc' := 16) (lv' := [(0, .ref 49)]) (hp' := rH e (upd (upd (upd g 12 ((Int32.ofInt (0)))) 17 ((Int32.ofInt (0)))) 24 ((Int32.ofInt (0)))) q c l) (i := .aload_n 0) (len := 1) rfl hj rfl rfl rfl]
  obtain ⟨y2, cb2, hj2⟩ := mq_322
  rw [n_call (f := f) (d := d) (ki := 0) (idx := 344) (j' := 322) (kd := 0) (M' := (y2, cb2, 2, none, 12, 0, 0, 0)) (avs := [.ref 49]) (r := []) (rv := none) (hp1 := rH e g' q' c' l') rfl hj rfl rfl rfl rfl (rq_n rfl rfl hj2 rfl rfl) rfl hc (Nat.le_of_ble_eq_true rfl)]
  exact nrun_ext f f _ _ R 321 19 [] [(0, .ref 49)] [] _ 0 0 122 (Nat.le_refl _) (Nat.le_refl _) (Nat.le_of_ble_eq_true rfl) (lvR_mk [] [0] rfl rfl (by decide) (by decide) (fun _ h => nomatch h) (List.forall_mem_cons.mpr ⟨Or.inr rfl, (fun _ h => nomatch h)⟩)) h
set_option maxRecDepth 100000 in
set_option maxHeartbeats 4000000 in
theorem bk_321_19 {b : Bool} {d : Nat} {e : Nat → x_E} {g : Nat → Int32} {q : Nat → Int64} {c : Nat → Nat → Int32} {l : Nat → Nat → Int64} : rr b e d 321 19 [] [] g q c l (none, rH e g q c l) := by
  refine ⟨0 + 1, ?_⟩
  obtain ⟨y, cb, hj⟩ := mq_321
  exact n_ret rfl hj rfl rfl rfl
set_option maxRecDepth 100000 in
set_option maxHeartbeats 4000000 in
theorem bk_322_0 {b : Bool} {d : Nat} {e : Nat → x_E} {g : Nat → Int32} {q : Nat → Int64} {c : Nat → Nat → Int32} {l : Nat → Nat → Int64} {R : Option Value × List x_E} (h1 : xCn .le ((g 17)) ((g 18)) = true → rr b e d 322 20 [(0, .ref 49)] [] g q c l R) (h2 : ¬ xCn .le ((g 17)) ((g 18)) = true → rr b e d 322 11 [(0, .ref 49)] [] g q c l R) : rr b e d 322 0 [(0, .ref 49)] [] g q c l R := by
  have key : ∀ f, nrun xZ (xY (xfm b)) xDT (f + 5) d 322 0 [(0, .ref 49)] [] (rH e g q c l) 0 0 = nrun xZ (xY (xfm b)) xDT f d 322 (if xCn .le ((g 17)) ((g 18)) = true then 20 else 11) [(0, .ref 49)] [] (rH e g q c l) 0 0 := by
    intro f
    obtain ⟨y, cb, hj⟩ := mq_322
    rw [n_step (st' := [.ref 49]) (pc' := 1) (lv' := [(0, .ref 49)]) (hp' := rH e g q c l) (i := .aload_n 0) (len := 1) rfl hj rfl rfl rfl]
    rw [n_get (st' := [.int (g 17)]) (pc' := 4) (lv' := [(0, .ref 49)]) (hp' := rH e g q c l) (i := .getfield 251) (len := 3) rfl hj rfl rfl rfl rfl]
    rw [n_step (st' := [.ref 49, .int (g 17)]) (pc' := 5) (lv' := [(0, .ref 49)]) (hp' := rH e g q c l) (i := .aload_n 0) (len := 1) rfl hj rfl rfl rfl]
    rw [n_get (st' := [.int (g 18), .int (g 17)]) (pc' := 8) (lv' := [(0, .ref 49)]) (hp' := rH e g q c l) (i := .getfield 254) (len := 3) rfl hj rfl rfl rfl rfl]
    rw [n_step (st' := []) (pc' := (if xCn .le ((g 17)) ((g 18)) = true then 20 else 11)) (lv' := [(0, .ref 49)]) (hp' := rH e g q c l) (i := .if_icmp .le 12) (len := 3) rfl hj rfl rfl rfl]
  by_cases hc : xCn .le ((g 17)) ((g 18)) = true
  · obtain ⟨f, h⟩ := h1 hc
    refine ⟨f + 5, ?_⟩
    rw [key, if_pos hc]
    exact h
  · obtain ⟨f, h⟩ := h2 hc
    refine ⟨f + 5, ?_⟩
    rw [key, if_neg hc]
    exact h
set_option maxRecDepth 100000 in
set_option maxHeartbeats 4000000 in
theorem bk_322_11 {b : Bool} {d : Nat} {e : Nat → x_E} {g : Nat → Int32} {q : Nat → Int64} {c : Nat → Nat → Int32} {l : Nat → Nat → Int64} {g' : Nat → Int32} {q' : Nat → Int64} {c' : Nat → Nat → Int32} {l' : Nat → Nat → Int64} {R : Option Value × List x_E} (hc : rr b e d 323 0 [(0, .ref 49), (1, .int (Int32.ofInt (2))), (2, .int (g 11))] [] g q c l (none, rH e g' q' c' l')) (h : rr b e (d + 1) 322 20 [(0, .ref 49)] [] g' q' c' l' R) : rr b e (d + 1) 322 11 [(0, .ref 49)] [] g q c l R := by
  obtain ⟨f1, hc⟩ := hc
  obtain ⟨f2, h⟩ := h
  obtain ⟨f, hf1, hf2⟩ : ∃ f, f1 ≤ f ∧ f2 ≤ f := ⟨max f1 f2, Nat.le_max_left _ _, Nat.le_max_right _ _⟩
  have hc := nrun_fuel f1 f _ _ _ _ _ _ _ _ _ hf1 hc
  have h := nrun_fuel f2 f _ _ _ _ _ _ _ _ _ hf2 h
  refine ⟨f + 5, ?_⟩
  obtain ⟨y, cb, hj⟩ := mq_322
  rw [n_step (st' := [.ref 49]) (pc' := 12) (lv' := [(0, .ref 49)]) (hp' := rH e g q c l) (i := .aload_n 0) (len := 1) rfl hj rfl rfl rfl]
  rw [n_step (st' := [.int (Int32.ofInt (2)), .ref 49]) (pc' := 13) (lv' := [(0, .ref 49)]) (hp' := rH e g q c l) (i := .iconst 2) (len := 1) rfl hj rfl rfl rfl]
  rw [n_step (st' := [.ref 49, .int (Int32.ofInt (2)), .ref 49]) (pc' := 14) (lv' := [(0, .ref 49)]) (hp' := rH e g q c l) (i := .aload_n 0) (len := 1) rfl hj rfl rfl rfl]
  rw [n_get (st' := [.int (g 11), .int (Int32.ofInt (2)), .ref 49]) (pc' := 17) (lv' := [(0, .ref 49)]) (hp' := rH e g q c l) (i := .getfield 257) (len := 3) rfl hj rfl rfl rfl rfl]
  obtain ⟨y2, cb2, hj2⟩ := mq_323
  rw [n_call (f := f) (d := d) (ki := 0) (idx := 260) (j' := 323) (kd := 0) (M' := (y2, cb2, 3, none, 12, 2, 0, 0)) (avs := [.ref 49, .int (Int32.ofInt (2)), .int (g 11)]) (r := []) (rv := none) (hp1 := rH e g' q' c' l') rfl hj rfl rfl rfl rfl (rq_n rfl rfl hj2 rfl rfl) rfl hc (Nat.le_of_ble_eq_true rfl)]
  exact h
set_option maxRecDepth 100000 in
set_option maxHeartbeats 4000000 in
theorem bk_322_20 {b : Bool} {d : Nat} {e : Nat → x_E} {g : Nat → Int32} {q : Nat → Int64} {c : Nat → Nat → Int32} {l : Nat → Nat → Int64} {g' : Nat → Int32} {q' : Nat → Int64} {c' : Nat → Nat → Int32} {l' : Nat → Nat → Int64} {v : Int32} {R : Option Value × List x_E} (hc : rr b e d 324 0 [(0, .ref 49), (1, .int (g 12))] [] g q c l (some (.int v), rH e g' q' c' l')) (h : rr b e (d + 1) 322 29 [(0, .ref 49)] [.int v, .ref 49] g' q' c' l' R) : rr b e (d + 1) 322 20 [(0, .ref 49)] [] g q c l R := by
  obtain ⟨f1, hc⟩ := hc
  obtain ⟨f2, h⟩ := h
  obtain ⟨f, hf1, hf2⟩ : ∃ f, f1 ≤ f ∧ f2 ≤ f := ⟨max f1 f2, Nat.le_max_left _ _, Nat.le_max_right _ _⟩
  have hc := nrun_fuel f1 f _ _ _ _ _ _ _ _ _ hf1 hc
  have h := nrun_fuel f2 f _ _ _ _ _ _ _ _ _ hf2 h
  refine ⟨f + 5, ?_⟩
  obtain ⟨y, cb, hj⟩ := mq_322
  rw [n_step (st' := [.ref 49]) (pc' := 21) (lv' := [(0, .ref 49)]) (hp' := rH e g q c l) (i := .aload_n 0) (len := 1) rfl hj rfl rfl rfl]
  rw [n_step (st' := [.ref 49, .ref 49]) (pc' := 22) (lv' := [(0, .ref 49)]) (hp' := rH e g q c l) (i := .aload_n 0) (len := 1) rfl hj rfl rfl rfl]
  rw [n_step (st' := [.ref 49, .ref 49, .ref 49]) (pc' := 23) (lv' := [(0, .ref 49)]) (hp' := rH e g q c l) (i := .aload_n 0) (len := 1) rfl hj rfl rfl rfl]
  rw [n_get (st' := [.int (g 12), .ref 49, .ref 49]) (pc' := 26) (lv' := [(0, .ref 49)]) (hp' := rH e g q c l) (i := .getfield 264) (len := 3) rfl hj rfl rfl rfl rfl]
  obtain ⟨y2, cb2, hj2⟩ := mq_324
  rw [n_call (f := f) (d := d) (ki := 0) (idx := 267) (j' := 324) (kd := 0) (M' := (y2, cb2, 5, some .int, 12, 1, 0, 0)) (avs := [.ref 49, .int (g 12)]) (r := [.ref 49]) (rv := some (.int v)) (hp1 := rH e g' q' c' l') rfl hj rfl rfl rfl rfl (rq_n rfl rfl hj2 rfl rfl) rfl hc (Nat.le_of_ble_eq_true rfl)]
  exact h
set_option maxRecDepth 100000 in
set_option maxHeartbeats 4000000 in
theorem bk_322_29 {b : Bool} {d : Nat} {t0 : Int32} {e : Nat → x_E} {g : Nat → Int32} {q : Nat → Int64} {c : Nat → Nat → Int32} {l : Nat → Nat → Int64} {g' : Nat → Int32} {q' : Nat → Int64} {c' : Nat → Nat → Int32} {l' : Nat → Nat → Int64} {v : Int32} {R : Option Value × List x_E} (hc : rr b e d 325 0 [(0, .ref 49), (1, .int ((upd (upd g 11 t0) 13 ((Int32.ofInt (0)))) 11))] [] (upd (upd g 11 t0) 13 ((Int32.ofInt (0)))) q c l (some (.int v), rH e g' q' c' l')) (h : rr b e (d + 1) 322 45 [(0, .ref 49)] [.int v] g' q' c' l' R) : rr b e (d + 1) 322 29 [(0, .ref 49)] [.int t0, .ref 49] g q c l R := by
  obtain ⟨f1, hc⟩ := hc
  obtain ⟨f2, h⟩ := h
  obtain ⟨f, hf1, hf2⟩ : ∃ f, f1 ≤ f ∧ f2 ≤ f := ⟨max f1 f2, Nat.le_max_left _ _, Nat.le_max_right _ _⟩
  have hc := nrun_fuel f1 f _ _ _ _ _ _ _ _ _ hf1 hc
  have h := nrun_fuel f2 f _ _ _ _ _ _ _ _ _ hf2 h
  refine ⟨f + 8, ?_⟩
  obtain ⟨y, cb, hj⟩ := mq_322
  rw [n_put (st' := []) (hp' := rH e (upd g 11 t0) q c l) rfl hj pf_11]
  rw [n_step (st' := [.ref 49]) (pc' := 33) (lv' := [(0, .ref 49)]) (hp' := rH e (upd g 11 t0) q c l) (i := .aload_n 0) (len := 1) rfl hj rfl rfl rfl]
  rw [n_step (st' := [.int (Int32.ofInt (0)), .ref 49]) (pc' := 34) (lv' := [(0, .ref 49)]) (hp' := rH e (upd g 11 t0) q c l) (i := .iconst 0) (len := 1) rfl hj rfl rfl rfl]
  rw [n_put (st' := []) (hp' := rH e (upd (upd g 11 t0) 13 ((Int32.ofInt (0)))) q c l) rfl hj pf_13]
  rw [n_step (st' := [.ref 49]) (pc' := 38) (lv' := [(0, .ref 49)]) (hp' := rH e (upd (upd g 11 t0) 13 ((Int32.ofInt (0)))) q c l) (i := .aload_n 0) (len := 1) rfl hj rfl rfl rfl]
  rw [n_step (st' := [.ref 49, .ref 49]) (pc' := 39) (lv' := [(0, .ref 49)]) (hp' := rH e (upd (upd g 11 t0) 13 ((Int32.ofInt (0)))) q c l) (i := .aload_n 0) (len := 1) rfl hj rfl rfl rfl]
  rw [n_get (st' := [.int ((upd (upd g 11 t0) 13 ((Int32.ofInt (0)))) 11), .ref 49]) (pc' := 42) (lv' := [(0, .ref 49)]) (hp' := rH e (upd (upd g 11 t0) 13 ((Int32.ofInt (0)))) q c l) (i := .getfield 257) (len := 3) rfl hj rfl rfl rfl rfl]
  obtain ⟨y2, cb2, hj2⟩ := mq_325
  rw [n_call (f := f) (d := d) (ki := 0) (idx := 247) (j' := 325) (kd := 0) (M' := (y2, cb2, 2, some .int, 12, 1, 0, 0)) (avs := [.ref 49, .int ((upd (upd g 11 t0) 13 ((Int32.ofInt (0)))) 11)]) (r := []) (rv := some (.int v)) (hp1 := rH e g' q' c' l') rfl hj rfl rfl rfl rfl (rq_n rfl rfl hj2 rfl rfl) rfl hc (Nat.le_of_ble_eq_true rfl)]
  exact h
set_option maxRecDepth 100000 in
set_option maxHeartbeats 4000000 in
theorem bk_322_45 {b : Bool} {d : Nat} {t0 : Int32} {e : Nat → x_E} {g : Nat → Int32} {q : Nat → Int64} {c : Nat → Nat → Int32} {l : Nat → Nat → Int64} {R : Option Value × List x_E} (h1 : xCn .ge t0 0 = true → rr b e d 322 64 [(0, .ref 49), (1, .int t0)] [] g q c l R) (h2 : ¬ xCn .ge t0 0 = true → rr b e d 322 50 [(0, .ref 49)] [] g q c l R) : rr b e d 322 45 [(0, .ref 49)] [.int t0] g q c l R := by
  have key : ∀ f, nrun xZ (xY (xfm b)) xDT (f + 3) d 322 45 [(0, .ref 49)] [.int t0] (rH e g q c l) 0 0 = nrun xZ (xY (xfm b)) xDT f d 322 (if xCn .ge t0 0 = true then 64 else 50) [(1, .int t0), (0, .ref 49)] [] (rH e g q c l) 0 0 := by
    intro f
    obtain ⟨y, cb, hj⟩ := mq_322
    rw [n_step (st' := []) (pc' := 46) (lv' := [(1, .int t0), (0, .ref 49)]) (hp' := rH e g q c l) (i := .istore_n 1) (len := 1) rfl hj rfl rfl rfl]
    rw [n_step (st' := [.int t0]) (pc' := 47) (lv' := [(1, .int t0), (0, .ref 49)]) (hp' := rH e g q c l) (i := .iload_n 1) (len := 1) rfl hj rfl rfl rfl]
    rw [n_step (st' := []) (pc' := (if xCn .ge t0 0 = true then 64 else 50)) (lv' := [(1, .int t0), (0, .ref 49)]) (hp' := rH e g q c l) (i := .ifCond .ge 17) (len := 3) rfl hj rfl rfl rfl]
  by_cases hc : xCn .ge t0 0 = true
  · obtain ⟨f, h⟩ := h1 hc
    refine ⟨f + 3, ?_⟩
    rw [key, if_pos hc]
    exact nrun_ext f f _ _ R 322 64 [(0, .ref 49), (1, .int t0)] [(1, .int t0), (0, .ref 49)] [] _ 0 0 122 (Nat.le_refl _) (Nat.le_refl _) (Nat.le_of_ble_eq_true rfl) (lvR_mk [0, 1] [1, 0] rfl rfl (by decide) (by decide) (List.forall_mem_cons.mpr ⟨(List.mem_cons_of_mem _ List.mem_cons_self), (List.forall_mem_cons.mpr ⟨List.mem_cons_self, (fun _ h => nomatch h)⟩)⟩) (List.forall_mem_cons.mpr ⟨Or.inl (List.mem_cons_of_mem _ List.mem_cons_self), (List.forall_mem_cons.mpr ⟨Or.inl List.mem_cons_self, (fun _ h => nomatch h)⟩)⟩)) h
  · obtain ⟨f, h⟩ := h2 hc
    refine ⟨f + 3, ?_⟩
    rw [key, if_neg hc]
    exact nrun_ext f f _ _ R 322 50 [(0, .ref 49)] [(1, .int t0), (0, .ref 49)] [] _ 0 0 122 (Nat.le_refl _) (Nat.le_refl _) (Nat.le_of_ble_eq_true rfl) (lvR_mk [0] [1, 0] rfl rfl (by decide) (by decide) (List.forall_mem_cons.mpr ⟨(List.mem_cons_of_mem _ List.mem_cons_self), (fun _ h => nomatch h)⟩) (List.forall_mem_cons.mpr ⟨Or.inr rfl, (List.forall_mem_cons.mpr ⟨Or.inl List.mem_cons_self, (fun _ h => nomatch h)⟩)⟩)) h
set_option maxRecDepth 100000 in
set_option maxHeartbeats 4000000 in
theorem bk_322_50 {b : Bool} {d : Nat} {e : Nat → x_E} {g : Nat → Int32} {q : Nat → Int64} {c : Nat → Nat → Int32} {l : Nat → Nat → Int64} : rr b e d 322 50 [(0, .ref 49)] [] g q c l (none, rH e (upd (upd g 10 ((Int32.ofInt (0)))) 12 (((upd g 10 ((Int32.ofInt (0)))) 11))) q c l) := by
  refine ⟨0 + 8, ?_⟩
  obtain ⟨y, cb, hj⟩ := mq_322
  rw [n_step (st' := [.ref 49]) (pc' := 51) (lv' := [(0, .ref 49)]) (hp' := rH e g q c l) (i := .aload_n 0) (len := 1) rfl hj rfl rfl rfl]
  rw [n_step (st' := [.int (Int32.ofInt (0)), .ref 49]) (pc' := 52) (lv' := [(0, .ref 49)]) (hp' := rH e g q c l) (i := .iconst 0) (len := 1) rfl hj rfl rfl rfl]
  rw [n_put (st' := []) (hp' := rH e (upd g 10 ((Int32.ofInt (0)))) q c l) rfl hj pf_10]
  rw [n_step (st' := [.ref 49]) (pc' := 56) (lv' := [(0, .ref 49)]) (hp' := rH e (upd g 10 ((Int32.ofInt (0)))) q c l) (i := .aload_n 0) (len := 1) rfl hj rfl rfl rfl]
  rw [n_step (st' := [.ref 49, .ref 49]) (pc' := 57) (lv' := [(0, .ref 49)]) (hp' := rH e (upd g 10 ((Int32.ofInt (0)))) q c l) (i := .aload_n 0) (len := 1) rfl hj rfl rfl rfl]
  rw [n_get (st' := [.int ((upd g 10 ((Int32.ofInt (0)))) 11), .ref 49]) (pc' := 60) (lv' := [(0, .ref 49)]) (hp' := rH e (upd g 10 ((Int32.ofInt (0)))) q c l) (i := .getfield 257) (len := 3) rfl hj rfl rfl rfl rfl]
  rw [n_put (st' := []) (hp' := rH e (upd (upd g 10 ((Int32.ofInt (0)))) 12 (((upd g 10 ((Int32.ofInt (0)))) 11))) q c l) rfl hj pf_12]
  exact n_ret rfl hj rfl rfl rfl
set_option maxRecDepth 100000 in
set_option maxHeartbeats 4000000 in
theorem bk_322_64 {b : Bool} {d : Nat} {x1 : Int32} {e : Nat → x_E} {g : Nat → Int32} {q : Nat → Int64} {c : Nat → Nat → Int32} {l : Nat → Nat → Int64} {g' : Nat → Int32} {q' : Nat → Int64} {c' : Nat → Nat → Int32} {l' : Nat → Nat → Int64} {v : Int32} {R : Option Value × List x_E} (hc : rr b e d 326 0 [(0, .int x1)] [] (upd g 17 (((g 17) + (Int32.ofInt (1))))) q c l (some (.int v), rH e g' q' c' l')) (h : rr b e (d + 1) 322 78 [(0, .ref 49), (1, .int x1)] [.int v] g' q' c' l' R) : rr b e (d + 1) 322 64 [(0, .ref 49), (1, .int x1)] [] g q c l R := by
  obtain ⟨f1, hc⟩ := hc
  obtain ⟨f2, h⟩ := h
  obtain ⟨f, hf1, hf2⟩ : ∃ f, f1 ≤ f ∧ f2 ≤ f := ⟨max f1 f2, Nat.le_max_left _ _, Nat.le_max_right _ _⟩
  have hc := nrun_fuel f1 f _ _ _ _ _ _ _ _ _ hf1 hc
  have h := nrun_fuel f2 f _ _ _ _ _ _ _ _ _ hf2 h
  refine ⟨f + 8, ?_⟩
  obtain ⟨y, cb, hj⟩ := mq_322
  rw [n_step (st' := [.ref 49]) (pc' := 65) (lv' := [(0, .ref 49), (1, .int x1)]) (hp' := rH e g q c l) (i := .aload_n 0) (len := 1) rfl hj rfl rfl rfl]
  rw [n_step (st' := [.ref 49, .ref 49]) (pc' := 66) (lv' := [(0, .ref 49), (1, .int x1)]) (hp' := rH e g q c l) (i := .aload_n 0) (len := 1) rfl hj rfl rfl rfl]
  rw [n_get (st' := [.int (g 17), .ref 49]) (pc' := 69) (lv' := [(0, .ref 49), (1, .int x1)]) (hp' := rH e g q c l) (i := .getfield 251) (len := 3) rfl hj rfl rfl rfl rfl]
  rw [n_step (st' := [.int (Int32.ofInt (1)), .int (g 17), .ref 49]) (pc' := 70) (lv' := [(0, .ref 49), (1, .int x1)]) (hp' := rH e g q c l) (i := .iconst 1) (len := 1) rfl hj rfl rfl rfl]
  rw [n_step (st' := [.int ((g 17) + (Int32.ofInt (1))), .ref 49]) (pc' := 71) (lv' := [(0, .ref 49), (1, .int x1)]) (hp' := rH e g q c l) (i := .iadd) (len := 1) rfl hj rfl rfl rfl]
  rw [n_put (st' := []) (hp' := rH e (upd g 17 (((g 17) + (Int32.ofInt (1))))) q c l) rfl hj pf_17]
  rw [n_step (st' := [.int x1]) (pc' := 75) (lv' := [(0, .ref 49), (1, .int x1)]) (hp' := rH e (upd g 17 (((g 17) + (Int32.ofInt (1))))) q c l) (i := .iload_n 1) (len := 1) rfl hj rfl rfl rfl]
  obtain ⟨y2, cb2, hj2⟩ := mq_326
  rw [n_call (f := f) (d := d) (ki := 1) (idx := 276) (j' := 326) (kd := 1) (M' := (y2, cb2, 1, some .boolean, 12, 1, 0, 0)) (avs := [.int x1]) (r := []) (rv := some (.int v)) (hp1 := rH e g' q' c' l') rfl hj rfl rfl rfl rfl (rq_t rfl rfl hj2 rfl) rfl hc (Nat.le_of_ble_eq_true rfl)]
  exact h
set_option maxRecDepth 100000 in
set_option maxHeartbeats 4000000 in
theorem bk_322_78 {b : Bool} {d : Nat} {t0 x1 : Int32} {e : Nat → x_E} {g : Nat → Int32} {q : Nat → Int64} {c : Nat → Nat → Int32} {l : Nat → Nat → Int64} {R : Option Value × List x_E} (h1 : xCn .eq t0 0 = true → rr b e d 322 88 [(0, .ref 49), (1, .int x1)] [] g q c l R) (h2 : ¬ xCn .eq t0 0 = true → rr b e d 322 81 [(0, .ref 49)] [] g q c l R) : rr b e d 322 78 [(0, .ref 49), (1, .int x1)] [.int t0] g q c l R := by
  have key : ∀ f, nrun xZ (xY (xfm b)) xDT (f + 1) d 322 78 [(0, .ref 49), (1, .int x1)] [.int t0] (rH e g q c l) 0 0 = nrun xZ (xY (xfm b)) xDT f d 322 (if xCn .eq t0 0 = true then 88 else 81) [(0, .ref 49), (1, .int x1)] [] (rH e g q c l) 0 0 := by
    intro f
    obtain ⟨y, cb, hj⟩ := mq_322
    rw [n_step (st' := []) (pc' := (if xCn .eq t0 0 = true then 88 else 81)) (lv' := [(0, .ref 49), (1, .int x1)]) (hp' := rH e g q c l) (i := .ifCond .eq 10) (len := 3) rfl hj rfl rfl rfl]
  by_cases hc : xCn .eq t0 0 = true
  · obtain ⟨f, h⟩ := h1 hc
    refine ⟨f + 1, ?_⟩
    rw [key, if_pos hc]
    exact h
  · obtain ⟨f, h⟩ := h2 hc
    refine ⟨f + 1, ?_⟩
    rw [key, if_neg hc]
    exact nrun_ext f f _ _ R 322 81 [(0, .ref 49)] [(0, .ref 49), (1, .int x1)] [] _ 0 0 122 (Nat.le_refl _) (Nat.le_refl _) (Nat.le_of_ble_eq_true rfl) (lvR_mk [0] [0, 1] rfl rfl (by decide) (by decide) (List.forall_mem_cons.mpr ⟨List.mem_cons_self, (fun _ h => nomatch h)⟩) (List.forall_mem_cons.mpr ⟨Or.inl List.mem_cons_self, (List.forall_mem_cons.mpr ⟨Or.inr rfl, (fun _ h => nomatch h)⟩)⟩)) h
set_option maxRecDepth 100000 in
set_option maxHeartbeats 4000000 in
theorem bk_322_81 {b : Bool} {d : Nat} {e : Nat → x_E} {g : Nat → Int32} {q : Nat → Int64} {c : Nat → Nat → Int32} {l : Nat → Nat → Int64} {g' : Nat → Int32} {q' : Nat → Int64} {c' : Nat → Nat → Int32} {l' : Nat → Nat → Int64} {R : Option Value × List x_E} (hc : rr b e d 327 0 [(0, .ref 49)] [] g q c l (none, rH e g' q' c' l')) (h : rr b e (d + 1) 322 85 [] [] g' q' c' l' R) : rr b e (d + 1) 322 81 [(0, .ref 49)] [] g q c l R := by
  obtain ⟨f1, hc⟩ := hc
  obtain ⟨f2, h⟩ := h
  obtain ⟨f, hf1, hf2⟩ : ∃ f, f1 ≤ f ∧ f2 ≤ f := ⟨max f1 f2, Nat.le_max_left _ _, Nat.le_max_right _ _⟩
  have hc := nrun_fuel f1 f _ _ _ _ _ _ _ _ _ hf1 hc
  have h := nrun_fuel f2 f _ _ _ _ _ _ _ _ _ hf2 h
  refine ⟨f + 2, ?_⟩
  obtain ⟨y, cb, hj⟩ := mq_322
  rw [n_step (st' := [.ref 49]) (pc' := 82) (lv' := [(0, .ref 49)]) (hp' := rH e g q c l) (i := .aload_n 0) (len := 1) rfl hj rfl rfl rfl]
  obtain ⟨y2, cb2, hj2⟩ := mq_327
  rw [n_call (f := f) (d := d) (ki := 0) (idx := 280) (j' := 327) (kd := 0) (M' := (y2, cb2, 2, none, 12, 0, 0, 0)) (avs := [.ref 49]) (r := []) (rv := none) (hp1 := rH e g' q' c' l') rfl hj rfl rfl rfl rfl (rq_n rfl rfl hj2 rfl rfl) rfl hc (Nat.le_of_ble_eq_true rfl)]
  exact nrun_ext f f _ _ R 322 85 [] [(0, .ref 49)] [] _ 0 0 122 (Nat.le_refl _) (Nat.le_refl _) (Nat.le_of_ble_eq_true rfl) (lvR_mk [] [0] rfl rfl (by decide) (by decide) (fun _ h => nomatch h) (List.forall_mem_cons.mpr ⟨Or.inr rfl, (fun _ h => nomatch h)⟩)) h
set_option maxRecDepth 100000 in
set_option maxHeartbeats 4000000 in
theorem bk_322_85 {b : Bool} {d : Nat} {e : Nat → x_E} {g : Nat → Int32} {q : Nat → Int64} {c : Nat → Nat → Int32} {l : Nat → Nat → Int64} {R : Option Value × List x_E} (h : rr b e d 322 107 [] [] g q c l R) : rr b e d 322 85 [] [] g q c l R := by
  obtain ⟨f, h⟩ := h
  refine ⟨f + 1, ?_⟩
  obtain ⟨y, cb, hj⟩ := mq_322
  rw [n_step (st' := []) (pc' := 107) (lv' := []) (hp' := rH e g q c l) (i := .goto 22) (len := 3) rfl hj rfl rfl rfl]
  exact h
set_option maxRecDepth 100000 in
set_option maxHeartbeats 4000000 in
theorem bk_322_88 {b : Bool} {d : Nat} {x1 : Int32} {e : Nat → x_E} {g : Nat → Int32} {q : Nat → Int64} {c : Nat → Nat → Int32} {l : Nat → Nat → Int64} {g' : Nat → Int32} {q' : Nat → Int64} {c' : Nat → Nat → Int32} {l' : Nat → Nat → Int64} {v : Int32} {R : Option Value × List x_E} (hc : rr b e d 328 0 [(0, .int x1)] [] g q c l (some (.int v), rH e g' q' c' l')) (h : rr b e (d + 1) 322 92 [(0, .ref 49), (1, .int x1)] [.int v] g' q' c' l' R) : rr b e (d + 1) 322 88 [(0, .ref 49), (1, .int x1)] [] g q c l R := by
  obtain ⟨f1, hc⟩ := hc
  obtain ⟨f2, h⟩ := h
  obtain ⟨f, hf1, hf2⟩ : ∃ f, f1 ≤ f ∧ f2 ≤ f := ⟨max f1 f2, Nat.le_max_left _ _, Nat.le_max_right _ _⟩
  have hc := nrun_fuel f1 f _ _ _ _ _ _ _ _ _ hf1 hc
  have h := nrun_fuel f2 f _ _ _ _ _ _ _ _ _ hf2 h
  refine ⟨f + 2, ?_⟩
  obtain ⟨y, cb, hj⟩ := mq_322
  rw [n_step (st' := [.int x1]) (pc' := 89) (lv' := [(0, .ref 49), (1, .int x1)]) (hp' := rH e g q c l) (i := .iload_n 1) (len := 1) rfl hj rfl rfl rfl]
  obtain ⟨y2, cb2, hj2⟩ := mq_328
  rw [n_call (f := f) (d := d) (ki := 1) (idx := 283) (j' := 328) (kd := 1) (M' := (y2, cb2, 1, some .boolean, 12, 1, 0, 0)) (avs := [.int x1]) (r := []) (rv := some (.int v)) (hp1 := rH e g' q' c' l') rfl hj rfl rfl rfl rfl (rq_t rfl rfl hj2 rfl) rfl hc (Nat.le_of_ble_eq_true rfl)]
  exact h
set_option maxRecDepth 100000 in
set_option maxHeartbeats 4000000 in
theorem bk_322_92 {b : Bool} {d : Nat} {t0 x1 : Int32} {e : Nat → x_E} {g : Nat → Int32} {q : Nat → Int64} {c : Nat → Nat → Int32} {l : Nat → Nat → Int64} {R : Option Value × List x_E} (h1 : xCn .eq t0 0 = true → rr b e d 322 102 [(0, .ref 49), (1, .int x1)] [] g q c l R) (h2 : ¬ xCn .eq t0 0 = true → rr b e d 322 95 [(0, .ref 49)] [] g q c l R) : rr b e d 322 92 [(0, .ref 49), (1, .int x1)] [.int t0] g q c l R := by
  have key : ∀ f, nrun xZ (xY (xfm b)) xDT (f + 1) d 322 92 [(0, .ref 49), (1, .int x1)] [.int t0] (rH e g q c l) 0 0 = nrun xZ (xY (xfm b)) xDT f d 322 (if xCn .eq t0 0 = true then 102 else 95) [(0, .ref 49), (1, .int x1)] [] (rH e g q c l) 0 0 := by
    intro f
    obtain ⟨y, cb, hj⟩ := mq_322
    rw [n_step (st' := []) (pc' := (if xCn .eq t0 0 = true then 102 else 95)) (lv' := [(0, .ref 49), (1, .int x1)]) (hp' := rH e g q c l) (i := .ifCond .eq 10) (len := 3) rfl hj rfl rfl rfl]
  by_cases hc : xCn .eq t0 0 = true
  · obtain ⟨f, h⟩ := h1 hc
    refine ⟨f + 1, ?_⟩
    rw [key, if_pos hc]
    exact h
  · obtain ⟨f, h⟩ := h2 hc
    refine ⟨f + 1, ?_⟩
    rw [key, if_neg hc]
    exact nrun_ext f f _ _ R 322 95 [(0, .ref 49)] [(0, .ref 49), (1, .int x1)] [] _ 0 0 122 (Nat.le_refl _) (Nat.le_refl _) (Nat.le_of_ble_eq_true rfl) (lvR_mk [0] [0, 1] rfl rfl (by decide) (by decide) (List.forall_mem_cons.mpr ⟨List.mem_cons_self, (fun _ h => nomatch h)⟩) (List.forall_mem_cons.mpr ⟨Or.inl List.mem_cons_self, (List.forall_mem_cons.mpr ⟨Or.inr rfl, (fun _ h => nomatch h)⟩)⟩)) h
set_option maxRecDepth 100000 in
set_option maxHeartbeats 4000000 in
theorem bk_322_95 {b : Bool} {d : Nat} {e : Nat → x_E} {g : Nat → Int32} {q : Nat → Int64} {c : Nat → Nat → Int32} {l : Nat → Nat → Int64} {g' : Nat → Int32} {q' : Nat → Int64} {c' : Nat → Nat → Int32} {l' : Nat → Nat → Int64} {R : Option Value × List x_E} (hc : rr b e d 331 0 [(0, .ref 49)] [] g q c l (none, rH e g' q' c' l')) (h : rr b e (d + 1) 322 99 [] [] g' q' c' l' R) : rr b e (d + 1) 322 95 [(0, .ref 49)] [] g q c l R := by
  obtain ⟨f1, hc⟩ := hc
  obtain ⟨f2, h⟩ := h
  obtain ⟨f, hf1, hf2⟩ : ∃ f, f1 ≤ f ∧ f2 ≤ f := ⟨max f1 f2, Nat.le_max_left _ _, Nat.le_max_right _ _⟩
  have hc := nrun_fuel f1 f _ _ _ _ _ _ _ _ _ hf1 hc
  have h := nrun_fuel f2 f _ _ _ _ _ _ _ _ _ hf2 h
  refine ⟨f + 2, ?_⟩
  obtain ⟨y, cb, hj⟩ := mq_322
  rw [n_step (st' := [.ref 49]) (pc' := 96) (lv' := [(0, .ref 49)]) (hp' := rH e g q c l) (i := .aload_n 0) (len := 1) rfl hj rfl rfl rfl]
  obtain ⟨y2, cb2, hj2⟩ := mq_331
  rw [n_call (f := f) (d := d) (ki := 0) (idx := 286) (j' := 331) (kd := 0) (M' := (y2, cb2, 4, none, 12, 0, 0, 0)) (avs := [.ref 49]) (r := []) (rv := none) (hp1 := rH e g' q' c' l') rfl hj rfl rfl rfl rfl (rq_n rfl rfl hj2 rfl rfl) rfl hc (Nat.le_of_ble_eq_true rfl)]
  exact nrun_ext f f _ _ R 322 99 [] [(0, .ref 49)] [] _ 0 0 122 (Nat.le_refl _) (Nat.le_refl _) (Nat.le_of_ble_eq_true rfl) (lvR_mk [] [0] rfl rfl (by decide) (by decide) (fun _ h => nomatch h) (List.forall_mem_cons.mpr ⟨Or.inr rfl, (fun _ h => nomatch h)⟩)) h
set_option maxRecDepth 100000 in
set_option maxHeartbeats 4000000 in
theorem bk_322_99 {b : Bool} {d : Nat} {e : Nat → x_E} {g : Nat → Int32} {q : Nat → Int64} {c : Nat → Nat → Int32} {l : Nat → Nat → Int64} {R : Option Value × List x_E} (h : rr b e d 322 107 [] [] g q c l R) : rr b e d 322 99 [] [] g q c l R := by
  obtain ⟨f, h⟩ := h
  refine ⟨f + 1, ?_⟩
  obtain ⟨y, cb, hj⟩ := mq_322
  rw [n_step (st' := []) (pc' := 107) (lv' := []) (hp' := rH e g q c l) (i := .goto 8) (len := 3) rfl hj rfl rfl rfl]
  exact h
set_option maxRecDepth 100000 in
set_option maxHeartbeats 4000000 in
theorem bk_322_102 {b : Bool} {d : Nat} {x1 : Int32} {e : Nat → x_E} {g : Nat → Int32} {q : Nat → Int64} {c : Nat → Nat → Int32} {l : Nat → Nat → Int64} {g' : Nat → Int32} {q' : Nat → Int64} {c' : Nat → Nat → Int32} {l' : Nat → Nat → Int64} {R : Option Value × List x_E} (hc : rr b e d 332 0 [(0, .ref 49), (1, .int x1)] [] g q c l (none, rH e g' q' c' l')) (h : rr b e (d + 1) 322 107 [] [] g' q' c' l' R) : rr b e (d + 1) 322 102 [(0, .ref 49), (1, .int x1)] [] g q c l R := by
  obtain ⟨f1, hc⟩ := hc
  obtain ⟨f2, h⟩ := h
  obtain ⟨f, hf1, hf2⟩ : ∃ f, f1 ≤ f ∧ f2 ≤ f := ⟨max f1 f2, Nat.le_max_left _ _, Nat.le_max_right _ _⟩
  have hc := nrun_fuel f1 f _ _ _ _ _ _ _ _ _ hf1 hc
  have h := nrun_fuel f2 f _ _ _ _ _ _ _ _ _ hf2 h
  refine ⟨f + 3, ?_⟩
  obtain ⟨y, cb, hj⟩ := mq_322
  rw [n_step (st' := [.ref 49]) (pc' := 103) (lv' := [(0, .ref 49), (1, .int x1)]) (hp' := rH e g q c l) (i := .aload_n 0) (len := 1) rfl hj rfl rfl rfl]
  rw [n_step (st' := [.int x1, .ref 49]) (pc' := 104) (lv' := [(0, .ref 49), (1, .int x1)]) (hp' := rH e g q c l) (i := .iload_n 1) (len := 1) rfl hj rfl rfl rfl]
  obtain ⟨y2, cb2, hj2⟩ := mq_332
  rw [n_call (f := f) (d := d) (ki := 0) (idx := 289) (j' := 332) (kd := 0) (M' := (y2, cb2, 4, none, 12, 1, 0, 0)) (avs := [.ref 49, .int x1]) (r := []) (rv := none) (hp1 := rH e g' q' c' l') rfl hj rfl rfl rfl rfl (rq_n rfl rfl hj2 rfl rfl) rfl hc (Nat.le_of_ble_eq_true rfl)]
  exact nrun_ext f f _ _ R 322 107 [] [(0, .ref 49), (1, .int x1)] [] _ 0 0 122 (Nat.le_refl _) (Nat.le_refl _) (Nat.le_of_ble_eq_true rfl) (lvR_mk [] [0, 1] rfl rfl (by decide) (by decide) (fun _ h => nomatch h) (List.forall_mem_cons.mpr ⟨Or.inr rfl, (List.forall_mem_cons.mpr ⟨Or.inr rfl, (fun _ h => nomatch h)⟩)⟩)) h
set_option maxRecDepth 100000 in
set_option maxHeartbeats 4000000 in
theorem bk_322_107 {b : Bool} {d : Nat} {e : Nat → x_E} {g : Nat → Int32} {q : Nat → Int64} {c : Nat → Nat → Int32} {l : Nat → Nat → Int64} : rr b e d 322 107 [] [] g q c l (none, rH e g q c l) := by
  refine ⟨0 + 1, ?_⟩
  obtain ⟨y, cb, hj⟩ := mq_322
  exact n_ret rfl hj rfl rfl rfl
set_option maxRecDepth 100000 in
set_option maxHeartbeats 4000000 in
theorem bk_323_0 {b : Bool} {d : Nat} {x1 x2 : Int32} {e : Nat → x_E} {g : Nat → Int32} {q : Nat → Int64} {c : Nat → Nat → Int32} {l : Nat → Nat → Int64} {R : Option Value × List x_E} (h1 : xCn .eq ((g 19)) 0 = true → rr b e d 323 8 [(0, .ref 49), (1, .int x1), (2, .int x2)] [] g q c l R) (h2 : ¬ xCn .eq ((g 19)) 0 = true → rr b e d 323 7 [] [] g q c l R) : rr b e d 323 0 [(0, .ref 49), (1, .int x1), (2, .int x2)] [] g q c l R := by
  have key : ∀ f, nrun xZ (xY (xfm b)) xDT (f + 3) d 323 0 [(0, .ref 49), (1, .int x1), (2, .int x2)] [] (rH e g q c l) 0 0 = nrun xZ (xY (xfm b)) xDT f d 323 (if xCn .eq ((g 19)) 0 = true then 8 else 7) [(0, .ref 49), (1, .int x1), (2, .int x2)] [] (rH e g q c l) 0 0 := by
    intro f
    obtain ⟨y, cb, hj⟩ := mq_323
    rw [n_step (st' := [.ref 49]) (pc' := 1) (lv' := [(0, .ref 49), (1, .int x1), (2, .int x2)]) (hp' := rH e g q c l) (i := .aload_n 0) (len := 1) rfl hj rfl rfl rfl]
    rw [n_get (st' := [.int (g 19)]) (pc' := 4) (lv' := [(0, .ref 49), (1, .int x1), (2, .int x2)]) (hp' := rH e g q c l) (i := .getfield 319) (len := 3) rfl hj rfl rfl rfl rfl]
    rw [n_step (st' := []) (pc' := (if xCn .eq ((g 19)) 0 = true then 8 else 7)) (lv' := [(0, .ref 49), (1, .int x1), (2, .int x2)]) (hp' := rH e g q c l) (i := .ifCond .eq 4) (len := 3) rfl hj rfl rfl rfl]
  by_cases hc : xCn .eq ((g 19)) 0 = true
  · obtain ⟨f, h⟩ := h1 hc
    refine ⟨f + 3, ?_⟩
    rw [key, if_pos hc]
    exact h
  · obtain ⟨f, h⟩ := h2 hc
    refine ⟨f + 3, ?_⟩
    rw [key, if_neg hc]
    exact nrun_ext f f _ _ R 323 7 [] [(0, .ref 49), (1, .int x1), (2, .int x2)] [] _ 0 0 122 (Nat.le_refl _) (Nat.le_refl _) (Nat.le_of_ble_eq_true rfl) (lvR_mk [] [0, 1, 2] rfl rfl (by decide) (by decide) (fun _ h => nomatch h) (List.forall_mem_cons.mpr ⟨Or.inr rfl, (List.forall_mem_cons.mpr ⟨Or.inr rfl, (List.forall_mem_cons.mpr ⟨Or.inr rfl, (fun _ h => nomatch h)⟩)⟩)⟩)) h
set_option maxRecDepth 100000 in
set_option maxHeartbeats 4000000 in
theorem bk_323_7 {b : Bool} {d : Nat} {e : Nat → x_E} {g : Nat → Int32} {q : Nat → Int64} {c : Nat → Nat → Int32} {l : Nat → Nat → Int64} : rr b e d 323 7 [] [] g q c l (none, rH e g q c l) := by
  refine ⟨0 + 1, ?_⟩
  obtain ⟨y, cb, hj⟩ := mq_323
  exact n_ret rfl hj rfl rfl rfl
set_option maxRecDepth 100000 in
set_option maxHeartbeats 4000000 in
theorem bk_323_8 {b : Bool} {d : Nat} {x1 x2 : Int32} {e : Nat → x_E} {g : Nat → Int32} {q : Nat → Int64} {c : Nat → Nat → Int32} {l : Nat → Nat → Int64} : rr b e d 323 8 [(0, .ref 49), (1, .int x1), (2, .int x2)] [] g q c l (none, rH e (upd (upd g 19 x1) 20 x2) q c l) := by
  refine ⟨0 + 7, ?_⟩
  obtain ⟨y, cb, hj⟩ := mq_323
  rw [n_step (st' := [.ref 49]) (pc' := 9) (lv' := [(0, .ref 49), (1, .int x1), (2, .int x2)]) (hp' := rH e g q c l) (i := .aload_n 0) (len := 1) rfl hj rfl rfl rfl]
  rw [n_step (st' := [.int x1, .ref 49]) (pc' := 10) (lv' := [(0, .ref 49), (1, .int x1), (2, .int x2)]) (hp' := rH e g q c l) (i := .iload_n 1) (len := 1) rfl hj rfl rfl rfl]
  rw [n_put (st' := []) (hp' := rH e (upd g 19 x1) q c l) rfl hj pf_19]
  rw [n_step (st' := [.ref 49]) (pc' := 14) (lv' := [(0, .ref 49), (1, .int x1), (2, .int x2)]) (hp' := rH e (upd g 19 x1) q c l) (i := .aload_n 0) (len := 1) rfl hj rfl rfl rfl]
  rw [n_step (st' := [.int x2, .ref 49]) (pc' := 15) (lv' := [(0, .ref 49), (1, .int x1), (2, .int x2)]) (hp' := rH e (upd g 19 x1) q c l) (i := .iload_n 2) (len := 1) rfl hj rfl rfl rfl]
  rw [n_put (st' := []) (hp' := rH e (upd (upd g 19 x1) 20 x2) q c l) rfl hj pf_20]
  exact n_ret rfl hj rfl rfl rfl
set_option maxRecDepth 100000 in
set_option maxHeartbeats 4000000 in
theorem bk_324_0 {b : Bool} {d : Nat} {x1 : Int32} {e : Nat → x_E} {g : Nat → Int32} {q : Nat → Int64} {c : Nat → Nat → Int32} {l : Nat → Nat → Int64} {R : Option Value × List x_E} (h : rr b e d 324 4 [(0, .ref 49), (2, .int x1), (3, .int (Int32.ofInt (1)))] [] g q c l R) : rr b e d 324 0 [(0, .ref 49), (1, .int x1)] [] g q c l R := by
  obtain ⟨f, h⟩ := h
  refine ⟨f + 4, ?_⟩
  obtain ⟨y, cb, hj⟩ := mq_324
  rw [n_step (st' := [.int x1]) (pc' := 1) (lv' := [(0, .ref 49), (1, .int x1)]) (hp' := rH e g q c l) (i := .iload_n 1) (len := 1) rfl hj rfl rfl rfl]
  rw [n_step (st' := []) (pc' := 2) (lv' := [(2, .int x1), (0, .ref 49), (1, .int x1)]) (hp' := rH e g q c l) (i := .istore_n 2) (len := 1) rfl hj rfl rfl rfl]
  rw [n_step (st' := [.int (Int32.ofInt (1))]) (pc' := 3) (lv' := [(2, .int x1), (0, .ref 49), (1, .int x1)]) (hp' := rH e g q c l) (i := .iconst 1) (len := 1) rfl hj rfl rfl rfl]
  rw [n_step (st' := []) (pc' := 4) (lv' := [(3, .int (Int32.ofInt (1))), (2, .int x1), (0, .ref 49), (1, .int x1)]) (hp' := rH e g q c l) (i := .istore_n 3) (len := 1) rfl hj rfl rfl rfl]
  exact nrun_ext f f _ _ R 324 4 [(0, .ref 49), (2, .int x1), (3, .int (Int32.ofInt (1)))] [(3, .int (Int32.ofInt (1))), (2, .int x1), (0, .ref 49), (1, .int x1)] [] _ 0 0 122 (Nat.le_refl _) (Nat.le_refl _) (Nat.le_of_ble_eq_true rfl) (lvR_mk [0, 2, 3] [3, 2, 0, 1] rfl rfl (by decide) (by decide) (List.forall_mem_cons.mpr ⟨(List.mem_cons_of_mem _ (List.mem_cons_of_mem _ List.mem_cons_self)), (List.forall_mem_cons.mpr ⟨(List.mem_cons_of_mem _ List.mem_cons_self), (List.forall_mem_cons.mpr ⟨List.mem_cons_self, (fun _ h => nomatch h)⟩)⟩)⟩) (List.forall_mem_cons.mpr ⟨Or.inl (List.mem_cons_of_mem _ (List.mem_cons_of_mem _ List.mem_cons_self)), (List.forall_mem_cons.mpr ⟨Or.inl (List.mem_cons_of_mem _ List.mem_cons_self), (List.forall_mem_cons.mpr ⟨Or.inl List.mem_cons_self, (List.forall_mem_cons.mpr ⟨Or.inr rfl, (fun _ h => nomatch h)⟩)⟩)⟩)⟩)) h
