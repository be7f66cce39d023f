set_option maxRecDepth 100000 in
set_option maxHeartbeats 4000000 in
theorem bk_400_41 {b : Bool} {d : Nat} {t0 : Int32} {e : Nat → x_E} {g : Nat → Int32} {q : Nat → Int64} {c : Nat → Nat → Int32} {l : Nat → Nat → Int64} {R : Option Value × List x_E} (h1 : xCn .ne t0 0 = true → rr b e d 400 71 [(0, .ref 49)] [] g q c l R) (h2 : ¬ xCn .ne t0 0 = true → rr b e d 400 44 [(0, .ref 49)] [] g q c l R) : rr b e d 400 41 [(0, .ref 49)] [.int t0] g q c l R := by
  have key : ∀ f, nrun xZ (xY (xfm b)) xDT (f + 1) d 400 41 [(0, .ref 49)] [.int t0] (rH e g q c l) 0 0 = nrun xZ (xY (xfm b)) xDT f d 400 (if xCn .ne t0 0 = true then 71 else 44) [(0, .ref 49)] [] (rH e g q c l) 0 0 := by
    intro f
    obtain ⟨y, cb, hj⟩ := mq_400
    rw [n_step (st' := []) (pc' := (if xCn .ne t0 0 = true then 71 else 44)) (lv' := [(0, .ref 49)]) (hp' := rH e g q c l) (i := .ifCond .ne 30) (len := 3) rfl hj rfl rfl rfl]
  by_cases hc : xCn .ne t0 0 = true
  · obtain ⟨f, h⟩ := h1 hc
    refine ⟨f + 1, ?_⟩
    rw [key, if_pos hc]
    exact h
  · obtain ⟨f, h⟩ := h2 hc
    refine ⟨f + 1, ?_⟩
    rw [key, if_neg hc]
    exact h
set_option maxRecDepth 100000 in
set_option maxHeartbeats 4000000 in
theorem bk_400_44 {b : Bool} {d : Nat} {e : Nat → x_E} {g : Nat → Int32} {q : Nat → Int64} {c : Nat → Nat → Int32} {l : Nat → Nat → Int64} {g' : Nat → Int32} {q' : Nat → Int64} {c' : Nat → Nat → Int32} {l' : Nat → Nat → Int64} {R : Option Value × List x_E} (hc : rr b e d 401 0 [(0, .ref 49)] [] g q c l (none, rH e g' q' c' l')) (h : rr b e (d + 1) 400 48 [(0, .ref 49)] [] g' q' c' l' R) : rr b e (d + 1) 400 44 [(0, .ref 49)] [] g q c l R := by
  obtain ⟨f1, hc⟩ := hc
  obtain ⟨f2, h⟩ := h
  obtain ⟨f, hf1, hf2⟩ : ∃ f, f1 ≤ f ∧ f2 ≤ f := ⟨max f1 f2, Nat.le_max_left _ _, Nat.le_max_right _ _⟩
  have hc := nrun_fuel f1 f _ _ _ _ _ _ _ _ _ hf1 hc
  have h := nrun_fuel f2 f _ _ _ _ _ _ _ _ _ hf2 h
  refine ⟨f + 2, ?_⟩
  obtain ⟨y, cb, hj⟩ := mq_400
  rw [n_step (st' := [.ref 49]) (pc' := 45) (lv' := [(0, .ref 49)]) (hp' := rH e g q c l) (i := .aload_n 0) (len := 1) rfl hj rfl rfl rfl]
  obtain ⟨y2, cb2, hj2⟩ := mq_401
  rw [n_call (f := f) (d := d) (ki := 0) (idx := 769) (j' := 401) (kd := 0) (M' := (y2, cb2, 10, none, 12, 0, 0, 0)) (avs := [.ref 49]) (r := []) (rv := none) (hp1 := rH e g' q' c' l') rfl hj rfl rfl rfl rfl (rq_n rfl rfl hj2 rfl rfl) rfl hc (Nat.le_of_ble_eq_true rfl)]
  exact h
set_option maxRecDepth 100000 in
set_option maxHeartbeats 4000000 in
theorem bk_400_48 {b : Bool} {d : Nat} {e : Nat → x_E} {g : Nat → Int32} {q : Nat → Int64} {c : Nat → Nat → Int32} {l : Nat → Nat → Int64} {g' : Nat → Int32} {q' : Nat → Int64} {c' : Nat → Nat → Int32} {l' : Nat → Nat → Int64} {v : Int32} {R : Option Value × List x_E} (hc : rr b e d 337 0 [(0, .ref 49)] [] g q c l (some (.int v), rH e g' q' c' l')) (h : rr b e (d + 1) 400 52 [(0, .ref 49)] [.int v] g' q' c' l' R) : rr b e (d + 1) 400 48 [(0, .ref 49)] [] g q c l R := by
  obtain ⟨f1, hc⟩ := hc
  obtain ⟨f2, h⟩ := h
  obtain ⟨f, hf1, hf2⟩ : ∃ f, f1 ≤ f ∧ f2 ≤ f := ⟨max f1 f2, Nat.le_max_left _ _, Nat.le_max_right _ _⟩
  have hc := nrun_fuel f1 f _ _ _ _ _ _ _ _ _ hf1 hc
  have h := nrun_fuel f2 f _ _ _ _ _ _ _ _ _ hf2 h
  refine ⟨f + 2, ?_⟩
  obtain ⟨y, cb, hj⟩ := mq_400
  rw [n_step (st' := [.ref 49]) (pc' := 49) (lv' := [(0, .ref 49)]) (hp' := rH e g q c l) (i := .aload_n 0) (len := 1) rfl hj rfl rfl rfl]
  obtain ⟨y2, cb2, hj2⟩ := mq_337
  rw [n_call (f := f) (d := d) (ki := 0) (idx := 337) (j' := 337) (kd := 0) (M' := (y2, cb2, 1, some .boolean, 12, 0, 0, 0)) (avs := [.ref 49]) (r := []) (rv := some (.int v)) (hp1 := rH e g' q' c' l') rfl hj rfl rfl rfl rfl (rq_n rfl rfl hj2 rfl rfl) rfl hc (Nat.le_of_ble_eq_true rfl)]
  exact h
set_option maxRecDepth 100000 in
set_option maxHeartbeats 4000000 in
theorem bk_400_52 {b : Bool} {d : Nat} {t0 : Int32} {e : Nat → x_E} {g : Nat → Int32} {q : Nat → Int64} {c : Nat → Nat → Int32} {l : Nat → Nat → Int64} {R : Option Value × List x_E} (h1 : xCn .ne t0 0 = true → rr b e d 400 66 [(0, .ref 49)] [] g q c l R) (h2 : ¬ xCn .ne t0 0 = true → rr b e d 400 55 [(0, .ref 49)] [] g q c l R) : rr b e d 400 52 [(0, .ref 49)] [.int t0] g q c l R := by
  have key : ∀ f, nrun xZ (xY (xfm b)) xDT (f + 1) d 400 52 [(0, .ref 49)] [.int t0] (rH e g q c l) 0 0 = nrun xZ (xY (xfm b)) xDT f d 400 (if xCn .ne t0 0 = true then 66 else 55) [(0, .ref 49)] [] (rH e g q c l) 0 0 := by
    intro f
    obtain ⟨y, cb, hj⟩ := mq_400
    rw [n_step (st' := []) (pc' := (if xCn .ne t0 0 = true then 66 else 55)) (lv' := [(0, .ref 49)]) (hp' := rH e g q c l) (i := .ifCond .ne 14) (len := 3) rfl hj rfl rfl rfl]
  by_cases hc : xCn .ne t0 0 = true
  · obtain ⟨f, h⟩ := h1 hc
    refine ⟨f + 1, ?_⟩
    rw [key, if_pos hc]
    exact h
  · obtain ⟨f, h⟩ := h2 hc
    refine ⟨f + 1, ?_⟩
    rw [key, if_neg hc]
    exact h
set_option maxRecDepth 100000 in
set_option maxHeartbeats 4000000 in
theorem bk_400_55 {b : Bool} {d : Nat} {e : Nat → x_E} {g : Nat → Int32} {q : Nat → Int64} {c : Nat → Nat → Int32} {l : Nat → Nat → Int64} {R : Option Value × List x_E} (h1 : xCn .eq ((g 10)) 0 = true → rr b e d 400 66 [(0, .ref 49)] [] g q c l R) (h2 : ¬ xCn .eq ((g 10)) 0 = true → rr b e d 400 62 [(0, .ref 49)] [] g q c l R) : rr b e d 400 55 [(0, .ref 49)] [] g q c l R := by
  have key : ∀ f, nrun xZ (xY (xfm b)) xDT (f + 3) d 400 55 [(0, .ref 49)] [] (rH e g q c l) 0 0 = nrun xZ (xY (xfm b)) xDT f d 400 (if xCn .eq ((g 10)) 0 = true then 66 else 62) [(0, .ref 49)] [] (rH e g q c l) 0 0 := by
    intro f
    obtain ⟨y, cb, hj⟩ := mq_400
    rw [n_step (st' := [.ref 49]) (pc' := 56) (lv' := [(0, .ref 49)]) (hp' := rH e g q c l) (i := .aload_n 0) (len := 1) rfl hj rfl rfl rfl]
    rw [n_get (st' := [.int (g 10)]) (pc' := 59) (lv' := [(0, .ref 49)]) (hp' := rH e g q c l) (i := .getfield 273) (len := 3) rfl hj rfl rfl rfl rfl]
    rw [n_step (st' := []) (pc' := (if xCn .eq ((g 10)) 0 = true then 66 else 62)) (lv' := [(0, .ref 49)]) (hp' := rH e g q c l) (i := .ifCond .eq 7) (len := 3) rfl hj rfl rfl rfl]
  by_cases hc : xCn .eq ((g 10)) 0 = true
  · obtain ⟨f, h⟩ := h1 hc
    refine ⟨f + 3, ?_⟩
    rw [key, if_pos hc]
    exact h
  · obtain ⟨f, h⟩ := h2 hc
    refine ⟨f + 3, ?_⟩
    rw [key, if_neg hc]
    exact h
set_option maxRecDepth 100000 in
set_option maxHeartbeats 4000000 in
theorem bk_400_62 {b : Bool} {d : Nat} {e : Nat → x_E} {g : Nat → Int32} {q : Nat → Int64} {c : Nat → Nat → Int32} {l : Nat → Nat → Int64} {R : Option Value × List x_E} (h : rr b e d 400 67 [(0, .ref 49)] [.int (Int32.ofInt (1))] g q c l R) : rr b e d 400 62 [(0, .ref 49)] [] g q c l R := by
  obtain ⟨f, h⟩ := h
  refine ⟨f + 2, ?_⟩
  obtain ⟨y, cb, hj⟩ := mq_400
  rw [n_step (st' := [.int (Int32.ofInt (1))]) (pc' := 63) (lv' := [(0, .ref 49)]) (hp' := rH e g q c l) (i := .iconst 1) (len := 1) rfl hj rfl rfl rfl]
  rw [n_step (st' := [.int (Int32.ofInt (1))]) (pc' := 67) (lv' := [(0, .ref 49)]) (hp' := rH e g q c l) (i := .goto 4) (len := 3) rfl hj rfl rfl rfl]
  exact h
set_option maxRecDepth 100000 in
set_option maxHeartbeats 4000000 in
theorem bk_400_66 {b : Bool} {d : Nat} {e : Nat → x_E} {g : Nat → Int32} {q : Nat → Int64} {c : Nat → Nat → Int32} {l : Nat → Nat → Int64} {R : Option Value × List x_E} (h : rr b e d 400 67 [(0, .ref 49)] [.int (Int32.ofInt (0))] g q c l R) : rr b e d 400 66 [(0, .ref 49)] [] g q c l R := by
  obtain ⟨f, h⟩ := h
  refine ⟨f + 1, ?_⟩
  obtain ⟨y, cb, hj⟩ := mq_400
  rw [n_step (st' := [.int (Int32.ofInt (0))]) (pc' := 67) (lv' := [(0, .ref 49)]) (hp' := rH e g q c l) (i := .iconst 0) (len := 1) rfl hj rfl rfl rfl]
  exact h
set_option maxRecDepth 100000 in
set_option maxHeartbeats 4000000 in
theorem bk_400_67 {b : Bool} {d : Nat} {t0 : Int32} {e : Nat → x_E} {g : Nat → Int32} {q : Nat → Int64} {c : Nat → Nat → Int32} {l : Nat → Nat → Int64} {R : Option Value × List x_E} (h : rr b e d 400 33 [(0, .ref 49), (1, .int t0)] [] g q c l R) : rr b e d 400 67 [(0, .ref 49)] [.int t0] g q c l R := by
  obtain ⟨f, h⟩ := h
  refine ⟨f + 2, ?_⟩
  obtain ⟨y, cb, hj⟩ := mq_400
  rw [n_step (st' := []) (pc' := 68) (lv' := [(1, .int t0), (0, .ref 49)]) (hp' := rH e g q c l) (i := .istore_n 1) (len := 1) rfl hj rfl rfl rfl]
  rw [n_step (st' := []) (pc' := 33) (lv' := [(1, .int t0), (0, .ref 49)]) (hp' := rH e g q c l) (i := .goto (-35)) (len := 3) rfl hj rfl rfl rfl]
  exact nrun_ext f f _ _ R 400 33 [(0, .ref 49), (1, .int t0)] [(1, .int t0), (0, .ref 49)] [] _ 0 0 122 (Nat.le_refl _) (Nat.le_refl _) (Nat.le_of_ble_eq_true rfl) (lvR_mk [0, 1] [1, 0] rfl rfl (by decide) (by decide) (List.forall_mem_cons.mpr ⟨(List.mem_cons_of_mem _ List.mem_cons_self), (List.forall_mem_cons.mpr ⟨List.mem_cons_self, (fun _ h => nomatch h)⟩)⟩) (List.forall_mem_cons.mpr ⟨Or.inl (List.mem_cons_of_mem _ List.mem_cons_self), (List.forall_mem_cons.mpr ⟨Or.inl List.mem_cons_self, (fun _ h => nomatch h)⟩)⟩)) h
set_option maxRecDepth 100000 in
set_option maxHeartbeats 4000000 in
theorem bk_400_71 {b : Bool} {d : Nat} {e : Nat → x_E} {g : Nat → Int32} {q : Nat → Int64} {c : Nat → Nat → Int32} {l : Nat → Nat → Int64} : rr b e d 400 71 [(0, .ref 49)] [] g q c l (none, rH e (upd g 124 ((g 118))) q c l) := by
  refine ⟨0 + 5, ?_⟩
  obtain ⟨y, cb, hj⟩ := mq_400
  rw [n_step (st' := [.ref 49]) (pc' := 72) (lv' := [(0, .ref 49)]) (hp' := rH e g q c l) (i := .aload_n 0) (len := 1) rfl hj rfl rfl rfl]
  rw [n_step (st' := [.ref 49, .ref 49]) (pc' := 73) (lv' := [(0, .ref 49)]) (hp' := rH e g q c l) (i := .aload_n 0) (len := 1) rfl hj rfl rfl rfl]
  rw [n_get (st' := [.int (g 118), .ref 49]) (pc' := 76) (lv' := [(0, .ref 49)]) (hp' := rH e g q c l) (i := .getfield 763) (len := 3) rfl hj rfl rfl rfl rfl]
  rw [n_put (st' := []) (hp' := rH e (upd g 124 ((g 118))) q c l) rfl hj pf_124]
  exact n_ret rfl hj rfl rfl rfl
set_option maxRecDepth 100000 in
set_option maxHeartbeats 4000000 in
theorem bk_401_0 {b : Bool} {d : Nat} {e : Nat → x_E} {g : Nat → Int32} {q : Nat → Int64} {c : Nat → Nat → Int32} {l : Nat → Nat → Int64} {g' : Nat → Int32} {q' : Nat → Int64} {c' : Nat → Nat → Int32} {l' : Nat → Nat → Int64} {v : Int32} {R : Option Value × List x_E} (hc : rr b e d 337 0 [(0, .ref 49)] [] g q c l (some (.int v), rH e g' q' c' l')) (h : rr b e (d + 1) 401 9 [(0, .ref 49), (1, .int (g 11))] [.int v] g' q' c' l' R) : rr b e (d + 1) 401 0 [(0, .ref 49)] [] g q c l R := by
  obtain ⟨f1, hc⟩ := hc
  obtain ⟨f2, h⟩ := h
  obtain ⟨f, hf1, hf2⟩ : ∃ f, f1 ≤ f ∧ f2 ≤ f := ⟨max f1 f2, Nat.le_max_left _ _, Nat.le_max_right _ _⟩
  have hc := nrun_fuel f1 f _ _ _ _ _ _ _ _ _ hf1 hc
  have h := nrun_fuel f2 f _ _ _ _ _ _ _ _ _ hf2 h
  refine ⟨f + 5, ?_⟩
  obtain ⟨y, cb, hj⟩ := mq_401
  rw [n_step (st' := [.ref 49]) (pc' := 1) (lv' := [(0, .ref 49)]) (hp' := rH e g q c l) (i := .aload_n 0) (len := 1) rfl hj rfl rfl rfl]
  rw [n_get (st' := [.int (g 11)]) (pc' := 4) (lv' := [(0, .ref 49)]) (hp' := rH e g q c l) (i := .getfield 257) (len := 3) rfl hj rfl rfl rfl rfl]
  rw [n_step (st' := []) (pc' := 5) (lv' := [(1, .int (g 11)), (0, .ref 49)]) (hp' := rH e g q c l) (i := .istore_n 1) (len := 1) rfl hj rfl rfl rfl]
  rw [n_step (st' := [.ref 49]) (pc' := 6) (lv' := [(1, .int (g 11)), (0, .ref 49)]) (hp' := rH e g q c l) (i := .aload_n 0) (len := 1) rfl hj rfl rfl rfl]
  obtain ⟨y2, cb2, hj2⟩ := mq_337
  rw [n_call (f := f) (d := d) (ki := 0) (idx := 337) (j' := 337) (kd := 0) (M' := (y2, cb2, 1, some .boolean, 12, 0, 0, 0)) (avs := [.ref 49]) (r := []) (rv := some (.int v)) (hp1 := rH e g' q' c' l') rfl hj rfl rfl rfl rfl (rq_n rfl rfl hj2 rfl rfl) rfl hc (Nat.le_of_ble_eq_true rfl)]
  exact nrun_ext f f _ _ R 401 9 [(0, .ref 49), (1, .int (g 11))] [(1, .int (g 11)), (0, .ref 49)] [.int v] _ 0 0 122 (Nat.le_refl _) (Nat.le_refl _) (Nat.le_of_ble_eq_true rfl) (lvR_mk [0, 1] [1, 0] rfl rfl (by decide) (by decide) (List.forall_mem_cons.mpr ⟨(List.mem_cons_of_mem _ List.mem_cons_self), (List.forall_mem_cons.mpr ⟨List.mem_cons_self, (fun _ h => nomatch h)⟩)⟩) (List.forall_mem_cons.mpr ⟨Or.inl (List.mem_cons_of_mem _ List.mem_cons_self), (List.forall_mem_cons.mpr ⟨Or.inl List.mem_cons_self, (fun _ h => nomatch h)⟩)⟩)) h
set_option maxRecDepth 100000 in
set_option maxHeartbeats 4000000 in
theorem bk_401_9 {b : Bool} {d : Nat} {t0 x1 : Int32} {e : Nat → x_E} {g : Nat → Int32} {q : Nat → Int64} {c : Nat → Nat → Int32} {l : Nat → Nat → Int64} {R : Option Value × List x_E} (h1 : xCn .ne t0 0 = true → rr b e d 401 38 [(0, .ref 49), (1, .int x1)] [] g q c l R) (h2 : ¬ xCn .ne t0 0 = true → rr b e d 401 12 [(0, .ref 49), (1, .int x1)] [] g q c l R) : rr b e d 401 9 [(0, .ref 49), (1, .int x1)] [.int t0] g q c l R := by
  have key : ∀ f, nrun xZ (xY (xfm b)) xDT (f + 1) d 401 9 [(0, .ref 49), (1, .int x1)] [.int t0] (rH e g q c l) 0 0 = nrun xZ (xY (xfm b)) xDT f d 401 (if xCn .ne t0 0 = true then 38 else 12) [(0, .ref 49), (1, .int x1)] [] (rH e g q c l) 0 0 := by
    intro f
    obtain ⟨y, cb, hj⟩ := mq_401
    rw [n_step (st' := []) (pc' := (if xCn .ne t0 0 = true then 38 else 12)) (lv' := [(0, .ref 49), (1, .int x1)]) (hp' := rH e g q c l) (i := .ifCond .ne 29) (len := 3) rfl hj rfl rfl rfl]
  by_cases hc : xCn .ne t0 0 = true
  · obtain ⟨f, h⟩ := h1 hc
    refine ⟨f + 1, ?_⟩
    rw [key, if_pos hc]
    exact h
  · obtain ⟨f, h⟩ := h2 hc
    refine ⟨f + 1, ?_⟩
    rw [key, if_neg hc]
    exact h
set_option maxRecDepth 100000 in
set_option maxHeartbeats 4000000 in
theorem bk_401_12 {b : Bool} {d : Nat} {x1 : Int32} {e : Nat → x_E} {g : Nat → Int32} {q : Nat → Int64} {c : Nat → Nat → Int32} {l : Nat → Nat → Int64} {R : Option Value × List x_E} (h1 : xCn .ne ((g 10)) ((Int32.ofInt (1))) = true → rr b e d 401 38 [(0, .ref 49), (1, .int x1)] [] g q c l R) (h2 : ¬ xCn .ne ((g 10)) ((Int32.ofInt (1))) = true → rr b e d 401 20 [(0, .ref 49), (1, .int x1)] [] g q c l R) : rr b e d 401 12 [(0, .ref 49), (1, .int x1)] [] g q c l R := by
  have key : ∀ f, nrun xZ (xY (xfm b)) xDT (f + 4) d 401 12 [(0, .ref 49), (1, .int x1)] [] (rH e g q c l) 0 0 = nrun xZ (xY (xfm b)) xDT f d 401 (if xCn .ne ((g 10)) ((Int32.ofInt (1))) = true then 38 else 20) [(0, .ref 49), (1, .int x1)] [] (rH e g q c l) 0 0 := by
    intro f
    obtain ⟨y, cb, hj⟩ := mq_401
    rw [n_step (st' := [.ref 49]) (pc' := 13) (lv' := [(0, .ref 49), (1, .int x1)]) (hp' := rH e g q c l) (i := .aload_n 0) (len := 1) rfl hj rfl rfl rfl]
    rw [n_get (st' := [.int (g 10)]) (pc' := 16) (lv' := [(0, .ref 49), (1, .int x1)]) (hp' := rH e g q c l) (i := .getfield 273) (len := 3) rfl hj rfl rfl rfl rfl]
    rw [n_step (st' := [.int (Int32.ofInt (1)), .int (g 10)]) (pc' := 17) (lv' := [(0, .ref 49), (1, .int x1)]) (hp' := rH e g q c l) (i := .iconst 1) (len := 1) rfl hj rfl rfl rfl]
    rw [n_step (st' := []) (pc' := (if xCn .ne ((g 10)) ((Int32.ofInt (1))) = true then 38 else 20)) (lv' := [(0, .ref 49), (1, .int x1)]) (hp' := rH e g q c l) (i := .if_icmp .ne 21) (len := 3) rfl hj rfl rfl rfl]
  by_cases hc : xCn .ne ((g 10)) ((Int32.ofInt (1))) = true
  · obtain ⟨f, h⟩ := h1 hc
    refine ⟨f + 4, ?_⟩
    rw [key, if_pos hc]
    exact h
  · obtain ⟨f, h⟩ := h2 hc
    refine ⟨f + 4, ?_⟩
    rw [key, if_neg hc]
    exact h
set_option maxRecDepth 100000 in
set_option maxHeartbeats 4000000 in
theorem bk_401_20 {b : Bool} {d : Nat} {x1 : Int32} {e : Nat → x_E} {g : Nat → Int32} {q : Nat → Int64} {c : Nat → Nat → Int32} {l : Nat → Nat → Int64} {R : Option Value × List x_E} (h1 : xCn .ne ((g 118)) ((Int8.ofInt (40)).toInt32) = true → rr b e d 401 38 [(0, .ref 49), (1, .int x1)] [] g q c l R) (h2 : ¬ xCn .ne ((g 118)) ((Int8.ofInt (40)).toInt32) = true → rr b e d 401 29 [(0, .ref 49), (1, .int x1)] [] g q c l R) : rr b e d 401 20 [(0, .ref 49), (1, .int x1)] [] g q c l R := by
  have key : ∀ f, nrun xZ (xY (xfm b)) xDT (f + 4) d 401 20 [(0, .ref 49), (1, .int x1)] [] (rH e g q c l) 0 0 = nrun xZ (xY (xfm b)) xDT f d 401 (if xCn .ne ((g 118)) ((Int8.ofInt (40)).toInt32) = true then 38 else 29) [(0, .ref 49), (1, .int x1)] [] (rH e g q c l) 0 0 := by
    intro f
    obtain ⟨y, cb, hj⟩ := mq_401
    rw [n_step (st' := [.ref 49]) (pc' := 21) (lv' := [(0, .ref 49), (1, .int x1)]) (hp' := rH e g q c l) (i := .aload_n 0) (len := 1) rfl hj rfl rfl rfl]
    rw [n_get (st' := [.int (g 118)]) (pc' := 24) (lv' := [(0, .ref 49), (1, .int x1)]) (hp' := rH e g q c l) (i := .getfield 763) (len := 3) rfl hj rfl rfl rfl rfl]
    rw [n_step (st' := [.int (Int8.ofInt (40)).toInt32, .int (g 118)]) (pc' := 26) (lv' := [(0, .ref 49), (1, .int x1)]) (hp' := rH e g q c l) (i := .bipush 40) (len := 2) rfl hj rfl rfl rfl]
    rw [n_step (st' := []) (pc' := (if xCn .ne ((g 118)) ((Int8.ofInt (40)).toInt32) = true then 38 else 29)) (lv' := [(0, .ref 49), (1, .int x1)]) (hp' := rH e g q c l) (i := .if_icmp .ne 12) (len := 3) rfl hj rfl rfl rfl]
  by_cases hc : xCn .ne ((g 118)) ((Int8.ofInt (40)).toInt32) = true
  · obtain ⟨f, h⟩ := h1 hc
    refine ⟨f + 4, ?_⟩
    rw [key, if_pos hc]
    exact h
  · obtain ⟨f, h⟩ := h2 hc
    refine ⟨f + 4, ?_⟩
    rw [key, if_neg hc]
    exact h
set_option maxRecDepth 100000 in
set_option maxHeartbeats 4000000 in
theorem bk_401_29 {b : Bool} {d : Nat} {x1 : Int32} {e : Nat → x_E} {g : Nat → Int32} {q : Nat → Int64} {c : Nat → Nat → Int32} {l : Nat → Nat → Int64} {g' : Nat → Int32} {q' : Nat → Int64} {c' : Nat → Nat → Int32} {l' : Nat → Nat → Int64} {R : Option Value × List x_E} (hc : rr b e d 323 0 [(0, .ref 49), (1, .int (Int32.ofInt (2))), (2, .int (g 11))] [] g q c l (none, rH e g' q' c' l')) (h : rr b e (d + 1) 401 38 [(0, .ref 49), (1, .int x1)] [] g' q' c' l' R) : rr b e (d + 1) 401 29 [(0, .ref 49), (1, .int x1)] [] g q c l R := by
  obtain ⟨f1, hc⟩ := hc
  obtain ⟨f2, h⟩ := h
  obtain ⟨f, hf1, hf2⟩ : ∃ f, f1 ≤ f ∧ f2 ≤ f := ⟨max f1 f2, Nat.le_max_left _ _, Nat.le_max_right _ _⟩
  have hc := nrun_fuel f1 f _ _ _ _ _ _ _ _ _ hf1 hc
  have h := nrun_fuel f2 f _ _ _ _ _ _ _ _ _ hf2 h
  refine ⟨f + 5, ?_⟩
  obtain ⟨y, cb, hj⟩ := mq_401
  rw [n_step (st' := [.ref 49]) (pc' := 30) (lv' := [(0, .ref 49), (1, .int x1)]) (hp' := rH e g q c l) (i := .aload_n 0) (len := 1) rfl hj rfl rfl rfl]
  rw [n_step (st' := [.int (Int32.ofInt (2)), .ref 49]) (pc' := 31) (lv' := [(0, .ref 49), (1, .int x1)]) (hp' := rH e g q c l) (i := .iconst 2) (len := 1) rfl hj rfl rfl rfl]
  rw [n_step (st' := [.ref 49, .int (Int32.ofInt (2)), .ref 49]) (pc' := 32) (lv' := [(0, .ref 49), (1, .int x1)]) (hp' := rH e g q c l) (i := .aload_n 0) (len := 1) rfl hj rfl rfl rfl]
  rw [n_get (st' := [.int (g 11), .int (Int32.ofInt (2)), .ref 49]) (pc' := 35) (lv' := [(0, .ref 49), (1, .int x1)]) (hp' := rH e g q c l) (i := .getfield 257) (len := 3) rfl hj rfl rfl rfl rfl]
  obtain ⟨y2, cb2, hj2⟩ := mq_323
  rw [n_call (f := f) (d := d) (ki := 0) (idx := 260) (j' := 323) (kd := 0) (M' := (y2, cb2, 3, none, 12, 2, 0, 0)) (avs := [.ref 49, .int (Int32.ofInt (2)), .int (g 11)]) (r := []) (rv := none) (hp1 := rH e g' q' c' l') rfl hj rfl rfl rfl rfl (rq_n rfl rfl hj2 rfl rfl) rfl hc (Nat.le_of_ble_eq_true rfl)]
  exact h
set_option maxRecDepth 100000 in
set_option maxHeartbeats 4000000 in
theorem bk_401_38 {b : Bool} {d : Nat} {x1 : Int32} {e : Nat → x_E} {g : Nat → Int32} {q : Nat → Int64} {c : Nat → Nat → Int32} {l : Nat → Nat → Int64} {g' : Nat → Int32} {q' : Nat → Int64} {c' : Nat → Nat → Int32} {l' : Nat → Nat → Int64} {R : Option Value × List x_E} (hc : rr b e d 341 0 [(0, .ref 49)] [] g q c l (none, rH e g' q' c' l')) (h : rr b e (d + 1) 401 42 [(0, .ref 49), (1, .int x1)] [] g' q' c' l' R) : rr b e (d + 1) 401 38 [(0, .ref 49), (1, .int x1)] [] g q c l R := by
  obtain ⟨f1, hc⟩ := hc
  obtain ⟨f2, h⟩ := h
  obtain ⟨f, hf1, hf2⟩ : ∃ f, f1 ≤ f ∧ f2 ≤ f := ⟨max f1 f2, Nat.le_max_left _ _, Nat.le_max_right _ _⟩
  have hc := nrun_fuel f1 f _ _ _ _ _ _ _ _ _ hf1 hc
  have h := nrun_fuel f2 f _ _ _ _ _ _ _ _ _ hf2 h
  refine ⟨f + 2, ?_⟩
  obtain ⟨y, cb, hj⟩ := mq_401
  rw [n_step (st' := [.ref 49]) (pc' := 39) (lv' := [(0, .ref 49), (1, .int x1)]) (hp' := rH e g q c l) (i := .aload_n 0) (len := 1) rfl hj rfl rfl rfl]
  obtain ⟨y2, cb2, hj2⟩ := mq_341
  rw [n_call (f := f) (d := d) (ki := 0) (idx := 411) (j' := 341) (kd := 0) (M' := (y2, cb2, 1, none, 12, 0, 0, 0)) (avs := [.ref 49]) (r := []) (rv := none) (hp1 := rH e g' q' c' l') rfl hj rfl rfl rfl rfl (rq_n rfl rfl hj2 rfl rfl) rfl hc (Nat.le_of_ble_eq_true rfl)]
  exact h
set_option maxRecDepth 100000 in
set_option maxHeartbeats 4000000 in
theorem bk_401_42 {b : Bool} {d : Nat} {x1 : Int32} {e : Nat → x_E} {g : Nat → Int32} {q : Nat → Int64} {c : Nat → Nat → Int32} {l : Nat → Nat → Int64} {g' : Nat → Int32} {q' : Nat → Int64} {c' : Nat → Nat → Int32} {l' : Nat → Nat → Int64} {v : Int32} {R : Option Value × List x_E} (hc : rr b e d 337 0 [(0, .ref 49)] [] g q c l (some (.int v), rH e g' q' c' l')) (h : rr b e (d + 1) 401 46 [(0, .ref 49), (1, .int x1)] [.int v] g' q' c' l' R) : rr b e (d + 1) 401 42 [(0, .ref 49), (1, .int x1)] [] g q c l R := by
  obtain ⟨f1, hc⟩ := hc
  obtain ⟨f2, h⟩ := h
  obtain ⟨f, hf1, hf2⟩ : ∃ f, f1 ≤ f ∧ f2 ≤ f := ⟨max f1 f2, Nat.le_max_left _ _, Nat.le_max_right _ _⟩
  have hc := nrun_fuel f1 f _ _ _ _ _ _ _ _ _ hf1 hc
  have h := nrun_fuel f2 f _ _ _ _ _ _ _ _ _ hf2 h
  refine ⟨f + 2, ?_⟩
  obtain ⟨y, cb, hj⟩ := mq_401
  rw [n_step (st' := [.ref 49]) (pc' := 43) (lv' := [(0, .ref 49), (1, .int x1)]) (hp' := rH e g q c l) (i := .aload_n 0) (len := 1) rfl hj rfl rfl rfl]
  obtain ⟨y2, cb2, hj2⟩ := mq_337
  rw [n_call (f := f) (d := d) (ki := 0) (idx := 337) (j' := 337) (kd := 0) (M' := (y2, cb2, 1, some .boolean, 12, 0, 0, 0)) (avs := [.ref 49]) (r := []) (rv := some (.int v)) (hp1 := rH e g' q' c' l') rfl hj rfl rfl rfl rfl (rq_n rfl rfl hj2 rfl rfl) rfl hc (Nat.le_of_ble_eq_true rfl)]
  exact h
set_option maxRecDepth 100000 in
set_option maxHeartbeats 4000000 in
theorem bk_401_46 {b : Bool} {d : Nat} {t0 x1 : Int32} {e : Nat → x_E} {g : Nat → Int32} {q : Nat → Int64} {c : Nat → Nat → Int32} {l : Nat → Nat → Int64} {R : Option Value × List x_E} (h1 : xCn .eq t0 0 = true → rr b e d 401 50 [(0, .ref 49), (1, .int x1)] [] g q c l R) (h2 : ¬ xCn .eq t0 0 = true → rr b e d 401 49 [] [] g q c l R) : rr b e d 401 46 [(0, .ref 49), (1, .int x1)] [.int t0] g q c l R := by
  have key : ∀ f, nrun xZ (xY (xfm b)) xDT (f + 1) d 401 46 [(0, .ref 49), (1, .int x1)] [.int t0] (rH e g q c l) 0 0 = nrun xZ (xY (xfm b)) xDT f d 401 (if xCn .eq t0 0 = true then 50 else 49) [(0, .ref 49), (1, .int x1)] [] (rH e g q c l) 0 0 := by
    intro f
    obtain ⟨y, cb, hj⟩ := mq_401
    rw [n_step (st' := []) (pc' := (if xCn .eq t0 0 = true then 50 else 49)) (lv' := [(0, .ref 49), (1, .int x1)]) (hp' := rH e g q c l) (i := .ifCond .eq 4) (len := 3) rfl hj rfl rfl rfl]
  by_cases hc : xCn .eq t0 0 = true
  · obtain ⟨f, h⟩ := h1 hc
    refine ⟨f + 1, ?_⟩
    rw [key, if_pos hc]
    exact h
  · obtain ⟨f, h⟩ := h2 hc
    refine ⟨f + 1, ?_⟩
    rw [key, if_neg hc]
    exact nrun_ext f f _ _ R 401 49 [] [(0, .ref 49), (1, .int x1)] [] _ 0 0 122 (Nat.le_refl _) (Nat.le_refl _) (Nat.le_of_ble_eq_true rfl) (lvR_mk [] [0, 1] rfl rfl (by decide) (by decide) (fun _ h => nomatch h) (List.forall_mem_cons.mpr ⟨Or.inr rfl, (List.forall_mem_cons.mpr ⟨Or.inr rfl, (fun _ h => nomatch h)⟩)⟩)) h
set_option maxRecDepth 100000 in
set_option maxHeartbeats 4000000 in
theorem bk_401_49 {b : Bool} {d : Nat} {e : Nat → x_E} {g : Nat → Int32} {q : Nat → Int64} {c : Nat → Nat → Int32} {l : Nat → Nat → Int64} : rr b e d 401 49 [] [] g q c l (none, rH e g q c l) := by
  refine ⟨0 + 1, ?_⟩
  obtain ⟨y, cb, hj⟩ := mq_401
  exact n_ret rfl hj rfl rfl rfl
set_option maxRecDepth 100000 in
set_option maxHeartbeats 4000000 in
theorem bk_401_50 {b : Bool} {d : Nat} {x1 : Int32} {e : Nat → x_E} {g : Nat → Int32} {q : Nat → Int64} {c : Nat → Nat → Int32} {l : Nat → Nat → Int64} {R : Option Value × List x_E} (h1 : xCn .ne ((g 134)) 0 = true → rr b e d 401 85 [(0, .ref 49), (1, .int x1), (2, .int (g 118))] [] g q c l R) (h2 : ¬ xCn .ne ((g 134)) 0 = true → rr b e d 401 62 [(0, .ref 49), (2, .int (g 118))] [] g q c l R) : rr b e d 401 50 [(0, .ref 49), (1, .int x1)] [] g q c l R := by
  have key : ∀ f, nrun xZ (xY (xfm b)) xDT (f + 6) d 401 50 [(0, .ref 49), (1, .int x1)] [] (rH e g q c l) 0 0 = nrun xZ (xY (xfm b)) xDT f d 401 (if xCn .ne ((g 134)) 0 = true then 85 else 62) [(2, .int (g 118)), (0, .ref 49), (1, .int x1)] [] (rH e g q c l) 0 0 := by
    intro f
    obtain ⟨y, cb, hj⟩ := mq_401
    rw [n_step (st' := [.ref 49]) (pc' := 51) (lv' := [(0, .ref 49), (1, .int x1)]) (hp' := rH e g q c l) (i := .aload_n 0) (len := 1) rfl hj rfl rfl rfl]
    rw [n_get (st' := [.int (g 118)]) (pc' := 54) (lv' := [(0, .ref 49), (1, .int x1)]) (hp' := rH e g q c l) (i := .getfield 763) (len := 3) rfl hj rfl rfl rfl rfl]
    rw [n_step (st' := []) (pc' := 55) (lv' := [(2, .int (g 118)), (0, .ref 49), (1, .int x1)]) (hp' := rH e g q c l) (i := .istore_n 2) (len := 1) rfl hj rfl rfl rfl]
    rw [n_step (st' := [.ref 49]) (pc' := 56) (lv' := [(2, .int (g 118)), (0, .ref 49), (1, .int x1)]) (hp' := rH e g q c l) (i := .aload_n 0) (len := 1) rfl hj rfl rfl rfl]
    rw [n_get (st' := [.int (g 134)]) (pc' := 59) (lv' := [(2, .int (g 118)), (0, .ref 49), (1, .int x1)]) (hp' := rH e g q c l) (i := .getfield 754) (len := 3) rfl hj rfl rfl rfl rfl]
    rw [n_step (st' := []) (pc' := (if xCn .ne ((g 134)) 0 = true then 85 else 62)) (lv' := [(2, .int (g 118)), (0, .ref 49), (1, .int x1)]) (hp' := rH e g q c l) (i := .ifCond .ne 26) (len := 3) rfl hj rfl rfl rfl]
  by_cases hc : xCn .ne ((g 134)) 0 = true
  · obtain ⟨f, h⟩ := h1 hc
    refine ⟨f + 6, ?_⟩
    rw [key, if_pos hc]
    exact nrun_ext f f _ _ R 401 85 [(0, .ref 49), (1, .int x1), (2, .int (g 118))] [(2, .int (g 118)), (0, .ref 49), (1, .int x1)] [] _ 0 0 122 (Nat.le_refl _) (Nat.le_refl _) (Nat.le_of_ble_eq_true rfl) (lvR_mk [0, 1, 2] [2, 0, 1] rfl rfl (by decide) (by decide) (List.forall_mem_cons.mpr ⟨(List.mem_cons_of_mem _ List.mem_cons_self), (List.forall_mem_cons.mpr ⟨(List.mem_cons_of_mem _ (List.mem_cons_of_mem _ List.mem_cons_self)), (List.forall_mem_cons.mpr ⟨List.mem_cons_self, (fun _ h => nomatch h)⟩)⟩)⟩) (List.forall_mem_cons.mpr ⟨Or.inl (List.mem_cons_of_mem _ (List.mem_cons_of_mem _ List.mem_cons_self)), (List.forall_mem_cons.mpr ⟨Or.inl List.mem_cons_self, (List.forall_mem_cons.mpr ⟨Or.inl (List.mem_cons_of_mem _ List.mem_cons_self), (fun _ h => nomatch h)⟩)⟩)⟩)) h
  · obtain ⟨f, h⟩ := h2 hc
    refine ⟨f + 6, ?_⟩
    rw [key, if_neg hc]
    exact nrun_ext f f _ _ R 401 62 [(0, .ref 49), (2, .int (g 118))] [(2, .int (g 118)), (0, .ref 49), (1, .int x1)] [] _ 0 0 122 (Nat.le_refl _) (Nat.le_refl _) (Nat.le_of_ble_eq_true rfl) (lvR_mk [0, 2] [2, 0, 1] rfl rfl (by decide) (by decide) (List.forall_mem_cons.mpr ⟨(List.mem_cons_of_mem _ List.mem_cons_self), (List.forall_mem_cons.mpr ⟨List.mem_cons_self, (fun _ h => nomatch h)⟩)⟩) (List.forall_mem_cons.mpr ⟨Or.inl (List.mem_cons_of_mem _ List.mem_cons_self), (List.forall_mem_cons.mpr ⟨Or.inl List.mem_cons_self, (List.forall_mem_cons.mpr ⟨Or.inr rfl, (fun _ h => nomatch h)⟩)⟩)⟩)) h
set_option maxRecDepth 100000 in
set_option maxHeartbeats 4000000 in
theorem bk_401_62 {b : Bool} {d : Nat} {x2 : Int32} {e : Nat → x_E} {g : Nat → Int32} {q : Nat → Int64} {c : Nat → Nat → Int32} {l : Nat → Nat → Int64} {R : Option Value × List x_E} (hz0 : ¬ (x2 < 0 ∨ 41 ≤ (x2).toNatClampNeg)) (hz1 : ¬ (x2 < 0 ∨ 41 ≤ (x2).toNatClampNeg)) (h : rr b e d 401 107 [(0, .ref 49), (2, .int x2)] [] g q (updA c 107 (upd (c 107) (x2).toNatClampNeg ((g 27)))) (updB l 106 (vp_updL (l 106) (x2).toNatClampNeg ((q 26)))) R) : rr b e d 401 62 [(0, .ref 49), (2, .int x2)] [] g q c l R := by
  obtain ⟨f, h⟩ := h
  refine ⟨f + 13, ?_⟩
  obtain ⟨y, cb, hj⟩ := mq_401
  rw [n_step (st' := [.ref 49]) (pc' := 63) (lv' := [(0, .ref 49), (2, .int x2)]) (hp' := rH e g q c l) (i := .aload_n 0) (len := 1) rfl hj rfl rfl rfl]
  rw [n_get (st' := [.ref 106]) (pc' := 66) (lv' := [(0, .ref 49), (2, .int x2)]) (hp' := rH e g q c l) (i := .getfield 189) (len := 3) rfl hj rfl rfl rfl rfl]
  rw [n_step (st' := [.int x2, .ref 106]) (pc' := 67) (lv' := [(0, .ref 49), (2, .int x2)]) (hp' := rH e g q c l) (i := .iload_n 2) (len := 1) rfl hj rfl rfl rfl]
  rw [n_step (st' := [.ref 49, .int x2, .ref 106]) (pc' := 68) (lv' := [(0, .ref 49), (2, .int x2)]) (hp' := rH e g q c l) (i := .aload_n 0) (len := 1) rfl hj rfl rfl rfl]
  rw [n_get (st' := [.long (q 26), .int x2, .ref 106]) (pc' := 71) (lv' := [(0, .ref 49), (2, .int x2)]) (hp' := rH e g q c l) (i := .getfield 362) (len := 3) rfl hj rfl rfl rfl rfl]
  rw [n_las (st' := []) (hp' := rH e g q c (updB l 106 (vp_updL (l 106) (x2).toNatClampNeg ((q 26))))) rfl hj (asl_106 hz0)]
  rw [n_step (st' := [.ref 49]) (pc' := 73) (lv' := [(0, .ref 49), (2, .int x2)]) (hp' := rH e g q c (updB l 106 (vp_updL (l 106) (x2).toNatClampNeg ((q 26))))) (i := .aload_n 0) (len := 1) rfl hj rfl rfl rfl]
  rw [n_get (st' := [.ref 107]) (pc' := 76) (lv' := [(0, .ref 49), (2, .int x2)]) (hp' := rH e g q c (updB l 106 (vp_updL (l 106) (x2).toNatClampNeg ((q 26))))) (i := .getfield 192) (len := 3) rfl hj rfl rfl rfl rfl]
  rw [n_step (st' := [.int x2, .ref 107]) (pc' := 77) (lv' := [(0, .ref 49), (2, .int x2)]) (hp' := rH e g q c (updB l 106 (vp_updL (l 106) (x2).toNatClampNeg ((q 26))))) (i := .iload_n 2) (len := 1) rfl hj rfl rfl rfl]
  rw [n_step (st' := [.ref 49, .int x2, .ref 107]) (pc' := 78) (lv' := [(0, .ref 49), (2, .int x2)]) (hp' := rH e g q c (updB l 106 (vp_updL (l 106) (x2).toNatClampNeg ((q 26))))) (i := .aload_n 0) (len := 1) rfl hj rfl rfl rfl]
  rw [n_get (st' := [.int (g 27), .int x2, .ref 107]) (pc' := 81) (lv' := [(0, .ref 49), (2, .int x2)]) (hp' := rH e g q c (updB l 106 (vp_updL (l 106) (x2).toNatClampNeg ((q 26))))) (i := .getfield 365) (len := 3) rfl hj rfl rfl rfl rfl]
  rw [n_ias (st' := []) (hp' := rH e g q (updA c 107 (upd (c 107) (x2).toNatClampNeg ((g 27)))) (updB l 106 (vp_updL (l 106) (x2).toNatClampNeg ((q 26))))) rfl hj (ast_107 hz1)]
  rw [n_step (st' := []) (pc' := 107) (lv' := [(0, .ref 49), (2, .int x2)]) (hp' := rH e g q (updA c 107 (upd (c 107) (x2).toNatClampNeg ((g 27)))) (updB l 106 (vp_updL (l 106) (x2).toNatClampNeg ((q 26))))) (i := .goto 25) (len := 3) rfl hj rfl rfl rfl]
  exact h
set_option maxRecDepth 100000 in
set_option maxHeartbeats 4000000 in
theorem bk_401_85 {b : Bool} {d : Nat} {x1 x2 : Int32} {e : Nat → x_E} {g : Nat → Int32} {q : Nat → Int64} {c : Nat → Nat → Int32} {l : Nat → Nat → Int64} {g' : Nat → Int32} {q' : Nat → Int64} {c' : Nat → Nat → Int32} {l' : Nat → Nat → Int64} {v : Int32} {R : Option Value × List x_E} (hc : rr b e d 402 0 [(0, .ref 49), (1, .long (q 26)), (3, .int (g 27)), (4, .int x2)] [] g q c l (some (.int v), rH e g' q' c' l')) (h : rr b e (d + 1) 401 98 [(0, .ref 49), (1, .int x1), (2, .int x2)] [.int v] g' q' c' l' R) : rr b e (d + 1) 401 85 [(0, .ref 49), (1, .int x1), (2, .int x2)] [] g q c l R := by
  obtain ⟨f1, hc⟩ := hc
  obtain ⟨f2, h⟩ := h
  obtain ⟨f, hf1, hf2⟩ : ∃ f, f1 ≤ f ∧ f2 ≤ f := ⟨max f1 f2, Nat.le_max_left _ _, Nat.le_max_right _ _⟩
  have hc := nrun_fuel f1 f _ _ _ _ _ _ _ _ _ hf1 hc
  have h := nrun_fuel f2 f _ _ _ _ _ _ _ _ _ hf2 h
  refine ⟨f + 7, ?_⟩
  obtain ⟨y, cb, hj⟩ := mq_401
  rw [n_step (st' := [.ref 49]) (pc' := 86) (lv' := [(0, .ref 49), (1, .int x1), (2, .int x2)]) (hp' := rH e g q c l) (i := .aload_n 0) (len := 1) rfl hj rfl rfl rfl]
  rw [n_step (st' := [.ref 49, .ref 49]) (pc' := 87) (lv' := [(0, .ref 49), (1, .int x1), (2, .int x2)]) (hp' := rH e g q c l) (i := .aload_n 0) (len := 1) rfl hj rfl rfl rfl]
  rw [n_get (st' := [.long (q 26), .ref 49]) (pc' := 90) (lv' := [(0, .ref 49), (1, .int x1), (2, .int x2)]) (hp' := rH e g q c l) (i := .getfield 362) (len := 3) rfl hj rfl rfl rfl rfl]
  rw [n_step (st' := [.ref 49, .long (q 26), .ref 49]) (pc' := 91) (lv' := [(0, .ref 49), (1, .int x1), (2, .int x2)]) (hp' := rH e g q c l) (i := .aload_n 0) (len := 1) rfl hj rfl rfl rfl]
  rw [n_get (st' := [.int (g 27), .long (q 26), .ref 49]) (pc' := 94) (lv' := [(0, .ref 49), (1, .int x1), (2, .int x2)]) (hp' := rH e g q c l) (i := .getfield 365) (len := 3) rfl hj rfl rfl rfl rfl]
  rw [n_step (st' := [.int x2, .int (g 27), .long (q 26), .ref 49]) (pc' := 95) (lv' := [(0, .ref 49), (1, .int x1), (2, .int x2)]) (hp' := rH e g q c l) (i := .iload_n 2) (len := 1) rfl hj rfl rfl rfl]
  obtain ⟨y2, cb2, hj2⟩ := mq_402
  rw [n_call (f := f) (d := d) (ki := 0) (idx := 775) (j' := 402) (kd := 0) (M' := (y2, cb2, 6, some .int, 12, 3, 0, 0)) (avs := [.ref 49, .long (q 26), .int (g 27), .int x2]) (r := []) (rv := some (.int v)) (hp1 := rH e g' q' c' l') rfl hj rfl rfl rfl rfl (rq_n rfl rfl hj2 rfl rfl) rfl hc (Nat.le_of_ble_eq_true rfl)]
  exact h
set_option maxRecDepth 100000 in
set_option maxHeartbeats 4000000 in
theorem bk_401_98 {b : Bool} {d : Nat} {t0 x1 x2 : Int32} {e : Nat → x_E} {g : Nat → Int32} {q : Nat → Int64} {c : Nat → Nat → Int32} {l : Nat → Nat → Int64} {R : Option Value × List x_E} (h1 : xCn .lt t0 0 = true → rr b e d 401 107 [(0, .ref 49), (2, .int x2)] [] g q c l R) (h2 : ¬ xCn .lt t0 0 = true → rr b e d 401 101 [(0, .ref 49), (1, .int x1), (2, .int x2)] [] g q c l R) : rr b e d 401 98 [(0, .ref 49), (1, .int x1), (2, .int x2)] [.int t0] g q c l R := by
  have key : ∀ f, nrun xZ (xY (xfm b)) xDT (f + 1) d 401 98 [(0, .ref 49), (1, .int x1), (2, .int x2)] [.int t0] (rH e g q c l) 0 0 = nrun xZ (xY (xfm b)) xDT f d 401 (if xCn .lt t0 0 = true then 107 else 101) [(0, .ref 49), (1, .int x1), (2, .int x2)] [] (rH e g q c l) 0 0 := by
    intro f
    obtain ⟨y, cb, hj⟩ := mq_401
    rw [n_step (st' := []) (pc' := (if xCn .lt t0 0 = true then 107 else 101)) (lv' := [(0, .ref 49), (1, .int x1), (2, .int x2)]) (hp' := rH e g q c l) (i := .ifCond .lt 9) (len := 3) rfl hj rfl rfl rfl]
  by_cases hc : xCn .lt t0 0 = true
  · obtain ⟨f, h⟩ := h1 hc
    refine ⟨f + 1, ?_⟩
    rw [key, if_pos hc]
    exact nrun_ext f f _ _ R 401 107 [(0, .ref 49), (2, .int x2)] [(0, .ref 49), (1, .int x1), (2, .int x2)] [] _ 0 0 122 (Nat.le_refl _) (Nat.le_refl _) (Nat.le_of_ble_eq_true rfl) (lvR_mk [0, 2] [0, 1, 2] rfl rfl (by decide) (by decide) (List.forall_mem_cons.mpr ⟨List.mem_cons_self, (List.forall_mem_cons.mpr ⟨(List.mem_cons_of_mem _ (List.mem_cons_of_mem _ List.mem_cons_self)), (fun _ h => nomatch h)⟩)⟩) (List.forall_mem_cons.mpr ⟨Or.inl List.mem_cons_self, (List.forall_mem_cons.mpr ⟨Or.inr rfl, (List.forall_mem_cons.mpr ⟨Or.inl (List.mem_cons_of_mem _ List.mem_cons_self), (fun _ h => nomatch h)⟩)⟩)⟩)) h
  · obtain ⟨f, h⟩ := h2 hc
    refine ⟨f + 1, ?_⟩
    rw [key, if_neg hc]
    exact h
set_option maxRecDepth 100000 in
set_option maxHeartbeats 4000000 in
theorem bk_401_101 {b : Bool} {d : Nat} {x1 x2 : Int32} {e : Nat → x_E} {g : Nat → Int32} {q : Nat → Int64} {c : Nat → Nat → Int32} {l : Nat → Nat → Int64} {g' : Nat → Int32} {q' : Nat → Int64} {c' : Nat → Nat → Int32} {l' : Nat → Nat → Int64} {R : Option Value × List x_E} (hc : rr b e d 349 0 [(0, .ref 49), (1, .int (Int32.ofInt (3))), (2, .int x1)] [] g q c l (none, rH e g' q' c' l')) (h : rr b e (d + 1) 401 107 [(0, .ref 49), (2, .int x2)] [] g' q' c' l' R) : rr b e (d + 1) 401 101 [(0, .ref 49), (1, .int x1), (2, .int x2)] [] g q c l R := by
  obtain ⟨f1, hc⟩ := hc
  obtain ⟨f2, h⟩ := h
  obtain ⟨f, hf1, hf2⟩ : ∃ f, f1 ≤ f ∧ f2 ≤ f := ⟨max f1 f2, Nat.le_max_left _ _, Nat.le_max_right _ _⟩
  have hc := nrun_fuel f1 f _ _ _ _ _ _ _ _ _ hf1 hc
  have h := nrun_fuel f2 f _ _ _ _ _ _ _ _ _ hf2 h
  refine ⟨f + 4, ?_⟩
  obtain ⟨y, cb, hj⟩ := mq_401
  rw [n_step (st' := [.ref 49]) (pc' := 102) (lv' := [(0, .ref 49), (1, .int x1), (2, .int x2)]) (hp' := rH e g q c l) (i := .aload_n 0) (len := 1) rfl hj rfl rfl rfl]
  rw [n_step (st' := [.int (Int32.ofInt (3)), .ref 49]) (pc' := 103) (lv' := [(0, .ref 49), (1, .int x1), (2, .int x2)]) (hp' := rH e g q c l) (i := .iconst 3) (len := 1) rfl hj rfl rfl rfl]
  rw [n_step (st' := [.int x1, .int (Int32.ofInt (3)), .ref 49]) (pc' := 104) (lv' := [(0, .ref 49), (1, .int x1), (2, .int x2)]) (hp' := rH e g q c l) (i := .iload_n 1) (len := 1) rfl hj rfl rfl rfl]
  obtain ⟨y2, cb2, hj2⟩ := mq_349
  rw [n_call (f := f) (d := d) (ki := 0) (idx := 427) (j' := 349) (kd := 0) (M' := (y2, cb2, 3, none, 12, 2, 0, 0)) (avs := [.ref 49, .int (Int32.ofInt (3)), .int x1]) (r := []) (rv := none) (hp1 := rH e g' q' c' l') rfl hj rfl rfl rfl rfl (rq_n rfl rfl hj2 rfl rfl) rfl hc (Nat.le_of_ble_eq_true rfl)]
  exact nrun_ext f f _ _ R 401 107 [(0, .ref 49), (2, .int x2)] [(0, .ref 49), (1, .int x1), (2, .int x2)] [] _ 0 0 122 (Nat.le_refl _) (Nat.le_refl _) (Nat.le_of_ble_eq_true rfl) (lvR_mk [0, 2] [0, 1, 2] rfl rfl (by decide) (by decide) (List.forall_mem_cons.mpr ⟨List.mem_cons_self, (List.forall_mem_cons.mpr ⟨(List.mem_cons_of_mem _ (List.mem_cons_of_mem _ List.mem_cons_self)), (fun _ h => nomatch h)⟩)⟩) (List.forall_mem_cons.mpr ⟨Or.inl List.mem_cons_self, (List.forall_mem_cons.mpr ⟨Or.inr rfl, (List.forall_mem_cons.mpr ⟨Or.inl (List.mem_cons_of_mem _ List.mem_cons_self), (fun _ h => nomatch h)⟩)⟩)⟩)) h
set_option maxRecDepth 100000 in
set_option maxHeartbeats 4000000 in
theorem bk_401_107 {b : Bool} {d : Nat} {x2 : Int32} {e : Nat → x_E} {g : Nat → Int32} {q : Nat → Int64} {c : Nat → Nat → Int32} {l : Nat → Nat → Int64} {g' : Nat → Int32} {q' : Nat → Int64} {c' : Nat → Nat → Int32} {l' : Nat → Nat → Int64} {R : Option Value × List x_E} (hc : rr b e d 343 0 [(0, .ref 49), (1, .int (Int8.ofInt (58)).toInt32)] [] (upd g 118 (((g 118) + (Int32.ofInt (1))))) q c l (none, rH e g' q' c' l')) (h : rr b e (d + 1) 401 123 [(0, .ref 49), (2, .int x2)] [] g' q' c' l' R) : rr b e (d + 1) 401 107 [(0, .ref 49), (2, .int x2)] [] g q c l R := by
  obtain ⟨f1, hc⟩ := hc
  obtain ⟨f2, h⟩ := h
  obtain ⟨f, hf1, hf2⟩ : ∃ f, f1 ≤ f ∧ f2 ≤ f := ⟨max f1 f2, Nat.le_max_left _ _, Nat.le_max_right _ _⟩
  have hc := nrun_fuel f1 f _ _ _ _ _ _ _ _ _ hf1 hc
  have h := nrun_fuel f2 f _ _ _ _ _ _ _ _ _ hf2 h
  refine ⟨f + 9, ?_⟩
  obtain ⟨y, cb, hj⟩ := mq_401
  rw [n_step (st' := [.ref 49]) (pc' := 108) (lv' := [(0, .ref 49), (2, .int x2)]) (hp' := rH e g q c l) (i := .aload_n 0) (len := 1) rfl hj rfl rfl rfl]
  rw [n_step (st' := [.ref 49, .ref 49]) (pc' := 109) (lv' := [(0, .ref 49), (2, .int x2)]) (hp' := rH e g q c l) (i := .aload_n 0) (len := 1) rfl hj rfl rfl rfl]
  rw [n_get (st' := [.int (g 118), .ref 49]) (pc' := 112) (lv' := [(0, .ref 49), (2, .int x2)]) (hp' := rH e g q c l) (i := .getfield 763) (len := 3) rfl hj rfl rfl rfl rfl]
  rw [n_step (st' := [.int (Int32.ofInt (1)), .int (g 118), .ref 49]) (pc' := 113) (lv' := [(0, .ref 49), (2, .int x2)]) (hp' := rH e g q c l) (i := .iconst 1) (len := 1) rfl hj rfl rfl rfl]
  rw [n_step (st' := [.int ((g 118) + (Int32.ofInt (1))), .ref 49]) (pc' := 114) (lv' := [(0, .ref 49), (2, .int x2)]) (hp' := rH e g q c l) (i := .iadd) (len := 1) rfl hj rfl rfl rfl]
  rw [n_put (st' := []) (hp' := rH e (upd g 118 (((g 118) + (Int32.ofInt (1))))) q c l) rfl hj pf_118]
  rw [n_step (st' := [.ref 49]) (pc' := 118) (lv' := [(0, .ref 49), (2, .int x2)]) (hp' := rH e (upd g 118 (((g 118) + (Int32.ofInt (1))))) q c l) (i := .aload_n 0) (len := 1) rfl hj rfl rfl rfl]
  rw [n_step (st' := [.int (Int8.ofInt (58)).toInt32, .ref 49]) (pc' := 120) (lv' := [(0, .ref 49), (2, .int x2)]) (hp' := rH e (upd g 118 (((g 118) + (Int32.ofInt (1))))) q c l) (i := .bipush 58) (len := 2) rfl hj rfl rfl rfl]
  obtain ⟨y2, cb2, hj2⟩ := mq_343
  rw [n_call (f := f) (d := d) (ki := 0) (idx := 359) (j' := 343) (kd := 0) (M' := (y2, cb2, 2, none, 12, 1, 0, 0)) (avs := [.ref 49, .int (Int8.ofInt (58)).toInt32]) (r := []) (rv := none) (hp1 := rH e g' q' c' l') rfl hj rfl rfl rfl rfl (rq_n rfl rfl hj2 rfl rfl) rfl hc (Nat.le_of_ble_eq_true rfl)]
  exact h
set_option maxRecDepth 100000 in
set_option maxHeartbeats 4000000 in
theorem bk_401_123 {b : Bool} {d : Nat} {x2 : Int32} {e : Nat → x_E} {g : Nat → Int32} {q : Nat → Int64} {c : Nat → Nat → Int32} {l : Nat → Nat → Int64} {g' : Nat → Int32} {q' : Nat → Int64} {c' : Nat → Nat → Int32} {l' : Nat → Nat → Int64} {v : Int32} {R : Option Value × List x_E} (hc : rr b e d 403 0 [(0, .ref 49)] [] (upd g 96 ((Int32.ofInt (0)))) q c l (some (.int v), rH e g' q' c' l')) (h : rr b e (d + 1) 401 137 [(0, .ref 49), (2, .int x2), (3, .int ((upd g 96 ((Int32.ofInt (0)))) 94))] [.int v] g' q' c' l' R) : rr b e (d + 1) 401 123 [(0, .ref 49), (2, .int x2)] [] g q c l R := by
  obtain ⟨f1, hc⟩ := hc
  obtain ⟨f2, h⟩ := h
  obtain ⟨f, hf1, hf2⟩ : ∃ f, f1 ≤ f ∧ f2 ≤ f := ⟨max f1 f2, Nat.le_max_left _ _, Nat.le_max_right _ _⟩
  have hc := nrun_fuel f1 f _ _ _ _ _ _ _ _ _ hf1 hc
  have h := nrun_fuel f2 f _ _ _ _ _ _ _ _ _ hf2 h
  refine ⟨f + 8, ?_⟩
  obtain ⟨y, cb, hj⟩ := mq_401
  rw [n_step (st' := [.ref 49]) (pc' := 124) (lv' := [(0, .ref 49), (2, .int x2)]) (hp' := rH e g q c l) (i := .aload_n 0) (len := 1) rfl hj rfl rfl rfl]
  rw [n_step (st' := [.int (Int32.ofInt (0)), .ref 49]) (pc' := 125) (lv' := [(0, .ref 49), (2, .int x2)]) (hp' := rH e g q c l) (i := .iconst 0) (len := 1) rfl hj rfl rfl rfl]
  rw [n_put (st' := []) (hp' := rH e (upd g 96 ((Int32.ofInt (0)))) q c l) rfl hj pf_96]
  rw [n_step (st' := [.ref 49]) (pc' := 129) (lv' := [(0, .ref 49), (2, .int x2)]) (hp' := rH e (upd g 96 ((Int32.ofInt (0)))) q c l) (i := .aload_n 0) (len := 1) rfl hj rfl rfl rfl]
  rw [n_get (st' := [.int ((upd g 96 ((Int32.ofInt (0)))) 94)]) (pc' := 132) (lv' := [(0, .ref 49), (2, .int x2)]) (hp' := rH e (upd g 96 ((Int32.ofInt (0)))) q c l) (i := .getfield 697) (len := 3) rfl hj rfl rfl rfl rfl]
  rw [n_step (st' := []) (pc' := 133) (lv' := [(3, .int ((upd g 96 ((Int32.ofInt (0)))) 94)), (0, .ref 49), (2, .int x2)]) (hp' := rH e (upd g 96 ((Int32.ofInt (0)))) q c l) (i := .istore_n 3) (len := 1) rfl hj rfl rfl rfl]
  rw [n_step (st' := [.ref 49]) (pc' := 134) (lv' := [(3, .int ((upd g 96 ((Int32.ofInt (0)))) 94)), (0, .ref 49), (2, .int x2)]) (hp' := rH e (upd g 96 ((Int32.ofInt (0)))) q c l) (i := .aload_n 0) (len := 1) rfl hj rfl rfl rfl]
  obtain ⟨y2, cb2, hj2⟩ := mq_403
  rw [n_call (f := f) (d := d) (ki := 0) (idx := 700) (j' := 403) (kd := 0) (M' := (y2, cb2, 6, some .int, 12, 0, 0, 0)) (avs := [.ref 49]) (r := []) (rv := some (.int v)) (hp1 := rH e g' q' c' l') rfl hj rfl rfl rfl rfl (rq_n rfl rfl hj2 rfl rfl) rfl hc (Nat.le_of_ble_eq_true rfl)]
  exact nrun_ext f f _ _ R 401 137 [(0, .ref 49), (2, .int x2), (3, .int ((upd g 96 ((Int32.ofInt (0)))) 94))] [(3, .int ((upd g 96 ((Int32.ofInt (0)))) 94)), (0, .ref 49), (2, .int x2)] [.int v] _ 0 0 122 (Nat.le_refl _) (Nat.le_refl _) (Nat.le_of_ble_eq_true rfl) (lvR_mk [0, 2, 3] [3, 0, 2] rfl rfl (by decide) (by decide) (List.forall_mem_cons.mpr ⟨(List.mem_cons_of_mem _ List.mem_cons_self), (List.forall_mem_cons.mpr ⟨(List.mem_cons_of_mem _ (List.mem_cons_of_mem _ List.mem_cons_self)), (List.forall_mem_cons.mpr ⟨List.mem_cons_self, (fun _ h => nomatch h)⟩)⟩)⟩) (List.forall_mem_cons.mpr ⟨Or.inl (List.mem_cons_of_mem _ (List.mem_cons_of_mem _ List.mem_cons_self)), (List.forall_mem_cons.mpr ⟨Or.inl List.mem_cons_self, (List.forall_mem_cons.mpr ⟨Or.inl (List.mem_cons_of_mem _ List.mem_cons_self), (fun _ h => nomatch h)⟩)⟩)⟩)) h
set_option maxRecDepth 100000 in
set_option maxHeartbeats 4000000 in
theorem bk_401_137 {b : Bool} {d : Nat} {t0 x2 x3 : Int32} {e : Nat → x_E} {g : Nat → Int32} {q : Nat → Int64} {c : Nat → Nat → Int32} {l : Nat → Nat → Int64} {R : Option Value × List x_E} (h1 : xCn .le ((g 104)) 0 = true → rr b e d 401 163 [(0, .ref 49), (2, .int x2), (3, .int x3), (4, .int t0), (5, .int (g 103))] [] g q c l R) (h2 : ¬ xCn .le ((g 104)) 0 = true → rr b e d 401 152 [(0, .ref 49), (2, .int x2), (3, .int x3), (4, .int t0), (5, .int (g 103))] [] g q c l R) : rr b e d 401 137 [(0, .ref 49), (2, .int x2), (3, .int x3)] [.int t0] g q c l R := by
  have key : ∀ f, nrun xZ (xY (xfm b)) xDT (f + 7) d 401 137 [(0, .ref 49), (2, .int x2), (3, .int x3)] [.int t0] (rH e g q c l) 0 0 = nrun xZ (xY (xfm b)) xDT f d 401 (if xCn .le ((g 104)) 0 = true then 163 else 152) [(5, .int (g 103)), (4, .int t0), (0, .ref 49), (2, .int x2), (3, .int x3)] [] (rH e g q c l) 0 0 := by
    intro f
    obtain ⟨y, cb, hj⟩ := mq_401
    rw [n_step (st' := []) (pc' := 139) (lv' := [(4, .int t0), (0, .ref 49), (2, .int x2), (3, .int x3)]) (hp' := rH e g q c l) (i := .istore 4) (len := 2) rfl hj rfl rfl rfl]
    rw [n_step (st' := [.ref 49]) (pc' := 140) (lv' := [(4, .int t0), (0, .ref 49), (2, .int x2), (3, .int x3)]) (hp' := rH e g q c l) (i := .aload_n 0) (len := 1) rfl hj rfl rfl rfl]
    rw [n_get (st' := [.int (g 103)]) (pc' := 143) (lv' := [(4, .int t0), (0, .ref 49), (2, .int x2), (3, .int x3)]) (hp' := rH e g q c l) (i := .getfield 726) (len := 3) rfl hj rfl rfl rfl rfl]
    rw [n_step (st' := []) (pc' := 145) (lv' := [(5, .int (g 103)), (4, .int t0), (0, .ref 49), (2, .int x2), (3, .int x3)]) (hp' := rH e g q c l) (i := .istore 5) (len := 2) rfl hj rfl rfl rfl]
    rw [n_step (st' := [.ref 49]) (pc' := 146) (lv' := [(5, .int (g 103)), (4, .int t0), (0, .ref 49), (2, .int x2), (3, .int x3)]) (hp' := rH e g q c l) (i := .aload_n 0) (len := 1) rfl hj rfl rfl rfl]
    rw [n_get (st' := [.int (g 104)]) (pc' := 149) (lv' := [(5, .int (g 103)), (4, .int t0), (0, .ref 49), (2, .int x2), (3, .int x3)]) (hp' := rH e g q c l) (i := .getfield 732) (len := 3) rfl hj rfl rfl rfl rfl]
    rw [n_step (st' := []) (pc' := (if xCn .le ((g 104)) 0 = true then 163 else 152)) (lv' := [(5, .int (g 103)), (4, .int t0), (0, .ref 49), (2, .int x2), (3, .int x3)]) (hp' := rH e g q c l) (i := .ifCond .le 14) (len := 3) rfl hj rfl rfl rfl]
  by_cases hc : xCn .le ((g 104)) 0 = true
  · obtain ⟨f, h⟩ := h1 hc
    refine ⟨f + 7, ?_⟩
    rw [key, if_pos hc]
    exact nrun_ext f f _ _ R 401 163 [(0, .ref 49), (2, .int x2), (3, .int x3), (4, .int t0), (5, .int (g 103))] [(5, .int (g 103)), (4, .int t0), (0, .ref 49), (2, .int x2), (3, .int x3)] [] _ 0 0 122 (Nat.le_refl _) (Nat.le_refl _) (Nat.le_of_ble_eq_true rfl) (lvR_mk [0, 2, 3, 4, 5] [5, 4, 0, 2, 3] rfl rfl (by decide) (by decide) (List.forall_mem_cons.mpr ⟨(List.mem_cons_of_mem _ (List.mem_cons_of_mem _ List.mem_cons_self)), (List.forall_mem_cons.mpr ⟨(List.mem_cons_of_mem _ (List.mem_cons_of_mem _ (List.mem_cons_of_mem _ List.mem_cons_self))), (List.forall_mem_cons.mpr ⟨(List.mem_cons_of_mem _ (List.mem_cons_of_mem _ (List.mem_cons_of_mem _ (List.mem_cons_of_mem _ List.mem_cons_self)))), (List.forall_mem_cons.mpr ⟨(List.mem_cons_of_mem _ List.mem_cons_self), (List.forall_mem_cons.mpr ⟨List.mem_cons_self, (fun _ h => nomatch h)⟩)⟩)⟩)⟩)⟩) (List.forall_mem_cons.mpr ⟨Or.inl (List.mem_cons_of_mem _ (List.mem_cons_of_mem _ (List.mem_cons_of_mem _ (List.mem_cons_of_mem _ List.mem_cons_self)))), (List.forall_mem_cons.mpr ⟨Or.inl (List.mem_cons_of_mem _ (List.mem_cons_of_mem _ (List.mem_cons_of_mem _ List.mem_cons_self))), (List.forall_mem_cons.mpr ⟨Or.inl List.mem_cons_self, (List.forall_mem_cons.mpr ⟨Or.inl (List.mem_cons_of_mem _ List.mem_cons_self), (List.forall_mem_cons.mpr ⟨Or.inl (List.mem_cons_of_mem _ (List.mem_cons_of_mem _ List.mem_cons_self)), (fun _ h => nomatch h)⟩)⟩)⟩)⟩)⟩)) h
  · obtain ⟨f, h⟩ := h2 hc
    refine ⟨f + 7, ?_⟩
    rw [key, if_neg hc]
    exact nrun_ext f f _ _ R 401 152 [(0, .ref 49), (2, .int x2), (3, .int x3), (4, .int t0), (5, .int (g 103))] [(5, .int (g 103)), (4, .int t0), (0, .ref 49), (2, .int x2), (3, .int x3)] [] _ 0 0 122 (Nat.le_refl _) (Nat.le_refl _) (Nat.le_of_ble_eq_true rfl) (lvR_mk [0, 2, 3, 4, 5] [5, 4, 0, 2, 3] rfl rfl (by decide) (by decide) (List.forall_mem_cons.mpr ⟨(List.mem_cons_of_mem _ (List.mem_cons_of_mem _ List.mem_cons_self)), (List.forall_mem_cons.mpr ⟨(List.mem_cons_of_mem _ (List.mem_cons_of_mem _ (List.mem_cons_of_mem _ List.mem_cons_self))), (List.forall_mem_cons.mpr ⟨(List.mem_cons_of_mem _ (List.mem_cons_of_mem _ (List.mem_cons_of_mem _ (List.mem_cons_of_mem _ List.mem_cons_self)))), (List.forall_mem_cons.mpr ⟨(List.mem_cons_of_mem _ List.mem_cons_self), (List.forall_mem_cons.mpr ⟨List.mem_cons_self, (fun _ h => nomatch h)⟩)⟩)⟩)⟩)⟩) (List.forall_mem_cons.mpr ⟨Or.inl (List.mem_cons_of_mem _ (List.mem_cons_of_mem _ (List.mem_cons_of_mem _ (List.mem_cons_of_mem _ List.mem_cons_self)))), (List.forall_mem_cons.mpr ⟨Or.inl (List.mem_cons_of_mem _ (List.mem_cons_of_mem _ (List.mem_cons_of_mem _ List.mem_cons_self))), (List.forall_mem_cons.mpr ⟨Or.inl List.mem_cons_self, (List.forall_mem_cons.mpr ⟨Or.inl (List.mem_cons_of_mem _ List.mem_cons_self), (List.forall_mem_cons.mpr ⟨Or.inl (List.mem_cons_of_mem _ (List.mem_cons_of_mem _ List.mem_cons_self)), (fun _ h => nomatch h)⟩)⟩)⟩)⟩)⟩)) h
set_option maxRecDepth 100000 in
set_option maxHeartbeats 4000000 in
theorem bk_401_152 {b : Bool} {d : Nat} {x2 x3 x4 x5 : Int32} {e : Nat → x_E} {g : Nat → Int32} {q : Nat → Int64} {c : Nat → Nat → Int32} {l : Nat → Nat → Int64} {R : Option Value × List x_E} (h1 : xCn .ne ((g 107)) 0 = true → rr b e d 401 163 [(0, .ref 49), (2, .int x2), (3, .int x3), (4, .int x4), (5, .int x5)] [] g q c l R) (h2 : ¬ xCn .ne ((g 107)) 0 = true → rr b e d 401 159 [(0, .ref 49), (2, .int x2), (3, .int x3), (4, .int x4), (5, .int x5)] [] g q c l R) : rr b e d 401 152 [(0, .ref 49), (2, .int x2), (3, .int x3), (4, .int x4), (5, .int x5)] [] g q c l R := by
  have key : ∀ f, nrun xZ (xY (xfm b)) xDT (f + 3) d 401 152 [(0, .ref 49), (2, .int x2), (3, .int x3), (4, .int x4), (5, .int x5)] [] (rH e g q c l) 0 0 = nrun xZ (xY (xfm b)) xDT f d 401 (if xCn .ne ((g 107)) 0 = true then 163 else 159) [(0, .ref 49), (2, .int x2), (3, .int x3), (4, .int x4), (5, .int x5)] [] (rH e g q c l) 0 0 := by
    intro f
    obtain ⟨y, cb, hj⟩ := mq_401
    rw [n_step (st' := [.ref 49]) (pc' := 153) (lv' := [(0, .ref 49), (2, .int x2), (3, .int x3), (4, .int x4), (5, .int x5)]) (hp' := rH e g q c l) (i := .aload_n 0) (len := 1) rfl hj rfl rfl rfl]
    rw [n_get (st' := [.int (g 107)]) (pc' := 156) (lv' := [(0, .ref 49), (2, .int x2), (3, .int x3), (4, .int x4), (5, .int x5)]) (hp' := rH e g q c l) (i := .getfield 729) (len := 3) rfl hj rfl rfl rfl rfl]
    rw [n_step (st' := []) (pc' := (if xCn .ne ((g 107)) 0 = true then 163 else 159)) (lv' := [(0, .ref 49), (2, .int x2), (3, .int x3), (4, .int x4), (5, .int x5)]) (hp' := rH e g q c l) (i := .ifCond .ne 7) (len := 3) rfl hj rfl rfl rfl]
  by_cases hc : xCn .ne ((g 107)) 0 = true
  · obtain ⟨f, h⟩ := h1 hc
    refine ⟨f + 3, ?_⟩
    rw [key, if_pos hc]
    exact h
  · obtain ⟨f, h⟩ := h2 hc
    refine ⟨f + 3, ?_⟩
    rw [key, if_neg hc]
    exact h
set_option maxRecDepth 100000 in
set_option maxHeartbeats 4000000 in
theorem bk_401_159 {b : Bool} {d : Nat} {x2 x3 x4 x5 : Int32} {e : Nat → x_E} {g : Nat → Int32} {q : Nat → Int64} {c : Nat → Nat → Int32} {l : Nat → Nat → Int64} {R : Option Value × List x_E} (h : rr b e d 401 164 [(0, .ref 49), (2, .int x2), (3, .int x3), (4, .int x4), (5, .int x5)] [.int (Int32.ofInt (1))] g q c l R) : rr b e d 401 159 [(0, .ref 49), (2, .int x2), (3, .int x3), (4, .int x4), (5, .int x5)] [] g q c l R := by
  obtain ⟨f, h⟩ := h
  refine ⟨f + 2, ?_⟩
  obtain ⟨y, cb, hj⟩ := mq_401
  rw [n_step (st' := [.int (Int32.ofInt (1))]) (pc' := 160) (lv' := [(0, .ref 49), (2, .int x2), (3, .int x3), (4, .int x4), (5, .int x5)]) (hp' := rH e g q c l) (i := .iconst 1) (len := 1) rfl hj rfl rfl rfl]
  rw [n_step (st' := [.int (Int32.ofInt (1))]) (pc' := 164) (lv' := [(0, .ref 49), (2, .int x2), (3, .int x3), (4, .int x4), (5, .int x5)]) (hp' := rH e g q c l) (i := .goto 4) (len := 3) rfl hj rfl rfl rfl]
  exact h
set_option maxRecDepth 100000 in
set_option maxHeartbeats 4000000 in
theorem bk_401_163 {b : Bool} {d : Nat} {x2 x3 x4 x5 : Int32} {e : Nat → x_E} {g : Nat → Int32} {q : Nat → Int64} {c : Nat → Nat → Int32} {l : Nat → Nat → Int64} {R : Option Value × List x_E} (h : rr b e d 401 164 [(0, .ref 49), (2, .int x2), (3, .int x3), (4, .int x4), (5, .int x5)] [.int (Int32.ofInt (0))] g q c l R) : rr b e d 401 163 [(0, .ref 49), (2, .int x2), (3, .int x3), (4, .int x4), (5, .int x5)] [] g q c l R := by
  obtain ⟨f, h⟩ := h
  refine ⟨f + 1, ?_⟩
  obtain ⟨y, cb, hj⟩ := mq_401
  rw [n_step (st' := [.int (Int32.ofInt (0))]) (pc' := 164) (lv' := [(0, .ref 49), (2, .int x2), (3, .int x3), (4, .int x4), (5, .int x5)]) (hp' := rH e g q c l) (i := .iconst 0) (len := 1) rfl hj rfl rfl rfl]
  exact h
set_option maxRecDepth 100000 in
set_option maxHeartbeats 4000000 in
theorem bk_401_164 {b : Bool} {d : Nat} {t0 x2 x3 x4 x5 : Int32} {e : Nat → x_E} {g : Nat → Int32} {q : Nat → Int64} {c : Nat → Nat → Int32} {l : Nat → Nat → Int64} {g' : Nat → Int32} {q' : Nat → Int64} {c' : Nat → Nat → Int32} {l' : Nat → Nat → Int64} {v : Int32} {R : Option Value × List x_E} (hc : rr b e d 405 0 [(0, .ref 49), (1, .int x3), (2, .int x4)] [] g q c l (some (.int v), rH e g' q' c' l')) (h : rr b e (d + 1) 401 179 [(0, .ref 49), (2, .int x2), (5, .int x5), (6, .int t0), (7, .int (g 11))] [.int v] g' q' c' l' R) : rr b e (d + 1) 401 164 [(0, .ref 49), (2, .int x2), (3, .int x3), (4, .int x4), (5, .int x5)] [.int t0] g q c l R := by
  obtain ⟨f1, hc⟩ := hc
  obtain ⟨f2, h⟩ := h
  obtain ⟨f, hf1, hf2⟩ : ∃ f, f1 ≤ f ∧ f2 ≤ f := ⟨max f1 f2, Nat.le_max_left _ _, Nat.le_max_right _ _⟩
  have hc := nrun_fuel f1 f _ _ _ _ _ _ _ _ _ hf1 hc
  have h := nrun_fuel f2 f _ _ _ _ _ _ _ _ _ hf2 h
  refine ⟨f + 8, ?_⟩
  obtain ⟨y, cb, hj⟩ := mq_401
  rw [n_step (st' := []) (pc' := 166) (lv' := [(6, .int t0), (0, .ref 49), (2, .int x2), (3, .int x3), (4, .int x4), (5, .int x5)]) (hp' := rH e g q c l) (i := .istore 6) (len := 2) rfl hj rfl rfl rfl]
  rw [n_step (st' := [.ref 49]) (pc' := 167) (lv' := [(6, .int t0), (0, .ref 49), (2, .int x2), (3, .int x3), (4, .int x4), (5, .int x5)]) (hp' := rH e g q c l) (i := .aload_n 0) (len := 1) rfl hj rfl rfl rfl]
  rw [n_get (st' := [.int (g 11)]) (pc' := 170) (lv' := [(6, .int t0), (0, .ref 49), (2, .int x2), (3, .int x3), (4, .int x4), (5, .int x5)]) (hp' := rH e g q c l) (i := .getfield 257) (len := 3) rfl hj rfl rfl rfl rfl]
  rw [n_step (st' := []) (pc' := 172) (lv' := [(7, .int (g 11)), (6, .int t0), (0, .ref 49), (2, .int x2), (3, .int x3), (4, .int x4), (5, .int x5)]) (hp' := rH e g q c l) (i := .istore 7) (len := 2) rfl hj rfl rfl rfl]
  rw [n_step (st' := [.ref 49]) (pc' := 173) (lv' := [(7, .int (g 11)), (6, .int t0), (0, .ref 49), (2, .int x2), (3, .int x3), (4, .int x4), (5, .int x5)]) (hp' := rH e g q c l) (i := .aload_n 0) (len := 1) rfl hj rfl rfl rfl]
  rw [n_step (st' := [.int x3, .ref 49]) (pc' := 174) (lv' := [(7, .int (g 11)), (6, .int t0), (0, .ref 49), (2, .int x2), (3, .int x3), (4, .int x4), (5, .int x5)]) (hp' := rH e g q c l) (i := .iload_n 3) (len := 1) rfl hj rfl rfl rfl]
  rw [n_step (st' := [.int x4, .int x3, .ref 49]) (pc' := 176) (lv' := [(7, .int (g 11)), (6, .int t0), (0, .ref 49), (2, .int x2), (3, .int x3), (4, .int x4), (5, .int x5)]) (hp' := rH e g q c l) (i := .iload 4) (len := 2) rfl hj rfl rfl rfl]
  obtain ⟨y2, cb2, hj2⟩ := mq_405
  rw [n_call (f := f) (d := d) (ki := 0) (idx := 703) (j' := 405) (kd := 0) (M' := (y2, cb2, 13, some .int, 12, 2, 0, 0)) (avs := [.ref 49, .int x3, .int x4]) (r := []) (rv := some (.int v)) (hp1 := rH e g' q' c' l') rfl hj rfl rfl rfl rfl (rq_n rfl rfl hj2 rfl rfl) rfl hc (Nat.le_of_ble_eq_true rfl)]
  exact nrun_ext f f _ _ R 401 179 [(0, .ref 49), (2, .int x2), (5, .int x5), (6, .int t0), (7, .int (g 11))] [(7, .int (g 11)), (6, .int t0), (0, .ref 49), (2, .int x2), (3, .int x3), (4, .int x4), (5, .int x5)] [.int v] _ 0 0 122 (Nat.le_refl _) (Nat.le_refl _) (Nat.le_of_ble_eq_true rfl) (lvR_mk [0, 2, 5, 6, 7] [7, 6, 0, 2, 3, 4, 5] rfl rfl (by decide) (by decide) (List.forall_mem_cons.mpr ⟨(List.mem_cons_of_mem _ (List.mem_cons_of_mem _ List.mem_cons_self)), (List.forall_mem_cons.mpr ⟨(List.mem_cons_of_mem _ (List.mem_cons_of_mem _ (List.mem_cons_of_mem _ List.mem_cons_self))), (List.forall_mem_cons.mpr ⟨(List.mem_cons_of_mem _ (List.mem_cons_of_mem _ (List.mem_cons_of_mem _ (List.mem_cons_of_mem _ (List.mem_cons_of_mem _ (List.mem_cons_of_mem _ List.mem_cons_self)))))), (List.forall_mem_cons.mpr ⟨(List.mem_cons_of_mem _ List.mem_cons_self), (List.forall_mem_cons.mpr ⟨List.mem_cons_self, (fun _ h => nomatch h)⟩)⟩)⟩)⟩)⟩) (List.forall_mem_cons.mpr ⟨Or.inl (List.mem_cons_of_mem _ (List.mem_cons_of_mem _ (List.mem_cons_of_mem _ (List.mem_cons_of_mem _ List.mem_cons_self)))), (List.forall_mem_cons.mpr ⟨Or.inl (List.mem_cons_of_mem _ (List.mem_cons_of_mem _ (List.mem_cons_of_mem _ List.mem_cons_self))), (List.forall_mem_cons.mpr ⟨Or.inl List.mem_cons_self, (List.forall_mem_cons.mpr ⟨Or.inl (List.mem_cons_of_mem _ List.mem_cons_self), (List.forall_mem_cons.mpr ⟨Or.inr rfl, (List.forall_mem_cons.mpr ⟨Or.inr rfl, (List.forall_mem_cons.mpr ⟨Or.inl (List.mem_cons_of_mem _ (List.mem_cons_of_mem _ List.mem_cons_self)), (fun _ h => nomatch h)⟩)⟩)⟩)⟩)⟩)⟩)⟩)) h
set_option maxRecDepth 100000 in
set_option maxHeartbeats 4000000 in
theorem bk_401_179 {b : Bool} {d : Nat} {t0 x2 x5 x6 x7 : Int32} {e : Nat → x_E} {g : Nat → Int32} {q : Nat → Int64} {c : Nat → Nat → Int32} {l : Nat → Nat → Int64} {g' : Nat → Int32} {q' : Nat → Int64} {c' : Nat → Nat → Int32} {l' : Nat → Nat → Int64} {v : Int32} {R : Option Value × List x_E} (hc : rr b e d 337 0 [(0, .ref 49)] [] g q c l (some (.int v), rH e g' q' c' l')) (h : rr b e (d + 1) 401 185 [(0, .ref 49), (2, .int x2), (5, .int x5), (6, .int x6), (7, .int x7), (8, .int t0)] [.int v] g' q' c' l' R) : rr b e (d + 1) 401 179 [(0, .ref 49), (2, .int x2), (5, .int x5), (6, .int x6), (7, .int x7)] [.int t0] g q c l R := by
  obtain ⟨f1, hc⟩ := hc
  obtain ⟨f2, h⟩ := h
  obtain ⟨f, hf1, hf2⟩ : ∃ f, f1 ≤ f ∧ f2 ≤ f := ⟨max f1 f2, Nat.le_max_left _ _, Nat.le_max_right _ _⟩
  have hc := nrun_fuel f1 f _ _ _ _ _ _ _ _ _ hf1 hc
  have h := nrun_fuel f2 f _ _ _ _ _ _ _ _ _ hf2 h
  refine ⟨f + 3, ?_⟩
  obtain ⟨y, cb, hj⟩ := mq_401
  rw [n_step (st' := []) (pc' := 181) (lv' := [(8, .int t0), (0, .ref 49), (2, .int x2), (5, .int x5), (6, .int x6), (7, .int x7)]) (hp' := rH e g q c l) (i := .istore 8) (len := 2) rfl hj rfl rfl rfl]
  rw [n_step (st' := [.ref 49]) (pc' := 182) (lv' := [(8, .int t0), (0, .ref 49), (2, .int x2), (5, .int x5), (6, .int x6), (7, .int x7)]) (hp' := rH e g q c l) (i := .aload_n 0) (len := 1) rfl hj rfl rfl rfl]
  obtain ⟨y2, cb2, hj2⟩ := mq_337
  rw [n_call (f := f) (d := d) (ki := 0) (idx := 337) (j' := 337) (kd := 0) (M' := (y2, cb2, 1, some .boolean, 12, 0, 0, 0)) (avs := [.ref 49]) (r := []) (rv := some (.int v)) (hp1 := rH e g' q' c' l') rfl hj rfl rfl rfl rfl (rq_n rfl rfl hj2 rfl rfl) rfl hc (Nat.le_of_ble_eq_true rfl)]
  exact nrun_ext f f _ _ R 401 185 [(0, .ref 49), (2, .int x2), (5, .int x5), (6, .int x6), (7, .int x7), (8, .int t0)] [(8, .int t0), (0, .ref 49), (2, .int x2), (5, .int x5), (6, .int x6), (7, .int x7)] [.int v] _ 0 0 122 (Nat.le_refl _) (Nat.le_refl _) (Nat.le_of_ble_eq_true rfl) (lvR_mk [0, 2, 5, 6, 7, 8] [8, 0, 2, 5, 6, 7] rfl rfl (by decide) (by decide) (List.forall_mem_cons.mpr ⟨(List.mem_cons_of_mem _ List.mem_cons_self), (List.forall_mem_cons.mpr ⟨(List.mem_cons_of_mem _ (List.mem_cons_of_mem _ List.mem_cons_self)), (List.forall_mem_cons.mpr ⟨(List.mem_cons_of_mem _ (List.mem_cons_of_mem _ (List.mem_cons_of_mem _ List.mem_cons_self))), (List.forall_mem_cons.mpr ⟨(List.mem_cons_of_mem _ (List.mem_cons_of_mem _ (List.mem_cons_of_mem _ (List.mem_cons_of_mem _ List.mem_cons_self)))), (List.forall_mem_cons.mpr ⟨(List.mem_cons_of_mem _ (List.mem_cons_of_mem _ (List.mem_cons_of_mem _ (List.mem_cons_of_mem _ (List.mem_cons_of_mem _ List.mem_cons_self))))), (List.forall_mem_cons.mpr ⟨List.mem_cons_self, (fun _ h => nomatch h)⟩)⟩)⟩)⟩)⟩)⟩) (List.forall_mem_cons.mpr ⟨Or.inl (List.mem_cons_of_mem _ (List.mem_cons_of_mem _ (List.mem_cons_of_mem _ (List.mem_cons_of_mem _ (List.mem_cons_of_mem _ List.mem_cons_self))))), (List.forall_mem_cons.mpr ⟨Or.inl List.mem_cons_self, (List.forall_mem_cons.mpr ⟨Or.inl (List.mem_cons_of_mem _ List.mem_cons_self), (List.forall_mem_cons.mpr ⟨Or.inl (List.mem_cons_of_mem _ (List.mem_cons_of_mem _ List.mem_cons_self)), (List.forall_mem_cons.mpr ⟨Or.inl (List.mem_cons_of_mem _ (List.mem_cons_of_mem _ (List.mem_cons_of_mem _ List.mem_cons_self))), (List.forall_mem_cons.mpr ⟨Or.inl (List.mem_cons_of_mem _ (List.mem_cons_of_mem _ (List.mem_cons_of_mem _ (List.mem_cons_of_mem _ List.mem_cons_self)))), (fun _ h => nomatch h)⟩)⟩)⟩)⟩)⟩)⟩)) h
set_option maxRecDepth 100000 in
set_option maxHeartbeats 4000000 in
theorem bk_401_185 {b : Bool} {d : Nat} {t0 x2 x5 x6 x7 x8 : Int32} {e : Nat → x_E} {g : Nat → Int32} {q : Nat → Int64} {c : Nat → Nat → Int32} {l : Nat → Nat → Int64} {R : Option Value × List x_E} (h1 : xCn .eq t0 0 = true → rr b e d 401 189 [(0, .ref 49), (2, .int x2), (5, .int x5), (6, .int x6), (7, .int x7), (8, .int x8)] [] g q c l R) (h2 : ¬ xCn .eq t0 0 = true → rr b e d 401 188 [] [] g q c l R) : rr b e d 401 185 [(0, .ref 49), (2, .int x2), (5, .int x5), (6, .int x6), (7, .int x7), (8, .int x8)] [.int t0] g q c l R := by
  have key : ∀ f, nrun xZ (xY (xfm b)) xDT (f + 1) d 401 185 [(0, .ref 49), (2, .int x2), (5, .int x5), (6, .int x6), (7, .int x7), (8, .int x8)] [.int t0] (rH e g q c l) 0 0 = nrun xZ (xY (xfm b)) xDT f d 401 (if xCn .eq t0 0 = true then 189 else 188) [(0, .ref 49), (2, .int x2), (5, .int x5), (6, .int x6), (7, .int x7), (8, .int x8)] [] (rH e g q c l) 0 0 := by
    intro f
    obtain ⟨y, cb, hj⟩ := mq_401
    rw [n_step (st' := []) (pc' := (if xCn .eq t0 0 = true then 189 else 188)) (lv' := [(0, .ref 49), (2, .int x2), (5, .int x5), (6, .int x6), (7, .int x7), (8, .int x8)]) (hp' := rH e g q c l) (i := .ifCond .eq 4) (len := 3) rfl hj rfl rfl rfl]
  by_cases hc : xCn .eq t0 0 = true
  · obtain ⟨f, h⟩ := h1 hc
    refine ⟨f + 1, ?_⟩
    rw [key, if_pos hc]
    exact h
  · obtain ⟨f, h⟩ := h2 hc
    refine ⟨f + 1, ?_⟩
    rw [key, if_neg hc]
    exact nrun_ext f f _ _ R 401 188 [] [(0, .ref 49), (2, .int x2), (5, .int x5), (6, .int x6), (7, .int x7), (8, .int x8)] [] _ 0 0 122 (Nat.le_refl _) (Nat.le_refl _) (Nat.le_of_ble_eq_true rfl) (lvR_mk [] [0, 2, 5, 6, 7, 8] rfl rfl (by decide) (by decide) (fun _ h => nomatch h) (List.forall_mem_cons.mpr ⟨Or.inr rfl, (List.forall_mem_cons.mpr ⟨Or.inr rfl, (List.forall_mem_cons.mpr ⟨Or.inr rfl, (List.forall_mem_cons.mpr ⟨Or.inr rfl, (List.forall_mem_cons.mpr ⟨Or.inr rfl, (List.forall_mem_cons.mpr ⟨Or.inr rfl, (fun _ h => nomatch h)⟩)⟩)⟩)⟩)⟩)⟩)) h
set_option maxRecDepth 100000 in
set_option maxHeartbeats 4000000 in
theorem bk_401_188 {b : Bool} {d : Nat} {e : Nat → x_E} {g : Nat → Int32} {q : Nat → Int64} {c : Nat → Nat → Int32} {l : Nat → Nat → Int64} : rr b e d 401 188 [] [] g q c l (none, rH e g q c l) := by
  refine ⟨0 + 1, ?_⟩
  obtain ⟨y, cb, hj⟩ := mq_401
  exact n_ret rfl hj rfl rfl rfl
set_option maxRecDepth 100000 in
set_option maxHeartbeats 4000000 in
theorem bk_401_189 {b : Bool} {d : Nat} {x2 x5 x6 x7 x8 : Int32} {e : Nat → x_E} {g : Nat → Int32} {q : Nat → Int64} {c : Nat → Nat → Int32} {l : Nat → Nat → Int64} {R : Option Value × List x_E} (h1 : xCn .ne ((g 134)) 0 = true → rr b e d 401 204 [(0, .ref 49), (2, .int x2), (5, .int x5), (6, .int x6), (7, .int x7), (8, .int x8)] [] g q c l R) (h2 : ¬ xCn .ne ((g 134)) 0 = true → rr b e d 401 196 [(0, .ref 49), (2, .int x2), (5, .int x5), (6, .int x6), (7, .int x7), (8, .int x8)] [] g q c l R) : rr b e d 401 189 [(0, .ref 49), (2, .int x2), (5, .int x5), (6, .int x6), (7, .int x7), (8, .int x8)] [] g q c l R := by
  have key : ∀ f, nrun xZ (xY (xfm b)) xDT (f + 3) d 401 189 [(0, .ref 49), (2, .int x2), (5, .int x5), (6, .int x6), (7, .int x7), (8, .int x8)] [] (rH e g q c l) 0 0 = nrun xZ (xY (xfm b)) xDT f d 401 (if xCn .ne ((g 134)) 0 = true then 204 else 196) [(0, .ref 49), (2, .int x2), (5, .int x5), (6, .int x6), (7, .int x7), (8, .int x8)] [] (rH e g q c l) 0 0 := by
    intro f
    obtain ⟨y, cb, hj⟩ := mq_401
    rw [n_step (st' := [.ref 49]) (pc' := 190) (lv' := [(0, .ref 49), (2, .int x2), (5, .int x5), (6, .int x6), (7, .int x7), (8, .int x8)]) (hp' := rH e g q c l) (i := .aload_n 0) (len := 1) rfl hj rfl rfl rfl]
    rw [n_get (st' := [.int (g 134)]) (pc' := 193) (lv' := [(0, .ref 49), (2, .int x2), (5, .int x5), (6, .int x6), (7, .int x7), (8, .int x8)]) (hp' := rH e g q c l) (i := .getfield 754) (len := 3) rfl hj rfl rfl rfl rfl]
    rw [n_step (st' := []) (pc' := (if xCn .ne ((g 134)) 0 = true then 204 else 196)) (lv' := [(0, .ref 49), (2, .int x2), (5, .int x5), (6, .int x6), (7, .int x7), (8, .int x8)]) (hp' := rH e g q c l) (i := .ifCond .ne 11) (len := 3) rfl hj rfl rfl rfl]
  by_cases hc : xCn .ne ((g 134)) 0 = true
  · obtain ⟨f, h⟩ := h1 hc
    refine ⟨f + 3, ?_⟩
    rw [key, if_pos hc]
    exact h
  · obtain ⟨f, h⟩ := h2 hc
    refine ⟨f + 3, ?_⟩
    rw [key, if_neg hc]
    exact h
set_option maxRecDepth 100000 in
set_option maxHeartbeats 4000000 in
theorem bk_401_196 {b : Bool} {d : Nat} {x2 x5 x6 x7 x8 : Int32} {e : Nat → x_E} {g : Nat → Int32} {q : Nat → Int64} {c : Nat → Nat → Int32} {l : Nat → Nat → Int64} {R : Option Value × List x_E} (hz0 : ¬ (x2 < 0 ∨ 41 ≤ (x2).toNatClampNeg)) (h : rr b e d 401 204 [(0, .ref 49), (2, .int x2), (5, .int x5), (6, .int x6), (7, .int x7), (8, .int x8)] [] g q (updA c 108 (upd (c 108) (x2).toNatClampNeg x8)) l R) : rr b e d 401 196 [(0, .ref 49), (2, .int x2), (5, .int x5), (6, .int x6), (7, .int x7), (8, .int x8)] [] g q c l R := by
  obtain ⟨f, h⟩ := h
  refine ⟨f + 5, ?_⟩
  obtain ⟨y, cb, hj⟩ := mq_401
  rw [n_step (st' := [.ref 49]) (pc' := 197) (lv' := [(0, .ref 49), (2, .int x2), (5, .int x5), (6, .int x6), (7, .int x7), (8, .int x8)]) (hp' := rH e g q c l) (i := .aload_n 0) (len := 1) rfl hj rfl rfl rfl]
  rw [n_get (st' := [.ref 108]) (pc' := 200) (lv' := [(0, .ref 49), (2, .int x2), (5, .int x5), (6, .int x6), (7, .int x7), (8, .int x8)]) (hp' := rH e g q c l) (i := .getfield 195) (len := 3) rfl hj rfl rfl rfl rfl]
  rw [n_step (st' := [.int x2, .ref 108]) (pc' := 201) (lv' := [(0, .ref 49), (2, .int x2), (5, .int x5), (6, .int x6), (7, .int x7), (8, .int x8)]) (hp' := rH e g q c l) (i := .iload_n 2) (len := 1) rfl hj rfl rfl rfl]
  rw [n_step (st' := [.int x8, .int x2, .ref 108]) (pc' := 203) (lv' := [(0, .ref 49), (2, .int x2), (5, .int x5), (6, .int x6), (7, .int x7), (8, .int x8)]) (hp' := rH e g q c l) (i := .iload 8) (len := 2) rfl hj rfl rfl rfl]
  rw [n_ias (st' := []) (hp' := rH e g q (updA c 108 (upd (c 108) (x2).toNatClampNeg x8)) l) rfl hj (ast_108 hz0)]
  exact h
set_option maxRecDepth 100000 in
set_option maxHeartbeats 4000000 in
theorem bk_401_204 {b : Bool} {d : Nat} {x2 x5 x6 x7 x8 : Int32} {e : Nat → x_E} {g : Nat → Int32} {q : Nat → Int64} {c : Nat → Nat → Int32} {l : Nat → Nat → Int64} {R : Option Value × List x_E} (h1 : xCn .ne x2 0 = true → rr b e d 401 220 [(0, .ref 49), (2, .int x2), (7, .int x7), (8, .int x8)] [] g q c l R) (h2 : ¬ xCn .ne x2 0 = true → rr b e d 401 208 [(0, .ref 49), (2, .int x2), (5, .int x5), (6, .int x6), (7, .int x7), (8, .int x8)] [] g q c l R) : rr b e d 401 204 [(0, .ref 49), (2, .int x2), (5, .int x5), (6, .int x6), (7, .int x7), (8, .int x8)] [] g q c l R := by
  have key : ∀ f, nrun xZ (xY (xfm b)) xDT (f + 2) d 401 204 [(0, .ref 49), (2, .int x2), (5, .int x5), (6, .int x6), (7, .int x7), (8, .int x8)] [] (rH e g q c l) 0 0 = nrun xZ (xY (xfm b)) xDT f d 401 (if xCn .ne x2 0 = true then 220 else 208) [(0, .ref 49), (2, .int x2), (5, .int x5), (6, .int x6), (7, .int x7), (8, .int x8)] [] (rH e g q c l) 0 0 := by
    intro f
    obtain ⟨y, cb, hj⟩ := mq_401
    rw [n_step (st' := [.int x2]) (pc' := 205) (lv' := [(0, .ref 49), (2, .int x2), (5, .int x5), (6, .int x6), (7, .int x7), (8, .int x8)]) (hp' := rH e g q c l) (i := .iload_n 2) (len := 1) rfl hj rfl rfl rfl]
    rw [n_step (st' := []) (pc' := (if xCn .ne x2 0 = true then 220 else 208)) (lv' := [(0, .ref 49), (2, .int x2), (5, .int x5), (6, .int x6), (7, .int x7), (8, .int x8)]) (hp' := rH e g q c l) (i := .ifCond .ne 15) (len := 3) rfl hj rfl rfl rfl]
  by_cases hc : xCn .ne x2 0 = true
  · obtain ⟨f, h⟩ := h1 hc
    refine ⟨f + 2, ?_⟩
    rw [key, if_pos hc]
    exact nrun_ext f f _ _ R 401 220 [(0, .ref 49), (2, .int x2), (7, .int x7), (8, .int x8)] [(0, .ref 49), (2, .int x2), (5, .int x5), (6, .int x6), (7, .int x7), (8, .int x8)] [] _ 0 0 122 (Nat.le_refl _) (Nat.le_refl _) (Nat.le_of_ble_eq_true rfl) (lvR_mk [0, 2, 7, 8] [0, 2, 5, 6, 7, 8] rfl rfl (by decide) (by decide) (List.forall_mem_cons.mpr ⟨List.mem_cons_self, (List.forall_mem_cons.mpr ⟨(List.mem_cons_of_mem _ List.mem_cons_self), (List.forall_mem_cons.mpr ⟨(List.mem_cons_of_mem _ (List.mem_cons_of_mem _ (List.mem_cons_of_mem _ (List.mem_cons_of_mem _ List.mem_cons_self)))), (List.forall_mem_cons.mpr ⟨(List.mem_cons_of_mem _ (List.mem_cons_of_mem _ (List.mem_cons_of_mem _ (List.mem_cons_of_mem _ (List.mem_cons_of_mem _ List.mem_cons_self))))), (fun _ h => nomatch h)⟩)⟩)⟩)⟩) (List.forall_mem_cons.mpr ⟨Or.inl List.mem_cons_self, (List.forall_mem_cons.mpr ⟨Or.inl (List.mem_cons_of_mem _ List.mem_cons_self), (List.forall_mem_cons.mpr ⟨Or.inr rfl, (List.forall_mem_cons.mpr ⟨Or.inr rfl, (List.forall_mem_cons.mpr ⟨Or.inl (List.mem_cons_of_mem _ (List.mem_cons_of_mem _ List.mem_cons_self)), (List.forall_mem_cons.mpr ⟨Or.inl (List.mem_cons_of_mem _ (List.mem_cons_of_mem _ (List.mem_cons_of_mem _ List.mem_cons_self))), (fun _ h => nomatch h)⟩)⟩)⟩)⟩)⟩)⟩)) h
  · obtain ⟨f, h⟩ := h2 hc
    refine ⟨f + 2, ?_⟩
    rw [key, if_neg hc]
    exact h
set_option maxRecDepth 100000 in
set_option maxHeartbeats 4000000 in
theorem bk_401_208 {b : Bool} {d : Nat} {x2 x5 x6 x7 x8 : Int32} {e : Nat → x_E} {g : Nat → Int32} {q : Nat → Int64} {c : Nat → Nat → Int32} {l : Nat → Nat → Int64} {R : Option Value × List x_E} (h1 : xCn .eq x6 0 = true → rr b e d 401 220 [(0, .ref 49), (2, .int x2), (7, .int x7), (8, .int x8)] [] g q c l R) (h2 : ¬ xCn .eq x6 0 = true → rr b e d 401 213 [(0, .ref 49), (2, .int x2), (5, .int x5), (7, .int x7), (8, .int x8)] [] g q c l R) : rr b e d 401 208 [(0, .ref 49), (2, .int x2), (5, .int x5), (6, .int x6), (7, .int x7), (8, .int x8)] [] g q c l R := by
  have key : ∀ f, nrun xZ (xY (xfm b)) xDT (f + 2) d 401 208 [(0, .ref 49), (2, .int x2), (5, .int x5), (6, .int x6), (7, .int x7), (8, .int x8)] [] (rH e g q c l) 0 0 = nrun xZ (xY (xfm b)) xDT f d 401 (if xCn .eq x6 0 = true then 220 else 213) [(0, .ref 49), (2, .int x2), (5, .int x5), (6, .int x6), (7, .int x7), (8, .int x8)] [] (rH e g q c l) 0 0 := by
    intro f
    obtain ⟨y, cb, hj⟩ := mq_401
    rw [n_step (st' := [.int x6]) (pc' := 210) (lv' := [(0, .ref 49), (2, .int x2), (5, .int x5), (6, .int x6), (7, .int x7), (8, .int x8)]) (hp' := rH e g q c l) (i := .iload 6) (len := 2) rfl hj rfl rfl rfl]
    rw [n_step (st' := []) (pc' := (if xCn .eq x6 0 = true then 220 else 213)) (lv' := [(0, .ref 49), (2, .int x2), (5, .int x5), (6, .int x6), (7, .int x7), (8, .int x8)]) (hp' := rH e g q c l) (i := .ifCond .eq 10) (len := 3) rfl hj rfl rfl rfl]
  by_cases hc : xCn .eq x6 0 = true
  · obtain ⟨f, h⟩ := h1 hc
    refine ⟨f + 2, ?_⟩
    rw [key, if_pos hc]
    exact nrun_ext f f _ _ R 401 220 [(0, .ref 49), (2, .int x2), (7, .int x7), (8, .int x8)] [(0, .ref 49), (2, .int x2), (5, .int x5), (6, .int x6), (7, .int x7), (8, .int x8)] [] _ 0 0 122 (Nat.le_refl _) (Nat.le_refl _) (Nat.le_of_ble_eq_true rfl) (lvR_mk [0, 2, 7, 8] [0, 2, 5, 6, 7, 8] rfl rfl (by decide) (by decide) (List.forall_mem_cons.mpr ⟨List.mem_cons_self, (List.forall_mem_cons.mpr ⟨(List.mem_cons_of_mem _ List.mem_cons_self), (List.forall_mem_cons.mpr ⟨(List.mem_cons_of_mem _ (List.mem_cons_of_mem _ (List.mem_cons_of_mem _ (List.mem_cons_of_mem _ List.mem_cons_self)))), (List.forall_mem_cons.mpr ⟨(List.mem_cons_of_mem _ (List.mem_cons_of_mem _ (List.mem_cons_of_mem _ (List.mem_cons_of_mem _ (List.mem_cons_of_mem _ List.mem_cons_self))))), (fun _ h => nomatch h)⟩)⟩)⟩)⟩) (List.forall_mem_cons.mpr ⟨Or.inl List.mem_cons_self, (List.forall_mem_cons.mpr ⟨Or.inl (List.mem_cons_of_mem _ List.mem_cons_self), (List.forall_mem_cons.mpr ⟨Or.inr rfl, (List.forall_mem_cons.mpr ⟨Or.inr rfl, (List.forall_mem_cons.mpr ⟨Or.inl (List.mem_cons_of_mem _ (List.mem_cons_of_mem _ List.mem_cons_self)), (List.forall_mem_cons.mpr ⟨Or.inl (List.mem_cons_of_mem _ (List.mem_cons_of_mem _ (List.mem_cons_of_mem _ List.mem_cons_self))), (fun _ h => nomatch h)⟩)⟩)⟩)⟩)⟩)⟩)) h
  · obtain ⟨f, h⟩ := h2 hc
    refine ⟨f + 2, ?_⟩
    rw [key, if_neg hc]
    exact nrun_ext f f _ _ R 401 213 [(0, .ref 49), (2, .int x2), (5, .int x5), (7, .int x7), (8, .int x8)] [(0, .ref 49), (2, .int x2), (5, .int x5), (6, .int x6), (7, .int x7), (8, .int x8)] [] _ 0 0 122 (Nat.le_refl _) (Nat.le_refl _) (Nat.le_of_ble_eq_true rfl) (lvR_mk [0, 2, 5, 7, 8] [0, 2, 5, 6, 7, 8] rfl rfl (by decide) (by decide) (List.forall_mem_cons.mpr ⟨List.mem_cons_self, (List.forall_mem_cons.mpr ⟨(List.mem_cons_of_mem _ List.mem_cons_self), (List.forall_mem_cons.mpr ⟨(List.mem_cons_of_mem _ (List.mem_cons_of_mem _ List.mem_cons_self)), (List.forall_mem_cons.mpr ⟨(List.mem_cons_of_mem _ (List.mem_cons_of_mem _ (List.mem_cons_of_mem _ (List.mem_cons_of_mem _ List.mem_cons_self)))), (List.forall_mem_cons.mpr ⟨(List.mem_cons_of_mem _ (List.mem_cons_of_mem _ (List.mem_cons_of_mem _ (List.mem_cons_of_mem _ (List.mem_cons_of_mem _ List.mem_cons_self))))), (fun _ h => nomatch h)⟩)⟩)⟩)⟩)⟩) (List.forall_mem_cons.mpr ⟨Or.inl List.mem_cons_self, (List.forall_mem_cons.mpr ⟨Or.inl (List.mem_cons_of_mem _ List.mem_cons_self), (List.forall_mem_cons.mpr ⟨Or.inl (List.mem_cons_of_mem _ (List.mem_cons_of_mem _ List.mem_cons_self)), (List.forall_mem_cons.mpr ⟨Or.inr rfl, (List.forall_mem_cons.mpr ⟨Or.inl (List.mem_cons_of_mem _ (List.mem_cons_of_mem _ (List.mem_cons_of_mem _ List.mem_cons_self))), (List.forall_mem_cons.mpr ⟨Or.inl (List.mem_cons_of_mem _ (List.mem_cons_of_mem _ (List.mem_cons_of_mem _ (List.mem_cons_of_mem _ List.mem_cons_self)))), (fun _ h => nomatch h)⟩)⟩)⟩)⟩)⟩)⟩)) h
set_option maxRecDepth 100000 in
set_option maxHeartbeats 4000000 in
theorem bk_401_213 {b : Bool} {d : Nat} {x2 x5 x7 x8 : Int32} {e : Nat → x_E} {g : Nat → Int32} {q : Nat → Int64} {c : Nat → Nat → Int32} {l : Nat → Nat → Int64} {g' : Nat → Int32} {q' : Nat → Int64} {c' : Nat → Nat → Int32} {l' : Nat → Nat → Int64} {R : Option Value × List x_E} (hc : rr b e d 349 0 [(0, .ref 49), (1, .int (Int32.ofInt (5))), (2, .int x5)] [] g q c l (none, rH e g' q' c' l')) (h : rr b e (d + 1) 401 220 [(0, .ref 49), (2, .int x2), (7, .int x7), (8, .int x8)] [] g' q' c' l' R) : rr b e (d + 1) 401 213 [(0, .ref 49), (2, .int x2), (5, .int x5), (7, .int x7), (8, .int x8)] [] g q c l R := by
  obtain ⟨f1, hc⟩ := hc
  obtain ⟨f2, h⟩ := h
  obtain ⟨f, hf1, hf2⟩ : ∃ f, f1 ≤ f ∧ f2 ≤ f := ⟨max f1 f2, Nat.le_max_left _ _, Nat.le_max_right _ _⟩
  have hc := nrun_fuel f1 f _ _ _ _ _ _ _ _ _ hf1 hc
  have h := nrun_fuel f2 f _ _ _ _ _ _ _ _ _ hf2 h
  refine ⟨f + 4, ?_⟩
  obtain ⟨y, cb, hj⟩ := mq_401
  rw [n_step (st' := [.ref 49]) (pc' := 214) (lv' := [(0, .ref 49), (2, .int x2), (5, .int x5), (7, .int x7), (8, .int x8)]) (hp' := rH e g q c l) (i := .aload_n 0) (len := 1) rfl hj rfl rfl rfl]
  rw [n_step (st' := [.int (Int32.ofInt (5)), .ref 49]) (pc' := 215) (lv' := [(0, .ref 49), (2, .int x2), (5, .int x5), (7, .int x7), (8, .int x8)]) (hp' := rH e g q c l) (i := .iconst 5) (len := 1) rfl hj rfl rfl rfl]
  rw [n_step (st' := [.int x5, .int (Int32.ofInt (5)), .ref 49]) (pc' := 217) (lv' := [(0, .ref 49), (2, .int x2), (5, .int x5), (7, .int x7), (8, .int x8)]) (hp' := rH e g q c l) (i := .iload 5) (len := 2) rfl hj rfl rfl rfl]
  obtain ⟨y2, cb2, hj2⟩ := mq_349
  rw [n_call (f := f) (d := d) (ki := 0) (idx := 427) (j' := 349) (kd := 0) (M' := (y2, cb2, 3, none, 12, 2, 0, 0)) (avs := [.ref 49, .int (Int32.ofInt (5)), .int x5]) (r := []) (rv := none) (hp1 := rH e g' q' c' l') rfl hj rfl rfl rfl rfl (rq_n rfl rfl hj2 rfl rfl) rfl hc (Nat.le_of_ble_eq_true rfl)]
  exact nrun_ext f f _ _ R 401 220 [(0, .ref 49), (2, .int x2), (7, .int x7), (8, .int x8)] [(0, .ref 49), (2, .int x2), (5, .int x5), (7, .int x7), (8, .int x8)] [] _ 0 0 122 (Nat.le_refl _) (Nat.le_refl _) (Nat.le_of_ble_eq_true rfl) (lvR_mk [0, 2, 7, 8] [0, 2, 5, 7, 8] rfl rfl (by decide) (by decide) (List.forall_mem_cons.mpr ⟨List.mem_cons_self, (List.forall_mem_cons.mpr ⟨(List.mem_cons_of_mem _ List.mem_cons_self), (List.forall_mem_cons.mpr ⟨(List.mem_cons_of_mem _ (List.mem_cons_of_mem _ (List.mem_cons_of_mem _ List.mem_cons_self))), (List.forall_mem_cons.mpr ⟨(List.mem_cons_of_mem _ (List.mem_cons_of_mem _ (List.mem_cons_of_mem _ (List.mem_cons_of_mem _ List.mem_cons_self)))), (fun _ h => nomatch h)⟩)⟩)⟩)⟩) (List.forall_mem_cons.mpr ⟨Or.inl List.mem_cons_self, (List.forall_mem_cons.mpr ⟨Or.inl (List.mem_cons_of_mem _ List.mem_cons_self), (List.forall_mem_cons.mpr ⟨Or.inr rfl, (List.forall_mem_cons.mpr ⟨Or.inl (List.mem_cons_of_mem _ (List.mem_cons_of_mem _ List.mem_cons_self)), (List.forall_mem_cons.mpr ⟨Or.inl (List.mem_cons_of_mem _ (List.mem_cons_of_mem _ (List.mem_cons_of_mem _ List.mem_cons_self))), (fun _ h => nomatch h)⟩)⟩)⟩)⟩)⟩)) h
set_option maxRecDepth 100000 in
set_option maxHeartbeats 4000000 in
theorem bk_401_220 {b : Bool} {d : Nat} {x2 x7 x8 : Int32} {e : Nat → x_E} {g : Nat → Int32} {q : Nat → Int64} {c : Nat → Nat → Int32} {l : Nat → Nat → Int64} {R : Option Value × List x_E} (h1 : xCn .ne x2 0 = true → rr b e d 401 245 [(0, .ref 49), (2, .int x2), (8, .int x8)] [] g q c l R) (h2 : ¬ xCn .ne x2 0 = true → rr b e d 401 224 [(0, .ref 49), (2, .int x2), (7, .int x7), (8, .int x8)] [] g q c l R) : rr b e d 401 220 [(0, .ref 49), (2, .int x2), (7, .int x7), (8, .int x8)] [] g q c l R := by
  have key : ∀ f, nrun xZ (xY (xfm b)) xDT (f + 2) d 401 220 [(0, .ref 49), (2, .int x2), (7, .int x7), (8, .int x8)] [] (rH e g q c l) 0 0 = nrun xZ (xY (xfm b)) xDT f d 401 (if xCn .ne x2 0 = true then 245 else 224) [(0, .ref 49), (2, .int x2), (7, .int x7), (8, .int x8)] [] (rH e g q c l) 0 0 := by
    intro f
    obtain ⟨y, cb, hj⟩ := mq_401
    rw [n_step (st' := [.int x2]) (pc' := 221) (lv' := [(0, .ref 49), (2, .int x2), (7, .int x7), (8, .int x8)]) (hp' := rH e g q c l) (i := .iload_n 2) (len := 1) rfl hj rfl rfl rfl]
    rw [n_step (st' := []) (pc' := (if xCn .ne x2 0 = true then 245 else 224)) (lv' := [(0, .ref 49), (2, .int x2), (7, .int x7), (8, .int x8)]) (hp' := rH e g q c l) (i := .ifCond .ne 24) (len := 3) rfl hj rfl rfl rfl]
  by_cases hc : xCn .ne x2 0 = true
  · obtain ⟨f, h⟩ := h1 hc
    refine ⟨f + 2, ?_⟩
    rw [key, if_pos hc]
    exact nrun_ext f f _ _ R 401 245 [(0, .ref 49), (2, .int x2), (8, .int x8)] [(0, .ref 49), (2, .int x2), (7, .int x7), (8, .int x8)] [] _ 0 0 122 (Nat.le_refl _) (Nat.le_refl _) (Nat.le_of_ble_eq_true rfl) (lvR_mk [0, 2, 8] [0, 2, 7, 8] rfl rfl (by decide) (by decide) (List.forall_mem_cons.mpr ⟨List.mem_cons_self, (List.forall_mem_cons.mpr ⟨(List.mem_cons_of_mem _ List.mem_cons_self), (List.forall_mem_cons.mpr ⟨(List.mem_cons_of_mem _ (List.mem_cons_of_mem _ (List.mem_cons_of_mem _ List.mem_cons_self))), (fun _ h => nomatch h)⟩)⟩)⟩) (List.forall_mem_cons.mpr ⟨Or.inl List.mem_cons_self, (List.forall_mem_cons.mpr ⟨Or.inl (List.mem_cons_of_mem _ List.mem_cons_self), (List.forall_mem_cons.mpr ⟨Or.inr rfl, (List.forall_mem_cons.mpr ⟨Or.inl (List.mem_cons_of_mem _ (List.mem_cons_of_mem _ List.mem_cons_self)), (fun _ h => nomatch h)⟩)⟩)⟩)⟩)) h
  · obtain ⟨f, h⟩ := h2 hc
    refine ⟨f + 2, ?_⟩
    rw [key, if_neg hc]
    exact h
set_option maxRecDepth 100000 in
set_option maxHeartbeats 4000000 in
theorem bk_401_224 {b : Bool} {d : Nat} {x2 x7 x8 : Int32} {e : Nat → x_E} {g : Nat → Int32} {q : Nat → Int64} {c : Nat → Nat → Int32} {l : Nat → Nat → Int64} {R : Option Value × List x_E} (h1 : xCn .le ((g 105)) 0 = true → rr b e d 401 245 [(0, .ref 49), (2, .int x2), (8, .int x8)] [] g q c l R) (h2 : ¬ xCn .le ((g 105)) 0 = true → rr b e d 401 231 [(0, .ref 49), (2, .int x2), (7, .int x7), (8, .int x8)] [] g q c l R) : rr b e d 401 224 [(0, .ref 49), (2, .int x2), (7, .int x7), (8, .int x8)] [] g q c l R := by
  have key : ∀ f, nrun xZ (xY (xfm b)) xDT (f + 3) d 401 224 [(0, .ref 49), (2, .int x2), (7, .int x7), (8, .int x8)] [] (rH e g q c l) 0 0 = nrun xZ (xY (xfm b)) xDT f d 401 (if xCn .le ((g 105)) 0 = true then 245 else 231) [(0, .ref 49), (2, .int x2), (7, .int x7), (8, .int x8)] [] (rH e g q c l) 0 0 := by
    intro f
    obtain ⟨y, cb, hj⟩ := mq_401
    rw [n_step (st' := [.ref 49]) (pc' := 225) (lv' := [(0, .ref 49), (2, .int x2), (7, .int x7), (8, .int x8)]) (hp' := rH e g q c l) (i := .aload_n 0) (len := 1) rfl hj rfl rfl rfl]
    rw [n_get (st' := [.int (g 105)]) (pc' := 228) (lv' := [(0, .ref 49), (2, .int x2), (7, .int x7), (8, .int x8)]) (hp' := rH e g q c l) (i := .getfield 735) (len := 3) rfl hj rfl rfl rfl rfl]
    rw [n_step (st' := []) (pc' := (if xCn .le ((g 105)) 0 = true then 245 else 231)) (lv' := [(0, .ref 49), (2, .int x2), (7, .int x7), (8, .int x8)]) (hp' := rH e g q c l) (i := .ifCond .le 17) (len := 3) rfl hj rfl rfl rfl]
  by_cases hc : xCn .le ((g 105)) 0 = true
  · obtain ⟨f, h⟩ := h1 hc
    refine ⟨f + 3, ?_⟩
    rw [key, if_pos hc]
    exact nrun_ext f f _ _ R 401 245 [(0, .ref 49), (2, .int x2), (8, .int x8)] [(0, .ref 49), (2, .int x2), (7, .int x7), (8, .int x8)] [] _ 0 0 122 (Nat.le_refl _) (Nat.le_refl _) (Nat.le_of_ble_eq_true rfl) (lvR_mk [0, 2, 8] [0, 2, 7, 8] rfl rfl (by decide) (by decide) (List.forall_mem_cons.mpr ⟨List.mem_cons_self, (List.forall_mem_cons.mpr ⟨(List.mem_cons_of_mem _ List.mem_cons_self), (List.forall_mem_cons.mpr ⟨(List.mem_cons_of_mem _ (List.mem_cons_of_mem _ (List.mem_cons_of_mem _ List.mem_cons_self))), (fun _ h => nomatch h)⟩)⟩)⟩) (List.forall_mem_cons.mpr ⟨Or.inl List.mem_cons_self, (List.forall_mem_cons.mpr ⟨Or.inl (List.mem_cons_of_mem _ List.mem_cons_self), (List.forall_mem_cons.mpr ⟨Or.inr rfl, (List.forall_mem_cons.mpr ⟨Or.inl (List.mem_cons_of_mem _ (List.mem_cons_of_mem _ List.mem_cons_self)), (fun _ h => nomatch h)⟩)⟩)⟩)⟩)) h
  · obtain ⟨f, h⟩ := h2 hc
    refine ⟨f + 3, ?_⟩
    rw [key, if_neg hc]
    exact h
set_option maxRecDepth 100000 in
set_option maxHeartbeats 4000000 in
theorem bk_401_231 {b : Bool} {d : Nat} {x2 x7 x8 : Int32} {e : Nat → x_E} {g : Nat → Int32} {q : Nat → Int64} {c : Nat → Nat → Int32} {l : Nat → Nat → Int64} {R : Option Value × List x_E} (h1 : xCn .ne ((g 106)) 0 = true → rr b e d 401 245 [(0, .ref 49), (2, .int x2), (8, .int x8)] [] g q c l R) (h2 : ¬ xCn .ne ((g 106)) 0 = true → rr b e d 401 238 [(0, .ref 49), (2, .int x2), (7, .int x7), (8, .int x8)] [] g q c l R) : rr b e d 401 231 [(0, .ref 49), (2, .int x2), (7, .int x7), (8, .int x8)] [] g q c l R := by
  have key : ∀ f, nrun xZ (xY (xfm b)) xDT (f + 3) d 401 231 [(0, .ref 49), (2, .int x2), (7, .int x7), (8, .int x8)] [] (rH e g q c l) 0 0 = nrun xZ (xY (xfm b)) xDT f d 401 (if xCn .ne ((g 106)) 0 = true then 245 else 238) [(0, .ref 49), (2, .int x2), (7, .int x7), (8, .int x8)] [] (rH e g q c l) 0 0 := by
    intro f
    obtain ⟨y, cb, hj⟩ := mq_401
    rw [n_step (st' := [.ref 49]) (pc' := 232) (lv' := [(0, .ref 49), (2, .int x2), (7, .int x7), (8, .int x8)]) (hp' := rH e g q c l) (i := .aload_n 0) (len := 1) rfl hj rfl rfl rfl]
    rw [n_get (st' := [.int (g 106)]) (pc' := 235) (lv' := [(0, .ref 49), (2, .int x2), (7, .int x7), (8, .int x8)]) (hp' := rH e g q c l) (i := .getfield 738) (len := 3) rfl hj rfl rfl rfl rfl]
    rw [n_step (st' := []) (pc' := (if xCn .ne ((g 106)) 0 = true then 245 else 238)) (lv' := [(0, .ref 49), (2, .int x2), (7, .int x7), (8, .int x8)]) (hp' := rH e g q c l) (i := .ifCond .ne 10) (len := 3) rfl hj rfl rfl rfl]
  by_cases hc : xCn .ne ((g 106)) 0 = true
  · obtain ⟨f, h⟩ := h1 hc
    refine ⟨f + 3, ?_⟩
    rw [key, if_pos hc]
    exact nrun_ext f f _ _ R 401 245 [(0, .ref 49), (2, .int x2), (8, .int x8)] [(0, .ref 49), (2, .int x2), (7, .int x7), (8, .int x8)] [] _ 0 0 122 (Nat.le_refl _) (Nat.le_refl _) (Nat.le_of_ble_eq_true rfl) (lvR_mk [0, 2, 8] [0, 2, 7, 8] rfl rfl (by decide) (by decide) (List.forall_mem_cons.mpr ⟨List.mem_cons_self, (List.forall_mem_cons.mpr ⟨(List.mem_cons_of_mem _ List.mem_cons_self), (List.forall_mem_cons.mpr ⟨(List.mem_cons_of_mem _ (List.mem_cons_of_mem _ (List.mem_cons_of_mem _ List.mem_cons_self))), (fun _ h => nomatch h)⟩)⟩)⟩) (List.forall_mem_cons.mpr ⟨Or.inl List.mem_cons_self, (List.forall_mem_cons.mpr ⟨Or.inl (List.mem_cons_of_mem _ List.mem_cons_self), (List.forall_mem_cons.mpr ⟨Or.inr rfl, (List.forall_mem_cons.mpr ⟨Or.inl (List.mem_cons_of_mem _ (List.mem_cons_of_mem _ List.mem_cons_self)), (fun _ h => nomatch h)⟩)⟩)⟩)⟩)) h
  · obtain ⟨f, h⟩ := h2 hc
    refine ⟨f + 3, ?_⟩
    rw [key, if_neg hc]
    exact h
set_option maxRecDepth 100000 in
set_option maxHeartbeats 4000000 in
theorem bk_401_238 {b : Bool} {d : Nat} {x2 x7 x8 : Int32} {e : Nat → x_E} {g : Nat → Int32} {q : Nat → Int64} {c : Nat → Nat → Int32} {l : Nat → Nat → Int64} {g' : Nat → Int32} {q' : Nat → Int64} {c' : Nat → Nat → Int32} {l' : Nat → Nat → Int64} {R : Option Value × List x_E} (hc : rr b e d 349 0 [(0, .ref 49), (1, .int (Int32.ofInt (5))), (2, .int x7)] [] g q c l (none, rH e g' q' c' l')) (h : rr b e (d + 1) 401 245 [(0, .ref 49), (2, .int x2), (8, .int x8)] [] g' q' c' l' R) : rr b e (d + 1) 401 238 [(0, .ref 49), (2, .int x2), (7, .int x7), (8, .int x8)] [] g q c l R := by
  obtain ⟨f1, hc⟩ := hc
  obtain ⟨f2, h⟩ := h
  obtain ⟨f, hf1, hf2⟩ : ∃ f, f1 ≤ f ∧ f2 ≤ f := ⟨max f1 f2, Nat.le_max_left _ _, Nat.le_max_right _ _⟩
  have hc := nrun_fuel f1 f _ _ _ _ _ _ _ _ _ hf1 hc
  have h := nrun_fuel f2 f _ _ _ _ _ _ _ _ _ hf2 h
  refine ⟨f + 4, ?_⟩
  obtain ⟨y, cb, hj⟩ := mq_401
  rw [n_step (st' := [.ref 49]) (pc' := 239) (lv' := [(0, .ref 49), (2, .int x2), (7, .int x7), (8, .int x8)]) (hp' := rH e g q c l) (i := .aload_n 0) (len := 1) rfl hj rfl rfl rfl]
  rw [n_step (st' := [.int (Int32.ofInt (5)), .ref 49]) (pc' := 240) (lv' := [(0, .ref 49), (2, .int x2), (7, .int x7), (8, .int x8)]) (hp' := rH e g q c l) (i := .iconst 5) (len := 1) rfl hj rfl rfl rfl]
  rw [n_step (st' := [.int x7, .int (Int32.ofInt (5)), .ref 49]) (pc' := 242) (lv' := [(0, .ref 49), (2, .int x2), (7, .int x7), (8, .int x8)]) (hp' := rH e g q c l) (i := .iload 7) (len := 2) rfl hj rfl rfl rfl]
  obtain ⟨y2, cb2, hj2⟩ := mq_349
  rw [n_call (f := f) (d := d) (ki := 0) (idx := 427) (j' := 349) (kd := 0) (M' := (y2, cb2, 3, none, 12, 2, 0, 0)) (avs := [.ref 49, .int (Int32.ofInt (5)), .int x7]) (r := []) (rv := none) (hp1 := rH e g' q' c' l') rfl hj rfl rfl rfl rfl (rq_n rfl rfl hj2 rfl rfl) rfl hc (Nat.le_of_ble_eq_true rfl)]
  exact nrun_ext f f _ _ R 401 245 [(0, .ref 49), (2, .int x2), (8, .int x8)] [(0, .ref 49), (2, .int x2), (7, .int x7), (8, .int x8)] [] _ 0 0 122 (Nat.le_refl _) (Nat.le_refl _) (Nat.le_of_ble_eq_true rfl) (lvR_mk [0, 2, 8] [0, 2, 7, 8] rfl rfl (by decide) (by decide) (List.forall_mem_cons.mpr ⟨List.mem_cons_self, (List.forall_mem_cons.mpr ⟨(List.mem_cons_of_mem _ List.mem_cons_self), (List.forall_mem_cons.mpr ⟨(List.mem_cons_of_mem _ (List.mem_cons_of_mem _ (List.mem_cons_of_mem _ List.mem_cons_self))), (fun _ h => nomatch h)⟩)⟩)⟩) (List.forall_mem_cons.mpr ⟨Or.inl List.mem_cons_self, (List.forall_mem_cons.mpr ⟨Or.inl (List.mem_cons_of_mem _ List.mem_cons_self), (List.forall_mem_cons.mpr ⟨Or.inr rfl, (List.forall_mem_cons.mpr ⟨Or.inl (List.mem_cons_of_mem _ (List.mem_cons_of_mem _ List.mem_cons_self)), (fun _ h => nomatch h)⟩)⟩)⟩)⟩)) h
set_option maxRecDepth 100000 in
set_option maxHeartbeats 4000000 in
theorem bk_401_245 {b : Bool} {d : Nat} {x2 x8 : Int32} {e : Nat → x_E} {g : Nat → Int32} {q : Nat → Int64} {c : Nat → Nat → Int32} {l : Nat → Nat → Int64} {g' : Nat → Int32} {q' : Nat → Int64} {c' : Nat → Nat → Int32} {l' : Nat → Nat → Int64} {R : Option Value × List x_E} (hc : rr b e d 411 0 [(0, .ref 49), (1, .int x8)] [] g q c l (none, rH e g' q' c' l')) (h : rr b e (d + 1) 401 251 [(0, .ref 49), (2, .int x2)] [] g' q' c' l' R) : rr b e (d + 1) 401 245 [(0, .ref 49), (2, .int x2), (8, .int x8)] [] g q c l R := by
  obtain ⟨f1, hc⟩ := hc
  obtain ⟨f2, h⟩ := h
  obtain ⟨f, hf1, hf2⟩ : ∃ f, f1 ≤ f ∧ f2 ≤ f := ⟨max f1 f2, Nat.le_max_left _ _, Nat.le_max_right _ _⟩
  have hc := nrun_fuel f1 f _ _ _ _ _ _ _ _ _ hf1 hc
  have h := nrun_fuel f2 f _ _ _ _ _ _ _ _ _ hf2 h
  refine ⟨f + 3, ?_⟩
  obtain ⟨y, cb, hj⟩ := mq_401
  rw [n_step (st' := [.ref 49]) (pc' := 246) (lv' := [(0, .ref 49), (2, .int x2), (8, .int x8)]) (hp' := rH e g q c l) (i := .aload_n 0) (len := 1) rfl hj rfl rfl rfl]
  rw [n_step (st' := [.int x8, .ref 49]) (pc' := 248) (lv' := [(0, .ref 49), (2, .int x2), (8, .int x8)]) (hp' := rH e g q c l) (i := .iload 8) (len := 2) rfl hj rfl rfl rfl]
  obtain ⟨y2, cb2, hj2⟩ := mq_411
  rw [n_call (f := f) (d := d) (ki := 0) (idx := 779) (j' := 411) (kd := 0) (M' := (y2, cb2, 4, none, 12, 1, 0, 0)) (avs := [.ref 49, .int x8]) (r := []) (rv := none) (hp1 := rH e g' q' c' l') rfl hj rfl rfl rfl rfl (rq_n rfl rfl hj2 rfl rfl) rfl hc (Nat.le_of_ble_eq_true rfl)]
  exact nrun_ext f f _ _ R 401 251 [(0, .ref 49), (2, .int x2)] [(0, .ref 49), (2, .int x2), (8, .int x8)] [] _ 0 0 122 (Nat.le_refl _) (Nat.le_refl _) (Nat.le_of_ble_eq_true rfl) (lvR_mk [0, 2] [0, 2, 8] rfl rfl (by decide) (by decide) (List.forall_mem_cons.mpr ⟨List.mem_cons_self, (List.forall_mem_cons.mpr ⟨(List.mem_cons_of_mem _ List.mem_cons_self), (fun _ h => nomatch h)⟩)⟩) (List.forall_mem_cons.mpr ⟨Or.inl List.mem_cons_self, (List.forall_mem_cons.mpr ⟨Or.inl (List.mem_cons_of_mem _ List.mem_cons_self), (List.forall_mem_cons.mpr ⟨Or.inr rfl, (fun _ h => nomatch h)⟩)⟩)⟩)) h
set_option maxRecDepth 100000 in
set_option maxHeartbeats 4000000 in
theorem bk_401_251 {b : Bool} {d : Nat} {x2 : Int32} {e : Nat → x_E} {g : Nat → Int32} {q : Nat → Int64} {c : Nat → Nat → Int32} {l : Nat → Nat → Int64} {R : Option Value × List x_E} (hz0 : ¬ (x2 < 0 ∨ 41 ≤ (x2).toNatClampNeg)) (h : rr b e d 401 264 [(0, .ref 49), (9, .int (Int32.ofInt (0)))] [] g q (updA c 109 (upd (c 109) (x2).toNatClampNeg ((g 125)))) l R) : rr b e d 401 251 [(0, .ref 49), (2, .int x2)] [] g q c l R := by
  obtain ⟨f, h⟩ := h
  refine ⟨f + 8, ?_⟩
  obtain ⟨y, cb, hj⟩ := mq_401
  rw [n_step (st' := [.ref 49]) (pc' := 252) (lv' := [(0, .ref 49), (2, .int x2)]) (hp' := rH e g q c l) (i := .aload_n 0) (len := 1) rfl hj rfl rfl rfl]
  rw [n_get (st' := [.ref 109]) (pc' := 255) (lv' := [(0, .ref 49), (2, .int x2)]) (hp' := rH e g q c l) (i := .getfield 198) (len := 3) rfl hj rfl rfl rfl rfl]
  rw [n_step (st' := [.int x2, .ref 109]) (pc' := 256) (lv' := [(0, .ref 49), (2, .int x2)]) (hp' := rH e g q c l) (i := .iload_n 2) (len := 1) rfl hj rfl rfl rfl]
  rw [n_step (st' := [.ref 49, .int x2, .ref 109]) (pc' := 257) (lv' := [(0, .ref 49), (2, .int x2)]) (hp' := rH e g q c l) (i := .aload_n 0) (len := 1) rfl hj rfl rfl rfl]
  rw [n_get (st' := [.int (g 125), .int x2, .ref 109]) (pc' := 260) (lv' := [(0, .ref 49), (2, .int x2)]) (hp' := rH e g q c l) (i := .getfield 766) (len := 3) rfl hj rfl rfl rfl rfl]
  rw [n_ias (st' := []) (hp' := rH e g q (updA c 109 (upd (c 109) (x2).toNatClampNeg ((g 125)))) l) rfl hj (ast_109 hz0)]
  rw [n_step (st' := [.int (Int32.ofInt (0))]) (pc' := 262) (lv' := [(0, .ref 49), (2, .int x2)]) (hp' := rH e g q (updA c 109 (upd (c 109) (x2).toNatClampNeg ((g 125)))) l) (i := .iconst 0) (len := 1) rfl hj rfl rfl rfl]
  rw [n_step (st' := []) (pc' := 264) (lv' := [(9, .int (Int32.ofInt (0))), (0, .ref 49), (2, .int x2)]) (hp' := rH e g q (updA c 109 (upd (c 109) (x2).toNatClampNeg ((g 125)))) l) (i := .istore 9) (len := 2) rfl hj rfl rfl rfl]
  exact nrun_ext f f _ _ R 401 264 [(0, .ref 49), (9, .int (Int32.ofInt (0)))] [(9, .int (Int32.ofInt (0))), (0, .ref 49), (2, .int x2)] [] _ 0 0 122 (Nat.le_refl _) (Nat.le_refl _) (Nat.le_of_ble_eq_true rfl) (lvR_mk [0, 9] [9, 0, 2] rfl rfl (by decide) (by decide) (List.forall_mem_cons.mpr ⟨(List.mem_cons_of_mem _ List.mem_cons_self), (List.forall_mem_cons.mpr ⟨List.mem_cons_self, (fun _ h => nomatch h)⟩)⟩) (List.forall_mem_cons.mpr ⟨Or.inl (List.mem_cons_of_mem _ List.mem_cons_self), (List.forall_mem_cons.mpr ⟨Or.inl List.mem_cons_self, (List.forall_mem_cons.mpr ⟨Or.inr rfl, (fun _ h => nomatch h)⟩)⟩)⟩)) h
set_option maxRecDepth 100000 in
set_option maxHeartbeats 4000000 in
theorem bk_401_264 {b : Bool} {d : Nat} {x9 : Int32} {e : Nat → x_E} {g : Nat → Int32} {q : Nat → Int64} {c : Nat → Nat → Int32} {l : Nat → Nat → Int64} {R : Option Value × List x_E} (h1 : xCn .ne x9 0 = true → rr b e d 401 308 [] [] g q c l R) (h2 : ¬ xCn .ne x9 0 = true → rr b e d 401 269 [(0, .ref 49)] [] g q c l R) : rr b e d 401 264 [(0, .ref 49), (9, .int x9)] [] g q c l R := by
  have key : ∀ f, nrun xZ (xY (xfm b)) xDT (f + 2) d 401 264 [(0, .ref 49), (9, .int x9)] [] (rH e g q c l) 0 0 = nrun xZ (xY (xfm b)) xDT f d 401 (if xCn .ne x9 0 = true then 308 else 269) [(0, .ref 49), (9, .int x9)] [] (rH e g q c l) 0 0 := by
    intro f
    obtain ⟨y, cb, hj⟩ := mq_401
    rw [n_step (st' := [.int x9]) (pc' := 266) (lv' := [(0, .ref 49), (9, .int x9)]) (hp' := rH e g q c l) (i := .iload 9) (len := 2) rfl hj rfl rfl rfl]
    rw [n_step (st' := []) (pc' := (if xCn .ne x9 0 = true then 308 else 269)) (lv' := [(0, .ref 49), (9, .int x9)]) (hp' := rH e g q c l) (i := .ifCond .ne 42) (len := 3) rfl hj rfl rfl rfl]
  by_cases hc : xCn .ne x9 0 = true
  · obtain ⟨f, h⟩ := h1 hc
    refine ⟨f + 2, ?_⟩
    rw [key, if_pos hc]
    exact nrun_ext f f _ _ R 401 308 [] [(0, .ref 49), (9, .int x9)] [] _ 0 0 122 (Nat.le_refl _) (Nat.le_refl _) (Nat.le_of_ble_eq_true rfl) (lvR_mk [] [0, 9] rfl rfl (by decide) (by decide) (fun _ h => nomatch h) (List.forall_mem_cons.mpr ⟨Or.inr rfl, (List.forall_mem_cons.mpr ⟨Or.inr rfl, (fun _ h => nomatch h)⟩)⟩)) h
  · obtain ⟨f, h⟩ := h2 hc
    refine ⟨f + 2, ?_⟩
    rw [key, if_neg hc]
    exact nrun_ext f f _ _ R 401 269 [(0, .ref 49)] [(0, .ref 49), (9, .int x9)] [] _ 0 0 122 (Nat.le_refl _) (Nat.le_refl _) (Nat.le_of_ble_eq_true rfl) (lvR_mk [0] [0, 9] rfl rfl (by decide) (by decide) (List.forall_mem_cons.mpr ⟨List.mem_cons_self, (fun _ h => nomatch h)⟩) (List.forall_mem_cons.mpr ⟨Or.inl List.mem_cons_self, (List.forall_mem_cons.mpr ⟨Or.inr rfl, (fun _ h => nomatch h)⟩)⟩)) h
set_option maxRecDepth 100000 in
set_option maxHeartbeats 4000000 in
theorem bk_401_269 {b : Bool} {d : Nat} {e : Nat → x_E} {g : Nat → Int32} {q : Nat → Int64} {c : Nat → Nat → Int32} {l : Nat → Nat → Int64} {g' : Nat → Int32} {q' : Nat → Int64} {c' : Nat → Nat → Int32} {l' : Nat → Nat → Int64} {v : Int32} {R : Option Value × List x_E} (hc : rr b e d 337 0 [(0, .ref 49)] [] g q c l (some (.int v), rH e g' q' c' l')) (h : rr b e (d + 1) 401 273 [(0, .ref 49)] [.int v] g' q' c' l' R) : rr b e (d + 1) 401 269 [(0, .ref 49)] [] g q c l R := by
  obtain ⟨f1, hc⟩ := hc
  obtain ⟨f2, h⟩ := h
  obtain ⟨f, hf1, hf2⟩ : ∃ f, f1 ≤ f ∧ f2 ≤ f := ⟨max f1 f2, Nat.le_max_left _ _, Nat.le_max_right _ _⟩
  have hc := nrun_fuel f1 f _ _ _ _ _ _ _ _ _ hf1 hc
  have h := nrun_fuel f2 f _ _ _ _ _ _ _ _ _ hf2 h
  refine ⟨f + 2, ?_⟩
  obtain ⟨y, cb, hj⟩ := mq_401
  rw [n_step (st' := [.ref 49]) (pc' := 270) (lv' := [(0, .ref 49)]) (hp' := rH e g q c l) (i := .aload_n 0) (len := 1) rfl hj rfl rfl rfl]
  obtain ⟨y2, cb2, hj2⟩ := mq_337
  rw [n_call (f := f) (d := d) (ki := 0) (idx := 337) (j' := 337) (kd := 0) (M' := (y2, cb2, 1, some .boolean, 12, 0, 0, 0)) (avs := [.ref 49]) (r := []) (rv := some (.int v)) (hp1 := rH e g' q' c' l') rfl hj rfl rfl rfl rfl (rq_n rfl rfl hj2 rfl rfl) rfl hc (Nat.le_of_ble_eq_true rfl)]
  exact h
set_option maxRecDepth 100000 in
set_option maxHeartbeats 4000000 in
theorem bk_401_273 {b : Bool} {d : Nat} {t0 : Int32} {e : Nat → x_E} {g : Nat → Int32} {q : Nat → Int64} {c : Nat → Nat → Int32} {l : Nat → Nat → Int64} {R : Option Value × List x_E} (h1 : xCn .ne t0 0 = true → rr b e d 401 308 [] [] g q c l R) (h2 : ¬ xCn .ne t0 0 = true → rr b e d 401 276 [(0, .ref 49)] [] g q c l R) : rr b e d 401 273 [(0, .ref 49)] [.int t0] g q c l R := by
  have key : ∀ f, nrun xZ (xY (xfm b)) xDT (f + 1) d 401 273 [(0, .ref 49)] [.int t0] (rH e g q c l) 0 0 = nrun xZ (xY (xfm b)) xDT f d 401 (if xCn .ne t0 0 = true then 308 else 276) [(0, .ref 49)] [] (rH e g q c l) 0 0 := by
    intro f
    obtain ⟨y, cb, hj⟩ := mq_401
    rw [n_step (st' := []) (pc' := (if xCn .ne t0 0 = true then 308 else 276)) (lv' := [(0, .ref 49)]) (hp' := rH e g q c l) (i := .ifCond .ne 35) (len := 3) rfl hj rfl rfl rfl]
  by_cases hc : xCn .ne t0 0 = true
  · obtain ⟨f, h⟩ := h1 hc
    refine ⟨f + 1, ?_⟩
    rw [key, if_pos hc]
    exact nrun_ext f f _ _ R 401 308 [] [(0, .ref 49)] [] _ 0 0 122 (Nat.le_refl _) (Nat.le_refl _) (Nat.le_of_ble_eq_true rfl) (lvR_mk [] [0] rfl rfl (by decide) (by decide) (fun _ h => nomatch h) (List.forall_mem_cons.mpr ⟨Or.inr rfl, (fun _ h => nomatch h)⟩)) h
  · obtain ⟨f, h⟩ := h2 hc
    refine ⟨f + 1, ?_⟩
    rw [key, if_neg hc]
    exact h
set_option maxRecDepth 100000 in
set_option maxHeartbeats 4000000 in
theorem bk_401_276 {b : Bool} {d : Nat} {e : Nat → x_E} {g : Nat → Int32} {q : Nat → Int64} {c : Nat → Nat → Int32} {l : Nat → Nat → Int64} {g' : Nat → Int32} {q' : Nat → Int64} {c' : Nat → Nat → Int32} {l' : Nat → Nat → Int64} {v : Int32} {R : Option Value × List x_E} (hc : rr b e d 338 0 [(0, .ref 49), (1, .int (Int8.ofInt (14)).toInt32)] [] g q c l (some (.int v), rH e g' q' c' l')) (h : rr b e (d + 1) 401 282 [(0, .ref 49)] [.int v] g' q' c' l' R) : rr b e (d + 1) 401 276 [(0, .ref 49)] [] g q c l R := by
  obtain ⟨f1, hc⟩ := hc
  obtain ⟨f2, h⟩ := h
  obtain ⟨f, hf1, hf2⟩ : ∃ f, f1 ≤ f ∧ f2 ≤ f := ⟨max f1 f2, Nat.le_max_left _ _, Nat.le_max_right _ _⟩
  have hc := nrun_fuel f1 f _ _ _ _ _ _ _ _ _ hf1 hc
  have h := nrun_fuel f2 f _ _ _ _ _ _ _ _ _ hf2 h
  refine ⟨f + 3, ?_⟩
  obtain ⟨y, cb, hj⟩ := mq_401
  rw [n_step (st' := [.ref 49]) (pc' := 277) (lv' := [(0, .ref 49)]) (hp' := rH e g q c l) (i := .aload_n 0) (len := 1) rfl hj rfl rfl rfl]
  rw [n_step (st' := [.int (Int8.ofInt (14)).toInt32, .ref 49]) (pc' := 279) (lv' := [(0, .ref 49)]) (hp' := rH e g q c l) (i := .bipush 14) (len := 2) rfl hj rfl rfl rfl]
  obtain ⟨y2, cb2, hj2⟩ := mq_338
  rw [n_call (f := f) (d := d) (ki := 0) (idx := 350) (j' := 338) (kd := 0) (M' := (y2, cb2, 2, some .boolean, 12, 1, 0, 0)) (avs := [.ref 49, .int (Int8.ofInt (14)).toInt32]) (r := []) (rv := some (.int v)) (hp1 := rH e g' q' c' l') rfl hj rfl rfl rfl rfl (rq_n rfl rfl hj2 rfl rfl) rfl hc (Nat.le_of_ble_eq_true rfl)]
  exact h
set_option maxRecDepth 100000 in
set_option maxHeartbeats 4000000 in
theorem bk_401_282 {b : Bool} {d : Nat} {t0 : Int32} {e : Nat → x_E} {g : Nat → Int32} {q : Nat → Int64} {c : Nat → Nat → Int32} {l : Nat → Nat → Int64} {R : Option Value × List x_E} (h1 : xCn .ne t0 0 = true → rr b e d 401 294 [(0, .ref 49)] [] g q c l R) (h2 : ¬ xCn .ne t0 0 = true → rr b e d 401 285 [(0, .ref 49)] [] g q c l R) : rr b e d 401 282 [(0, .ref 49)] [.int t0] g q c l R := by
  have key : ∀ f, nrun xZ (xY (xfm b)) xDT (f + 1) d 401 282 [(0, .ref 49)] [.int t0] (rH e g q c l) 0 0 = nrun xZ (xY (xfm b)) xDT f d 401 (if xCn .ne t0 0 = true then 294 else 285) [(0, .ref 49)] [] (rH e g q c l) 0 0 := by
    intro f
    obtain ⟨y, cb, hj⟩ := mq_401
    rw [n_step (st' := []) (pc' := (if xCn .ne t0 0 = true then 294 else 285)) (lv' := [(0, .ref 49)]) (hp' := rH e g q c l) (i := .ifCond .ne 12) (len := 3) rfl hj rfl rfl rfl]
  by_cases hc : xCn .ne t0 0 = true
  · obtain ⟨f, h⟩ := h1 hc
    refine ⟨f + 1, ?_⟩
    rw [key, if_pos hc]
    exact h
  · obtain ⟨f, h⟩ := h2 hc
    refine ⟨f + 1, ?_⟩
    rw [key, if_neg hc]
    exact h
set_option maxRecDepth 100000 in
set_option maxHeartbeats 4000000 in
theorem bk_401_285 {b : Bool} {d : Nat} {e : Nat → x_E} {g : Nat → Int32} {q : Nat → Int64} {c : Nat → Nat → Int32} {l : Nat → Nat → Int64} {g' : Nat → Int32} {q' : Nat → Int64} {c' : Nat → Nat → Int32} {l' : Nat → Nat → Int64} {v : Int32} {R : Option Value × List x_E} (hc : rr b e d 338 0 [(0, .ref 49), (1, .int (Int8.ofInt (15)).toInt32)] [] g q c l (some (.int v), rH e g' q' c' l')) (h : rr b e (d + 1) 401 291 [(0, .ref 49)] [.int v] g' q' c' l' R) : rr b e (d + 1) 401 285 [(0, .ref 49)] [] g q c l R := by
  obtain ⟨f1, hc⟩ := hc
  obtain ⟨f2, h⟩ := h
  obtain ⟨f, hf1, hf2⟩ : ∃ f, f1 ≤ f ∧ f2 ≤ f := ⟨max f1 f2, Nat.le_max_left _ _, Nat.le_max_right _ _⟩
  have hc := nrun_fuel f1 f _ _ _ _ _ _ _ _ _ hf1 hc
  have h := nrun_fuel f2 f _ _ _ _ _ _ _ _ _ hf2 h
  refine ⟨f + 3, ?_⟩
  obtain ⟨y, cb, hj⟩ := mq_401
  rw [n_step (st' := [.ref 49]) (pc' := 286) (lv' := [(0, .ref 49)]) (hp' := rH e g q c l) (i := .aload_n 0) (len := 1) rfl hj rfl rfl rfl]
  rw [n_step (st' := [.int (Int8.ofInt (15)).toInt32, .ref 49]) (pc' := 288) (lv' := [(0, .ref 49)]) (hp' := rH e g q c l) (i := .bipush 15) (len := 2) rfl hj rfl rfl rfl]
  obtain ⟨y2, cb2, hj2⟩ := mq_338
  rw [n_call (f := f) (d := d) (ki := 0) (idx := 350) (j' := 338) (kd := 0) (M' := (y2, cb2, 2, some .boolean, 12, 1, 0, 0)) (avs := [.ref 49, .int (Int8.ofInt (15)).toInt32]) (r := []) (rv := some (.int v)) (hp1 := rH e g' q' c' l') rfl hj rfl rfl rfl rfl (rq_n rfl rfl hj2 rfl rfl) rfl hc (Nat.le_of_ble_eq_true rfl)]
  exact h
set_option maxRecDepth 100000 in
set_option maxHeartbeats 4000000 in
theorem bk_401_291 {b : Bool} {d : Nat} {t0 : Int32} {e : Nat → x_E} {g : Nat → Int32} {q : Nat → Int64} {c : Nat → Nat → Int32} {l : Nat → Nat → Int64} {R : Option Value × List x_E} (h1 : xCn .eq t0 0 = true → rr b e d 401 298 [(0, .ref 49)] [] g q c l R) (h2 : ¬ xCn .eq t0 0 = true → rr b e d 401 294 [(0, .ref 49)] [] g q c l R) : rr b e d 401 291 [(0, .ref 49)] [.int t0] g q c l R := by
  have key : ∀ f, nrun xZ (xY (xfm b)) xDT (f + 1) d 401 291 [(0, .ref 49)] [.int t0] (rH e g q c l) 0 0 = nrun xZ (xY (xfm b)) xDT f d 401 (if xCn .eq t0 0 = true then 298 else 294) [(0, .ref 49)] [] (rH e g q c l) 0 0 := by
    intro f
    obtain ⟨y, cb, hj⟩ := mq_401
    rw [n_step (st' := []) (pc' := (if xCn .eq t0 0 = true then 298 else 294)) (lv' := [(0, .ref 49)]) (hp' := rH e g q c l) (i := .ifCond .eq 7) (len := 3) rfl hj rfl rfl rfl]
  by_cases hc : xCn .eq t0 0 = true
  · obtain ⟨f, h⟩ := h1 hc
    refine ⟨f + 1, ?_⟩
    rw [key, if_pos hc]
    exact h
  · obtain ⟨f, h⟩ := h2 hc
    refine ⟨f + 1, ?_⟩
    rw [key, if_neg hc]
    exact h
set_option maxRecDepth 100000 in
set_option maxHeartbeats 4000000 in
theorem bk_401_294 {b : Bool} {d : Nat} {e : Nat → x_E} {g : Nat → Int32} {q : Nat → Int64} {c : Nat → Nat → Int32} {l : Nat → Nat → Int64} {R : Option Value × List x_E} (h : rr b e d 401 299 [(0, .ref 49)] [.int (Int32.ofInt (1))] g q c l R) : rr b e d 401 294 [(0, .ref 49)] [] g q c l R := by
  obtain ⟨f, h⟩ := h
  refine ⟨f + 2, ?_⟩
  obtain ⟨y, cb, hj⟩ := mq_401
  rw [n_step (st' := [.int (Int32.ofInt (1))]) (pc' := 295) (lv' := [(0, .ref 49)]) (hp' := rH e g q c l) (i := .iconst 1) (len := 1) rfl hj rfl rfl rfl]
  rw [n_step (st' := [.int (Int32.ofInt (1))]) (pc' := 299) (lv' := [(0, .ref 49)]) (hp' := rH e g q c l) (i := .goto 4) (len := 3) rfl hj rfl rfl rfl]
  exact h
set_option maxRecDepth 100000 in
set_option maxHeartbeats 4000000 in
theorem bk_401_298 {b : Bool} {d : Nat} {e : Nat → x_E} {g : Nat → Int32} {q : Nat → Int64} {c : Nat → Nat → Int32} {l : Nat → Nat → Int64} {R : Option Value × List x_E} (h : rr b e d 401 299 [(0, .ref 49)] [.int (Int32.ofInt (0))] g q c l R) : rr b e d 401 298 [(0, .ref 49)] [] g q c l R := by
  obtain ⟨f, h⟩ := h
  refine ⟨f + 1, ?_⟩
  obtain ⟨y, cb, hj⟩ := mq_401
  rw [n_step (st' := [.int (Int32.ofInt (0))]) (pc' := 299) (lv' := [(0, .ref 49)]) (hp' := rH e g q c l) (i := .iconst 0) (len := 1) rfl hj rfl rfl rfl]
  exact h
set_option maxRecDepth 100000 in
set_option maxHeartbeats 4000000 in
theorem bk_401_299 {b : Bool} {d : Nat} {t0 : Int32} {e : Nat → x_E} {g : Nat → Int32} {q : Nat → Int64} {c : Nat → Nat → Int32} {l : Nat → Nat → Int64} {g' : Nat → Int32} {q' : Nat → Int64} {c' : Nat → Nat → Int32} {l' : Nat → Nat → Int64} {R : Option Value × List x_E} (hc : rr b e d 412 0 [(0, .ref 49)] [] g q c l (none, rH e g' q' c' l')) (h : rr b e (d + 1) 401 305 [(0, .ref 49), (9, .int t0)] [] g' q' c' l' R) : rr b e (d + 1) 401 299 [(0, .ref 49)] [.int t0] g q c l R := by
  obtain ⟨f1, hc⟩ := hc
  obtain ⟨f2, h⟩ := h
  obtain ⟨f, hf1, hf2⟩ : ∃ f, f1 ≤ f ∧ f2 ≤ f := ⟨max f1 f2, Nat.le_max_left _ _, Nat.le_max_right _ _⟩
  have hc := nrun_fuel f1 f _ _ _ _ _ _ _ _ _ hf1 hc
  have h := nrun_fuel f2 f _ _ _ _ _ _ _ _ _ hf2 h
  refine ⟨f + 3, ?_⟩
  obtain ⟨y, cb, hj⟩ := mq_401
  rw [n_step (st' := []) (pc' := 301) (lv' := [(9, .int t0), (0, .ref 49)]) (hp' := rH e g q c l) (i := .istore 9) (len := 2) rfl hj rfl rfl rfl]
  rw [n_step (st' := [.ref 49]) (pc' := 302) (lv' := [(9, .int t0), (0, .ref 49)]) (hp' := rH e g q c l) (i := .aload_n 0) (len := 1) rfl hj rfl rfl rfl]
  obtain ⟨y2, cb2, hj2⟩ := mq_412
  rw [n_call (f := f) (d := d) (ki := 0) (idx := 782) (j' := 412) (kd := 0) (M' := (y2, cb2, 4, none, 12, 0, 0, 0)) (avs := [.ref 49]) (r := []) (rv := none) (hp1 := rH e g' q' c' l') rfl hj rfl rfl rfl rfl (rq_n rfl rfl hj2 rfl rfl) rfl hc (Nat.le_of_ble_eq_true rfl)]
  exact nrun_ext f f _ _ R 401 305 [(0, .ref 49), (9, .int t0)] [(9, .int t0), (0, .ref 49)] [] _ 0 0 122 (Nat.le_refl _) (Nat.le_refl _) (Nat.le_of_ble_eq_true rfl) (lvR_mk [0, 9] [9, 0] rfl rfl (by decide) (by decide) (List.forall_mem_cons.mpr ⟨(List.mem_cons_of_mem _ List.mem_cons_self), (List.forall_mem_cons.mpr ⟨List.mem_cons_self, (fun _ h => nomatch h)⟩)⟩) (List.forall_mem_cons.mpr ⟨Or.inl (List.mem_cons_of_mem _ List.mem_cons_self), (List.forall_mem_cons.mpr ⟨Or.inl List.mem_cons_self, (fun _ h => nomatch h)⟩)⟩)) h
set_option maxRecDepth 100000 in
set_option maxHeartbeats 4000000 in
theorem bk_401_305 {b : Bool} {d : Nat} {x9 : Int32} {e : Nat → x_E} {g : Nat → Int32} {q : Nat → Int64} {c : Nat → Nat → Int32} {l : Nat → Nat → Int64} {R : Option Value × List x_E} (h : rr b e d 401 264 [(0, .ref 49), (9, .int x9)] [] g q c l R) : rr b e d 401 305 [(0, .ref 49), (9, .int x9)] [] g q c l R := by
  obtain ⟨f, h⟩ := h
  refine ⟨f + 1, ?_⟩
  obtain ⟨y, cb, hj⟩ := mq_401
  rw [n_step (st' := []) (pc' := 264) (lv' := [(0, .ref 49), (9, .int x9)]) (hp' := rH e g q c l) (i := .goto (-41)) (len := 3) rfl hj rfl rfl rfl]
  exact h
set_option maxRecDepth 100000 in
set_option maxHeartbeats 4000000 in
theorem bk_401_308 {b : Bool} {d : Nat} {e : Nat → x_E} {g : Nat → Int32} {q : Nat → Int64} {c : Nat → Nat → Int32} {l : Nat → Nat → Int64} : rr b e d 401 308 [] [] g q c l (none, rH e g q c l) := by
  refine ⟨0 + 1, ?_⟩
  obtain ⟨y, cb, hj⟩ := mq_401
  exact n_ret rfl hj rfl rfl rfl
set_option maxRecDepth 100000 in
set_option maxHeartbeats 4000000 in
theorem bk_402_0 {b : Bool} {d : Nat} {x3 x4 : Int32} {x1 : Int64} {e : Nat → x_E} {g : Nat → Int32} {q : Nat → Int64} {c : Nat → Nat → Int32} {l : Nat → Nat → Int64} {R : Option Value × List x_E} (h : rr b e d 402 3 [(0, .ref 49), (1, .long x1), (3, .int x3), (4, .int x4), (5, .int (Int32.ofInt (0)))] [] g q c l R) : rr b e d 402 0 [(0, .ref 49), (1, .long x1), (3, .int x3), (4, .int x4)] [] g q c l R := by
  obtain ⟨f, h⟩ := h
  refine ⟨f + 2, ?_⟩
  obtain ⟨y, cb, hj⟩ := mq_402
  rw [n_step (st' := [.int (Int32.ofInt (0))]) (pc' := 1) (lv' := [(0, .ref 49), (1, .long x1), (3, .int x3), (4, .int x4)]) (hp' := rH e g q c l) (i := .iconst 0) (len := 1) rfl hj rfl rfl rfl]
  rw [n_step (st' := []) (pc' := 3) (lv' := [(5, .int (Int32.ofInt (0))), (0, .ref 49), (1, .long x1), (3, .int x3), (4, .int x4)]) (hp' := rH e g q c l) (i := .istore 5) (len := 2) rfl hj rfl rfl rfl]
  exact nrun_ext f f _ _ R 402 3 [(0, .ref 49), (1, .long x1), (3, .int x3), (4, .int x4), (5, .int (Int32.ofInt (0)))] [(5, .int (Int32.ofInt (0))), (0, .ref 49), (1, .long x1), (3, .int x3), (4, .int x4)] [] _ 0 0 122 (Nat.le_refl _) (Nat.le_refl _) (Nat.le_of_ble_eq_true rfl) (lvR_mk [0, 1, 3, 4, 5] [5, 0, 1, 3, 4] rfl rfl (by decide) (by decide) (List.forall_mem_cons.mpr ⟨(List.mem_cons_of_mem _ List.mem_cons_self), (List.forall_mem_cons.mpr ⟨(List.mem_cons_of_mem _ (List.mem_cons_of_mem _ List.mem_cons_self)), (List.forall_mem_cons.mpr ⟨(List.mem_cons_of_mem _ (List.mem_cons_of_mem _ (List.mem_cons_of_mem _ List.mem_cons_self))), (List.forall_mem_cons.mpr ⟨(List.mem_cons_of_mem _ (List.mem_cons_of_mem _ (List.mem_cons_of_mem _ (List.mem_cons_of_mem _ List.mem_cons_self)))), (List.forall_mem_cons.mpr ⟨List.mem_cons_self, (fun _ h => nomatch h)⟩)⟩)⟩)⟩)⟩) (List.forall_mem_cons.mpr ⟨Or.inl (List.mem_cons_of_mem _ (List.mem_cons_of_mem _ (List.mem_cons_of_mem _ (List.mem_cons_of_mem _ List.mem_cons_self)))), (List.forall_mem_cons.mpr ⟨Or.inl List.mem_cons_self, (List.forall_mem_cons.mpr ⟨Or.inl (List.mem_cons_of_mem _ List.mem_cons_self), (List.forall_mem_cons.mpr ⟨Or.inl (List.mem_cons_of_mem _ (List.mem_cons_of_mem _ List.mem_cons_self)), (List.forall_mem_cons.mpr ⟨Or.inl (List.mem_cons_of_mem _ (List.mem_cons_of_mem _ (List.mem_cons_of_mem _ List.mem_cons_self))), (fun _ h => nomatch h)⟩)⟩)⟩)⟩)⟩)) h
set_option maxRecDepth 100000 in
set_option maxHeartbeats 4000000 in
theorem bk_402_3 {b : Bool} {d : Nat} {x3 x4 x5 : Int32} {x1 : Int64} {e : Nat → x_E} {g : Nat → Int32} {q : Nat → Int64} {c : Nat → Nat → Int32} {l : Nat → Nat → Int64} {R : Option Value × List x_E} (h1 : xCn .ge x5 x4 = true → rr b e d 402 42 [] [] g q c l R) (h2 : ¬ xCn .ge x5 x4 = true → rr b e d 402 10 [(0, .ref 49), (1, .long x1), (3, .int x3), (4, .int x4), (5, .int x5)] [] g q c l R) : rr b e d 402 3 [(0, .ref 49), (1, .long x1), (3, .int x3), (4, .int x4), (5, .int x5)] [] g q c l R := by
  have key : ∀ f, nrun xZ (xY (xfm b)) xDT (f + 3) d 402 3 [(0, .ref 49), (1, .long x1), (3, .int x3), (4, .int x4), (5, .int x5)] [] (rH e g q c l) 0 0 = nrun xZ (xY (xfm b)) xDT f d 402 (if xCn .ge x5 x4 = true then 42 else 10) [(0, .ref 49), (1, .long x1), (3, .int x3), (4, .int x4), (5, .int x5)] [] (rH e g q c l) 0 0 := by
    intro f
    obtain ⟨y, cb, hj⟩ := mq_402
    rw [n_step (st' := [.int x5]) (pc' := 5) (lv' := [(0, .ref 49), (1, .long x1), (3, .int x3), (4, .int x4), (5, .int x5)]) (hp' := rH e g q c l) (i := .iload 5) (len := 2) rfl hj rfl rfl rfl]
    rw [n_step (st' := [.int x4, .int x5]) (pc' := 7) (lv' := [(0, .ref 49), (1, .long x1), (3, .int x3), (4, .int x4), (5, .int x5)]) (hp' := rH e g q c l) (i := .iload 4) (len := 2) rfl hj rfl rfl rfl]
    rw [n_step (st' := []) (pc' := (if xCn .ge x5 x4 = true then 42 else 10)) (lv' := [(0, .ref 49), (1, .long x1), (3, .int x3), (4, .int x4), (5, .int x5)]) (hp' := rH e g q c l) (i := .if_icmp .ge 35) (len := 3) rfl hj rfl rfl rfl]
  by_cases hc : xCn .ge x5 x4 = true
  · obtain ⟨f, h⟩ := h1 hc
    refine ⟨f + 3, ?_⟩
    rw [key, if_pos hc]
    exact nrun_ext f f _ _ R 402 42 [] [(0, .ref 49), (1, .long x1), (3, .int x3), (4, .int x4), (5, .int x5)] [] _ 0 0 122 (Nat.le_refl _) (Nat.le_refl _) (Nat.le_of_ble_eq_true rfl) (lvR_mk [] [0, 1, 3, 4, 5] rfl rfl (by decide) (by decide) (fun _ h => nomatch h) (List.forall_mem_cons.mpr ⟨Or.inr rfl, (List.forall_mem_cons.mpr ⟨Or.inr rfl, (List.forall_mem_cons.mpr ⟨Or.inr rfl, (List.forall_mem_cons.mpr ⟨Or.inr rfl, (List.forall_mem_cons.mpr ⟨Or.inr rfl, (fun _ h => nomatch h)⟩)⟩)⟩)⟩)⟩)) h
  · obtain ⟨f, h⟩ := h2 hc
    refine ⟨f + 3, ?_⟩
    rw [key, if_neg hc]
    exact h
set_option maxRecDepth 100000 in
set_option maxHeartbeats 4000000 in
theorem bk_402_10 {b : Bool} {d : Nat} {x3 x4 x5 : Int32} {x1 : Int64} {e : Nat → x_E} {g : Nat → Int32} {q : Nat → Int64} {c : Nat → Nat → Int32} {l : Nat → Nat → Int64} {R : Option Value × List x_E} (hz0 : ¬ (x5 < 0 ∨ 41 ≤ (x5).toNatClampNeg)) (h1 : xCn .ne ((lg_cmp ((l 106 (x5).toNatClampNeg)) x1)) 0 = true → rr b e d 402 36 [(0, .ref 49), (1, .long x1), (3, .int x3), (4, .int x4), (5, .int x5)] [] g q c l R) (h2 : ¬ xCn .ne ((lg_cmp ((l 106 (x5).toNatClampNeg)) x1)) 0 = true → rr b e d 402 22 [(0, .ref 49), (1, .long x1), (3, .int x3), (4, .int x4), (5, .int x5)] [] g q c l R) : rr b e d 402 10 [(0, .ref 49), (1, .long x1), (3, .int x3), (4, .int x4), (5, .int x5)] [] g q c l R := by
  have key : ∀ f, nrun xZ (xY (xfm b)) xDT (f + 7) d 402 10 [(0, .ref 49), (1, .long x1), (3, .int x3), (4, .int x4), (5, .int x5)] [] (rH e g q c l) 0 0 = nrun xZ (xY (xfm b)) xDT f d 402 (if xCn .ne ((lg_cmp ((l 106 (x5).toNatClampNeg)) x1)) 0 = true then 36 else 22) [(0, .ref 49), (1, .long x1), (3, .int x3), (4, .int x4), (5, .int x5)] [] (rH e g q c l) 0 0 := by
    intro f
    obtain ⟨y, cb, hj⟩ := mq_402
    rw [n_step (st' := [.ref 49]) (pc' := 11) (lv' := [(0, .ref 49), (1, .long x1), (3, .int x3), (4, .int x4), (5, .int x5)]) (hp' := rH e g q c l) (i := .aload_n 0) (len := 1) rfl hj rfl rfl rfl]
    rw [n_get (st' := [.ref 106]) (pc' := 14) (lv' := [(0, .ref 49), (1, .long x1), (3, .int x3), (4, .int x4), (5, .int x5)]) (hp' := rH e g q c l) (i := .getfield 189) (len := 3) rfl hj rfl rfl rfl rfl]
    rw [n_step (st' := [.int x5, .ref 106]) (pc' := 16) (lv' := [(0, .ref 49), (1, .long x1), (3, .int x3), (4, .int x4), (5, .int x5)]) (hp' := rH e g q c l) (i := .iload 5) (len := 2) rfl hj rfl rfl rfl]
    rw [n_lal (st' := [.long (l 106 (x5).toNatClampNeg)]) rfl hj (all_106 hz0)]
    rw [n_step (st' := [.long x1, .long (l 106 (x5).toNatClampNeg)]) (pc' := 18) (lv' := [(0, .ref 49), (1, .long x1), (3, .int x3), (4, .int x4), (5, .int x5)]) (hp' := rH e g q c l) (i := .lload_n 1) (len := 1) rfl hj rfl rfl rfl]
    rw [n_step (st' := [.int (lg_cmp ((l 106 (x5).toNatClampNeg)) x1)]) (pc' := 19) (lv' := [(0, .ref 49), (1, .long x1), (3, .int x3), (4, .int x4), (5, .int x5)]) (hp' := rH e g q c l) (i := .lcmp) (len := 1) rfl hj rfl rfl rfl]
    rw [n_step (st' := []) (pc' := (if xCn .ne ((lg_cmp ((l 106 (x5).toNatClampNeg)) x1)) 0 = true then 36 else 22)) (lv' := [(0, .ref 49), (1, .long x1), (3, .int x3), (4, .int x4), (5, .int x5)]) (hp' := rH e g q c l) (i := .ifCond .ne 17) (len := 3) rfl hj rfl rfl rfl]
  by_cases hc : xCn .ne ((lg_cmp ((l 106 (x5).toNatClampNeg)) x1)) 0 = true
  · obtain ⟨f, h⟩ := h1 hc
    refine ⟨f + 7, ?_⟩
    rw [key, if_pos hc]
    exact h
  · obtain ⟨f, h⟩ := h2 hc
    refine ⟨f + 7, ?_⟩
    rw [key, if_neg hc]
    exact h
set_option maxRecDepth 100000 in
set_option maxHeartbeats 4000000 in
theorem bk_402_22 {b : Bool} {d : Nat} {x3 x4 x5 : Int32} {x1 : Int64} {e : Nat → x_E} {g : Nat → Int32} {q : Nat → Int64} {c : Nat → Nat → Int32} {l : Nat → Nat → Int64} {R : Option Value × List x_E} (hz0 : ¬ (x5 < 0 ∨ 41 ≤ (x5).toNatClampNeg)) (h1 : xCn .ne ((c 107 (x5).toNatClampNeg)) x3 = true → rr b e d 402 36 [(0, .ref 49), (1, .long x1), (3, .int x3), (4, .int x4), (5, .int x5)] [] g q c l R) (h2 : ¬ xCn .ne ((c 107 (x5).toNatClampNeg)) x3 = true → rr b e d 402 33 [(5, .int x5)] [] g q c l R) : rr b e d 402 22 [(0, .ref 49), (1, .long x1), (3, .int x3), (4, .int x4), (5, .int x5)] [] g q c l R := by
  have key : ∀ f, nrun xZ (xY (xfm b)) xDT (f + 6) d 402 22 [(0, .ref 49), (1, .long x1), (3, .int x3), (4, .int x4), (5, .int x5)] [] (rH e g q c l) 0 0 = nrun xZ (xY (xfm b)) xDT f d 402 (if xCn .ne ((c 107 (x5).toNatClampNeg)) x3 = true then 36 else 33) [(0, .ref 49), (1, .long x1), (3, .int x3), (4, .int x4), (5, .int x5)] [] (rH e g q c l) 0 0 := by
    intro f
    obtain ⟨y, cb, hj⟩ := mq_402
    rw [n_step (st' := [.ref 49]) (pc' := 23) (lv' := [(0, .ref 49), (1, .long x1), (3, .int x3), (4, .int x4), (5, .int x5)]) (hp' := rH e g q c l) (i := .aload_n 0) (len := 1) rfl hj rfl rfl rfl]
    rw [n_get (st' := [.ref 107]) (pc' := 26) (lv' := [(0, .ref 49), (1, .long x1), (3, .int x3), (4, .int x4), (5, .int x5)]) (hp' := rH e g q c l) (i := .getfield 192) (len := 3) rfl hj rfl rfl rfl rfl]
    rw [n_step (st' := [.int x5, .ref 107]) (pc' := 28) (lv' := [(0, .ref 49), (1, .long x1), (3, .int x3), (4, .int x4), (5, .int x5)]) (hp' := rH e g q c l) (i := .iload 5) (len := 2) rfl hj rfl rfl rfl]
    rw [n_ial (st' := [.int (c 107 (x5).toNatClampNeg)]) rfl hj (ald_107 hz0)]
    rw [n_step (st' := [.int x3, .int (c 107 (x5).toNatClampNeg)]) (pc' := 30) (lv' := [(0, .ref 49), (1, .long x1), (3, .int x3), (4, .int x4), (5, .int x5)]) (hp' := rH e g q c l) (i := .iload_n 3) (len := 1) rfl hj rfl rfl rfl]
    rw [n_step (st' := []) (pc' := (if xCn .ne ((c 107 (x5).toNatClampNeg)) x3 = true then 36 else 33)) (lv' := [(0, .ref 49), (1, .long x1), (3, .int x3), (4, .int x4), (5, .int x5)]) (hp' := rH e g q c l) (i := .if_icmp .ne 6) (len := 3) rfl hj rfl rfl rfl]
  by_cases hc : xCn .ne ((c 107 (x5).toNatClampNeg)) x3 = true
  · obtain ⟨f, h⟩ := h1 hc
    refine ⟨f + 6, ?_⟩
    rw [key, if_pos hc]
    exact h
  · obtain ⟨f, h⟩ := h2 hc
    refine ⟨f + 6, ?_⟩
    rw [key, if_neg hc]
    exact nrun_ext f f _ _ R 402 33 [(5, .int x5)] [(0, .ref 49), (1, .long x1), (3, .int x3), (4, .int x4), (5, .int x5)] [] _ 0 0 122 (Nat.le_refl _) (Nat.le_refl _) (Nat.le_of_ble_eq_true rfl) (lvR_mk [5] [0, 1, 3, 4, 5] rfl rfl (by decide) (by decide) (List.forall_mem_cons.mpr ⟨(List.mem_cons_of_mem _ (List.mem_cons_of_mem _ (List.mem_cons_of_mem _ (List.mem_cons_of_mem _ List.mem_cons_self)))), (fun _ h => nomatch h)⟩) (List.forall_mem_cons.mpr ⟨Or.inr rfl, (List.forall_mem_cons.mpr ⟨Or.inr rfl, (List.forall_mem_cons.mpr ⟨Or.inr rfl, (List.forall_mem_cons.mpr ⟨Or.inr rfl, (List.forall_mem_cons.mpr ⟨Or.inl List.mem_cons_self, (fun _ h => nomatch h)⟩)⟩)⟩)⟩)⟩)) h
set_option maxRecDepth 100000 in
set_option maxHeartbeats 4000000 in
theorem bk_402_33 {b : Bool} {d : Nat} {x5 : Int32} {e : Nat → x_E} {g : Nat → Int32} {q : Nat → Int64} {c : Nat → Nat → Int32} {l : Nat → Nat → Int64} : rr b e d 402 33 [(5, .int x5)] [] g q c l (some (.int x5), rH e g q c l) := by
  refine ⟨0 + 2, ?_⟩
  obtain ⟨y, cb, hj⟩ := mq_402
  rw [n_step (st' := [.int x5]) (pc' := 35) (lv' := [(5, .int x5)]) (hp' := rH e g q c l) (i := .iload 5) (len := 2) rfl hj rfl rfl rfl]
  exact n_ret rfl hj rfl rfl (x_ret rfl)
set_option maxRecDepth 100000 in
set_option maxHeartbeats 4000000 in
theorem bk_402_36 {b : Bool} {d : Nat} {x3 x4 x5 : Int32} {x1 : Int64} {e : Nat → x_E} {g : Nat → Int32} {q : Nat → Int64} {c : Nat → Nat → Int32} {l : Nat → Nat → Int64} {R : Option Value × List x_E} (h : rr b e d 402 3 [(0, .ref 49), (1, .long x1), (3, .int x3), (4, .int x4), (5, .int (x5 + Int32.ofInt (1)))] [] g q c l R) : rr b e d 402 36 [(0, .ref 49), (1, .long x1), (3, .int x3), (4, .int x4), (5, .int x5)] [] g q c l R := by
  obtain ⟨f, h⟩ := h
  refine ⟨f + 2, ?_⟩
  obtain ⟨y, cb, hj⟩ := mq_402
  rw [n_step (st' := []) (pc' := 39) (lv' := [(5, .int (x5 + Int32.ofInt (1))), (0, .ref 49), (1, .long x1), (3, .int x3), (4, .int x4)]) (hp' := rH e g q c l) (i := .iinc 5 1) (len := 3) rfl hj rfl rfl rfl]
  rw [n_step (st' := []) (pc' := 3) (lv' := [(5, .int (x5 + Int32.ofInt (1))), (0, .ref 49), (1, .long x1), (3, .int x3), (4, .int x4)]) (hp' := rH e g q c l) (i := .goto (-36)) (len := 3) rfl hj rfl rfl rfl]
  exact nrun_ext f f _ _ R 402 3 [(0, .ref 49), (1, .long x1), (3, .int x3), (4, .int x4), (5, .int (x5 + Int32.ofInt (1)))] [(5, .int (x5 + Int32.ofInt (1))), (0, .ref 49), (1, .long x1), (3, .int x3), (4, .int x4)] [] _ 0 0 122 (Nat.le_refl _) (Nat.le_refl _) (Nat.le_of_ble_eq_true rfl) (lvR_mk [0, 1, 3, 4, 5] [5, 0, 1, 3, 4] rfl rfl (by decide) (by decide) (List.forall_mem_cons.mpr ⟨(List.mem_cons_of_mem _ List.mem_cons_self), (List.forall_mem_cons.mpr ⟨(List.mem_cons_of_mem _ (List.mem_cons_of_mem _ List.mem_cons_self)), (List.forall_mem_cons.mpr ⟨(List.mem_cons_of_mem _ (List.mem_cons_of_mem _ (List.mem_cons_of_mem _ List.mem_cons_self))), (List.forall_mem_cons.mpr ⟨(List.mem_cons_of_mem _ (List.mem_cons_of_mem _ (List.mem_cons_of_mem _ (List.mem_cons_of_mem _ List.mem_cons_self)))), (List.forall_mem_cons.mpr ⟨List.mem_cons_self, (fun _ h => nomatch h)⟩)⟩)⟩)⟩)⟩) (List.forall_mem_cons.mpr ⟨Or.inl (List.mem_cons_of_mem _ (List.mem_cons_of_mem _ (List.mem_cons_of_mem _ (List.mem_cons_of_mem _ List.mem_cons_self)))), (List.forall_mem_cons.mpr ⟨Or.inl List.mem_cons_self, (List.forall_mem_cons.mpr ⟨Or.inl (List.mem_cons_of_mem _ List.mem_cons_self), (List.forall_mem_cons.mpr ⟨Or.inl (List.mem_cons_of_mem _ (List.mem_cons_of_mem _ List.mem_cons_self)), (List.forall_mem_cons.mpr ⟨Or.inl (List.mem_cons_of_mem _ (List.mem_cons_of_mem _ (List.mem_cons_of_mem _ List.mem_cons_self))), (fun _ h => nomatch h)⟩)⟩)⟩)⟩)⟩)) h
set_option maxRecDepth 100000 in
set_option maxHeartbeats 4000000 in
theorem bk_402_42 {b : Bool} {d : Nat} {e : Nat → x_E} {g : Nat → Int32} {q : Nat → Int64} {c : Nat → Nat → Int32} {l : Nat → Nat → Int64} : rr b e d 402 42 [] [] g q c l (some (.int (Int32.ofInt (-1))), rH e g q c l) := by
  refine ⟨0 + 2, ?_⟩
  obtain ⟨y, cb, hj⟩ := mq_402
  rw [n_step (st' := [.int (Int32.ofInt (-1))]) (pc' := 43) (lv' := []) (hp' := rH e g q c l) (i := .iconst (-1)) (len := 1) rfl hj rfl rfl rfl]
  exact n_ret rfl hj rfl rfl (x_ret rfl)
set_option maxRecDepth 100000 in
set_option maxHeartbeats 4000000 in
theorem bk_403_0 {b : Bool} {d : Nat} {e : Nat → x_E} {g : Nat → Int32} {q : Nat → Int64} {c : Nat → Nat → Int32} {l : Nat → Nat → Int64} {g' : Nat → Int32} {q' : Nat → Int64} {c' : Nat → Nat → Int32} {l' : Nat → Nat → Int64} {v : Int32} {R : Option Value × List x_E} (hz0 : ((Int32.ofInt (0))) = 0 ∨ ((Int32.ofInt (0))) = 1) (hc : rr b e d 337 0 [(0, .ref 49)] [] (upd (upd g 103 ((g 11))) 107 ((Int32.ofInt (0)))) q c l (some (.int v), rH e g' q' c' l')) (h : rr b e (d + 1) 403 24 [(0, .ref 49), (1, .int (Int32.ofInt (0))), (2, .int ((upd (upd g 103 ((g 11))) 107 ((Int32.ofInt (0)))) 96))] [.int v] g' q' c' l' R) : rr b e (d + 1) 403 0 [(0, .ref 49)] [] g q c l R := by
  obtain ⟨f1, hc⟩ := hc
  obtain ⟨f2, h⟩ := h
  obtain ⟨f, hf1, hf2⟩ : ∃ f, f1 ≤ f ∧ f2 ≤ f := ⟨max f1 f2, Nat.le_max_left _ _, Nat.le_max_right _ _⟩
  have hc := nrun_fuel f1 f _ _ _ _ _ _ _ _ _ hf1 hc
  have h := nrun_fuel f2 f _ _ _ _ _ _ _ _ _ hf2 h
  refine ⟨f + 14, ?_⟩
  obtain ⟨y, cb, hj⟩ := mq_403
  rw [n_step (st' := [.ref 49]) (pc' := 1) (lv' := [(0, .ref 49)]) (hp' := rH e g q c l) (i := .aload_n 0) (len := 1) rfl hj rfl rfl rfl]
  rw [n_step (st' := [.ref 49, .ref 49]) (pc' := 2) (lv' := [(0, .ref 49)]) (hp' := rH e g q c l) (i := .aload_n 0) (len := 1) rfl hj rfl rfl rfl]
  rw [n_get (st' := [.int (g 11), .ref 49]) (pc' := 5) (lv' := [(0, .ref 49)]) (hp' := rH e g q c l) (i := .getfield 257) (len := 3) rfl hj rfl rfl rfl rfl]
  rw [n_put (st' := []) (hp' := rH e (upd g 103 ((g 11))) q c l) rfl hj pf_103]
  rw [n_step (st' := [.int (Int32.ofInt (0))]) (pc' := 9) (lv' := [(0, .ref 49)]) (hp' := rH e (upd g 103 ((g 11))) q c l) (i := .iconst 0) (len := 1) rfl hj rfl rfl rfl]
  rw [n_step (st' := []) (pc' := 10) (lv' := [(1, .int (Int32.ofInt (0))), (0, .ref 49)]) (hp' := rH e (upd g 103 ((g 11))) q c l) (i := .istore_n 1) (len := 1) rfl hj rfl rfl rfl]
  rw [n_step (st' := [.ref 49]) (pc' := 11) (lv' := [(1, .int (Int32.ofInt (0))), (0, .ref 49)]) (hp' := rH e (upd g 103 ((g 11))) q c l) (i := .aload_n 0) (len := 1) rfl hj rfl rfl rfl]
  rw [n_step (st' := [.int (Int32.ofInt (0)), .ref 49]) (pc' := 12) (lv' := [(1, .int (Int32.ofInt (0))), (0, .ref 49)]) (hp' := rH e (upd g 103 ((g 11))) q c l) (i := .iconst 0) (len := 1) rfl hj rfl rfl rfl]
  rw [n_put (st' := []) (hp' := rH e (upd (upd g 103 ((g 11))) 107 ((Int32.ofInt (0)))) q c l) rfl hj (pf_107 hz0)]
  rw [n_step (st' := [.ref 49]) (pc' := 16) (lv' := [(1, .int (Int32.ofInt (0))), (0, .ref 49)]) (hp' := rH e (upd (upd g 103 ((g 11))) 107 ((Int32.ofInt (0)))) q c l) (i := .aload_n 0) (len := 1) rfl hj rfl rfl rfl]
  rw [n_get (st' := [.int ((upd (upd g 103 ((g 11))) 107 ((Int32.ofInt (0)))) 96)]) (pc' := 19) (lv' := [(1, .int (Int32.ofInt (0))), (0, .ref 49)]) (hp' := rH e (upd (upd g 103 ((g 11))) 107 ((Int32.ofInt (0)))) q c l) (i := .getfield 685) (len := 3) rfl hj rfl rfl rfl rfl]
  rw [n_step (st' := []) (pc' := 20) (lv' := [(2, .int ((upd (upd g 103 ((g 11))) 107 ((Int32.ofInt (0)))) 96)), (1, .int (Int32.ofInt (0))), (0, .ref 49)]) (hp' := rH e (upd (upd g 103 ((g 11))) 107 ((Int32.ofInt (0)))) q c l) (i := .istore_n 2) (len := 1) rfl hj rfl rfl rfl]
  rw [n_step (st' := [.ref 49]) (pc' := 21) (lv' := [(2, .int ((upd (upd g 103 ((g 11))) 107 ((Int32.ofInt (0)))) 96)), (1, .int (Int32.ofInt (0))), (0, .ref 49)]) (hp' := rH e (upd (upd g 103 ((g 11))) 107 ((Int32.ofInt (0)))) q c l) (i := .aload_n 0) (len := 1) rfl hj rfl rfl rfl]
  obtain ⟨y2, cb2, hj2⟩ := mq_337
  rw [n_call (f := f) (d := d) (ki := 0) (idx := 337) (j' := 337) (kd := 0) (M' := (y2, cb2, 1, some .boolean, 12, 0, 0, 0)) (avs := [.ref 49]) (r := []) (rv := some (.int v)) (hp1 := rH e g' q' c' l') rfl hj rfl rfl rfl rfl (rq_n rfl rfl hj2 rfl rfl) rfl hc (Nat.le_of_ble_eq_true rfl)]
  exact nrun_ext f f _ _ R 403 24 [(0, .ref 49), (1, .int (Int32.ofInt (0))), (2, .int ((upd (upd g 103 ((g 11))) 107 ((Int32.ofInt (0)))) 96))] [(2, .int ((upd (upd g 103 ((g 11))) 107 ((Int32.ofInt (0)))) 96)), (1, .int (Int32.ofInt (0))), (0, .ref 49)] [.int v] _ 0 0 122 (Nat.le_refl _) (Nat.le_refl _) (Nat.le_of_ble_eq_true rfl) (lvR_mk [0, 1, 2] [2, 1, 0] rfl rfl (by decide) (by decide) (List.forall_mem_cons.mpr ⟨(List.mem_cons_of_mem _ (List.mem_cons_of_mem _ List.mem_cons_self)), (List.forall_mem_cons.mpr ⟨(List.mem_cons_of_mem _ List.mem_cons_self), (List.forall_mem_cons.mpr ⟨List.mem_cons_self, (fun _ h => nomatch h)⟩)⟩)⟩) (List.forall_mem_cons.mpr ⟨Or.inl (List.mem_cons_of_mem _ (List.mem_cons_of_mem _ List.mem_cons_self)), (List.forall_mem_cons.mpr ⟨Or.inl (List.mem_cons_of_mem _ List.mem_cons_self), (List.forall_mem_cons.mpr ⟨Or.inl List.mem_cons_self, (fun _ h => nomatch h)⟩)⟩)⟩)) h
set_option maxRecDepth 100000 in
set_option maxHeartbeats 4000000 in
theorem bk_403_24 {b : Bool} {d : Nat} {t0 x1 x2 : Int32} {e : Nat → x_E} {g : Nat → Int32} {q : Nat → Int64} {c : Nat → Nat → Int32} {l : Nat → Nat → Int64} {R : Option Value × List x_E} (h1 : xCn .ne t0 0 = true → rr b e d 403 227 [(0, .ref 49), (1, .int x1)] [] g q c l R) (h2 : ¬ xCn .ne t0 0 = true → rr b e d 403 27 [(0, .ref 49), (1, .int x1), (2, .int x2)] [] g q c l R) : rr b e d 403 24 [(0, .ref 49), (1, .int x1), (2, .int x2)] [.int t0] g q c l R := by
  have key : ∀ f, nrun xZ (xY (xfm b)) xDT (f + 1) d 403 24 [(0, .ref 49), (1, .int x1), (2, .int x2)] [.int t0] (rH e g q c l) 0 0 = nrun xZ (xY (xfm b)) xDT f d 403 (if xCn .ne t0 0 = true then 227 else 27) [(0, .ref 49), (1, .int x1), (2, .int x2)] [] (rH e g q c l) 0 0 := by
    intro f
    obtain ⟨y, cb, hj⟩ := mq_403
    rw [n_step (st' := []) (pc' := (if xCn .ne t0 0 = true then 227 else 27)) (lv' := [(0, .ref 49), (1, .int x1), (2, .int x2)]) (hp' := rH e g q c l) (i := .ifCond .ne 203) (len := 3) rfl hj rfl rfl rfl]
  by_cases hc : xCn .ne t0 0 = true
  · obtain ⟨f, h⟩ := h1 hc
    refine ⟨f + 1, ?_⟩
    rw [key, if_pos hc]
    exact nrun_ext f f _ _ R 403 227 [(0, .ref 49), (1, .int x1)] [(0, .ref 49), (1, .int x1), (2, .int x2)] [] _ 0 0 122 (Nat.le_refl _) (Nat.le_refl _) (Nat.le_of_ble_eq_true rfl) (lvR_mk [0, 1] [0, 1, 2] rfl rfl (by decide) (by decide) (List.forall_mem_cons.mpr ⟨List.mem_cons_self, (List.forall_mem_cons.mpr ⟨(List.mem_cons_of_mem _ List.mem_cons_self), (fun _ h => nomatch h)⟩)⟩) (List.forall_mem_cons.mpr ⟨Or.inl List.mem_cons_self, (List.forall_mem_cons.mpr ⟨Or.inl (List.mem_cons_of_mem _ List.mem_cons_self), (List.forall_mem_cons.mpr ⟨Or.inr rfl, (fun _ h => nomatch h)⟩)⟩)⟩)) h
  · obtain ⟨f, h⟩ := h2 hc
    refine ⟨f + 1, ?_⟩
    rw [key, if_neg hc]
    exact h
set_option maxRecDepth 100000 in
set_option maxHeartbeats 4000000 in
theorem bk_403_27 {b : Bool} {d : Nat} {x1 x2 : Int32} {e : Nat → x_E} {g : Nat → Int32} {q : Nat → Int64} {c : Nat → Nat → Int32} {l : Nat → Nat → Int64} {g' : Nat → Int32} {q' : Nat → Int64} {c' : Nat → Nat → Int32} {l' : Nat → Nat → Int64} {v : Int32} {R : Option Value × List x_E} (hc : rr b e d 344 0 [(0, .ref 49), (1, .int (Int8.ofInt (91)).toInt32)] [] g q c l (some (.int v), rH e g' q' c' l')) (h : rr b e (d + 1) 403 33 [(0, .ref 49), (1, .int x1), (2, .int x2)] [.int v] g' q' c' l' R) : rr b e (d + 1) 403 27 [(0, .ref 49), (1, .int x1), (2, .int x2)] [] g q c l R := by
  obtain ⟨f1, hc⟩ := hc
  obtain ⟨f2, h⟩ := h
  obtain ⟨f, hf1, hf2⟩ : ∃ f, f1 ≤ f ∧ f2 ≤ f := ⟨max f1 f2, Nat.le_max_left _ _, Nat.le_max_right _ _⟩
  have hc := nrun_fuel f1 f _ _ _ _ _ _ _ _ _ hf1 hc
  have h := nrun_fuel f2 f _ _ _ _ _ _ _ _ _ hf2 h
  refine ⟨f + 3, ?_⟩
  obtain ⟨y, cb, hj⟩ := mq_403
  rw [n_step (st' := [.ref 49]) (pc' := 28) (lv' := [(0, .ref 49), (1, .int x1), (2, .int x2)]) (hp' := rH e g q c l) (i := .aload_n 0) (len := 1) rfl hj rfl rfl rfl]
  rw [n_step (st' := [.int (Int8.ofInt (91)).toInt32, .ref 49]) (pc' := 30) (lv' := [(0, .ref 49), (1, .int x1), (2, .int x2)]) (hp' := rH e g q c l) (i := .bipush 91) (len := 2) rfl hj rfl rfl rfl]
  obtain ⟨y2, cb2, hj2⟩ := mq_344
  rw [n_call (f := f) (d := d) (ki := 0) (idx := 341) (j' := 344) (kd := 0) (M' := (y2, cb2, 2, some .boolean, 12, 1, 0, 0)) (avs := [.ref 49, .int (Int8.ofInt (91)).toInt32]) (r := []) (rv := some (.int v)) (hp1 := rH e g' q' c' l') rfl hj rfl rfl rfl rfl (rq_n rfl rfl hj2 rfl rfl) rfl hc (Nat.le_of_ble_eq_true rfl)]
  exact h
set_option maxRecDepth 100000 in
set_option maxHeartbeats 4000000 in
theorem bk_403_33 {b : Bool} {d : Nat} {t0 x1 x2 : Int32} {e : Nat → x_E} {g : Nat → Int32} {q : Nat → Int64} {c : Nat → Nat → Int32} {l : Nat → Nat → Int64} {R : Option Value × List x_E} (h1 : xCn .eq t0 0 = true → rr b e d 403 227 [(0, .ref 49), (1, .int x1)] [] g q c l R) (h2 : ¬ xCn .eq t0 0 = true → rr b e d 403 36 [(0, .ref 49), (1, .int x1), (2, .int x2)] [] g q c l R) : rr b e d 403 33 [(0, .ref 49), (1, .int x1), (2, .int x2)] [.int t0] g q c l R := by
  have key : ∀ f, nrun xZ (xY (xfm b)) xDT (f + 1) d 403 33 [(0, .ref 49), (1, .int x1), (2, .int x2)] [.int t0] (rH e g q c l) 0 0 = nrun xZ (xY (xfm b)) xDT f d 403 (if xCn .eq t0 0 = true then 227 else 36) [(0, .ref 49), (1, .int x1), (2, .int x2)] [] (rH e g q c l) 0 0 := by
    intro f
    obtain ⟨y, cb, hj⟩ := mq_403
    rw [n_step (st' := []) (pc' := (if xCn .eq t0 0 = true then 227 else 36)) (lv' := [(0, .ref 49), (1, .int x1), (2, .int x2)]) (hp' := rH e g q c l) (i := .ifCond .eq 194) (len := 3) rfl hj rfl rfl rfl]
  by_cases hc : xCn .eq t0 0 = true
  · obtain ⟨f, h⟩ := h1 hc
    refine ⟨f + 1, ?_⟩
    rw [key, if_pos hc]
    exact nrun_ext f f _ _ R 403 227 [(0, .ref 49), (1, .int x1)] [(0, .ref 49), (1, .int x1), (2, .int x2)] [] _ 0 0 122 (Nat.le_refl _) (Nat.le_refl _) (Nat.le_of_ble_eq_true rfl) (lvR_mk [0, 1] [0, 1, 2] rfl rfl (by decide) (by decide) (List.forall_mem_cons.mpr ⟨List.mem_cons_self, (List.forall_mem_cons.mpr ⟨(List.mem_cons_of_mem _ List.mem_cons_self), (fun _ h => nomatch h)⟩)⟩) (List.forall_mem_cons.mpr ⟨Or.inl List.mem_cons_self, (List.forall_mem_cons.mpr ⟨Or.inl (List.mem_cons_of_mem _ List.mem_cons_self), (List.forall_mem_cons.mpr ⟨Or.inr rfl, (fun _ h => nomatch h)⟩)⟩)⟩)) h
  · obtain ⟨f, h⟩ := h2 hc
    refine ⟨f + 1, ?_⟩
    rw [key, if_neg hc]
    exact h
