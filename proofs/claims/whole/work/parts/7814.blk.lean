set_option maxRecDepth 100000 in
set_option maxHeartbeats 4000000 in
theorem bk_384_10 {b : Bool} {d : Nat} {e : Nat → x_E} {g : Nat → Int32} {q : Nat → Int64} {c : Nat → Nat → Int32} {l : Nat → Nat → Int64} {g' : Nat → Int32} {q' : Nat → Int64} {c' : Nat → Nat → Int32} {l' : Nat → Nat → Int64} {v : Int32} {R : Option Value × List x_E} (hc : rr b e d 336 0 [(0, .ref 49)] [] g q c l (some (.int v), rH e g' q' c' l')) (h : rr b e (d + 1) 384 20 [(0, .ref 49), (1, .int (g 11))] [.int v, .ref 49] g' q' c' l' R) : rr b e (d + 1) 384 10 [(0, .ref 49)] [] g q c l R := by
  obtain ⟨f1, hc⟩ := hc
  obtain ⟨f2, h⟩ := h
  obtain ⟨f, hf1, hf2⟩ : ∃ f, f1 ≤ f ∧ f2 ≤ f := ⟨max f1 f2, Nat.le_max_left _ _, Nat.le_max_right _ _⟩
  have hc := nrun_fuel f1 f _ _ _ _ _ _ _ _ _ hf1 hc
  have h := nrun_fuel f2 f _ _ _ _ _ _ _ _ _ hf2 h
  refine ⟨f + 6, ?_⟩
  obtain ⟨y, cb, hj⟩ := mq_384
  rw [n_step (st' := [.ref 49]) (pc' := 11) (lv' := [(0, .ref 49)]) (hp' := rH e g q c l) (i := .aload_n 0) (len := 1) rfl hj rfl rfl rfl]
  rw [n_get (st' := [.int (g 11)]) (pc' := 14) (lv' := [(0, .ref 49)]) (hp' := rH e g q c l) (i := .getfield 257) (len := 3) rfl hj rfl rfl rfl rfl]
  rw [n_step (st' := []) (pc' := 15) (lv' := [(1, .int (g 11)), (0, .ref 49)]) (hp' := rH e g q c l) (i := .istore_n 1) (len := 1) rfl hj rfl rfl rfl]
  rw [n_step (st' := [.ref 49]) (pc' := 16) (lv' := [(1, .int (g 11)), (0, .ref 49)]) (hp' := rH e g q c l) (i := .aload_n 0) (len := 1) rfl hj rfl rfl rfl]
  rw [n_step (st' := [.ref 49, .ref 49]) (pc' := 17) (lv' := [(1, .int (g 11)), (0, .ref 49)]) (hp' := rH e g q c l) (i := .aload_n 0) (len := 1) rfl hj rfl rfl rfl]
  obtain ⟨y2, cb2, hj2⟩ := mq_336
  rw [n_call (f := f) (d := d) (ki := 0) (idx := 469) (j' := 336) (kd := 0) (M' := (y2, cb2, 1, some .int, 12, 0, 0, 0)) (avs := [.ref 49]) (r := [.ref 49]) (rv := some (.int v)) (hp1 := rH e g' q' c' l') rfl hj rfl rfl rfl rfl (rq_n rfl rfl hj2 rfl rfl) rfl hc (Nat.le_of_ble_eq_true rfl)]
  exact nrun_ext f f _ _ R 384 20 [(0, .ref 49), (1, .int (g 11))] [(1, .int (g 11)), (0, .ref 49)] [.int v, .ref 49] _ 0 0 122 (Nat.le_refl _) (Nat.le_refl _) (Nat.le_of_ble_eq_true rfl) (lvR_mk [0, 1] [1, 0] rfl rfl (by decide) (by decide) (List.forall_mem_cons.mpr ⟨(List.mem_cons_of_mem _ List.mem_cons_self), (List.forall_mem_cons.mpr ⟨List.mem_cons_self, (fun _ h => nomatch h)⟩)⟩) (List.forall_mem_cons.mpr ⟨Or.inl (List.mem_cons_of_mem _ List.mem_cons_self), (List.forall_mem_cons.mpr ⟨Or.inl List.mem_cons_self, (fun _ h => nomatch h)⟩)⟩)) h
set_option maxRecDepth 100000 in
set_option maxHeartbeats 4000000 in
theorem bk_384_20 {b : Bool} {d : Nat} {t0 x1 : Int32} {e : Nat → x_E} {g : Nat → Int32} {q : Nat → Int64} {c : Nat → Nat → Int32} {l : Nat → Nat → Int64} {g' : Nat → Int32} {q' : Nat → Int64} {c' : Nat → Nat → Int32} {l' : Nat → Nat → Int64} {v : Int32} {R : Option Value × List x_E} (hc : rr b e d 385 0 [(0, .ref 49), (1, .int t0), (2, .int x1)] [] g q c l (some (.int v), rH e g' q' c' l')) (h : rr b e (d + 1) 384 24 [(0, .ref 49)] [.int v] g' q' c' l' R) : rr b e (d + 1) 384 20 [(0, .ref 49), (1, .int x1)] [.int t0, .ref 49] g q c l R := by
  obtain ⟨f1, hc⟩ := hc
  obtain ⟨f2, h⟩ := h
  obtain ⟨f, hf1, hf2⟩ : ∃ f, f1 ≤ f ∧ f2 ≤ f := ⟨max f1 f2, Nat.le_max_left _ _, Nat.le_max_right _ _⟩
  have hc := nrun_fuel f1 f _ _ _ _ _ _ _ _ _ hf1 hc
  have h := nrun_fuel f2 f _ _ _ _ _ _ _ _ _ hf2 h
  refine ⟨f + 2, ?_⟩
  obtain ⟨y, cb, hj⟩ := mq_384
  rw [n_step (st' := [.int x1, .int t0, .ref 49]) (pc' := 21) (lv' := [(0, .ref 49), (1, .int x1)]) (hp' := rH e g q c l) (i := .iload_n 1) (len := 1) rfl hj rfl rfl rfl]
  obtain ⟨y2, cb2, hj2⟩ := mq_385
  rw [n_call (f := f) (d := d) (ki := 0) (idx := 505) (j' := 385) (kd := 0) (M' := (y2, cb2, 3, some .boolean, 12, 2, 0, 0)) (avs := [.ref 49, .int t0, .int x1]) (r := []) (rv := some (.int v)) (hp1 := rH e g' q' c' l') rfl hj rfl rfl rfl rfl (rq_n rfl rfl hj2 rfl rfl) rfl hc (Nat.le_of_ble_eq_true rfl)]
  exact nrun_ext f f _ _ R 384 24 [(0, .ref 49)] [(0, .ref 49), (1, .int x1)] [.int v] _ 0 0 122 (Nat.le_refl _) (Nat.le_refl _) (Nat.le_of_ble_eq_true rfl) (lvR_mk [0] [0, 1] rfl rfl (by decide) (by decide) (List.forall_mem_cons.mpr ⟨List.mem_cons_self, (fun _ h => nomatch h)⟩) (List.forall_mem_cons.mpr ⟨Or.inl List.mem_cons_self, (List.forall_mem_cons.mpr ⟨Or.inr rfl, (fun _ h => nomatch h)⟩)⟩)) h
set_option maxRecDepth 100000 in
set_option maxHeartbeats 4000000 in
theorem bk_384_24 {b : Bool} {d : Nat} {t0 : Int32} {e : Nat → x_E} {g : Nat → Int32} {q : Nat → Int64} {c : Nat → Nat → Int32} {l : Nat → Nat → Int64} {g' : Nat → Int32} {q' : Nat → Int64} {c' : Nat → Nat → Int32} {l' : Nat → Nat → Int64} {v : Int32} {R : Option Value × List x_E} (hc : rr b e d 355 0 [(0, .ref 49), (1, .int (Int8.ofInt (8)).toInt32), (2, .int (Int32.ofInt (0)))] [] g q c l (some (.int v), rH e g' q' c' l')) (h : rr b e (d + 1) 384 32 [(0, .ref 49), (2, .int t0)] [.int v] g' q' c' l' R) : rr b e (d + 1) 384 24 [(0, .ref 49)] [.int t0] g q c l R := by
  obtain ⟨f1, hc⟩ := hc
  obtain ⟨f2, h⟩ := h
  obtain ⟨f, hf1, hf2⟩ : ∃ f, f1 ≤ f ∧ f2 ≤ f := ⟨max f1 f2, Nat.le_max_left _ _, Nat.le_max_right _ _⟩
  have hc := nrun_fuel f1 f _ _ _ _ _ _ _ _ _ hf1 hc
  have h := nrun_fuel f2 f _ _ _ _ _ _ _ _ _ hf2 h
  refine ⟨f + 5, ?_⟩
  obtain ⟨y, cb, hj⟩ := mq_384
  rw [n_step (st' := []) (pc' := 25) (lv' := [(2, .int t0), (0, .ref 49)]) (hp' := rH e g q c l) (i := .istore_n 2) (len := 1) rfl hj rfl rfl rfl]
  rw [n_step (st' := [.ref 49]) (pc' := 26) (lv' := [(2, .int t0), (0, .ref 49)]) (hp' := rH e g q c l) (i := .aload_n 0) (len := 1) rfl hj rfl rfl rfl]
  rw [n_step (st' := [.int (Int8.ofInt (8)).toInt32, .ref 49]) (pc' := 28) (lv' := [(2, .int t0), (0, .ref 49)]) (hp' := rH e g q c l) (i := .bipush 8) (len := 2) rfl hj rfl rfl rfl]
  rw [n_step (st' := [.int (Int32.ofInt (0)), .int (Int8.ofInt (8)).toInt32, .ref 49]) (pc' := 29) (lv' := [(2, .int t0), (0, .ref 49)]) (hp' := rH e g q c l) (i := .iconst 0) (len := 1) rfl hj rfl rfl rfl]
  obtain ⟨y2, cb2, hj2⟩ := mq_355
  rw [n_call (f := f) (d := d) (ki := 0) (idx := 496) (j' := 355) (kd := 0) (M' := (y2, cb2, 3, some .int, 12, 2, 0, 0)) (avs := [.ref 49, .int (Int8.ofInt (8)).toInt32, .int (Int32.ofInt (0))]) (r := []) (rv := some (.int v)) (hp1 := rH e g' q' c' l') rfl hj rfl rfl rfl rfl (rq_n rfl rfl hj2 rfl rfl) rfl hc (Nat.le_of_ble_eq_true rfl)]
  exact nrun_ext f f _ _ R 384 32 [(0, .ref 49), (2, .int t0)] [(2, .int t0), (0, .ref 49)] [.int v] _ 0 0 122 (Nat.le_refl _) (Nat.le_refl _) (Nat.le_of_ble_eq_true rfl) (lvR_mk [0, 2] [2, 0] rfl rfl (by decide) (by decide) (List.forall_mem_cons.mpr ⟨(List.mem_cons_of_mem _ List.mem_cons_self), (List.forall_mem_cons.mpr ⟨List.mem_cons_self, (fun _ h => nomatch h)⟩)⟩) (List.forall_mem_cons.mpr ⟨Or.inl (List.mem_cons_of_mem _ List.mem_cons_self), (List.forall_mem_cons.mpr ⟨Or.inl List.mem_cons_self, (fun _ h => nomatch h)⟩)⟩)) h
set_option maxRecDepth 100000 in
set_option maxHeartbeats 4000000 in
theorem bk_384_32 {b : Bool} {d : Nat} {t0 x2 : Int32} {e : Nat → x_E} {g : Nat → Int32} {q : Nat → Int64} {c : Nat → Nat → Int32} {l : Nat → Nat → Int64} {g' : Nat → Int32} {q' : Nat → Int64} {c' : Nat → Nat → Int32} {l' : Nat → Nat → Int64} {R : Option Value × List x_E} (hc : rr b e d 343 0 [(0, .ref 49), (1, .int (Int8.ofInt (44)).toInt32)] [] g q c l (none, rH e g' q' c' l')) (h : rr b e (d + 1) 384 39 [(0, .ref 49), (2, .int x2), (3, .int t0)] [] g' q' c' l' R) : rr b e (d + 1) 384 32 [(0, .ref 49), (2, .int x2)] [.int t0] g q c l R := by
  obtain ⟨f1, hc⟩ := hc
  obtain ⟨f2, h⟩ := h
  obtain ⟨f, hf1, hf2⟩ : ∃ f, f1 ≤ f ∧ f2 ≤ f := ⟨max f1 f2, Nat.le_max_left _ _, Nat.le_max_right _ _⟩
  have hc := nrun_fuel f1 f _ _ _ _ _ _ _ _ _ hf1 hc
  have h := nrun_fuel f2 f _ _ _ _ _ _ _ _ _ hf2 h
  refine ⟨f + 4, ?_⟩
  obtain ⟨y, cb, hj⟩ := mq_384
  rw [n_step (st' := []) (pc' := 33) (lv' := [(3, .int t0), (0, .ref 49), (2, .int x2)]) (hp' := rH e g q c l) (i := .istore_n 3) (len := 1) rfl hj rfl rfl rfl]
  rw [n_step (st' := [.ref 49]) (pc' := 34) (lv' := [(3, .int t0), (0, .ref 49), (2, .int x2)]) (hp' := rH e g q c l) (i := .aload_n 0) (len := 1) rfl hj rfl rfl rfl]
  rw [n_step (st' := [.int (Int8.ofInt (44)).toInt32, .ref 49]) (pc' := 36) (lv' := [(3, .int t0), (0, .ref 49), (2, .int x2)]) (hp' := rH e g q c l) (i := .bipush 44) (len := 2) rfl hj rfl rfl rfl]
  obtain ⟨y2, cb2, hj2⟩ := mq_343
  rw [n_call (f := f) (d := d) (ki := 0) (idx := 359) (j' := 343) (kd := 0) (M' := (y2, cb2, 2, none, 12, 1, 0, 0)) (avs := [.ref 49, .int (Int8.ofInt (44)).toInt32]) (r := []) (rv := none) (hp1 := rH e g' q' c' l') rfl hj rfl rfl rfl rfl (rq_n rfl rfl hj2 rfl rfl) rfl hc (Nat.le_of_ble_eq_true rfl)]
  exact nrun_ext f f _ _ R 384 39 [(0, .ref 49), (2, .int x2), (3, .int t0)] [(3, .int t0), (0, .ref 49), (2, .int x2)] [] _ 0 0 122 (Nat.le_refl _) (Nat.le_refl _) (Nat.le_of_ble_eq_true rfl) (lvR_mk [0, 2, 3] [3, 0, 2] rfl rfl (by decide) (by decide) (List.forall_mem_cons.mpr ⟨(List.mem_cons_of_mem _ List.mem_cons_self), (List.forall_mem_cons.mpr ⟨(List.mem_cons_of_mem _ (List.mem_cons_of_mem _ List.mem_cons_self)), (List.forall_mem_cons.mpr ⟨List.mem_cons_self, (fun _ h => nomatch h)⟩)⟩)⟩) (List.forall_mem_cons.mpr ⟨Or.inl (List.mem_cons_of_mem _ (List.mem_cons_of_mem _ List.mem_cons_self)), (List.forall_mem_cons.mpr ⟨Or.inl List.mem_cons_self, (List.forall_mem_cons.mpr ⟨Or.inl (List.mem_cons_of_mem _ List.mem_cons_self), (fun _ h => nomatch h)⟩)⟩)⟩)) h
set_option maxRecDepth 100000 in
set_option maxHeartbeats 4000000 in
theorem bk_384_39 {b : Bool} {d : Nat} {x2 x3 : Int32} {e : Nat → x_E} {g : Nat → Int32} {q : Nat → Int64} {c : Nat → Nat → Int32} {l : Nat → Nat → Int64} {g' : Nat → Int32} {q' : Nat → Int64} {c' : Nat → Nat → Int32} {l' : Nat → Nat → Int64} {v : Int32} {R : Option Value × List x_E} (hc : rr b e d 336 0 [(0, .ref 49)] [] g q c l (some (.int v), rH e g' q' c' l')) (h : rr b e (d + 1) 384 43 [(0, .ref 49), (2, .int x2), (3, .int x3)] [.int v] g' q' c' l' R) : rr b e (d + 1) 384 39 [(0, .ref 49), (2, .int x2), (3, .int x3)] [] g q c l R := by
  obtain ⟨f1, hc⟩ := hc
  obtain ⟨f2, h⟩ := h
  obtain ⟨f, hf1, hf2⟩ : ∃ f, f1 ≤ f ∧ f2 ≤ f := ⟨max f1 f2, Nat.le_max_left _ _, Nat.le_max_right _ _⟩
  have hc := nrun_fuel f1 f _ _ _ _ _ _ _ _ _ hf1 hc
  have h := nrun_fuel f2 f _ _ _ _ _ _ _ _ _ hf2 h
  refine ⟨f + 2, ?_⟩
  obtain ⟨y, cb, hj⟩ := mq_384
  rw [n_step (st' := [.ref 49]) (pc' := 40) (lv' := [(0, .ref 49), (2, .int x2), (3, .int x3)]) (hp' := rH e g q c l) (i := .aload_n 0) (len := 1) rfl hj rfl rfl rfl]
  obtain ⟨y2, cb2, hj2⟩ := mq_336
  rw [n_call (f := f) (d := d) (ki := 0) (idx := 469) (j' := 336) (kd := 0) (M' := (y2, cb2, 1, some .int, 12, 0, 0, 0)) (avs := [.ref 49]) (r := []) (rv := some (.int v)) (hp1 := rH e g' q' c' l') rfl hj rfl rfl rfl rfl (rq_n rfl rfl hj2 rfl rfl) rfl hc (Nat.le_of_ble_eq_true rfl)]
  exact h
set_option maxRecDepth 100000 in
set_option maxHeartbeats 4000000 in
theorem bk_384_43 {b : Bool} {d : Nat} {t0 x2 x3 : Int32} {e : Nat → x_E} {g : Nat → Int32} {q : Nat → Int64} {c : Nat → Nat → Int32} {l : Nat → Nat → Int64} {g' : Nat → Int32} {q' : Nat → Int64} {c' : Nat → Nat → Int32} {l' : Nat → Nat → Int64} {v : Int32} {R : Option Value × List x_E} (hc : rr b e d 355 0 [(0, .ref 49), (1, .int (Int8.ofInt (9)).toInt32), (2, .int (Int32.ofInt (0)))] [] g q c l (some (.int v), rH e g' q' c' l')) (h : rr b e (d + 1) 384 52 [(0, .ref 49), (2, .int x2), (3, .int x3), (4, .int t0)] [.int v] g' q' c' l' R) : rr b e (d + 1) 384 43 [(0, .ref 49), (2, .int x2), (3, .int x3)] [.int t0] g q c l R := by
  obtain ⟨f1, hc⟩ := hc
  obtain ⟨f2, h⟩ := h
  obtain ⟨f, hf1, hf2⟩ : ∃ f, f1 ≤ f ∧ f2 ≤ f := ⟨max f1 f2, Nat.le_max_left _ _, Nat.le_max_right _ _⟩
  have hc := nrun_fuel f1 f _ _ _ _ _ _ _ _ _ hf1 hc
  have h := nrun_fuel f2 f _ _ _ _ _ _ _ _ _ hf2 h
  refine ⟨f + 5, ?_⟩
  obtain ⟨y, cb, hj⟩ := mq_384
  rw [n_step (st' := []) (pc' := 45) (lv' := [(4, .int t0), (0, .ref 49), (2, .int x2), (3, .int x3)]) (hp' := rH e g q c l) (i := .istore 4) (len := 2) rfl hj rfl rfl rfl]
  rw [n_step (st' := [.ref 49]) (pc' := 46) (lv' := [(4, .int t0), (0, .ref 49), (2, .int x2), (3, .int x3)]) (hp' := rH e g q c l) (i := .aload_n 0) (len := 1) rfl hj rfl rfl rfl]
  rw [n_step (st' := [.int (Int8.ofInt (9)).toInt32, .ref 49]) (pc' := 48) (lv' := [(4, .int t0), (0, .ref 49), (2, .int x2), (3, .int x3)]) (hp' := rH e g q c l) (i := .bipush 9) (len := 2) rfl hj rfl rfl rfl]
  rw [n_step (st' := [.int (Int32.ofInt (0)), .int (Int8.ofInt (9)).toInt32, .ref 49]) (pc' := 49) (lv' := [(4, .int t0), (0, .ref 49), (2, .int x2), (3, .int x3)]) (hp' := rH e g q c l) (i := .iconst 0) (len := 1) rfl hj rfl rfl rfl]
  obtain ⟨y2, cb2, hj2⟩ := mq_355
  rw [n_call (f := f) (d := d) (ki := 0) (idx := 496) (j' := 355) (kd := 0) (M' := (y2, cb2, 3, some .int, 12, 2, 0, 0)) (avs := [.ref 49, .int (Int8.ofInt (9)).toInt32, .int (Int32.ofInt (0))]) (r := []) (rv := some (.int v)) (hp1 := rH e g' q' c' l') rfl hj rfl rfl rfl rfl (rq_n rfl rfl hj2 rfl rfl) rfl hc (Nat.le_of_ble_eq_true rfl)]
  exact nrun_ext f f _ _ R 384 52 [(0, .ref 49), (2, .int x2), (3, .int x3), (4, .int t0)] [(4, .int t0), (0, .ref 49), (2, .int x2), (3, .int x3)] [.int v] _ 0 0 122 (Nat.le_refl _) (Nat.le_refl _) (Nat.le_of_ble_eq_true rfl) (lvR_mk [0, 2, 3, 4] [4, 0, 2, 3] rfl rfl (by decide) (by decide) (List.forall_mem_cons.mpr ⟨(List.mem_cons_of_mem _ List.mem_cons_self), (List.forall_mem_cons.mpr ⟨(List.mem_cons_of_mem _ (List.mem_cons_of_mem _ List.mem_cons_self)), (List.forall_mem_cons.mpr ⟨(List.mem_cons_of_mem _ (List.mem_cons_of_mem _ (List.mem_cons_of_mem _ List.mem_cons_self))), (List.forall_mem_cons.mpr ⟨List.mem_cons_self, (fun _ h => nomatch h)⟩)⟩)⟩)⟩) (List.forall_mem_cons.mpr ⟨Or.inl (List.mem_cons_of_mem _ (List.mem_cons_of_mem _ (List.mem_cons_of_mem _ List.mem_cons_self))), (List.forall_mem_cons.mpr ⟨Or.inl List.mem_cons_self, (List.forall_mem_cons.mpr ⟨Or.inl (List.mem_cons_of_mem _ List.mem_cons_self), (List.forall_mem_cons.mpr ⟨Or.inl (List.mem_cons_of_mem _ (List.mem_cons_of_mem _ List.mem_cons_self)), (fun _ h => nomatch h)⟩)⟩)⟩)⟩)) h
set_option maxRecDepth 100000 in
set_option maxHeartbeats 4000000 in
theorem bk_384_52 {b : Bool} {d : Nat} {t0 x2 x3 x4 : Int32} {e : Nat → x_E} {g : Nat → Int32} {q : Nat → Int64} {c : Nat → Nat → Int32} {l : Nat → Nat → Int64} {g' : Nat → Int32} {q' : Nat → Int64} {c' : Nat → Nat → Int32} {l' : Nat → Nat → Int64} {R : Option Value × List x_E} (hz0 : ¬ (x3 < 0 ∨ 4000 ≤ (x3).toNatClampNeg)) (hc : rr b e d 343 0 [(0, .ref 49), (1, .int (Int8.ofInt (44)).toInt32)] [] g q (updA c 63 (upd (c 63) (x3).toNatClampNeg ((g 43)))) l (none, rH e g' q' c' l')) (h : rr b e (d + 1) 384 70 [(0, .ref 49), (2, .int x2), (4, .int x4), (5, .int t0)] [] g' q' c' l' R) : rr b e (d + 1) 384 52 [(0, .ref 49), (2, .int x2), (3, .int x3), (4, .int x4)] [.int t0] g q c l R := by
  obtain ⟨f1, hc⟩ := hc
  obtain ⟨f2, h⟩ := h
  obtain ⟨f, hf1, hf2⟩ : ∃ f, f1 ≤ f ∧ f2 ≤ f := ⟨max f1 f2, Nat.le_max_left _ _, Nat.le_max_right _ _⟩
  have hc := nrun_fuel f1 f _ _ _ _ _ _ _ _ _ hf1 hc
  have h := nrun_fuel f2 f _ _ _ _ _ _ _ _ _ hf2 h
  refine ⟨f + 10, ?_⟩
  obtain ⟨y, cb, hj⟩ := mq_384
  rw [n_step (st' := []) (pc' := 54) (lv' := [(5, .int t0), (0, .ref 49), (2, .int x2), (3, .int x3), (4, .int x4)]) (hp' := rH e g q c l) (i := .istore 5) (len := 2) rfl hj rfl rfl rfl]
  rw [n_step (st' := [.ref 49]) (pc' := 55) (lv' := [(5, .int t0), (0, .ref 49), (2, .int x2), (3, .int x3), (4, .int x4)]) (hp' := rH e g q c l) (i := .aload_n 0) (len := 1) rfl hj rfl rfl rfl]
  rw [n_get (st' := [.ref 63]) (pc' := 58) (lv' := [(5, .int t0), (0, .ref 49), (2, .int x2), (3, .int x3), (4, .int x4)]) (hp' := rH e g q c l) (i := .getfield 56) (len := 3) rfl hj rfl rfl rfl rfl]
  rw [n_step (st' := [.int x3, .ref 63]) (pc' := 59) (lv' := [(5, .int t0), (0, .ref 49), (2, .int x2), (3, .int x3), (4, .int x4)]) (hp' := rH e g q c l) (i := .iload_n 3) (len := 1) rfl hj rfl rfl rfl]
  rw [n_step (st' := [.ref 49, .int x3, .ref 63]) (pc' := 60) (lv' := [(5, .int t0), (0, .ref 49), (2, .int x2), (3, .int x3), (4, .int x4)]) (hp' := rH e g q c l) (i := .aload_n 0) (len := 1) rfl hj rfl rfl rfl]
  rw [n_get (st' := [.int (g 43), .int x3, .ref 63]) (pc' := 63) (lv' := [(5, .int t0), (0, .ref 49), (2, .int x2), (3, .int x3), (4, .int x4)]) (hp' := rH e g q c l) (i := .getfield 430) (len := 3) rfl hj rfl rfl rfl rfl]
  rw [n_ias (st' := []) (hp' := rH e g q (updA c 63 (upd (c 63) (x3).toNatClampNeg ((g 43)))) l) rfl hj (ast_63 hz0)]
  rw [n_step (st' := [.ref 49]) (pc' := 65) (lv' := [(5, .int t0), (0, .ref 49), (2, .int x2), (3, .int x3), (4, .int x4)]) (hp' := rH e g q (updA c 63 (upd (c 63) (x3).toNatClampNeg ((g 43)))) l) (i := .aload_n 0) (len := 1) rfl hj rfl rfl rfl]
  rw [n_step (st' := [.int (Int8.ofInt (44)).toInt32, .ref 49]) (pc' := 67) (lv' := [(5, .int t0), (0, .ref 49), (2, .int x2), (3, .int x3), (4, .int x4)]) (hp' := rH e g q (updA c 63 (upd (c 63) (x3).toNatClampNeg ((g 43)))) l) (i := .bipush 44) (len := 2) rfl hj rfl rfl rfl]
  obtain ⟨y2, cb2, hj2⟩ := mq_343
  rw [n_call (f := f) (d := d) (ki := 0) (idx := 359) (j' := 343) (kd := 0) (M' := (y2, cb2, 2, none, 12, 1, 0, 0)) (avs := [.ref 49, .int (Int8.ofInt (44)).toInt32]) (r := []) (rv := none) (hp1 := rH e g' q' c' l') rfl hj rfl rfl rfl rfl (rq_n rfl rfl hj2 rfl rfl) rfl hc (Nat.le_of_ble_eq_true rfl)]
  exact nrun_ext f f _ _ R 384 70 [(0, .ref 49), (2, .int x2), (4, .int x4), (5, .int t0)] [(5, .int t0), (0, .ref 49), (2, .int x2), (3, .int x3), (4, .int x4)] [] _ 0 0 122 (Nat.le_refl _) (Nat.le_refl _) (Nat.le_of_ble_eq_true rfl) (lvR_mk [0, 2, 4, 5] [5, 0, 2, 3, 4] rfl rfl (by decide) (by decide) (List.forall_mem_cons.mpr ⟨(List.mem_cons_of_mem _ List.mem_cons_self), (List.forall_mem_cons.mpr ⟨(List.mem_cons_of_mem _ (List.mem_cons_of_mem _ List.mem_cons_self)), (List.forall_mem_cons.mpr ⟨(List.mem_cons_of_mem _ (List.mem_cons_of_mem _ (List.mem_cons_of_mem _ (List.mem_cons_of_mem _ List.mem_cons_self)))), (List.forall_mem_cons.mpr ⟨List.mem_cons_self, (fun _ h => nomatch h)⟩)⟩)⟩)⟩) (List.forall_mem_cons.mpr ⟨Or.inl (List.mem_cons_of_mem _ (List.mem_cons_of_mem _ (List.mem_cons_of_mem _ List.mem_cons_self))), (List.forall_mem_cons.mpr ⟨Or.inl List.mem_cons_self, (List.forall_mem_cons.mpr ⟨Or.inl (List.mem_cons_of_mem _ List.mem_cons_self), (List.forall_mem_cons.mpr ⟨Or.inr rfl, (List.forall_mem_cons.mpr ⟨Or.inl (List.mem_cons_of_mem _ (List.mem_cons_of_mem _ List.mem_cons_self)), (fun _ h => nomatch h)⟩)⟩)⟩)⟩)⟩)) h
set_option maxRecDepth 100000 in
set_option maxHeartbeats 4000000 in
theorem bk_384_70 {b : Bool} {d : Nat} {x2 x4 x5 : Int32} {e : Nat → x_E} {g : Nat → Int32} {q : Nat → Int64} {c : Nat → Nat → Int32} {l : Nat → Nat → Int64} {g' : Nat → Int32} {q' : Nat → Int64} {c' : Nat → Nat → Int32} {l' : Nat → Nat → Int64} {v : Int32} {R : Option Value × List x_E} (hc : rr b e d 336 0 [(0, .ref 49)] [] g q c l (some (.int v), rH e g' q' c' l')) (h : rr b e (d + 1) 384 80 [(0, .ref 49), (2, .int x2), (4, .int x4), (5, .int x5), (6, .int (g 11))] [.int v] g' q' c' l' R) : rr b e (d + 1) 384 70 [(0, .ref 49), (2, .int x2), (4, .int x4), (5, .int x5)] [] g q c l R := by
  obtain ⟨f1, hc⟩ := hc
  obtain ⟨f2, h⟩ := h
  obtain ⟨f, hf1, hf2⟩ : ∃ f, f1 ≤ f ∧ f2 ≤ f := ⟨max f1 f2, Nat.le_max_left _ _, Nat.le_max_right _ _⟩
  have hc := nrun_fuel f1 f _ _ _ _ _ _ _ _ _ hf1 hc
  have h := nrun_fuel f2 f _ _ _ _ _ _ _ _ _ hf2 h
  refine ⟨f + 5, ?_⟩
  obtain ⟨y, cb, hj⟩ := mq_384
  rw [n_step (st' := [.ref 49]) (pc' := 71) (lv' := [(0, .ref 49), (2, .int x2), (4, .int x4), (5, .int x5)]) (hp' := rH e g q c l) (i := .aload_n 0) (len := 1) rfl hj rfl rfl rfl]
  rw [n_get (st' := [.int (g 11)]) (pc' := 74) (lv' := [(0, .ref 49), (2, .int x2), (4, .int x4), (5, .int x5)]) (hp' := rH e g q c l) (i := .getfield 257) (len := 3) rfl hj rfl rfl rfl rfl]
  rw [n_step (st' := []) (pc' := 76) (lv' := [(6, .int (g 11)), (0, .ref 49), (2, .int x2), (4, .int x4), (5, .int x5)]) (hp' := rH e g q c l) (i := .istore 6) (len := 2) rfl hj rfl rfl rfl]
  rw [n_step (st' := [.ref 49]) (pc' := 77) (lv' := [(6, .int (g 11)), (0, .ref 49), (2, .int x2), (4, .int x4), (5, .int x5)]) (hp' := rH e g q c l) (i := .aload_n 0) (len := 1) rfl hj rfl rfl rfl]
  obtain ⟨y2, cb2, hj2⟩ := mq_336
  rw [n_call (f := f) (d := d) (ki := 0) (idx := 469) (j' := 336) (kd := 0) (M' := (y2, cb2, 1, some .int, 12, 0, 0, 0)) (avs := [.ref 49]) (r := []) (rv := some (.int v)) (hp1 := rH e g' q' c' l') rfl hj rfl rfl rfl rfl (rq_n rfl rfl hj2 rfl rfl) rfl hc (Nat.le_of_ble_eq_true rfl)]
  exact nrun_ext f f _ _ R 384 80 [(0, .ref 49), (2, .int x2), (4, .int x4), (5, .int x5), (6, .int (g 11))] [(6, .int (g 11)), (0, .ref 49), (2, .int x2), (4, .int x4), (5, .int x5)] [.int v] _ 0 0 122 (Nat.le_refl _) (Nat.le_refl _) (Nat.le_of_ble_eq_true rfl) (lvR_mk [0, 2, 4, 5, 6] [6, 0, 2, 4, 5] rfl rfl (by decide) (by decide) (List.forall_mem_cons.mpr ⟨(List.mem_cons_of_mem _ List.mem_cons_self), (List.forall_mem_cons.mpr ⟨(List.mem_cons_of_mem _ (List.mem_cons_of_mem _ List.mem_cons_self)), (List.forall_mem_cons.mpr ⟨(List.mem_cons_of_mem _ (List.mem_cons_of_mem _ (List.mem_cons_of_mem _ List.mem_cons_self))), (List.forall_mem_cons.mpr ⟨(List.mem_cons_of_mem _ (List.mem_cons_of_mem _ (List.mem_cons_of_mem _ (List.mem_cons_of_mem _ List.mem_cons_self)))), (List.forall_mem_cons.mpr ⟨List.mem_cons_self, (fun _ h => nomatch h)⟩)⟩)⟩)⟩)⟩) (List.forall_mem_cons.mpr ⟨Or.inl (List.mem_cons_of_mem _ (List.mem_cons_of_mem _ (List.mem_cons_of_mem _ (List.mem_cons_of_mem _ List.mem_cons_self)))), (List.forall_mem_cons.mpr ⟨Or.inl List.mem_cons_self, (List.forall_mem_cons.mpr ⟨Or.inl (List.mem_cons_of_mem _ List.mem_cons_self), (List.forall_mem_cons.mpr ⟨Or.inl (List.mem_cons_of_mem _ (List.mem_cons_of_mem _ List.mem_cons_self)), (List.forall_mem_cons.mpr ⟨Or.inl (List.mem_cons_of_mem _ (List.mem_cons_of_mem _ (List.mem_cons_of_mem _ List.mem_cons_self))), (fun _ h => nomatch h)⟩)⟩)⟩)⟩)⟩)) h
set_option maxRecDepth 100000 in
set_option maxHeartbeats 4000000 in
theorem bk_384_80 {b : Bool} {d : Nat} {t0 x2 x4 x5 x6 : Int32} {e : Nat → x_E} {g : Nat → Int32} {q : Nat → Int64} {c : Nat → Nat → Int32} {l : Nat → Nat → Int64} {g' : Nat → Int32} {q' : Nat → Int64} {c' : Nat → Nat → Int32} {l' : Nat → Nat → Int64} {v : Int32} {R : Option Value × List x_E} (hz0 : ¬ (x5 < 0 ∨ 4000 ≤ (x5).toNatClampNeg)) (hc : rr b e d 355 0 [(0, .ref 49), (1, .int (Int8.ofInt (11)).toInt32), (2, .int (Int32.ofInt (0)))] [] g q (updA c 63 (upd (c 63) (x5).toNatClampNeg ((g 43)))) l (some (.int v), rH e g' q' c' l')) (h : rr b e (d + 1) 384 100 [(0, .ref 49), (2, .int x2), (4, .int x4), (6, .int x6), (7, .int t0)] [.int v] g' q' c' l' R) : rr b e (d + 1) 384 80 [(0, .ref 49), (2, .int x2), (4, .int x4), (5, .int x5), (6, .int x6)] [.int t0] g q c l R := by
  obtain ⟨f1, hc⟩ := hc
  obtain ⟨f2, h⟩ := h
  obtain ⟨f, hf1, hf2⟩ : ∃ f, f1 ≤ f ∧ f2 ≤ f := ⟨max f1 f2, Nat.le_max_left _ _, Nat.le_max_right _ _⟩
  have hc := nrun_fuel f1 f _ _ _ _ _ _ _ _ _ hf1 hc
  have h := nrun_fuel f2 f _ _ _ _ _ _ _ _ _ hf2 h
  refine ⟨f + 11, ?_⟩
  obtain ⟨y, cb, hj⟩ := mq_384
  rw [n_step (st' := []) (pc' := 82) (lv' := [(7, .int t0), (0, .ref 49), (2, .int x2), (4, .int x4), (5, .int x5), (6, .int x6)]) (hp' := rH e g q c l) (i := .istore 7) (len := 2) rfl hj rfl rfl rfl]
  rw [n_step (st' := [.ref 49]) (pc' := 83) (lv' := [(7, .int t0), (0, .ref 49), (2, .int x2), (4, .int x4), (5, .int x5), (6, .int x6)]) (hp' := rH e g q c l) (i := .aload_n 0) (len := 1) rfl hj rfl rfl rfl]
  rw [n_get (st' := [.ref 63]) (pc' := 86) (lv' := [(7, .int t0), (0, .ref 49), (2, .int x2), (4, .int x4), (5, .int x5), (6, .int x6)]) (hp' := rH e g q c l) (i := .getfield 56) (len := 3) rfl hj rfl rfl rfl rfl]
  rw [n_step (st' := [.int x5, .ref 63]) (pc' := 88) (lv' := [(7, .int t0), (0, .ref 49), (2, .int x2), (4, .int x4), (5, .int x5), (6, .int x6)]) (hp' := rH e g q c l) (i := .iload 5) (len := 2) rfl hj rfl rfl rfl]
  rw [n_step (st' := [.ref 49, .int x5, .ref 63]) (pc' := 89) (lv' := [(7, .int t0), (0, .ref 49), (2, .int x2), (4, .int x4), (5, .int x5), (6, .int x6)]) (hp' := rH e g q c l) (i := .aload_n 0) (len := 1) rfl hj rfl rfl rfl]
  rw [n_get (st' := [.int (g 43), .int x5, .ref 63]) (pc' := 92) (lv' := [(7, .int t0), (0, .ref 49), (2, .int x2), (4, .int x4), (5, .int x5), (6, .int x6)]) (hp' := rH e g q c l) (i := .getfield 430) (len := 3) rfl hj rfl rfl rfl rfl]
  rw [n_ias (st' := []) (hp' := rH e g q (updA c 63 (upd (c 63) (x5).toNatClampNeg ((g 43)))) l) rfl hj (ast_63 hz0)]
  rw [n_step (st' := [.ref 49]) (pc' := 94) (lv' := [(7, .int t0), (0, .ref 49), (2, .int x2), (4, .int x4), (5, .int x5), (6, .int x6)]) (hp' := rH e g q (updA c 63 (upd (c 63) (x5).toNatClampNeg ((g 43)))) l) (i := .aload_n 0) (len := 1) rfl hj rfl rfl rfl]
  rw [n_step (st' := [.int (Int8.ofInt (11)).toInt32, .ref 49]) (pc' := 96) (lv' := [(7, .int t0), (0, .ref 49), (2, .int x2), (4, .int x4), (5, .int x5), (6, .int x6)]) (hp' := rH e g q (updA c 63 (upd (c 63) (x5).toNatClampNeg ((g 43)))) l) (i := .bipush 11) (len := 2) rfl hj rfl rfl rfl]
  rw [n_step (st' := [.int (Int32.ofInt (0)), .int (Int8.ofInt (11)).toInt32, .ref 49]) (pc' := 97) (lv' := [(7, .int t0), (0, .ref 49), (2, .int x2), (4, .int x4), (5, .int x5), (6, .int x6)]) (hp' := rH e g q (updA c 63 (upd (c 63) (x5).toNatClampNeg ((g 43)))) l) (i := .iconst 0) (len := 1) rfl hj rfl rfl rfl]
  obtain ⟨y2, cb2, hj2⟩ := mq_355
  rw [n_call (f := f) (d := d) (ki := 0) (idx := 496) (j' := 355) (kd := 0) (M' := (y2, cb2, 3, some .int, 12, 2, 0, 0)) (avs := [.ref 49, .int (Int8.ofInt (11)).toInt32, .int (Int32.ofInt (0))]) (r := []) (rv := some (.int v)) (hp1 := rH e g' q' c' l') rfl hj rfl rfl rfl rfl (rq_n rfl rfl hj2 rfl rfl) rfl hc (Nat.le_of_ble_eq_true rfl)]
  exact nrun_ext f f _ _ R 384 100 [(0, .ref 49), (2, .int x2), (4, .int x4), (6, .int x6), (7, .int t0)] [(7, .int t0), (0, .ref 49), (2, .int x2), (4, .int x4), (5, .int x5), (6, .int x6)] [.int v] _ 0 0 122 (Nat.le_refl _) (Nat.le_refl _) (Nat.le_of_ble_eq_true rfl) (lvR_mk [0, 2, 4, 6, 7] [7, 0, 2, 4, 5, 6] rfl rfl (by decide) (by decide) (List.forall_mem_cons.mpr ⟨(List.mem_cons_of_mem _ List.mem_cons_self), (List.forall_mem_cons.mpr ⟨(List.mem_cons_of_mem _ (List.mem_cons_of_mem _ List.mem_cons_self)), (List.forall_mem_cons.mpr ⟨(List.mem_cons_of_mem _ (List.mem_cons_of_mem _ (List.mem_cons_of_mem _ List.mem_cons_self))), (List.forall_mem_cons.mpr ⟨(List.mem_cons_of_mem _ (List.mem_cons_of_mem _ (List.mem_cons_of_mem _ (List.mem_cons_of_mem _ (List.mem_cons_of_mem _ List.mem_cons_self))))), (List.forall_mem_cons.mpr ⟨List.mem_cons_self, (fun _ h => nomatch h)⟩)⟩)⟩)⟩)⟩) (List.forall_mem_cons.mpr ⟨Or.inl (List.mem_cons_of_mem _ (List.mem_cons_of_mem _ (List.mem_cons_of_mem _ (List.mem_cons_of_mem _ List.mem_cons_self)))), (List.forall_mem_cons.mpr ⟨Or.inl List.mem_cons_self, (List.forall_mem_cons.mpr ⟨Or.inl (List.mem_cons_of_mem _ List.mem_cons_self), (List.forall_mem_cons.mpr ⟨Or.inl (List.mem_cons_of_mem _ (List.mem_cons_of_mem _ List.mem_cons_self)), (List.forall_mem_cons.mpr ⟨Or.inr rfl, (List.forall_mem_cons.mpr ⟨Or.inl (List.mem_cons_of_mem _ (List.mem_cons_of_mem _ (List.mem_cons_of_mem _ List.mem_cons_self))), (fun _ h => nomatch h)⟩)⟩)⟩)⟩)⟩)⟩)) h
set_option maxRecDepth 100000 in
set_option maxHeartbeats 4000000 in
theorem bk_384_100 {b : Bool} {d : Nat} {t0 x2 x4 x6 x7 : Int32} {e : Nat → x_E} {g : Nat → Int32} {q : Nat → Int64} {c : Nat → Nat → Int32} {l : Nat → Nat → Int64} {g' : Nat → Int32} {q' : Nat → Int64} {c' : Nat → Nat → Int32} {l' : Nat → Nat → Int64} {R : Option Value × List x_E} (hc : rr b e d 353 0 [(0, .ref 49), (1, .int (Int8.ofInt (41)).toInt32)] [] g q c l (none, rH e g' q' c' l')) (h : rr b e (d + 1) 384 107 [(0, .ref 49), (2, .int x2), (4, .int x4), (6, .int x6), (7, .int x7)] [] g' q' c' l' R) : rr b e (d + 1) 384 100 [(0, .ref 49), (2, .int x2), (4, .int x4), (6, .int x6), (7, .int x7)] [.int t0] g q c l R := by
  obtain ⟨f1, hc⟩ := hc
  obtain ⟨f2, h⟩ := h
  obtain ⟨f, hf1, hf2⟩ : ∃ f, f1 ≤ f ∧ f2 ≤ f := ⟨max f1 f2, Nat.le_max_left _ _, Nat.le_max_right _ _⟩
  have hc := nrun_fuel f1 f _ _ _ _ _ _ _ _ _ hf1 hc
  have h := nrun_fuel f2 f _ _ _ _ _ _ _ _ _ hf2 h
  refine ⟨f + 4, ?_⟩
  obtain ⟨y, cb, hj⟩ := mq_384
  rw [n_step (st' := []) (pc' := 101) (lv' := [(0, .ref 49), (2, .int x2), (4, .int x4), (6, .int x6), (7, .int x7)]) (hp' := rH e g q c l) (i := .pop) (len := 1) rfl hj rfl rfl rfl]
  rw [n_step (st' := [.ref 49]) (pc' := 102) (lv' := [(0, .ref 49), (2, .int x2), (4, .int x4), (6, .int x6), (7, .int x7)]) (hp' := rH e g q c l) (i := .aload_n 0) (len := 1) rfl hj rfl rfl rfl]
  rw [n_step (st' := [.int (Int8.ofInt (41)).toInt32, .ref 49]) (pc' := 104) (lv' := [(0, .ref 49), (2, .int x2), (4, .int x4), (6, .int x6), (7, .int x7)]) (hp' := rH e g q c l) (i := .bipush 41) (len := 2) rfl hj rfl rfl rfl]
  obtain ⟨y2, cb2, hj2⟩ := mq_353
  rw [n_call (f := f) (d := d) (ki := 0) (idx := 424) (j' := 353) (kd := 0) (M' := (y2, cb2, 2, none, 12, 1, 0, 0)) (avs := [.ref 49, .int (Int8.ofInt (41)).toInt32]) (r := []) (rv := none) (hp1 := rH e g' q' c' l') rfl hj rfl rfl rfl rfl (rq_n rfl rfl hj2 rfl rfl) rfl hc (Nat.le_of_ble_eq_true rfl)]
  exact h
set_option maxRecDepth 100000 in
set_option maxHeartbeats 4000000 in
theorem bk_384_107 {b : Bool} {d : Nat} {x2 x4 x6 x7 : Int32} {e : Nat → x_E} {g : Nat → Int32} {q : Nat → Int64} {c : Nat → Nat → Int32} {l : Nat → Nat → Int64} {R : Option Value × List x_E} (h1 : xCn .lt x4 0 = true → rr b e d 384 137 [(2, .int x2), (4, .int x4), (7, .int x7)] [] g q c l R) (h2 : ¬ xCn .lt x4 0 = true → rr b e d 384 112 [(0, .ref 49), (2, .int x2), (4, .int x4), (6, .int x6), (7, .int x7)] [] g q c l R) : rr b e d 384 107 [(0, .ref 49), (2, .int x2), (4, .int x4), (6, .int x6), (7, .int x7)] [] g q c l R := by
  have key : ∀ f, nrun xZ (xY (xfm b)) xDT (f + 2) d 384 107 [(0, .ref 49), (2, .int x2), (4, .int x4), (6, .int x6), (7, .int x7)] [] (rH e g q c l) 0 0 = nrun xZ (xY (xfm b)) xDT f d 384 (if xCn .lt x4 0 = true then 137 else 112) [(0, .ref 49), (2, .int x2), (4, .int x4), (6, .int x6), (7, .int x7)] [] (rH e g q c l) 0 0 := by
    intro f
    obtain ⟨y, cb, hj⟩ := mq_384
    rw [n_step (st' := [.int x4]) (pc' := 109) (lv' := [(0, .ref 49), (2, .int x2), (4, .int x4), (6, .int x6), (7, .int x7)]) (hp' := rH e g q c l) (i := .iload 4) (len := 2) rfl hj rfl rfl rfl]
    rw [n_step (st' := []) (pc' := (if xCn .lt x4 0 = true then 137 else 112)) (lv' := [(0, .ref 49), (2, .int x2), (4, .int x4), (6, .int x6), (7, .int x7)]) (hp' := rH e g q c l) (i := .ifCond .lt 28) (len := 3) rfl hj rfl rfl rfl]
  by_cases hc : xCn .lt x4 0 = true
  · obtain ⟨f, h⟩ := h1 hc
    refine ⟨f + 2, ?_⟩
    rw [key, if_pos hc]
    exact nrun_ext f f _ _ R 384 137 [(2, .int x2), (4, .int x4), (7, .int x7)] [(0, .ref 49), (2, .int x2), (4, .int x4), (6, .int x6), (7, .int x7)] [] _ 0 0 122 (Nat.le_refl _) (Nat.le_refl _) (Nat.le_of_ble_eq_true rfl) (lvR_mk [2, 4, 7] [0, 2, 4, 6, 7] rfl rfl (by decide) (by decide) (List.forall_mem_cons.mpr ⟨(List.mem_cons_of_mem _ List.mem_cons_self), (List.forall_mem_cons.mpr ⟨(List.mem_cons_of_mem _ (List.mem_cons_of_mem _ List.mem_cons_self)), (List.forall_mem_cons.mpr ⟨(List.mem_cons_of_mem _ (List.mem_cons_of_mem _ (List.mem_cons_of_mem _ (List.mem_cons_of_mem _ List.mem_cons_self)))), (fun _ h => nomatch h)⟩)⟩)⟩) (List.forall_mem_cons.mpr ⟨Or.inr rfl, (List.forall_mem_cons.mpr ⟨Or.inl List.mem_cons_self, (List.forall_mem_cons.mpr ⟨Or.inl (List.mem_cons_of_mem _ List.mem_cons_self), (List.forall_mem_cons.mpr ⟨Or.inr rfl, (List.forall_mem_cons.mpr ⟨Or.inl (List.mem_cons_of_mem _ (List.mem_cons_of_mem _ List.mem_cons_self)), (fun _ h => nomatch h)⟩)⟩)⟩)⟩)⟩)) h
  · obtain ⟨f, h⟩ := h2 hc
    refine ⟨f + 2, ?_⟩
    rw [key, if_neg hc]
    exact h
set_option maxRecDepth 100000 in
set_option maxHeartbeats 4000000 in
theorem bk_384_112 {b : Bool} {d : Nat} {x2 x4 x6 x7 : Int32} {e : Nat → x_E} {g : Nat → Int32} {q : Nat → Int64} {c : Nat → Nat → Int32} {l : Nat → Nat → Int64} {R : Option Value × List x_E} (h1 : xCn .lt x7 0 = true → rr b e d 384 137 [(2, .int x2), (4, .int x4), (7, .int x7)] [] g q c l R) (h2 : ¬ xCn .lt x7 0 = true → rr b e d 384 117 [(0, .ref 49), (2, .int x2), (4, .int x4), (6, .int x6), (7, .int x7)] [] g q c l R) : rr b e d 384 112 [(0, .ref 49), (2, .int x2), (4, .int x4), (6, .int x6), (7, .int x7)] [] g q c l R := by
  have key : ∀ f, nrun xZ (xY (xfm b)) xDT (f + 2) d 384 112 [(0, .ref 49), (2, .int x2), (4, .int x4), (6, .int x6), (7, .int x7)] [] (rH e g q c l) 0 0 = nrun xZ (xY (xfm b)) xDT f d 384 (if xCn .lt x7 0 = true then 137 else 117) [(0, .ref 49), (2, .int x2), (4, .int x4), (6, .int x6), (7, .int x7)] [] (rH e g q c l) 0 0 := by
    intro f
    obtain ⟨y, cb, hj⟩ := mq_384
    rw [n_step (st' := [.int x7]) (pc' := 114) (lv' := [(0, .ref 49), (2, .int x2), (4, .int x4), (6, .int x6), (7, .int x7)]) (hp' := rH e g q c l) (i := .iload 7) (len := 2) rfl hj rfl rfl rfl]
    rw [n_step (st' := []) (pc' := (if xCn .lt x7 0 = true then 137 else 117)) (lv' := [(0, .ref 49), (2, .int x2), (4, .int x4), (6, .int x6), (7, .int x7)]) (hp' := rH e g q c l) (i := .ifCond .lt 23) (len := 3) rfl hj rfl rfl rfl]
  by_cases hc : xCn .lt x7 0 = true
  · obtain ⟨f, h⟩ := h1 hc
    refine ⟨f + 2, ?_⟩
    rw [key, if_pos hc]
    exact nrun_ext f f _ _ R 384 137 [(2, .int x2), (4, .int x4), (7, .int x7)] [(0, .ref 49), (2, .int x2), (4, .int x4), (6, .int x6), (7, .int x7)] [] _ 0 0 122 (Nat.le_refl _) (Nat.le_refl _) (Nat.le_of_ble_eq_true rfl) (lvR_mk [2, 4, 7] [0, 2, 4, 6, 7] rfl rfl (by decide) (by decide) (List.forall_mem_cons.mpr ⟨(List.mem_cons_of_mem _ List.mem_cons_self), (List.forall_mem_cons.mpr ⟨(List.mem_cons_of_mem _ (List.mem_cons_of_mem _ List.mem_cons_self)), (List.forall_mem_cons.mpr ⟨(List.mem_cons_of_mem _ (List.mem_cons_of_mem _ (List.mem_cons_of_mem _ (List.mem_cons_of_mem _ List.mem_cons_self)))), (fun _ h => nomatch h)⟩)⟩)⟩) (List.forall_mem_cons.mpr ⟨Or.inr rfl, (List.forall_mem_cons.mpr ⟨Or.inl List.mem_cons_self, (List.forall_mem_cons.mpr ⟨Or.inl (List.mem_cons_of_mem _ List.mem_cons_self), (List.forall_mem_cons.mpr ⟨Or.inr rfl, (List.forall_mem_cons.mpr ⟨Or.inl (List.mem_cons_of_mem _ (List.mem_cons_of_mem _ List.mem_cons_self)), (fun _ h => nomatch h)⟩)⟩)⟩)⟩)⟩)) h
  · obtain ⟨f, h⟩ := h2 hc
    refine ⟨f + 2, ?_⟩
    rw [key, if_neg hc]
    exact h
set_option maxRecDepth 100000 in
set_option maxHeartbeats 4000000 in
theorem bk_384_117 {b : Bool} {d : Nat} {x2 x4 x6 x7 : Int32} {e : Nat → x_E} {g : Nat → Int32} {q : Nat → Int64} {c : Nat → Nat → Int32} {l : Nat → Nat → Int64} {g' : Nat → Int32} {q' : Nat → Int64} {c' : Nat → Nat → Int32} {l' : Nat → Nat → Int64} {v : Int32} {R : Option Value × List x_E} (hc : rr b e d 367 0 [(0, .ref 49), (1, .int x4), (2, .int x7)] [] g q c l (some (.int v), rH e g' q' c' l')) (h : rr b e (d + 1) 384 125 [(0, .ref 49), (2, .int x2), (4, .int x4), (6, .int x6), (7, .int x7)] [.int v] g' q' c' l' R) : rr b e (d + 1) 384 117 [(0, .ref 49), (2, .int x2), (4, .int x4), (6, .int x6), (7, .int x7)] [] g q c l R := by
  obtain ⟨f1, hc⟩ := hc
  obtain ⟨f2, h⟩ := h
  obtain ⟨f, hf1, hf2⟩ : ∃ f, f1 ≤ f ∧ f2 ≤ f := ⟨max f1 f2, Nat.le_max_left _ _, Nat.le_max_right _ _⟩
  have hc := nrun_fuel f1 f _ _ _ _ _ _ _ _ _ hf1 hc
  have h := nrun_fuel f2 f _ _ _ _ _ _ _ _ _ hf2 h
  refine ⟨f + 4, ?_⟩
  obtain ⟨y, cb, hj⟩ := mq_384
  rw [n_step (st' := [.ref 49]) (pc' := 118) (lv' := [(0, .ref 49), (2, .int x2), (4, .int x4), (6, .int x6), (7, .int x7)]) (hp' := rH e g q c l) (i := .aload_n 0) (len := 1) rfl hj rfl rfl rfl]
  rw [n_step (st' := [.int x4, .ref 49]) (pc' := 120) (lv' := [(0, .ref 49), (2, .int x2), (4, .int x4), (6, .int x6), (7, .int x7)]) (hp' := rH e g q c l) (i := .iload 4) (len := 2) rfl hj rfl rfl rfl]
  rw [n_step (st' := [.int x7, .int x4, .ref 49]) (pc' := 122) (lv' := [(0, .ref 49), (2, .int x2), (4, .int x4), (6, .int x6), (7, .int x7)]) (hp' := rH e g q c l) (i := .iload 7) (len := 2) rfl hj rfl rfl rfl]
  obtain ⟨y2, cb2, hj2⟩ := mq_367
  rw [n_call (f := f) (d := d) (ki := 0) (idx := 486) (j' := 367) (kd := 0) (M' := (y2, cb2, 4, some .boolean, 12, 2, 0, 0)) (avs := [.ref 49, .int x4, .int x7]) (r := []) (rv := some (.int v)) (hp1 := rH e g' q' c' l') rfl hj rfl rfl rfl rfl (rq_n rfl rfl hj2 rfl rfl) rfl hc (Nat.le_of_ble_eq_true rfl)]
  exact h
set_option maxRecDepth 100000 in
set_option maxHeartbeats 4000000 in
theorem bk_384_125 {b : Bool} {d : Nat} {t0 x2 x4 x6 x7 : Int32} {e : Nat → x_E} {g : Nat → Int32} {q : Nat → Int64} {c : Nat → Nat → Int32} {l : Nat → Nat → Int64} {R : Option Value × List x_E} (h1 : xCn .ne t0 0 = true → rr b e d 384 137 [(2, .int x2), (4, .int x4), (7, .int x7)] [] g q c l R) (h2 : ¬ xCn .ne t0 0 = true → rr b e d 384 128 [(0, .ref 49), (6, .int x6)] [] g q c l R) : rr b e d 384 125 [(0, .ref 49), (2, .int x2), (4, .int x4), (6, .int x6), (7, .int x7)] [.int t0] g q c l R := by
  have key : ∀ f, nrun xZ (xY (xfm b)) xDT (f + 1) d 384 125 [(0, .ref 49), (2, .int x2), (4, .int x4), (6, .int x6), (7, .int x7)] [.int t0] (rH e g q c l) 0 0 = nrun xZ (xY (xfm b)) xDT f d 384 (if xCn .ne t0 0 = true then 137 else 128) [(0, .ref 49), (2, .int x2), (4, .int x4), (6, .int x6), (7, .int x7)] [] (rH e g q c l) 0 0 := by
    intro f
    obtain ⟨y, cb, hj⟩ := mq_384
    rw [n_step (st' := []) (pc' := (if xCn .ne t0 0 = true then 137 else 128)) (lv' := [(0, .ref 49), (2, .int x2), (4, .int x4), (6, .int x6), (7, .int x7)]) (hp' := rH e g q c l) (i := .ifCond .ne 12) (len := 3) rfl hj rfl rfl rfl]
  by_cases hc : xCn .ne t0 0 = true
  · obtain ⟨f, h⟩ := h1 hc
    refine ⟨f + 1, ?_⟩
    rw [key, if_pos hc]
    exact nrun_ext f f _ _ R 384 137 [(2, .int x2), (4, .int x4), (7, .int x7)] [(0, .ref 49), (2, .int x2), (4, .int x4), (6, .int x6), (7, .int x7)] [] _ 0 0 122 (Nat.le_refl _) (Nat.le_refl _) (Nat.le_of_ble_eq_true rfl) (lvR_mk [2, 4, 7] [0, 2, 4, 6, 7] rfl rfl (by decide) (by decide) (List.forall_mem_cons.mpr ⟨(List.mem_cons_of_mem _ List.mem_cons_self), (List.forall_mem_cons.mpr ⟨(List.mem_cons_of_mem _ (List.mem_cons_of_mem _ List.mem_cons_self)), (List.forall_mem_cons.mpr ⟨(List.mem_cons_of_mem _ (List.mem_cons_of_mem _ (List.mem_cons_of_mem _ (List.mem_cons_of_mem _ List.mem_cons_self)))), (fun _ h => nomatch h)⟩)⟩)⟩) (List.forall_mem_cons.mpr ⟨Or.inr rfl, (List.forall_mem_cons.mpr ⟨Or.inl List.mem_cons_self, (List.forall_mem_cons.mpr ⟨Or.inl (List.mem_cons_of_mem _ List.mem_cons_self), (List.forall_mem_cons.mpr ⟨Or.inr rfl, (List.forall_mem_cons.mpr ⟨Or.inl (List.mem_cons_of_mem _ (List.mem_cons_of_mem _ List.mem_cons_self)), (fun _ h => nomatch h)⟩)⟩)⟩)⟩)⟩)) h
  · obtain ⟨f, h⟩ := h2 hc
    refine ⟨f + 1, ?_⟩
    rw [key, if_neg hc]
    exact nrun_ext f f _ _ R 384 128 [(0, .ref 49), (6, .int x6)] [(0, .ref 49), (2, .int x2), (4, .int x4), (6, .int x6), (7, .int x7)] [] _ 0 0 122 (Nat.le_refl _) (Nat.le_refl _) (Nat.le_of_ble_eq_true rfl) (lvR_mk [0, 6] [0, 2, 4, 6, 7] rfl rfl (by decide) (by decide) (List.forall_mem_cons.mpr ⟨List.mem_cons_self, (List.forall_mem_cons.mpr ⟨(List.mem_cons_of_mem _ (List.mem_cons_of_mem _ (List.mem_cons_of_mem _ List.mem_cons_self))), (fun _ h => nomatch h)⟩)⟩) (List.forall_mem_cons.mpr ⟨Or.inl List.mem_cons_self, (List.forall_mem_cons.mpr ⟨Or.inr rfl, (List.forall_mem_cons.mpr ⟨Or.inr rfl, (List.forall_mem_cons.mpr ⟨Or.inl (List.mem_cons_of_mem _ List.mem_cons_self), (List.forall_mem_cons.mpr ⟨Or.inr rfl, (fun _ h => nomatch h)⟩)⟩)⟩)⟩)⟩)) h
set_option maxRecDepth 100000 in
set_option maxHeartbeats 4000000 in
theorem bk_384_128 {b : Bool} {d : Nat} {x6 : Int32} {e : Nat → x_E} {g : Nat → Int32} {q : Nat → Int64} {c : Nat → Nat → Int32} {l : Nat → Nat → Int64} {g' : Nat → Int32} {q' : Nat → Int64} {c' : Nat → Nat → Int32} {l' : Nat → Nat → Int64} {R : Option Value × List x_E} (hc : rr b e d 349 0 [(0, .ref 49), (1, .int (Int32.ofInt (4))), (2, .int x6)] [] g q c l (none, rH e g' q' c' l')) (h : rr b e (d + 1) 384 135 [] [] g' q' c' l' R) : rr b e (d + 1) 384 128 [(0, .ref 49), (6, .int x6)] [] g q c l R := by
  obtain ⟨f1, hc⟩ := hc
  obtain ⟨f2, h⟩ := h
  obtain ⟨f, hf1, hf2⟩ : ∃ f, f1 ≤ f ∧ f2 ≤ f := ⟨max f1 f2, Nat.le_max_left _ _, Nat.le_max_right _ _⟩
  have hc := nrun_fuel f1 f _ _ _ _ _ _ _ _ _ hf1 hc
  have h := nrun_fuel f2 f _ _ _ _ _ _ _ _ _ hf2 h
  refine ⟨f + 4, ?_⟩
  obtain ⟨y, cb, hj⟩ := mq_384
  rw [n_step (st' := [.ref 49]) (pc' := 129) (lv' := [(0, .ref 49), (6, .int x6)]) (hp' := rH e g q c l) (i := .aload_n 0) (len := 1) rfl hj rfl rfl rfl]
  rw [n_step (st' := [.int (Int32.ofInt (4)), .ref 49]) (pc' := 130) (lv' := [(0, .ref 49), (6, .int x6)]) (hp' := rH e g q c l) (i := .iconst 4) (len := 1) rfl hj rfl rfl rfl]
  rw [n_step (st' := [.int x6, .int (Int32.ofInt (4)), .ref 49]) (pc' := 132) (lv' := [(0, .ref 49), (6, .int x6)]) (hp' := rH e g q c l) (i := .iload 6) (len := 2) rfl hj rfl rfl rfl]
  obtain ⟨y2, cb2, hj2⟩ := mq_349
  rw [n_call (f := f) (d := d) (ki := 0) (idx := 427) (j' := 349) (kd := 0) (M' := (y2, cb2, 3, none, 12, 2, 0, 0)) (avs := [.ref 49, .int (Int32.ofInt (4)), .int x6]) (r := []) (rv := none) (hp1 := rH e g' q' c' l') rfl hj rfl rfl rfl rfl (rq_n rfl rfl hj2 rfl rfl) rfl hc (Nat.le_of_ble_eq_true rfl)]
  exact nrun_ext f f _ _ R 384 135 [] [(0, .ref 49), (6, .int x6)] [] _ 0 0 122 (Nat.le_refl _) (Nat.le_refl _) (Nat.le_of_ble_eq_true rfl) (lvR_mk [] [0, 6] rfl rfl (by decide) (by decide) (fun _ h => nomatch h) (List.forall_mem_cons.mpr ⟨Or.inr rfl, (List.forall_mem_cons.mpr ⟨Or.inr rfl, (fun _ h => nomatch h)⟩)⟩)) h
set_option maxRecDepth 100000 in
set_option maxHeartbeats 4000000 in
theorem bk_384_135 {b : Bool} {d : Nat} {e : Nat → x_E} {g : Nat → Int32} {q : Nat → Int64} {c : Nat → Nat → Int32} {l : Nat → Nat → Int64} : rr b e d 384 135 [] [] g q c l (some (.int (Int32.ofInt (-1))), rH e g q c l) := by
  refine ⟨0 + 2, ?_⟩
  obtain ⟨y, cb, hj⟩ := mq_384
  rw [n_step (st' := [.int (Int32.ofInt (-1))]) (pc' := 136) (lv' := []) (hp' := rH e g q c l) (i := .iconst (-1)) (len := 1) rfl hj rfl rfl rfl]
  exact n_ret rfl hj rfl rfl (x_ret rfl)
set_option maxRecDepth 100000 in
set_option maxHeartbeats 4000000 in
theorem bk_384_137 {b : Bool} {d : Nat} {x2 x4 x7 : Int32} {e : Nat → x_E} {g : Nat → Int32} {q : Nat → Int64} {c : Nat → Nat → Int32} {l : Nat → Nat → Int64} {R : Option Value × List x_E} (h1 : xCn .eq x2 0 = true → rr b e d 384 156 [] [] g q c l R) (h2 : ¬ xCn .eq x2 0 = true → rr b e d 384 141 [(4, .int x4), (7, .int x7)] [] g q c l R) : rr b e d 384 137 [(2, .int x2), (4, .int x4), (7, .int x7)] [] g q c l R := by
  have key : ∀ f, nrun xZ (xY (xfm b)) xDT (f + 2) d 384 137 [(2, .int x2), (4, .int x4), (7, .int x7)] [] (rH e g q c l) 0 0 = nrun xZ (xY (xfm b)) xDT f d 384 (if xCn .eq x2 0 = true then 156 else 141) [(2, .int x2), (4, .int x4), (7, .int x7)] [] (rH e g q c l) 0 0 := by
    intro f
    obtain ⟨y, cb, hj⟩ := mq_384
    rw [n_step (st' := [.int x2]) (pc' := 138) (lv' := [(2, .int x2), (4, .int x4), (7, .int x7)]) (hp' := rH e g q c l) (i := .iload_n 2) (len := 1) rfl hj rfl rfl rfl]
    rw [n_step (st' := []) (pc' := (if xCn .eq x2 0 = true then 156 else 141)) (lv' := [(2, .int x2), (4, .int x4), (7, .int x7)]) (hp' := rH e g q c l) (i := .ifCond .eq 18) (len := 3) rfl hj rfl rfl rfl]
  by_cases hc : xCn .eq x2 0 = true
  · obtain ⟨f, h⟩ := h1 hc
    refine ⟨f + 2, ?_⟩
    rw [key, if_pos hc]
    exact nrun_ext f f _ _ R 384 156 [] [(2, .int x2), (4, .int x4), (7, .int x7)] [] _ 0 0 122 (Nat.le_refl _) (Nat.le_refl _) (Nat.le_of_ble_eq_true rfl) (lvR_mk [] [2, 4, 7] rfl rfl (by decide) (by decide) (fun _ h => nomatch h) (List.forall_mem_cons.mpr ⟨Or.inr rfl, (List.forall_mem_cons.mpr ⟨Or.inr rfl, (List.forall_mem_cons.mpr ⟨Or.inr rfl, (fun _ h => nomatch h)⟩)⟩)⟩)) h
  · obtain ⟨f, h⟩ := h2 hc
    refine ⟨f + 2, ?_⟩
    rw [key, if_neg hc]
    exact nrun_ext f f _ _ R 384 141 [(4, .int x4), (7, .int x7)] [(2, .int x2), (4, .int x4), (7, .int x7)] [] _ 0 0 122 (Nat.le_refl _) (Nat.le_refl _) (Nat.le_of_ble_eq_true rfl) (lvR_mk [4, 7] [2, 4, 7] rfl rfl (by decide) (by decide) (List.forall_mem_cons.mpr ⟨(List.mem_cons_of_mem _ List.mem_cons_self), (List.forall_mem_cons.mpr ⟨(List.mem_cons_of_mem _ (List.mem_cons_of_mem _ List.mem_cons_self)), (fun _ h => nomatch h)⟩)⟩) (List.forall_mem_cons.mpr ⟨Or.inr rfl, (List.forall_mem_cons.mpr ⟨Or.inl List.mem_cons_self, (List.forall_mem_cons.mpr ⟨Or.inl (List.mem_cons_of_mem _ List.mem_cons_self), (fun _ h => nomatch h)⟩)⟩)⟩)) h
set_option maxRecDepth 100000 in
set_option maxHeartbeats 4000000 in
theorem bk_384_141 {b : Bool} {d : Nat} {x4 x7 : Int32} {e : Nat → x_E} {g : Nat → Int32} {q : Nat → Int64} {c : Nat → Nat → Int32} {l : Nat → Nat → Int64} {R : Option Value × List x_E} (h1 : xCn .lt x4 0 = true → rr b e d 384 156 [] [] g q c l R) (h2 : ¬ xCn .lt x4 0 = true → rr b e d 384 146 [(4, .int x4), (7, .int x7)] [] g q c l R) : rr b e d 384 141 [(4, .int x4), (7, .int x7)] [] g q c l R := by
  have key : ∀ f, nrun xZ (xY (xfm b)) xDT (f + 2) d 384 141 [(4, .int x4), (7, .int x7)] [] (rH e g q c l) 0 0 = nrun xZ (xY (xfm b)) xDT f d 384 (if xCn .lt x4 0 = true then 156 else 146) [(4, .int x4), (7, .int x7)] [] (rH e g q c l) 0 0 := by
    intro f
    obtain ⟨y, cb, hj⟩ := mq_384
    rw [n_step (st' := [.int x4]) (pc' := 143) (lv' := [(4, .int x4), (7, .int x7)]) (hp' := rH e g q c l) (i := .iload 4) (len := 2) rfl hj rfl rfl rfl]
    rw [n_step (st' := []) (pc' := (if xCn .lt x4 0 = true then 156 else 146)) (lv' := [(4, .int x4), (7, .int x7)]) (hp' := rH e g q c l) (i := .ifCond .lt 13) (len := 3) rfl hj rfl rfl rfl]
  by_cases hc : xCn .lt x4 0 = true
  · obtain ⟨f, h⟩ := h1 hc
    refine ⟨f + 2, ?_⟩
    rw [key, if_pos hc]
    exact nrun_ext f f _ _ R 384 156 [] [(4, .int x4), (7, .int x7)] [] _ 0 0 122 (Nat.le_refl _) (Nat.le_refl _) (Nat.le_of_ble_eq_true rfl) (lvR_mk [] [4, 7] rfl rfl (by decide) (by decide) (fun _ h => nomatch h) (List.forall_mem_cons.mpr ⟨Or.inr rfl, (List.forall_mem_cons.mpr ⟨Or.inr rfl, (fun _ h => nomatch h)⟩)⟩)) h
  · obtain ⟨f, h⟩ := h2 hc
    refine ⟨f + 2, ?_⟩
    rw [key, if_neg hc]
    exact h
set_option maxRecDepth 100000 in
set_option maxHeartbeats 4000000 in
theorem bk_384_146 {b : Bool} {d : Nat} {x4 x7 : Int32} {e : Nat → x_E} {g : Nat → Int32} {q : Nat → Int64} {c : Nat → Nat → Int32} {l : Nat → Nat → Int64} {R : Option Value × List x_E} (h1 : xCn .lt x7 0 = true → rr b e d 384 156 [] [] g q c l R) (h2 : ¬ xCn .lt x7 0 = true → rr b e d 384 151 [(4, .int x4)] [] g q c l R) : rr b e d 384 146 [(4, .int x4), (7, .int x7)] [] g q c l R := by
  have key : ∀ f, nrun xZ (xY (xfm b)) xDT (f + 2) d 384 146 [(4, .int x4), (7, .int x7)] [] (rH e g q c l) 0 0 = nrun xZ (xY (xfm b)) xDT f d 384 (if xCn .lt x7 0 = true then 156 else 151) [(4, .int x4), (7, .int x7)] [] (rH e g q c l) 0 0 := by
    intro f
    obtain ⟨y, cb, hj⟩ := mq_384
    rw [n_step (st' := [.int x7]) (pc' := 148) (lv' := [(4, .int x4), (7, .int x7)]) (hp' := rH e g q c l) (i := .iload 7) (len := 2) rfl hj rfl rfl rfl]
    rw [n_step (st' := []) (pc' := (if xCn .lt x7 0 = true then 156 else 151)) (lv' := [(4, .int x4), (7, .int x7)]) (hp' := rH e g q c l) (i := .ifCond .lt 8) (len := 3) rfl hj rfl rfl rfl]
  by_cases hc : xCn .lt x7 0 = true
  · obtain ⟨f, h⟩ := h1 hc
    refine ⟨f + 2, ?_⟩
    rw [key, if_pos hc]
    exact nrun_ext f f _ _ R 384 156 [] [(4, .int x4), (7, .int x7)] [] _ 0 0 122 (Nat.le_refl _) (Nat.le_refl _) (Nat.le_of_ble_eq_true rfl) (lvR_mk [] [4, 7] rfl rfl (by decide) (by decide) (fun _ h => nomatch h) (List.forall_mem_cons.mpr ⟨Or.inr rfl, (List.forall_mem_cons.mpr ⟨Or.inr rfl, (fun _ h => nomatch h)⟩)⟩)) h
  · obtain ⟨f, h⟩ := h2 hc
    refine ⟨f + 2, ?_⟩
    rw [key, if_neg hc]
    exact nrun_ext f f _ _ R 384 151 [(4, .int x4)] [(4, .int x4), (7, .int x7)] [] _ 0 0 122 (Nat.le_refl _) (Nat.le_refl _) (Nat.le_of_ble_eq_true rfl) (lvR_mk [4] [4, 7] rfl rfl (by decide) (by decide) (List.forall_mem_cons.mpr ⟨List.mem_cons_self, (fun _ h => nomatch h)⟩) (List.forall_mem_cons.mpr ⟨Or.inl List.mem_cons_self, (List.forall_mem_cons.mpr ⟨Or.inr rfl, (fun _ h => nomatch h)⟩)⟩)) h
set_option maxRecDepth 100000 in
set_option maxHeartbeats 4000000 in
theorem bk_384_151 {b : Bool} {d : Nat} {x4 : Int32} {e : Nat → x_E} {g : Nat → Int32} {q : Nat → Int64} {c : Nat → Nat → Int32} {l : Nat → Nat → Int64} {R : Option Value × List x_E} (h : rr b e d 384 157 [] [.int x4] g q c l R) : rr b e d 384 151 [(4, .int x4)] [] g q c l R := by
  obtain ⟨f, h⟩ := h
  refine ⟨f + 2, ?_⟩
  obtain ⟨y, cb, hj⟩ := mq_384
  rw [n_step (st' := [.int x4]) (pc' := 153) (lv' := [(4, .int x4)]) (hp' := rH e g q c l) (i := .iload 4) (len := 2) rfl hj rfl rfl rfl]
  rw [n_step (st' := [.int x4]) (pc' := 157) (lv' := [(4, .int x4)]) (hp' := rH e g q c l) (i := .goto 4) (len := 3) rfl hj rfl rfl rfl]
  exact nrun_ext f f _ _ R 384 157 [] [(4, .int x4)] [.int x4] _ 0 0 122 (Nat.le_refl _) (Nat.le_refl _) (Nat.le_of_ble_eq_true rfl) (lvR_mk [] [4] rfl rfl (by decide) (by decide) (fun _ h => nomatch h) (List.forall_mem_cons.mpr ⟨Or.inr rfl, (fun _ h => nomatch h)⟩)) h
set_option maxRecDepth 100000 in
set_option maxHeartbeats 4000000 in
theorem bk_384_156 {b : Bool} {d : Nat} {e : Nat → x_E} {g : Nat → Int32} {q : Nat → Int64} {c : Nat → Nat → Int32} {l : Nat → Nat → Int64} {R : Option Value × List x_E} (h : rr b e d 384 157 [] [.int (Int32.ofInt (-1))] g q c l R) : rr b e d 384 156 [] [] g q c l R := by
  obtain ⟨f, h⟩ := h
  refine ⟨f + 1, ?_⟩
  obtain ⟨y, cb, hj⟩ := mq_384
  rw [n_step (st' := [.int (Int32.ofInt (-1))]) (pc' := 157) (lv' := []) (hp' := rH e g q c l) (i := .iconst (-1)) (len := 1) rfl hj rfl rfl rfl]
  exact h
set_option maxRecDepth 100000 in
set_option maxHeartbeats 4000000 in
theorem bk_384_157 {b : Bool} {d : Nat} {t0 : Int32} {e : Nat → x_E} {g : Nat → Int32} {q : Nat → Int64} {c : Nat → Nat → Int32} {l : Nat → Nat → Int64} : rr b e d 384 157 [] [.int t0] g q c l (some (.int t0), rH e g q c l) := by
  refine ⟨0 + 1, ?_⟩
  obtain ⟨y, cb, hj⟩ := mq_384
  exact n_ret rfl hj rfl rfl (x_ret rfl)
set_option maxRecDepth 100000 in
set_option maxHeartbeats 4000000 in
theorem bk_385_0 {b : Bool} {d : Nat} {x1 x2 : Int32} {e : Nat → x_E} {g : Nat → Int32} {q : Nat → Int64} {c : Nat → Nat → Int32} {l : Nat → Nat → Int64} {R : Option Value × List x_E} (h1 : xCn .ge x1 0 = true → rr b e d 385 6 [(0, .ref 49), (1, .int x1), (2, .int x2)] [] g q c l R) (h2 : ¬ xCn .ge x1 0 = true → rr b e d 385 4 [] [] g q c l R) : rr b e d 385 0 [(0, .ref 49), (1, .int x1), (2, .int x2)] [] g q c l R := by
  have key : ∀ f, nrun xZ (xY (xfm b)) xDT (f + 2) d 385 0 [(0, .ref 49), (1, .int x1), (2, .int x2)] [] (rH e g q c l) 0 0 = nrun xZ (xY (xfm b)) xDT f d 385 (if xCn .ge x1 0 = true then 6 else 4) [(0, .ref 49), (1, .int x1), (2, .int x2)] [] (rH e g q c l) 0 0 := by
    intro f
    obtain ⟨y, cb, hj⟩ := mq_385
    rw [n_step (st' := [.int x1]) (pc' := 1) (lv' := [(0, .ref 49), (1, .int x1), (2, .int x2)]) (hp' := rH e g q c l) (i := .iload_n 1) (len := 1) rfl hj rfl rfl rfl]
    rw [n_step (st' := []) (pc' := (if xCn .ge x1 0 = true then 6 else 4)) (lv' := [(0, .ref 49), (1, .int x1), (2, .int x2)]) (hp' := rH e g q c l) (i := .ifCond .ge 5) (len := 3) rfl hj rfl rfl rfl]
  by_cases hc : xCn .ge x1 0 = true
  · obtain ⟨f, h⟩ := h1 hc
    refine ⟨f + 2, ?_⟩
    rw [key, if_pos hc]
    exact h
  · obtain ⟨f, h⟩ := h2 hc
    refine ⟨f + 2, ?_⟩
    rw [key, if_neg hc]
    exact nrun_ext f f _ _ R 385 4 [] [(0, .ref 49), (1, .int x1), (2, .int x2)] [] _ 0 0 122 (Nat.le_refl _) (Nat.le_refl _) (Nat.le_of_ble_eq_true rfl) (lvR_mk [] [0, 1, 2] rfl rfl (by decide) (by decide) (fun _ h => nomatch h) (List.forall_mem_cons.mpr ⟨Or.inr rfl, (List.forall_mem_cons.mpr ⟨Or.inr rfl, (List.forall_mem_cons.mpr ⟨Or.inr rfl, (fun _ h => nomatch h)⟩)⟩)⟩)) h
set_option maxRecDepth 100000 in
set_option maxHeartbeats 4000000 in
theorem bk_385_4 {b : Bool} {d : Nat} {e : Nat → x_E} {g : Nat → Int32} {q : Nat → Int64} {c : Nat → Nat → Int32} {l : Nat → Nat → Int64} : rr b e d 385 4 [] [] g q c l (some (.int (Int32.ofInt (0))), rH e g q c l) := by
  refine ⟨0 + 2, ?_⟩
  obtain ⟨y, cb, hj⟩ := mq_385
  rw [n_step (st' := [.int (Int32.ofInt (0))]) (pc' := 5) (lv' := []) (hp' := rH e g q c l) (i := .iconst 0) (len := 1) rfl hj rfl rfl rfl]
  exact n_ret rfl hj rfl rfl (x_ret rfl)
set_option maxRecDepth 100000 in
set_option maxHeartbeats 4000000 in
theorem bk_385_6 {b : Bool} {d : Nat} {x1 x2 : Int32} {e : Nat → x_E} {g : Nat → Int32} {q : Nat → Int64} {c : Nat → Nat → Int32} {l : Nat → Nat → Int64} {g' : Nat → Int32} {q' : Nat → Int64} {c' : Nat → Nat → Int32} {l' : Nat → Nat → Int64} {v : Int32} {R : Option Value × List x_E} (hc : rr b e d 386 0 [(0, .ref 49), (1, .int x1)] [] g q c l (some (.int v), rH e g' q' c' l')) (h : rr b e (d + 1) 385 11 [(0, .ref 49), (1, .int x1), (2, .int x2)] [.int v] g' q' c' l' R) : rr b e (d + 1) 385 6 [(0, .ref 49), (1, .int x1), (2, .int x2)] [] g q c l R := by
  obtain ⟨f1, hc⟩ := hc
  obtain ⟨f2, h⟩ := h
  obtain ⟨f, hf1, hf2⟩ : ∃ f, f1 ≤ f ∧ f2 ≤ f := ⟨max f1 f2, Nat.le_max_left _ _, Nat.le_max_right _ _⟩
  have hc := nrun_fuel f1 f _ _ _ _ _ _ _ _ _ hf1 hc
  have h := nrun_fuel f2 f _ _ _ _ _ _ _ _ _ hf2 h
  refine ⟨f + 3, ?_⟩
  obtain ⟨y, cb, hj⟩ := mq_385
  rw [n_step (st' := [.ref 49]) (pc' := 7) (lv' := [(0, .ref 49), (1, .int x1), (2, .int x2)]) (hp' := rH e g q c l) (i := .aload_n 0) (len := 1) rfl hj rfl rfl rfl]
  rw [n_step (st' := [.int x1, .ref 49]) (pc' := 8) (lv' := [(0, .ref 49), (1, .int x1), (2, .int x2)]) (hp' := rH e g q c l) (i := .iload_n 1) (len := 1) rfl hj rfl rfl rfl]
  obtain ⟨y2, cb2, hj2⟩ := mq_386
  rw [n_call (f := f) (d := d) (ki := 0) (idx := 442) (j' := 386) (kd := 0) (M' := (y2, cb2, 2, some .boolean, 12, 1, 0, 0)) (avs := [.ref 49, .int x1]) (r := []) (rv := some (.int v)) (hp1 := rH e g' q' c' l') rfl hj rfl rfl rfl rfl (rq_n rfl rfl hj2 rfl rfl) rfl hc (Nat.le_of_ble_eq_true rfl)]
  exact h
set_option maxRecDepth 100000 in
set_option maxHeartbeats 4000000 in
theorem bk_385_11 {b : Bool} {d : Nat} {t0 x1 x2 : Int32} {e : Nat → x_E} {g : Nat → Int32} {q : Nat → Int64} {c : Nat → Nat → Int32} {l : Nat → Nat → Int64} {R : Option Value × List x_E} (h1 : xCn .ne t0 0 = true → rr b e d 385 20 [(0, .ref 49), (1, .int x1)] [] g q c l R) (h2 : ¬ xCn .ne t0 0 = true → rr b e d 385 14 [(0, .ref 49), (1, .int x1), (2, .int x2)] [] g q c l R) : rr b e d 385 11 [(0, .ref 49), (1, .int x1), (2, .int x2)] [.int t0] g q c l R := by
  have key : ∀ f, nrun xZ (xY (xfm b)) xDT (f + 1) d 385 11 [(0, .ref 49), (1, .int x1), (2, .int x2)] [.int t0] (rH e g q c l) 0 0 = nrun xZ (xY (xfm b)) xDT f d 385 (if xCn .ne t0 0 = true then 20 else 14) [(0, .ref 49), (1, .int x1), (2, .int x2)] [] (rH e g q c l) 0 0 := by
    intro f
    obtain ⟨y, cb, hj⟩ := mq_385
    rw [n_step (st' := []) (pc' := (if xCn .ne t0 0 = true then 20 else 14)) (lv' := [(0, .ref 49), (1, .int x1), (2, .int x2)]) (hp' := rH e g q c l) (i := .ifCond .ne 9) (len := 3) rfl hj rfl rfl rfl]
  by_cases hc : xCn .ne t0 0 = true
  · obtain ⟨f, h⟩ := h1 hc
    refine ⟨f + 1, ?_⟩
    rw [key, if_pos hc]
    exact nrun_ext f f _ _ R 385 20 [(0, .ref 49), (1, .int x1)] [(0, .ref 49), (1, .int x1), (2, .int x2)] [] _ 0 0 122 (Nat.le_refl _) (Nat.le_refl _) (Nat.le_of_ble_eq_true rfl) (lvR_mk [0, 1] [0, 1, 2] rfl rfl (by decide) (by decide) (List.forall_mem_cons.mpr ⟨List.mem_cons_self, (List.forall_mem_cons.mpr ⟨(List.mem_cons_of_mem _ List.mem_cons_self), (fun _ h => nomatch h)⟩)⟩) (List.forall_mem_cons.mpr ⟨Or.inl List.mem_cons_self, (List.forall_mem_cons.mpr ⟨Or.inl (List.mem_cons_of_mem _ List.mem_cons_self), (List.forall_mem_cons.mpr ⟨Or.inr rfl, (fun _ h => nomatch h)⟩)⟩)⟩)) h
  · obtain ⟨f, h⟩ := h2 hc
    refine ⟨f + 1, ?_⟩
    rw [key, if_neg hc]
    exact h
set_option maxRecDepth 100000 in
set_option maxHeartbeats 4000000 in
theorem bk_385_14 {b : Bool} {d : Nat} {x1 x2 : Int32} {e : Nat → x_E} {g : Nat → Int32} {q : Nat → Int64} {c : Nat → Nat → Int32} {l : Nat → Nat → Int64} {g' : Nat → Int32} {q' : Nat → Int64} {c' : Nat → Nat → Int32} {l' : Nat → Nat → Int64} {R : Option Value × List x_E} (hc : rr b e d 349 0 [(0, .ref 49), (1, .int (Int32.ofInt (4))), (2, .int x2)] [] g q c l (none, rH e g' q' c' l')) (h : rr b e (d + 1) 385 20 [(0, .ref 49), (1, .int x1)] [] g' q' c' l' R) : rr b e (d + 1) 385 14 [(0, .ref 49), (1, .int x1), (2, .int x2)] [] g q c l R := by
  obtain ⟨f1, hc⟩ := hc
  obtain ⟨f2, h⟩ := h
  obtain ⟨f, hf1, hf2⟩ : ∃ f, f1 ≤ f ∧ f2 ≤ f := ⟨max f1 f2, Nat.le_max_left _ _, Nat.le_max_right _ _⟩
  have hc := nrun_fuel f1 f _ _ _ _ _ _ _ _ _ hf1 hc
  have h := nrun_fuel f2 f _ _ _ _ _ _ _ _ _ hf2 h
  refine ⟨f + 4, ?_⟩
  obtain ⟨y, cb, hj⟩ := mq_385
  rw [n_step (st' := [.ref 49]) (pc' := 15) (lv' := [(0, .ref 49), (1, .int x1), (2, .int x2)]) (hp' := rH e g q c l) (i := .aload_n 0) (len := 1) rfl hj rfl rfl rfl]
  rw [n_step (st' := [.int (Int32.ofInt (4)), .ref 49]) (pc' := 16) (lv' := [(0, .ref 49), (1, .int x1), (2, .int x2)]) (hp' := rH e g q c l) (i := .iconst 4) (len := 1) rfl hj rfl rfl rfl]
  rw [n_step (st' := [.int x2, .int (Int32.ofInt (4)), .ref 49]) (pc' := 17) (lv' := [(0, .ref 49), (1, .int x1), (2, .int x2)]) (hp' := rH e g q c l) (i := .iload_n 2) (len := 1) rfl hj rfl rfl rfl]
  obtain ⟨y2, cb2, hj2⟩ := mq_349
  rw [n_call (f := f) (d := d) (ki := 0) (idx := 427) (j' := 349) (kd := 0) (M' := (y2, cb2, 3, none, 12, 2, 0, 0)) (avs := [.ref 49, .int (Int32.ofInt (4)), .int x2]) (r := []) (rv := none) (hp1 := rH e g' q' c' l') rfl hj rfl rfl rfl rfl (rq_n rfl rfl hj2 rfl rfl) rfl hc (Nat.le_of_ble_eq_true rfl)]
  exact nrun_ext f f _ _ R 385 20 [(0, .ref 49), (1, .int x1)] [(0, .ref 49), (1, .int x1), (2, .int x2)] [] _ 0 0 122 (Nat.le_refl _) (Nat.le_refl _) (Nat.le_of_ble_eq_true rfl) (lvR_mk [0, 1] [0, 1, 2] rfl rfl (by decide) (by decide) (List.forall_mem_cons.mpr ⟨List.mem_cons_self, (List.forall_mem_cons.mpr ⟨(List.mem_cons_of_mem _ List.mem_cons_self), (fun _ h => nomatch h)⟩)⟩) (List.forall_mem_cons.mpr ⟨Or.inl List.mem_cons_self, (List.forall_mem_cons.mpr ⟨Or.inl (List.mem_cons_of_mem _ List.mem_cons_self), (List.forall_mem_cons.mpr ⟨Or.inr rfl, (fun _ h => nomatch h)⟩)⟩)⟩)) h
set_option maxRecDepth 100000 in
set_option maxHeartbeats 4000000 in
theorem bk_385_20 {b : Bool} {d : Nat} {x1 : Int32} {e : Nat → x_E} {g : Nat → Int32} {q : Nat → Int64} {c : Nat → Nat → Int32} {l : Nat → Nat → Int64} {g' : Nat → Int32} {q' : Nat → Int64} {c' : Nat → Nat → Int32} {l' : Nat → Nat → Int64} {v : Int32} {R : Option Value × List x_E} (hc : rr b e d 386 0 [(0, .ref 49), (1, .int x1)] [] g q c l (some (.int v), rH e g' q' c' l')) (h : rr b e (d + 1) 385 25 [] [.int v] g' q' c' l' R) : rr b e (d + 1) 385 20 [(0, .ref 49), (1, .int x1)] [] g q c l R := by
  obtain ⟨f1, hc⟩ := hc
  obtain ⟨f2, h⟩ := h
  obtain ⟨f, hf1, hf2⟩ : ∃ f, f1 ≤ f ∧ f2 ≤ f := ⟨max f1 f2, Nat.le_max_left _ _, Nat.le_max_right _ _⟩
  have hc := nrun_fuel f1 f _ _ _ _ _ _ _ _ _ hf1 hc
  have h := nrun_fuel f2 f _ _ _ _ _ _ _ _ _ hf2 h
  refine ⟨f + 3, ?_⟩
  obtain ⟨y, cb, hj⟩ := mq_385
  rw [n_step (st' := [.ref 49]) (pc' := 21) (lv' := [(0, .ref 49), (1, .int x1)]) (hp' := rH e g q c l) (i := .aload_n 0) (len := 1) rfl hj rfl rfl rfl]
  rw [n_step (st' := [.int x1, .ref 49]) (pc' := 22) (lv' := [(0, .ref 49), (1, .int x1)]) (hp' := rH e g q c l) (i := .iload_n 1) (len := 1) rfl hj rfl rfl rfl]
  obtain ⟨y2, cb2, hj2⟩ := mq_386
  rw [n_call (f := f) (d := d) (ki := 0) (idx := 442) (j' := 386) (kd := 0) (M' := (y2, cb2, 2, some .boolean, 12, 1, 0, 0)) (avs := [.ref 49, .int x1]) (r := []) (rv := some (.int v)) (hp1 := rH e g' q' c' l') rfl hj rfl rfl rfl rfl (rq_n rfl rfl hj2 rfl rfl) rfl hc (Nat.le_of_ble_eq_true rfl)]
  exact nrun_ext f f _ _ R 385 25 [] [(0, .ref 49), (1, .int x1)] [.int v] _ 0 0 122 (Nat.le_refl _) (Nat.le_refl _) (Nat.le_of_ble_eq_true rfl) (lvR_mk [] [0, 1] rfl rfl (by decide) (by decide) (fun _ h => nomatch h) (List.forall_mem_cons.mpr ⟨Or.inr rfl, (List.forall_mem_cons.mpr ⟨Or.inr rfl, (fun _ h => nomatch h)⟩)⟩)) h
set_option maxRecDepth 100000 in
set_option maxHeartbeats 4000000 in
theorem bk_385_25 {b : Bool} {d : Nat} {t0 : Int32} {e : Nat → x_E} {g : Nat → Int32} {q : Nat → Int64} {c : Nat → Nat → Int32} {l : Nat → Nat → Int64} (hv : t0 = 0 ∨ t0 = 1) : rr b e d 385 25 [] [.int t0] g q c l (some (.int t0), rH e g q c l) := by
  refine ⟨0 + 1, ?_⟩
  obtain ⟨y, cb, hj⟩ := mq_385
  exact n_ret rfl hj rfl rfl (x_ret (nb_01 hv))
set_option maxRecDepth 100000 in
set_option maxHeartbeats 4000000 in
theorem bk_386_0 {b : Bool} {d : Nat} {x1 : Int32} {e : Nat → x_E} {g : Nat → Int32} {q : Nat → Int64} {c : Nat → Nat → Int32} {l : Nat → Nat → Int64} {R : Option Value × List x_E} (h1 : xCn .lt x1 0 = true → rr b e d 386 26 [] [] g q c l R) (h2 : ¬ xCn .lt x1 0 = true → rr b e d 386 4 [(0, .ref 49), (1, .int x1)] [] g q c l R) : rr b e d 386 0 [(0, .ref 49), (1, .int x1)] [] g q c l R := by
  have key : ∀ f, nrun xZ (xY (xfm b)) xDT (f + 2) d 386 0 [(0, .ref 49), (1, .int x1)] [] (rH e g q c l) 0 0 = nrun xZ (xY (xfm b)) xDT f d 386 (if xCn .lt x1 0 = true then 26 else 4) [(0, .ref 49), (1, .int x1)] [] (rH e g q c l) 0 0 := by
    intro f
    obtain ⟨y, cb, hj⟩ := mq_386
    rw [n_step (st' := [.int x1]) (pc' := 1) (lv' := [(0, .ref 49), (1, .int x1)]) (hp' := rH e g q c l) (i := .iload_n 1) (len := 1) rfl hj rfl rfl rfl]
    rw [n_step (st' := []) (pc' := (if xCn .lt x1 0 = true then 26 else 4)) (lv' := [(0, .ref 49), (1, .int x1)]) (hp' := rH e g q c l) (i := .ifCond .lt 25) (len := 3) rfl hj rfl rfl rfl]
  by_cases hc : xCn .lt x1 0 = true
  · obtain ⟨f, h⟩ := h1 hc
    refine ⟨f + 2, ?_⟩
    rw [key, if_pos hc]
    exact nrun_ext f f _ _ R 386 26 [] [(0, .ref 49), (1, .int x1)] [] _ 0 0 122 (Nat.le_refl _) (Nat.le_refl _) (Nat.le_of_ble_eq_true rfl) (lvR_mk [] [0, 1] rfl rfl (by decide) (by decide) (fun _ h => nomatch h) (List.forall_mem_cons.mpr ⟨Or.inr rfl, (List.forall_mem_cons.mpr ⟨Or.inr rfl, (fun _ h => nomatch h)⟩)⟩)) h
  · obtain ⟨f, h⟩ := h2 hc
    refine ⟨f + 2, ?_⟩
    rw [key, if_neg hc]
    exact h
set_option maxRecDepth 100000 in
set_option maxHeartbeats 4000000 in
theorem bk_386_4 {b : Bool} {d : Nat} {x1 : Int32} {e : Nat → x_E} {g : Nat → Int32} {q : Nat → Int64} {c : Nat → Nat → Int32} {l : Nat → Nat → Int64} {R : Option Value × List x_E} (hz0 : ¬ (x1 < 0 ∨ 1300 ≤ (x1).toNatClampNeg)) (h1 : xCn .ne ((c 57 (x1).toNatClampNeg)) ((Int32.ofInt (1))) = true → rr b e d 386 26 [] [] g q c l R) (h2 : ¬ xCn .ne ((c 57 (x1).toNatClampNeg)) ((Int32.ofInt (1))) = true → rr b e d 386 14 [(0, .ref 49), (1, .int x1)] [] g q c l R) : rr b e d 386 4 [(0, .ref 49), (1, .int x1)] [] g q c l R := by
  have key : ∀ f, nrun xZ (xY (xfm b)) xDT (f + 6) d 386 4 [(0, .ref 49), (1, .int x1)] [] (rH e g q c l) 0 0 = nrun xZ (xY (xfm b)) xDT f d 386 (if xCn .ne ((c 57 (x1).toNatClampNeg)) ((Int32.ofInt (1))) = true then 26 else 14) [(0, .ref 49), (1, .int x1)] [] (rH e g q c l) 0 0 := by
    intro f
    obtain ⟨y, cb, hj⟩ := mq_386
    rw [n_step (st' := [.ref 49]) (pc' := 5) (lv' := [(0, .ref 49), (1, .int x1)]) (hp' := rH e g q c l) (i := .aload_n 0) (len := 1) rfl hj rfl rfl rfl]
    rw [n_get (st' := [.ref 57]) (pc' := 8) (lv' := [(0, .ref 49), (1, .int x1)]) (hp' := rH e g q c l) (i := .getfield 37) (len := 3) rfl hj rfl rfl rfl rfl]
    rw [n_step (st' := [.int x1, .ref 57]) (pc' := 9) (lv' := [(0, .ref 49), (1, .int x1)]) (hp' := rH e g q c l) (i := .iload_n 1) (len := 1) rfl hj rfl rfl rfl]
    rw [n_ial (st' := [.int (c 57 (x1).toNatClampNeg)]) rfl hj (ald_57 hz0)]
    rw [n_step (st' := [.int (Int32.ofInt (1)), .int (c 57 (x1).toNatClampNeg)]) (pc' := 11) (lv' := [(0, .ref 49), (1, .int x1)]) (hp' := rH e g q c l) (i := .iconst 1) (len := 1) rfl hj rfl rfl rfl]
    rw [n_step (st' := []) (pc' := (if xCn .ne ((c 57 (x1).toNatClampNeg)) ((Int32.ofInt (1))) = true then 26 else 14)) (lv' := [(0, .ref 49), (1, .int x1)]) (hp' := rH e g q c l) (i := .if_icmp .ne 15) (len := 3) rfl hj rfl rfl rfl]
  by_cases hc : xCn .ne ((c 57 (x1).toNatClampNeg)) ((Int32.ofInt (1))) = true
  · obtain ⟨f, h⟩ := h1 hc
    refine ⟨f + 6, ?_⟩
    rw [key, if_pos hc]
    exact nrun_ext f f _ _ R 386 26 [] [(0, .ref 49), (1, .int x1)] [] _ 0 0 122 (Nat.le_refl _) (Nat.le_refl _) (Nat.le_of_ble_eq_true rfl) (lvR_mk [] [0, 1] rfl rfl (by decide) (by decide) (fun _ h => nomatch h) (List.forall_mem_cons.mpr ⟨Or.inr rfl, (List.forall_mem_cons.mpr ⟨Or.inr rfl, (fun _ h => nomatch h)⟩)⟩)) h
  · obtain ⟨f, h⟩ := h2 hc
    refine ⟨f + 6, ?_⟩
    rw [key, if_neg hc]
    exact h
set_option maxRecDepth 100000 in
set_option maxHeartbeats 4000000 in
theorem bk_386_14 {b : Bool} {d : Nat} {x1 : Int32} {e : Nat → x_E} {g : Nat → Int32} {q : Nat → Int64} {c : Nat → Nat → Int32} {l : Nat → Nat → Int64} {g' : Nat → Int32} {q' : Nat → Int64} {c' : Nat → Nat → Int32} {l' : Nat → Nat → Int64} {v : Int32} {R : Option Value × List x_E} (hc : rr b e d 382 0 [(0, .ref 49), (1, .int x1)] [] g q c l (some (.int v), rH e g' q' c' l')) (h : rr b e (d + 1) 386 19 [] [.int v] g' q' c' l' R) : rr b e (d + 1) 386 14 [(0, .ref 49), (1, .int x1)] [] g q c l R := by
  obtain ⟨f1, hc⟩ := hc
  obtain ⟨f2, h⟩ := h
  obtain ⟨f, hf1, hf2⟩ : ∃ f, f1 ≤ f ∧ f2 ≤ f := ⟨max f1 f2, Nat.le_max_left _ _, Nat.le_max_right _ _⟩
  have hc := nrun_fuel f1 f _ _ _ _ _ _ _ _ _ hf1 hc
  have h := nrun_fuel f2 f _ _ _ _ _ _ _ _ _ hf2 h
  refine ⟨f + 3, ?_⟩
  obtain ⟨y, cb, hj⟩ := mq_386
  rw [n_step (st' := [.ref 49]) (pc' := 15) (lv' := [(0, .ref 49), (1, .int x1)]) (hp' := rH e g q c l) (i := .aload_n 0) (len := 1) rfl hj rfl rfl rfl]
  rw [n_step (st' := [.int x1, .ref 49]) (pc' := 16) (lv' := [(0, .ref 49), (1, .int x1)]) (hp' := rH e g q c l) (i := .iload_n 1) (len := 1) rfl hj rfl rfl rfl]
  obtain ⟨y2, cb2, hj2⟩ := mq_382
  rw [n_call (f := f) (d := d) (ki := 0) (idx := 439) (j' := 382) (kd := 0) (M' := (y2, cb2, 2, some .int, 12, 1, 0, 0)) (avs := [.ref 49, .int x1]) (r := []) (rv := some (.int v)) (hp1 := rH e g' q' c' l') rfl hj rfl rfl rfl rfl (rq_n rfl rfl hj2 rfl rfl) rfl hc (Nat.le_of_ble_eq_true rfl)]
  exact nrun_ext f f _ _ R 386 19 [] [(0, .ref 49), (1, .int x1)] [.int v] _ 0 0 122 (Nat.le_refl _) (Nat.le_refl _) (Nat.le_of_ble_eq_true rfl) (lvR_mk [] [0, 1] rfl rfl (by decide) (by decide) (fun _ h => nomatch h) (List.forall_mem_cons.mpr ⟨Or.inr rfl, (List.forall_mem_cons.mpr ⟨Or.inr rfl, (fun _ h => nomatch h)⟩)⟩)) h
set_option maxRecDepth 100000 in
set_option maxHeartbeats 4000000 in
theorem bk_386_19 {b : Bool} {d : Nat} {t0 : Int32} {e : Nat → x_E} {g : Nat → Int32} {q : Nat → Int64} {c : Nat → Nat → Int32} {l : Nat → Nat → Int64} {R : Option Value × List x_E} (h1 : xCn .ne t0 0 = true → rr b e d 386 26 [] [] g q c l R) (h2 : ¬ xCn .ne t0 0 = true → rr b e d 386 22 [] [] g q c l R) : rr b e d 386 19 [] [.int t0] g q c l R := by
  have key : ∀ f, nrun xZ (xY (xfm b)) xDT (f + 1) d 386 19 [] [.int t0] (rH e g q c l) 0 0 = nrun xZ (xY (xfm b)) xDT f d 386 (if xCn .ne t0 0 = true then 26 else 22) [] [] (rH e g q c l) 0 0 := by
    intro f
    obtain ⟨y, cb, hj⟩ := mq_386
    rw [n_step (st' := []) (pc' := (if xCn .ne t0 0 = true then 26 else 22)) (lv' := []) (hp' := rH e g q c l) (i := .ifCond .ne 7) (len := 3) rfl hj rfl rfl rfl]
  by_cases hc : xCn .ne t0 0 = true
  · obtain ⟨f, h⟩ := h1 hc
    refine ⟨f + 1, ?_⟩
    rw [key, if_pos hc]
    exact h
  · obtain ⟨f, h⟩ := h2 hc
    refine ⟨f + 1, ?_⟩
    rw [key, if_neg hc]
    exact h
set_option maxRecDepth 100000 in
set_option maxHeartbeats 4000000 in
theorem bk_386_22 {b : Bool} {d : Nat} {e : Nat → x_E} {g : Nat → Int32} {q : Nat → Int64} {c : Nat → Nat → Int32} {l : Nat → Nat → Int64} {R : Option Value × List x_E} (h : rr b e d 386 27 [] [.int (Int32.ofInt (1))] g q c l R) : rr b e d 386 22 [] [] g q c l R := by
  obtain ⟨f, h⟩ := h
  refine ⟨f + 2, ?_⟩
  obtain ⟨y, cb, hj⟩ := mq_386
  rw [n_step (st' := [.int (Int32.ofInt (1))]) (pc' := 23) (lv' := []) (hp' := rH e g q c l) (i := .iconst 1) (len := 1) rfl hj rfl rfl rfl]
  rw [n_step (st' := [.int (Int32.ofInt (1))]) (pc' := 27) (lv' := []) (hp' := rH e g q c l) (i := .goto 4) (len := 3) rfl hj rfl rfl rfl]
  exact h
set_option maxRecDepth 100000 in
set_option maxHeartbeats 4000000 in
theorem bk_386_26 {b : Bool} {d : Nat} {e : Nat → x_E} {g : Nat → Int32} {q : Nat → Int64} {c : Nat → Nat → Int32} {l : Nat → Nat → Int64} {R : Option Value × List x_E} (h : rr b e d 386 27 [] [.int (Int32.ofInt (0))] g q c l R) : rr b e d 386 26 [] [] g q c l R := by
  obtain ⟨f, h⟩ := h
  refine ⟨f + 1, ?_⟩
  obtain ⟨y, cb, hj⟩ := mq_386
  rw [n_step (st' := [.int (Int32.ofInt (0))]) (pc' := 27) (lv' := []) (hp' := rH e g q c l) (i := .iconst 0) (len := 1) rfl hj rfl rfl rfl]
  exact h
set_option maxRecDepth 100000 in
set_option maxHeartbeats 4000000 in
theorem bk_386_27 {b : Bool} {d : Nat} {t0 : Int32} {e : Nat → x_E} {g : Nat → Int32} {q : Nat → Int64} {c : Nat → Nat → Int32} {l : Nat → Nat → Int64} (hv : t0 = 0 ∨ t0 = 1) : rr b e d 386 27 [] [.int t0] g q c l (some (.int t0), rH e g q c l) := by
  refine ⟨0 + 1, ?_⟩
  obtain ⟨y, cb, hj⟩ := mq_386
  exact n_ret rfl hj rfl rfl (x_ret (nb_01 hv))
set_option maxRecDepth 100000 in
set_option maxHeartbeats 4000000 in
theorem bk_387_0 {b : Bool} {d : Nat} {x1 x2 : Int32} {e : Nat → x_E} {g : Nat → Int32} {q : Nat → Int64} {c : Nat → Nat → Int32} {l : Nat → Nat → Int64} {R : Option Value × List x_E} (h1 : xCn .lt x1 0 = true → rr b e d 387 17 [(0, .ref 49), (1, .int x1), (2, .int x2)] [] g q c l R) (h2 : ¬ xCn .lt x1 0 = true → rr b e d 387 4 [(0, .ref 49), (1, .int x1), (2, .int x2)] [] g q c l R) : rr b e d 387 0 [(0, .ref 49), (1, .int x1), (2, .int x2)] [] g q c l R := by
  have key : ∀ f, nrun xZ (xY (xfm b)) xDT (f + 2) d 387 0 [(0, .ref 49), (1, .int x1), (2, .int x2)] [] (rH e g q c l) 0 0 = nrun xZ (xY (xfm b)) xDT f d 387 (if xCn .lt x1 0 = true then 17 else 4) [(0, .ref 49), (1, .int x1), (2, .int x2)] [] (rH e g q c l) 0 0 := by
    intro f
    obtain ⟨y, cb, hj⟩ := mq_387
    rw [n_step (st' := [.int x1]) (pc' := 1) (lv' := [(0, .ref 49), (1, .int x1), (2, .int x2)]) (hp' := rH e g q c l) (i := .iload_n 1) (len := 1) rfl hj rfl rfl rfl]
    rw [n_step (st' := []) (pc' := (if xCn .lt x1 0 = true then 17 else 4)) (lv' := [(0, .ref 49), (1, .int x1), (2, .int x2)]) (hp' := rH e g q c l) (i := .ifCond .lt 16) (len := 3) rfl hj rfl rfl rfl]
  by_cases hc : xCn .lt x1 0 = true
  · obtain ⟨f, h⟩ := h1 hc
    refine ⟨f + 2, ?_⟩
    rw [key, if_pos hc]
    exact h
  · obtain ⟨f, h⟩ := h2 hc
    refine ⟨f + 2, ?_⟩
    rw [key, if_neg hc]
    exact h
set_option maxRecDepth 100000 in
set_option maxHeartbeats 4000000 in
theorem bk_387_4 {b : Bool} {d : Nat} {x1 x2 : Int32} {e : Nat → x_E} {g : Nat → Int32} {q : Nat → Int64} {c : Nat → Nat → Int32} {l : Nat → Nat → Int64} {g' : Nat → Int32} {q' : Nat → Int64} {c' : Nat → Nat → Int32} {l' : Nat → Nat → Int64} {v : Int32} {R : Option Value × List x_E} (hc : rr b e d 382 0 [(0, .ref 49), (1, .int x1)] [] g q c l (some (.int v), rH e g' q' c' l')) (h : rr b e (d + 1) 387 9 [(0, .ref 49), (1, .int x1), (2, .int x2)] [.int v] g' q' c' l' R) : rr b e (d + 1) 387 4 [(0, .ref 49), (1, .int x1), (2, .int x2)] [] g q c l R := by
  obtain ⟨f1, hc⟩ := hc
  obtain ⟨f2, h⟩ := h
  obtain ⟨f, hf1, hf2⟩ : ∃ f, f1 ≤ f ∧ f2 ≤ f := ⟨max f1 f2, Nat.le_max_left _ _, Nat.le_max_right _ _⟩
  have hc := nrun_fuel f1 f _ _ _ _ _ _ _ _ _ hf1 hc
  have h := nrun_fuel f2 f _ _ _ _ _ _ _ _ _ hf2 h
  refine ⟨f + 3, ?_⟩
  obtain ⟨y, cb, hj⟩ := mq_387
  rw [n_step (st' := [.ref 49]) (pc' := 5) (lv' := [(0, .ref 49), (1, .int x1), (2, .int x2)]) (hp' := rH e g q c l) (i := .aload_n 0) (len := 1) rfl hj rfl rfl rfl]
  rw [n_step (st' := [.int x1, .ref 49]) (pc' := 6) (lv' := [(0, .ref 49), (1, .int x1), (2, .int x2)]) (hp' := rH e g q c l) (i := .iload_n 1) (len := 1) rfl hj rfl rfl rfl]
  obtain ⟨y2, cb2, hj2⟩ := mq_382
  rw [n_call (f := f) (d := d) (ki := 0) (idx := 439) (j' := 382) (kd := 0) (M' := (y2, cb2, 2, some .int, 12, 1, 0, 0)) (avs := [.ref 49, .int x1]) (r := []) (rv := some (.int v)) (hp1 := rH e g' q' c' l') rfl hj rfl rfl rfl rfl (rq_n rfl rfl hj2 rfl rfl) rfl hc (Nat.le_of_ble_eq_true rfl)]
  exact h
set_option maxRecDepth 100000 in
set_option maxHeartbeats 4000000 in
theorem bk_387_9 {b : Bool} {d : Nat} {t0 x1 x2 : Int32} {e : Nat → x_E} {g : Nat → Int32} {q : Nat → Int64} {c : Nat → Nat → Int32} {l : Nat → Nat → Int64} {R : Option Value × List x_E} (h1 : xCn .ne t0 ((Int32.ofInt (2))) = true → rr b e d 387 17 [(0, .ref 49), (1, .int x1), (2, .int x2)] [] g q c l R) (h2 : ¬ xCn .ne t0 ((Int32.ofInt (2))) = true → rr b e d 387 13 [(0, .ref 49), (1, .int x1), (2, .int x2)] [] g q c l R) : rr b e d 387 9 [(0, .ref 49), (1, .int x1), (2, .int x2)] [.int t0] g q c l R := by
  have key : ∀ f, nrun xZ (xY (xfm b)) xDT (f + 2) d 387 9 [(0, .ref 49), (1, .int x1), (2, .int x2)] [.int t0] (rH e g q c l) 0 0 = nrun xZ (xY (xfm b)) xDT f d 387 (if xCn .ne t0 ((Int32.ofInt (2))) = true then 17 else 13) [(0, .ref 49), (1, .int x1), (2, .int x2)] [] (rH e g q c l) 0 0 := by
    intro f
    obtain ⟨y, cb, hj⟩ := mq_387
    rw [n_step (st' := [.int (Int32.ofInt (2)), .int t0]) (pc' := 10) (lv' := [(0, .ref 49), (1, .int x1), (2, .int x2)]) (hp' := rH e g q c l) (i := .iconst 2) (len := 1) rfl hj rfl rfl rfl]
    rw [n_step (st' := []) (pc' := (if xCn .ne t0 ((Int32.ofInt (2))) = true then 17 else 13)) (lv' := [(0, .ref 49), (1, .int x1), (2, .int x2)]) (hp' := rH e g q c l) (i := .if_icmp .ne 7) (len := 3) rfl hj rfl rfl rfl]
  by_cases hc : xCn .ne t0 ((Int32.ofInt (2))) = true
  · obtain ⟨f, h⟩ := h1 hc
    refine ⟨f + 2, ?_⟩
    rw [key, if_pos hc]
    exact h
  · obtain ⟨f, h⟩ := h2 hc
    refine ⟨f + 2, ?_⟩
    rw [key, if_neg hc]
    exact h
set_option maxRecDepth 100000 in
set_option maxHeartbeats 4000000 in
theorem bk_387_13 {b : Bool} {d : Nat} {x1 x2 : Int32} {e : Nat → x_E} {g : Nat → Int32} {q : Nat → Int64} {c : Nat → Nat → Int32} {l : Nat → Nat → Int64} {R : Option Value × List x_E} (h : rr b e d 387 18 [(0, .ref 49), (1, .int x1), (2, .int x2)] [.int (Int32.ofInt (1))] g q c l R) : rr b e d 387 13 [(0, .ref 49), (1, .int x1), (2, .int x2)] [] g q c l R := by
  obtain ⟨f, h⟩ := h
  refine ⟨f + 2, ?_⟩
  obtain ⟨y, cb, hj⟩ := mq_387
  rw [n_step (st' := [.int (Int32.ofInt (1))]) (pc' := 14) (lv' := [(0, .ref 49), (1, .int x1), (2, .int x2)]) (hp' := rH e g q c l) (i := .iconst 1) (len := 1) rfl hj rfl rfl rfl]
  rw [n_step (st' := [.int (Int32.ofInt (1))]) (pc' := 18) (lv' := [(0, .ref 49), (1, .int x1), (2, .int x2)]) (hp' := rH e g q c l) (i := .goto 4) (len := 3) rfl hj rfl rfl rfl]
  exact h
set_option maxRecDepth 100000 in
set_option maxHeartbeats 4000000 in
theorem bk_387_17 {b : Bool} {d : Nat} {x1 x2 : Int32} {e : Nat → x_E} {g : Nat → Int32} {q : Nat → Int64} {c : Nat → Nat → Int32} {l : Nat → Nat → Int64} {R : Option Value × List x_E} (h : rr b e d 387 18 [(0, .ref 49), (1, .int x1), (2, .int x2)] [.int (Int32.ofInt (0))] g q c l R) : rr b e d 387 17 [(0, .ref 49), (1, .int x1), (2, .int x2)] [] g q c l R := by
  obtain ⟨f, h⟩ := h
  refine ⟨f + 1, ?_⟩
  obtain ⟨y, cb, hj⟩ := mq_387
  rw [n_step (st' := [.int (Int32.ofInt (0))]) (pc' := 18) (lv' := [(0, .ref 49), (1, .int x1), (2, .int x2)]) (hp' := rH e g q c l) (i := .iconst 0) (len := 1) rfl hj rfl rfl rfl]
  exact h
set_option maxRecDepth 100000 in
set_option maxHeartbeats 4000000 in
theorem bk_387_18 {b : Bool} {d : Nat} {t0 x1 x2 : Int32} {e : Nat → x_E} {g : Nat → Int32} {q : Nat → Int64} {c : Nat → Nat → Int32} {l : Nat → Nat → Int64} {R : Option Value × List x_E} (h1 : xCn .lt x1 0 = true → rr b e d 387 33 [(0, .ref 49), (1, .int x1), (2, .int x2), (3, .int t0)] [] g q c l R) (h2 : ¬ xCn .lt x1 0 = true → rr b e d 387 23 [(0, .ref 49), (1, .int x1), (2, .int x2), (3, .int t0)] [] g q c l R) : rr b e d 387 18 [(0, .ref 49), (1, .int x1), (2, .int x2)] [.int t0] g q c l R := by
  have key : ∀ f, nrun xZ (xY (xfm b)) xDT (f + 3) d 387 18 [(0, .ref 49), (1, .int x1), (2, .int x2)] [.int t0] (rH e g q c l) 0 0 = nrun xZ (xY (xfm b)) xDT f d 387 (if xCn .lt x1 0 = true then 33 else 23) [(3, .int t0), (0, .ref 49), (1, .int x1), (2, .int x2)] [] (rH e g q c l) 0 0 := by
    intro f
    obtain ⟨y, cb, hj⟩ := mq_387
    rw [n_step (st' := []) (pc' := 19) (lv' := [(3, .int t0), (0, .ref 49), (1, .int x1), (2, .int x2)]) (hp' := rH e g q c l) (i := .istore_n 3) (len := 1) rfl hj rfl rfl rfl]
    rw [n_step (st' := [.int x1]) (pc' := 20) (lv' := [(3, .int t0), (0, .ref 49), (1, .int x1), (2, .int x2)]) (hp' := rH e g q c l) (i := .iload_n 1) (len := 1) rfl hj rfl rfl rfl]
    rw [n_step (st' := []) (pc' := (if xCn .lt x1 0 = true then 33 else 23)) (lv' := [(3, .int t0), (0, .ref 49), (1, .int x1), (2, .int x2)]) (hp' := rH e g q c l) (i := .ifCond .lt 13) (len := 3) rfl hj rfl rfl rfl]
  by_cases hc : xCn .lt x1 0 = true
  · obtain ⟨f, h⟩ := h1 hc
    refine ⟨f + 3, ?_⟩
    rw [key, if_pos hc]
    exact nrun_ext f f _ _ R 387 33 [(0, .ref 49), (1, .int x1), (2, .int x2), (3, .int t0)] [(3, .int t0), (0, .ref 49), (1, .int x1), (2, .int x2)] [] _ 0 0 122 (Nat.le_refl _) (Nat.le_refl _) (Nat.le_of_ble_eq_true rfl) (lvR_mk [0, 1, 2, 3] [3, 0, 1, 2] rfl rfl (by decide) (by decide) (List.forall_mem_cons.mpr ⟨(List.mem_cons_of_mem _ List.mem_cons_self), (List.forall_mem_cons.mpr ⟨(List.mem_cons_of_mem _ (List.mem_cons_of_mem _ List.mem_cons_self)), (List.forall_mem_cons.mpr ⟨(List.mem_cons_of_mem _ (List.mem_cons_of_mem _ (List.mem_cons_of_mem _ List.mem_cons_self))), (List.forall_mem_cons.mpr ⟨List.mem_cons_self, (fun _ h => nomatch h)⟩)⟩)⟩)⟩) (List.forall_mem_cons.mpr ⟨Or.inl (List.mem_cons_of_mem _ (List.mem_cons_of_mem _ (List.mem_cons_of_mem _ List.mem_cons_self))), (List.forall_mem_cons.mpr ⟨Or.inl List.mem_cons_self, (List.forall_mem_cons.mpr ⟨Or.inl (List.mem_cons_of_mem _ List.mem_cons_self), (List.forall_mem_cons.mpr ⟨Or.inl (List.mem_cons_of_mem _ (List.mem_cons_of_mem _ List.mem_cons_self)), (fun _ h => nomatch h)⟩)⟩)⟩)⟩)) h
  · obtain ⟨f, h⟩ := h2 hc
    refine ⟨f + 3, ?_⟩
    rw [key, if_neg hc]
    exact nrun_ext f f _ _ R 387 23 [(0, .ref 49), (1, .int x1), (2, .int x2), (3, .int t0)] [(3, .int t0), (0, .ref 49), (1, .int x1), (2, .int x2)] [] _ 0 0 122 (Nat.le_refl _) (Nat.le_refl _) (Nat.le_of_ble_eq_true rfl) (lvR_mk [0, 1, 2, 3] [3, 0, 1, 2] rfl rfl (by decide) (by decide) (List.forall_mem_cons.mpr ⟨(List.mem_cons_of_mem _ List.mem_cons_self), (List.forall_mem_cons.mpr ⟨(List.mem_cons_of_mem _ (List.mem_cons_of_mem _ List.mem_cons_self)), (List.forall_mem_cons.mpr ⟨(List.mem_cons_of_mem _ (List.mem_cons_of_mem _ (List.mem_cons_of_mem _ List.mem_cons_self))), (List.forall_mem_cons.mpr ⟨List.mem_cons_self, (fun _ h => nomatch h)⟩)⟩)⟩)⟩) (List.forall_mem_cons.mpr ⟨Or.inl (List.mem_cons_of_mem _ (List.mem_cons_of_mem _ (List.mem_cons_of_mem _ List.mem_cons_self))), (List.forall_mem_cons.mpr ⟨Or.inl List.mem_cons_self, (List.forall_mem_cons.mpr ⟨Or.inl (List.mem_cons_of_mem _ List.mem_cons_self), (List.forall_mem_cons.mpr ⟨Or.inl (List.mem_cons_of_mem _ (List.mem_cons_of_mem _ List.mem_cons_self)), (fun _ h => nomatch h)⟩)⟩)⟩)⟩)) h
set_option maxRecDepth 100000 in
set_option maxHeartbeats 4000000 in
theorem bk_387_23 {b : Bool} {d : Nat} {x1 x2 x3 : Int32} {e : Nat → x_E} {g : Nat → Int32} {q : Nat → Int64} {c : Nat → Nat → Int32} {l : Nat → Nat → Int64} {R : Option Value × List x_E} (h1 : xCn .ne x3 0 = true → rr b e d 387 33 [(0, .ref 49), (1, .int x1), (2, .int x2), (3, .int x3)] [] g q c l R) (h2 : ¬ xCn .ne x3 0 = true → rr b e d 387 27 [(0, .ref 49), (1, .int x1), (2, .int x2), (3, .int x3)] [] g q c l R) : rr b e d 387 23 [(0, .ref 49), (1, .int x1), (2, .int x2), (3, .int x3)] [] g q c l R := by
  have key : ∀ f, nrun xZ (xY (xfm b)) xDT (f + 2) d 387 23 [(0, .ref 49), (1, .int x1), (2, .int x2), (3, .int x3)] [] (rH e g q c l) 0 0 = nrun xZ (xY (xfm b)) xDT f d 387 (if xCn .ne x3 0 = true then 33 else 27) [(0, .ref 49), (1, .int x1), (2, .int x2), (3, .int x3)] [] (rH e g q c l) 0 0 := by
    intro f
    obtain ⟨y, cb, hj⟩ := mq_387
    rw [n_step (st' := [.int x3]) (pc' := 24) (lv' := [(0, .ref 49), (1, .int x1), (2, .int x2), (3, .int x3)]) (hp' := rH e g q c l) (i := .iload_n 3) (len := 1) rfl hj rfl rfl rfl]
    rw [n_step (st' := []) (pc' := (if xCn .ne x3 0 = true then 33 else 27)) (lv' := [(0, .ref 49), (1, .int x1), (2, .int x2), (3, .int x3)]) (hp' := rH e g q c l) (i := .ifCond .ne 9) (len := 3) rfl hj rfl rfl rfl]
  by_cases hc : xCn .ne x3 0 = true
  · obtain ⟨f, h⟩ := h1 hc
    refine ⟨f + 2, ?_⟩
    rw [key, if_pos hc]
    exact h
  · obtain ⟨f, h⟩ := h2 hc
    refine ⟨f + 2, ?_⟩
    rw [key, if_neg hc]
    exact h
set_option maxRecDepth 100000 in
set_option maxHeartbeats 4000000 in
theorem bk_387_27 {b : Bool} {d : Nat} {x1 x2 x3 : Int32} {e : Nat → x_E} {g : Nat → Int32} {q : Nat → Int64} {c : Nat → Nat → Int32} {l : Nat → Nat → Int64} {g' : Nat → Int32} {q' : Nat → Int64} {c' : Nat → Nat → Int32} {l' : Nat → Nat → Int64} {R : Option Value × List x_E} (hc : rr b e d 349 0 [(0, .ref 49), (1, .int (Int32.ofInt (4))), (2, .int x2)] [] g q c l (none, rH e g' q' c' l')) (h : rr b e (d + 1) 387 33 [(0, .ref 49), (1, .int x1), (2, .int x2), (3, .int x3)] [] g' q' c' l' R) : rr b e (d + 1) 387 27 [(0, .ref 49), (1, .int x1), (2, .int x2), (3, .int x3)] [] g q c l R := by
  obtain ⟨f1, hc⟩ := hc
  obtain ⟨f2, h⟩ := h
  obtain ⟨f, hf1, hf2⟩ : ∃ f, f1 ≤ f ∧ f2 ≤ f := ⟨max f1 f2, Nat.le_max_left _ _, Nat.le_max_right _ _⟩
  have hc := nrun_fuel f1 f _ _ _ _ _ _ _ _ _ hf1 hc
  have h := nrun_fuel f2 f _ _ _ _ _ _ _ _ _ hf2 h
  refine ⟨f + 4, ?_⟩
  obtain ⟨y, cb, hj⟩ := mq_387
  rw [n_step (st' := [.ref 49]) (pc' := 28) (lv' := [(0, .ref 49), (1, .int x1), (2, .int x2), (3, .int x3)]) (hp' := rH e g q c l) (i := .aload_n 0) (len := 1) rfl hj rfl rfl rfl]
  rw [n_step (st' := [.int (Int32.ofInt (4)), .ref 49]) (pc' := 29) (lv' := [(0, .ref 49), (1, .int x1), (2, .int x2), (3, .int x3)]) (hp' := rH e g q c l) (i := .iconst 4) (len := 1) rfl hj rfl rfl rfl]
  rw [n_step (st' := [.int x2, .int (Int32.ofInt (4)), .ref 49]) (pc' := 30) (lv' := [(0, .ref 49), (1, .int x1), (2, .int x2), (3, .int x3)]) (hp' := rH e g q c l) (i := .iload_n 2) (len := 1) rfl hj rfl rfl rfl]
  obtain ⟨y2, cb2, hj2⟩ := mq_349
  rw [n_call (f := f) (d := d) (ki := 0) (idx := 427) (j' := 349) (kd := 0) (M' := (y2, cb2, 3, none, 12, 2, 0, 0)) (avs := [.ref 49, .int (Int32.ofInt (4)), .int x2]) (r := []) (rv := none) (hp1 := rH e g' q' c' l') rfl hj rfl rfl rfl rfl (rq_n rfl rfl hj2 rfl rfl) rfl hc (Nat.le_of_ble_eq_true rfl)]
  exact h
set_option maxRecDepth 100000 in
set_option maxHeartbeats 4000000 in
theorem bk_387_33 {b : Bool} {d : Nat} {x1 x2 x3 : Int32} {e : Nat → x_E} {g : Nat → Int32} {q : Nat → Int64} {c : Nat → Nat → Int32} {l : Nat → Nat → Int64} {g' : Nat → Int32} {q' : Nat → Int64} {c' : Nat → Nat → Int32} {l' : Nat → Nat → Int64} {R : Option Value × List x_E} (hc : rr b e d 340 0 [(0, .ref 49)] [] g q c l (none, rH e g' q' c' l')) (h : rr b e (d + 1) 387 37 [(0, .ref 49), (1, .int x1), (2, .int x2), (3, .int x3)] [] g' q' c' l' R) : rr b e (d + 1) 387 33 [(0, .ref 49), (1, .int x1), (2, .int x2), (3, .int x3)] [] g q c l R := by
  obtain ⟨f1, hc⟩ := hc
  obtain ⟨f2, h⟩ := h
  obtain ⟨f, hf1, hf2⟩ : ∃ f, f1 ≤ f ∧ f2 ≤ f := ⟨max f1 f2, Nat.le_max_left _ _, Nat.le_max_right _ _⟩
  have hc := nrun_fuel f1 f _ _ _ _ _ _ _ _ _ hf1 hc
  have h := nrun_fuel f2 f _ _ _ _ _ _ _ _ _ hf2 h
  refine ⟨f + 2, ?_⟩
  obtain ⟨y, cb, hj⟩ := mq_387
  rw [n_step (st' := [.ref 49]) (pc' := 34) (lv' := [(0, .ref 49), (1, .int x1), (2, .int x2), (3, .int x3)]) (hp' := rH e g q c l) (i := .aload_n 0) (len := 1) rfl hj rfl rfl rfl]
  obtain ⟨y2, cb2, hj2⟩ := mq_340
  rw [n_call (f := f) (d := d) (ki := 0) (idx := 356) (j' := 340) (kd := 0) (M' := (y2, cb2, 1, none, 12, 0, 0, 0)) (avs := [.ref 49]) (r := []) (rv := none) (hp1 := rH e g' q' c' l') rfl hj rfl rfl rfl rfl (rq_n rfl rfl hj2 rfl rfl) rfl hc (Nat.le_of_ble_eq_true rfl)]
  exact h
set_option maxRecDepth 100000 in
set_option maxHeartbeats 4000000 in
theorem bk_387_37 {b : Bool} {d : Nat} {x1 x2 x3 : Int32} {e : Nat → x_E} {g : Nat → Int32} {q : Nat → Int64} {c : Nat → Nat → Int32} {l : Nat → Nat → Int64} {g' : Nat → Int32} {q' : Nat → Int64} {c' : Nat → Nat → Int32} {l' : Nat → Nat → Int64} {v : Int32} {R : Option Value × List x_E} (hc : rr b e d 345 0 [(0, .ref 49)] [] g q c l (some (.int v), rH e g' q' c' l')) (h : rr b e (d + 1) 387 41 [(0, .ref 49), (1, .int x1), (2, .int x2), (3, .int x3)] [.int v] g' q' c' l' R) : rr b e (d + 1) 387 37 [(0, .ref 49), (1, .int x1), (2, .int x2), (3, .int x3)] [] g q c l R := by
  obtain ⟨f1, hc⟩ := hc
  obtain ⟨f2, h⟩ := h
  obtain ⟨f, hf1, hf2⟩ : ∃ f, f1 ≤ f ∧ f2 ≤ f := ⟨max f1 f2, Nat.le_max_left _ _, Nat.le_max_right _ _⟩
  have hc := nrun_fuel f1 f _ _ _ _ _ _ _ _ _ hf1 hc
  have h := nrun_fuel f2 f _ _ _ _ _ _ _ _ _ hf2 h
  refine ⟨f + 2, ?_⟩
  obtain ⟨y, cb, hj⟩ := mq_387
  rw [n_step (st' := [.ref 49]) (pc' := 38) (lv' := [(0, .ref 49), (1, .int x1), (2, .int x2), (3, .int x3)]) (hp' := rH e g q c l) (i := .aload_n 0) (len := 1) rfl hj rfl rfl rfl]
  obtain ⟨y2, cb2, hj2⟩ := mq_345
  rw [n_call (f := f) (d := d) (ki := 0) (idx := 460) (j' := 345) (kd := 0) (M' := (y2, cb2, 2, some .int, 12, 0, 0, 0)) (avs := [.ref 49]) (r := []) (rv := some (.int v)) (hp1 := rH e g' q' c' l') rfl hj rfl rfl rfl rfl (rq_n rfl rfl hj2 rfl rfl) rfl hc (Nat.le_of_ble_eq_true rfl)]
  exact h
set_option maxRecDepth 100000 in
set_option maxHeartbeats 4000000 in
theorem bk_387_41 {b : Bool} {d : Nat} {t0 x1 x2 x3 : Int32} {e : Nat → x_E} {g : Nat → Int32} {q : Nat → Int64} {c : Nat → Nat → Int32} {l : Nat → Nat → Int64} {g' : Nat → Int32} {q' : Nat → Int64} {c' : Nat → Nat → Int32} {l' : Nat → Nat → Int64} {R : Option Value × List x_E} (hc : rr b e d 353 0 [(0, .ref 49), (1, .int (Int8.ofInt (93)).toInt32)] [] g q c l (none, rH e g' q' c' l')) (h : rr b e (d + 1) 387 49 [(0, .ref 49), (1, .int x1), (2, .int x2), (3, .int x3), (4, .int t0)] [] g' q' c' l' R) : rr b e (d + 1) 387 41 [(0, .ref 49), (1, .int x1), (2, .int x2), (3, .int x3)] [.int t0] g q c l R := by
  obtain ⟨f1, hc⟩ := hc
  obtain ⟨f2, h⟩ := h
  obtain ⟨f, hf1, hf2⟩ : ∃ f, f1 ≤ f ∧ f2 ≤ f := ⟨max f1 f2, Nat.le_max_left _ _, Nat.le_max_right _ _⟩
  have hc := nrun_fuel f1 f _ _ _ _ _ _ _ _ _ hf1 hc
  have h := nrun_fuel f2 f _ _ _ _ _ _ _ _ _ hf2 h
  refine ⟨f + 4, ?_⟩
  obtain ⟨y, cb, hj⟩ := mq_387
  rw [n_step (st' := []) (pc' := 43) (lv' := [(4, .int t0), (0, .ref 49), (1, .int x1), (2, .int x2), (3, .int x3)]) (hp' := rH e g q c l) (i := .istore 4) (len := 2) rfl hj rfl rfl rfl]
  rw [n_step (st' := [.ref 49]) (pc' := 44) (lv' := [(4, .int t0), (0, .ref 49), (1, .int x1), (2, .int x2), (3, .int x3)]) (hp' := rH e g q c l) (i := .aload_n 0) (len := 1) rfl hj rfl rfl rfl]
  rw [n_step (st' := [.int (Int8.ofInt (93)).toInt32, .ref 49]) (pc' := 46) (lv' := [(4, .int t0), (0, .ref 49), (1, .int x1), (2, .int x2), (3, .int x3)]) (hp' := rH e g q c l) (i := .bipush 93) (len := 2) rfl hj rfl rfl rfl]
  obtain ⟨y2, cb2, hj2⟩ := mq_353
  rw [n_call (f := f) (d := d) (ki := 0) (idx := 424) (j' := 353) (kd := 0) (M' := (y2, cb2, 2, none, 12, 1, 0, 0)) (avs := [.ref 49, .int (Int8.ofInt (93)).toInt32]) (r := []) (rv := none) (hp1 := rH e g' q' c' l') rfl hj rfl rfl rfl rfl (rq_n rfl rfl hj2 rfl rfl) rfl hc (Nat.le_of_ble_eq_true rfl)]
  exact nrun_ext f f _ _ R 387 49 [(0, .ref 49), (1, .int x1), (2, .int x2), (3, .int x3), (4, .int t0)] [(4, .int t0), (0, .ref 49), (1, .int x1), (2, .int x2), (3, .int x3)] [] _ 0 0 122 (Nat.le_refl _) (Nat.le_refl _) (Nat.le_of_ble_eq_true rfl) (lvR_mk [0, 1, 2, 3, 4] [4, 0, 1, 2, 3] rfl rfl (by decide) (by decide) (List.forall_mem_cons.mpr ⟨(List.mem_cons_of_mem _ List.mem_cons_self), (List.forall_mem_cons.mpr ⟨(List.mem_cons_of_mem _ (List.mem_cons_of_mem _ List.mem_cons_self)), (List.forall_mem_cons.mpr ⟨(List.mem_cons_of_mem _ (List.mem_cons_of_mem _ (List.mem_cons_of_mem _ List.mem_cons_self))), (List.forall_mem_cons.mpr ⟨(List.mem_cons_of_mem _ (List.mem_cons_of_mem _ (List.mem_cons_of_mem _ (List.mem_cons_of_mem _ List.mem_cons_self)))), (List.forall_mem_cons.mpr ⟨List.mem_cons_self, (fun _ h => nomatch h)⟩)⟩)⟩)⟩)⟩) (List.forall_mem_cons.mpr ⟨Or.inl (List.mem_cons_of_mem _ (List.mem_cons_of_mem _ (List.mem_cons_of_mem _ (List.mem_cons_of_mem _ List.mem_cons_self)))), (List.forall_mem_cons.mpr ⟨Or.inl List.mem_cons_self, (List.forall_mem_cons.mpr ⟨Or.inl (List.mem_cons_of_mem _ List.mem_cons_self), (List.forall_mem_cons.mpr ⟨Or.inl (List.mem_cons_of_mem _ (List.mem_cons_of_mem _ List.mem_cons_self)), (List.forall_mem_cons.mpr ⟨Or.inl (List.mem_cons_of_mem _ (List.mem_cons_of_mem _ (List.mem_cons_of_mem _ List.mem_cons_self))), (fun _ h => nomatch h)⟩)⟩)⟩)⟩)⟩)) h
set_option maxRecDepth 100000 in
set_option maxHeartbeats 4000000 in
theorem bk_387_49 {b : Bool} {d : Nat} {x1 x2 x3 x4 : Int32} {e : Nat → x_E} {g : Nat → Int32} {q : Nat → Int64} {c : Nat → Nat → Int32} {l : Nat → Nat → Int64} {g' : Nat → Int32} {q' : Nat → Int64} {c' : Nat → Nat → Int32} {l' : Nat → Nat → Int64} {v : Int32} {R : Option Value × List x_E} (hc : rr b e d 355 0 [(0, .ref 49), (1, .int (Int8.ofInt (13)).toInt32), (2, .int (Int32.ofInt (0)))] [] g q c l (some (.int v), rH e g' q' c' l')) (h : rr b e (d + 1) 387 56 [(0, .ref 49), (1, .int x1), (2, .int x2), (3, .int x3), (4, .int x4)] [.int v] g' q' c' l' R) : rr b e (d + 1) 387 49 [(0, .ref 49), (1, .int x1), (2, .int x2), (3, .int x3), (4, .int x4)] [] g q c l R := by
  obtain ⟨f1, hc⟩ := hc
  obtain ⟨f2, h⟩ := h
  obtain ⟨f, hf1, hf2⟩ : ∃ f, f1 ≤ f ∧ f2 ≤ f := ⟨max f1 f2, Nat.le_max_left _ _, Nat.le_max_right _ _⟩
  have hc := nrun_fuel f1 f _ _ _ _ _ _ _ _ _ hf1 hc
  have h := nrun_fuel f2 f _ _ _ _ _ _ _ _ _ hf2 h
  refine ⟨f + 4, ?_⟩
  obtain ⟨y, cb, hj⟩ := mq_387
  rw [n_step (st' := [.ref 49]) (pc' := 50) (lv' := [(0, .ref 49), (1, .int x1), (2, .int x2), (3, .int x3), (4, .int x4)]) (hp' := rH e g q c l) (i := .aload_n 0) (len := 1) rfl hj rfl rfl rfl]
  rw [n_step (st' := [.int (Int8.ofInt (13)).toInt32, .ref 49]) (pc' := 52) (lv' := [(0, .ref 49), (1, .int x1), (2, .int x2), (3, .int x3), (4, .int x4)]) (hp' := rH e g q c l) (i := .bipush 13) (len := 2) rfl hj rfl rfl rfl]
  rw [n_step (st' := [.int (Int32.ofInt (0)), .int (Int8.ofInt (13)).toInt32, .ref 49]) (pc' := 53) (lv' := [(0, .ref 49), (1, .int x1), (2, .int x2), (3, .int x3), (4, .int x4)]) (hp' := rH e g q c l) (i := .iconst 0) (len := 1) rfl hj rfl rfl rfl]
  obtain ⟨y2, cb2, hj2⟩ := mq_355
  rw [n_call (f := f) (d := d) (ki := 0) (idx := 496) (j' := 355) (kd := 0) (M' := (y2, cb2, 3, some .int, 12, 2, 0, 0)) (avs := [.ref 49, .int (Int8.ofInt (13)).toInt32, .int (Int32.ofInt (0))]) (r := []) (rv := some (.int v)) (hp1 := rH e g' q' c' l') rfl hj rfl rfl rfl rfl (rq_n rfl rfl hj2 rfl rfl) rfl hc (Nat.le_of_ble_eq_true rfl)]
  exact h
set_option maxRecDepth 100000 in
set_option maxHeartbeats 4000000 in
theorem bk_387_56 {b : Bool} {d : Nat} {t0 x1 x2 x3 x4 : Int32} {e : Nat → x_E} {g : Nat → Int32} {q : Nat → Int64} {c : Nat → Nat → Int32} {l : Nat → Nat → Int64} {R : Option Value × List x_E} (h1 : xCn .eq x3 0 = true → rr b e d 387 66 [] [] g q c l R) (h2 : ¬ xCn .eq x3 0 = true → rr b e d 387 61 [(0, .ref 49), (1, .int x1), (2, .int x2), (4, .int x4)] [] g q c l R) : rr b e d 387 56 [(0, .ref 49), (1, .int x1), (2, .int x2), (3, .int x3), (4, .int x4)] [.int t0] g q c l R := by
  have key : ∀ f, nrun xZ (xY (xfm b)) xDT (f + 3) d 387 56 [(0, .ref 49), (1, .int x1), (2, .int x2), (3, .int x3), (4, .int x4)] [.int t0] (rH e g q c l) 0 0 = nrun xZ (xY (xfm b)) xDT f d 387 (if xCn .eq x3 0 = true then 66 else 61) [(0, .ref 49), (1, .int x1), (2, .int x2), (3, .int x3), (4, .int x4)] [] (rH e g q c l) 0 0 := by
    intro f
    obtain ⟨y, cb, hj⟩ := mq_387
    rw [n_step (st' := []) (pc' := 57) (lv' := [(0, .ref 49), (1, .int x1), (2, .int x2), (3, .int x3), (4, .int x4)]) (hp' := rH e g q c l) (i := .pop) (len := 1) rfl hj rfl rfl rfl]
    rw [n_step (st' := [.int x3]) (pc' := 58) (lv' := [(0, .ref 49), (1, .int x1), (2, .int x2), (3, .int x3), (4, .int x4)]) (hp' := rH e g q c l) (i := .iload_n 3) (len := 1) rfl hj rfl rfl rfl]
    rw [n_step (st' := []) (pc' := (if xCn .eq x3 0 = true then 66 else 61)) (lv' := [(0, .ref 49), (1, .int x1), (2, .int x2), (3, .int x3), (4, .int x4)]) (hp' := rH e g q c l) (i := .ifCond .eq 8) (len := 3) rfl hj rfl rfl rfl]
  by_cases hc : xCn .eq x3 0 = true
  · obtain ⟨f, h⟩ := h1 hc
    refine ⟨f + 3, ?_⟩
    rw [key, if_pos hc]
    exact nrun_ext f f _ _ R 387 66 [] [(0, .ref 49), (1, .int x1), (2, .int x2), (3, .int x3), (4, .int x4)] [] _ 0 0 122 (Nat.le_refl _) (Nat.le_refl _) (Nat.le_of_ble_eq_true rfl) (lvR_mk [] [0, 1, 2, 3, 4] rfl rfl (by decide) (by decide) (fun _ h => nomatch h) (List.forall_mem_cons.mpr ⟨Or.inr rfl, (List.forall_mem_cons.mpr ⟨Or.inr rfl, (List.forall_mem_cons.mpr ⟨Or.inr rfl, (List.forall_mem_cons.mpr ⟨Or.inr rfl, (List.forall_mem_cons.mpr ⟨Or.inr rfl, (fun _ h => nomatch h)⟩)⟩)⟩)⟩)⟩)) h
  · obtain ⟨f, h⟩ := h2 hc
    refine ⟨f + 3, ?_⟩
    rw [key, if_neg hc]
    exact nrun_ext f f _ _ R 387 61 [(0, .ref 49), (1, .int x1), (2, .int x2), (4, .int x4)] [(0, .ref 49), (1, .int x1), (2, .int x2), (3, .int x3), (4, .int x4)] [] _ 0 0 122 (Nat.le_refl _) (Nat.le_refl _) (Nat.le_of_ble_eq_true rfl) (lvR_mk [0, 1, 2, 4] [0, 1, 2, 3, 4] rfl rfl (by decide) (by decide) (List.forall_mem_cons.mpr ⟨List.mem_cons_self, (List.forall_mem_cons.mpr ⟨(List.mem_cons_of_mem _ List.mem_cons_self), (List.forall_mem_cons.mpr ⟨(List.mem_cons_of_mem _ (List.mem_cons_of_mem _ List.mem_cons_self)), (List.forall_mem_cons.mpr ⟨(List.mem_cons_of_mem _ (List.mem_cons_of_mem _ (List.mem_cons_of_mem _ (List.mem_cons_of_mem _ List.mem_cons_self)))), (fun _ h => nomatch h)⟩)⟩)⟩)⟩) (List.forall_mem_cons.mpr ⟨Or.inl List.mem_cons_self, (List.forall_mem_cons.mpr ⟨Or.inl (List.mem_cons_of_mem _ List.mem_cons_self), (List.forall_mem_cons.mpr ⟨Or.inl (List.mem_cons_of_mem _ (List.mem_cons_of_mem _ List.mem_cons_self)), (List.forall_mem_cons.mpr ⟨Or.inr rfl, (List.forall_mem_cons.mpr ⟨Or.inl (List.mem_cons_of_mem _ (List.mem_cons_of_mem _ (List.mem_cons_of_mem _ List.mem_cons_self))), (fun _ h => nomatch h)⟩)⟩)⟩)⟩)⟩)) h
set_option maxRecDepth 100000 in
set_option maxHeartbeats 4000000 in
theorem bk_387_61 {b : Bool} {d : Nat} {x1 x2 x4 : Int32} {e : Nat → x_E} {g : Nat → Int32} {q : Nat → Int64} {c : Nat → Nat → Int32} {l : Nat → Nat → Int64} {R : Option Value × List x_E} (h1 : xCn .ge x4 0 = true → rr b e d 387 68 [(0, .ref 49), (1, .int x1), (2, .int x2), (4, .int x4)] [] g q c l R) (h2 : ¬ xCn .ge x4 0 = true → rr b e d 387 66 [] [] g q c l R) : rr b e d 387 61 [(0, .ref 49), (1, .int x1), (2, .int x2), (4, .int x4)] [] g q c l R := by
  have key : ∀ f, nrun xZ (xY (xfm b)) xDT (f + 2) d 387 61 [(0, .ref 49), (1, .int x1), (2, .int x2), (4, .int x4)] [] (rH e g q c l) 0 0 = nrun xZ (xY (xfm b)) xDT f d 387 (if xCn .ge x4 0 = true then 68 else 66) [(0, .ref 49), (1, .int x1), (2, .int x2), (4, .int x4)] [] (rH e g q c l) 0 0 := by
    intro f
    obtain ⟨y, cb, hj⟩ := mq_387
    rw [n_step (st' := [.int x4]) (pc' := 63) (lv' := [(0, .ref 49), (1, .int x1), (2, .int x2), (4, .int x4)]) (hp' := rH e g q c l) (i := .iload 4) (len := 2) rfl hj rfl rfl rfl]
    rw [n_step (st' := []) (pc' := (if xCn .ge x4 0 = true then 68 else 66)) (lv' := [(0, .ref 49), (1, .int x1), (2, .int x2), (4, .int x4)]) (hp' := rH e g q c l) (i := .ifCond .ge 5) (len := 3) rfl hj rfl rfl rfl]
  by_cases hc : xCn .ge x4 0 = true
  · obtain ⟨f, h⟩ := h1 hc
    refine ⟨f + 2, ?_⟩
    rw [key, if_pos hc]
    exact h
  · obtain ⟨f, h⟩ := h2 hc
    refine ⟨f + 2, ?_⟩
    rw [key, if_neg hc]
    exact nrun_ext f f _ _ R 387 66 [] [(0, .ref 49), (1, .int x1), (2, .int x2), (4, .int x4)] [] _ 0 0 122 (Nat.le_refl _) (Nat.le_refl _) (Nat.le_of_ble_eq_true rfl) (lvR_mk [] [0, 1, 2, 4] rfl rfl (by decide) (by decide) (fun _ h => nomatch h) (List.forall_mem_cons.mpr ⟨Or.inr rfl, (List.forall_mem_cons.mpr ⟨Or.inr rfl, (List.forall_mem_cons.mpr ⟨Or.inr rfl, (List.forall_mem_cons.mpr ⟨Or.inr rfl, (fun _ h => nomatch h)⟩)⟩)⟩)⟩)) h
set_option maxRecDepth 100000 in
set_option maxHeartbeats 4000000 in
theorem bk_387_66 {b : Bool} {d : Nat} {e : Nat → x_E} {g : Nat → Int32} {q : Nat → Int64} {c : Nat → Nat → Int32} {l : Nat → Nat → Int64} : rr b e d 387 66 [] [] g q c l (some (.int (Int32.ofInt (-1))), rH e g q c l) := by
  refine ⟨0 + 2, ?_⟩
  obtain ⟨y, cb, hj⟩ := mq_387
  rw [n_step (st' := [.int (Int32.ofInt (-1))]) (pc' := 67) (lv' := []) (hp' := rH e g q c l) (i := .iconst (-1)) (len := 1) rfl hj rfl rfl rfl]
  exact n_ret rfl hj rfl rfl (x_ret rfl)
set_option maxRecDepth 100000 in
set_option maxHeartbeats 4000000 in
theorem bk_387_68 {b : Bool} {d : Nat} {x1 x2 x4 : Int32} {e : Nat → x_E} {g : Nat → Int32} {q : Nat → Int64} {c : Nat → Nat → Int32} {l : Nat → Nat → Int64} {g' : Nat → Int32} {q' : Nat → Int64} {c' : Nat → Nat → Int32} {l' : Nat → Nat → Int64} {v : Int32} {R : Option Value × List x_E} (hc : rr b e d 388 0 [(0, .ref 49), (1, .int x1), (2, .int x4), (3, .int (Int32.ofInt (0)))] [] g q c l (some (.int v), rH e g' q' c' l')) (h : rr b e (d + 1) 387 76 [(0, .ref 49), (1, .int x1), (2, .int x2), (4, .int x4)] [.int v] g' q' c' l' R) : rr b e (d + 1) 387 68 [(0, .ref 49), (1, .int x1), (2, .int x2), (4, .int x4)] [] g q c l R := by
  obtain ⟨f1, hc⟩ := hc
  obtain ⟨f2, h⟩ := h
  obtain ⟨f, hf1, hf2⟩ : ∃ f, f1 ≤ f ∧ f2 ≤ f := ⟨max f1 f2, Nat.le_max_left _ _, Nat.le_max_right _ _⟩
  have hc := nrun_fuel f1 f _ _ _ _ _ _ _ _ _ hf1 hc
  have h := nrun_fuel f2 f _ _ _ _ _ _ _ _ _ hf2 h
  refine ⟨f + 5, ?_⟩
  obtain ⟨y, cb, hj⟩ := mq_387
  rw [n_step (st' := [.ref 49]) (pc' := 69) (lv' := [(0, .ref 49), (1, .int x1), (2, .int x2), (4, .int x4)]) (hp' := rH e g q c l) (i := .aload_n 0) (len := 1) rfl hj rfl rfl rfl]
  rw [n_step (st' := [.int x1, .ref 49]) (pc' := 70) (lv' := [(0, .ref 49), (1, .int x1), (2, .int x2), (4, .int x4)]) (hp' := rH e g q c l) (i := .iload_n 1) (len := 1) rfl hj rfl rfl rfl]
  rw [n_step (st' := [.int x4, .int x1, .ref 49]) (pc' := 72) (lv' := [(0, .ref 49), (1, .int x1), (2, .int x2), (4, .int x4)]) (hp' := rH e g q c l) (i := .iload 4) (len := 2) rfl hj rfl rfl rfl]
  rw [n_step (st' := [.int (Int32.ofInt (0)), .int x4, .int x1, .ref 49]) (pc' := 73) (lv' := [(0, .ref 49), (1, .int x1), (2, .int x2), (4, .int x4)]) (hp' := rH e g q c l) (i := .iconst 0) (len := 1) rfl hj rfl rfl rfl]
  obtain ⟨y2, cb2, hj2⟩ := mq_388
  rw [n_call (f := f) (d := d) (ki := 0) (idx := 526) (j' := 388) (kd := 0) (M' := (y2, cb2, 10, some .int, 12, 3, 0, 0)) (avs := [.ref 49, .int x1, .int x4, .int (Int32.ofInt (0))]) (r := []) (rv := some (.int v)) (hp1 := rH e g' q' c' l') rfl hj rfl rfl rfl rfl (rq_n rfl rfl hj2 rfl rfl) rfl hc (Nat.le_of_ble_eq_true rfl)]
  exact h
set_option maxRecDepth 100000 in
set_option maxHeartbeats 4000000 in
theorem bk_387_76 {b : Bool} {d : Nat} {t0 x1 x2 x4 : Int32} {e : Nat → x_E} {g : Nat → Int32} {q : Nat → Int64} {c : Nat → Nat → Int32} {l : Nat → Nat → Int64} {R : Option Value × List x_E} (h1 : xCn .le t0 ((Int8.ofInt (80)).toInt32) = true → rr b e d 387 89 [(0, .ref 49), (1, .int x1), (4, .int x4)] [] g q c l R) (h2 : ¬ xCn .le t0 ((Int8.ofInt (80)).toInt32) = true → rr b e d 387 81 [(0, .ref 49), (2, .int x2)] [] g q c l R) : rr b e d 387 76 [(0, .ref 49), (1, .int x1), (2, .int x2), (4, .int x4)] [.int t0] g q c l R := by
  have key : ∀ f, nrun xZ (xY (xfm b)) xDT (f + 2) d 387 76 [(0, .ref 49), (1, .int x1), (2, .int x2), (4, .int x4)] [.int t0] (rH e g q c l) 0 0 = nrun xZ (xY (xfm b)) xDT f d 387 (if xCn .le t0 ((Int8.ofInt (80)).toInt32) = true then 89 else 81) [(0, .ref 49), (1, .int x1), (2, .int x2), (4, .int x4)] [] (rH e g q c l) 0 0 := by
    intro f
    obtain ⟨y, cb, hj⟩ := mq_387
    rw [n_step (st' := [.int (Int8.ofInt (80)).toInt32, .int t0]) (pc' := 78) (lv' := [(0, .ref 49), (1, .int x1), (2, .int x2), (4, .int x4)]) (hp' := rH e g q c l) (i := .bipush 80) (len := 2) rfl hj rfl rfl rfl]
    rw [n_step (st' := []) (pc' := (if xCn .le t0 ((Int8.ofInt (80)).toInt32) = true then 89 else 81)) (lv' := [(0, .ref 49), (1, .int x1), (2, .int x2), (4, .int x4)]) (hp' := rH e g q c l) (i := .if_icmp .le 11) (len := 3) rfl hj rfl rfl rfl]
  by_cases hc : xCn .le t0 ((Int8.ofInt (80)).toInt32) = true
  · obtain ⟨f, h⟩ := h1 hc
    refine ⟨f + 2, ?_⟩
    rw [key, if_pos hc]
    exact nrun_ext f f _ _ R 387 89 [(0, .ref 49), (1, .int x1), (4, .int x4)] [(0, .ref 49), (1, .int x1), (2, .int x2), (4, .int x4)] [] _ 0 0 122 (Nat.le_refl _) (Nat.le_refl _) (Nat.le_of_ble_eq_true rfl) (lvR_mk [0, 1, 4] [0, 1, 2, 4] rfl rfl (by decide) (by decide) (List.forall_mem_cons.mpr ⟨List.mem_cons_self, (List.forall_mem_cons.mpr ⟨(List.mem_cons_of_mem _ List.mem_cons_self), (List.forall_mem_cons.mpr ⟨(List.mem_cons_of_mem _ (List.mem_cons_of_mem _ (List.mem_cons_of_mem _ List.mem_cons_self))), (fun _ h => nomatch h)⟩)⟩)⟩) (List.forall_mem_cons.mpr ⟨Or.inl List.mem_cons_self, (List.forall_mem_cons.mpr ⟨Or.inl (List.mem_cons_of_mem _ List.mem_cons_self), (List.forall_mem_cons.mpr ⟨Or.inr rfl, (List.forall_mem_cons.mpr ⟨Or.inl (List.mem_cons_of_mem _ (List.mem_cons_of_mem _ List.mem_cons_self)), (fun _ h => nomatch h)⟩)⟩)⟩)⟩)) h
  · obtain ⟨f, h⟩ := h2 hc
    refine ⟨f + 2, ?_⟩
    rw [key, if_neg hc]
    exact nrun_ext f f _ _ R 387 81 [(0, .ref 49), (2, .int x2)] [(0, .ref 49), (1, .int x1), (2, .int x2), (4, .int x4)] [] _ 0 0 122 (Nat.le_refl _) (Nat.le_refl _) (Nat.le_of_ble_eq_true rfl) (lvR_mk [0, 2] [0, 1, 2, 4] rfl rfl (by decide) (by decide) (List.forall_mem_cons.mpr ⟨List.mem_cons_self, (List.forall_mem_cons.mpr ⟨(List.mem_cons_of_mem _ (List.mem_cons_of_mem _ List.mem_cons_self)), (fun _ h => nomatch h)⟩)⟩) (List.forall_mem_cons.mpr ⟨Or.inl List.mem_cons_self, (List.forall_mem_cons.mpr ⟨Or.inr rfl, (List.forall_mem_cons.mpr ⟨Or.inl (List.mem_cons_of_mem _ List.mem_cons_self), (List.forall_mem_cons.mpr ⟨Or.inr rfl, (fun _ h => nomatch h)⟩)⟩)⟩)⟩)) h
set_option maxRecDepth 100000 in
set_option maxHeartbeats 4000000 in
theorem bk_387_81 {b : Bool} {d : Nat} {x2 : Int32} {e : Nat → x_E} {g : Nat → Int32} {q : Nat → Int64} {c : Nat → Nat → Int32} {l : Nat → Nat → Int64} {g' : Nat → Int32} {q' : Nat → Int64} {c' : Nat → Nat → Int32} {l' : Nat → Nat → Int64} {R : Option Value × List x_E} (hc : rr b e d 349 0 [(0, .ref 49), (1, .int (Int32.ofInt (5))), (2, .int x2)] [] g q c l (none, rH e g' q' c' l')) (h : rr b e (d + 1) 387 87 [] [] g' q' c' l' R) : rr b e (d + 1) 387 81 [(0, .ref 49), (2, .int x2)] [] g q c l R := by
  obtain ⟨f1, hc⟩ := hc
  obtain ⟨f2, h⟩ := h
  obtain ⟨f, hf1, hf2⟩ : ∃ f, f1 ≤ f ∧ f2 ≤ f := ⟨max f1 f2, Nat.le_max_left _ _, Nat.le_max_right _ _⟩
  have hc := nrun_fuel f1 f _ _ _ _ _ _ _ _ _ hf1 hc
  have h := nrun_fuel f2 f _ _ _ _ _ _ _ _ _ hf2 h
  refine ⟨f + 4, ?_⟩
  obtain ⟨y, cb, hj⟩ := mq_387
  rw [n_step (st' := [.ref 49]) (pc' := 82) (lv' := [(0, .ref 49), (2, .int x2)]) (hp' := rH e g q c l) (i := .aload_n 0) (len := 1) rfl hj rfl rfl rfl]
  rw [n_step (st' := [.int (Int32.ofInt (5)), .ref 49]) (pc' := 83) (lv' := [(0, .ref 49), (2, .int x2)]) (hp' := rH e g q c l) (i := .iconst 5) (len := 1) rfl hj rfl rfl rfl]
  rw [n_step (st' := [.int x2, .int (Int32.ofInt (5)), .ref 49]) (pc' := 84) (lv' := [(0, .ref 49), (2, .int x2)]) (hp' := rH e g q c l) (i := .iload_n 2) (len := 1) rfl hj rfl rfl rfl]
  obtain ⟨y2, cb2, hj2⟩ := mq_349
  rw [n_call (f := f) (d := d) (ki := 0) (idx := 427) (j' := 349) (kd := 0) (M' := (y2, cb2, 3, none, 12, 2, 0, 0)) (avs := [.ref 49, .int (Int32.ofInt (5)), .int x2]) (r := []) (rv := none) (hp1 := rH e g' q' c' l') rfl hj rfl rfl rfl rfl (rq_n rfl rfl hj2 rfl rfl) rfl hc (Nat.le_of_ble_eq_true rfl)]
  exact nrun_ext f f _ _ R 387 87 [] [(0, .ref 49), (2, .int x2)] [] _ 0 0 122 (Nat.le_refl _) (Nat.le_refl _) (Nat.le_of_ble_eq_true rfl) (lvR_mk [] [0, 2] rfl rfl (by decide) (by decide) (fun _ h => nomatch h) (List.forall_mem_cons.mpr ⟨Or.inr rfl, (List.forall_mem_cons.mpr ⟨Or.inr rfl, (fun _ h => nomatch h)⟩)⟩)) h
set_option maxRecDepth 100000 in
set_option maxHeartbeats 4000000 in
theorem bk_387_87 {b : Bool} {d : Nat} {e : Nat → x_E} {g : Nat → Int32} {q : Nat → Int64} {c : Nat → Nat → Int32} {l : Nat → Nat → Int64} : rr b e d 387 87 [] [] g q c l (some (.int (Int32.ofInt (-1))), rH e g q c l) := by
  refine ⟨0 + 2, ?_⟩
  obtain ⟨y, cb, hj⟩ := mq_387
  rw [n_step (st' := [.int (Int32.ofInt (-1))]) (pc' := 88) (lv' := []) (hp' := rH e g q c l) (i := .iconst (-1)) (len := 1) rfl hj rfl rfl rfl]
  exact n_ret rfl hj rfl rfl (x_ret rfl)
set_option maxRecDepth 100000 in
set_option maxHeartbeats 4000000 in
theorem bk_387_89 {b : Bool} {d : Nat} {x1 x4 : Int32} {e : Nat → x_E} {g : Nat → Int32} {q : Nat → Int64} {c : Nat → Nat → Int32} {l : Nat → Nat → Int64} {g' : Nat → Int32} {q' : Nat → Int64} {c' : Nat → Nat → Int32} {l' : Nat → Nat → Int64} {v : Int32} {R : Option Value × List x_E} (hc : rr b e d 388 0 [(0, .ref 49), (1, .int x1), (2, .int x4), (3, .int (Int32.ofInt (1)))] [] g q c l (some (.int v), rH e g' q' c' l')) (h : rr b e (d + 1) 387 97 [] [.int v] g' q' c' l' R) : rr b e (d + 1) 387 89 [(0, .ref 49), (1, .int x1), (4, .int x4)] [] g q c l R := by
  obtain ⟨f1, hc⟩ := hc
  obtain ⟨f2, h⟩ := h
  obtain ⟨f, hf1, hf2⟩ : ∃ f, f1 ≤ f ∧ f2 ≤ f := ⟨max f1 f2, Nat.le_max_left _ _, Nat.le_max_right _ _⟩
  have hc := nrun_fuel f1 f _ _ _ _ _ _ _ _ _ hf1 hc
  have h := nrun_fuel f2 f _ _ _ _ _ _ _ _ _ hf2 h
  refine ⟨f + 5, ?_⟩
  obtain ⟨y, cb, hj⟩ := mq_387
  rw [n_step (st' := [.ref 49]) (pc' := 90) (lv' := [(0, .ref 49), (1, .int x1), (4, .int x4)]) (hp' := rH e g q c l) (i := .aload_n 0) (len := 1) rfl hj rfl rfl rfl]
  rw [n_step (st' := [.int x1, .ref 49]) (pc' := 91) (lv' := [(0, .ref 49), (1, .int x1), (4, .int x4)]) (hp' := rH e g q c l) (i := .iload_n 1) (len := 1) rfl hj rfl rfl rfl]
  rw [n_step (st' := [.int x4, .int x1, .ref 49]) (pc' := 93) (lv' := [(0, .ref 49), (1, .int x1), (4, .int x4)]) (hp' := rH e g q c l) (i := .iload 4) (len := 2) rfl hj rfl rfl rfl]
  rw [n_step (st' := [.int (Int32.ofInt (1)), .int x4, .int x1, .ref 49]) (pc' := 94) (lv' := [(0, .ref 49), (1, .int x1), (4, .int x4)]) (hp' := rH e g q c l) (i := .iconst 1) (len := 1) rfl hj rfl rfl rfl]
  obtain ⟨y2, cb2, hj2⟩ := mq_388
  rw [n_call (f := f) (d := d) (ki := 0) (idx := 526) (j' := 388) (kd := 0) (M' := (y2, cb2, 10, some .int, 12, 3, 0, 0)) (avs := [.ref 49, .int x1, .int x4, .int (Int32.ofInt (1))]) (r := []) (rv := some (.int v)) (hp1 := rH e g' q' c' l') rfl hj rfl rfl rfl rfl (rq_n rfl rfl hj2 rfl rfl) rfl hc (Nat.le_of_ble_eq_true rfl)]
  exact nrun_ext f f _ _ R 387 97 [] [(0, .ref 49), (1, .int x1), (4, .int x4)] [.int v] _ 0 0 122 (Nat.le_refl _) (Nat.le_refl _) (Nat.le_of_ble_eq_true rfl) (lvR_mk [] [0, 1, 4] rfl rfl (by decide) (by decide) (fun _ h => nomatch h) (List.forall_mem_cons.mpr ⟨Or.inr rfl, (List.forall_mem_cons.mpr ⟨Or.inr rfl, (List.forall_mem_cons.mpr ⟨Or.inr rfl, (fun _ h => nomatch h)⟩)⟩)⟩)) h
set_option maxRecDepth 100000 in
set_option maxHeartbeats 4000000 in
theorem bk_387_97 {b : Bool} {d : Nat} {t0 : Int32} {e : Nat → x_E} {g : Nat → Int32} {q : Nat → Int64} {c : Nat → Nat → Int32} {l : Nat → Nat → Int64} : rr b e d 387 97 [] [.int t0] g q c l (some (.int t0), rH e g q c l) := by
  refine ⟨0 + 1, ?_⟩
  obtain ⟨y, cb, hj⟩ := mq_387
  exact n_ret rfl hj rfl rfl (x_ret rfl)
set_option maxRecDepth 100000 in
set_option maxHeartbeats 4000000 in
theorem bk_388_0 {b : Bool} {d : Nat} {x1 x2 x3 : Int32} {e : Nat → x_E} {g : Nat → Int32} {q : Nat → Int64} {c : Nat → Nat → Int32} {l : Nat → Nat → Int64} {R : Option Value × List x_E} (h1 : xCn .eq x3 0 = true → rr b e d 388 11 [(0, .ref 49), (1, .int x1), (2, .int x2), (3, .int x3)] [] g q c l R) (h2 : ¬ xCn .eq x3 0 = true → rr b e d 388 4 [(0, .ref 49), (1, .int x1), (2, .int x2), (3, .int x3)] [] g q c l R) : rr b e d 388 0 [(0, .ref 49), (1, .int x1), (2, .int x2), (3, .int x3)] [] g q c l R := by
  have key : ∀ f, nrun xZ (xY (xfm b)) xDT (f + 2) d 388 0 [(0, .ref 49), (1, .int x1), (2, .int x2), (3, .int x3)] [] (rH e g q c l) 0 0 = nrun xZ (xY (xfm b)) xDT f d 388 (if xCn .eq x3 0 = true then 11 else 4) [(0, .ref 49), (1, .int x1), (2, .int x2), (3, .int x3)] [] (rH e g q c l) 0 0 := by
    intro f
    obtain ⟨y, cb, hj⟩ := mq_388
    rw [n_step (st' := [.int x3]) (pc' := 1) (lv' := [(0, .ref 49), (1, .int x1), (2, .int x2), (3, .int x3)]) (hp' := rH e g q c l) (i := .iload_n 3) (len := 1) rfl hj rfl rfl rfl]
    rw [n_step (st' := []) (pc' := (if xCn .eq x3 0 = true then 11 else 4)) (lv' := [(0, .ref 49), (1, .int x1), (2, .int x2), (3, .int x3)]) (hp' := rH e g q c l) (i := .ifCond .eq 10) (len := 3) rfl hj rfl rfl rfl]
  by_cases hc : xCn .eq x3 0 = true
  · obtain ⟨f, h⟩ := h1 hc
    refine ⟨f + 2, ?_⟩
    rw [key, if_pos hc]
    exact h
  · obtain ⟨f, h⟩ := h2 hc
    refine ⟨f + 2, ?_⟩
    rw [key, if_neg hc]
    exact h
set_option maxRecDepth 100000 in
set_option maxHeartbeats 4000000 in
theorem bk_388_4 {b : Bool} {d : Nat} {x1 x2 x3 : Int32} {e : Nat → x_E} {g : Nat → Int32} {q : Nat → Int64} {c : Nat → Nat → Int32} {l : Nat → Nat → Int64} {g' : Nat → Int32} {q' : Nat → Int64} {c' : Nat → Nat → Int32} {l' : Nat → Nat → Int64} {v : Int32} {R : Option Value × List x_E} (hc : rr b e d 333 0 [(0, .ref 49)] [] g q c l (some (.int v), rH e g' q' c' l')) (h : rr b e (d + 1) 388 8 [(0, .ref 49), (1, .int x1), (2, .int x2), (3, .int x3)] [.int v] g' q' c' l' R) : rr b e (d + 1) 388 4 [(0, .ref 49), (1, .int x1), (2, .int x2), (3, .int x3)] [] g q c l R := by
  obtain ⟨f1, hc⟩ := hc
  obtain ⟨f2, h⟩ := h
  obtain ⟨f, hf1, hf2⟩ : ∃ f, f1 ≤ f ∧ f2 ≤ f := ⟨max f1 f2, Nat.le_max_left _ _, Nat.le_max_right _ _⟩
  have hc := nrun_fuel f1 f _ _ _ _ _ _ _ _ _ hf1 hc
  have h := nrun_fuel f2 f _ _ _ _ _ _ _ _ _ hf2 h
  refine ⟨f + 2, ?_⟩
  obtain ⟨y, cb, hj⟩ := mq_388
  rw [n_step (st' := [.ref 49]) (pc' := 5) (lv' := [(0, .ref 49), (1, .int x1), (2, .int x2), (3, .int x3)]) (hp' := rH e g q c l) (i := .aload_n 0) (len := 1) rfl hj rfl rfl rfl]
  obtain ⟨y2, cb2, hj2⟩ := mq_333
  rw [n_call (f := f) (d := d) (ki := 0) (idx := 380) (j' := 333) (kd := 0) (M' := (y2, cb2, 1, some .int, 12, 0, 0, 0)) (avs := [.ref 49]) (r := []) (rv := some (.int v)) (hp1 := rH e g' q' c' l') rfl hj rfl rfl rfl rfl (rq_n rfl rfl hj2 rfl rfl) rfl hc (Nat.le_of_ble_eq_true rfl)]
  exact h
set_option maxRecDepth 100000 in
set_option maxHeartbeats 4000000 in
theorem bk_388_8 {b : Bool} {d : Nat} {t0 x1 x2 x3 : Int32} {e : Nat → x_E} {g : Nat → Int32} {q : Nat → Int64} {c : Nat → Nat → Int32} {l : Nat → Nat → Int64} {R : Option Value × List x_E} (h : rr b e d 388 12 [(0, .ref 49), (1, .int x1), (2, .int x2), (3, .int x3)] [.int t0] g q c l R) : rr b e d 388 8 [(0, .ref 49), (1, .int x1), (2, .int x2), (3, .int x3)] [.int t0] g q c l R := by
  obtain ⟨f, h⟩ := h
  refine ⟨f + 1, ?_⟩
  obtain ⟨y, cb, hj⟩ := mq_388
  rw [n_step (st' := [.int t0]) (pc' := 12) (lv' := [(0, .ref 49), (1, .int x1), (2, .int x2), (3, .int x3)]) (hp' := rH e g q c l) (i := .goto 4) (len := 3) rfl hj rfl rfl rfl]
  exact h
set_option maxRecDepth 100000 in
set_option maxHeartbeats 4000000 in
theorem bk_388_11 {b : Bool} {d : Nat} {x1 x2 x3 : Int32} {e : Nat → x_E} {g : Nat → Int32} {q : Nat → Int64} {c : Nat → Nat → Int32} {l : Nat → Nat → Int64} {R : Option Value × List x_E} (h : rr b e d 388 12 [(0, .ref 49), (1, .int x1), (2, .int x2), (3, .int x3)] [.int (Int32.ofInt (0))] g q c l R) : rr b e d 388 11 [(0, .ref 49), (1, .int x1), (2, .int x2), (3, .int x3)] [] g q c l R := by
  obtain ⟨f, h⟩ := h
  refine ⟨f + 1, ?_⟩
  obtain ⟨y, cb, hj⟩ := mq_388
  rw [n_step (st' := [.int (Int32.ofInt (0))]) (pc' := 12) (lv' := [(0, .ref 49), (1, .int x1), (2, .int x2), (3, .int x3)]) (hp' := rH e g q c l) (i := .iconst 0) (len := 1) rfl hj rfl rfl rfl]
  exact h
set_option maxRecDepth 100000 in
set_option maxHeartbeats 4000000 in
theorem bk_388_12 {b : Bool} {d : Nat} {t0 x1 x2 x3 : Int32} {e : Nat → x_E} {g : Nat → Int32} {q : Nat → Int64} {c : Nat → Nat → Int32} {l : Nat → Nat → Int64} {R : Option Value × List x_E} (h : rr b e d 388 23 [(0, .ref 49), (1, .int x1), (2, .int x2), (3, .int x3), (4, .int t0), (5, .int (Int32.ofInt (0))), (6, .int (Int32.ofInt (0))), (7, .int (Int32.ofInt (1)))] [] g q c l R) : rr b e d 388 12 [(0, .ref 49), (1, .int x1), (2, .int x2), (3, .int x3)] [.int t0] g q c l R := by
  obtain ⟨f, h⟩ := h
  refine ⟨f + 7, ?_⟩
  obtain ⟨y, cb, hj⟩ := mq_388
  rw [n_step (st' := []) (pc' := 14) (lv' := [(4, .int t0), (0, .ref 49), (1, .int x1), (2, .int x2), (3, .int x3)]) (hp' := rH e g q c l) (i := .istore 4) (len := 2) rfl hj rfl rfl rfl]
  rw [n_step (st' := [.int (Int32.ofInt (0))]) (pc' := 15) (lv' := [(4, .int t0), (0, .ref 49), (1, .int x1), (2, .int x2), (3, .int x3)]) (hp' := rH e g q c l) (i := .iconst 0) (len := 1) rfl hj rfl rfl rfl]
  rw [n_step (st' := []) (pc' := 17) (lv' := [(5, .int (Int32.ofInt (0))), (4, .int t0), (0, .ref 49), (1, .int x1), (2, .int x2), (3, .int x3)]) (hp' := rH e g q c l) (i := .istore 5) (len := 2) rfl hj rfl rfl rfl]
  rw [n_step (st' := [.int (Int32.ofInt (0))]) (pc' := 18) (lv' := [(5, .int (Int32.ofInt (0))), (4, .int t0), (0, .ref 49), (1, .int x1), (2, .int x2), (3, .int x3)]) (hp' := rH e g q c l) (i := .iconst 0) (len := 1) rfl hj rfl rfl rfl]
  rw [n_step (st' := []) (pc' := 20) (lv' := [(6, .int (Int32.ofInt (0))), (5, .int (Int32.ofInt (0))), (4, .int t0), (0, .ref 49), (1, .int x1), (2, .int x2), (3, .int x3)]) (hp' := rH e g q c l) (i := .istore 6) (len := 2) rfl hj rfl rfl rfl]
  rw [n_step (st' := [.int (Int32.ofInt (1))]) (pc' := 21) (lv' := [(6, .int (Int32.ofInt (0))), (5, .int (Int32.ofInt (0))), (4, .int t0), (0, .ref 49), (1, .int x1), (2, .int x2), (3, .int x3)]) (hp' := rH e g q c l) (i := .iconst 1) (len := 1) rfl hj rfl rfl rfl]
  rw [n_step (st' := []) (pc' := 23) (lv' := [(7, .int (Int32.ofInt (1))), (6, .int (Int32.ofInt (0))), (5, .int (Int32.ofInt (0))), (4, .int t0), (0, .ref 49), (1, .int x1), (2, .int x2), (3, .int x3)]) (hp' := rH e g q c l) (i := .istore 7) (len := 2) rfl hj rfl rfl rfl]
  exact nrun_ext f f _ _ R 388 23 [(0, .ref 49), (1, .int x1), (2, .int x2), (3, .int x3), (4, .int t0), (5, .int (Int32.ofInt (0))), (6, .int (Int32.ofInt (0))), (7, .int (Int32.ofInt (1)))] [(7, .int (Int32.ofInt (1))), (6, .int (Int32.ofInt (0))), (5, .int (Int32.ofInt (0))), (4, .int t0), (0, .ref 49), (1, .int x1), (2, .int x2), (3, .int x3)] [] _ 0 0 122 (Nat.le_refl _) (Nat.le_refl _) (Nat.le_of_ble_eq_true rfl) (lvR_mk [0, 1, 2, 3, 4, 5, 6, 7] [7, 6, 5, 4, 0, 1, 2, 3] rfl rfl (by decide) (by decide) (List.forall_mem_cons.mpr ⟨(List.mem_cons_of_mem _ (List.mem_cons_of_mem _ (List.mem_cons_of_mem _ (List.mem_cons_of_mem _ List.mem_cons_self)))), (List.forall_mem_cons.mpr ⟨(List.mem_cons_of_mem _ (List.mem_cons_of_mem _ (List.mem_cons_of_mem _ (List.mem_cons_of_mem _ (List.mem_cons_of_mem _ List.mem_cons_self))))), (List.forall_mem_cons.mpr ⟨(List.mem_cons_of_mem _ (List.mem_cons_of_mem _ (List.mem_cons_of_mem _ (List.mem_cons_of_mem _ (List.mem_cons_of_mem _ (List.mem_cons_of_mem _ List.mem_cons_self)))))), (List.forall_mem_cons.mpr ⟨(List.mem_cons_of_mem _ (List.mem_cons_of_mem _ (List.mem_cons_of_mem _ (List.mem_cons_of_mem _ (List.mem_cons_of_mem _ (List.mem_cons_of_mem _ (List.mem_cons_of_mem _ List.mem_cons_self))))))), (List.forall_mem_cons.mpr ⟨(List.mem_cons_of_mem _ (List.mem_cons_of_mem _ (List.mem_cons_of_mem _ List.mem_cons_self))), (List.forall_mem_cons.mpr ⟨(List.mem_cons_of_mem _ (List.mem_cons_of_mem _ List.mem_cons_self)), (List.forall_mem_cons.mpr ⟨(List.mem_cons_of_mem _ List.mem_cons_self), (List.forall_mem_cons.mpr ⟨List.mem_cons_self, (fun _ h => nomatch h)⟩)⟩)⟩)⟩)⟩)⟩)⟩)⟩) (List.forall_mem_cons.mpr ⟨Or.inl (List.mem_cons_of_mem _ (List.mem_cons_of_mem _ (List.mem_cons_of_mem _ (List.mem_cons_of_mem _ (List.mem_cons_of_mem _ (List.mem_cons_of_mem _ (List.mem_cons_of_mem _ List.mem_cons_self))))))), (List.forall_mem_cons.mpr ⟨Or.inl (List.mem_cons_of_mem _ (List.mem_cons_of_mem _ (List.mem_cons_of_mem _ (List.mem_cons_of_mem _ (List.mem_cons_of_mem _ (List.mem_cons_of_mem _ List.mem_cons_self)))))), (List.forall_mem_cons.mpr ⟨Or.inl (List.mem_cons_of_mem _ (List.mem_cons_of_mem _ (List.mem_cons_of_mem _ (List.mem_cons_of_mem _ (List.mem_cons_of_mem _ List.mem_cons_self))))), (List.forall_mem_cons.mpr ⟨Or.inl (List.mem_cons_of_mem _ (List.mem_cons_of_mem _ (List.mem_cons_of_mem _ (List.mem_cons_of_mem _ List.mem_cons_self)))), (List.forall_mem_cons.mpr ⟨Or.inl List.mem_cons_self, (List.forall_mem_cons.mpr ⟨Or.inl (List.mem_cons_of_mem _ List.mem_cons_self), (List.forall_mem_cons.mpr ⟨Or.inl (List.mem_cons_of_mem _ (List.mem_cons_of_mem _ List.mem_cons_self)), (List.forall_mem_cons.mpr ⟨Or.inl (List.mem_cons_of_mem _ (List.mem_cons_of_mem _ (List.mem_cons_of_mem _ List.mem_cons_self))), (fun _ h => nomatch h)⟩)⟩)⟩)⟩)⟩)⟩)⟩)⟩)) h
set_option maxRecDepth 100000 in
set_option maxHeartbeats 4000000 in
theorem bk_388_23 {b : Bool} {d : Nat} {x1 x2 x3 x4 x5 x6 x7 : Int32} {e : Nat → x_E} {g : Nat → Int32} {q : Nat → Int64} {c : Nat → Nat → Int32} {l : Nat → Nat → Int64} {R : Option Value × List x_E} (hz0 : ¬ (x1 < 0 ∨ 1300 ≤ (x1).toNatClampNeg)) (h1 : xCn .ge x7 ((c 57 (x1).toNatClampNeg)) = true → rr b e d 388 204 [(0, .ref 49), (3, .int x3), (4, .int x4), (5, .int x5)] [] g q c l R) (h2 : ¬ xCn .ge x7 ((c 57 (x1).toNatClampNeg)) = true → rr b e d 388 34 [(0, .ref 49), (1, .int x1), (2, .int x2), (3, .int x3), (4, .int x4), (5, .int x5), (6, .int x6), (7, .int x7)] [] g q c l R) : rr b e d 388 23 [(0, .ref 49), (1, .int x1), (2, .int x2), (3, .int x3), (4, .int x4), (5, .int x5), (6, .int x6), (7, .int x7)] [] g q c l R := by
  have key : ∀ f, nrun xZ (xY (xfm b)) xDT (f + 6) d 388 23 [(0, .ref 49), (1, .int x1), (2, .int x2), (3, .int x3), (4, .int x4), (5, .int x5), (6, .int x6), (7, .int x7)] [] (rH e g q c l) 0 0 = nrun xZ (xY (xfm b)) xDT f d 388 (if xCn .ge x7 ((c 57 (x1).toNatClampNeg)) = true then 204 else 34) [(0, .ref 49), (1, .int x1), (2, .int x2), (3, .int x3), (4, .int x4), (5, .int x5), (6, .int x6), (7, .int x7)] [] (rH e g q c l) 0 0 := by
    intro f
    obtain ⟨y, cb, hj⟩ := mq_388
    rw [n_step (st' := [.int x7]) (pc' := 25) (lv' := [(0, .ref 49), (1, .int x1), (2, .int x2), (3, .int x3), (4, .int x4), (5, .int x5), (6, .int x6), (7, .int x7)]) (hp' := rH e g q c l) (i := .iload 7) (len := 2) rfl hj rfl rfl rfl]
    rw [n_step (st' := [.ref 49, .int x7]) (pc' := 26) (lv' := [(0, .ref 49), (1, .int x1), (2, .int x2), (3, .int x3), (4, .int x4), (5, .int x5), (6, .int x6), (7, .int x7)]) (hp' := rH e g q c l) (i := .aload_n 0) (len := 1) rfl hj rfl rfl rfl]
    rw [n_get (st' := [.ref 57, .int x7]) (pc' := 29) (lv' := [(0, .ref 49), (1, .int x1), (2, .int x2), (3, .int x3), (4, .int x4), (5, .int x5), (6, .int x6), (7, .int x7)]) (hp' := rH e g q c l) (i := .getfield 37) (len := 3) rfl hj rfl rfl rfl rfl]
    rw [n_step (st' := [.int x1, .ref 57, .int x7]) (pc' := 30) (lv' := [(0, .ref 49), (1, .int x1), (2, .int x2), (3, .int x3), (4, .int x4), (5, .int x5), (6, .int x6), (7, .int x7)]) (hp' := rH e g q c l) (i := .iload_n 1) (len := 1) rfl hj rfl rfl rfl]
    rw [n_ial (st' := [.int (c 57 (x1).toNatClampNeg), .int x7]) rfl hj (ald_57 hz0)]
    rw [n_step (st' := []) (pc' := (if xCn .ge x7 ((c 57 (x1).toNatClampNeg)) = true then 204 else 34)) (lv' := [(0, .ref 49), (1, .int x1), (2, .int x2), (3, .int x3), (4, .int x4), (5, .int x5), (6, .int x6), (7, .int x7)]) (hp' := rH e g q c l) (i := .if_icmp .ge 173) (len := 3) rfl hj rfl rfl rfl]
  by_cases hc : xCn .ge x7 ((c 57 (x1).toNatClampNeg)) = true
  · obtain ⟨f, h⟩ := h1 hc
    refine ⟨f + 6, ?_⟩
    rw [key, if_pos hc]
    exact nrun_ext f f _ _ R 388 204 [(0, .ref 49), (3, .int x3), (4, .int x4), (5, .int x5)] [(0, .ref 49), (1, .int x1), (2, .int x2), (3, .int x3), (4, .int x4), (5, .int x5), (6, .int x6), (7, .int x7)] [] _ 0 0 122 (Nat.le_refl _) (Nat.le_refl _) (Nat.le_of_ble_eq_true rfl) (lvR_mk [0, 3, 4, 5] [0, 1, 2, 3, 4, 5, 6, 7] rfl rfl (by decide) (by decide) (List.forall_mem_cons.mpr ⟨List.mem_cons_self, (List.forall_mem_cons.mpr ⟨(List.mem_cons_of_mem _ (List.mem_cons_of_mem _ (List.mem_cons_of_mem _ List.mem_cons_self))), (List.forall_mem_cons.mpr ⟨(List.mem_cons_of_mem _ (List.mem_cons_of_mem _ (List.mem_cons_of_mem _ (List.mem_cons_of_mem _ List.mem_cons_self)))), (List.forall_mem_cons.mpr ⟨(List.mem_cons_of_mem _ (List.mem_cons_of_mem _ (List.mem_cons_of_mem _ (List.mem_cons_of_mem _ (List.mem_cons_of_mem _ List.mem_cons_self))))), (fun _ h => nomatch h)⟩)⟩)⟩)⟩) (List.forall_mem_cons.mpr ⟨Or.inl List.mem_cons_self, (List.forall_mem_cons.mpr ⟨Or.inr rfl, (List.forall_mem_cons.mpr ⟨Or.inr rfl, (List.forall_mem_cons.mpr ⟨Or.inl (List.mem_cons_of_mem _ List.mem_cons_self), (List.forall_mem_cons.mpr ⟨Or.inl (List.mem_cons_of_mem _ (List.mem_cons_of_mem _ List.mem_cons_self)), (List.forall_mem_cons.mpr ⟨Or.inl (List.mem_cons_of_mem _ (List.mem_cons_of_mem _ (List.mem_cons_of_mem _ List.mem_cons_self))), (List.forall_mem_cons.mpr ⟨Or.inr rfl, (List.forall_mem_cons.mpr ⟨Or.inr rfl, (fun _ h => nomatch h)⟩)⟩)⟩)⟩)⟩)⟩)⟩)⟩)) h
  · obtain ⟨f, h⟩ := h2 hc
    refine ⟨f + 6, ?_⟩
    rw [key, if_neg hc]
    exact h
set_option maxRecDepth 100000 in
set_option maxHeartbeats 4000000 in
theorem bk_388_34 {b : Bool} {d : Nat} {x1 x2 x3 x4 x5 x6 x7 : Int32} {e : Nat → x_E} {g : Nat → Int32} {q : Nat → Int64} {c : Nat → Nat → Int32} {l : Nat → Nat → Int64} {R : Option Value × List x_E} (hz0 : ¬ (x1 < 0 ∨ 1300 ≤ (x1).toNatClampNeg)) (hz1 : ¬ (((c 56 (x1).toNatClampNeg) + x7) < 0 ∨ 66000 ≤ (((c 56 (x1).toNatClampNeg) + x7)).toNatClampNeg)) (h : rr b e d 388 50 [(0, .ref 49), (1, .int x1), (2, .int x2), (3, .int x3), (4, .int x4), (5, .int x5), (6, .int x6), (7, .int x7), (8, .int (c 55 (((c 56 (x1).toNatClampNeg) + x7)).toNatClampNeg))] [] g q c l R) : rr b e d 388 34 [(0, .ref 49), (1, .int x1), (2, .int x2), (3, .int x3), (4, .int x4), (5, .int x5), (6, .int x6), (7, .int x7)] [] g q c l R := by
  obtain ⟨f, h⟩ := h
  refine ⟨f + 10, ?_⟩
  obtain ⟨y, cb, hj⟩ := mq_388
  rw [n_step (st' := [.ref 49]) (pc' := 35) (lv' := [(0, .ref 49), (1, .int x1), (2, .int x2), (3, .int x3), (4, .int x4), (5, .int x5), (6, .int x6), (7, .int x7)]) (hp' := rH e g q c l) (i := .aload_n 0) (len := 1) rfl hj rfl rfl rfl]
  rw [n_get (st' := [.ref 55]) (pc' := 38) (lv' := [(0, .ref 49), (1, .int x1), (2, .int x2), (3, .int x3), (4, .int x4), (5, .int x5), (6, .int x6), (7, .int x7)]) (hp' := rH e g q c l) (i := .getfield 31) (len := 3) rfl hj rfl rfl rfl rfl]
  rw [n_step (st' := [.ref 49, .ref 55]) (pc' := 39) (lv' := [(0, .ref 49), (1, .int x1), (2, .int x2), (3, .int x3), (4, .int x4), (5, .int x5), (6, .int x6), (7, .int x7)]) (hp' := rH e g q c l) (i := .aload_n 0) (len := 1) rfl hj rfl rfl rfl]
  rw [n_get (st' := [.ref 56, .ref 55]) (pc' := 42) (lv' := [(0, .ref 49), (1, .int x1), (2, .int x2), (3, .int x3), (4, .int x4), (5, .int x5), (6, .int x6), (7, .int x7)]) (hp' := rH e g q c l) (i := .getfield 34) (len := 3) rfl hj rfl rfl rfl rfl]
  rw [n_step (st' := [.int x1, .ref 56, .ref 55]) (pc' := 43) (lv' := [(0, .ref 49), (1, .int x1), (2, .int x2), (3, .int x3), (4, .int x4), (5, .int x5), (6, .int x6), (7, .int x7)]) (hp' := rH e g q c l) (i := .iload_n 1) (len := 1) rfl hj rfl rfl rfl]
  rw [n_ial (st' := [.int (c 56 (x1).toNatClampNeg), .ref 55]) rfl hj (ald_56 hz0)]
  rw [n_step (st' := [.int x7, .int (c 56 (x1).toNatClampNeg), .ref 55]) (pc' := 46) (lv' := [(0, .ref 49), (1, .int x1), (2, .int x2), (3, .int x3), (4, .int x4), (5, .int x5), (6, .int x6), (7, .int x7)]) (hp' := rH e g q c l) (i := .iload 7) (len := 2) rfl hj rfl rfl rfl]
  rw [n_step (st' := [.int ((c 56 (x1).toNatClampNeg) + x7), .ref 55]) (pc' := 47) (lv' := [(0, .ref 49), (1, .int x1), (2, .int x2), (3, .int x3), (4, .int x4), (5, .int x5), (6, .int x6), (7, .int x7)]) (hp' := rH e g q c l) (i := .iadd) (len := 1) rfl hj rfl rfl rfl]
  rw [n_ial (st' := [.int (c 55 (((c 56 (x1).toNatClampNeg) + x7)).toNatClampNeg)]) rfl hj (ald_55 hz1)]
  rw [n_step (st' := []) (pc' := 50) (lv' := [(8, .int (c 55 (((c 56 (x1).toNatClampNeg) + x7)).toNatClampNeg)), (0, .ref 49), (1, .int x1), (2, .int x2), (3, .int x3), (4, .int x4), (5, .int x5), (6, .int x6), (7, .int x7)]) (hp' := rH e g q c l) (i := .istore 8) (len := 2) rfl hj rfl rfl rfl]
  exact nrun_ext f f _ _ R 388 50 [(0, .ref 49), (1, .int x1), (2, .int x2), (3, .int x3), (4, .int x4), (5, .int x5), (6, .int x6), (7, .int x7), (8, .int (c 55 (((c 56 (x1).toNatClampNeg) + x7)).toNatClampNeg))] [(8, .int (c 55 (((c 56 (x1).toNatClampNeg) + x7)).toNatClampNeg)), (0, .ref 49), (1, .int x1), (2, .int x2), (3, .int x3), (4, .int x4), (5, .int x5), (6, .int x6), (7, .int x7)] [] _ 0 0 122 (Nat.le_refl _) (Nat.le_refl _) (Nat.le_of_ble_eq_true rfl) (lvR_mk [0, 1, 2, 3, 4, 5, 6, 7, 8] [8, 0, 1, 2, 3, 4, 5, 6, 7] rfl rfl (by decide) (by decide) (List.forall_mem_cons.mpr ⟨(List.mem_cons_of_mem _ List.mem_cons_self), (List.forall_mem_cons.mpr ⟨(List.mem_cons_of_mem _ (List.mem_cons_of_mem _ List.mem_cons_self)), (List.forall_mem_cons.mpr ⟨(List.mem_cons_of_mem _ (List.mem_cons_of_mem _ (List.mem_cons_of_mem _ List.mem_cons_self))), (List.forall_mem_cons.mpr ⟨(List.mem_cons_of_mem _ (List.mem_cons_of_mem _ (List.mem_cons_of_mem _ (List.mem_cons_of_mem _ List.mem_cons_self)))), (List.forall_mem_cons.mpr ⟨(List.mem_cons_of_mem _ (List.mem_cons_of_mem _ (List.mem_cons_of_mem _ (List.mem_cons_of_mem _ (List.mem_cons_of_mem _ List.mem_cons_self))))), (List.forall_mem_cons.mpr ⟨(List.mem_cons_of_mem _ (List.mem_cons_of_mem _ (List.mem_cons_of_mem _ (List.mem_cons_of_mem _ (List.mem_cons_of_mem _ (List.mem_cons_of_mem _ List.mem_cons_self)))))), (List.forall_mem_cons.mpr ⟨(List.mem_cons_of_mem _ (List.mem_cons_of_mem _ (List.mem_cons_of_mem _ (List.mem_cons_of_mem _ (List.mem_cons_of_mem _ (List.mem_cons_of_mem _ (List.mem_cons_of_mem _ List.mem_cons_self))))))), (List.forall_mem_cons.mpr ⟨(List.mem_cons_of_mem _ (List.mem_cons_of_mem _ (List.mem_cons_of_mem _ (List.mem_cons_of_mem _ (List.mem_cons_of_mem _ (List.mem_cons_of_mem _ (List.mem_cons_of_mem _ (List.mem_cons_of_mem _ List.mem_cons_self)))))))), (List.forall_mem_cons.mpr ⟨List.mem_cons_self, (fun _ h => nomatch h)⟩)⟩)⟩)⟩)⟩)⟩)⟩)⟩)⟩) (List.forall_mem_cons.mpr ⟨Or.inl (List.mem_cons_of_mem _ (List.mem_cons_of_mem _ (List.mem_cons_of_mem _ (List.mem_cons_of_mem _ (List.mem_cons_of_mem _ (List.mem_cons_of_mem _ (List.mem_cons_of_mem _ (List.mem_cons_of_mem _ List.mem_cons_self)))))))), (List.forall_mem_cons.mpr ⟨Or.inl List.mem_cons_self, (List.forall_mem_cons.mpr ⟨Or.inl (List.mem_cons_of_mem _ List.mem_cons_self), (List.forall_mem_cons.mpr ⟨Or.inl (List.mem_cons_of_mem _ (List.mem_cons_of_mem _ List.mem_cons_self)), (List.forall_mem_cons.mpr ⟨Or.inl (List.mem_cons_of_mem _ (List.mem_cons_of_mem _ (List.mem_cons_of_mem _ List.mem_cons_self))), (List.forall_mem_cons.mpr ⟨Or.inl (List.mem_cons_of_mem _ (List.mem_cons_of_mem _ (List.mem_cons_of_mem _ (List.mem_cons_of_mem _ List.mem_cons_self)))), (List.forall_mem_cons.mpr ⟨Or.inl (List.mem_cons_of_mem _ (List.mem_cons_of_mem _ (List.mem_cons_of_mem _ (List.mem_cons_of_mem _ (List.mem_cons_of_mem _ List.mem_cons_self))))), (List.forall_mem_cons.mpr ⟨Or.inl (List.mem_cons_of_mem _ (List.mem_cons_of_mem _ (List.mem_cons_of_mem _ (List.mem_cons_of_mem _ (List.mem_cons_of_mem _ (List.mem_cons_of_mem _ List.mem_cons_self)))))), (List.forall_mem_cons.mpr ⟨Or.inl (List.mem_cons_of_mem _ (List.mem_cons_of_mem _ (List.mem_cons_of_mem _ (List.mem_cons_of_mem _ (List.mem_cons_of_mem _ (List.mem_cons_of_mem _ (List.mem_cons_of_mem _ List.mem_cons_self))))))), (fun _ h => nomatch h)⟩)⟩)⟩)⟩)⟩)⟩)⟩)⟩)⟩)) h
set_option maxRecDepth 100000 in
set_option maxHeartbeats 4000000 in
theorem bk_388_50 {b : Bool} {d : Nat} {x1 x2 x3 x4 x5 x6 x7 x8 : Int32} {e : Nat → x_E} {g : Nat → Int32} {q : Nat → Int64} {c : Nat → Nat → Int32} {l : Nat → Nat → Int64} {R : Option Value × List x_E} (h1 : xCn .le x6 0 = true → rr b e d 388 85 [(0, .ref 49), (1, .int x1), (2, .int x2), (3, .int x3), (4, .int x4), (5, .int x5), (6, .int x6), (7, .int x7), (8, .int x8)] [] g q c l R) (h2 : ¬ xCn .le x6 0 = true → rr b e d 388 55 [(0, .ref 49), (1, .int x1), (2, .int x2), (3, .int x3), (4, .int x4), (5, .int x5), (6, .int x6), (7, .int x7), (8, .int x8)] [] g q c l R) : rr b e d 388 50 [(0, .ref 49), (1, .int x1), (2, .int x2), (3, .int x3), (4, .int x4), (5, .int x5), (6, .int x6), (7, .int x7), (8, .int x8)] [] g q c l R := by
  have key : ∀ f, nrun xZ (xY (xfm b)) xDT (f + 2) d 388 50 [(0, .ref 49), (1, .int x1), (2, .int x2), (3, .int x3), (4, .int x4), (5, .int x5), (6, .int x6), (7, .int x7), (8, .int x8)] [] (rH e g q c l) 0 0 = nrun xZ (xY (xfm b)) xDT f d 388 (if xCn .le x6 0 = true then 85 else 55) [(0, .ref 49), (1, .int x1), (2, .int x2), (3, .int x3), (4, .int x4), (5, .int x5), (6, .int x6), (7, .int x7), (8, .int x8)] [] (rH e g q c l) 0 0 := by
    intro f
    obtain ⟨y, cb, hj⟩ := mq_388
    rw [n_step (st' := [.int x6]) (pc' := 52) (lv' := [(0, .ref 49), (1, .int x1), (2, .int x2), (3, .int x3), (4, .int x4), (5, .int x5), (6, .int x6), (7, .int x7), (8, .int x8)]) (hp' := rH e g q c l) (i := .iload 6) (len := 2) rfl hj rfl rfl rfl]
    rw [n_step (st' := []) (pc' := (if xCn .le x6 0 = true then 85 else 55)) (lv' := [(0, .ref 49), (1, .int x1), (2, .int x2), (3, .int x3), (4, .int x4), (5, .int x5), (6, .int x6), (7, .int x7), (8, .int x8)]) (hp' := rH e g q c l) (i := .ifCond .le 33) (len := 3) rfl hj rfl rfl rfl]
  by_cases hc : xCn .le x6 0 = true
  · obtain ⟨f, h⟩ := h1 hc
    refine ⟨f + 2, ?_⟩
    rw [key, if_pos hc]
    exact h
  · obtain ⟨f, h⟩ := h2 hc
    refine ⟨f + 2, ?_⟩
    rw [key, if_neg hc]
    exact h
set_option maxRecDepth 100000 in
set_option maxHeartbeats 4000000 in
theorem bk_388_55 {b : Bool} {d : Nat} {x1 x2 x3 x4 x5 x6 x7 x8 : Int32} {e : Nat → x_E} {g : Nat → Int32} {q : Nat → Int64} {c : Nat → Nat → Int32} {l : Nat → Nat → Int64} {R : Option Value × List x_E} (hz0 : ¬ ((x6 - (Int32.ofInt (1))) < 0 ∨ 100 ≤ ((x6 - (Int32.ofInt (1)))).toNatClampNeg)) (hz1 : ¬ (x1 < 0 ∨ 1300 ≤ (x1).toNatClampNeg)) (h1 : xCn .gt ((c 58 ((x6 - (Int32.ofInt (1)))).toNatClampNeg)) (((c 56 (x1).toNatClampNeg) + x7)) = true → rr b e d 388 85 [(0, .ref 49), (1, .int x1), (2, .int x2), (3, .int x3), (4, .int x4), (5, .int x5), (6, .int x6), (7, .int x7), (8, .int x8)] [] g q c l R) (h2 : ¬ xCn .gt ((c 58 ((x6 - (Int32.ofInt (1)))).toNatClampNeg)) (((c 56 (x1).toNatClampNeg) + x7)) = true → rr b e d 388 76 [(0, .ref 49), (1, .int x1), (2, .int x2), (3, .int x3), (4, .int x4), (5, .int x5), (6, .int x6), (7, .int x7), (8, .int x8)] [] g q c l R) : rr b e d 388 55 [(0, .ref 49), (1, .int x1), (2, .int x2), (3, .int x3), (4, .int x4), (5, .int x5), (6, .int x6), (7, .int x7), (8, .int x8)] [] g q c l R := by
  have key : ∀ f, nrun xZ (xY (xfm b)) xDT (f + 13) d 388 55 [(0, .ref 49), (1, .int x1), (2, .int x2), (3, .int x3), (4, .int x4), (5, .int x5), (6, .int x6), (7, .int x7), (8, .int x8)] [] (rH e g q c l) 0 0 = nrun xZ (xY (xfm b)) xDT f d 388 (if xCn .gt ((c 58 ((x6 - (Int32.ofInt (1)))).toNatClampNeg)) (((c 56 (x1).toNatClampNeg) + x7)) = true then 85 else 76) [(0, .ref 49), (1, .int x1), (2, .int x2), (3, .int x3), (4, .int x4), (5, .int x5), (6, .int x6), (7, .int x7), (8, .int x8)] [] (rH e g q c l) 0 0 := by
    intro f
    obtain ⟨y, cb, hj⟩ := mq_388
    rw [n_step (st' := [.ref 49]) (pc' := 56) (lv' := [(0, .ref 49), (1, .int x1), (2, .int x2), (3, .int x3), (4, .int x4), (5, .int x5), (6, .int x6), (7, .int x7), (8, .int x8)]) (hp' := rH e g q c l) (i := .aload_n 0) (len := 1) rfl hj rfl rfl rfl]
    rw [n_get (st' := [.ref 58]) (pc' := 59) (lv' := [(0, .ref 49), (1, .int x1), (2, .int x2), (3, .int x3), (4, .int x4), (5, .int x5), (6, .int x6), (7, .int x7), (8, .int x8)]) (hp' := rH e g q c l) (i := .getfield 40) (len := 3) rfl hj rfl rfl rfl rfl]
    rw [n_step (st' := [.int x6, .ref 58]) (pc' := 61) (lv' := [(0, .ref 49), (1, .int x1), (2, .int x2), (3, .int x3), (4, .int x4), (5, .int x5), (6, .int x6), (7, .int x7), (8, .int x8)]) (hp' := rH e g q c l) (i := .iload 6) (len := 2) rfl hj rfl rfl rfl]
    rw [n_step (st' := [.int (Int32.ofInt (1)), .int x6, .ref 58]) (pc' := 62) (lv' := [(0, .ref 49), (1, .int x1), (2, .int x2), (3, .int x3), (4, .int x4), (5, .int x5), (6, .int x6), (7, .int x7), (8, .int x8)]) (hp' := rH e g q c l) (i := .iconst 1) (len := 1) rfl hj rfl rfl rfl]
    rw [n_step (st' := [.int (x6 - (Int32.ofInt (1))), .ref 58]) (pc' := 63) (lv' := [(0, .ref 49), (1, .int x1), (2, .int x2), (3, .int x3), (4, .int x4), (5, .int x5), (6, .int x6), (7, .int x7), (8, .int x8)]) (hp' := rH e g q c l) (i := .isub) (len := 1) rfl hj rfl rfl rfl]
    rw [n_ial (st' := [.int (c 58 ((x6 - (Int32.ofInt (1)))).toNatClampNeg)]) rfl hj (ald_58 hz0)]
    rw [n_step (st' := [.ref 49, .int (c 58 ((x6 - (Int32.ofInt (1)))).toNatClampNeg)]) (pc' := 65) (lv' := [(0, .ref 49), (1, .int x1), (2, .int x2), (3, .int x3), (4, .int x4), (5, .int x5), (6, .int x6), (7, .int x7), (8, .int x8)]) (hp' := rH e g q c l) (i := .aload_n 0) (len := 1) rfl hj rfl rfl rfl]
    rw [n_get (st' := [.ref 56, .int (c 58 ((x6 - (Int32.ofInt (1)))).toNatClampNeg)]) (pc' := 68) (lv' := [(0, .ref 49), (1, .int x1), (2, .int x2), (3, .int x3), (4, .int x4), (5, .int x5), (6, .int x6), (7, .int x7), (8, .int x8)]) (hp' := rH e g q c l) (i := .getfield 34) (len := 3) rfl hj rfl rfl rfl rfl]
    rw [n_step (st' := [.int x1, .ref 56, .int (c 58 ((x6 - (Int32.ofInt (1)))).toNatClampNeg)]) (pc' := 69) (lv' := [(0, .ref 49), (1, .int x1), (2, .int x2), (3, .int x3), (4, .int x4), (5, .int x5), (6, .int x6), (7, .int x7), (8, .int x8)]) (hp' := rH e g q c l) (i := .iload_n 1) (len := 1) rfl hj rfl rfl rfl]
    rw [n_ial (st' := [.int (c 56 (x1).toNatClampNeg), .int (c 58 ((x6 - (Int32.ofInt (1)))).toNatClampNeg)]) rfl hj (ald_56 hz1)]
    rw [n_step (st' := [.int x7, .int (c 56 (x1).toNatClampNeg), .int (c 58 ((x6 - (Int32.ofInt (1)))).toNatClampNeg)]) (pc' := 72) (lv' := [(0, .ref 49), (1, .int x1), (2, .int x2), (3, .int x3), (4, .int x4), (5, .int x5), (6, .int x6), (7, .int x7), (8, .int x8)]) (hp' := rH e g q c l) (i := .iload 7) (len := 2) rfl hj rfl rfl rfl]
    rw [n_step (st' := [.int ((c 56 (x1).toNatClampNeg) + x7), .int (c 58 ((x6 - (Int32.ofInt (1)))).toNatClampNeg)]) (pc' := 73) (lv' := [(0, .ref 49), (1, .int x1), (2, .int x2), (3, .int x3), (4, .int x4), (5, .int x5), (6, .int x6), (7, .int x7), (8, .int x8)]) (hp' := rH e g q c l) (i := .iadd) (len := 1) rfl hj rfl rfl rfl]
    rw [n_step (st' := []) (pc' := (if xCn .gt ((c 58 ((x6 - (Int32.ofInt (1)))).toNatClampNeg)) (((c 56 (x1).toNatClampNeg) + x7)) = true then 85 else 76)) (lv' := [(0, .ref 49), (1, .int x1), (2, .int x2), (3, .int x3), (4, .int x4), (5, .int x5), (6, .int x6), (7, .int x7), (8, .int x8)]) (hp' := rH e g q c l) (i := .if_icmp .gt 12) (len := 3) rfl hj rfl rfl rfl]
  by_cases hc : xCn .gt ((c 58 ((x6 - (Int32.ofInt (1)))).toNatClampNeg)) (((c 56 (x1).toNatClampNeg) + x7)) = true
  · obtain ⟨f, h⟩ := h1 hc
    refine ⟨f + 13, ?_⟩
    rw [key, if_pos hc]
    exact h
  · obtain ⟨f, h⟩ := h2 hc
    refine ⟨f + 13, ?_⟩
    rw [key, if_neg hc]
    exact h
