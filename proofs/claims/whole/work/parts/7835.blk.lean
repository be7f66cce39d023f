set_option maxRecDepth 100000 in
set_option maxHeartbeats 4000000 in
theorem bk_457_128 {b : Bool} {d : Nat} {x1 x2 x3 x4 : Int32} {e : Nat → x_E} {g : Nat → Int32} {q : Nat → Int64} {c : Nat → Nat → Int32} {l : Nat → Nat → Int64} {g' : Nat → Int32} {q' : Nat → Int64} {c' : Nat → Nat → Int32} {l' : Nat → Nat → Int64} {v : Int32} {R : Option Value × List x_E} (hc : rr b e d 458 0 [(0, .ref 49), (1, .int x2)] [] g q c l (some (.int v), rH e g' q' c' l')) (h : rr b e (d + 1) 457 139 [(0, .ref 49), (1, .int x1), (3, .int x3)] [.int v, .int x4, .ref 120] g' q' c' l' R) : rr b e (d + 1) 457 128 [(0, .ref 49), (1, .int x1), (2, .int x2), (3, .int x3), (4, .int x4)] [] g q c l R := by
  obtain ⟨f1, hc⟩ := hc
  obtain ⟨f2, h⟩ := h
  obtain ⟨f, hf1, hf2⟩ : ∃ f, f1 ≤ f ∧ f2 ≤ f := ⟨max f1 f2, Nat.le_max_left _ _, Nat.le_max_right _ _⟩
  have hc := nrun_fuel f1 f _ _ _ _ _ _ _ _ _ hf1 hc
  have h := nrun_fuel f2 f _ _ _ _ _ _ _ _ _ hf2 h
  refine ⟨f + 6, ?_⟩
  obtain ⟨y, cb, hj⟩ := mq_457
  rw [n_step (st' := [.ref 49]) (pc' := 129) (lv' := [(0, .ref 49), (1, .int x1), (2, .int x2), (3, .int x3), (4, .int x4)]) (hp' := rH e g q c l) (i := .aload_n 0) (len := 1) rfl hj rfl rfl rfl]
  rw [n_get (st' := [.ref 120]) (pc' := 132) (lv' := [(0, .ref 49), (1, .int x1), (2, .int x2), (3, .int x3), (4, .int x4)]) (hp' := rH e g q c l) (i := .getfield 231) (len := 3) rfl hj rfl rfl rfl rfl]
  rw [n_step (st' := [.int x4, .ref 120]) (pc' := 134) (lv' := [(0, .ref 49), (1, .int x1), (2, .int x2), (3, .int x3), (4, .int x4)]) (hp' := rH e g q c l) (i := .iload 4) (len := 2) rfl hj rfl rfl rfl]
  rw [n_step (st' := [.ref 49, .int x4, .ref 120]) (pc' := 135) (lv' := [(0, .ref 49), (1, .int x1), (2, .int x2), (3, .int x3), (4, .int x4)]) (hp' := rH e g q c l) (i := .aload_n 0) (len := 1) rfl hj rfl rfl rfl]
  rw [n_step (st' := [.int x2, .ref 49, .int x4, .ref 120]) (pc' := 136) (lv' := [(0, .ref 49), (1, .int x1), (2, .int x2), (3, .int x3), (4, .int x4)]) (hp' := rH e g q c l) (i := .iload_n 2) (len := 1) rfl hj rfl rfl rfl]
  obtain ⟨y2, cb2, hj2⟩ := mq_458
  rw [n_call (f := f) (d := d) (ki := 0) (idx := 881) (j' := 458) (kd := 0) (M' := (y2, cb2, 2, some .int, 12, 1, 0, 0)) (avs := [.ref 49, .int x2]) (r := [.int x4, .ref 120]) (rv := some (.int v)) (hp1 := rH e g' q' c' l') rfl hj rfl rfl rfl rfl (rq_n rfl rfl hj2 rfl rfl) rfl hc (Nat.le_of_ble_eq_true rfl)]
  exact nrun_ext f f _ _ R 457 139 [(0, .ref 49), (1, .int x1), (3, .int x3)] [(0, .ref 49), (1, .int x1), (2, .int x2), (3, .int x3), (4, .int x4)] [.int v, .int x4, .ref 120] _ 0 0 122 (Nat.le_refl _) (Nat.le_refl _) (Nat.le_of_ble_eq_true rfl) (lvR_mk [0, 1, 3] [0, 1, 2, 3, 4] rfl rfl (by decide) (by decide) (List.forall_mem_cons.mpr ⟨List.mem_cons_self, (List.forall_mem_cons.mpr ⟨(List.mem_cons_of_mem _ List.mem_cons_self), (List.forall_mem_cons.mpr ⟨(List.mem_cons_of_mem _ (List.mem_cons_of_mem _ (List.mem_cons_of_mem _ List.mem_cons_self))), (fun _ h => nomatch h)⟩)⟩)⟩) (List.forall_mem_cons.mpr ⟨Or.inl List.mem_cons_self, (List.forall_mem_cons.mpr ⟨Or.inl (List.mem_cons_of_mem _ List.mem_cons_self), (List.forall_mem_cons.mpr ⟨Or.inr rfl, (List.forall_mem_cons.mpr ⟨Or.inl (List.mem_cons_of_mem _ (List.mem_cons_of_mem _ List.mem_cons_self)), (List.forall_mem_cons.mpr ⟨Or.inr rfl, (fun _ h => nomatch h)⟩)⟩)⟩)⟩)⟩)) h
set_option maxRecDepth 100000 in
set_option maxHeartbeats 4000000 in
theorem bk_457_139 {b : Bool} {d : Nat} {t0 t1 x1 x3 : Int32} {e : Nat → x_E} {g : Nat → Int32} {q : Nat → Int64} {c : Nat → Nat → Int32} {l : Nat → Nat → Int64} {R : Option Value × List x_E} (hz0 : ¬ (t1 < 0 ∨ 16 ≤ (t1).toNatClampNeg)) (h : rr b e d 457 429 [(0, .ref 49), (1, .int x1), (3, .int x3)] [] g q (updA c 120 (upd (c 120) (t1).toNatClampNeg t0)) l R) : rr b e d 457 139 [(0, .ref 49), (1, .int x1), (3, .int x3)] [.int t0, .int t1, .ref 120] g q c l R := by
  obtain ⟨f, h⟩ := h
  refine ⟨f + 2, ?_⟩
  obtain ⟨y, cb, hj⟩ := mq_457
  rw [n_ias (st' := []) (hp' := rH e g q (updA c 120 (upd (c 120) (t1).toNatClampNeg t0)) l) rfl hj (ast_120 hz0)]
  rw [n_step (st' := []) (pc' := 429) (lv' := [(0, .ref 49), (1, .int x1), (3, .int x3)]) (hp' := rH e g q (updA c 120 (upd (c 120) (t1).toNatClampNeg t0)) l) (i := .goto 289) (len := 3) rfl hj rfl rfl rfl]
  exact h
set_option maxRecDepth 100000 in
set_option maxHeartbeats 4000000 in
theorem bk_457_143 {b : Bool} {d : Nat} {x1 x2 x3 x4 : Int32} {e : Nat → x_E} {g : Nat → Int32} {q : Nat → Int64} {c : Nat → Nat → Int32} {l : Nat → Nat → Int64} {g' : Nat → Int32} {q' : Nat → Int64} {c' : Nat → Nat → Int32} {l' : Nat → Nat → Int64} {v : Int32} {R : Option Value × List x_E} (hz0 : ¬ (x2 < 0 ∨ 700 ≤ (x2).toNatClampNeg)) (hz1 : ¬ ((c 113 (x2).toNatClampNeg) < 0 ∨ 16 ≤ ((c 113 (x2).toNatClampNeg)).toNatClampNeg)) (hc : rr b e d 458 0 [(0, .ref 49), (1, .int x2)] [] g q c l (some (.int v), rH e g' q' c' l')) (h : rr b e (d + 1) 457 165 [(0, .ref 49), (1, .int x1), (3, .int x3)] [.int v, .int (c 120 ((c 113 (x2).toNatClampNeg)).toNatClampNeg), .int x4, .ref 120] g' q' c' l' R) : rr b e (d + 1) 457 143 [(0, .ref 49), (1, .int x1), (2, .int x2), (3, .int x3), (4, .int x4)] [] g q c l R := by
  obtain ⟨f1, hc⟩ := hc
  obtain ⟨f2, h⟩ := h
  obtain ⟨f, hf1, hf2⟩ : ∃ f, f1 ≤ f ∧ f2 ≤ f := ⟨max f1 f2, Nat.le_max_left _ _, Nat.le_max_right _ _⟩
  have hc := nrun_fuel f1 f _ _ _ _ _ _ _ _ _ hf1 hc
  have h := nrun_fuel f2 f _ _ _ _ _ _ _ _ _ hf2 h
  refine ⟨f + 13, ?_⟩
  obtain ⟨y, cb, hj⟩ := mq_457
  rw [n_step (st' := [.ref 49]) (pc' := 144) (lv' := [(0, .ref 49), (1, .int x1), (2, .int x2), (3, .int x3), (4, .int x4)]) (hp' := rH e g q c l) (i := .aload_n 0) (len := 1) rfl hj rfl rfl rfl]
  rw [n_get (st' := [.ref 120]) (pc' := 147) (lv' := [(0, .ref 49), (1, .int x1), (2, .int x2), (3, .int x3), (4, .int x4)]) (hp' := rH e g q c l) (i := .getfield 231) (len := 3) rfl hj rfl rfl rfl rfl]
  rw [n_step (st' := [.int x4, .ref 120]) (pc' := 149) (lv' := [(0, .ref 49), (1, .int x1), (2, .int x2), (3, .int x3), (4, .int x4)]) (hp' := rH e g q c l) (i := .iload 4) (len := 2) rfl hj rfl rfl rfl]
  rw [n_step (st' := [.ref 49, .int x4, .ref 120]) (pc' := 150) (lv' := [(0, .ref 49), (1, .int x1), (2, .int x2), (3, .int x3), (4, .int x4)]) (hp' := rH e g q c l) (i := .aload_n 0) (len := 1) rfl hj rfl rfl rfl]
  rw [n_get (st' := [.ref 120, .int x4, .ref 120]) (pc' := 153) (lv' := [(0, .ref 49), (1, .int x1), (2, .int x2), (3, .int x3), (4, .int x4)]) (hp' := rH e g q c l) (i := .getfield 231) (len := 3) rfl hj rfl rfl rfl rfl]
  rw [n_step (st' := [.ref 49, .ref 120, .int x4, .ref 120]) (pc' := 154) (lv' := [(0, .ref 49), (1, .int x1), (2, .int x2), (3, .int x3), (4, .int x4)]) (hp' := rH e g q c l) (i := .aload_n 0) (len := 1) rfl hj rfl rfl rfl]
  rw [n_get (st' := [.ref 113, .ref 120, .int x4, .ref 120]) (pc' := 157) (lv' := [(0, .ref 49), (1, .int x1), (2, .int x2), (3, .int x3), (4, .int x4)]) (hp' := rH e g q c l) (i := .getfield 210) (len := 3) rfl hj rfl rfl rfl rfl]
  rw [n_step (st' := [.int x2, .ref 113, .ref 120, .int x4, .ref 120]) (pc' := 158) (lv' := [(0, .ref 49), (1, .int x1), (2, .int x2), (3, .int x3), (4, .int x4)]) (hp' := rH e g q c l) (i := .iload_n 2) (len := 1) rfl hj rfl rfl rfl]
  rw [n_ial (st' := [.int (c 113 (x2).toNatClampNeg), .ref 120, .int x4, .ref 120]) rfl hj (ald_113 hz0)]
  rw [n_ial (st' := [.int (c 120 ((c 113 (x2).toNatClampNeg)).toNatClampNeg), .int x4, .ref 120]) rfl hj (ald_120 hz1)]
  rw [n_step (st' := [.ref 49, .int (c 120 ((c 113 (x2).toNatClampNeg)).toNatClampNeg), .int x4, .ref 120]) (pc' := 161) (lv' := [(0, .ref 49), (1, .int x1), (2, .int x2), (3, .int x3), (4, .int x4)]) (hp' := rH e g q c l) (i := .aload_n 0) (len := 1) rfl hj rfl rfl rfl]
  rw [n_step (st' := [.int x2, .ref 49, .int (c 120 ((c 113 (x2).toNatClampNeg)).toNatClampNeg), .int x4, .ref 120]) (pc' := 162) (lv' := [(0, .ref 49), (1, .int x1), (2, .int x2), (3, .int x3), (4, .int x4)]) (hp' := rH e g q c l) (i := .iload_n 2) (len := 1) rfl hj rfl rfl rfl]
  obtain ⟨y2, cb2, hj2⟩ := mq_458
  rw [n_call (f := f) (d := d) (ki := 0) (idx := 881) (j' := 458) (kd := 0) (M' := (y2, cb2, 2, some .int, 12, 1, 0, 0)) (avs := [.ref 49, .int x2]) (r := [.int (c 120 ((c 113 (x2).toNatClampNeg)).toNatClampNeg), .int x4, .ref 120]) (rv := some (.int v)) (hp1 := rH e g' q' c' l') rfl hj rfl rfl rfl rfl (rq_n rfl rfl hj2 rfl rfl) rfl hc (Nat.le_of_ble_eq_true rfl)]
  exact nrun_ext f f _ _ R 457 165 [(0, .ref 49), (1, .int x1), (3, .int x3)] [(0, .ref 49), (1, .int x1), (2, .int x2), (3, .int x3), (4, .int x4)] [.int v, .int (c 120 ((c 113 (x2).toNatClampNeg)).toNatClampNeg), .int x4, .ref 120] _ 0 0 122 (Nat.le_refl _) (Nat.le_refl _) (Nat.le_of_ble_eq_true rfl) (lvR_mk [0, 1, 3] [0, 1, 2, 3, 4] rfl rfl (by decide) (by decide) (List.forall_mem_cons.mpr ⟨List.mem_cons_self, (List.forall_mem_cons.mpr ⟨(List.mem_cons_of_mem _ List.mem_cons_self), (List.forall_mem_cons.mpr ⟨(List.mem_cons_of_mem _ (List.mem_cons_of_mem _ (List.mem_cons_of_mem _ List.mem_cons_self))), (fun _ h => nomatch h)⟩)⟩)⟩) (List.forall_mem_cons.mpr ⟨Or.inl List.mem_cons_self, (List.forall_mem_cons.mpr ⟨Or.inl (List.mem_cons_of_mem _ List.mem_cons_self), (List.forall_mem_cons.mpr ⟨Or.inr rfl, (List.forall_mem_cons.mpr ⟨Or.inl (List.mem_cons_of_mem _ (List.mem_cons_of_mem _ List.mem_cons_self)), (List.forall_mem_cons.mpr ⟨Or.inr rfl, (fun _ h => nomatch h)⟩)⟩)⟩)⟩)⟩)) h
set_option maxRecDepth 100000 in
set_option maxHeartbeats 4000000 in
theorem bk_457_165 {b : Bool} {d : Nat} {t0 t1 t2 x1 x3 : Int32} {e : Nat → x_E} {g : Nat → Int32} {q : Nat → Int64} {c : Nat → Nat → Int32} {l : Nat → Nat → Int64} {R : Option Value × List x_E} (hz0 : ¬ (t2 < 0 ∨ 16 ≤ (t2).toNatClampNeg)) (h : rr b e d 457 429 [(0, .ref 49), (1, .int x1), (3, .int x3)] [] g q (updA c 120 (upd (c 120) (t2).toNatClampNeg ((t1 + t0)))) l R) : rr b e d 457 165 [(0, .ref 49), (1, .int x1), (3, .int x3)] [.int t0, .int t1, .int t2, .ref 120] g q c l R := by
  obtain ⟨f, h⟩ := h
  refine ⟨f + 3, ?_⟩
  obtain ⟨y, cb, hj⟩ := mq_457
  rw [n_step (st' := [.int (t1 + t0), .int t2, .ref 120]) (pc' := 166) (lv' := [(0, .ref 49), (1, .int x1), (3, .int x3)]) (hp' := rH e g q c l) (i := .iadd) (len := 1) rfl hj rfl rfl rfl]
  rw [n_ias (st' := []) (hp' := rH e g q (updA c 120 (upd (c 120) (t2).toNatClampNeg ((t1 + t0)))) l) rfl hj (ast_120 hz0)]
  rw [n_step (st' := []) (pc' := 429) (lv' := [(0, .ref 49), (1, .int x1), (3, .int x3)]) (hp' := rH e g q (updA c 120 (upd (c 120) (t2).toNatClampNeg ((t1 + t0)))) l) (i := .goto 262) (len := 3) rfl hj rfl rfl rfl]
  exact h
set_option maxRecDepth 100000 in
set_option maxHeartbeats 4000000 in
theorem bk_457_170 {b : Bool} {d : Nat} {x1 x2 x3 x4 : Int32} {e : Nat → x_E} {g : Nat → Int32} {q : Nat → Int64} {c : Nat → Nat → Int32} {l : Nat → Nat → Int64} {g' : Nat → Int32} {q' : Nat → Int64} {c' : Nat → Nat → Int32} {l' : Nat → Nat → Int64} {v : Int32} {R : Option Value × List x_E} (hz0 : ¬ (x2 < 0 ∨ 700 ≤ (x2).toNatClampNeg)) (hz1 : ¬ ((c 113 (x2).toNatClampNeg) < 0 ∨ 16 ≤ ((c 113 (x2).toNatClampNeg)).toNatClampNeg)) (hc : rr b e d 458 0 [(0, .ref 49), (1, .int x2)] [] g q c l (some (.int v), rH e g' q' c' l')) (h : rr b e (d + 1) 457 192 [(0, .ref 49), (1, .int x1), (3, .int x3)] [.int v, .int (c 120 ((c 113 (x2).toNatClampNeg)).toNatClampNeg), .int x4, .ref 120] g' q' c' l' R) : rr b e (d + 1) 457 170 [(0, .ref 49), (1, .int x1), (2, .int x2), (3, .int x3), (4, .int x4)] [] g q c l R := by
  obtain ⟨f1, hc⟩ := hc
  obtain ⟨f2, h⟩ := h
  obtain ⟨f, hf1, hf2⟩ : ∃ f, f1 ≤ f ∧ f2 ≤ f := ⟨max f1 f2, Nat.le_max_left _ _, Nat.le_max_right _ _⟩
  have hc := nrun_fuel f1 f _ _ _ _ _ _ _ _ _ hf1 hc
  have h := nrun_fuel f2 f _ _ _ _ _ _ _ _ _ hf2 h
  refine ⟨f + 13, ?_⟩
  obtain ⟨y, cb, hj⟩ := mq_457
  rw [n_step (st' := [.ref 49]) (pc' := 171) (lv' := [(0, .ref 49), (1, .int x1), (2, .int x2), (3, .int x3), (4, .int x4)]) (hp' := rH e g q c l) (i := .aload_n 0) (len := 1) rfl hj rfl rfl rfl]
  rw [n_get (st' := [.ref 120]) (pc' := 174) (lv' := [(0, .ref 49), (1, .int x1), (2, .int x2), (3, .int x3), (4, .int x4)]) (hp' := rH e g q c l) (i := .getfield 231) (len := 3) rfl hj rfl rfl rfl rfl]
  rw [n_step (st' := [.int x4, .ref 120]) (pc' := 176) (lv' := [(0, .ref 49), (1, .int x1), (2, .int x2), (3, .int x3), (4, .int x4)]) (hp' := rH e g q c l) (i := .iload 4) (len := 2) rfl hj rfl rfl rfl]
  rw [n_step (st' := [.ref 49, .int x4, .ref 120]) (pc' := 177) (lv' := [(0, .ref 49), (1, .int x1), (2, .int x2), (3, .int x3), (4, .int x4)]) (hp' := rH e g q c l) (i := .aload_n 0) (len := 1) rfl hj rfl rfl rfl]
  rw [n_get (st' := [.ref 120, .int x4, .ref 120]) (pc' := 180) (lv' := [(0, .ref 49), (1, .int x1), (2, .int x2), (3, .int x3), (4, .int x4)]) (hp' := rH e g q c l) (i := .getfield 231) (len := 3) rfl hj rfl rfl rfl rfl]
  rw [n_step (st' := [.ref 49, .ref 120, .int x4, .ref 120]) (pc' := 181) (lv' := [(0, .ref 49), (1, .int x1), (2, .int x2), (3, .int x3), (4, .int x4)]) (hp' := rH e g q c l) (i := .aload_n 0) (len := 1) rfl hj rfl rfl rfl]
  rw [n_get (st' := [.ref 113, .ref 120, .int x4, .ref 120]) (pc' := 184) (lv' := [(0, .ref 49), (1, .int x1), (2, .int x2), (3, .int x3), (4, .int x4)]) (hp' := rH e g q c l) (i := .getfield 210) (len := 3) rfl hj rfl rfl rfl rfl]
  rw [n_step (st' := [.int x2, .ref 113, .ref 120, .int x4, .ref 120]) (pc' := 185) (lv' := [(0, .ref 49), (1, .int x1), (2, .int x2), (3, .int x3), (4, .int x4)]) (hp' := rH e g q c l) (i := .iload_n 2) (len := 1) rfl hj rfl rfl rfl]
  rw [n_ial (st' := [.int (c 113 (x2).toNatClampNeg), .ref 120, .int x4, .ref 120]) rfl hj (ald_113 hz0)]
  rw [n_ial (st' := [.int (c 120 ((c 113 (x2).toNatClampNeg)).toNatClampNeg), .int x4, .ref 120]) rfl hj (ald_120 hz1)]
  rw [n_step (st' := [.ref 49, .int (c 120 ((c 113 (x2).toNatClampNeg)).toNatClampNeg), .int x4, .ref 120]) (pc' := 188) (lv' := [(0, .ref 49), (1, .int x1), (2, .int x2), (3, .int x3), (4, .int x4)]) (hp' := rH e g q c l) (i := .aload_n 0) (len := 1) rfl hj rfl rfl rfl]
  rw [n_step (st' := [.int x2, .ref 49, .int (c 120 ((c 113 (x2).toNatClampNeg)).toNatClampNeg), .int x4, .ref 120]) (pc' := 189) (lv' := [(0, .ref 49), (1, .int x1), (2, .int x2), (3, .int x3), (4, .int x4)]) (hp' := rH e g q c l) (i := .iload_n 2) (len := 1) rfl hj rfl rfl rfl]
  obtain ⟨y2, cb2, hj2⟩ := mq_458
  rw [n_call (f := f) (d := d) (ki := 0) (idx := 881) (j' := 458) (kd := 0) (M' := (y2, cb2, 2, some .int, 12, 1, 0, 0)) (avs := [.ref 49, .int x2]) (r := [.int (c 120 ((c 113 (x2).toNatClampNeg)).toNatClampNeg), .int x4, .ref 120]) (rv := some (.int v)) (hp1 := rH e g' q' c' l') rfl hj rfl rfl rfl rfl (rq_n rfl rfl hj2 rfl rfl) rfl hc (Nat.le_of_ble_eq_true rfl)]
  exact nrun_ext f f _ _ R 457 192 [(0, .ref 49), (1, .int x1), (3, .int x3)] [(0, .ref 49), (1, .int x1), (2, .int x2), (3, .int x3), (4, .int x4)] [.int v, .int (c 120 ((c 113 (x2).toNatClampNeg)).toNatClampNeg), .int x4, .ref 120] _ 0 0 122 (Nat.le_refl _) (Nat.le_refl _) (Nat.le_of_ble_eq_true rfl) (lvR_mk [0, 1, 3] [0, 1, 2, 3, 4] rfl rfl (by decide) (by decide) (List.forall_mem_cons.mpr ⟨List.mem_cons_self, (List.forall_mem_cons.mpr ⟨(List.mem_cons_of_mem _ List.mem_cons_self), (List.forall_mem_cons.mpr ⟨(List.mem_cons_of_mem _ (List.mem_cons_of_mem _ (List.mem_cons_of_mem _ List.mem_cons_self))), (fun _ h => nomatch h)⟩)⟩)⟩) (List.forall_mem_cons.mpr ⟨Or.inl List.mem_cons_self, (List.forall_mem_cons.mpr ⟨Or.inl (List.mem_cons_of_mem _ List.mem_cons_self), (List.forall_mem_cons.mpr ⟨Or.inr rfl, (List.forall_mem_cons.mpr ⟨Or.inl (List.mem_cons_of_mem _ (List.mem_cons_of_mem _ List.mem_cons_self)), (List.forall_mem_cons.mpr ⟨Or.inr rfl, (fun _ h => nomatch h)⟩)⟩)⟩)⟩)⟩)) h
set_option maxRecDepth 100000 in
set_option maxHeartbeats 4000000 in
theorem bk_457_192 {b : Bool} {d : Nat} {t0 t1 t2 x1 x3 : Int32} {e : Nat → x_E} {g : Nat → Int32} {q : Nat → Int64} {c : Nat → Nat → Int32} {l : Nat → Nat → Int64} {R : Option Value × List x_E} (hz0 : ¬ (t2 < 0 ∨ 16 ≤ (t2).toNatClampNeg)) (h : rr b e d 457 429 [(0, .ref 49), (1, .int x1), (3, .int x3)] [] g q (updA c 120 (upd (c 120) (t2).toNatClampNeg ((t1 - t0)))) l R) : rr b e d 457 192 [(0, .ref 49), (1, .int x1), (3, .int x3)] [.int t0, .int t1, .int t2, .ref 120] g q c l R := by
  obtain ⟨f, h⟩ := h
  refine ⟨f + 3, ?_⟩
  obtain ⟨y, cb, hj⟩ := mq_457
  rw [n_step (st' := [.int (t1 - t0), .int t2, .ref 120]) (pc' := 193) (lv' := [(0, .ref 49), (1, .int x1), (3, .int x3)]) (hp' := rH e g q c l) (i := .isub) (len := 1) rfl hj rfl rfl rfl]
  rw [n_ias (st' := []) (hp' := rH e g q (updA c 120 (upd (c 120) (t2).toNatClampNeg ((t1 - t0)))) l) rfl hj (ast_120 hz0)]
  rw [n_step (st' := []) (pc' := 429) (lv' := [(0, .ref 49), (1, .int x1), (3, .int x3)]) (hp' := rH e g q (updA c 120 (upd (c 120) (t2).toNatClampNeg ((t1 - t0)))) l) (i := .goto 235) (len := 3) rfl hj rfl rfl rfl]
  exact h
set_option maxRecDepth 100000 in
set_option maxHeartbeats 4000000 in
theorem bk_457_197 {b : Bool} {d : Nat} {x1 x2 x3 x4 : Int32} {e : Nat → x_E} {g : Nat → Int32} {q : Nat → Int64} {c : Nat → Nat → Int32} {l : Nat → Nat → Int64} {g' : Nat → Int32} {q' : Nat → Int64} {c' : Nat → Nat → Int32} {l' : Nat → Nat → Int64} {v : Int32} {R : Option Value × List x_E} (hz0 : ¬ (x2 < 0 ∨ 700 ≤ (x2).toNatClampNeg)) (hz1 : ¬ ((c 113 (x2).toNatClampNeg) < 0 ∨ 16 ≤ ((c 113 (x2).toNatClampNeg)).toNatClampNeg)) (hc : rr b e d 458 0 [(0, .ref 49), (1, .int x2)] [] g q c l (some (.int v), rH e g' q' c' l')) (h : rr b e (d + 1) 457 219 [(0, .ref 49), (1, .int x1), (3, .int x3)] [.int v, .int (c 120 ((c 113 (x2).toNatClampNeg)).toNatClampNeg), .int x4, .ref 120] g' q' c' l' R) : rr b e (d + 1) 457 197 [(0, .ref 49), (1, .int x1), (2, .int x2), (3, .int x3), (4, .int x4)] [] g q c l R := by
  obtain ⟨f1, hc⟩ := hc
  obtain ⟨f2, h⟩ := h
  obtain ⟨f, hf1, hf2⟩ : ∃ f, f1 ≤ f ∧ f2 ≤ f := ⟨max f1 f2, Nat.le_max_left _ _, Nat.le_max_right _ _⟩
  have hc := nrun_fuel f1 f _ _ _ _ _ _ _ _ _ hf1 hc
  have h := nrun_fuel f2 f _ _ _ _ _ _ _ _ _ hf2 h
  refine ⟨f + 13, ?_⟩
  obtain ⟨y, cb, hj⟩ := mq_457
  rw [n_step (st' := [.ref 49]) (pc' := 198) (lv' := [(0, .ref 49), (1, .int x1), (2, .int x2), (3, .int x3), (4, .int x4)]) (hp' := rH e g q c l) (i := .aload_n 0) (len := 1) rfl hj rfl rfl rfl]
  rw [n_get (st' := [.ref 120]) (pc' := 201) (lv' := [(0, .ref 49), (1, .int x1), (2, .int x2), (3, .int x3), (4, .int x4)]) (hp' := rH e g q c l) (i := .getfield 231) (len := 3) rfl hj rfl rfl rfl rfl]
  rw [n_step (st' := [.int x4, .ref 120]) (pc' := 203) (lv' := [(0, .ref 49), (1, .int x1), (2, .int x2), (3, .int x3), (4, .int x4)]) (hp' := rH e g q c l) (i := .iload 4) (len := 2) rfl hj rfl rfl rfl]
  rw [n_step (st' := [.ref 49, .int x4, .ref 120]) (pc' := 204) (lv' := [(0, .ref 49), (1, .int x1), (2, .int x2), (3, .int x3), (4, .int x4)]) (hp' := rH e g q c l) (i := .aload_n 0) (len := 1) rfl hj rfl rfl rfl]
  rw [n_get (st' := [.ref 120, .int x4, .ref 120]) (pc' := 207) (lv' := [(0, .ref 49), (1, .int x1), (2, .int x2), (3, .int x3), (4, .int x4)]) (hp' := rH e g q c l) (i := .getfield 231) (len := 3) rfl hj rfl rfl rfl rfl]
  rw [n_step (st' := [.ref 49, .ref 120, .int x4, .ref 120]) (pc' := 208) (lv' := [(0, .ref 49), (1, .int x1), (2, .int x2), (3, .int x3), (4, .int x4)]) (hp' := rH e g q c l) (i := .aload_n 0) (len := 1) rfl hj rfl rfl rfl]
  rw [n_get (st' := [.ref 113, .ref 120, .int x4, .ref 120]) (pc' := 211) (lv' := [(0, .ref 49), (1, .int x1), (2, .int x2), (3, .int x3), (4, .int x4)]) (hp' := rH e g q c l) (i := .getfield 210) (len := 3) rfl hj rfl rfl rfl rfl]
  rw [n_step (st' := [.int x2, .ref 113, .ref 120, .int x4, .ref 120]) (pc' := 212) (lv' := [(0, .ref 49), (1, .int x1), (2, .int x2), (3, .int x3), (4, .int x4)]) (hp' := rH e g q c l) (i := .iload_n 2) (len := 1) rfl hj rfl rfl rfl]
  rw [n_ial (st' := [.int (c 113 (x2).toNatClampNeg), .ref 120, .int x4, .ref 120]) rfl hj (ald_113 hz0)]
  rw [n_ial (st' := [.int (c 120 ((c 113 (x2).toNatClampNeg)).toNatClampNeg), .int x4, .ref 120]) rfl hj (ald_120 hz1)]
  rw [n_step (st' := [.ref 49, .int (c 120 ((c 113 (x2).toNatClampNeg)).toNatClampNeg), .int x4, .ref 120]) (pc' := 215) (lv' := [(0, .ref 49), (1, .int x1), (2, .int x2), (3, .int x3), (4, .int x4)]) (hp' := rH e g q c l) (i := .aload_n 0) (len := 1) rfl hj rfl rfl rfl]
  rw [n_step (st' := [.int x2, .ref 49, .int (c 120 ((c 113 (x2).toNatClampNeg)).toNatClampNeg), .int x4, .ref 120]) (pc' := 216) (lv' := [(0, .ref 49), (1, .int x1), (2, .int x2), (3, .int x3), (4, .int x4)]) (hp' := rH e g q c l) (i := .iload_n 2) (len := 1) rfl hj rfl rfl rfl]
  obtain ⟨y2, cb2, hj2⟩ := mq_458
  rw [n_call (f := f) (d := d) (ki := 0) (idx := 881) (j' := 458) (kd := 0) (M' := (y2, cb2, 2, some .int, 12, 1, 0, 0)) (avs := [.ref 49, .int x2]) (r := [.int (c 120 ((c 113 (x2).toNatClampNeg)).toNatClampNeg), .int x4, .ref 120]) (rv := some (.int v)) (hp1 := rH e g' q' c' l') rfl hj rfl rfl rfl rfl (rq_n rfl rfl hj2 rfl rfl) rfl hc (Nat.le_of_ble_eq_true rfl)]
  exact nrun_ext f f _ _ R 457 219 [(0, .ref 49), (1, .int x1), (3, .int x3)] [(0, .ref 49), (1, .int x1), (2, .int x2), (3, .int x3), (4, .int x4)] [.int v, .int (c 120 ((c 113 (x2).toNatClampNeg)).toNatClampNeg), .int x4, .ref 120] _ 0 0 122 (Nat.le_refl _) (Nat.le_refl _) (Nat.le_of_ble_eq_true rfl) (lvR_mk [0, 1, 3] [0, 1, 2, 3, 4] rfl rfl (by decide) (by decide) (List.forall_mem_cons.mpr ⟨List.mem_cons_self, (List.forall_mem_cons.mpr ⟨(List.mem_cons_of_mem _ List.mem_cons_self), (List.forall_mem_cons.mpr ⟨(List.mem_cons_of_mem _ (List.mem_cons_of_mem _ (List.mem_cons_of_mem _ List.mem_cons_self))), (fun _ h => nomatch h)⟩)⟩)⟩) (List.forall_mem_cons.mpr ⟨Or.inl List.mem_cons_self, (List.forall_mem_cons.mpr ⟨Or.inl (List.mem_cons_of_mem _ List.mem_cons_self), (List.forall_mem_cons.mpr ⟨Or.inr rfl, (List.forall_mem_cons.mpr ⟨Or.inl (List.mem_cons_of_mem _ (List.mem_cons_of_mem _ List.mem_cons_self)), (List.forall_mem_cons.mpr ⟨Or.inr rfl, (fun _ h => nomatch h)⟩)⟩)⟩)⟩)⟩)) h
set_option maxRecDepth 100000 in
set_option maxHeartbeats 4000000 in
theorem bk_457_219 {b : Bool} {d : Nat} {t0 t1 t2 x1 x3 : Int32} {e : Nat → x_E} {g : Nat → Int32} {q : Nat → Int64} {c : Nat → Nat → Int32} {l : Nat → Nat → Int64} {R : Option Value × List x_E} (hz0 : ¬ (t2 < 0 ∨ 16 ≤ (t2).toNatClampNeg)) (h : rr b e d 457 429 [(0, .ref 49), (1, .int x1), (3, .int x3)] [] g q (updA c 120 (upd (c 120) (t2).toNatClampNeg ((t1 * t0)))) l R) : rr b e d 457 219 [(0, .ref 49), (1, .int x1), (3, .int x3)] [.int t0, .int t1, .int t2, .ref 120] g q c l R := by
  obtain ⟨f, h⟩ := h
  refine ⟨f + 3, ?_⟩
  obtain ⟨y, cb, hj⟩ := mq_457
  rw [n_step (st' := [.int (t1 * t0), .int t2, .ref 120]) (pc' := 220) (lv' := [(0, .ref 49), (1, .int x1), (3, .int x3)]) (hp' := rH e g q c l) (i := .imul) (len := 1) rfl hj rfl rfl rfl]
  rw [n_ias (st' := []) (hp' := rH e g q (updA c 120 (upd (c 120) (t2).toNatClampNeg ((t1 * t0)))) l) rfl hj (ast_120 hz0)]
  rw [n_step (st' := []) (pc' := 429) (lv' := [(0, .ref 49), (1, .int x1), (3, .int x3)]) (hp' := rH e g q (updA c 120 (upd (c 120) (t2).toNatClampNeg ((t1 * t0)))) l) (i := .goto 208) (len := 3) rfl hj rfl rfl rfl]
  exact h
set_option maxRecDepth 100000 in
set_option maxHeartbeats 4000000 in
theorem bk_457_224 {b : Bool} {d : Nat} {x1 x2 x3 x4 : Int32} {e : Nat → x_E} {g : Nat → Int32} {q : Nat → Int64} {c : Nat → Nat → Int32} {l : Nat → Nat → Int64} {R : Option Value × List x_E} (hz0 : ¬ (x2 < 0 ∨ 700 ≤ (x2).toNatClampNeg)) (hz1 : ¬ ((c 113 (x2).toNatClampNeg) < 0 ∨ 16 ≤ ((c 113 (x2).toNatClampNeg)).toNatClampNeg)) (hz2 : ¬ (x2 < 0 ∨ 700 ≤ (x2).toNatClampNeg)) (hz3 : ¬ ((((((c 120 ((c 113 (x2).toNatClampNeg)).toNatClampNeg) - (65536))) / ((Int32.ofInt (4)))) + (c 114 (x2).toNatClampNeg)) < 0 ∨ 20001 ≤ ((((((c 120 ((c 113 (x2).toNatClampNeg)).toNatClampNeg) - (65536))) / ((Int32.ofInt (4)))) + (c 114 (x2).toNatClampNeg))).toNatClampNeg)) (hz4 : ¬ (x4 < 0 ∨ 16 ≤ (x4).toNatClampNeg)) (h : rr b e d 457 429 [(0, .ref 49), (1, .int x1), (3, .int x3)] [] g q (updA c 120 (upd (c 120) (x4).toNatClampNeg ((c 121 ((((((c 120 ((c 113 (x2).toNatClampNeg)).toNatClampNeg) - (65536))) / ((Int32.ofInt (4)))) + (c 114 (x2).toNatClampNeg))).toNatClampNeg)))) l R) : rr b e d 457 224 [(0, .ref 49), (1, .int x1), (2, .int x2), (3, .int x3), (4, .int x4)] [] g q c l R := by
  obtain ⟨f, h⟩ := h
  refine ⟨f + 24, ?_⟩
  obtain ⟨y, cb, hj⟩ := mq_457
  rw [n_step (st' := [.ref 49]) (pc' := 225) (lv' := [(0, .ref 49), (1, .int x1), (2, .int x2), (3, .int x3), (4, .int x4)]) (hp' := rH e g q c l) (i := .aload_n 0) (len := 1) rfl hj rfl rfl rfl]
  rw [n_get (st' := [.ref 120]) (pc' := 228) (lv' := [(0, .ref 49), (1, .int x1), (2, .int x2), (3, .int x3), (4, .int x4)]) (hp' := rH e g q c l) (i := .getfield 231) (len := 3) rfl hj rfl rfl rfl rfl]
  rw [n_step (st' := [.int x4, .ref 120]) (pc' := 230) (lv' := [(0, .ref 49), (1, .int x1), (2, .int x2), (3, .int x3), (4, .int x4)]) (hp' := rH e g q c l) (i := .iload 4) (len := 2) rfl hj rfl rfl rfl]
  rw [n_step (st' := [.ref 49, .int x4, .ref 120]) (pc' := 231) (lv' := [(0, .ref 49), (1, .int x1), (2, .int x2), (3, .int x3), (4, .int x4)]) (hp' := rH e g q c l) (i := .aload_n 0) (len := 1) rfl hj rfl rfl rfl]
  rw [n_get (st' := [.ref 121, .int x4, .ref 120]) (pc' := 234) (lv' := [(0, .ref 49), (1, .int x1), (2, .int x2), (3, .int x3), (4, .int x4)]) (hp' := rH e g q c l) (i := .getfield 234) (len := 3) rfl hj rfl rfl rfl rfl]
  rw [n_step (st' := [.ref 49, .ref 121, .int x4, .ref 120]) (pc' := 235) (lv' := [(0, .ref 49), (1, .int x1), (2, .int x2), (3, .int x3), (4, .int x4)]) (hp' := rH e g q c l) (i := .aload_n 0) (len := 1) rfl hj rfl rfl rfl]
  rw [n_get (st' := [.ref 120, .ref 121, .int x4, .ref 120]) (pc' := 238) (lv' := [(0, .ref 49), (1, .int x1), (2, .int x2), (3, .int x3), (4, .int x4)]) (hp' := rH e g q c l) (i := .getfield 231) (len := 3) rfl hj rfl rfl rfl rfl]
  rw [n_step (st' := [.ref 49, .ref 120, .ref 121, .int x4, .ref 120]) (pc' := 239) (lv' := [(0, .ref 49), (1, .int x1), (2, .int x2), (3, .int x3), (4, .int x4)]) (hp' := rH e g q c l) (i := .aload_n 0) (len := 1) rfl hj rfl rfl rfl]
  rw [n_get (st' := [.ref 113, .ref 120, .ref 121, .int x4, .ref 120]) (pc' := 242) (lv' := [(0, .ref 49), (1, .int x1), (2, .int x2), (3, .int x3), (4, .int x4)]) (hp' := rH e g q c l) (i := .getfield 210) (len := 3) rfl hj rfl rfl rfl rfl]
  rw [n_step (st' := [.int x2, .ref 113, .ref 120, .ref 121, .int x4, .ref 120]) (pc' := 243) (lv' := [(0, .ref 49), (1, .int x1), (2, .int x2), (3, .int x3), (4, .int x4)]) (hp' := rH e g q c l) (i := .iload_n 2) (len := 1) rfl hj rfl rfl rfl]
  rw [n_ial (st' := [.int (c 113 (x2).toNatClampNeg), .ref 120, .ref 121, .int x4, .ref 120]) rfl hj (ald_113 hz0)]
  rw [n_ial (st' := [.int (c 120 ((c 113 (x2).toNatClampNeg)).toNatClampNeg), .ref 121, .int x4, .ref 120]) rfl hj (ald_120 hz1)]
  rw [n_step (st' := [.int (65536), .int (c 120 ((c 113 (x2).toNatClampNeg)).toNatClampNeg), .ref 121, .int x4, .ref 120]) (pc' := 248) (lv' := [(0, .ref 49), (1, .int x1), (2, .int x2), (3, .int x3), (4, .int x4)]) (hp' := rH e g q c l) (i := .ldc_w 884) (len := 3) rfl hj rfl rfl rfl]
  rw [n_step (st' := [.int ((c 120 ((c 113 (x2).toNatClampNeg)).toNatClampNeg) - (65536)), .ref 121, .int x4, .ref 120]) (pc' := 249) (lv' := [(0, .ref 49), (1, .int x1), (2, .int x2), (3, .int x3), (4, .int x4)]) (hp' := rH e g q c l) (i := .isub) (len := 1) rfl hj rfl rfl rfl]
  rw [n_step (st' := [.int (Int32.ofInt (4)), .int ((c 120 ((c 113 (x2).toNatClampNeg)).toNatClampNeg) - (65536)), .ref 121, .int x4, .ref 120]) (pc' := 250) (lv' := [(0, .ref 49), (1, .int x1), (2, .int x2), (3, .int x3), (4, .int x4)]) (hp' := rH e g q c l) (i := .iconst 4) (len := 1) rfl hj rfl rfl rfl]
  rw [n_step (st' := [.int ((((c 120 ((c 113 (x2).toNatClampNeg)).toNatClampNeg) - (65536))) / ((Int32.ofInt (4)))), .ref 121, .int x4, .ref 120]) (pc' := 251) (lv' := [(0, .ref 49), (1, .int x1), (2, .int x2), (3, .int x3), (4, .int x4)]) (hp' := rH e g q c l) (i := .idiv) (len := 1) rfl hj rfl rfl rfl]
  rw [n_step (st' := [.ref 49, .int ((((c 120 ((c 113 (x2).toNatClampNeg)).toNatClampNeg) - (65536))) / ((Int32.ofInt (4)))), .ref 121, .int x4, .ref 120]) (pc' := 252) (lv' := [(0, .ref 49), (1, .int x1), (2, .int x2), (3, .int x3), (4, .int x4)]) (hp' := rH e g q c l) (i := .aload_n 0) (len := 1) rfl hj rfl rfl rfl]
  rw [n_get (st' := [.ref 114, .int ((((c 120 ((c 113 (x2).toNatClampNeg)).toNatClampNeg) - (65536))) / ((Int32.ofInt (4)))), .ref 121, .int x4, .ref 120]) (pc' := 255) (lv' := [(0, .ref 49), (1, .int x1), (2, .int x2), (3, .int x3), (4, .int x4)]) (hp' := rH e g q c l) (i := .getfield 213) (len := 3) rfl hj rfl rfl rfl rfl]
  rw [n_step (st' := [.int x2, .ref 114, .int ((((c 120 ((c 113 (x2).toNatClampNeg)).toNatClampNeg) - (65536))) / ((Int32.ofInt (4)))), .ref 121, .int x4, .ref 120]) (pc' := 256) (lv' := [(0, .ref 49), (1, .int x1), (2, .int x2), (3, .int x3), (4, .int x4)]) (hp' := rH e g q c l) (i := .iload_n 2) (len := 1) rfl hj rfl rfl rfl]
  rw [n_ial (st' := [.int (c 114 (x2).toNatClampNeg), .int ((((c 120 ((c 113 (x2).toNatClampNeg)).toNatClampNeg) - (65536))) / ((Int32.ofInt (4)))), .ref 121, .int x4, .ref 120]) rfl hj (ald_114 hz2)]
  rw [n_step (st' := [.int (((((c 120 ((c 113 (x2).toNatClampNeg)).toNatClampNeg) - (65536))) / ((Int32.ofInt (4)))) + (c 114 (x2).toNatClampNeg)), .ref 121, .int x4, .ref 120]) (pc' := 258) (lv' := [(0, .ref 49), (1, .int x1), (2, .int x2), (3, .int x3), (4, .int x4)]) (hp' := rH e g q c l) (i := .iadd) (len := 1) rfl hj rfl rfl rfl]
  rw [n_ial (st' := [.int (c 121 ((((((c 120 ((c 113 (x2).toNatClampNeg)).toNatClampNeg) - (65536))) / ((Int32.ofInt (4)))) + (c 114 (x2).toNatClampNeg))).toNatClampNeg), .int x4, .ref 120]) rfl hj (ald_121 hz3)]
  rw [n_ias (st' := []) (hp' := rH e g q (updA c 120 (upd (c 120) (x4).toNatClampNeg ((c 121 ((((((c 120 ((c 113 (x2).toNatClampNeg)).toNatClampNeg) - (65536))) / ((Int32.ofInt (4)))) + (c 114 (x2).toNatClampNeg))).toNatClampNeg)))) l) rfl hj (ast_120 hz4)]
  rw [n_step (st' := []) (pc' := 429) (lv' := [(0, .ref 49), (1, .int x1), (2, .int x2), (3, .int x3), (4, .int x4)]) (hp' := rH e g q (updA c 120 (upd (c 120) (x4).toNatClampNeg ((c 121 ((((((c 120 ((c 113 (x2).toNatClampNeg)).toNatClampNeg) - (65536))) / ((Int32.ofInt (4)))) + (c 114 (x2).toNatClampNeg))).toNatClampNeg)))) l) (i := .goto 169) (len := 3) rfl hj rfl rfl rfl]
  exact nrun_ext f f _ _ R 457 429 [(0, .ref 49), (1, .int x1), (3, .int x3)] [(0, .ref 49), (1, .int x1), (2, .int x2), (3, .int x3), (4, .int x4)] [] _ 0 0 122 (Nat.le_refl _) (Nat.le_refl _) (Nat.le_of_ble_eq_true rfl) (lvR_mk [0, 1, 3] [0, 1, 2, 3, 4] rfl rfl (by decide) (by decide) (List.forall_mem_cons.mpr ⟨List.mem_cons_self, (List.forall_mem_cons.mpr ⟨(List.mem_cons_of_mem _ List.mem_cons_self), (List.forall_mem_cons.mpr ⟨(List.mem_cons_of_mem _ (List.mem_cons_of_mem _ (List.mem_cons_of_mem _ List.mem_cons_self))), (fun _ h => nomatch h)⟩)⟩)⟩) (List.forall_mem_cons.mpr ⟨Or.inl List.mem_cons_self, (List.forall_mem_cons.mpr ⟨Or.inl (List.mem_cons_of_mem _ List.mem_cons_self), (List.forall_mem_cons.mpr ⟨Or.inr rfl, (List.forall_mem_cons.mpr ⟨Or.inl (List.mem_cons_of_mem _ (List.mem_cons_of_mem _ List.mem_cons_self)), (List.forall_mem_cons.mpr ⟨Or.inr rfl, (fun _ h => nomatch h)⟩)⟩)⟩)⟩)⟩)) h
set_option maxRecDepth 100000 in
set_option maxHeartbeats 4000000 in
theorem bk_457_263 {b : Bool} {d : Nat} {x1 x2 x3 x4 : Int32} {e : Nat → x_E} {g : Nat → Int32} {q : Nat → Int64} {c : Nat → Nat → Int32} {l : Nat → Nat → Int64} {R : Option Value × List x_E} (hz0 : ¬ (x4 < 0 ∨ 16 ≤ (x4).toNatClampNeg)) (hz1 : ¬ (x2 < 0 ∨ 700 ≤ (x2).toNatClampNeg)) (hz2 : ¬ (x2 < 0 ∨ 700 ≤ (x2).toNatClampNeg)) (hz3 : ¬ ((c 113 (x2).toNatClampNeg) < 0 ∨ 16 ≤ ((c 113 (x2).toNatClampNeg)).toNatClampNeg)) (hz4 : ¬ ((((((c 120 (x4).toNatClampNeg) - (65536))) / ((Int32.ofInt (4)))) + (c 114 (x2).toNatClampNeg)) < 0 ∨ 20001 ≤ ((((((c 120 (x4).toNatClampNeg) - (65536))) / ((Int32.ofInt (4)))) + (c 114 (x2).toNatClampNeg))).toNatClampNeg)) (h : rr b e d 457 429 [(0, .ref 49), (1, .int x1), (3, .int x3)] [] g q (updA c 121 (upd (c 121) ((((((c 120 (x4).toNatClampNeg) - (65536))) / ((Int32.ofInt (4)))) + (c 114 (x2).toNatClampNeg))).toNatClampNeg ((c 120 ((c 113 (x2).toNatClampNeg)).toNatClampNeg)))) l R) : rr b e d 457 263 [(0, .ref 49), (1, .int x1), (2, .int x2), (3, .int x3), (4, .int x4)] [] g q c l R := by
  obtain ⟨f, h⟩ := h
  refine ⟨f + 24, ?_⟩
  obtain ⟨y, cb, hj⟩ := mq_457
  rw [n_step (st' := [.ref 49]) (pc' := 264) (lv' := [(0, .ref 49), (1, .int x1), (2, .int x2), (3, .int x3), (4, .int x4)]) (hp' := rH e g q c l) (i := .aload_n 0) (len := 1) rfl hj rfl rfl rfl]
  rw [n_get (st' := [.ref 121]) (pc' := 267) (lv' := [(0, .ref 49), (1, .int x1), (2, .int x2), (3, .int x3), (4, .int x4)]) (hp' := rH e g q c l) (i := .getfield 234) (len := 3) rfl hj rfl rfl rfl rfl]
  rw [n_step (st' := [.ref 49, .ref 121]) (pc' := 268) (lv' := [(0, .ref 49), (1, .int x1), (2, .int x2), (3, .int x3), (4, .int x4)]) (hp' := rH e g q c l) (i := .aload_n 0) (len := 1) rfl hj rfl rfl rfl]
  rw [n_get (st' := [.ref 120, .ref 121]) (pc' := 271) (lv' := [(0, .ref 49), (1, .int x1), (2, .int x2), (3, .int x3), (4, .int x4)]) (hp' := rH e g q c l) (i := .getfield 231) (len := 3) rfl hj rfl rfl rfl rfl]
  rw [n_step (st' := [.int x4, .ref 120, .ref 121]) (pc' := 273) (lv' := [(0, .ref 49), (1, .int x1), (2, .int x2), (3, .int x3), (4, .int x4)]) (hp' := rH e g q c l) (i := .iload 4) (len := 2) rfl hj rfl rfl rfl]
  rw [n_ial (st' := [.int (c 120 (x4).toNatClampNeg), .ref 121]) rfl hj (ald_120 hz0)]
  rw [n_step (st' := [.int (65536), .int (c 120 (x4).toNatClampNeg), .ref 121]) (pc' := 277) (lv' := [(0, .ref 49), (1, .int x1), (2, .int x2), (3, .int x3), (4, .int x4)]) (hp' := rH e g q c l) (i := .ldc_w 884) (len := 3) rfl hj rfl rfl rfl]
  rw [n_step (st' := [.int ((c 120 (x4).toNatClampNeg) - (65536)), .ref 121]) (pc' := 278) (lv' := [(0, .ref 49), (1, .int x1), (2, .int x2), (3, .int x3), (4, .int x4)]) (hp' := rH e g q c l) (i := .isub) (len := 1) rfl hj rfl rfl rfl]
  rw [n_step (st' := [.int (Int32.ofInt (4)), .int ((c 120 (x4).toNatClampNeg) - (65536)), .ref 121]) (pc' := 279) (lv' := [(0, .ref 49), (1, .int x1), (2, .int x2), (3, .int x3), (4, .int x4)]) (hp' := rH e g q c l) (i := .iconst 4) (len := 1) rfl hj rfl rfl rfl]
  rw [n_step (st' := [.int ((((c 120 (x4).toNatClampNeg) - (65536))) / ((Int32.ofInt (4)))), .ref 121]) (pc' := 280) (lv' := [(0, .ref 49), (1, .int x1), (2, .int x2), (3, .int x3), (4, .int x4)]) (hp' := rH e g q c l) (i := .idiv) (len := 1) rfl hj rfl rfl rfl]
  rw [n_step (st' := [.ref 49, .int ((((c 120 (x4).toNatClampNeg) - (65536))) / ((Int32.ofInt (4)))), .ref 121]) (pc' := 281) (lv' := [(0, .ref 49), (1, .int x1), (2, .int x2), (3, .int x3), (4, .int x4)]) (hp' := rH e g q c l) (i := .aload_n 0) (len := 1) rfl hj rfl rfl rfl]
  rw [n_get (st' := [.ref 114, .int ((((c 120 (x4).toNatClampNeg) - (65536))) / ((Int32.ofInt (4)))), .ref 121]) (pc' := 284) (lv' := [(0, .ref 49), (1, .int x1), (2, .int x2), (3, .int x3), (4, .int x4)]) (hp' := rH e g q c l) (i := .getfield 213) (len := 3) rfl hj rfl rfl rfl rfl]
  rw [n_step (st' := [.int x2, .ref 114, .int ((((c 120 (x4).toNatClampNeg) - (65536))) / ((Int32.ofInt (4)))), .ref 121]) (pc' := 285) (lv' := [(0, .ref 49), (1, .int x1), (2, .int x2), (3, .int x3), (4, .int x4)]) (hp' := rH e g q c l) (i := .iload_n 2) (len := 1) rfl hj rfl rfl rfl]
  rw [n_ial (st' := [.int (c 114 (x2).toNatClampNeg), .int ((((c 120 (x4).toNatClampNeg) - (65536))) / ((Int32.ofInt (4)))), .ref 121]) rfl hj (ald_114 hz1)]
  rw [n_step (st' := [.int (((((c 120 (x4).toNatClampNeg) - (65536))) / ((Int32.ofInt (4)))) + (c 114 (x2).toNatClampNeg)), .ref 121]) (pc' := 287) (lv' := [(0, .ref 49), (1, .int x1), (2, .int x2), (3, .int x3), (4, .int x4)]) (hp' := rH e g q c l) (i := .iadd) (len := 1) rfl hj rfl rfl rfl]
  rw [n_step (st' := [.ref 49, .int (((((c 120 (x4).toNatClampNeg) - (65536))) / ((Int32.ofInt (4)))) + (c 114 (x2).toNatClampNeg)), .ref 121]) (pc' := 288) (lv' := [(0, .ref 49), (1, .int x1), (2, .int x2), (3, .int x3), (4, .int x4)]) (hp' := rH e g q c l) (i := .aload_n 0) (len := 1) rfl hj rfl rfl rfl]
  rw [n_get (st' := [.ref 120, .int (((((c 120 (x4).toNatClampNeg) - (65536))) / ((Int32.ofInt (4)))) + (c 114 (x2).toNatClampNeg)), .ref 121]) (pc' := 291) (lv' := [(0, .ref 49), (1, .int x1), (2, .int x2), (3, .int x3), (4, .int x4)]) (hp' := rH e g q c l) (i := .getfield 231) (len := 3) rfl hj rfl rfl rfl rfl]
  rw [n_step (st' := [.ref 49, .ref 120, .int (((((c 120 (x4).toNatClampNeg) - (65536))) / ((Int32.ofInt (4)))) + (c 114 (x2).toNatClampNeg)), .ref 121]) (pc' := 292) (lv' := [(0, .ref 49), (1, .int x1), (2, .int x2), (3, .int x3), (4, .int x4)]) (hp' := rH e g q c l) (i := .aload_n 0) (len := 1) rfl hj rfl rfl rfl]
  rw [n_get (st' := [.ref 113, .ref 120, .int (((((c 120 (x4).toNatClampNeg) - (65536))) / ((Int32.ofInt (4)))) + (c 114 (x2).toNatClampNeg)), .ref 121]) (pc' := 295) (lv' := [(0, .ref 49), (1, .int x1), (2, .int x2), (3, .int x3), (4, .int x4)]) (hp' := rH e g q c l) (i := .getfield 210) (len := 3) rfl hj rfl rfl rfl rfl]
  rw [n_step (st' := [.int x2, .ref 113, .ref 120, .int (((((c 120 (x4).toNatClampNeg) - (65536))) / ((Int32.ofInt (4)))) + (c 114 (x2).toNatClampNeg)), .ref 121]) (pc' := 296) (lv' := [(0, .ref 49), (1, .int x1), (2, .int x2), (3, .int x3), (4, .int x4)]) (hp' := rH e g q c l) (i := .iload_n 2) (len := 1) rfl hj rfl rfl rfl]
  rw [n_ial (st' := [.int (c 113 (x2).toNatClampNeg), .ref 120, .int (((((c 120 (x4).toNatClampNeg) - (65536))) / ((Int32.ofInt (4)))) + (c 114 (x2).toNatClampNeg)), .ref 121]) rfl hj (ald_113 hz2)]
  rw [n_ial (st' := [.int (c 120 ((c 113 (x2).toNatClampNeg)).toNatClampNeg), .int (((((c 120 (x4).toNatClampNeg) - (65536))) / ((Int32.ofInt (4)))) + (c 114 (x2).toNatClampNeg)), .ref 121]) rfl hj (ald_120 hz3)]
  rw [n_ias (st' := []) (hp' := rH e g q (updA c 121 (upd (c 121) ((((((c 120 (x4).toNatClampNeg) - (65536))) / ((Int32.ofInt (4)))) + (c 114 (x2).toNatClampNeg))).toNatClampNeg ((c 120 ((c 113 (x2).toNatClampNeg)).toNatClampNeg)))) l) rfl hj (ast_121 hz4)]
  rw [n_step (st' := []) (pc' := 429) (lv' := [(0, .ref 49), (1, .int x1), (2, .int x2), (3, .int x3), (4, .int x4)]) (hp' := rH e g q (updA c 121 (upd (c 121) ((((((c 120 (x4).toNatClampNeg) - (65536))) / ((Int32.ofInt (4)))) + (c 114 (x2).toNatClampNeg))).toNatClampNeg ((c 120 ((c 113 (x2).toNatClampNeg)).toNatClampNeg)))) l) (i := .goto 130) (len := 3) rfl hj rfl rfl rfl]
  exact nrun_ext f f _ _ R 457 429 [(0, .ref 49), (1, .int x1), (3, .int x3)] [(0, .ref 49), (1, .int x1), (2, .int x2), (3, .int x3), (4, .int x4)] [] _ 0 0 122 (Nat.le_refl _) (Nat.le_refl _) (Nat.le_of_ble_eq_true rfl) (lvR_mk [0, 1, 3] [0, 1, 2, 3, 4] rfl rfl (by decide) (by decide) (List.forall_mem_cons.mpr ⟨List.mem_cons_self, (List.forall_mem_cons.mpr ⟨(List.mem_cons_of_mem _ List.mem_cons_self), (List.forall_mem_cons.mpr ⟨(List.mem_cons_of_mem _ (List.mem_cons_of_mem _ (List.mem_cons_of_mem _ List.mem_cons_self))), (fun _ h => nomatch h)⟩)⟩)⟩) (List.forall_mem_cons.mpr ⟨Or.inl List.mem_cons_self, (List.forall_mem_cons.mpr ⟨Or.inl (List.mem_cons_of_mem _ List.mem_cons_self), (List.forall_mem_cons.mpr ⟨Or.inr rfl, (List.forall_mem_cons.mpr ⟨Or.inl (List.mem_cons_of_mem _ (List.mem_cons_of_mem _ List.mem_cons_self)), (List.forall_mem_cons.mpr ⟨Or.inr rfl, (fun _ h => nomatch h)⟩)⟩)⟩)⟩)⟩)) h
set_option maxRecDepth 100000 in
set_option maxHeartbeats 4000000 in
theorem bk_457_302 {b : Bool} {d : Nat} {x1 x2 x3 x4 : Int32} {e : Nat → x_E} {g : Nat → Int32} {q : Nat → Int64} {c : Nat → Nat → Int32} {l : Nat → Nat → Int64} {g' : Nat → Int32} {q' : Nat → Int64} {c' : Nat → Nat → Int32} {l' : Nat → Nat → Int64} {v : Int32} {R : Option Value × List x_E} (hz0 : ¬ (x2 < 0 ∨ 700 ≤ (x2).toNatClampNeg)) (hc : rr b e d 449 0 [(0, .ref 49), (1, .int (c 114 (x2).toNatClampNeg))] [] g q c l (some (.int v), rH e g' q' c' l')) (h : rr b e (d + 1) 457 324 [(0, .ref 49), (1, .int x1), (3, .int x3), (4, .int x4), (5, .int ((65536) + ((Int32.ofInt (4)) * (g 64))))] [.int v] g' q' c' l' R) : rr b e (d + 1) 457 302 [(0, .ref 49), (1, .int x1), (2, .int x2), (3, .int x3), (4, .int x4)] [] g q c l R := by
  obtain ⟨f1, hc⟩ := hc
  obtain ⟨f2, h⟩ := h
  obtain ⟨f, hf1, hf2⟩ : ∃ f, f1 ≤ f ∧ f2 ≤ f := ⟨max f1 f2, Nat.le_max_left _ _, Nat.le_max_right _ _⟩
  have hc := nrun_fuel f1 f _ _ _ _ _ _ _ _ _ hf1 hc
  have h := nrun_fuel f2 f _ _ _ _ _ _ _ _ _ hf2 h
  refine ⟨f + 13, ?_⟩
  obtain ⟨y, cb, hj⟩ := mq_457
  rw [n_step (st' := [.int (65536)]) (pc' := 305) (lv' := [(0, .ref 49), (1, .int x1), (2, .int x2), (3, .int x3), (4, .int x4)]) (hp' := rH e g q c l) (i := .ldc_w 884) (len := 3) rfl hj rfl rfl rfl]
  rw [n_step (st' := [.int (Int32.ofInt (4)), .int (65536)]) (pc' := 306) (lv' := [(0, .ref 49), (1, .int x1), (2, .int x2), (3, .int x3), (4, .int x4)]) (hp' := rH e g q c l) (i := .iconst 4) (len := 1) rfl hj rfl rfl rfl]
  rw [n_step (st' := [.ref 49, .int (Int32.ofInt (4)), .int (65536)]) (pc' := 307) (lv' := [(0, .ref 49), (1, .int x1), (2, .int x2), (3, .int x3), (4, .int x4)]) (hp' := rH e g q c l) (i := .aload_n 0) (len := 1) rfl hj rfl rfl rfl]
  rw [n_get (st' := [.int (g 64), .int (Int32.ofInt (4)), .int (65536)]) (pc' := 310) (lv' := [(0, .ref 49), (1, .int x1), (2, .int x2), (3, .int x3), (4, .int x4)]) (hp' := rH e g q c l) (i := .getfield 593) (len := 3) rfl hj rfl rfl rfl rfl]
  rw [n_step (st' := [.int ((Int32.ofInt (4)) * (g 64)), .int (65536)]) (pc' := 311) (lv' := [(0, .ref 49), (1, .int x1), (2, .int x2), (3, .int x3), (4, .int x4)]) (hp' := rH e g q c l) (i := .imul) (len := 1) rfl hj rfl rfl rfl]
  rw [n_step (st' := [.int ((65536) + ((Int32.ofInt (4)) * (g 64)))]) (pc' := 312) (lv' := [(0, .ref 49), (1, .int x1), (2, .int x2), (3, .int x3), (4, .int x4)]) (hp' := rH e g q c l) (i := .iadd) (len := 1) rfl hj rfl rfl rfl]
  rw [n_step (st' := []) (pc' := 314) (lv' := [(5, .int ((65536) + ((Int32.ofInt (4)) * (g 64)))), (0, .ref 49), (1, .int x1), (2, .int x2), (3, .int x3), (4, .int x4)]) (hp' := rH e g q c l) (i := .istore 5) (len := 2) rfl hj rfl rfl rfl]
  rw [n_step (st' := [.ref 49]) (pc' := 315) (lv' := [(5, .int ((65536) + ((Int32.ofInt (4)) * (g 64)))), (0, .ref 49), (1, .int x1), (2, .int x2), (3, .int x3), (4, .int x4)]) (hp' := rH e g q c l) (i := .aload_n 0) (len := 1) rfl hj rfl rfl rfl]
  rw [n_step (st' := [.ref 49, .ref 49]) (pc' := 316) (lv' := [(5, .int ((65536) + ((Int32.ofInt (4)) * (g 64)))), (0, .ref 49), (1, .int x1), (2, .int x2), (3, .int x3), (4, .int x4)]) (hp' := rH e g q c l) (i := .aload_n 0) (len := 1) rfl hj rfl rfl rfl]
  rw [n_get (st' := [.ref 114, .ref 49]) (pc' := 319) (lv' := [(5, .int ((65536) + ((Int32.ofInt (4)) * (g 64)))), (0, .ref 49), (1, .int x1), (2, .int x2), (3, .int x3), (4, .int x4)]) (hp' := rH e g q c l) (i := .getfield 213) (len := 3) rfl hj rfl rfl rfl rfl]
  rw [n_step (st' := [.int x2, .ref 114, .ref 49]) (pc' := 320) (lv' := [(5, .int ((65536) + ((Int32.ofInt (4)) * (g 64)))), (0, .ref 49), (1, .int x1), (2, .int x2), (3, .int x3), (4, .int x4)]) (hp' := rH e g q c l) (i := .iload_n 2) (len := 1) rfl hj rfl rfl rfl]
  rw [n_ial (st' := [.int (c 114 (x2).toNatClampNeg), .ref 49]) rfl hj (ald_114 hz0)]
  obtain ⟨y2, cb2, hj2⟩ := mq_449
  rw [n_call (f := f) (d := d) (ki := 0) (idx := 629) (j' := 449) (kd := 0) (M' := (y2, cb2, 2, some .boolean, 12, 1, 0, 0)) (avs := [.ref 49, .int (c 114 (x2).toNatClampNeg)]) (r := []) (rv := some (.int v)) (hp1 := rH e g' q' c' l') rfl hj rfl rfl rfl rfl (rq_n rfl rfl hj2 rfl rfl) rfl hc (Nat.le_of_ble_eq_true rfl)]
  exact nrun_ext f f _ _ R 457 324 [(0, .ref 49), (1, .int x1), (3, .int x3), (4, .int x4), (5, .int ((65536) + ((Int32.ofInt (4)) * (g 64))))] [(5, .int ((65536) + ((Int32.ofInt (4)) * (g 64)))), (0, .ref 49), (1, .int x1), (2, .int x2), (3, .int x3), (4, .int x4)] [.int v] _ 0 0 122 (Nat.le_refl _) (Nat.le_refl _) (Nat.le_of_ble_eq_true rfl) (lvR_mk [0, 1, 3, 4, 5] [5, 0, 1, 2, 3, 4] rfl rfl (by decide) (by decide) (List.forall_mem_cons.mpr ⟨(List.mem_cons_of_mem _ List.mem_cons_self), (List.forall_mem_cons.mpr ⟨(List.mem_cons_of_mem _ (List.mem_cons_of_mem _ List.mem_cons_self)), (List.forall_mem_cons.mpr ⟨(List.mem_cons_of_mem _ (List.mem_cons_of_mem _ (List.mem_cons_of_mem _ (List.mem_cons_of_mem _ List.mem_cons_self)))), (List.forall_mem_cons.mpr ⟨(List.mem_cons_of_mem _ (List.mem_cons_of_mem _ (List.mem_cons_of_mem _ (List.mem_cons_of_mem _ (List.mem_cons_of_mem _ List.mem_cons_self))))), (List.forall_mem_cons.mpr ⟨List.mem_cons_self, (fun _ h => nomatch h)⟩)⟩)⟩)⟩)⟩) (List.forall_mem_cons.mpr ⟨Or.inl (List.mem_cons_of_mem _ (List.mem_cons_of_mem _ (List.mem_cons_of_mem _ (List.mem_cons_of_mem _ List.mem_cons_self)))), (List.forall_mem_cons.mpr ⟨Or.inl List.mem_cons_self, (List.forall_mem_cons.mpr ⟨Or.inl (List.mem_cons_of_mem _ List.mem_cons_self), (List.forall_mem_cons.mpr ⟨Or.inr rfl, (List.forall_mem_cons.mpr ⟨Or.inl (List.mem_cons_of_mem _ (List.mem_cons_of_mem _ List.mem_cons_self)), (List.forall_mem_cons.mpr ⟨Or.inl (List.mem_cons_of_mem _ (List.mem_cons_of_mem _ (List.mem_cons_of_mem _ List.mem_cons_self))), (fun _ h => nomatch h)⟩)⟩)⟩)⟩)⟩)⟩)) h
set_option maxRecDepth 100000 in
set_option maxHeartbeats 4000000 in
theorem bk_457_324 {b : Bool} {d : Nat} {t0 x1 x3 x4 x5 : Int32} {e : Nat → x_E} {g : Nat → Int32} {q : Nat → Int64} {c : Nat → Nat → Int32} {l : Nat → Nat → Int64} {R : Option Value × List x_E} (h1 : xCn .ne t0 0 = true → rr b e d 457 329 [(0, .ref 49), (1, .int x1), (3, .int x3), (4, .int x4), (5, .int x5)] [] g q c l R) (h2 : ¬ xCn .ne t0 0 = true → rr b e d 457 327 [] [] g q c l R) : rr b e d 457 324 [(0, .ref 49), (1, .int x1), (3, .int x3), (4, .int x4), (5, .int x5)] [.int t0] g q c l R := by
  have key : ∀ f, nrun xZ (xY (xfm b)) xDT (f + 1) d 457 324 [(0, .ref 49), (1, .int x1), (3, .int x3), (4, .int x4), (5, .int x5)] [.int t0] (rH e g q c l) 0 0 = nrun xZ (xY (xfm b)) xDT f d 457 (if xCn .ne t0 0 = true then 329 else 327) [(0, .ref 49), (1, .int x1), (3, .int x3), (4, .int x4), (5, .int x5)] [] (rH e g q c l) 0 0 := by
    intro f
    obtain ⟨y, cb, hj⟩ := mq_457
    rw [n_step (st' := []) (pc' := (if xCn .ne t0 0 = true then 329 else 327)) (lv' := [(0, .ref 49), (1, .int x1), (3, .int x3), (4, .int x4), (5, .int x5)]) (hp' := rH e g q c l) (i := .ifCond .ne 5) (len := 3) rfl hj rfl rfl rfl]
  by_cases hc : xCn .ne t0 0 = true
  · obtain ⟨f, h⟩ := h1 hc
    refine ⟨f + 1, ?_⟩
    rw [key, if_pos hc]
    exact h
  · obtain ⟨f, h⟩ := h2 hc
    refine ⟨f + 1, ?_⟩
    rw [key, if_neg hc]
    exact nrun_ext f f _ _ R 457 327 [] [(0, .ref 49), (1, .int x1), (3, .int x3), (4, .int x4), (5, .int x5)] [] _ 0 0 122 (Nat.le_refl _) (Nat.le_refl _) (Nat.le_of_ble_eq_true rfl) (lvR_mk [] [0, 1, 3, 4, 5] rfl rfl (by decide) (by decide) (fun _ h => nomatch h) (List.forall_mem_cons.mpr ⟨Or.inr rfl, (List.forall_mem_cons.mpr ⟨Or.inr rfl, (List.forall_mem_cons.mpr ⟨Or.inr rfl, (List.forall_mem_cons.mpr ⟨Or.inr rfl, (List.forall_mem_cons.mpr ⟨Or.inr rfl, (fun _ h => nomatch h)⟩)⟩)⟩)⟩)⟩)) h
set_option maxRecDepth 100000 in
set_option maxHeartbeats 4000000 in
theorem bk_457_327 {b : Bool} {d : Nat} {e : Nat → x_E} {g : Nat → Int32} {q : Nat → Int64} {c : Nat → Nat → Int32} {l : Nat → Nat → Int64} : rr b e d 457 327 [] [] g q c l (some (.int (Int32.ofInt (2))), rH e g q c l) := by
  refine ⟨0 + 2, ?_⟩
  obtain ⟨y, cb, hj⟩ := mq_457
  rw [n_step (st' := [.int (Int32.ofInt (2))]) (pc' := 328) (lv' := []) (hp' := rH e g q c l) (i := .iconst 2) (len := 1) rfl hj rfl rfl rfl]
  exact n_ret rfl hj rfl rfl (x_ret rfl)
set_option maxRecDepth 100000 in
set_option maxHeartbeats 4000000 in
theorem bk_457_329 {b : Bool} {d : Nat} {x1 x3 x4 x5 : Int32} {e : Nat → x_E} {g : Nat → Int32} {q : Nat → Int64} {c : Nat → Nat → Int32} {l : Nat → Nat → Int64} {R : Option Value × List x_E} (hz0 : ¬ (x4 < 0 ∨ 16 ≤ (x4).toNatClampNeg)) (h : rr b e d 457 429 [(0, .ref 49), (1, .int x1), (3, .int x3)] [] g q (updA c 120 (upd (c 120) (x4).toNatClampNeg x5)) l R) : rr b e d 457 329 [(0, .ref 49), (1, .int x1), (3, .int x3), (4, .int x4), (5, .int x5)] [] g q c l R := by
  obtain ⟨f, h⟩ := h
  refine ⟨f + 6, ?_⟩
  obtain ⟨y, cb, hj⟩ := mq_457
  rw [n_step (st' := [.ref 49]) (pc' := 330) (lv' := [(0, .ref 49), (1, .int x1), (3, .int x3), (4, .int x4), (5, .int x5)]) (hp' := rH e g q c l) (i := .aload_n 0) (len := 1) rfl hj rfl rfl rfl]
  rw [n_get (st' := [.ref 120]) (pc' := 333) (lv' := [(0, .ref 49), (1, .int x1), (3, .int x3), (4, .int x4), (5, .int x5)]) (hp' := rH e g q c l) (i := .getfield 231) (len := 3) rfl hj rfl rfl rfl rfl]
  rw [n_step (st' := [.int x4, .ref 120]) (pc' := 335) (lv' := [(0, .ref 49), (1, .int x1), (3, .int x3), (4, .int x4), (5, .int x5)]) (hp' := rH e g q c l) (i := .iload 4) (len := 2) rfl hj rfl rfl rfl]
  rw [n_step (st' := [.int x5, .int x4, .ref 120]) (pc' := 337) (lv' := [(0, .ref 49), (1, .int x1), (3, .int x3), (4, .int x4), (5, .int x5)]) (hp' := rH e g q c l) (i := .iload 5) (len := 2) rfl hj rfl rfl rfl]
  rw [n_ias (st' := []) (hp' := rH e g q (updA c 120 (upd (c 120) (x4).toNatClampNeg x5)) l) rfl hj (ast_120 hz0)]
  rw [n_step (st' := []) (pc' := 429) (lv' := [(0, .ref 49), (1, .int x1), (3, .int x3), (4, .int x4), (5, .int x5)]) (hp' := rH e g q (updA c 120 (upd (c 120) (x4).toNatClampNeg x5)) l) (i := .goto 91) (len := 3) rfl hj rfl rfl rfl]
  exact nrun_ext f f _ _ R 457 429 [(0, .ref 49), (1, .int x1), (3, .int x3)] [(0, .ref 49), (1, .int x1), (3, .int x3), (4, .int x4), (5, .int x5)] [] _ 0 0 122 (Nat.le_refl _) (Nat.le_refl _) (Nat.le_of_ble_eq_true rfl) (lvR_mk [0, 1, 3] [0, 1, 3, 4, 5] rfl rfl (by decide) (by decide) (List.forall_mem_cons.mpr ⟨List.mem_cons_self, (List.forall_mem_cons.mpr ⟨(List.mem_cons_of_mem _ List.mem_cons_self), (List.forall_mem_cons.mpr ⟨(List.mem_cons_of_mem _ (List.mem_cons_of_mem _ List.mem_cons_self)), (fun _ h => nomatch h)⟩)⟩)⟩) (List.forall_mem_cons.mpr ⟨Or.inl List.mem_cons_self, (List.forall_mem_cons.mpr ⟨Or.inl (List.mem_cons_of_mem _ List.mem_cons_self), (List.forall_mem_cons.mpr ⟨Or.inl (List.mem_cons_of_mem _ (List.mem_cons_of_mem _ List.mem_cons_self)), (List.forall_mem_cons.mpr ⟨Or.inr rfl, (List.forall_mem_cons.mpr ⟨Or.inr rfl, (fun _ h => nomatch h)⟩)⟩)⟩)⟩)⟩)) h
set_option maxRecDepth 100000 in
set_option maxHeartbeats 4000000 in
theorem bk_457_341 {b : Bool} {d : Nat} {x1 x2 x3 x4 : Int32} {e : Nat → x_E} {g : Nat → Int32} {q : Nat → Int64} {c : Nat → Nat → Int32} {l : Nat → Nat → Int64} {R : Option Value × List x_E} (hz0 : ¬ (x4 < 0 ∨ 16 ≤ (x4).toNatClampNeg)) (h1 : xCn .eq ((c 120 (x4).toNatClampNeg)) 0 = true → rr b e d 457 361 [(0, .ref 49), (1, .int x1), (3, .int x3), (4, .int x4)] [] g q c l R) (h2 : ¬ xCn .eq ((c 120 (x4).toNatClampNeg)) 0 = true → rr b e d 457 351 [(0, .ref 49), (1, .int x1), (2, .int x2), (4, .int x4)] [] g q c l R) : rr b e d 457 341 [(0, .ref 49), (1, .int x1), (2, .int x2), (3, .int x3), (4, .int x4)] [] g q c l R := by
  have key : ∀ f, nrun xZ (xY (xfm b)) xDT (f + 5) d 457 341 [(0, .ref 49), (1, .int x1), (2, .int x2), (3, .int x3), (4, .int x4)] [] (rH e g q c l) 0 0 = nrun xZ (xY (xfm b)) xDT f d 457 (if xCn .eq ((c 120 (x4).toNatClampNeg)) 0 = true then 361 else 351) [(0, .ref 49), (1, .int x1), (2, .int x2), (3, .int x3), (4, .int x4)] [] (rH e g q c l) 0 0 := by
    intro f
    obtain ⟨y, cb, hj⟩ := mq_457
    rw [n_step (st' := [.ref 49]) (pc' := 342) (lv' := [(0, .ref 49), (1, .int x1), (2, .int x2), (3, .int x3), (4, .int x4)]) (hp' := rH e g q c l) (i := .aload_n 0) (len := 1) rfl hj rfl rfl rfl]
    rw [n_get (st' := [.ref 120]) (pc' := 345) (lv' := [(0, .ref 49), (1, .int x1), (2, .int x2), (3, .int x3), (4, .int x4)]) (hp' := rH e g q c l) (i := .getfield 231) (len := 3) rfl hj rfl rfl rfl rfl]
    rw [n_step (st' := [.int x4, .ref 120]) (pc' := 347) (lv' := [(0, .ref 49), (1, .int x1), (2, .int x2), (3, .int x3), (4, .int x4)]) (hp' := rH e g q c l) (i := .iload 4) (len := 2) rfl hj rfl rfl rfl]
    rw [n_ial (st' := [.int (c 120 (x4).toNatClampNeg)]) rfl hj (ald_120 hz0)]
    rw [n_step (st' := []) (pc' := (if xCn .eq ((c 120 (x4).toNatClampNeg)) 0 = true then 361 else 351)) (lv' := [(0, .ref 49), (1, .int x1), (2, .int x2), (3, .int x3), (4, .int x4)]) (hp' := rH e g q c l) (i := .ifCond .eq 13) (len := 3) rfl hj rfl rfl rfl]
  by_cases hc : xCn .eq ((c 120 (x4).toNatClampNeg)) 0 = true
  · obtain ⟨f, h⟩ := h1 hc
    refine ⟨f + 5, ?_⟩
    rw [key, if_pos hc]
    exact nrun_ext f f _ _ R 457 361 [(0, .ref 49), (1, .int x1), (3, .int x3), (4, .int x4)] [(0, .ref 49), (1, .int x1), (2, .int x2), (3, .int x3), (4, .int x4)] [] _ 0 0 122 (Nat.le_refl _) (Nat.le_refl _) (Nat.le_of_ble_eq_true rfl) (lvR_mk [0, 1, 3, 4] [0, 1, 2, 3, 4] rfl rfl (by decide) (by decide) (List.forall_mem_cons.mpr ⟨List.mem_cons_self, (List.forall_mem_cons.mpr ⟨(List.mem_cons_of_mem _ List.mem_cons_self), (List.forall_mem_cons.mpr ⟨(List.mem_cons_of_mem _ (List.mem_cons_of_mem _ (List.mem_cons_of_mem _ List.mem_cons_self))), (List.forall_mem_cons.mpr ⟨(List.mem_cons_of_mem _ (List.mem_cons_of_mem _ (List.mem_cons_of_mem _ (List.mem_cons_of_mem _ List.mem_cons_self)))), (fun _ h => nomatch h)⟩)⟩)⟩)⟩) (List.forall_mem_cons.mpr ⟨Or.inl List.mem_cons_self, (List.forall_mem_cons.mpr ⟨Or.inl (List.mem_cons_of_mem _ List.mem_cons_self), (List.forall_mem_cons.mpr ⟨Or.inr rfl, (List.forall_mem_cons.mpr ⟨Or.inl (List.mem_cons_of_mem _ (List.mem_cons_of_mem _ List.mem_cons_self)), (List.forall_mem_cons.mpr ⟨Or.inl (List.mem_cons_of_mem _ (List.mem_cons_of_mem _ (List.mem_cons_of_mem _ List.mem_cons_self))), (fun _ h => nomatch h)⟩)⟩)⟩)⟩)⟩)) h
  · obtain ⟨f, h⟩ := h2 hc
    refine ⟨f + 5, ?_⟩
    rw [key, if_neg hc]
    exact nrun_ext f f _ _ R 457 351 [(0, .ref 49), (1, .int x1), (2, .int x2), (4, .int x4)] [(0, .ref 49), (1, .int x1), (2, .int x2), (3, .int x3), (4, .int x4)] [] _ 0 0 122 (Nat.le_refl _) (Nat.le_refl _) (Nat.le_of_ble_eq_true rfl) (lvR_mk [0, 1, 2, 4] [0, 1, 2, 3, 4] rfl rfl (by decide) (by decide) (List.forall_mem_cons.mpr ⟨List.mem_cons_self, (List.forall_mem_cons.mpr ⟨(List.mem_cons_of_mem _ List.mem_cons_self), (List.forall_mem_cons.mpr ⟨(List.mem_cons_of_mem _ (List.mem_cons_of_mem _ List.mem_cons_self)), (List.forall_mem_cons.mpr ⟨(List.mem_cons_of_mem _ (List.mem_cons_of_mem _ (List.mem_cons_of_mem _ (List.mem_cons_of_mem _ List.mem_cons_self)))), (fun _ h => nomatch h)⟩)⟩)⟩)⟩) (List.forall_mem_cons.mpr ⟨Or.inl List.mem_cons_self, (List.forall_mem_cons.mpr ⟨Or.inl (List.mem_cons_of_mem _ List.mem_cons_self), (List.forall_mem_cons.mpr ⟨Or.inl (List.mem_cons_of_mem _ (List.mem_cons_of_mem _ List.mem_cons_self)), (List.forall_mem_cons.mpr ⟨Or.inr rfl, (List.forall_mem_cons.mpr ⟨Or.inl (List.mem_cons_of_mem _ (List.mem_cons_of_mem _ (List.mem_cons_of_mem _ List.mem_cons_self))), (fun _ h => nomatch h)⟩)⟩)⟩)⟩)⟩)) h
set_option maxRecDepth 100000 in
set_option maxHeartbeats 4000000 in
theorem bk_457_351 {b : Bool} {d : Nat} {x1 x2 x4 : Int32} {e : Nat → x_E} {g : Nat → Int32} {q : Nat → Int64} {c : Nat → Nat → Int32} {l : Nat → Nat → Int64} {g' : Nat → Int32} {q' : Nat → Int64} {c' : Nat → Nat → Int32} {l' : Nat → Nat → Int64} {v : Int32} {R : Option Value × List x_E} (hc : rr b e d 458 0 [(0, .ref 49), (1, .int x2)] [] g q c l (some (.int v), rH e g' q' c' l')) (h : rr b e (d + 1) 457 357 [(0, .ref 49), (1, .int x1), (4, .int x4)] [.int v, .ref 49] g' q' c' l' R) : rr b e (d + 1) 457 351 [(0, .ref 49), (1, .int x1), (2, .int x2), (4, .int x4)] [] g q c l R := by
  obtain ⟨f1, hc⟩ := hc
  obtain ⟨f2, h⟩ := h
  obtain ⟨f, hf1, hf2⟩ : ∃ f, f1 ≤ f ∧ f2 ≤ f := ⟨max f1 f2, Nat.le_max_left _ _, Nat.le_max_right _ _⟩
  have hc := nrun_fuel f1 f _ _ _ _ _ _ _ _ _ hf1 hc
  have h := nrun_fuel f2 f _ _ _ _ _ _ _ _ _ hf2 h
  refine ⟨f + 4, ?_⟩
  obtain ⟨y, cb, hj⟩ := mq_457
  rw [n_step (st' := [.ref 49]) (pc' := 352) (lv' := [(0, .ref 49), (1, .int x1), (2, .int x2), (4, .int x4)]) (hp' := rH e g q c l) (i := .aload_n 0) (len := 1) rfl hj rfl rfl rfl]
  rw [n_step (st' := [.ref 49, .ref 49]) (pc' := 353) (lv' := [(0, .ref 49), (1, .int x1), (2, .int x2), (4, .int x4)]) (hp' := rH e g q c l) (i := .aload_n 0) (len := 1) rfl hj rfl rfl rfl]
  rw [n_step (st' := [.int x2, .ref 49, .ref 49]) (pc' := 354) (lv' := [(0, .ref 49), (1, .int x1), (2, .int x2), (4, .int x4)]) (hp' := rH e g q c l) (i := .iload_n 2) (len := 1) rfl hj rfl rfl rfl]
  obtain ⟨y2, cb2, hj2⟩ := mq_458
  rw [n_call (f := f) (d := d) (ki := 0) (idx := 881) (j' := 458) (kd := 0) (M' := (y2, cb2, 2, some .int, 12, 1, 0, 0)) (avs := [.ref 49, .int x2]) (r := [.ref 49]) (rv := some (.int v)) (hp1 := rH e g' q' c' l') rfl hj rfl rfl rfl rfl (rq_n rfl rfl hj2 rfl rfl) rfl hc (Nat.le_of_ble_eq_true rfl)]
  exact nrun_ext f f _ _ R 457 357 [(0, .ref 49), (1, .int x1), (4, .int x4)] [(0, .ref 49), (1, .int x1), (2, .int x2), (4, .int x4)] [.int v, .ref 49] _ 0 0 122 (Nat.le_refl _) (Nat.le_refl _) (Nat.le_of_ble_eq_true rfl) (lvR_mk [0, 1, 4] [0, 1, 2, 4] rfl rfl (by decide) (by decide) (List.forall_mem_cons.mpr ⟨List.mem_cons_self, (List.forall_mem_cons.mpr ⟨(List.mem_cons_of_mem _ List.mem_cons_self), (List.forall_mem_cons.mpr ⟨(List.mem_cons_of_mem _ (List.mem_cons_of_mem _ (List.mem_cons_of_mem _ List.mem_cons_self))), (fun _ h => nomatch h)⟩)⟩)⟩) (List.forall_mem_cons.mpr ⟨Or.inl List.mem_cons_self, (List.forall_mem_cons.mpr ⟨Or.inl (List.mem_cons_of_mem _ List.mem_cons_self), (List.forall_mem_cons.mpr ⟨Or.inr rfl, (List.forall_mem_cons.mpr ⟨Or.inl (List.mem_cons_of_mem _ (List.mem_cons_of_mem _ List.mem_cons_self)), (fun _ h => nomatch h)⟩)⟩)⟩)⟩)) h
set_option maxRecDepth 100000 in
set_option maxHeartbeats 4000000 in
theorem bk_457_357 {b : Bool} {d : Nat} {t0 x1 x4 : Int32} {e : Nat → x_E} {g : Nat → Int32} {q : Nat → Int64} {c : Nat → Nat → Int32} {l : Nat → Nat → Int64} {g' : Nat → Int32} {q' : Nat → Int64} {c' : Nat → Nat → Int32} {l' : Nat → Nat → Int64} {v : Int32} {R : Option Value × List x_E} (hc : rr b e d 459 0 [(0, .ref 49), (1, .int t0)] [] g q c l (some (.int v), rH e g' q' c' l')) (h : rr b e (d + 1) 457 360 [(0, .ref 49), (1, .int x1), (4, .int x4)] [.int v] g' q' c' l' R) : rr b e (d + 1) 457 357 [(0, .ref 49), (1, .int x1), (4, .int x4)] [.int t0, .ref 49] g q c l R := by
  obtain ⟨f1, hc⟩ := hc
  obtain ⟨f2, h⟩ := h
  obtain ⟨f, hf1, hf2⟩ : ∃ f, f1 ≤ f ∧ f2 ≤ f := ⟨max f1 f2, Nat.le_max_left _ _, Nat.le_max_right _ _⟩
  have hc := nrun_fuel f1 f _ _ _ _ _ _ _ _ _ hf1 hc
  have h := nrun_fuel f2 f _ _ _ _ _ _ _ _ _ hf2 h
  refine ⟨f + 1, ?_⟩
  obtain ⟨y, cb, hj⟩ := mq_457
  obtain ⟨y2, cb2, hj2⟩ := mq_459
  rw [n_call (f := f) (d := d) (ki := 0) (idx := 885) (j' := 459) (kd := 0) (M' := (y2, cb2, 3, some .int, 12, 1, 0, 0)) (avs := [.ref 49, .int t0]) (r := []) (rv := some (.int v)) (hp1 := rH e g' q' c' l') rfl hj rfl rfl rfl rfl (rq_n rfl rfl hj2 rfl rfl) rfl hc (Nat.le_of_ble_eq_true rfl)]
  exact h
set_option maxRecDepth 100000 in
set_option maxHeartbeats 4000000 in
theorem bk_457_360 {b : Bool} {d : Nat} {t0 x1 x4 : Int32} {e : Nat → x_E} {g : Nat → Int32} {q : Nat → Int64} {c : Nat → Nat → Int32} {l : Nat → Nat → Int64} {R : Option Value × List x_E} (h : rr b e d 457 361 [(0, .ref 49), (1, .int x1), (3, .int t0), (4, .int x4)] [] g q c l R) : rr b e d 457 360 [(0, .ref 49), (1, .int x1), (4, .int x4)] [.int t0] g q c l R := by
  obtain ⟨f, h⟩ := h
  refine ⟨f + 1, ?_⟩
  obtain ⟨y, cb, hj⟩ := mq_457
  rw [n_step (st' := []) (pc' := 361) (lv' := [(3, .int t0), (0, .ref 49), (1, .int x1), (4, .int x4)]) (hp' := rH e g q c l) (i := .istore_n 3) (len := 1) rfl hj rfl rfl rfl]
  exact nrun_ext f f _ _ R 457 361 [(0, .ref 49), (1, .int x1), (3, .int t0), (4, .int x4)] [(3, .int t0), (0, .ref 49), (1, .int x1), (4, .int x4)] [] _ 0 0 122 (Nat.le_refl _) (Nat.le_refl _) (Nat.le_of_ble_eq_true rfl) (lvR_mk [0, 1, 3, 4] [3, 0, 1, 4] rfl rfl (by decide) (by decide) (List.forall_mem_cons.mpr ⟨(List.mem_cons_of_mem _ List.mem_cons_self), (List.forall_mem_cons.mpr ⟨(List.mem_cons_of_mem _ (List.mem_cons_of_mem _ List.mem_cons_self)), (List.forall_mem_cons.mpr ⟨List.mem_cons_self, (List.forall_mem_cons.mpr ⟨(List.mem_cons_of_mem _ (List.mem_cons_of_mem _ (List.mem_cons_of_mem _ List.mem_cons_self))), (fun _ h => nomatch h)⟩)⟩)⟩)⟩) (List.forall_mem_cons.mpr ⟨Or.inl (List.mem_cons_of_mem _ (List.mem_cons_of_mem _ List.mem_cons_self)), (List.forall_mem_cons.mpr ⟨Or.inl List.mem_cons_self, (List.forall_mem_cons.mpr ⟨Or.inl (List.mem_cons_of_mem _ List.mem_cons_self), (List.forall_mem_cons.mpr ⟨Or.inl (List.mem_cons_of_mem _ (List.mem_cons_of_mem _ (List.mem_cons_of_mem _ List.mem_cons_self))), (fun _ h => nomatch h)⟩)⟩)⟩)⟩)) h
set_option maxRecDepth 100000 in
set_option maxHeartbeats 4000000 in
theorem bk_457_361 {b : Bool} {d : Nat} {x1 x3 x4 : Int32} {e : Nat → x_E} {g : Nat → Int32} {q : Nat → Int64} {c : Nat → Nat → Int32} {l : Nat → Nat → Int64} {R : Option Value × List x_E} (hz0 : ¬ (x4 < 0 ∨ 16 ≤ (x4).toNatClampNeg)) (h1 : xCn .eq ((c 120 (x4).toNatClampNeg)) 0 = true → rr b e d 457 429 [(0, .ref 49), (1, .int x1), (3, .int x3)] [] g q c l R) (h2 : ¬ xCn .eq ((c 120 (x4).toNatClampNeg)) 0 = true → rr b e d 457 371 [(0, .ref 49), (1, .int x1), (3, .int x3)] [] g q c l R) : rr b e d 457 361 [(0, .ref 49), (1, .int x1), (3, .int x3), (4, .int x4)] [] g q c l R := by
  have key : ∀ f, nrun xZ (xY (xfm b)) xDT (f + 5) d 457 361 [(0, .ref 49), (1, .int x1), (3, .int x3), (4, .int x4)] [] (rH e g q c l) 0 0 = nrun xZ (xY (xfm b)) xDT f d 457 (if xCn .eq ((c 120 (x4).toNatClampNeg)) 0 = true then 429 else 371) [(0, .ref 49), (1, .int x1), (3, .int x3), (4, .int x4)] [] (rH e g q c l) 0 0 := by
    intro f
    obtain ⟨y, cb, hj⟩ := mq_457
    rw [n_step (st' := [.ref 49]) (pc' := 362) (lv' := [(0, .ref 49), (1, .int x1), (3, .int x3), (4, .int x4)]) (hp' := rH e g q c l) (i := .aload_n 0) (len := 1) rfl hj rfl rfl rfl]
    rw [n_get (st' := [.ref 120]) (pc' := 365) (lv' := [(0, .ref 49), (1, .int x1), (3, .int x3), (4, .int x4)]) (hp' := rH e g q c l) (i := .getfield 231) (len := 3) rfl hj rfl rfl rfl rfl]
    rw [n_step (st' := [.int x4, .ref 120]) (pc' := 367) (lv' := [(0, .ref 49), (1, .int x1), (3, .int x3), (4, .int x4)]) (hp' := rH e g q c l) (i := .iload 4) (len := 2) rfl hj rfl rfl rfl]
    rw [n_ial (st' := [.int (c 120 (x4).toNatClampNeg)]) rfl hj (ald_120 hz0)]
    rw [n_step (st' := []) (pc' := (if xCn .eq ((c 120 (x4).toNatClampNeg)) 0 = true then 429 else 371)) (lv' := [(0, .ref 49), (1, .int x1), (3, .int x3), (4, .int x4)]) (hp' := rH e g q c l) (i := .ifCond .eq 61) (len := 3) rfl hj rfl rfl rfl]
  by_cases hc : xCn .eq ((c 120 (x4).toNatClampNeg)) 0 = true
  · obtain ⟨f, h⟩ := h1 hc
    refine ⟨f + 5, ?_⟩
    rw [key, if_pos hc]
    exact nrun_ext f f _ _ R 457 429 [(0, .ref 49), (1, .int x1), (3, .int x3)] [(0, .ref 49), (1, .int x1), (3, .int x3), (4, .int x4)] [] _ 0 0 122 (Nat.le_refl _) (Nat.le_refl _) (Nat.le_of_ble_eq_true rfl) (lvR_mk [0, 1, 3] [0, 1, 3, 4] rfl rfl (by decide) (by decide) (List.forall_mem_cons.mpr ⟨List.mem_cons_self, (List.forall_mem_cons.mpr ⟨(List.mem_cons_of_mem _ List.mem_cons_self), (List.forall_mem_cons.mpr ⟨(List.mem_cons_of_mem _ (List.mem_cons_of_mem _ List.mem_cons_self)), (fun _ h => nomatch h)⟩)⟩)⟩) (List.forall_mem_cons.mpr ⟨Or.inl List.mem_cons_self, (List.forall_mem_cons.mpr ⟨Or.inl (List.mem_cons_of_mem _ List.mem_cons_self), (List.forall_mem_cons.mpr ⟨Or.inl (List.mem_cons_of_mem _ (List.mem_cons_of_mem _ List.mem_cons_self)), (List.forall_mem_cons.mpr ⟨Or.inr rfl, (fun _ h => nomatch h)⟩)⟩)⟩)⟩)) h
  · obtain ⟨f, h⟩ := h2 hc
    refine ⟨f + 5, ?_⟩
    rw [key, if_neg hc]
    exact nrun_ext f f _ _ R 457 371 [(0, .ref 49), (1, .int x1), (3, .int x3)] [(0, .ref 49), (1, .int x1), (3, .int x3), (4, .int x4)] [] _ 0 0 122 (Nat.le_refl _) (Nat.le_refl _) (Nat.le_of_ble_eq_true rfl) (lvR_mk [0, 1, 3] [0, 1, 3, 4] rfl rfl (by decide) (by decide) (List.forall_mem_cons.mpr ⟨List.mem_cons_self, (List.forall_mem_cons.mpr ⟨(List.mem_cons_of_mem _ List.mem_cons_self), (List.forall_mem_cons.mpr ⟨(List.mem_cons_of_mem _ (List.mem_cons_of_mem _ List.mem_cons_self)), (fun _ h => nomatch h)⟩)⟩)⟩) (List.forall_mem_cons.mpr ⟨Or.inl List.mem_cons_self, (List.forall_mem_cons.mpr ⟨Or.inl (List.mem_cons_of_mem _ List.mem_cons_self), (List.forall_mem_cons.mpr ⟨Or.inl (List.mem_cons_of_mem _ (List.mem_cons_of_mem _ List.mem_cons_self)), (List.forall_mem_cons.mpr ⟨Or.inr rfl, (fun _ h => nomatch h)⟩)⟩)⟩)⟩)) h
set_option maxRecDepth 100000 in
set_option maxHeartbeats 4000000 in
theorem bk_457_371 {b : Bool} {d : Nat} {x1 x3 : Int32} {e : Nat → x_E} {g : Nat → Int32} {q : Nat → Int64} {c : Nat → Nat → Int32} {l : Nat → Nat → Int64} {R : Option Value × List x_E} (h : rr b e d 457 429 [(0, .ref 49), (1, .int x1), (3, .int x3)] [] (upd g 68 (((g 68) + (Int32.ofInt (1))))) q c l R) : rr b e d 457 371 [(0, .ref 49), (1, .int x1), (3, .int x3)] [] g q c l R := by
  obtain ⟨f, h⟩ := h
  refine ⟨f + 7, ?_⟩
  obtain ⟨y, cb, hj⟩ := mq_457
  rw [n_step (st' := [.ref 49]) (pc' := 372) (lv' := [(0, .ref 49), (1, .int x1), (3, .int x3)]) (hp' := rH e g q c l) (i := .aload_n 0) (len := 1) rfl hj rfl rfl rfl]
  rw [n_step (st' := [.ref 49, .ref 49]) (pc' := 373) (lv' := [(0, .ref 49), (1, .int x1), (3, .int x3)]) (hp' := rH e g q c l) (i := .aload_n 0) (len := 1) rfl hj rfl rfl rfl]
  rw [n_get (st' := [.int (g 68), .ref 49]) (pc' := 376) (lv' := [(0, .ref 49), (1, .int x1), (3, .int x3)]) (hp' := rH e g q c l) (i := .getfield 644) (len := 3) rfl hj rfl rfl rfl rfl]
  rw [n_step (st' := [.int (Int32.ofInt (1)), .int (g 68), .ref 49]) (pc' := 377) (lv' := [(0, .ref 49), (1, .int x1), (3, .int x3)]) (hp' := rH e g q c l) (i := .iconst 1) (len := 1) rfl hj rfl rfl rfl]
  rw [n_step (st' := [.int ((g 68) + (Int32.ofInt (1))), .ref 49]) (pc' := 378) (lv' := [(0, .ref 49), (1, .int x1), (3, .int x3)]) (hp' := rH e g q c l) (i := .iadd) (len := 1) rfl hj rfl rfl rfl]
  rw [n_put (st' := []) (hp' := rH e (upd g 68 (((g 68) + (Int32.ofInt (1))))) q c l) rfl hj pf_68]
  rw [n_step (st' := []) (pc' := 429) (lv' := [(0, .ref 49), (1, .int x1), (3, .int x3)]) (hp' := rH e (upd g 68 (((g 68) + (Int32.ofInt (1))))) q c l) (i := .goto 48) (len := 3) rfl hj rfl rfl rfl]
  exact h
set_option maxRecDepth 100000 in
set_option maxHeartbeats 4000000 in
theorem bk_457_384 {b : Bool} {d : Nat} {x1 x2 : Int32} {e : Nat → x_E} {g : Nat → Int32} {q : Nat → Int64} {c : Nat → Nat → Int32} {l : Nat → Nat → Int64} {g' : Nat → Int32} {q' : Nat → Int64} {c' : Nat → Nat → Int32} {l' : Nat → Nat → Int64} {v : Int32} {R : Option Value × List x_E} (hc : rr b e d 458 0 [(0, .ref 49), (1, .int x2)] [] g q c l (some (.int v), rH e g' q' c' l')) (h : rr b e (d + 1) 457 390 [(0, .ref 49), (1, .int x1)] [.int v, .ref 49] g' q' c' l' R) : rr b e (d + 1) 457 384 [(0, .ref 49), (1, .int x1), (2, .int x2)] [] g q c l R := by
  obtain ⟨f1, hc⟩ := hc
  obtain ⟨f2, h⟩ := h
  obtain ⟨f, hf1, hf2⟩ : ∃ f, f1 ≤ f ∧ f2 ≤ f := ⟨max f1 f2, Nat.le_max_left _ _, Nat.le_max_right _ _⟩
  have hc := nrun_fuel f1 f _ _ _ _ _ _ _ _ _ hf1 hc
  have h := nrun_fuel f2 f _ _ _ _ _ _ _ _ _ hf2 h
  refine ⟨f + 4, ?_⟩
  obtain ⟨y, cb, hj⟩ := mq_457
  rw [n_step (st' := [.ref 49]) (pc' := 385) (lv' := [(0, .ref 49), (1, .int x1), (2, .int x2)]) (hp' := rH e g q c l) (i := .aload_n 0) (len := 1) rfl hj rfl rfl rfl]
  rw [n_step (st' := [.ref 49, .ref 49]) (pc' := 386) (lv' := [(0, .ref 49), (1, .int x1), (2, .int x2)]) (hp' := rH e g q c l) (i := .aload_n 0) (len := 1) rfl hj rfl rfl rfl]
  rw [n_step (st' := [.int x2, .ref 49, .ref 49]) (pc' := 387) (lv' := [(0, .ref 49), (1, .int x1), (2, .int x2)]) (hp' := rH e g q c l) (i := .iload_n 2) (len := 1) rfl hj rfl rfl rfl]
  obtain ⟨y2, cb2, hj2⟩ := mq_458
  rw [n_call (f := f) (d := d) (ki := 0) (idx := 881) (j' := 458) (kd := 0) (M' := (y2, cb2, 2, some .int, 12, 1, 0, 0)) (avs := [.ref 49, .int x2]) (r := [.ref 49]) (rv := some (.int v)) (hp1 := rH e g' q' c' l') rfl hj rfl rfl rfl rfl (rq_n rfl rfl hj2 rfl rfl) rfl hc (Nat.le_of_ble_eq_true rfl)]
  exact nrun_ext f f _ _ R 457 390 [(0, .ref 49), (1, .int x1)] [(0, .ref 49), (1, .int x1), (2, .int x2)] [.int v, .ref 49] _ 0 0 122 (Nat.le_refl _) (Nat.le_refl _) (Nat.le_of_ble_eq_true rfl) (lvR_mk [0, 1] [0, 1, 2] rfl rfl (by decide) (by decide) (List.forall_mem_cons.mpr ⟨List.mem_cons_self, (List.forall_mem_cons.mpr ⟨(List.mem_cons_of_mem _ List.mem_cons_self), (fun _ h => nomatch h)⟩)⟩) (List.forall_mem_cons.mpr ⟨Or.inl List.mem_cons_self, (List.forall_mem_cons.mpr ⟨Or.inl (List.mem_cons_of_mem _ List.mem_cons_self), (List.forall_mem_cons.mpr ⟨Or.inr rfl, (fun _ h => nomatch h)⟩)⟩)⟩)) h
set_option maxRecDepth 100000 in
set_option maxHeartbeats 4000000 in
theorem bk_457_390 {b : Bool} {d : Nat} {t0 x1 : Int32} {e : Nat → x_E} {g : Nat → Int32} {q : Nat → Int64} {c : Nat → Nat → Int32} {l : Nat → Nat → Int64} {g' : Nat → Int32} {q' : Nat → Int64} {c' : Nat → Nat → Int32} {l' : Nat → Nat → Int64} {v : Int32} {R : Option Value × List x_E} (hc : rr b e d 459 0 [(0, .ref 49), (1, .int t0)] [] g q c l (some (.int v), rH e g' q' c' l')) (h : rr b e (d + 1) 457 393 [(0, .ref 49), (1, .int x1)] [.int v] g' q' c' l' R) : rr b e (d + 1) 457 390 [(0, .ref 49), (1, .int x1)] [.int t0, .ref 49] g q c l R := by
  obtain ⟨f1, hc⟩ := hc
  obtain ⟨f2, h⟩ := h
  obtain ⟨f, hf1, hf2⟩ : ∃ f, f1 ≤ f ∧ f2 ≤ f := ⟨max f1 f2, Nat.le_max_left _ _, Nat.le_max_right _ _⟩
  have hc := nrun_fuel f1 f _ _ _ _ _ _ _ _ _ hf1 hc
  have h := nrun_fuel f2 f _ _ _ _ _ _ _ _ _ hf2 h
  refine ⟨f + 1, ?_⟩
  obtain ⟨y, cb, hj⟩ := mq_457
  obtain ⟨y2, cb2, hj2⟩ := mq_459
  rw [n_call (f := f) (d := d) (ki := 0) (idx := 885) (j' := 459) (kd := 0) (M' := (y2, cb2, 3, some .int, 12, 1, 0, 0)) (avs := [.ref 49, .int t0]) (r := []) (rv := some (.int v)) (hp1 := rH e g' q' c' l') rfl hj rfl rfl rfl rfl (rq_n rfl rfl hj2 rfl rfl) rfl hc (Nat.le_of_ble_eq_true rfl)]
  exact h
set_option maxRecDepth 100000 in
set_option maxHeartbeats 4000000 in
theorem bk_457_393 {b : Bool} {d : Nat} {t0 x1 : Int32} {e : Nat → x_E} {g : Nat → Int32} {q : Nat → Int64} {c : Nat → Nat → Int32} {l : Nat → Nat → Int64} {R : Option Value × List x_E} (h : rr b e d 457 429 [(0, .ref 49), (1, .int x1), (3, .int t0)] [] (upd g 68 (((g 68) + (Int32.ofInt (1))))) q c l R) : rr b e d 457 393 [(0, .ref 49), (1, .int x1)] [.int t0] g q c l R := by
  obtain ⟨f, h⟩ := h
  refine ⟨f + 8, ?_⟩
  obtain ⟨y, cb, hj⟩ := mq_457
  rw [n_step (st' := []) (pc' := 394) (lv' := [(3, .int t0), (0, .ref 49), (1, .int x1)]) (hp' := rH e g q c l) (i := .istore_n 3) (len := 1) rfl hj rfl rfl rfl]
  rw [n_step (st' := [.ref 49]) (pc' := 395) (lv' := [(3, .int t0), (0, .ref 49), (1, .int x1)]) (hp' := rH e g q c l) (i := .aload_n 0) (len := 1) rfl hj rfl rfl rfl]
  rw [n_step (st' := [.ref 49, .ref 49]) (pc' := 396) (lv' := [(3, .int t0), (0, .ref 49), (1, .int x1)]) (hp' := rH e g q c l) (i := .aload_n 0) (len := 1) rfl hj rfl rfl rfl]
  rw [n_get (st' := [.int (g 68), .ref 49]) (pc' := 399) (lv' := [(3, .int t0), (0, .ref 49), (1, .int x1)]) (hp' := rH e g q c l) (i := .getfield 644) (len := 3) rfl hj rfl rfl rfl rfl]
  rw [n_step (st' := [.int (Int32.ofInt (1)), .int (g 68), .ref 49]) (pc' := 400) (lv' := [(3, .int t0), (0, .ref 49), (1, .int x1)]) (hp' := rH e g q c l) (i := .iconst 1) (len := 1) rfl hj rfl rfl rfl]
  rw [n_step (st' := [.int ((g 68) + (Int32.ofInt (1))), .ref 49]) (pc' := 401) (lv' := [(3, .int t0), (0, .ref 49), (1, .int x1)]) (hp' := rH e g q c l) (i := .iadd) (len := 1) rfl hj rfl rfl rfl]
  rw [n_put (st' := []) (hp' := rH e (upd g 68 (((g 68) + (Int32.ofInt (1))))) q c l) rfl hj pf_68]
  rw [n_step (st' := []) (pc' := 429) (lv' := [(3, .int t0), (0, .ref 49), (1, .int x1)]) (hp' := rH e (upd g 68 (((g 68) + (Int32.ofInt (1))))) q c l) (i := .goto 25) (len := 3) rfl hj rfl rfl rfl]
  exact nrun_ext f f _ _ R 457 429 [(0, .ref 49), (1, .int x1), (3, .int t0)] [(3, .int t0), (0, .ref 49), (1, .int x1)] [] _ 0 0 122 (Nat.le_refl _) (Nat.le_refl _) (Nat.le_of_ble_eq_true rfl) (lvR_mk [0, 1, 3] [3, 0, 1] rfl rfl (by decide) (by decide) (List.forall_mem_cons.mpr ⟨(List.mem_cons_of_mem _ List.mem_cons_self), (List.forall_mem_cons.mpr ⟨(List.mem_cons_of_mem _ (List.mem_cons_of_mem _ List.mem_cons_self)), (List.forall_mem_cons.mpr ⟨List.mem_cons_self, (fun _ h => nomatch h)⟩)⟩)⟩) (List.forall_mem_cons.mpr ⟨Or.inl (List.mem_cons_of_mem _ (List.mem_cons_of_mem _ List.mem_cons_self)), (List.forall_mem_cons.mpr ⟨Or.inl List.mem_cons_self, (List.forall_mem_cons.mpr ⟨Or.inl (List.mem_cons_of_mem _ List.mem_cons_self), (fun _ h => nomatch h)⟩)⟩)⟩)) h
set_option maxRecDepth 100000 in
set_option maxHeartbeats 4000000 in
theorem bk_457_407 {b : Bool} {d : Nat} {e : Nat → x_E} {g : Nat → Int32} {q : Nat → Int64} {c : Nat → Nat → Int32} {l : Nat → Nat → Int64} (hz0 : ¬ ((Int32.ofInt (1)) < 0 ∨ 16 ≤ ((Int32.ofInt (1))).toNatClampNeg)) : rr b e d 457 407 [(0, .ref 49)] [] g q c l (some (.int (Int32.ofInt (0))), rH e (upd (upd g 66 (((g 66) + (Int32.ofInt (1))))) 69 ((c 120 ((Int32.ofInt (1))).toNatClampNeg))) q c l) := by
  refine ⟨0 + 14, ?_⟩
  obtain ⟨y, cb, hj⟩ := mq_457
  rw [n_step (st' := [.ref 49]) (pc' := 408) (lv' := [(0, .ref 49)]) (hp' := rH e g q c l) (i := .aload_n 0) (len := 1) rfl hj rfl rfl rfl]
  rw [n_step (st' := [.ref 49, .ref 49]) (pc' := 409) (lv' := [(0, .ref 49)]) (hp' := rH e g q c l) (i := .aload_n 0) (len := 1) rfl hj rfl rfl rfl]
  rw [n_get (st' := [.int (g 66), .ref 49]) (pc' := 412) (lv' := [(0, .ref 49)]) (hp' := rH e g q c l) (i := .getfield 641) (len := 3) rfl hj rfl rfl rfl rfl]
  rw [n_step (st' := [.int (Int32.ofInt (1)), .int (g 66), .ref 49]) (pc' := 413) (lv' := [(0, .ref 49)]) (hp' := rH e g q c l) (i := .iconst 1) (len := 1) rfl hj rfl rfl rfl]
  rw [n_step (st' := [.int ((g 66) + (Int32.ofInt (1))), .ref 49]) (pc' := 414) (lv' := [(0, .ref 49)]) (hp' := rH e g q c l) (i := .iadd) (len := 1) rfl hj rfl rfl rfl]
  rw [n_put (st' := []) (hp' := rH e (upd g 66 (((g 66) + (Int32.ofInt (1))))) q c l) rfl hj pf_66]
  rw [n_step (st' := [.ref 49]) (pc' := 418) (lv' := [(0, .ref 49)]) (hp' := rH e (upd g 66 (((g 66) + (Int32.ofInt (1))))) q c l) (i := .aload_n 0) (len := 1) rfl hj rfl rfl rfl]
  rw [n_step (st' := [.ref 49, .ref 49]) (pc' := 419) (lv' := [(0, .ref 49)]) (hp' := rH e (upd g 66 (((g 66) + (Int32.ofInt (1))))) q c l) (i := .aload_n 0) (len := 1) rfl hj rfl rfl rfl]
  rw [n_get (st' := [.ref 120, .ref 49]) (pc' := 422) (lv' := [(0, .ref 49)]) (hp' := rH e (upd g 66 (((g 66) + (Int32.ofInt (1))))) q c l) (i := .getfield 231) (len := 3) rfl hj rfl rfl rfl rfl]
  rw [n_step (st' := [.int (Int32.ofInt (1)), .ref 120, .ref 49]) (pc' := 423) (lv' := [(0, .ref 49)]) (hp' := rH e (upd g 66 (((g 66) + (Int32.ofInt (1))))) q c l) (i := .iconst 1) (len := 1) rfl hj rfl rfl rfl]
  rw [n_ial (st' := [.int (c 120 ((Int32.ofInt (1))).toNatClampNeg), .ref 49]) rfl hj (ald_120 hz0)]
  rw [n_put (st' := []) (hp' := rH e (upd (upd g 66 (((g 66) + (Int32.ofInt (1))))) 69 ((c 120 ((Int32.ofInt (1))).toNatClampNeg))) q c l) rfl hj pf_69]
  rw [n_step (st' := [.int (Int32.ofInt (0))]) (pc' := 428) (lv' := [(0, .ref 49)]) (hp' := rH e (upd (upd g 66 (((g 66) + (Int32.ofInt (1))))) 69 ((c 120 ((Int32.ofInt (1))).toNatClampNeg))) q c l) (i := .iconst 0) (len := 1) rfl hj rfl rfl rfl]
  exact n_ret rfl hj rfl rfl (x_ret rfl)
set_option maxRecDepth 100000 in
set_option maxHeartbeats 4000000 in
theorem bk_457_429 {b : Bool} {d : Nat} {x1 x3 : Int32} {e : Nat → x_E} {g : Nat → Int32} {q : Nat → Int64} {c : Nat → Nat → Int32} {l : Nat → Nat → Int64} {R : Option Value × List x_E} (h : rr b e d 457 45 [(0, .ref 49), (1, .int x1), (2, .int x3)] [] (upd g 66 (((g 66) + (Int32.ofInt (1))))) q c l R) : rr b e d 457 429 [(0, .ref 49), (1, .int x1), (3, .int x3)] [] g q c l R := by
  obtain ⟨f, h⟩ := h
  refine ⟨f + 9, ?_⟩
  obtain ⟨y, cb, hj⟩ := mq_457
  rw [n_step (st' := [.ref 49]) (pc' := 430) (lv' := [(0, .ref 49), (1, .int x1), (3, .int x3)]) (hp' := rH e g q c l) (i := .aload_n 0) (len := 1) rfl hj rfl rfl rfl]
  rw [n_step (st' := [.ref 49, .ref 49]) (pc' := 431) (lv' := [(0, .ref 49), (1, .int x1), (3, .int x3)]) (hp' := rH e g q c l) (i := .aload_n 0) (len := 1) rfl hj rfl rfl rfl]
  rw [n_get (st' := [.int (g 66), .ref 49]) (pc' := 434) (lv' := [(0, .ref 49), (1, .int x1), (3, .int x3)]) (hp' := rH e g q c l) (i := .getfield 641) (len := 3) rfl hj rfl rfl rfl rfl]
  rw [n_step (st' := [.int (Int32.ofInt (1)), .int (g 66), .ref 49]) (pc' := 435) (lv' := [(0, .ref 49), (1, .int x1), (3, .int x3)]) (hp' := rH e g q c l) (i := .iconst 1) (len := 1) rfl hj rfl rfl rfl]
  rw [n_step (st' := [.int ((g 66) + (Int32.ofInt (1))), .ref 49]) (pc' := 436) (lv' := [(0, .ref 49), (1, .int x1), (3, .int x3)]) (hp' := rH e g q c l) (i := .iadd) (len := 1) rfl hj rfl rfl rfl]
  rw [n_put (st' := []) (hp' := rH e (upd g 66 (((g 66) + (Int32.ofInt (1))))) q c l) rfl hj pf_66]
  rw [n_step (st' := [.int x3]) (pc' := 440) (lv' := [(0, .ref 49), (1, .int x1), (3, .int x3)]) (hp' := rH e (upd g 66 (((g 66) + (Int32.ofInt (1))))) q c l) (i := .iload_n 3) (len := 1) rfl hj rfl rfl rfl]
  rw [n_step (st' := []) (pc' := 441) (lv' := [(2, .int x3), (0, .ref 49), (1, .int x1), (3, .int x3)]) (hp' := rH e (upd g 66 (((g 66) + (Int32.ofInt (1))))) q c l) (i := .istore_n 2) (len := 1) rfl hj rfl rfl rfl]
  rw [n_step (st' := []) (pc' := 45) (lv' := [(2, .int x3), (0, .ref 49), (1, .int x1), (3, .int x3)]) (hp' := rH e (upd g 66 (((g 66) + (Int32.ofInt (1))))) q c l) (i := .goto (-396)) (len := 3) rfl hj rfl rfl rfl]
  exact nrun_ext f f _ _ R 457 45 [(0, .ref 49), (1, .int x1), (2, .int x3)] [(2, .int x3), (0, .ref 49), (1, .int x1), (3, .int x3)] [] _ 0 0 122 (Nat.le_refl _) (Nat.le_refl _) (Nat.le_of_ble_eq_true rfl) (lvR_mk [0, 1, 2] [2, 0, 1, 3] rfl rfl (by decide) (by decide) (List.forall_mem_cons.mpr ⟨(List.mem_cons_of_mem _ List.mem_cons_self), (List.forall_mem_cons.mpr ⟨(List.mem_cons_of_mem _ (List.mem_cons_of_mem _ List.mem_cons_self)), (List.forall_mem_cons.mpr ⟨List.mem_cons_self, (fun _ h => nomatch h)⟩)⟩)⟩) (List.forall_mem_cons.mpr ⟨Or.inl (List.mem_cons_of_mem _ (List.mem_cons_of_mem _ List.mem_cons_self)), (List.forall_mem_cons.mpr ⟨Or.inl List.mem_cons_self, (List.forall_mem_cons.mpr ⟨Or.inl (List.mem_cons_of_mem _ List.mem_cons_self), (List.forall_mem_cons.mpr ⟨Or.inr rfl, (fun _ h => nomatch h)⟩)⟩)⟩)⟩)) h
set_option maxRecDepth 100000 in
set_option maxHeartbeats 4000000 in
theorem bk_458_0 {b : Bool} {d : Nat} {x1 : Int32} {e : Nat → x_E} {g : Nat → Int32} {q : Nat → Int64} {c : Nat → Nat → Int32} {l : Nat → Nat → Int64} {R : Option Value × List x_E} (hz0 : ¬ (x1 < 0 ∨ 700 ≤ (x1).toNatClampNeg)) (h1 : xCn .ne ((c 115 (x1).toNatClampNeg)) ((Int32.ofInt (2))) = true → rr b e d 458 24 [(0, .ref 49), (1, .int x1)] [] g q c l R) (h2 : ¬ xCn .ne ((c 115 (x1).toNatClampNeg)) ((Int32.ofInt (2))) = true → rr b e d 458 10 [(0, .ref 49), (1, .int x1)] [] g q c l R) : rr b e d 458 0 [(0, .ref 49), (1, .int x1)] [] g q c l R := by
  have key : ∀ f, nrun xZ (xY (xfm b)) xDT (f + 6) d 458 0 [(0, .ref 49), (1, .int x1)] [] (rH e g q c l) 0 0 = nrun xZ (xY (xfm b)) xDT f d 458 (if xCn .ne ((c 115 (x1).toNatClampNeg)) ((Int32.ofInt (2))) = true then 24 else 10) [(0, .ref 49), (1, .int x1)] [] (rH e g q c l) 0 0 := by
    intro f
    obtain ⟨y, cb, hj⟩ := mq_458
    rw [n_step (st' := [.ref 49]) (pc' := 1) (lv' := [(0, .ref 49), (1, .int x1)]) (hp' := rH e g q c l) (i := .aload_n 0) (len := 1) rfl hj rfl rfl rfl]
    rw [n_get (st' := [.ref 115]) (pc' := 4) (lv' := [(0, .ref 49), (1, .int x1)]) (hp' := rH e g q c l) (i := .getfield 216) (len := 3) rfl hj rfl rfl rfl rfl]
    rw [n_step (st' := [.int x1, .ref 115]) (pc' := 5) (lv' := [(0, .ref 49), (1, .int x1)]) (hp' := rH e g q c l) (i := .iload_n 1) (len := 1) rfl hj rfl rfl rfl]
    rw [n_ial (st' := [.int (c 115 (x1).toNatClampNeg)]) rfl hj (ald_115 hz0)]
    rw [n_step (st' := [.int (Int32.ofInt (2)), .int (c 115 (x1).toNatClampNeg)]) (pc' := 7) (lv' := [(0, .ref 49), (1, .int x1)]) (hp' := rH e g q c l) (i := .iconst 2) (len := 1) rfl hj rfl rfl rfl]
    rw [n_step (st' := []) (pc' := (if xCn .ne ((c 115 (x1).toNatClampNeg)) ((Int32.ofInt (2))) = true then 24 else 10)) (lv' := [(0, .ref 49), (1, .int x1)]) (hp' := rH e g q c l) (i := .if_icmp .ne 17) (len := 3) rfl hj rfl rfl rfl]
  by_cases hc : xCn .ne ((c 115 (x1).toNatClampNeg)) ((Int32.ofInt (2))) = true
  · obtain ⟨f, h⟩ := h1 hc
    refine ⟨f + 6, ?_⟩
    rw [key, if_pos hc]
    exact h
  · obtain ⟨f, h⟩ := h2 hc
    refine ⟨f + 6, ?_⟩
    rw [key, if_neg hc]
    exact h
set_option maxRecDepth 100000 in
set_option maxHeartbeats 4000000 in
theorem bk_458_10 {b : Bool} {d : Nat} {x1 : Int32} {e : Nat → x_E} {g : Nat → Int32} {q : Nat → Int64} {c : Nat → Nat → Int32} {l : Nat → Nat → Int64} {R : Option Value × List x_E} (hz0 : ¬ (x1 < 0 ∨ 700 ≤ (x1).toNatClampNeg)) (hz1 : ¬ ((c 116 (x1).toNatClampNeg) < 0 ∨ 16 ≤ ((c 116 (x1).toNatClampNeg)).toNatClampNeg)) (h : rr b e d 458 53 [] [.int (c 120 ((c 116 (x1).toNatClampNeg)).toNatClampNeg)] g q c l R) : rr b e d 458 10 [(0, .ref 49), (1, .int x1)] [] g q c l R := by
  obtain ⟨f, h⟩ := h
  refine ⟨f + 8, ?_⟩
  obtain ⟨y, cb, hj⟩ := mq_458
  rw [n_step (st' := [.ref 49]) (pc' := 11) (lv' := [(0, .ref 49), (1, .int x1)]) (hp' := rH e g q c l) (i := .aload_n 0) (len := 1) rfl hj rfl rfl rfl]
  rw [n_get (st' := [.ref 120]) (pc' := 14) (lv' := [(0, .ref 49), (1, .int x1)]) (hp' := rH e g q c l) (i := .getfield 231) (len := 3) rfl hj rfl rfl rfl rfl]
  rw [n_step (st' := [.ref 49, .ref 120]) (pc' := 15) (lv' := [(0, .ref 49), (1, .int x1)]) (hp' := rH e g q c l) (i := .aload_n 0) (len := 1) rfl hj rfl rfl rfl]
  rw [n_get (st' := [.ref 116, .ref 120]) (pc' := 18) (lv' := [(0, .ref 49), (1, .int x1)]) (hp' := rH e g q c l) (i := .getfield 219) (len := 3) rfl hj rfl rfl rfl rfl]
  rw [n_step (st' := [.int x1, .ref 116, .ref 120]) (pc' := 19) (lv' := [(0, .ref 49), (1, .int x1)]) (hp' := rH e g q c l) (i := .iload_n 1) (len := 1) rfl hj rfl rfl rfl]
  rw [n_ial (st' := [.int (c 116 (x1).toNatClampNeg), .ref 120]) rfl hj (ald_116 hz0)]
  rw [n_ial (st' := [.int (c 120 ((c 116 (x1).toNatClampNeg)).toNatClampNeg)]) rfl hj (ald_120 hz1)]
  rw [n_step (st' := [.int (c 120 ((c 116 (x1).toNatClampNeg)).toNatClampNeg)]) (pc' := 53) (lv' := [(0, .ref 49), (1, .int x1)]) (hp' := rH e g q c l) (i := .goto 32) (len := 3) rfl hj rfl rfl rfl]
  exact nrun_ext f f _ _ R 458 53 [] [(0, .ref 49), (1, .int x1)] [.int (c 120 ((c 116 (x1).toNatClampNeg)).toNatClampNeg)] _ 0 0 122 (Nat.le_refl _) (Nat.le_refl _) (Nat.le_of_ble_eq_true rfl) (lvR_mk [] [0, 1] rfl rfl (by decide) (by decide) (fun _ h => nomatch h) (List.forall_mem_cons.mpr ⟨Or.inr rfl, (List.forall_mem_cons.mpr ⟨Or.inr rfl, (fun _ h => nomatch h)⟩)⟩)) h
set_option maxRecDepth 100000 in
set_option maxHeartbeats 4000000 in
theorem bk_458_24 {b : Bool} {d : Nat} {x1 : Int32} {e : Nat → x_E} {g : Nat → Int32} {q : Nat → Int64} {c : Nat → Nat → Int32} {l : Nat → Nat → Int64} {R : Option Value × List x_E} (hz0 : ¬ (x1 < 0 ∨ 700 ≤ (x1).toNatClampNeg)) (h1 : xCn .ne ((c 115 (x1).toNatClampNeg)) 0 = true → rr b e d 458 42 [(0, .ref 49), (1, .int x1)] [] g q c l R) (h2 : ¬ xCn .ne ((c 115 (x1).toNatClampNeg)) 0 = true → rr b e d 458 33 [(0, .ref 49), (1, .int x1)] [] g q c l R) : rr b e d 458 24 [(0, .ref 49), (1, .int x1)] [] g q c l R := by
  have key : ∀ f, nrun xZ (xY (xfm b)) xDT (f + 5) d 458 24 [(0, .ref 49), (1, .int x1)] [] (rH e g q c l) 0 0 = nrun xZ (xY (xfm b)) xDT f d 458 (if xCn .ne ((c 115 (x1).toNatClampNeg)) 0 = true then 42 else 33) [(0, .ref 49), (1, .int x1)] [] (rH e g q c l) 0 0 := by
    intro f
    obtain ⟨y, cb, hj⟩ := mq_458
    rw [n_step (st' := [.ref 49]) (pc' := 25) (lv' := [(0, .ref 49), (1, .int x1)]) (hp' := rH e g q c l) (i := .aload_n 0) (len := 1) rfl hj rfl rfl rfl]
    rw [n_get (st' := [.ref 115]) (pc' := 28) (lv' := [(0, .ref 49), (1, .int x1)]) (hp' := rH e g q c l) (i := .getfield 216) (len := 3) rfl hj rfl rfl rfl rfl]
    rw [n_step (st' := [.int x1, .ref 115]) (pc' := 29) (lv' := [(0, .ref 49), (1, .int x1)]) (hp' := rH e g q c l) (i := .iload_n 1) (len := 1) rfl hj rfl rfl rfl]
    rw [n_ial (st' := [.int (c 115 (x1).toNatClampNeg)]) rfl hj (ald_115 hz0)]
    rw [n_step (st' := []) (pc' := (if xCn .ne ((c 115 (x1).toNatClampNeg)) 0 = true then 42 else 33)) (lv' := [(0, .ref 49), (1, .int x1)]) (hp' := rH e g q c l) (i := .ifCond .ne 12) (len := 3) rfl hj rfl rfl rfl]
  by_cases hc : xCn .ne ((c 115 (x1).toNatClampNeg)) 0 = true
  · obtain ⟨f, h⟩ := h1 hc
    refine ⟨f + 5, ?_⟩
    rw [key, if_pos hc]
    exact h
  · obtain ⟨f, h⟩ := h2 hc
    refine ⟨f + 5, ?_⟩
    rw [key, if_neg hc]
    exact h
set_option maxRecDepth 100000 in
set_option maxHeartbeats 4000000 in
theorem bk_458_33 {b : Bool} {d : Nat} {x1 : Int32} {e : Nat → x_E} {g : Nat → Int32} {q : Nat → Int64} {c : Nat → Nat → Int32} {l : Nat → Nat → Int64} {R : Option Value × List x_E} (hz0 : ¬ (x1 < 0 ∨ 700 ≤ (x1).toNatClampNeg)) (h : rr b e d 458 53 [] [.int (c 116 (x1).toNatClampNeg)] g q c l R) : rr b e d 458 33 [(0, .ref 49), (1, .int x1)] [] g q c l R := by
  obtain ⟨f, h⟩ := h
  refine ⟨f + 5, ?_⟩
  obtain ⟨y, cb, hj⟩ := mq_458
  rw [n_step (st' := [.ref 49]) (pc' := 34) (lv' := [(0, .ref 49), (1, .int x1)]) (hp' := rH e g q c l) (i := .aload_n 0) (len := 1) rfl hj rfl rfl rfl]
  rw [n_get (st' := [.ref 116]) (pc' := 37) (lv' := [(0, .ref 49), (1, .int x1)]) (hp' := rH e g q c l) (i := .getfield 219) (len := 3) rfl hj rfl rfl rfl rfl]
  rw [n_step (st' := [.int x1, .ref 116]) (pc' := 38) (lv' := [(0, .ref 49), (1, .int x1)]) (hp' := rH e g q c l) (i := .iload_n 1) (len := 1) rfl hj rfl rfl rfl]
  rw [n_ial (st' := [.int (c 116 (x1).toNatClampNeg)]) rfl hj (ald_116 hz0)]
  rw [n_step (st' := [.int (c 116 (x1).toNatClampNeg)]) (pc' := 53) (lv' := [(0, .ref 49), (1, .int x1)]) (hp' := rH e g q c l) (i := .goto 14) (len := 3) rfl hj rfl rfl rfl]
  exact nrun_ext f f _ _ R 458 53 [] [(0, .ref 49), (1, .int x1)] [.int (c 116 (x1).toNatClampNeg)] _ 0 0 122 (Nat.le_refl _) (Nat.le_refl _) (Nat.le_of_ble_eq_true rfl) (lvR_mk [] [0, 1] rfl rfl (by decide) (by decide) (fun _ h => nomatch h) (List.forall_mem_cons.mpr ⟨Or.inr rfl, (List.forall_mem_cons.mpr ⟨Or.inr rfl, (fun _ h => nomatch h)⟩)⟩)) h
set_option maxRecDepth 100000 in
set_option maxHeartbeats 4000000 in
theorem bk_458_42 {b : Bool} {d : Nat} {x1 : Int32} {e : Nat → x_E} {g : Nat → Int32} {q : Nat → Int64} {c : Nat → Nat → Int32} {l : Nat → Nat → Int64} {R : Option Value × List x_E} (hz0 : ¬ (x1 < 0 ∨ 700 ≤ (x1).toNatClampNeg)) (hz1 : ¬ ((c 116 (x1).toNatClampNeg) < 0 ∨ 41 ≤ ((c 116 (x1).toNatClampNeg)).toNatClampNeg)) (h : rr b e d 458 53 [] [.int (c 110 ((c 116 (x1).toNatClampNeg)).toNatClampNeg)] g q c l R) : rr b e d 458 42 [(0, .ref 49), (1, .int x1)] [] g q c l R := by
  obtain ⟨f, h⟩ := h
  refine ⟨f + 7, ?_⟩
  obtain ⟨y, cb, hj⟩ := mq_458
  rw [n_step (st' := [.ref 49]) (pc' := 43) (lv' := [(0, .ref 49), (1, .int x1)]) (hp' := rH e g q c l) (i := .aload_n 0) (len := 1) rfl hj rfl rfl rfl]
  rw [n_get (st' := [.ref 110]) (pc' := 46) (lv' := [(0, .ref 49), (1, .int x1)]) (hp' := rH e g q c l) (i := .getfield 201) (len := 3) rfl hj rfl rfl rfl rfl]
  rw [n_step (st' := [.ref 49, .ref 110]) (pc' := 47) (lv' := [(0, .ref 49), (1, .int x1)]) (hp' := rH e g q c l) (i := .aload_n 0) (len := 1) rfl hj rfl rfl rfl]
  rw [n_get (st' := [.ref 116, .ref 110]) (pc' := 50) (lv' := [(0, .ref 49), (1, .int x1)]) (hp' := rH e g q c l) (i := .getfield 219) (len := 3) rfl hj rfl rfl rfl rfl]
  rw [n_step (st' := [.int x1, .ref 116, .ref 110]) (pc' := 51) (lv' := [(0, .ref 49), (1, .int x1)]) (hp' := rH e g q c l) (i := .iload_n 1) (len := 1) rfl hj rfl rfl rfl]
  rw [n_ial (st' := [.int (c 116 (x1).toNatClampNeg), .ref 110]) rfl hj (ald_116 hz0)]
  rw [n_ial (st' := [.int (c 110 ((c 116 (x1).toNatClampNeg)).toNatClampNeg)]) rfl hj (ald_110 hz1)]
  exact nrun_ext f f _ _ R 458 53 [] [(0, .ref 49), (1, .int x1)] [.int (c 110 ((c 116 (x1).toNatClampNeg)).toNatClampNeg)] _ 0 0 122 (Nat.le_refl _) (Nat.le_refl _) (Nat.le_of_ble_eq_true rfl) (lvR_mk [] [0, 1] rfl rfl (by decide) (by decide) (fun _ h => nomatch h) (List.forall_mem_cons.mpr ⟨Or.inr rfl, (List.forall_mem_cons.mpr ⟨Or.inr rfl, (fun _ h => nomatch h)⟩)⟩)) h
set_option maxRecDepth 100000 in
set_option maxHeartbeats 4000000 in
theorem bk_458_53 {b : Bool} {d : Nat} {t0 : Int32} {e : Nat → x_E} {g : Nat → Int32} {q : Nat → Int64} {c : Nat → Nat → Int32} {l : Nat → Nat → Int64} : rr b e d 458 53 [] [.int t0] g q c l (some (.int t0), rH e g q c l) := by
  refine ⟨0 + 1, ?_⟩
  obtain ⟨y, cb, hj⟩ := mq_458
  exact n_ret rfl hj rfl rfl (x_ret rfl)
set_option maxRecDepth 100000 in
set_option maxHeartbeats 4000000 in
theorem bk_459_0 {b : Bool} {d : Nat} {x1 : Int32} {e : Nat → x_E} {g : Nat → Int32} {q : Nat → Int64} {c : Nat → Nat → Int32} {l : Nat → Nat → Int64} {R : Option Value × List x_E} (h : rr b e d 459 2 [(0, .ref 49), (1, .int x1), (2, .int (Int32.ofInt (0)))] [] g q c l R) : rr b e d 459 0 [(0, .ref 49), (1, .int x1)] [] g q c l R := by
  obtain ⟨f, h⟩ := h
  refine ⟨f + 2, ?_⟩
  obtain ⟨y, cb, hj⟩ := mq_459
  rw [n_step (st' := [.int (Int32.ofInt (0))]) (pc' := 1) (lv' := [(0, .ref 49), (1, .int x1)]) (hp' := rH e g q c l) (i := .iconst 0) (len := 1) rfl hj rfl rfl rfl]
  rw [n_step (st' := []) (pc' := 2) (lv' := [(2, .int (Int32.ofInt (0))), (0, .ref 49), (1, .int x1)]) (hp' := rH e g q c l) (i := .istore_n 2) (len := 1) rfl hj rfl rfl rfl]
  exact nrun_ext f f _ _ R 459 2 [(0, .ref 49), (1, .int x1), (2, .int (Int32.ofInt (0)))] [(2, .int (Int32.ofInt (0))), (0, .ref 49), (1, .int x1)] [] _ 0 0 122 (Nat.le_refl _) (Nat.le_refl _) (Nat.le_of_ble_eq_true rfl) (lvR_mk [0, 1, 2] [2, 0, 1] rfl rfl (by decide) (by decide) (List.forall_mem_cons.mpr ⟨(List.mem_cons_of_mem _ List.mem_cons_self), (List.forall_mem_cons.mpr ⟨(List.mem_cons_of_mem _ (List.mem_cons_of_mem _ List.mem_cons_self)), (List.forall_mem_cons.mpr ⟨List.mem_cons_self, (fun _ h => nomatch h)⟩)⟩)⟩) (List.forall_mem_cons.mpr ⟨Or.inl (List.mem_cons_of_mem _ (List.mem_cons_of_mem _ List.mem_cons_self)), (List.forall_mem_cons.mpr ⟨Or.inl List.mem_cons_self, (List.forall_mem_cons.mpr ⟨Or.inl (List.mem_cons_of_mem _ List.mem_cons_self), (fun _ h => nomatch h)⟩)⟩)⟩)) h
set_option maxRecDepth 100000 in
set_option maxHeartbeats 4000000 in
theorem bk_459_2 {b : Bool} {d : Nat} {x1 x2 : Int32} {e : Nat → x_E} {g : Nat → Int32} {q : Nat → Int64} {c : Nat → Nat → Int32} {l : Nat → Nat → Int64} {R : Option Value × List x_E} (h1 : xCn .ge x2 ((g 118)) = true → rr b e d 459 33 [] [] g q c l R) (h2 : ¬ xCn .ge x2 ((g 118)) = true → rr b e d 459 10 [(0, .ref 49), (1, .int x1), (2, .int x2)] [] g q c l R) : rr b e d 459 2 [(0, .ref 49), (1, .int x1), (2, .int x2)] [] g q c l R := by
  have key : ∀ f, nrun xZ (xY (xfm b)) xDT (f + 4) d 459 2 [(0, .ref 49), (1, .int x1), (2, .int x2)] [] (rH e g q c l) 0 0 = nrun xZ (xY (xfm b)) xDT f d 459 (if xCn .ge x2 ((g 118)) = true then 33 else 10) [(0, .ref 49), (1, .int x1), (2, .int x2)] [] (rH e g q c l) 0 0 := by
    intro f
    obtain ⟨y, cb, hj⟩ := mq_459
    rw [n_step (st' := [.int x2]) (pc' := 3) (lv' := [(0, .ref 49), (1, .int x1), (2, .int x2)]) (hp' := rH e g q c l) (i := .iload_n 2) (len := 1) rfl hj rfl rfl rfl]
    rw [n_step (st' := [.ref 49, .int x2]) (pc' := 4) (lv' := [(0, .ref 49), (1, .int x1), (2, .int x2)]) (hp' := rH e g q c l) (i := .aload_n 0) (len := 1) rfl hj rfl rfl rfl]
    rw [n_get (st' := [.int (g 118), .int x2]) (pc' := 7) (lv' := [(0, .ref 49), (1, .int x1), (2, .int x2)]) (hp' := rH e g q c l) (i := .getfield 763) (len := 3) rfl hj rfl rfl rfl rfl]
    rw [n_step (st' := []) (pc' := (if xCn .ge x2 ((g 118)) = true then 33 else 10)) (lv' := [(0, .ref 49), (1, .int x1), (2, .int x2)]) (hp' := rH e g q c l) (i := .if_icmp .ge 26) (len := 3) rfl hj rfl rfl rfl]
  by_cases hc : xCn .ge x2 ((g 118)) = true
  · obtain ⟨f, h⟩ := h1 hc
    refine ⟨f + 4, ?_⟩
    rw [key, if_pos hc]
    exact nrun_ext f f _ _ R 459 33 [] [(0, .ref 49), (1, .int x1), (2, .int x2)] [] _ 0 0 122 (Nat.le_refl _) (Nat.le_refl _) (Nat.le_of_ble_eq_true rfl) (lvR_mk [] [0, 1, 2] rfl rfl (by decide) (by decide) (fun _ h => nomatch h) (List.forall_mem_cons.mpr ⟨Or.inr rfl, (List.forall_mem_cons.mpr ⟨Or.inr rfl, (List.forall_mem_cons.mpr ⟨Or.inr rfl, (fun _ h => nomatch h)⟩)⟩)⟩)) h
  · obtain ⟨f, h⟩ := h2 hc
    refine ⟨f + 4, ?_⟩
    rw [key, if_neg hc]
    exact h
set_option maxRecDepth 100000 in
set_option maxHeartbeats 4000000 in
theorem bk_459_10 {b : Bool} {d : Nat} {x1 x2 : Int32} {e : Nat → x_E} {g : Nat → Int32} {q : Nat → Int64} {c : Nat → Nat → Int32} {l : Nat → Nat → Int64} {R : Option Value × List x_E} (hz0 : ¬ (x2 < 0 ∨ 41 ≤ (x2).toNatClampNeg)) (h1 : xCn .ne ((c 110 (x2).toNatClampNeg)) x1 = true → rr b e d 459 27 [(0, .ref 49), (1, .int x1), (2, .int x2)] [] g q c l R) (h2 : ¬ xCn .ne ((c 110 (x2).toNatClampNeg)) x1 = true → rr b e d 459 20 [(0, .ref 49), (2, .int x2)] [] g q c l R) : rr b e d 459 10 [(0, .ref 49), (1, .int x1), (2, .int x2)] [] g q c l R := by
  have key : ∀ f, nrun xZ (xY (xfm b)) xDT (f + 6) d 459 10 [(0, .ref 49), (1, .int x1), (2, .int x2)] [] (rH e g q c l) 0 0 = nrun xZ (xY (xfm b)) xDT f d 459 (if xCn .ne ((c 110 (x2).toNatClampNeg)) x1 = true then 27 else 20) [(0, .ref 49), (1, .int x1), (2, .int x2)] [] (rH e g q c l) 0 0 := by
    intro f
    obtain ⟨y, cb, hj⟩ := mq_459
    rw [n_step (st' := [.ref 49]) (pc' := 11) (lv' := [(0, .ref 49), (1, .int x1), (2, .int x2)]) (hp' := rH e g q c l) (i := .aload_n 0) (len := 1) rfl hj rfl rfl rfl]
    rw [n_get (st' := [.ref 110]) (pc' := 14) (lv' := [(0, .ref 49), (1, .int x1), (2, .int x2)]) (hp' := rH e g q c l) (i := .getfield 201) (len := 3) rfl hj rfl rfl rfl rfl]
    rw [n_step (st' := [.int x2, .ref 110]) (pc' := 15) (lv' := [(0, .ref 49), (1, .int x1), (2, .int x2)]) (hp' := rH e g q c l) (i := .iload_n 2) (len := 1) rfl hj rfl rfl rfl]
    rw [n_ial (st' := [.int (c 110 (x2).toNatClampNeg)]) rfl hj (ald_110 hz0)]
    rw [n_step (st' := [.int x1, .int (c 110 (x2).toNatClampNeg)]) (pc' := 17) (lv' := [(0, .ref 49), (1, .int x1), (2, .int x2)]) (hp' := rH e g q c l) (i := .iload_n 1) (len := 1) rfl hj rfl rfl rfl]
    rw [n_step (st' := []) (pc' := (if xCn .ne ((c 110 (x2).toNatClampNeg)) x1 = true then 27 else 20)) (lv' := [(0, .ref 49), (1, .int x1), (2, .int x2)]) (hp' := rH e g q c l) (i := .if_icmp .ne 10) (len := 3) rfl hj rfl rfl rfl]
  by_cases hc : xCn .ne ((c 110 (x2).toNatClampNeg)) x1 = true
  · obtain ⟨f, h⟩ := h1 hc
    refine ⟨f + 6, ?_⟩
    rw [key, if_pos hc]
    exact h
  · obtain ⟨f, h⟩ := h2 hc
    refine ⟨f + 6, ?_⟩
    rw [key, if_neg hc]
    exact nrun_ext f f _ _ R 459 20 [(0, .ref 49), (2, .int x2)] [(0, .ref 49), (1, .int x1), (2, .int x2)] [] _ 0 0 122 (Nat.le_refl _) (Nat.le_refl _) (Nat.le_of_ble_eq_true rfl) (lvR_mk [0, 2] [0, 1, 2] rfl rfl (by decide) (by decide) (List.forall_mem_cons.mpr ⟨List.mem_cons_self, (List.forall_mem_cons.mpr ⟨(List.mem_cons_of_mem _ (List.mem_cons_of_mem _ List.mem_cons_self)), (fun _ h => nomatch h)⟩)⟩) (List.forall_mem_cons.mpr ⟨Or.inl List.mem_cons_self, (List.forall_mem_cons.mpr ⟨Or.inr rfl, (List.forall_mem_cons.mpr ⟨Or.inl (List.mem_cons_of_mem _ List.mem_cons_self), (fun _ h => nomatch h)⟩)⟩)⟩)) h
set_option maxRecDepth 100000 in
set_option maxHeartbeats 4000000 in
theorem bk_459_20 {b : Bool} {d : Nat} {x2 : Int32} {e : Nat → x_E} {g : Nat → Int32} {q : Nat → Int64} {c : Nat → Nat → Int32} {l : Nat → Nat → Int64} (hz0 : ¬ (x2 < 0 ∨ 41 ≤ (x2).toNatClampNeg)) : rr b e d 459 20 [(0, .ref 49), (2, .int x2)] [] g q c l (some (.int (c 109 (x2).toNatClampNeg)), rH e g q c l) := by
  refine ⟨0 + 5, ?_⟩
  obtain ⟨y, cb, hj⟩ := mq_459
  rw [n_step (st' := [.ref 49]) (pc' := 21) (lv' := [(0, .ref 49), (2, .int x2)]) (hp' := rH e g q c l) (i := .aload_n 0) (len := 1) rfl hj rfl rfl rfl]
  rw [n_get (st' := [.ref 109]) (pc' := 24) (lv' := [(0, .ref 49), (2, .int x2)]) (hp' := rH e g q c l) (i := .getfield 198) (len := 3) rfl hj rfl rfl rfl rfl]
  rw [n_step (st' := [.int x2, .ref 109]) (pc' := 25) (lv' := [(0, .ref 49), (2, .int x2)]) (hp' := rH e g q c l) (i := .iload_n 2) (len := 1) rfl hj rfl rfl rfl]
  rw [n_ial (st' := [.int (c 109 (x2).toNatClampNeg)]) rfl hj (ald_109 hz0)]
  exact n_ret rfl hj rfl rfl (x_ret rfl)
set_option maxRecDepth 100000 in
set_option maxHeartbeats 4000000 in
theorem bk_459_27 {b : Bool} {d : Nat} {x1 x2 : Int32} {e : Nat → x_E} {g : Nat → Int32} {q : Nat → Int64} {c : Nat → Nat → Int32} {l : Nat → Nat → Int64} {R : Option Value × List x_E} (h : rr b e d 459 2 [(0, .ref 49), (1, .int x1), (2, .int (x2 + Int32.ofInt (1)))] [] g q c l R) : rr b e d 459 27 [(0, .ref 49), (1, .int x1), (2, .int x2)] [] g q c l R := by
  obtain ⟨f, h⟩ := h
  refine ⟨f + 2, ?_⟩
  obtain ⟨y, cb, hj⟩ := mq_459
  rw [n_step (st' := []) (pc' := 30) (lv' := [(2, .int (x2 + Int32.ofInt (1))), (0, .ref 49), (1, .int x1)]) (hp' := rH e g q c l) (i := .iinc 2 1) (len := 3) rfl hj rfl rfl rfl]
  rw [n_step (st' := []) (pc' := 2) (lv' := [(2, .int (x2 + Int32.ofInt (1))), (0, .ref 49), (1, .int x1)]) (hp' := rH e g q c l) (i := .goto (-28)) (len := 3) rfl hj rfl rfl rfl]
  exact nrun_ext f f _ _ R 459 2 [(0, .ref 49), (1, .int x1), (2, .int (x2 + Int32.ofInt (1)))] [(2, .int (x2 + Int32.ofInt (1))), (0, .ref 49), (1, .int x1)] [] _ 0 0 122 (Nat.le_refl _) (Nat.le_refl _) (Nat.le_of_ble_eq_true rfl) (lvR_mk [0, 1, 2] [2, 0, 1] rfl rfl (by decide) (by decide) (List.forall_mem_cons.mpr ⟨(List.mem_cons_of_mem _ List.mem_cons_self), (List.forall_mem_cons.mpr ⟨(List.mem_cons_of_mem _ (List.mem_cons_of_mem _ List.mem_cons_self)), (List.forall_mem_cons.mpr ⟨List.mem_cons_self, (fun _ h => nomatch h)⟩)⟩)⟩) (List.forall_mem_cons.mpr ⟨Or.inl (List.mem_cons_of_mem _ (List.mem_cons_of_mem _ List.mem_cons_self)), (List.forall_mem_cons.mpr ⟨Or.inl List.mem_cons_self, (List.forall_mem_cons.mpr ⟨Or.inl (List.mem_cons_of_mem _ List.mem_cons_self), (fun _ h => nomatch h)⟩)⟩)⟩)) h
set_option maxRecDepth 100000 in
set_option maxHeartbeats 4000000 in
theorem bk_459_33 {b : Bool} {d : Nat} {e : Nat → x_E} {g : Nat → Int32} {q : Nat → Int64} {c : Nat → Nat → Int32} {l : Nat → Nat → Int64} : rr b e d 459 33 [] [] g q c l (some (.int (Int32.ofInt (0))), rH e g q c l) := by
  refine ⟨0 + 2, ?_⟩
  obtain ⟨y, cb, hj⟩ := mq_459
  rw [n_step (st' := [.int (Int32.ofInt (0))]) (pc' := 34) (lv' := []) (hp' := rH e g q c l) (i := .iconst 0) (len := 1) rfl hj rfl rfl rfl]
  exact n_ret rfl hj rfl rfl (x_ret rfl)
set_option maxRecDepth 100000 in
set_option maxHeartbeats 4000000 in
theorem bk_460_0 {b : Bool} {d : Nat} {e : Nat → x_E} {g : Nat → Int32} {q : Nat → Int64} {c : Nat → Nat → Int32} {l : Nat → Nat → Int64} : rr b e d 460 0 [(0, .ref 49)] [] g q c l (some (.int (g 4)), rH e g q c l) := by
  refine ⟨0 + 3, ?_⟩
  obtain ⟨y, cb, hj⟩ := mq_460
  rw [n_step (st' := [.ref 49]) (pc' := 1) (lv' := [(0, .ref 49)]) (hp' := rH e g q c l) (i := .aload_n 0) (len := 1) rfl hj rfl rfl rfl]
  rw [n_get (st' := [.int (g 4)]) (pc' := 4) (lv' := [(0, .ref 49)]) (hp' := rH e g q c l) (i := .getfield 16) (len := 3) rfl hj rfl rfl rfl rfl]
  exact n_ret rfl hj rfl rfl (x_ret rfl)
set_option maxRecDepth 100000 in
set_option maxHeartbeats 4000000 in
theorem bk_461_0 {b : Bool} {d : Nat} {e : Nat → x_E} {g : Nat → Int32} {q : Nat → Int64} {c : Nat → Nat → Int32} {l : Nat → Nat → Int64} : rr b e d 461 0 [(0, .ref 49)] [] g q c l (some (.int (g 69)), rH e g q c l) := by
  refine ⟨0 + 3, ?_⟩
  obtain ⟨y, cb, hj⟩ := mq_461
  rw [n_step (st' := [.ref 49]) (pc' := 1) (lv' := [(0, .ref 49)]) (hp' := rH e g q c l) (i := .aload_n 0) (len := 1) rfl hj rfl rfl rfl]
  rw [n_get (st' := [.int (g 69)]) (pc' := 4) (lv' := [(0, .ref 49)]) (hp' := rH e g q c l) (i := .getfield 614) (len := 3) rfl hj rfl rfl rfl rfl]
  exact n_ret rfl hj rfl rfl (x_ret rfl)
set_option maxRecDepth 100000 in
set_option maxHeartbeats 4000000 in
theorem bk_462_0 {b : Bool} {d : Nat} {x1 : Int32} {e : Nat → x_E} {g : Nat → Int32} {q : Nat → Int64} {c : Nat → Nat → Int32} {l : Nat → Nat → Int64} {R : Option Value × List x_E} (hd : (x1.toInt < 0 ∨ 6 < x1.toInt) → rr b e d 462 91 [] [] g q c l R) (h_0 : x1 = 0 → rr b e d 462 44 [(0, .ref 49)] [] g q c l R) (h_1 : x1 = 1 → rr b e d 462 49 [(0, .ref 49)] [] g q c l R) (h_2 : x1 = 2 → rr b e d 462 54 [(0, .ref 49)] [] g q c l R) (h_3 : x1 = 3 → rr b e d 462 59 [(0, .ref 49)] [] g q c l R) (h_4 : x1 = 4 → rr b e d 462 64 [(0, .ref 49)] [] g q c l R) (h_5 : x1 = 5 → rr b e d 462 69 [(0, .ref 49)] [] g q c l R) (h_6 : x1 = 6 → rr b e d 462 74 [(0, .ref 49)] [] g q c l R) : rr b e d 462 0 [(0, .ref 49), (1, .int x1)] [] g q c l R := by
  have key : ∀ f t, (xTab 90 0 6 #[43, 48, 53, 58, 63, 68, 73] x1) = some t → ∀ p, xTg 1 t = some p → nrun xZ (xY (xfm b)) xDT (f + 2) d 462 0 [(0, .ref 49), (1, .int x1)] [] (rH e g q c l) 0 0 = nrun xZ (xY (xfm b)) xDT f d 462 p [(0, .ref 49), (1, .int x1)] [] (rH e g q c l) 0 0 := by
    intro f t ht p hp
    obtain ⟨y, cb, hj⟩ := mq_462
    rw [n_step (st' := [.int x1]) (pc' := 1) (lv' := [(0, .ref 49), (1, .int x1)]) (hp' := rH e g q c l) (i := .iload_n 1) (len := 1) rfl hj rfl rfl rfl]
    rw [n_step (st' := []) (pc' := p) (lv' := [(0, .ref 49), (1, .int x1)]) (hp' := rH e g q c l) (i := .tableswitch 90 0 6 #[43, 48, 53, 58, 63, 68, 73]) (len := 43) rfl hj rfl rfl (x_sw ht hp)]
  by_cases hc : x1.toInt < 0 ∨ 6 < x1.toInt
  · obtain ⟨f, h⟩ := hd hc
    refine ⟨f + 2, ?_⟩
    rw [key f (90) (by unfold xTab; rw [if_pos hc]) 91 rfl]
    exact nrun_ext f f _ _ R 462 91 [] [(0, .ref 49), (1, .int x1)] [] _ 0 0 122 (Nat.le_refl _) (Nat.le_refl _) (Nat.le_of_ble_eq_true rfl) (lvR_mk [] [0, 1] rfl rfl (by decide) (by decide) (fun _ h => nomatch h) (List.forall_mem_cons.mpr ⟨Or.inr rfl, (List.forall_mem_cons.mpr ⟨Or.inr rfl, (fun _ h => nomatch h)⟩)⟩)) h
  have hx : x1.toInt = 0 ∨ x1.toInt = 1 ∨ x1.toInt = 2 ∨ x1.toInt = 3 ∨ x1.toInt = 4 ∨ x1.toInt = 5 ∨ x1.toInt = 6 := by omega
  rcases hx with hx | hx | hx | hx | hx | hx | hx
  · have hv : x1 = 0 := Int32.toInt_inj.mp (hx.trans rfl)
    obtain ⟨f, h⟩ := h_0 hv
    refine ⟨f + 2, ?_⟩
    rw [key f (43) (by rw [hv]; rfl) 44 rfl]
    exact nrun_ext f f _ _ R 462 44 [(0, .ref 49)] [(0, .ref 49), (1, .int x1)] [] _ 0 0 122 (Nat.le_refl _) (Nat.le_refl _) (Nat.le_of_ble_eq_true rfl) (lvR_mk [0] [0, 1] rfl rfl (by decide) (by decide) (List.forall_mem_cons.mpr ⟨List.mem_cons_self, (fun _ h => nomatch h)⟩) (List.forall_mem_cons.mpr ⟨Or.inl List.mem_cons_self, (List.forall_mem_cons.mpr ⟨Or.inr rfl, (fun _ h => nomatch h)⟩)⟩)) h
  · have hv : x1 = 1 := Int32.toInt_inj.mp (hx.trans rfl)
    obtain ⟨f, h⟩ := h_1 hv
    refine ⟨f + 2, ?_⟩
    rw [key f (48) (by rw [hv]; rfl) 49 rfl]
    exact nrun_ext f f _ _ R 462 49 [(0, .ref 49)] [(0, .ref 49), (1, .int x1)] [] _ 0 0 122 (Nat.le_refl _) (Nat.le_refl _) (Nat.le_of_ble_eq_true rfl) (lvR_mk [0] [0, 1] rfl rfl (by decide) (by decide) (List.forall_mem_cons.mpr ⟨List.mem_cons_self, (fun _ h => nomatch h)⟩) (List.forall_mem_cons.mpr ⟨Or.inl List.mem_cons_self, (List.forall_mem_cons.mpr ⟨Or.inr rfl, (fun _ h => nomatch h)⟩)⟩)) h
  · have hv : x1 = 2 := Int32.toInt_inj.mp (hx.trans rfl)
    obtain ⟨f, h⟩ := h_2 hv
    refine ⟨f + 2, ?_⟩
    rw [key f (53) (by rw [hv]; rfl) 54 rfl]
    exact nrun_ext f f _ _ R 462 54 [(0, .ref 49)] [(0, .ref 49), (1, .int x1)] [] _ 0 0 122 (Nat.le_refl _) (Nat.le_refl _) (Nat.le_of_ble_eq_true rfl) (lvR_mk [0] [0, 1] rfl rfl (by decide) (by decide) (List.forall_mem_cons.mpr ⟨List.mem_cons_self, (fun _ h => nomatch h)⟩) (List.forall_mem_cons.mpr ⟨Or.inl List.mem_cons_self, (List.forall_mem_cons.mpr ⟨Or.inr rfl, (fun _ h => nomatch h)⟩)⟩)) h
  · have hv : x1 = 3 := Int32.toInt_inj.mp (hx.trans rfl)
    obtain ⟨f, h⟩ := h_3 hv
    refine ⟨f + 2, ?_⟩
    rw [key f (58) (by rw [hv]; rfl) 59 rfl]
    exact nrun_ext f f _ _ R 462 59 [(0, .ref 49)] [(0, .ref 49), (1, .int x1)] [] _ 0 0 122 (Nat.le_refl _) (Nat.le_refl _) (Nat.le_of_ble_eq_true rfl) (lvR_mk [0] [0, 1] rfl rfl (by decide) (by decide) (List.forall_mem_cons.mpr ⟨List.mem_cons_self, (fun _ h => nomatch h)⟩) (List.forall_mem_cons.mpr ⟨Or.inl List.mem_cons_self, (List.forall_mem_cons.mpr ⟨Or.inr rfl, (fun _ h => nomatch h)⟩)⟩)) h
  · have hv : x1 = 4 := Int32.toInt_inj.mp (hx.trans rfl)
    obtain ⟨f, h⟩ := h_4 hv
    refine ⟨f + 2, ?_⟩
    rw [key f (63) (by rw [hv]; rfl) 64 rfl]
    exact nrun_ext f f _ _ R 462 64 [(0, .ref 49)] [(0, .ref 49), (1, .int x1)] [] _ 0 0 122 (Nat.le_refl _) (Nat.le_refl _) (Nat.le_of_ble_eq_true rfl) (lvR_mk [0] [0, 1] rfl rfl (by decide) (by decide) (List.forall_mem_cons.mpr ⟨List.mem_cons_self, (fun _ h => nomatch h)⟩) (List.forall_mem_cons.mpr ⟨Or.inl List.mem_cons_self, (List.forall_mem_cons.mpr ⟨Or.inr rfl, (fun _ h => nomatch h)⟩)⟩)) h
  · have hv : x1 = 5 := Int32.toInt_inj.mp (hx.trans rfl)
    obtain ⟨f, h⟩ := h_5 hv
    refine ⟨f + 2, ?_⟩
    rw [key f (68) (by rw [hv]; rfl) 69 rfl]
    exact nrun_ext f f _ _ R 462 69 [(0, .ref 49)] [(0, .ref 49), (1, .int x1)] [] _ 0 0 122 (Nat.le_refl _) (Nat.le_refl _) (Nat.le_of_ble_eq_true rfl) (lvR_mk [0] [0, 1] rfl rfl (by decide) (by decide) (List.forall_mem_cons.mpr ⟨List.mem_cons_self, (fun _ h => nomatch h)⟩) (List.forall_mem_cons.mpr ⟨Or.inl List.mem_cons_self, (List.forall_mem_cons.mpr ⟨Or.inr rfl, (fun _ h => nomatch h)⟩)⟩)) h
  · have hv : x1 = 6 := Int32.toInt_inj.mp (hx.trans rfl)
    obtain ⟨f, h⟩ := h_6 hv
    refine ⟨f + 2, ?_⟩
    rw [key f (73) (by rw [hv]; rfl) 74 rfl]
    exact nrun_ext f f _ _ R 462 74 [(0, .ref 49)] [(0, .ref 49), (1, .int x1)] [] _ 0 0 122 (Nat.le_refl _) (Nat.le_refl _) (Nat.le_of_ble_eq_true rfl) (lvR_mk [0] [0, 1] rfl rfl (by decide) (by decide) (List.forall_mem_cons.mpr ⟨List.mem_cons_self, (fun _ h => nomatch h)⟩) (List.forall_mem_cons.mpr ⟨Or.inl List.mem_cons_self, (List.forall_mem_cons.mpr ⟨Or.inr rfl, (fun _ h => nomatch h)⟩)⟩)) h
set_option maxRecDepth 100000 in
set_option maxHeartbeats 4000000 in
theorem bk_462_44 {b : Bool} {d : Nat} {e : Nat → x_E} {g : Nat → Int32} {q : Nat → Int64} {c : Nat → Nat → Int32} {l : Nat → Nat → Int64} : rr b e d 462 44 [(0, .ref 49)] [] g q c l (some (.int (g 64)), rH e g q c l) := by
  refine ⟨0 + 3, ?_⟩
  obtain ⟨y, cb, hj⟩ := mq_462
  rw [n_step (st' := [.ref 49]) (pc' := 45) (lv' := [(0, .ref 49)]) (hp' := rH e g q c l) (i := .aload_n 0) (len := 1) rfl hj rfl rfl rfl]
  rw [n_get (st' := [.int (g 64)]) (pc' := 48) (lv' := [(0, .ref 49)]) (hp' := rH e g q c l) (i := .getfield 593) (len := 3) rfl hj rfl rfl rfl rfl]
  exact n_ret rfl hj rfl rfl (x_ret rfl)
set_option maxRecDepth 100000 in
set_option maxHeartbeats 4000000 in
theorem bk_462_49 {b : Bool} {d : Nat} {e : Nat → x_E} {g : Nat → Int32} {q : Nat → Int64} {c : Nat → Nat → Int32} {l : Nat → Nat → Int64} : rr b e d 462 49 [(0, .ref 49)] [] g q c l (some (.int (g 66)), rH e g q c l) := by
  refine ⟨0 + 3, ?_⟩
  obtain ⟨y, cb, hj⟩ := mq_462
  rw [n_step (st' := [.ref 49]) (pc' := 50) (lv' := [(0, .ref 49)]) (hp' := rH e g q c l) (i := .aload_n 0) (len := 1) rfl hj rfl rfl rfl]
  rw [n_get (st' := [.int (g 66)]) (pc' := 53) (lv' := [(0, .ref 49)]) (hp' := rH e g q c l) (i := .getfield 641) (len := 3) rfl hj rfl rfl rfl rfl]
  exact n_ret rfl hj rfl rfl (x_ret rfl)
set_option maxRecDepth 100000 in
set_option maxHeartbeats 4000000 in
theorem bk_462_54 {b : Bool} {d : Nat} {e : Nat → x_E} {g : Nat → Int32} {q : Nat → Int64} {c : Nat → Nat → Int32} {l : Nat → Nat → Int64} : rr b e d 462 54 [(0, .ref 49)] [] g q c l (some (.int (g 67)), rH e g q c l) := by
  refine ⟨0 + 3, ?_⟩
  obtain ⟨y, cb, hj⟩ := mq_462
  rw [n_step (st' := [.ref 49]) (pc' := 55) (lv' := [(0, .ref 49)]) (hp' := rH e g q c l) (i := .aload_n 0) (len := 1) rfl hj rfl rfl rfl]
  rw [n_get (st' := [.int (g 67)]) (pc' := 58) (lv' := [(0, .ref 49)]) (hp' := rH e g q c l) (i := .getfield 623) (len := 3) rfl hj rfl rfl rfl rfl]
  exact n_ret rfl hj rfl rfl (x_ret rfl)
set_option maxRecDepth 100000 in
set_option maxHeartbeats 4000000 in
theorem bk_462_59 {b : Bool} {d : Nat} {e : Nat → x_E} {g : Nat → Int32} {q : Nat → Int64} {c : Nat → Nat → Int32} {l : Nat → Nat → Int64} : rr b e d 462 59 [(0, .ref 49)] [] g q c l (some (.int (g 68)), rH e g q c l) := by
  refine ⟨0 + 3, ?_⟩
  obtain ⟨y, cb, hj⟩ := mq_462
  rw [n_step (st' := [.ref 49]) (pc' := 60) (lv' := [(0, .ref 49)]) (hp' := rH e g q c l) (i := .aload_n 0) (len := 1) rfl hj rfl rfl rfl]
  rw [n_get (st' := [.int (g 68)]) (pc' := 63) (lv' := [(0, .ref 49)]) (hp' := rH e g q c l) (i := .getfield 644) (len := 3) rfl hj rfl rfl rfl rfl]
  exact n_ret rfl hj rfl rfl (x_ret rfl)
set_option maxRecDepth 100000 in
set_option maxHeartbeats 4000000 in
theorem bk_462_64 {b : Bool} {d : Nat} {e : Nat → x_E} {g : Nat → Int32} {q : Nat → Int64} {c : Nat → Nat → Int32} {l : Nat → Nat → Int64} : rr b e d 462 64 [(0, .ref 49)] [] g q c l (some (.int (g 5)), rH e g q c l) := by
  refine ⟨0 + 3, ?_⟩
  obtain ⟨y, cb, hj⟩ := mq_462
  rw [n_step (st' := [.ref 49]) (pc' := 65) (lv' := [(0, .ref 49)]) (hp' := rH e g q c l) (i := .aload_n 0) (len := 1) rfl hj rfl rfl rfl]
  rw [n_get (st' := [.int (g 5)]) (pc' := 68) (lv' := [(0, .ref 49)]) (hp' := rH e g q c l) (i := .getfield 575) (len := 3) rfl hj rfl rfl rfl rfl]
  exact n_ret rfl hj rfl rfl (x_ret rfl)
set_option maxRecDepth 100000 in
set_option maxHeartbeats 4000000 in
theorem bk_462_69 {b : Bool} {d : Nat} {e : Nat → x_E} {g : Nat → Int32} {q : Nat → Int64} {c : Nat → Nat → Int32} {l : Nat → Nat → Int64} : rr b e d 462 69 [(0, .ref 49)] [] g q c l (some (.int (g 1)), rH e g q c l) := by
  refine ⟨0 + 3, ?_⟩
  obtain ⟨y, cb, hj⟩ := mq_462
  rw [n_step (st' := [.ref 49]) (pc' := 70) (lv' := [(0, .ref 49)]) (hp' := rH e g q c l) (i := .aload_n 0) (len := 1) rfl hj rfl rfl rfl]
  rw [n_get (st' := [.int (g 1)]) (pc' := 73) (lv' := [(0, .ref 49)]) (hp' := rH e g q c l) (i := .getfield 237) (len := 3) rfl hj rfl rfl rfl rfl]
  exact n_ret rfl hj rfl rfl (x_ret rfl)
set_option maxRecDepth 100000 in
set_option maxHeartbeats 4000000 in
theorem bk_462_74 {b : Bool} {d : Nat} {e : Nat → x_E} {g : Nat → Int32} {q : Nat → Int64} {c : Nat → Nat → Int32} {l : Nat → Nat → Int64} {R : Option Value × List x_E} (h1 : xCn .ne ((g 5)) ((Int32.ofInt (2))) = true → rr b e d 462 89 [] [] g q c l R) (h2 : ¬ xCn .ne ((g 5)) ((Int32.ofInt (2))) = true → rr b e d 462 82 [(0, .ref 49)] [] g q c l R) : rr b e d 462 74 [(0, .ref 49)] [] g q c l R := by
  have key : ∀ f, nrun xZ (xY (xfm b)) xDT (f + 4) d 462 74 [(0, .ref 49)] [] (rH e g q c l) 0 0 = nrun xZ (xY (xfm b)) xDT f d 462 (if xCn .ne ((g 5)) ((Int32.ofInt (2))) = true then 89 else 82) [(0, .ref 49)] [] (rH e g q c l) 0 0 := by
    intro f
    obtain ⟨y, cb, hj⟩ := mq_462
    rw [n_step (st' := [.ref 49]) (pc' := 75) (lv' := [(0, .ref 49)]) (hp' := rH e g q c l) (i := .aload_n 0) (len := 1) rfl hj rfl rfl rfl]
    rw [n_get (st' := [.int (g 5)]) (pc' := 78) (lv' := [(0, .ref 49)]) (hp' := rH e g q c l) (i := .getfield 575) (len := 3) rfl hj rfl rfl rfl rfl]
    rw [n_step (st' := [.int (Int32.ofInt (2)), .int (g 5)]) (pc' := 79) (lv' := [(0, .ref 49)]) (hp' := rH e g q c l) (i := .iconst 2) (len := 1) rfl hj rfl rfl rfl]
    rw [n_step (st' := []) (pc' := (if xCn .ne ((g 5)) ((Int32.ofInt (2))) = true then 89 else 82)) (lv' := [(0, .ref 49)]) (hp' := rH e g q c l) (i := .if_icmp .ne 10) (len := 3) rfl hj rfl rfl rfl]
  by_cases hc : xCn .ne ((g 5)) ((Int32.ofInt (2))) = true
  · obtain ⟨f, h⟩ := h1 hc
    refine ⟨f + 4, ?_⟩
    rw [key, if_pos hc]
    exact nrun_ext f f _ _ R 462 89 [] [(0, .ref 49)] [] _ 0 0 122 (Nat.le_refl _) (Nat.le_refl _) (Nat.le_of_ble_eq_true rfl) (lvR_mk [] [0] rfl rfl (by decide) (by decide) (fun _ h => nomatch h) (List.forall_mem_cons.mpr ⟨Or.inr rfl, (fun _ h => nomatch h)⟩)) h
  · obtain ⟨f, h⟩ := h2 hc
    refine ⟨f + 4, ?_⟩
    rw [key, if_neg hc]
    exact h
set_option maxRecDepth 100000 in
set_option maxHeartbeats 4000000 in
theorem bk_462_82 {b : Bool} {d : Nat} {e : Nat → x_E} {g : Nat → Int32} {q : Nat → Int64} {c : Nat → Nat → Int32} {l : Nat → Nat → Int64} {R : Option Value × List x_E} (h : rr b e d 462 90 [] [.int (g 139)] g q c l R) : rr b e d 462 82 [(0, .ref 49)] [] g q c l R := by
  obtain ⟨f, h⟩ := h
  refine ⟨f + 3, ?_⟩
  obtain ⟨y, cb, hj⟩ := mq_462
  rw [n_step (st' := [.ref 49]) (pc' := 83) (lv' := [(0, .ref 49)]) (hp' := rH e g q c l) (i := .aload_n 0) (len := 1) rfl hj rfl rfl rfl]
  rw [n_get (st' := [.int (g 139)]) (pc' := 86) (lv' := [(0, .ref 49)]) (hp' := rH e g q c l) (i := .getfield 842) (len := 3) rfl hj rfl rfl rfl rfl]
  rw [n_step (st' := [.int (g 139)]) (pc' := 90) (lv' := [(0, .ref 49)]) (hp' := rH e g q c l) (i := .goto 4) (len := 3) rfl hj rfl rfl rfl]
  exact nrun_ext f f _ _ R 462 90 [] [(0, .ref 49)] [.int (g 139)] _ 0 0 122 (Nat.le_refl _) (Nat.le_refl _) (Nat.le_of_ble_eq_true rfl) (lvR_mk [] [0] rfl rfl (by decide) (by decide) (fun _ h => nomatch h) (List.forall_mem_cons.mpr ⟨Or.inr rfl, (fun _ h => nomatch h)⟩)) h
set_option maxRecDepth 100000 in
set_option maxHeartbeats 4000000 in
theorem bk_462_89 {b : Bool} {d : Nat} {e : Nat → x_E} {g : Nat → Int32} {q : Nat → Int64} {c : Nat → Nat → Int32} {l : Nat → Nat → Int64} {R : Option Value × List x_E} (h : rr b e d 462 90 [] [.int (Int32.ofInt (0))] g q c l R) : rr b e d 462 89 [] [] g q c l R := by
  obtain ⟨f, h⟩ := h
  refine ⟨f + 1, ?_⟩
  obtain ⟨y, cb, hj⟩ := mq_462
  rw [n_step (st' := [.int (Int32.ofInt (0))]) (pc' := 90) (lv' := []) (hp' := rH e g q c l) (i := .iconst 0) (len := 1) rfl hj rfl rfl rfl]
  exact h
set_option maxRecDepth 100000 in
set_option maxHeartbeats 4000000 in
theorem bk_462_90 {b : Bool} {d : Nat} {t0 : Int32} {e : Nat → x_E} {g : Nat → Int32} {q : Nat → Int64} {c : Nat → Nat → Int32} {l : Nat → Nat → Int64} : rr b e d 462 90 [] [.int t0] g q c l (some (.int t0), rH e g q c l) := by
  refine ⟨0 + 1, ?_⟩
  obtain ⟨y, cb, hj⟩ := mq_462
  exact n_ret rfl hj rfl rfl (x_ret rfl)
set_option maxRecDepth 100000 in
set_option maxHeartbeats 4000000 in
theorem bk_462_91 {b : Bool} {d : Nat} {e : Nat → x_E} {g : Nat → Int32} {q : Nat → Int64} {c : Nat → Nat → Int32} {l : Nat → Nat → Int64} : rr b e d 462 91 [] [] g q c l (some (.int (Int32.ofInt (-1))), rH e g q c l) := by
  refine ⟨0 + 2, ?_⟩
  obtain ⟨y, cb, hj⟩ := mq_462
  rw [n_step (st' := [.int (Int32.ofInt (-1))]) (pc' := 92) (lv' := []) (hp' := rH e g q c l) (i := .iconst (-1)) (len := 1) rfl hj rfl rfl rfl]
  exact n_ret rfl hj rfl rfl (x_ret rfl)
set_option maxRecDepth 100000 in
set_option maxHeartbeats 4000000 in
theorem bk_463_0 {b : Bool} {d : Nat} {x1 : Int32} {e : Nat → x_E} {g : Nat → Int32} {q : Nat → Int64} {c : Nat → Nat → Int32} {l : Nat → Nat → Int64} {R : Option Value × List x_E} (h1 : xCn .eq ((g 143)) 0 = true → rr b e d 463 27 [] [] g q c l R) (h2 : ¬ xCn .eq ((g 143)) 0 = true → rr b e d 463 7 [(0, .ref 49), (1, .int x1)] [] g q c l R) : rr b e d 463 0 [(0, .ref 49), (1, .int x1)] [] g q c l R := by
  have key : ∀ f, nrun xZ (xY (xfm b)) xDT (f + 3) d 463 0 [(0, .ref 49), (1, .int x1)] [] (rH e g q c l) 0 0 = nrun xZ (xY (xfm b)) xDT f d 463 (if xCn .eq ((g 143)) 0 = true then 27 else 7) [(0, .ref 49), (1, .int x1)] [] (rH e g q c l) 0 0 := by
    intro f
    obtain ⟨y, cb, hj⟩ := mq_463
    rw [n_step (st' := [.ref 49]) (pc' := 1) (lv' := [(0, .ref 49), (1, .int x1)]) (hp' := rH e g q c l) (i := .aload_n 0) (len := 1) rfl hj rfl rfl rfl]
    rw [n_get (st' := [.int (g 143)]) (pc' := 4) (lv' := [(0, .ref 49), (1, .int x1)]) (hp' := rH e g q c l) (i := .getfield 878) (len := 3) rfl hj rfl rfl rfl rfl]
    rw [n_step (st' := []) (pc' := (if xCn .eq ((g 143)) 0 = true then 27 else 7)) (lv' := [(0, .ref 49), (1, .int x1)]) (hp' := rH e g q c l) (i := .ifCond .eq 23) (len := 3) rfl hj rfl rfl rfl]
  by_cases hc : xCn .eq ((g 143)) 0 = true
  · obtain ⟨f, h⟩ := h1 hc
    refine ⟨f + 3, ?_⟩
    rw [key, if_pos hc]
    exact nrun_ext f f _ _ R 463 27 [] [(0, .ref 49), (1, .int x1)] [] _ 0 0 122 (Nat.le_refl _) (Nat.le_refl _) (Nat.le_of_ble_eq_true rfl) (lvR_mk [] [0, 1] rfl rfl (by decide) (by decide) (fun _ h => nomatch h) (List.forall_mem_cons.mpr ⟨Or.inr rfl, (List.forall_mem_cons.mpr ⟨Or.inr rfl, (fun _ h => nomatch h)⟩)⟩)) h
  · obtain ⟨f, h⟩ := h2 hc
    refine ⟨f + 3, ?_⟩
    rw [key, if_neg hc]
    exact h
set_option maxRecDepth 100000 in
set_option maxHeartbeats 4000000 in
theorem bk_463_7 {b : Bool} {d : Nat} {x1 : Int32} {e : Nat → x_E} {g : Nat → Int32} {q : Nat → Int64} {c : Nat → Nat → Int32} {l : Nat → Nat → Int64} {R : Option Value × List x_E} (h1 : xCn .lt x1 ((Int32.ofInt (1))) = true → rr b e d 463 27 [] [] g q c l R) (h2 : ¬ xCn .lt x1 ((Int32.ofInt (1))) = true → rr b e d 463 12 [(0, .ref 49), (1, .int x1)] [] g q c l R) : rr b e d 463 7 [(0, .ref 49), (1, .int x1)] [] g q c l R := by
  have key : ∀ f, nrun xZ (xY (xfm b)) xDT (f + 3) d 463 7 [(0, .ref 49), (1, .int x1)] [] (rH e g q c l) 0 0 = nrun xZ (xY (xfm b)) xDT f d 463 (if xCn .lt x1 ((Int32.ofInt (1))) = true then 27 else 12) [(0, .ref 49), (1, .int x1)] [] (rH e g q c l) 0 0 := by
    intro f
    obtain ⟨y, cb, hj⟩ := mq_463
    rw [n_step (st' := [.int x1]) (pc' := 8) (lv' := [(0, .ref 49), (1, .int x1)]) (hp' := rH e g q c l) (i := .iload_n 1) (len := 1) rfl hj rfl rfl rfl]
    rw [n_step (st' := [.int (Int32.ofInt (1)), .int x1]) (pc' := 9) (lv' := [(0, .ref 49), (1, .int x1)]) (hp' := rH e g q c l) (i := .iconst 1) (len := 1) rfl hj rfl rfl rfl]
    rw [n_step (st' := []) (pc' := (if xCn .lt x1 ((Int32.ofInt (1))) = true then 27 else 12)) (lv' := [(0, .ref 49), (1, .int x1)]) (hp' := rH e g q c l) (i := .if_icmp .lt 18) (len := 3) rfl hj rfl rfl rfl]
  by_cases hc : xCn .lt x1 ((Int32.ofInt (1))) = true
  · obtain ⟨f, h⟩ := h1 hc
    refine ⟨f + 3, ?_⟩
    rw [key, if_pos hc]
    exact nrun_ext f f _ _ R 463 27 [] [(0, .ref 49), (1, .int x1)] [] _ 0 0 122 (Nat.le_refl _) (Nat.le_refl _) (Nat.le_of_ble_eq_true rfl) (lvR_mk [] [0, 1] rfl rfl (by decide) (by decide) (fun _ h => nomatch h) (List.forall_mem_cons.mpr ⟨Or.inr rfl, (List.forall_mem_cons.mpr ⟨Or.inr rfl, (fun _ h => nomatch h)⟩)⟩)) h
  · obtain ⟨f, h⟩ := h2 hc
    refine ⟨f + 3, ?_⟩
    rw [key, if_neg hc]
    exact h
set_option maxRecDepth 100000 in
set_option maxHeartbeats 4000000 in
theorem bk_463_12 {b : Bool} {d : Nat} {x1 : Int32} {e : Nat → x_E} {g : Nat → Int32} {q : Nat → Int64} {c : Nat → Nat → Int32} {l : Nat → Nat → Int64} {R : Option Value × List x_E} (h1 : xCn .gt x1 ((Int8.ofInt (15)).toInt32) = true → rr b e d 463 27 [] [] g q c l R) (h2 : ¬ xCn .gt x1 ((Int8.ofInt (15)).toInt32) = true → rr b e d 463 18 [(0, .ref 49), (1, .int x1)] [] g q c l R) : rr b e d 463 12 [(0, .ref 49), (1, .int x1)] [] g q c l R := by
  have key : ∀ f, nrun xZ (xY (xfm b)) xDT (f + 3) d 463 12 [(0, .ref 49), (1, .int x1)] [] (rH e g q c l) 0 0 = nrun xZ (xY (xfm b)) xDT f d 463 (if xCn .gt x1 ((Int8.ofInt (15)).toInt32) = true then 27 else 18) [(0, .ref 49), (1, .int x1)] [] (rH e g q c l) 0 0 := by
    intro f
    obtain ⟨y, cb, hj⟩ := mq_463
    rw [n_step (st' := [.int x1]) (pc' := 13) (lv' := [(0, .ref 49), (1, .int x1)]) (hp' := rH e g q c l) (i := .iload_n 1) (len := 1) rfl hj rfl rfl rfl]
    rw [n_step (st' := [.int (Int8.ofInt (15)).toInt32, .int x1]) (pc' := 15) (lv' := [(0, .ref 49), (1, .int x1)]) (hp' := rH e g q c l) (i := .bipush 15) (len := 2) rfl hj rfl rfl rfl]
    rw [n_step (st' := []) (pc' := (if xCn .gt x1 ((Int8.ofInt (15)).toInt32) = true then 27 else 18)) (lv' := [(0, .ref 49), (1, .int x1)]) (hp' := rH e g q c l) (i := .if_icmp .gt 12) (len := 3) rfl hj rfl rfl rfl]
  by_cases hc : xCn .gt x1 ((Int8.ofInt (15)).toInt32) = true
  · obtain ⟨f, h⟩ := h1 hc
    refine ⟨f + 3, ?_⟩
    rw [key, if_pos hc]
    exact nrun_ext f f _ _ R 463 27 [] [(0, .ref 49), (1, .int x1)] [] _ 0 0 122 (Nat.le_refl _) (Nat.le_refl _) (Nat.le_of_ble_eq_true rfl) (lvR_mk [] [0, 1] rfl rfl (by decide) (by decide) (fun _ h => nomatch h) (List.forall_mem_cons.mpr ⟨Or.inr rfl, (List.forall_mem_cons.mpr ⟨Or.inr rfl, (fun _ h => nomatch h)⟩)⟩)) h
  · obtain ⟨f, h⟩ := h2 hc
    refine ⟨f + 3, ?_⟩
    rw [key, if_neg hc]
    exact h
set_option maxRecDepth 100000 in
set_option maxHeartbeats 4000000 in
theorem bk_463_18 {b : Bool} {d : Nat} {x1 : Int32} {e : Nat → x_E} {g : Nat → Int32} {q : Nat → Int64} {c : Nat → Nat → Int32} {l : Nat → Nat → Int64} {R : Option Value × List x_E} (hz0 : ¬ (x1 < 0 ∨ 16 ≤ (x1).toNatClampNeg)) (h : rr b e d 463 28 [] [.int (c 120 (x1).toNatClampNeg)] g q c l R) : rr b e d 463 18 [(0, .ref 49), (1, .int x1)] [] g q c l R := by
  obtain ⟨f, h⟩ := h
  refine ⟨f + 5, ?_⟩
  obtain ⟨y, cb, hj⟩ := mq_463
  rw [n_step (st' := [.ref 49]) (pc' := 19) (lv' := [(0, .ref 49), (1, .int x1)]) (hp' := rH e g q c l) (i := .aload_n 0) (len := 1) rfl hj rfl rfl rfl]
  rw [n_get (st' := [.ref 120]) (pc' := 22) (lv' := [(0, .ref 49), (1, .int x1)]) (hp' := rH e g q c l) (i := .getfield 231) (len := 3) rfl hj rfl rfl rfl rfl]
  rw [n_step (st' := [.int x1, .ref 120]) (pc' := 23) (lv' := [(0, .ref 49), (1, .int x1)]) (hp' := rH e g q c l) (i := .iload_n 1) (len := 1) rfl hj rfl rfl rfl]
  rw [n_ial (st' := [.int (c 120 (x1).toNatClampNeg)]) rfl hj (ald_120 hz0)]
  rw [n_step (st' := [.int (c 120 (x1).toNatClampNeg)]) (pc' := 28) (lv' := [(0, .ref 49), (1, .int x1)]) (hp' := rH e g q c l) (i := .goto 4) (len := 3) rfl hj rfl rfl rfl]
  exact nrun_ext f f _ _ R 463 28 [] [(0, .ref 49), (1, .int x1)] [.int (c 120 (x1).toNatClampNeg)] _ 0 0 122 (Nat.le_refl _) (Nat.le_refl _) (Nat.le_of_ble_eq_true rfl) (lvR_mk [] [0, 1] rfl rfl (by decide) (by decide) (fun _ h => nomatch h) (List.forall_mem_cons.mpr ⟨Or.inr rfl, (List.forall_mem_cons.mpr ⟨Or.inr rfl, (fun _ h => nomatch h)⟩)⟩)) h
set_option maxRecDepth 100000 in
set_option maxHeartbeats 4000000 in
theorem bk_463_27 {b : Bool} {d : Nat} {e : Nat → x_E} {g : Nat → Int32} {q : Nat → Int64} {c : Nat → Nat → Int32} {l : Nat → Nat → Int64} {R : Option Value × List x_E} (h : rr b e d 463 28 [] [.int (Int32.ofInt (0))] g q c l R) : rr b e d 463 27 [] [] g q c l R := by
  obtain ⟨f, h⟩ := h
  refine ⟨f + 1, ?_⟩
  obtain ⟨y, cb, hj⟩ := mq_463
  rw [n_step (st' := [.int (Int32.ofInt (0))]) (pc' := 28) (lv' := []) (hp' := rH e g q c l) (i := .iconst 0) (len := 1) rfl hj rfl rfl rfl]
  exact h
set_option maxRecDepth 100000 in
set_option maxHeartbeats 4000000 in
theorem bk_463_28 {b : Bool} {d : Nat} {t0 : Int32} {e : Nat → x_E} {g : Nat → Int32} {q : Nat → Int64} {c : Nat → Nat → Int32} {l : Nat → Nat → Int64} : rr b e d 463 28 [] [.int t0] g q c l (some (.int t0), rH e g q c l) := by
  refine ⟨0 + 1, ?_⟩
  obtain ⟨y, cb, hj⟩ := mq_463
  exact n_ret rfl hj rfl rfl (x_ret rfl)
set_option maxRecDepth 100000 in
set_option maxHeartbeats 4000000 in
theorem bk_464_0 {b : Bool} {d : Nat} {x1 : Int32} {e : Nat → x_E} {g : Nat → Int32} {q : Nat → Int64} {c : Nat → Nat → Int32} {l : Nat → Nat → Int64} {R : Option Value × List x_E} (h1 : xCn .eq ((g 143)) 0 = true → rr b e d 464 28 [] [] g q c l R) (h2 : ¬ xCn .eq ((g 143)) 0 = true → rr b e d 464 7 [(0, .ref 49), (1, .int x1)] [] g q c l R) : rr b e d 464 0 [(0, .ref 49), (1, .int x1)] [] g q c l R := by
  have key : ∀ f, nrun xZ (xY (xfm b)) xDT (f + 3) d 464 0 [(0, .ref 49), (1, .int x1)] [] (rH e g q c l) 0 0 = nrun xZ (xY (xfm b)) xDT f d 464 (if xCn .eq ((g 143)) 0 = true then 28 else 7) [(0, .ref 49), (1, .int x1)] [] (rH e g q c l) 0 0 := by
    intro f
    obtain ⟨y, cb, hj⟩ := mq_464
    rw [n_step (st' := [.ref 49]) (pc' := 1) (lv' := [(0, .ref 49), (1, .int x1)]) (hp' := rH e g q c l) (i := .aload_n 0) (len := 1) rfl hj rfl rfl rfl]
    rw [n_get (st' := [.int (g 143)]) (pc' := 4) (lv' := [(0, .ref 49), (1, .int x1)]) (hp' := rH e g q c l) (i := .getfield 878) (len := 3) rfl hj rfl rfl rfl rfl]
    rw [n_step (st' := []) (pc' := (if xCn .eq ((g 143)) 0 = true then 28 else 7)) (lv' := [(0, .ref 49), (1, .int x1)]) (hp' := rH e g q c l) (i := .ifCond .eq 24) (len := 3) rfl hj rfl rfl rfl]
  by_cases hc : xCn .eq ((g 143)) 0 = true
  · obtain ⟨f, h⟩ := h1 hc
    refine ⟨f + 3, ?_⟩
    rw [key, if_pos hc]
    exact nrun_ext f f _ _ R 464 28 [] [(0, .ref 49), (1, .int x1)] [] _ 0 0 122 (Nat.le_refl _) (Nat.le_refl _) (Nat.le_of_ble_eq_true rfl) (lvR_mk [] [0, 1] rfl rfl (by decide) (by decide) (fun _ h => nomatch h) (List.forall_mem_cons.mpr ⟨Or.inr rfl, (List.forall_mem_cons.mpr ⟨Or.inr rfl, (fun _ h => nomatch h)⟩)⟩)) h
  · obtain ⟨f, h⟩ := h2 hc
    refine ⟨f + 3, ?_⟩
    rw [key, if_neg hc]
    exact h
set_option maxRecDepth 100000 in
set_option maxHeartbeats 4000000 in
theorem bk_464_7 {b : Bool} {d : Nat} {x1 : Int32} {e : Nat → x_E} {g : Nat → Int32} {q : Nat → Int64} {c : Nat → Nat → Int32} {l : Nat → Nat → Int64} {R : Option Value × List x_E} (h1 : xCn .lt x1 0 = true → rr b e d 464 28 [] [] g q c l R) (h2 : ¬ xCn .lt x1 0 = true → rr b e d 464 11 [(0, .ref 49), (1, .int x1)] [] g q c l R) : rr b e d 464 7 [(0, .ref 49), (1, .int x1)] [] g q c l R := by
  have key : ∀ f, nrun xZ (xY (xfm b)) xDT (f + 2) d 464 7 [(0, .ref 49), (1, .int x1)] [] (rH e g q c l) 0 0 = nrun xZ (xY (xfm b)) xDT f d 464 (if xCn .lt x1 0 = true then 28 else 11) [(0, .ref 49), (1, .int x1)] [] (rH e g q c l) 0 0 := by
    intro f
    obtain ⟨y, cb, hj⟩ := mq_464
    rw [n_step (st' := [.int x1]) (pc' := 8) (lv' := [(0, .ref 49), (1, .int x1)]) (hp' := rH e g q c l) (i := .iload_n 1) (len := 1) rfl hj rfl rfl rfl]
    rw [n_step (st' := []) (pc' := (if xCn .lt x1 0 = true then 28 else 11)) (lv' := [(0, .ref 49), (1, .int x1)]) (hp' := rH e g q c l) (i := .ifCond .lt 20) (len := 3) rfl hj rfl rfl rfl]
  by_cases hc : xCn .lt x1 0 = true
  · obtain ⟨f, h⟩ := h1 hc
    refine ⟨f + 2, ?_⟩
    rw [key, if_pos hc]
    exact nrun_ext f f _ _ R 464 28 [] [(0, .ref 49), (1, .int x1)] [] _ 0 0 122 (Nat.le_refl _) (Nat.le_refl _) (Nat.le_of_ble_eq_true rfl) (lvR_mk [] [0, 1] rfl rfl (by decide) (by decide) (fun _ h => nomatch h) (List.forall_mem_cons.mpr ⟨Or.inr rfl, (List.forall_mem_cons.mpr ⟨Or.inr rfl, (fun _ h => nomatch h)⟩)⟩)) h
  · obtain ⟨f, h⟩ := h2 hc
    refine ⟨f + 2, ?_⟩
    rw [key, if_neg hc]
    exact h
set_option maxRecDepth 100000 in
set_option maxHeartbeats 4000000 in
theorem bk_464_11 {b : Bool} {d : Nat} {x1 : Int32} {e : Nat → x_E} {g : Nat → Int32} {q : Nat → Int64} {c : Nat → Nat → Int32} {l : Nat → Nat → Int64} {R : Option Value × List x_E} (h1 : xCn .ge x1 ((g 64)) = true → rr b e d 464 28 [] [] g q c l R) (h2 : ¬ xCn .ge x1 ((g 64)) = true → rr b e d 464 19 [(0, .ref 49), (1, .int x1)] [] g q c l R) : rr b e d 464 11 [(0, .ref 49), (1, .int x1)] [] g q c l R := by
  have key : ∀ f, nrun xZ (xY (xfm b)) xDT (f + 4) d 464 11 [(0, .ref 49), (1, .int x1)] [] (rH e g q c l) 0 0 = nrun xZ (xY (xfm b)) xDT f d 464 (if xCn .ge x1 ((g 64)) = true then 28 else 19) [(0, .ref 49), (1, .int x1)] [] (rH e g q c l) 0 0 := by
    intro f
    obtain ⟨y, cb, hj⟩ := mq_464
    rw [n_step (st' := [.int x1]) (pc' := 12) (lv' := [(0, .ref 49), (1, .int x1)]) (hp' := rH e g q c l) (i := .iload_n 1) (len := 1) rfl hj rfl rfl rfl]
    rw [n_step (st' := [.ref 49, .int x1]) (pc' := 13) (lv' := [(0, .ref 49), (1, .int x1)]) (hp' := rH e g q c l) (i := .aload_n 0) (len := 1) rfl hj rfl rfl rfl]
    rw [n_get (st' := [.int (g 64), .int x1]) (pc' := 16) (lv' := [(0, .ref 49), (1, .int x1)]) (hp' := rH e g q c l) (i := .getfield 593) (len := 3) rfl hj rfl rfl rfl rfl]
    rw [n_step (st' := []) (pc' := (if xCn .ge x1 ((g 64)) = true then 28 else 19)) (lv' := [(0, .ref 49), (1, .int x1)]) (hp' := rH e g q c l) (i := .if_icmp .ge 12) (len := 3) rfl hj rfl rfl rfl]
  by_cases hc : xCn .ge x1 ((g 64)) = true
  · obtain ⟨f, h⟩ := h1 hc
    refine ⟨f + 4, ?_⟩
    rw [key, if_pos hc]
    exact nrun_ext f f _ _ R 464 28 [] [(0, .ref 49), (1, .int x1)] [] _ 0 0 122 (Nat.le_refl _) (Nat.le_refl _) (Nat.le_of_ble_eq_true rfl) (lvR_mk [] [0, 1] rfl rfl (by decide) (by decide) (fun _ h => nomatch h) (List.forall_mem_cons.mpr ⟨Or.inr rfl, (List.forall_mem_cons.mpr ⟨Or.inr rfl, (fun _ h => nomatch h)⟩)⟩)) h
  · obtain ⟨f, h⟩ := h2 hc
    refine ⟨f + 4, ?_⟩
    rw [key, if_neg hc]
    exact h
set_option maxRecDepth 100000 in
set_option maxHeartbeats 4000000 in
theorem bk_464_19 {b : Bool} {d : Nat} {x1 : Int32} {e : Nat → x_E} {g : Nat → Int32} {q : Nat → Int64} {c : Nat → Nat → Int32} {l : Nat → Nat → Int64} {R : Option Value × List x_E} (hz0 : ¬ (x1 < 0 ∨ 20001 ≤ (x1).toNatClampNeg)) (h : rr b e d 464 29 [] [.int (c 121 (x1).toNatClampNeg)] g q c l R) : rr b e d 464 19 [(0, .ref 49), (1, .int x1)] [] g q c l R := by
  obtain ⟨f, h⟩ := h
  refine ⟨f + 5, ?_⟩
  obtain ⟨y, cb, hj⟩ := mq_464
  rw [n_step (st' := [.ref 49]) (pc' := 20) (lv' := [(0, .ref 49), (1, .int x1)]) (hp' := rH e g q c l) (i := .aload_n 0) (len := 1) rfl hj rfl rfl rfl]
  rw [n_get (st' := [.ref 121]) (pc' := 23) (lv' := [(0, .ref 49), (1, .int x1)]) (hp' := rH e g q c l) (i := .getfield 234) (len := 3) rfl hj rfl rfl rfl rfl]
  rw [n_step (st' := [.int x1, .ref 121]) (pc' := 24) (lv' := [(0, .ref 49), (1, .int x1)]) (hp' := rH e g q c l) (i := .iload_n 1) (len := 1) rfl hj rfl rfl rfl]
  rw [n_ial (st' := [.int (c 121 (x1).toNatClampNeg)]) rfl hj (ald_121 hz0)]
  rw [n_step (st' := [.int (c 121 (x1).toNatClampNeg)]) (pc' := 29) (lv' := [(0, .ref 49), (1, .int x1)]) (hp' := rH e g q c l) (i := .goto 4) (len := 3) rfl hj rfl rfl rfl]
  exact nrun_ext f f _ _ R 464 29 [] [(0, .ref 49), (1, .int x1)] [.int (c 121 (x1).toNatClampNeg)] _ 0 0 122 (Nat.le_refl _) (Nat.le_refl _) (Nat.le_of_ble_eq_true rfl) (lvR_mk [] [0, 1] rfl rfl (by decide) (by decide) (fun _ h => nomatch h) (List.forall_mem_cons.mpr ⟨Or.inr rfl, (List.forall_mem_cons.mpr ⟨Or.inr rfl, (fun _ h => nomatch h)⟩)⟩)) h
set_option maxRecDepth 100000 in
set_option maxHeartbeats 4000000 in
theorem bk_464_28 {b : Bool} {d : Nat} {e : Nat → x_E} {g : Nat → Int32} {q : Nat → Int64} {c : Nat → Nat → Int32} {l : Nat → Nat → Int64} {R : Option Value × List x_E} (h : rr b e d 464 29 [] [.int (Int32.ofInt (0))] g q c l R) : rr b e d 464 28 [] [] g q c l R := by
  obtain ⟨f, h⟩ := h
  refine ⟨f + 1, ?_⟩
  obtain ⟨y, cb, hj⟩ := mq_464
  rw [n_step (st' := [.int (Int32.ofInt (0))]) (pc' := 29) (lv' := []) (hp' := rH e g q c l) (i := .iconst 0) (len := 1) rfl hj rfl rfl rfl]
  exact h
