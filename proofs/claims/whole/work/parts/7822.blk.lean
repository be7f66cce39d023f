set_option maxRecDepth 100000 in
set_option maxHeartbeats 4000000 in
theorem bk_408_105 {b : Bool} {d : Nat} {x1 x2 x3 x4 x6 : Int32} {e : Nat → x_E} {g : Nat → Int32} {q : Nat → Int64} {c : Nat → Nat → Int32} {l : Nat → Nat → Int64} {g' : Nat → Int32} {q' : Nat → Int64} {c' : Nat → Nat → Int32} {l' : Nat → Nat → Int64} {v : Int32} {R : Option Value × List x_E} (hc : rr b e d 337 0 [(0, .ref 49)] [] g q c l (some (.int v), rH e g' q' c' l')) (h : rr b e (d + 1) 408 109 [(0, .ref 49), (1, .int x1), (2, .int x2), (3, .int x3), (4, .int x4), (6, .int x6)] [.int v] g' q' c' l' R) : rr b e (d + 1) 408 105 [(0, .ref 49), (1, .int x1), (2, .int x2), (3, .int x3), (4, .int x4), (6, .int x6)] [] g q c l R := by
  obtain ⟨f1, hc⟩ := hc
  obtain ⟨f2, h⟩ := h
  obtain ⟨f, hf1, hf2⟩ : ∃ f, f1 ≤ f ∧ f2 ≤ f := ⟨max f1 f2, Nat.le_max_left _ _, Nat.le_max_right _ _⟩
  have hc := nrun_fuel f1 f _ _ _ _ _ _ _ _ _ hf1 hc
  have h := nrun_fuel f2 f _ _ _ _ _ _ _ _ _ hf2 h
  refine ⟨f + 2, ?_⟩
  obtain ⟨y, cb, hj⟩ := mq_408
  rw [n_step (st' := [.ref 49]) (pc' := 106) (lv' := [(0, .ref 49), (1, .int x1), (2, .int x2), (3, .int x3), (4, .int x4), (6, .int x6)]) (hp' := rH e g q c l) (i := .aload_n 0) (len := 1) rfl hj rfl rfl rfl]
  obtain ⟨y2, cb2, hj2⟩ := mq_337
  rw [n_call (f := f) (d := d) (ki := 0) (idx := 337) (j' := 337) (kd := 0) (M' := (y2, cb2, 1, some .boolean, 12, 0, 0, 0)) (avs := [.ref 49]) (r := []) (rv := some (.int v)) (hp1 := rH e g' q' c' l') rfl hj rfl rfl rfl rfl (rq_n rfl rfl hj2 rfl rfl) rfl hc (Nat.le_of_ble_eq_true rfl)]
  exact h
set_option maxRecDepth 100000 in
set_option maxHeartbeats 4000000 in
theorem bk_408_109 {b : Bool} {d : Nat} {t0 x1 x2 x3 x4 x6 : Int32} {e : Nat → x_E} {g : Nat → Int32} {q : Nat → Int64} {c : Nat → Nat → Int32} {l : Nat → Nat → Int64} {R : Option Value × List x_E} (h1 : xCn .eq t0 0 = true → rr b e d 408 114 [(0, .ref 49), (1, .int x1), (2, .int x2), (3, .int x3), (4, .int x4), (6, .int x6)] [] g q c l R) (h2 : ¬ xCn .eq t0 0 = true → rr b e d 408 112 [] [] g q c l R) : rr b e d 408 109 [(0, .ref 49), (1, .int x1), (2, .int x2), (3, .int x3), (4, .int x4), (6, .int x6)] [.int t0] g q c l R := by
  have key : ∀ f, nrun xZ (xY (xfm b)) xDT (f + 1) d 408 109 [(0, .ref 49), (1, .int x1), (2, .int x2), (3, .int x3), (4, .int x4), (6, .int x6)] [.int t0] (rH e g q c l) 0 0 = nrun xZ (xY (xfm b)) xDT f d 408 (if xCn .eq t0 0 = true then 114 else 112) [(0, .ref 49), (1, .int x1), (2, .int x2), (3, .int x3), (4, .int x4), (6, .int x6)] [] (rH e g q c l) 0 0 := by
    intro f
    obtain ⟨y, cb, hj⟩ := mq_408
    rw [n_step (st' := []) (pc' := (if xCn .eq t0 0 = true then 114 else 112)) (lv' := [(0, .ref 49), (1, .int x1), (2, .int x2), (3, .int x3), (4, .int x4), (6, .int x6)]) (hp' := rH e g q c l) (i := .ifCond .eq 5) (len := 3) rfl hj rfl rfl rfl]
  by_cases hc : xCn .eq t0 0 = true
  · obtain ⟨f, h⟩ := h1 hc
    refine ⟨f + 1, ?_⟩
    rw [key, if_pos hc]
    exact h
  · obtain ⟨f, h⟩ := h2 hc
    refine ⟨f + 1, ?_⟩
    rw [key, if_neg hc]
    exact nrun_ext f f _ _ R 408 112 [] [(0, .ref 49), (1, .int x1), (2, .int x2), (3, .int x3), (4, .int x4), (6, .int x6)] [] _ 0 0 122 (Nat.le_refl _) (Nat.le_refl _) (Nat.le_of_ble_eq_true rfl) (lvR_mk [] [0, 1, 2, 3, 4, 6] rfl rfl (by decide) (by decide) (fun _ h => nomatch h) (List.forall_mem_cons.mpr ⟨Or.inr rfl, (List.forall_mem_cons.mpr ⟨Or.inr rfl, (List.forall_mem_cons.mpr ⟨Or.inr rfl, (List.forall_mem_cons.mpr ⟨Or.inr rfl, (List.forall_mem_cons.mpr ⟨Or.inr rfl, (List.forall_mem_cons.mpr ⟨Or.inr rfl, (fun _ h => nomatch h)⟩)⟩)⟩)⟩)⟩)⟩)) h
set_option maxRecDepth 100000 in
set_option maxHeartbeats 4000000 in
theorem bk_408_112 {b : Bool} {d : Nat} {e : Nat → x_E} {g : Nat → Int32} {q : Nat → Int64} {c : Nat → Nat → Int32} {l : Nat → Nat → Int64} : rr b e d 408 112 [] [] g q c l (some (.int (Int32.ofInt (-1))), rH e g q c l) := by
  refine ⟨0 + 2, ?_⟩
  obtain ⟨y, cb, hj⟩ := mq_408
  rw [n_step (st' := [.int (Int32.ofInt (-1))]) (pc' := 113) (lv' := []) (hp' := rH e g q c l) (i := .iconst (-1)) (len := 1) rfl hj rfl rfl rfl]
  exact n_ret rfl hj rfl rfl (x_ret rfl)
set_option maxRecDepth 100000 in
set_option maxHeartbeats 4000000 in
theorem bk_408_114 {b : Bool} {d : Nat} {x1 x2 x3 x4 x6 : Int32} {e : Nat → x_E} {g : Nat → Int32} {q : Nat → Int64} {c : Nat → Nat → Int32} {l : Nat → Nat → Int64} {g' : Nat → Int32} {q' : Nat → Int64} {c' : Nat → Nat → Int32} {l' : Nat → Nat → Int64} {v : Int32} {R : Option Value × List x_E} (hz0 : ¬ ((g 102) < 0 ∨ 1400 ≤ ((g 102)).toNatClampNeg)) (hc : rr b e d 352 0 [(0, .ref 49), (1, .int (Int8.ofInt (44)).toInt32)] [] (upd g 102 (((g 102) + (Int32.ofInt (1))))) q (updA c 96 (upd (c 96) ((g 102)).toNatClampNeg x6)) l (some (.int v), rH e g' q' c' l')) (h : rr b e (d + 1) 408 145 [(0, .ref 49), (1, .int x1), (2, .int (x2 + (Int32.ofInt (1)))), (3, .int x3), (4, .int x4)] [.int v] g' q' c' l' R) : rr b e (d + 1) 408 114 [(0, .ref 49), (1, .int x1), (2, .int x2), (3, .int x3), (4, .int x4), (6, .int x6)] [] g q c l R := by
  obtain ⟨f1, hc⟩ := hc
  obtain ⟨f2, h⟩ := h
  obtain ⟨f, hf1, hf2⟩ : ∃ f, f1 ≤ f ∧ f2 ≤ f := ⟨max f1 f2, Nat.le_max_left _ _, Nat.le_max_right _ _⟩
  have hc := nrun_fuel f1 f _ _ _ _ _ _ _ _ _ hf1 hc
  have h := nrun_fuel f2 f _ _ _ _ _ _ _ _ _ hf2 h
  refine ⟨f + 19, ?_⟩
  obtain ⟨y, cb, hj⟩ := mq_408
  rw [n_step (st' := [.ref 49]) (pc' := 115) (lv' := [(0, .ref 49), (1, .int x1), (2, .int x2), (3, .int x3), (4, .int x4), (6, .int x6)]) (hp' := rH e g q c l) (i := .aload_n 0) (len := 1) rfl hj rfl rfl rfl]
  rw [n_get (st' := [.ref 96]) (pc' := 118) (lv' := [(0, .ref 49), (1, .int x1), (2, .int x2), (3, .int x3), (4, .int x4), (6, .int x6)]) (hp' := rH e g q c l) (i := .getfield 159) (len := 3) rfl hj rfl rfl rfl rfl]
  rw [n_step (st' := [.ref 49, .ref 96]) (pc' := 119) (lv' := [(0, .ref 49), (1, .int x1), (2, .int x2), (3, .int x3), (4, .int x4), (6, .int x6)]) (hp' := rH e g q c l) (i := .aload_n 0) (len := 1) rfl hj rfl rfl rfl]
  rw [n_get (st' := [.int (g 102), .ref 96]) (pc' := 122) (lv' := [(0, .ref 49), (1, .int x1), (2, .int x2), (3, .int x3), (4, .int x4), (6, .int x6)]) (hp' := rH e g q c l) (i := .getfield 716) (len := 3) rfl hj rfl rfl rfl rfl]
  rw [n_step (st' := [.int x6, .int (g 102), .ref 96]) (pc' := 124) (lv' := [(0, .ref 49), (1, .int x1), (2, .int x2), (3, .int x3), (4, .int x4), (6, .int x6)]) (hp' := rH e g q c l) (i := .iload 6) (len := 2) rfl hj rfl rfl rfl]
  rw [n_ias (st' := []) (hp' := rH e g q (updA c 96 (upd (c 96) ((g 102)).toNatClampNeg x6)) l) rfl hj (ast_96 hz0)]
  rw [n_step (st' := [.ref 49]) (pc' := 126) (lv' := [(0, .ref 49), (1, .int x1), (2, .int x2), (3, .int x3), (4, .int x4), (6, .int x6)]) (hp' := rH e g q (updA c 96 (upd (c 96) ((g 102)).toNatClampNeg x6)) l) (i := .aload_n 0) (len := 1) rfl hj rfl rfl rfl]
  rw [n_step (st' := [.ref 49, .ref 49]) (pc' := 127) (lv' := [(0, .ref 49), (1, .int x1), (2, .int x2), (3, .int x3), (4, .int x4), (6, .int x6)]) (hp' := rH e g q (updA c 96 (upd (c 96) ((g 102)).toNatClampNeg x6)) l) (i := .aload_n 0) (len := 1) rfl hj rfl rfl rfl]
  rw [n_get (st' := [.int (g 102), .ref 49]) (pc' := 130) (lv' := [(0, .ref 49), (1, .int x1), (2, .int x2), (3, .int x3), (4, .int x4), (6, .int x6)]) (hp' := rH e g q (updA c 96 (upd (c 96) ((g 102)).toNatClampNeg x6)) l) (i := .getfield 716) (len := 3) rfl hj rfl rfl rfl rfl]
  rw [n_step (st' := [.int (Int32.ofInt (1)), .int (g 102), .ref 49]) (pc' := 131) (lv' := [(0, .ref 49), (1, .int x1), (2, .int x2), (3, .int x3), (4, .int x4), (6, .int x6)]) (hp' := rH e g q (updA c 96 (upd (c 96) ((g 102)).toNatClampNeg x6)) l) (i := .iconst 1) (len := 1) rfl hj rfl rfl rfl]
  rw [n_step (st' := [.int ((g 102) + (Int32.ofInt (1))), .ref 49]) (pc' := 132) (lv' := [(0, .ref 49), (1, .int x1), (2, .int x2), (3, .int x3), (4, .int x4), (6, .int x6)]) (hp' := rH e g q (updA c 96 (upd (c 96) ((g 102)).toNatClampNeg x6)) l) (i := .iadd) (len := 1) rfl hj rfl rfl rfl]
  rw [n_put (st' := []) (hp' := rH e (upd g 102 (((g 102) + (Int32.ofInt (1))))) q (updA c 96 (upd (c 96) ((g 102)).toNatClampNeg x6)) l) rfl hj pf_102]
  rw [n_step (st' := [.int x2]) (pc' := 136) (lv' := [(0, .ref 49), (1, .int x1), (2, .int x2), (3, .int x3), (4, .int x4), (6, .int x6)]) (hp' := rH e (upd g 102 (((g 102) + (Int32.ofInt (1))))) q (updA c 96 (upd (c 96) ((g 102)).toNatClampNeg x6)) l) (i := .iload_n 2) (len := 1) rfl hj rfl rfl rfl]
  rw [n_step (st' := [.int (Int32.ofInt (1)), .int x2]) (pc' := 137) (lv' := [(0, .ref 49), (1, .int x1), (2, .int x2), (3, .int x3), (4, .int x4), (6, .int x6)]) (hp' := rH e (upd g 102 (((g 102) + (Int32.ofInt (1))))) q (updA c 96 (upd (c 96) ((g 102)).toNatClampNeg x6)) l) (i := .iconst 1) (len := 1) rfl hj rfl rfl rfl]
  rw [n_step (st' := [.int (x2 + (Int32.ofInt (1)))]) (pc' := 138) (lv' := [(0, .ref 49), (1, .int x1), (2, .int x2), (3, .int x3), (4, .int x4), (6, .int x6)]) (hp' := rH e (upd g 102 (((g 102) + (Int32.ofInt (1))))) q (updA c 96 (upd (c 96) ((g 102)).toNatClampNeg x6)) l) (i := .iadd) (len := 1) rfl hj rfl rfl rfl]
  rw [n_step (st' := []) (pc' := 139) (lv' := [(2, .int (x2 + (Int32.ofInt (1)))), (0, .ref 49), (1, .int x1), (3, .int x3), (4, .int x4), (6, .int x6)]) (hp' := rH e (upd g 102 (((g 102) + (Int32.ofInt (1))))) q (updA c 96 (upd (c 96) ((g 102)).toNatClampNeg x6)) l) (i := .istore_n 2) (len := 1) rfl hj rfl rfl rfl]
  rw [n_step (st' := [.ref 49]) (pc' := 140) (lv' := [(2, .int (x2 + (Int32.ofInt (1)))), (0, .ref 49), (1, .int x1), (3, .int x3), (4, .int x4), (6, .int x6)]) (hp' := rH e (upd g 102 (((g 102) + (Int32.ofInt (1))))) q (updA c 96 (upd (c 96) ((g 102)).toNatClampNeg x6)) l) (i := .aload_n 0) (len := 1) rfl hj rfl rfl rfl]
  rw [n_step (st' := [.int (Int8.ofInt (44)).toInt32, .ref 49]) (pc' := 142) (lv' := [(2, .int (x2 + (Int32.ofInt (1)))), (0, .ref 49), (1, .int x1), (3, .int x3), (4, .int x4), (6, .int x6)]) (hp' := rH e (upd g 102 (((g 102) + (Int32.ofInt (1))))) q (updA c 96 (upd (c 96) ((g 102)).toNatClampNeg x6)) l) (i := .bipush 44) (len := 2) rfl hj rfl rfl rfl]
  obtain ⟨y2, cb2, hj2⟩ := mq_352
  rw [n_call (f := f) (d := d) (ki := 0) (idx := 421) (j' := 352) (kd := 0) (M' := (y2, cb2, 2, some .boolean, 12, 1, 0, 0)) (avs := [.ref 49, .int (Int8.ofInt (44)).toInt32]) (r := []) (rv := some (.int v)) (hp1 := rH e g' q' c' l') rfl hj rfl rfl rfl rfl (rq_n rfl rfl hj2 rfl rfl) rfl hc (Nat.le_of_ble_eq_true rfl)]
  exact nrun_ext f f _ _ R 408 145 [(0, .ref 49), (1, .int x1), (2, .int (x2 + (Int32.ofInt (1)))), (3, .int x3), (4, .int x4)] [(2, .int (x2 + (Int32.ofInt (1)))), (0, .ref 49), (1, .int x1), (3, .int x3), (4, .int x4), (6, .int x6)] [.int v] _ 0 0 122 (Nat.le_refl _) (Nat.le_refl _) (Nat.le_of_ble_eq_true rfl) (lvR_mk [0, 1, 2, 3, 4] [2, 0, 1, 3, 4, 6] rfl rfl (by decide) (by decide) (List.forall_mem_cons.mpr ⟨(List.mem_cons_of_mem _ List.mem_cons_self), (List.forall_mem_cons.mpr ⟨(List.mem_cons_of_mem _ (List.mem_cons_of_mem _ List.mem_cons_self)), (List.forall_mem_cons.mpr ⟨List.mem_cons_self, (List.forall_mem_cons.mpr ⟨(List.mem_cons_of_mem _ (List.mem_cons_of_mem _ (List.mem_cons_of_mem _ List.mem_cons_self))), (List.forall_mem_cons.mpr ⟨(List.mem_cons_of_mem _ (List.mem_cons_of_mem _ (List.mem_cons_of_mem _ (List.mem_cons_of_mem _ List.mem_cons_self)))), (fun _ h => nomatch h)⟩)⟩)⟩)⟩)⟩) (List.forall_mem_cons.mpr ⟨Or.inl (List.mem_cons_of_mem _ (List.mem_cons_of_mem _ List.mem_cons_self)), (List.forall_mem_cons.mpr ⟨Or.inl List.mem_cons_self, (List.forall_mem_cons.mpr ⟨Or.inl (List.mem_cons_of_mem _ List.mem_cons_self), (List.forall_mem_cons.mpr ⟨Or.inl (List.mem_cons_of_mem _ (List.mem_cons_of_mem _ (List.mem_cons_of_mem _ List.mem_cons_self))), (List.forall_mem_cons.mpr ⟨Or.inl (List.mem_cons_of_mem _ (List.mem_cons_of_mem _ (List.mem_cons_of_mem _ (List.mem_cons_of_mem _ List.mem_cons_self)))), (List.forall_mem_cons.mpr ⟨Or.inr rfl, (fun _ h => nomatch h)⟩)⟩)⟩)⟩)⟩)⟩)) h
set_option maxRecDepth 100000 in
set_option maxHeartbeats 4000000 in
theorem bk_408_145 {b : Bool} {d : Nat} {t0 x1 x2 x3 x4 : Int32} {e : Nat → x_E} {g : Nat → Int32} {q : Nat → Int64} {c : Nat → Nat → Int32} {l : Nat → Nat → Int64} {R : Option Value × List x_E} (h : rr b e d 408 32 [(0, .ref 49), (1, .int x1), (2, .int x2), (3, .int x3), (4, .int x4), (5, .int t0)] [] g q c l R) : rr b e d 408 145 [(0, .ref 49), (1, .int x1), (2, .int x2), (3, .int x3), (4, .int x4)] [.int t0] g q c l R := by
  obtain ⟨f, h⟩ := h
  refine ⟨f + 2, ?_⟩
  obtain ⟨y, cb, hj⟩ := mq_408
  rw [n_step (st' := []) (pc' := 147) (lv' := [(5, .int t0), (0, .ref 49), (1, .int x1), (2, .int x2), (3, .int x3), (4, .int x4)]) (hp' := rH e g q c l) (i := .istore 5) (len := 2) rfl hj rfl rfl rfl]
  rw [n_step (st' := []) (pc' := 32) (lv' := [(5, .int t0), (0, .ref 49), (1, .int x1), (2, .int x2), (3, .int x3), (4, .int x4)]) (hp' := rH e g q c l) (i := .goto (-115)) (len := 3) rfl hj rfl rfl rfl]
  exact nrun_ext f f _ _ R 408 32 [(0, .ref 49), (1, .int x1), (2, .int x2), (3, .int x3), (4, .int x4), (5, .int t0)] [(5, .int t0), (0, .ref 49), (1, .int x1), (2, .int x2), (3, .int x3), (4, .int x4)] [] _ 0 0 122 (Nat.le_refl _) (Nat.le_refl _) (Nat.le_of_ble_eq_true rfl) (lvR_mk [0, 1, 2, 3, 4, 5] [5, 0, 1, 2, 3, 4] rfl rfl (by decide) (by decide) (List.forall_mem_cons.mpr ⟨(List.mem_cons_of_mem _ List.mem_cons_self), (List.forall_mem_cons.mpr ⟨(List.mem_cons_of_mem _ (List.mem_cons_of_mem _ List.mem_cons_self)), (List.forall_mem_cons.mpr ⟨(List.mem_cons_of_mem _ (List.mem_cons_of_mem _ (List.mem_cons_of_mem _ List.mem_cons_self))), (List.forall_mem_cons.mpr ⟨(List.mem_cons_of_mem _ (List.mem_cons_of_mem _ (List.mem_cons_of_mem _ (List.mem_cons_of_mem _ List.mem_cons_self)))), (List.forall_mem_cons.mpr ⟨(List.mem_cons_of_mem _ (List.mem_cons_of_mem _ (List.mem_cons_of_mem _ (List.mem_cons_of_mem _ (List.mem_cons_of_mem _ List.mem_cons_self))))), (List.forall_mem_cons.mpr ⟨List.mem_cons_self, (fun _ h => nomatch h)⟩)⟩)⟩)⟩)⟩)⟩) (List.forall_mem_cons.mpr ⟨Or.inl (List.mem_cons_of_mem _ (List.mem_cons_of_mem _ (List.mem_cons_of_mem _ (List.mem_cons_of_mem _ (List.mem_cons_of_mem _ List.mem_cons_self))))), (List.forall_mem_cons.mpr ⟨Or.inl List.mem_cons_self, (List.forall_mem_cons.mpr ⟨Or.inl (List.mem_cons_of_mem _ List.mem_cons_self), (List.forall_mem_cons.mpr ⟨Or.inl (List.mem_cons_of_mem _ (List.mem_cons_of_mem _ List.mem_cons_self)), (List.forall_mem_cons.mpr ⟨Or.inl (List.mem_cons_of_mem _ (List.mem_cons_of_mem _ (List.mem_cons_of_mem _ List.mem_cons_self))), (List.forall_mem_cons.mpr ⟨Or.inl (List.mem_cons_of_mem _ (List.mem_cons_of_mem _ (List.mem_cons_of_mem _ (List.mem_cons_of_mem _ List.mem_cons_self)))), (fun _ h => nomatch h)⟩)⟩)⟩)⟩)⟩)⟩)) h
set_option maxRecDepth 100000 in
set_option maxHeartbeats 4000000 in
theorem bk_408_150 {b : Bool} {d : Nat} {x1 x2 x3 x4 : Int32} {e : Nat → x_E} {g : Nat → Int32} {q : Nat → Int64} {c : Nat → Nat → Int32} {l : Nat → Nat → Int64} {g' : Nat → Int32} {q' : Nat → Int64} {c' : Nat → Nat → Int32} {l' : Nat → Nat → Int64} {R : Option Value × List x_E} (hc : rr b e d 353 0 [(0, .ref 49), (1, .int (Int8.ofInt (62)).toInt32)] [] g q c l (none, rH e g' q' c' l')) (h : rr b e (d + 1) 408 156 [(0, .ref 49), (1, .int x1), (2, .int x2), (3, .int x3), (4, .int x4)] [] g' q' c' l' R) : rr b e (d + 1) 408 150 [(0, .ref 49), (1, .int x1), (2, .int x2), (3, .int x3), (4, .int x4)] [] g q c l R := by
  obtain ⟨f1, hc⟩ := hc
  obtain ⟨f2, h⟩ := h
  obtain ⟨f, hf1, hf2⟩ : ∃ f, f1 ≤ f ∧ f2 ≤ f := ⟨max f1 f2, Nat.le_max_left _ _, Nat.le_max_right _ _⟩
  have hc := nrun_fuel f1 f _ _ _ _ _ _ _ _ _ hf1 hc
  have h := nrun_fuel f2 f _ _ _ _ _ _ _ _ _ hf2 h
  refine ⟨f + 3, ?_⟩
  obtain ⟨y, cb, hj⟩ := mq_408
  rw [n_step (st' := [.ref 49]) (pc' := 151) (lv' := [(0, .ref 49), (1, .int x1), (2, .int x2), (3, .int x3), (4, .int x4)]) (hp' := rH e g q c l) (i := .aload_n 0) (len := 1) rfl hj rfl rfl rfl]
  rw [n_step (st' := [.int (Int8.ofInt (62)).toInt32, .ref 49]) (pc' := 153) (lv' := [(0, .ref 49), (1, .int x1), (2, .int x2), (3, .int x3), (4, .int x4)]) (hp' := rH e g q c l) (i := .bipush 62) (len := 2) rfl hj rfl rfl rfl]
  obtain ⟨y2, cb2, hj2⟩ := mq_353
  rw [n_call (f := f) (d := d) (ki := 0) (idx := 424) (j' := 353) (kd := 0) (M' := (y2, cb2, 2, none, 12, 1, 0, 0)) (avs := [.ref 49, .int (Int8.ofInt (62)).toInt32]) (r := []) (rv := none) (hp1 := rH e g' q' c' l') rfl hj rfl rfl rfl rfl (rq_n rfl rfl hj2 rfl rfl) rfl hc (Nat.le_of_ble_eq_true rfl)]
  exact h
set_option maxRecDepth 100000 in
set_option maxHeartbeats 4000000 in
theorem bk_408_156 {b : Bool} {d : Nat} {x1 x2 x3 x4 : Int32} {e : Nat → x_E} {g : Nat → Int32} {q : Nat → Int64} {c : Nat → Nat → Int32} {l : Nat → Nat → Int64} {R : Option Value × List x_E} (h1 : xCn .ne x4 0 = true → rr b e d 408 168 [(0, .ref 49), (1, .int x1), (2, .int x2), (3, .int x3)] [] (upd g 102 x1) q c l R) (h2 : ¬ xCn .ne x4 0 = true → rr b e d 408 166 [] [] (upd g 102 x1) q c l R) : rr b e d 408 156 [(0, .ref 49), (1, .int x1), (2, .int x2), (3, .int x3), (4, .int x4)] [] g q c l R := by
  have key : ∀ f, nrun xZ (xY (xfm b)) xDT (f + 5) d 408 156 [(0, .ref 49), (1, .int x1), (2, .int x2), (3, .int x3), (4, .int x4)] [] (rH e g q c l) 0 0 = nrun xZ (xY (xfm b)) xDT f d 408 (if xCn .ne x4 0 = true then 168 else 166) [(0, .ref 49), (1, .int x1), (2, .int x2), (3, .int x3), (4, .int x4)] [] (rH e (upd g 102 x1) q c l) 0 0 := by
    intro f
    obtain ⟨y, cb, hj⟩ := mq_408
    rw [n_step (st' := [.ref 49]) (pc' := 157) (lv' := [(0, .ref 49), (1, .int x1), (2, .int x2), (3, .int x3), (4, .int x4)]) (hp' := rH e g q c l) (i := .aload_n 0) (len := 1) rfl hj rfl rfl rfl]
    rw [n_step (st' := [.int x1, .ref 49]) (pc' := 158) (lv' := [(0, .ref 49), (1, .int x1), (2, .int x2), (3, .int x3), (4, .int x4)]) (hp' := rH e g q c l) (i := .iload_n 1) (len := 1) rfl hj rfl rfl rfl]
    rw [n_put (st' := []) (hp' := rH e (upd g 102 x1) q c l) rfl hj pf_102]
    rw [n_step (st' := [.int x4]) (pc' := 163) (lv' := [(0, .ref 49), (1, .int x1), (2, .int x2), (3, .int x3), (4, .int x4)]) (hp' := rH e (upd g 102 x1) q c l) (i := .iload 4) (len := 2) rfl hj rfl rfl rfl]
    rw [n_step (st' := []) (pc' := (if xCn .ne x4 0 = true then 168 else 166)) (lv' := [(0, .ref 49), (1, .int x1), (2, .int x2), (3, .int x3), (4, .int x4)]) (hp' := rH e (upd g 102 x1) q c l) (i := .ifCond .ne 5) (len := 3) rfl hj rfl rfl rfl]
  by_cases hc : xCn .ne x4 0 = true
  · obtain ⟨f, h⟩ := h1 hc
    refine ⟨f + 5, ?_⟩
    rw [key, if_pos hc]
    exact nrun_ext f f _ _ R 408 168 [(0, .ref 49), (1, .int x1), (2, .int x2), (3, .int x3)] [(0, .ref 49), (1, .int x1), (2, .int x2), (3, .int x3), (4, .int x4)] [] _ 0 0 122 (Nat.le_refl _) (Nat.le_refl _) (Nat.le_of_ble_eq_true rfl) (lvR_mk [0, 1, 2, 3] [0, 1, 2, 3, 4] rfl rfl (by decide) (by decide) (List.forall_mem_cons.mpr ⟨List.mem_cons_self, (List.forall_mem_cons.mpr ⟨(List.mem_cons_of_mem _ List.mem_cons_self), (List.forall_mem_cons.mpr ⟨(List.mem_cons_of_mem _ (List.mem_cons_of_mem _ List.mem_cons_self)), (List.forall_mem_cons.mpr ⟨(List.mem_cons_of_mem _ (List.mem_cons_of_mem _ (List.mem_cons_of_mem _ List.mem_cons_self))), (fun _ h => nomatch h)⟩)⟩)⟩)⟩) (List.forall_mem_cons.mpr ⟨Or.inl List.mem_cons_self, (List.forall_mem_cons.mpr ⟨Or.inl (List.mem_cons_of_mem _ List.mem_cons_self), (List.forall_mem_cons.mpr ⟨Or.inl (List.mem_cons_of_mem _ (List.mem_cons_of_mem _ List.mem_cons_self)), (List.forall_mem_cons.mpr ⟨Or.inl (List.mem_cons_of_mem _ (List.mem_cons_of_mem _ (List.mem_cons_of_mem _ List.mem_cons_self))), (List.forall_mem_cons.mpr ⟨Or.inr rfl, (fun _ h => nomatch h)⟩)⟩)⟩)⟩)⟩)) h
  · obtain ⟨f, h⟩ := h2 hc
    refine ⟨f + 5, ?_⟩
    rw [key, if_neg hc]
    exact nrun_ext f f _ _ R 408 166 [] [(0, .ref 49), (1, .int x1), (2, .int x2), (3, .int x3), (4, .int x4)] [] _ 0 0 122 (Nat.le_refl _) (Nat.le_refl _) (Nat.le_of_ble_eq_true rfl) (lvR_mk [] [0, 1, 2, 3, 4] rfl rfl (by decide) (by decide) (fun _ h => nomatch h) (List.forall_mem_cons.mpr ⟨Or.inr rfl, (List.forall_mem_cons.mpr ⟨Or.inr rfl, (List.forall_mem_cons.mpr ⟨Or.inr rfl, (List.forall_mem_cons.mpr ⟨Or.inr rfl, (List.forall_mem_cons.mpr ⟨Or.inr rfl, (fun _ h => nomatch h)⟩)⟩)⟩)⟩)⟩)) h
set_option maxRecDepth 100000 in
set_option maxHeartbeats 4000000 in
theorem bk_408_166 {b : Bool} {d : Nat} {e : Nat → x_E} {g : Nat → Int32} {q : Nat → Int64} {c : Nat → Nat → Int32} {l : Nat → Nat → Int64} : rr b e d 408 166 [] [] g q c l (some (.int (Int32.ofInt (-1))), rH e g q c l) := by
  refine ⟨0 + 2, ?_⟩
  obtain ⟨y, cb, hj⟩ := mq_408
  rw [n_step (st' := [.int (Int32.ofInt (-1))]) (pc' := 167) (lv' := []) (hp' := rH e g q c l) (i := .iconst (-1)) (len := 1) rfl hj rfl rfl rfl]
  exact n_ret rfl hj rfl rfl (x_ret rfl)
set_option maxRecDepth 100000 in
set_option maxHeartbeats 4000000 in
theorem bk_408_168 {b : Bool} {d : Nat} {x1 x2 x3 : Int32} {e : Nat → x_E} {g : Nat → Int32} {q : Nat → Int64} {c : Nat → Nat → Int32} {l : Nat → Nat → Int64} {g' : Nat → Int32} {q' : Nat → Int64} {c' : Nat → Nat → Int32} {l' : Nat → Nat → Int64} {v : Int32} {R : Option Value × List x_E} (hc : rr b e d 399 0 [(0, .ref 49), (1, .int (Int32.ofInt (2))), (2, .int (Int32.ofInt (0))), (3, .int (Int32.ofInt (0))), (4, .int x3)] [] g q c l (some (.int v), rH e g' q' c' l')) (h : rr b e (d + 1) 408 176 [(0, .ref 49), (1, .int x1), (2, .int x2)] [.int v] g' q' c' l' R) : rr b e (d + 1) 408 168 [(0, .ref 49), (1, .int x1), (2, .int x2), (3, .int x3)] [] g q c l R := by
  obtain ⟨f1, hc⟩ := hc
  obtain ⟨f2, h⟩ := h
  obtain ⟨f, hf1, hf2⟩ : ∃ f, f1 ≤ f ∧ f2 ≤ f := ⟨max f1 f2, Nat.le_max_left _ _, Nat.le_max_right _ _⟩
  have hc := nrun_fuel f1 f _ _ _ _ _ _ _ _ _ hf1 hc
  have h := nrun_fuel f2 f _ _ _ _ _ _ _ _ _ hf2 h
  refine ⟨f + 6, ?_⟩
  obtain ⟨y, cb, hj⟩ := mq_408
  rw [n_step (st' := [.ref 49]) (pc' := 169) (lv' := [(0, .ref 49), (1, .int x1), (2, .int x2), (3, .int x3)]) (hp' := rH e g q c l) (i := .aload_n 0) (len := 1) rfl hj rfl rfl rfl]
  rw [n_step (st' := [.int (Int32.ofInt (2)), .ref 49]) (pc' := 170) (lv' := [(0, .ref 49), (1, .int x1), (2, .int x2), (3, .int x3)]) (hp' := rH e g q c l) (i := .iconst 2) (len := 1) rfl hj rfl rfl rfl]
  rw [n_step (st' := [.int (Int32.ofInt (0)), .int (Int32.ofInt (2)), .ref 49]) (pc' := 171) (lv' := [(0, .ref 49), (1, .int x1), (2, .int x2), (3, .int x3)]) (hp' := rH e g q c l) (i := .iconst 0) (len := 1) rfl hj rfl rfl rfl]
  rw [n_step (st' := [.int (Int32.ofInt (0)), .int (Int32.ofInt (0)), .int (Int32.ofInt (2)), .ref 49]) (pc' := 172) (lv' := [(0, .ref 49), (1, .int x1), (2, .int x2), (3, .int x3)]) (hp' := rH e g q c l) (i := .iconst 0) (len := 1) rfl hj rfl rfl rfl]
  rw [n_step (st' := [.int x3, .int (Int32.ofInt (0)), .int (Int32.ofInt (0)), .int (Int32.ofInt (2)), .ref 49]) (pc' := 173) (lv' := [(0, .ref 49), (1, .int x1), (2, .int x2), (3, .int x3)]) (hp' := rH e g q c l) (i := .iload_n 3) (len := 1) rfl hj rfl rfl rfl]
  obtain ⟨y2, cb2, hj2⟩ := mq_399
  rw [n_call (f := f) (d := d) (ki := 0) (idx := 712) (j' := 399) (kd := 0) (M' := (y2, cb2, 5, some .int, 12, 4, 0, 0)) (avs := [.ref 49, .int (Int32.ofInt (2)), .int (Int32.ofInt (0)), .int (Int32.ofInt (0)), .int x3]) (r := []) (rv := some (.int v)) (hp1 := rH e g' q' c' l') rfl hj rfl rfl rfl rfl (rq_n rfl rfl hj2 rfl rfl) rfl hc (Nat.le_of_ble_eq_true rfl)]
  exact nrun_ext f f _ _ R 408 176 [(0, .ref 49), (1, .int x1), (2, .int x2)] [(0, .ref 49), (1, .int x1), (2, .int x2), (3, .int x3)] [.int v] _ 0 0 122 (Nat.le_refl _) (Nat.le_refl _) (Nat.le_of_ble_eq_true rfl) (lvR_mk [0, 1, 2] [0, 1, 2, 3] rfl rfl (by decide) (by decide) (List.forall_mem_cons.mpr ⟨List.mem_cons_self, (List.forall_mem_cons.mpr ⟨(List.mem_cons_of_mem _ List.mem_cons_self), (List.forall_mem_cons.mpr ⟨(List.mem_cons_of_mem _ (List.mem_cons_of_mem _ List.mem_cons_self)), (fun _ h => nomatch h)⟩)⟩)⟩) (List.forall_mem_cons.mpr ⟨Or.inl List.mem_cons_self, (List.forall_mem_cons.mpr ⟨Or.inl (List.mem_cons_of_mem _ List.mem_cons_self), (List.forall_mem_cons.mpr ⟨Or.inl (List.mem_cons_of_mem _ (List.mem_cons_of_mem _ List.mem_cons_self)), (List.forall_mem_cons.mpr ⟨Or.inr rfl, (fun _ h => nomatch h)⟩)⟩)⟩)⟩)) h
set_option maxRecDepth 100000 in
set_option maxHeartbeats 4000000 in
theorem bk_408_176 {b : Bool} {d : Nat} {t0 x1 x2 : Int32} {e : Nat → x_E} {g : Nat → Int32} {q : Nat → Int64} {c : Nat → Nat → Int32} {l : Nat → Nat → Int64} {g' : Nat → Int32} {q' : Nat → Int64} {c' : Nat → Nat → Int32} {l' : Nat → Nat → Int64} {R : Option Value × List x_E} (hc : rr b e d 410 0 [(0, .ref 49), (1, .int t0), (2, .ref 96), (3, .int x1), (4, .int x2)] [] g q c l (none, rH e g' q' c' l')) (h : rr b e (d + 1) 408 190 [(6, .int t0)] [] g' q' c' l' R) : rr b e (d + 1) 408 176 [(0, .ref 49), (1, .int x1), (2, .int x2)] [.int t0] g q c l R := by
  obtain ⟨f1, hc⟩ := hc
  obtain ⟨f2, h⟩ := h
  obtain ⟨f, hf1, hf2⟩ : ∃ f, f1 ≤ f ∧ f2 ≤ f := ⟨max f1 f2, Nat.le_max_left _ _, Nat.le_max_right _ _⟩
  have hc := nrun_fuel f1 f _ _ _ _ _ _ _ _ _ hf1 hc
  have h := nrun_fuel f2 f _ _ _ _ _ _ _ _ _ hf2 h
  refine ⟨f + 8, ?_⟩
  obtain ⟨y, cb, hj⟩ := mq_408
  rw [n_step (st' := []) (pc' := 178) (lv' := [(6, .int t0), (0, .ref 49), (1, .int x1), (2, .int x2)]) (hp' := rH e g q c l) (i := .istore 6) (len := 2) rfl hj rfl rfl rfl]
  rw [n_step (st' := [.ref 49]) (pc' := 179) (lv' := [(6, .int t0), (0, .ref 49), (1, .int x1), (2, .int x2)]) (hp' := rH e g q c l) (i := .aload_n 0) (len := 1) rfl hj rfl rfl rfl]
  rw [n_step (st' := [.int t0, .ref 49]) (pc' := 181) (lv' := [(6, .int t0), (0, .ref 49), (1, .int x1), (2, .int x2)]) (hp' := rH e g q c l) (i := .iload 6) (len := 2) rfl hj rfl rfl rfl]
  rw [n_step (st' := [.ref 49, .int t0, .ref 49]) (pc' := 182) (lv' := [(6, .int t0), (0, .ref 49), (1, .int x1), (2, .int x2)]) (hp' := rH e g q c l) (i := .aload_n 0) (len := 1) rfl hj rfl rfl rfl]
  rw [n_get (st' := [.ref 96, .int t0, .ref 49]) (pc' := 185) (lv' := [(6, .int t0), (0, .ref 49), (1, .int x1), (2, .int x2)]) (hp' := rH e g q c l) (i := .getfield 159) (len := 3) rfl hj rfl rfl rfl rfl]
  rw [n_step (st' := [.int x1, .ref 96, .int t0, .ref 49]) (pc' := 186) (lv' := [(6, .int t0), (0, .ref 49), (1, .int x1), (2, .int x2)]) (hp' := rH e g q c l) (i := .iload_n 1) (len := 1) rfl hj rfl rfl rfl]
  rw [n_step (st' := [.int x2, .int x1, .ref 96, .int t0, .ref 49]) (pc' := 187) (lv' := [(6, .int t0), (0, .ref 49), (1, .int x1), (2, .int x2)]) (hp' := rH e g q c l) (i := .iload_n 2) (len := 1) rfl hj rfl rfl rfl]
  obtain ⟨y2, cb2, hj2⟩ := mq_410
  rw [n_call (f := f) (d := d) (ki := 0) (idx := 719) (j' := 410) (kd := 0) (M' := (y2, cb2, 6, none, 12, 4, 0, 0)) (avs := [.ref 49, .int t0, .ref 96, .int x1, .int x2]) (r := []) (rv := none) (hp1 := rH e g' q' c' l') rfl hj rfl rfl rfl rfl (rq_n rfl rfl hj2 rfl rfl) rfl hc (Nat.le_of_ble_eq_true rfl)]
  exact nrun_ext f f _ _ R 408 190 [(6, .int t0)] [(6, .int t0), (0, .ref 49), (1, .int x1), (2, .int x2)] [] _ 0 0 122 (Nat.le_refl _) (Nat.le_refl _) (Nat.le_of_ble_eq_true rfl) (lvR_mk [6] [6, 0, 1, 2] rfl rfl (by decide) (by decide) (List.forall_mem_cons.mpr ⟨List.mem_cons_self, (fun _ h => nomatch h)⟩) (List.forall_mem_cons.mpr ⟨Or.inl List.mem_cons_self, (List.forall_mem_cons.mpr ⟨Or.inr rfl, (List.forall_mem_cons.mpr ⟨Or.inr rfl, (List.forall_mem_cons.mpr ⟨Or.inr rfl, (fun _ h => nomatch h)⟩)⟩)⟩)⟩)) h
set_option maxRecDepth 100000 in
set_option maxHeartbeats 4000000 in
theorem bk_408_190 {b : Bool} {d : Nat} {x6 : Int32} {e : Nat → x_E} {g : Nat → Int32} {q : Nat → Int64} {c : Nat → Nat → Int32} {l : Nat → Nat → Int64} : rr b e d 408 190 [(6, .int x6)] [] g q c l (some (.int x6), rH e g q c l) := by
  refine ⟨0 + 2, ?_⟩
  obtain ⟨y, cb, hj⟩ := mq_408
  rw [n_step (st' := [.int x6]) (pc' := 192) (lv' := [(6, .int x6)]) (hp' := rH e g q c l) (i := .iload 6) (len := 2) rfl hj rfl rfl rfl]
  exact n_ret rfl hj rfl rfl (x_ret rfl)
set_option maxRecDepth 100000 in
set_option maxHeartbeats 4000000 in
theorem bk_409_0 {b : Bool} {d : Nat} {e : Nat → x_E} {g : Nat → Int32} {q : Nat → Int64} {c : Nat → Nat → Int32} {l : Nat → Nat → Int64} {R : Option Value × List x_E} (h1 : xCn .eq ((g 10)) ((Int32.ofInt (1))) = true → rr b e d 409 41 [] [] g q c l R) (h2 : ¬ xCn .eq ((g 10)) ((Int32.ofInt (1))) = true → rr b e d 409 8 [(0, .ref 49)] [] g q c l R) : rr b e d 409 0 [(0, .ref 49)] [] g q c l R := by
  have key : ∀ f, nrun xZ (xY (xfm b)) xDT (f + 4) d 409 0 [(0, .ref 49)] [] (rH e g q c l) 0 0 = nrun xZ (xY (xfm b)) xDT f d 409 (if xCn .eq ((g 10)) ((Int32.ofInt (1))) = true then 41 else 8) [(0, .ref 49)] [] (rH e g q c l) 0 0 := by
    intro f
    obtain ⟨y, cb, hj⟩ := mq_409
    rw [n_step (st' := [.ref 49]) (pc' := 1) (lv' := [(0, .ref 49)]) (hp' := rH e g q c l) (i := .aload_n 0) (len := 1) rfl hj rfl rfl rfl]
    rw [n_get (st' := [.int (g 10)]) (pc' := 4) (lv' := [(0, .ref 49)]) (hp' := rH e g q c l) (i := .getfield 273) (len := 3) rfl hj rfl rfl rfl rfl]
    rw [n_step (st' := [.int (Int32.ofInt (1)), .int (g 10)]) (pc' := 5) (lv' := [(0, .ref 49)]) (hp' := rH e g q c l) (i := .iconst 1) (len := 1) rfl hj rfl rfl rfl]
    rw [n_step (st' := []) (pc' := (if xCn .eq ((g 10)) ((Int32.ofInt (1))) = true then 41 else 8)) (lv' := [(0, .ref 49)]) (hp' := rH e g q c l) (i := .if_icmp .eq 36) (len := 3) rfl hj rfl rfl rfl]
  by_cases hc : xCn .eq ((g 10)) ((Int32.ofInt (1))) = true
  · obtain ⟨f, h⟩ := h1 hc
    refine ⟨f + 4, ?_⟩
    rw [key, if_pos hc]
    exact nrun_ext f f _ _ R 409 41 [] [(0, .ref 49)] [] _ 0 0 122 (Nat.le_refl _) (Nat.le_refl _) (Nat.le_of_ble_eq_true rfl) (lvR_mk [] [0] rfl rfl (by decide) (by decide) (fun _ h => nomatch h) (List.forall_mem_cons.mpr ⟨Or.inr rfl, (fun _ h => nomatch h)⟩)) h
  · obtain ⟨f, h⟩ := h2 hc
    refine ⟨f + 4, ?_⟩
    rw [key, if_neg hc]
    exact h
set_option maxRecDepth 100000 in
set_option maxHeartbeats 4000000 in
theorem bk_409_8 {b : Bool} {d : Nat} {e : Nat → x_E} {g : Nat → Int32} {q : Nat → Int64} {c : Nat → Nat → Int32} {l : Nat → Nat → Int64} {g' : Nat → Int32} {q' : Nat → Int64} {c' : Nat → Nat → Int32} {l' : Nat → Nat → Int64} {v : Int32} {R : Option Value × List x_E} (hc : rr b e d 344 0 [(0, .ref 49), (1, .int (Int8.ofInt (60)).toInt32)] [] g q c l (some (.int v), rH e g' q' c' l')) (h : rr b e (d + 1) 409 14 [(0, .ref 49)] [.int v] g' q' c' l' R) : rr b e (d + 1) 409 8 [(0, .ref 49)] [] g q c l R := by
  obtain ⟨f1, hc⟩ := hc
  obtain ⟨f2, h⟩ := h
  obtain ⟨f, hf1, hf2⟩ : ∃ f, f1 ≤ f ∧ f2 ≤ f := ⟨max f1 f2, Nat.le_max_left _ _, Nat.le_max_right _ _⟩
  have hc := nrun_fuel f1 f _ _ _ _ _ _ _ _ _ hf1 hc
  have h := nrun_fuel f2 f _ _ _ _ _ _ _ _ _ hf2 h
  refine ⟨f + 3, ?_⟩
  obtain ⟨y, cb, hj⟩ := mq_409
  rw [n_step (st' := [.ref 49]) (pc' := 9) (lv' := [(0, .ref 49)]) (hp' := rH e g q c l) (i := .aload_n 0) (len := 1) rfl hj rfl rfl rfl]
  rw [n_step (st' := [.int (Int8.ofInt (60)).toInt32, .ref 49]) (pc' := 11) (lv' := [(0, .ref 49)]) (hp' := rH e g q c l) (i := .bipush 60) (len := 2) rfl hj rfl rfl rfl]
  obtain ⟨y2, cb2, hj2⟩ := mq_344
  rw [n_call (f := f) (d := d) (ki := 0) (idx := 341) (j' := 344) (kd := 0) (M' := (y2, cb2, 2, some .boolean, 12, 1, 0, 0)) (avs := [.ref 49, .int (Int8.ofInt (60)).toInt32]) (r := []) (rv := some (.int v)) (hp1 := rH e g' q' c' l') rfl hj rfl rfl rfl rfl (rq_n rfl rfl hj2 rfl rfl) rfl hc (Nat.le_of_ble_eq_true rfl)]
  exact h
set_option maxRecDepth 100000 in
set_option maxHeartbeats 4000000 in
theorem bk_409_14 {b : Bool} {d : Nat} {t0 : Int32} {e : Nat → x_E} {g : Nat → Int32} {q : Nat → Int64} {c : Nat → Nat → Int32} {l : Nat → Nat → Int64} {R : Option Value × List x_E} (h1 : xCn .ne t0 0 = true → rr b e d 409 41 [] [] g q c l R) (h2 : ¬ xCn .ne t0 0 = true → rr b e d 409 17 [(0, .ref 49)] [] g q c l R) : rr b e d 409 14 [(0, .ref 49)] [.int t0] g q c l R := by
  have key : ∀ f, nrun xZ (xY (xfm b)) xDT (f + 1) d 409 14 [(0, .ref 49)] [.int t0] (rH e g q c l) 0 0 = nrun xZ (xY (xfm b)) xDT f d 409 (if xCn .ne t0 0 = true then 41 else 17) [(0, .ref 49)] [] (rH e g q c l) 0 0 := by
    intro f
    obtain ⟨y, cb, hj⟩ := mq_409
    rw [n_step (st' := []) (pc' := (if xCn .ne t0 0 = true then 41 else 17)) (lv' := [(0, .ref 49)]) (hp' := rH e g q c l) (i := .ifCond .ne 27) (len := 3) rfl hj rfl rfl rfl]
  by_cases hc : xCn .ne t0 0 = true
  · obtain ⟨f, h⟩ := h1 hc
    refine ⟨f + 1, ?_⟩
    rw [key, if_pos hc]
    exact nrun_ext f f _ _ R 409 41 [] [(0, .ref 49)] [] _ 0 0 122 (Nat.le_refl _) (Nat.le_refl _) (Nat.le_of_ble_eq_true rfl) (lvR_mk [] [0] rfl rfl (by decide) (by decide) (fun _ h => nomatch h) (List.forall_mem_cons.mpr ⟨Or.inr rfl, (fun _ h => nomatch h)⟩)) h
  · obtain ⟨f, h⟩ := h2 hc
    refine ⟨f + 1, ?_⟩
    rw [key, if_neg hc]
    exact h
set_option maxRecDepth 100000 in
set_option maxHeartbeats 4000000 in
theorem bk_409_17 {b : Bool} {d : Nat} {e : Nat → x_E} {g : Nat → Int32} {q : Nat → Int64} {c : Nat → Nat → Int32} {l : Nat → Nat → Int64} {g' : Nat → Int32} {q' : Nat → Int64} {c' : Nat → Nat → Int32} {l' : Nat → Nat → Int64} {v : Int32} {R : Option Value × List x_E} (hc : rr b e d 338 0 [(0, .ref 49), (1, .int (Int32.ofInt (0)))] [] g q c l (some (.int v), rH e g' q' c' l')) (h : rr b e (d + 1) 409 22 [(0, .ref 49)] [.int v] g' q' c' l' R) : rr b e (d + 1) 409 17 [(0, .ref 49)] [] g q c l R := by
  obtain ⟨f1, hc⟩ := hc
  obtain ⟨f2, h⟩ := h
  obtain ⟨f, hf1, hf2⟩ : ∃ f, f1 ≤ f ∧ f2 ≤ f := ⟨max f1 f2, Nat.le_max_left _ _, Nat.le_max_right _ _⟩
  have hc := nrun_fuel f1 f _ _ _ _ _ _ _ _ _ hf1 hc
  have h := nrun_fuel f2 f _ _ _ _ _ _ _ _ _ hf2 h
  refine ⟨f + 3, ?_⟩
  obtain ⟨y, cb, hj⟩ := mq_409
  rw [n_step (st' := [.ref 49]) (pc' := 18) (lv' := [(0, .ref 49)]) (hp' := rH e g q c l) (i := .aload_n 0) (len := 1) rfl hj rfl rfl rfl]
  rw [n_step (st' := [.int (Int32.ofInt (0)), .ref 49]) (pc' := 19) (lv' := [(0, .ref 49)]) (hp' := rH e g q c l) (i := .iconst 0) (len := 1) rfl hj rfl rfl rfl]
  obtain ⟨y2, cb2, hj2⟩ := mq_338
  rw [n_call (f := f) (d := d) (ki := 0) (idx := 350) (j' := 338) (kd := 0) (M' := (y2, cb2, 2, some .boolean, 12, 1, 0, 0)) (avs := [.ref 49, .int (Int32.ofInt (0))]) (r := []) (rv := some (.int v)) (hp1 := rH e g' q' c' l') rfl hj rfl rfl rfl rfl (rq_n rfl rfl hj2 rfl rfl) rfl hc (Nat.le_of_ble_eq_true rfl)]
  exact h
set_option maxRecDepth 100000 in
set_option maxHeartbeats 4000000 in
theorem bk_409_22 {b : Bool} {d : Nat} {t0 : Int32} {e : Nat → x_E} {g : Nat → Int32} {q : Nat → Int64} {c : Nat → Nat → Int32} {l : Nat → Nat → Int64} {R : Option Value × List x_E} (h1 : xCn .ne t0 0 = true → rr b e d 409 41 [] [] g q c l R) (h2 : ¬ xCn .ne t0 0 = true → rr b e d 409 25 [(0, .ref 49)] [] g q c l R) : rr b e d 409 22 [(0, .ref 49)] [.int t0] g q c l R := by
  have key : ∀ f, nrun xZ (xY (xfm b)) xDT (f + 1) d 409 22 [(0, .ref 49)] [.int t0] (rH e g q c l) 0 0 = nrun xZ (xY (xfm b)) xDT f d 409 (if xCn .ne t0 0 = true then 41 else 25) [(0, .ref 49)] [] (rH e g q c l) 0 0 := by
    intro f
    obtain ⟨y, cb, hj⟩ := mq_409
    rw [n_step (st' := []) (pc' := (if xCn .ne t0 0 = true then 41 else 25)) (lv' := [(0, .ref 49)]) (hp' := rH e g q c l) (i := .ifCond .ne 19) (len := 3) rfl hj rfl rfl rfl]
  by_cases hc : xCn .ne t0 0 = true
  · obtain ⟨f, h⟩ := h1 hc
    refine ⟨f + 1, ?_⟩
    rw [key, if_pos hc]
    exact nrun_ext f f _ _ R 409 41 [] [(0, .ref 49)] [] _ 0 0 122 (Nat.le_refl _) (Nat.le_refl _) (Nat.le_of_ble_eq_true rfl) (lvR_mk [] [0] rfl rfl (by decide) (by decide) (fun _ h => nomatch h) (List.forall_mem_cons.mpr ⟨Or.inr rfl, (fun _ h => nomatch h)⟩)) h
  · obtain ⟨f, h⟩ := h2 hc
    refine ⟨f + 1, ?_⟩
    rw [key, if_neg hc]
    exact h
set_option maxRecDepth 100000 in
set_option maxHeartbeats 4000000 in
theorem bk_409_25 {b : Bool} {d : Nat} {e : Nat → x_E} {g : Nat → Int32} {q : Nat → Int64} {c : Nat → Nat → Int32} {l : Nat → Nat → Int64} {g' : Nat → Int32} {q' : Nat → Int64} {c' : Nat → Nat → Int32} {l' : Nat → Nat → Int64} {v : Int32} {R : Option Value × List x_E} (hc : rr b e d 338 0 [(0, .ref 49), (1, .int (Int32.ofInt (1)))] [] g q c l (some (.int v), rH e g' q' c' l')) (h : rr b e (d + 1) 409 30 [(0, .ref 49)] [.int v] g' q' c' l' R) : rr b e (d + 1) 409 25 [(0, .ref 49)] [] g q c l R := by
  obtain ⟨f1, hc⟩ := hc
  obtain ⟨f2, h⟩ := h
  obtain ⟨f, hf1, hf2⟩ : ∃ f, f1 ≤ f ∧ f2 ≤ f := ⟨max f1 f2, Nat.le_max_left _ _, Nat.le_max_right _ _⟩
  have hc := nrun_fuel f1 f _ _ _ _ _ _ _ _ _ hf1 hc
  have h := nrun_fuel f2 f _ _ _ _ _ _ _ _ _ hf2 h
  refine ⟨f + 3, ?_⟩
  obtain ⟨y, cb, hj⟩ := mq_409
  rw [n_step (st' := [.ref 49]) (pc' := 26) (lv' := [(0, .ref 49)]) (hp' := rH e g q c l) (i := .aload_n 0) (len := 1) rfl hj rfl rfl rfl]
  rw [n_step (st' := [.int (Int32.ofInt (1)), .ref 49]) (pc' := 27) (lv' := [(0, .ref 49)]) (hp' := rH e g q c l) (i := .iconst 1) (len := 1) rfl hj rfl rfl rfl]
  obtain ⟨y2, cb2, hj2⟩ := mq_338
  rw [n_call (f := f) (d := d) (ki := 0) (idx := 350) (j' := 338) (kd := 0) (M' := (y2, cb2, 2, some .boolean, 12, 1, 0, 0)) (avs := [.ref 49, .int (Int32.ofInt (1))]) (r := []) (rv := some (.int v)) (hp1 := rH e g' q' c' l') rfl hj rfl rfl rfl rfl (rq_n rfl rfl hj2 rfl rfl) rfl hc (Nat.le_of_ble_eq_true rfl)]
  exact h
set_option maxRecDepth 100000 in
set_option maxHeartbeats 4000000 in
theorem bk_409_30 {b : Bool} {d : Nat} {t0 : Int32} {e : Nat → x_E} {g : Nat → Int32} {q : Nat → Int64} {c : Nat → Nat → Int32} {l : Nat → Nat → Int64} {R : Option Value × List x_E} (h1 : xCn .ne t0 0 = true → rr b e d 409 41 [] [] g q c l R) (h2 : ¬ xCn .ne t0 0 = true → rr b e d 409 33 [(0, .ref 49)] [] g q c l R) : rr b e d 409 30 [(0, .ref 49)] [.int t0] g q c l R := by
  have key : ∀ f, nrun xZ (xY (xfm b)) xDT (f + 1) d 409 30 [(0, .ref 49)] [.int t0] (rH e g q c l) 0 0 = nrun xZ (xY (xfm b)) xDT f d 409 (if xCn .ne t0 0 = true then 41 else 33) [(0, .ref 49)] [] (rH e g q c l) 0 0 := by
    intro f
    obtain ⟨y, cb, hj⟩ := mq_409
    rw [n_step (st' := []) (pc' := (if xCn .ne t0 0 = true then 41 else 33)) (lv' := [(0, .ref 49)]) (hp' := rH e g q c l) (i := .ifCond .ne 11) (len := 3) rfl hj rfl rfl rfl]
  by_cases hc : xCn .ne t0 0 = true
  · obtain ⟨f, h⟩ := h1 hc
    refine ⟨f + 1, ?_⟩
    rw [key, if_pos hc]
    exact nrun_ext f f _ _ R 409 41 [] [(0, .ref 49)] [] _ 0 0 122 (Nat.le_refl _) (Nat.le_refl _) (Nat.le_of_ble_eq_true rfl) (lvR_mk [] [0] rfl rfl (by decide) (by decide) (fun _ h => nomatch h) (List.forall_mem_cons.mpr ⟨Or.inr rfl, (fun _ h => nomatch h)⟩)) h
  · obtain ⟨f, h⟩ := h2 hc
    refine ⟨f + 1, ?_⟩
    rw [key, if_neg hc]
    exact h
set_option maxRecDepth 100000 in
set_option maxHeartbeats 4000000 in
theorem bk_409_33 {b : Bool} {d : Nat} {e : Nat → x_E} {g : Nat → Int32} {q : Nat → Int64} {c : Nat → Nat → Int32} {l : Nat → Nat → Int64} {g' : Nat → Int32} {q' : Nat → Int64} {c' : Nat → Nat → Int32} {l' : Nat → Nat → Int64} {v : Int32} {R : Option Value × List x_E} (hc : rr b e d 338 0 [(0, .ref 49), (1, .int (Int32.ofInt (2)))] [] g q c l (some (.int v), rH e g' q' c' l')) (h : rr b e (d + 1) 409 38 [] [.int v] g' q' c' l' R) : rr b e (d + 1) 409 33 [(0, .ref 49)] [] g q c l R := by
  obtain ⟨f1, hc⟩ := hc
  obtain ⟨f2, h⟩ := h
  obtain ⟨f, hf1, hf2⟩ : ∃ f, f1 ≤ f ∧ f2 ≤ f := ⟨max f1 f2, Nat.le_max_left _ _, Nat.le_max_right _ _⟩
  have hc := nrun_fuel f1 f _ _ _ _ _ _ _ _ _ hf1 hc
  have h := nrun_fuel f2 f _ _ _ _ _ _ _ _ _ hf2 h
  refine ⟨f + 3, ?_⟩
  obtain ⟨y, cb, hj⟩ := mq_409
  rw [n_step (st' := [.ref 49]) (pc' := 34) (lv' := [(0, .ref 49)]) (hp' := rH e g q c l) (i := .aload_n 0) (len := 1) rfl hj rfl rfl rfl]
  rw [n_step (st' := [.int (Int32.ofInt (2)), .ref 49]) (pc' := 35) (lv' := [(0, .ref 49)]) (hp' := rH e g q c l) (i := .iconst 2) (len := 1) rfl hj rfl rfl rfl]
  obtain ⟨y2, cb2, hj2⟩ := mq_338
  rw [n_call (f := f) (d := d) (ki := 0) (idx := 350) (j' := 338) (kd := 0) (M' := (y2, cb2, 2, some .boolean, 12, 1, 0, 0)) (avs := [.ref 49, .int (Int32.ofInt (2))]) (r := []) (rv := some (.int v)) (hp1 := rH e g' q' c' l') rfl hj rfl rfl rfl rfl (rq_n rfl rfl hj2 rfl rfl) rfl hc (Nat.le_of_ble_eq_true rfl)]
  exact nrun_ext f f _ _ R 409 38 [] [(0, .ref 49)] [.int v] _ 0 0 122 (Nat.le_refl _) (Nat.le_refl _) (Nat.le_of_ble_eq_true rfl) (lvR_mk [] [0] rfl rfl (by decide) (by decide) (fun _ h => nomatch h) (List.forall_mem_cons.mpr ⟨Or.inr rfl, (fun _ h => nomatch h)⟩)) h
set_option maxRecDepth 100000 in
set_option maxHeartbeats 4000000 in
theorem bk_409_38 {b : Bool} {d : Nat} {t0 : Int32} {e : Nat → x_E} {g : Nat → Int32} {q : Nat → Int64} {c : Nat → Nat → Int32} {l : Nat → Nat → Int64} {R : Option Value × List x_E} (h1 : xCn .eq t0 0 = true → rr b e d 409 45 [] [] g q c l R) (h2 : ¬ xCn .eq t0 0 = true → rr b e d 409 41 [] [] g q c l R) : rr b e d 409 38 [] [.int t0] g q c l R := by
  have key : ∀ f, nrun xZ (xY (xfm b)) xDT (f + 1) d 409 38 [] [.int t0] (rH e g q c l) 0 0 = nrun xZ (xY (xfm b)) xDT f d 409 (if xCn .eq t0 0 = true then 45 else 41) [] [] (rH e g q c l) 0 0 := by
    intro f
    obtain ⟨y, cb, hj⟩ := mq_409
    rw [n_step (st' := []) (pc' := (if xCn .eq t0 0 = true then 45 else 41)) (lv' := []) (hp' := rH e g q c l) (i := .ifCond .eq 7) (len := 3) rfl hj rfl rfl rfl]
  by_cases hc : xCn .eq t0 0 = true
  · obtain ⟨f, h⟩ := h1 hc
    refine ⟨f + 1, ?_⟩
    rw [key, if_pos hc]
    exact h
  · obtain ⟨f, h⟩ := h2 hc
    refine ⟨f + 1, ?_⟩
    rw [key, if_neg hc]
    exact h
set_option maxRecDepth 100000 in
set_option maxHeartbeats 4000000 in
theorem bk_409_41 {b : Bool} {d : Nat} {e : Nat → x_E} {g : Nat → Int32} {q : Nat → Int64} {c : Nat → Nat → Int32} {l : Nat → Nat → Int64} {R : Option Value × List x_E} (h : rr b e d 409 46 [] [.int (Int32.ofInt (1))] g q c l R) : rr b e d 409 41 [] [] g q c l R := by
  obtain ⟨f, h⟩ := h
  refine ⟨f + 2, ?_⟩
  obtain ⟨y, cb, hj⟩ := mq_409
  rw [n_step (st' := [.int (Int32.ofInt (1))]) (pc' := 42) (lv' := []) (hp' := rH e g q c l) (i := .iconst 1) (len := 1) rfl hj rfl rfl rfl]
  rw [n_step (st' := [.int (Int32.ofInt (1))]) (pc' := 46) (lv' := []) (hp' := rH e g q c l) (i := .goto 4) (len := 3) rfl hj rfl rfl rfl]
  exact h
set_option maxRecDepth 100000 in
set_option maxHeartbeats 4000000 in
theorem bk_409_45 {b : Bool} {d : Nat} {e : Nat → x_E} {g : Nat → Int32} {q : Nat → Int64} {c : Nat → Nat → Int32} {l : Nat → Nat → Int64} {R : Option Value × List x_E} (h : rr b e d 409 46 [] [.int (Int32.ofInt (0))] g q c l R) : rr b e d 409 45 [] [] g q c l R := by
  obtain ⟨f, h⟩ := h
  refine ⟨f + 1, ?_⟩
  obtain ⟨y, cb, hj⟩ := mq_409
  rw [n_step (st' := [.int (Int32.ofInt (0))]) (pc' := 46) (lv' := []) (hp' := rH e g q c l) (i := .iconst 0) (len := 1) rfl hj rfl rfl rfl]
  exact h
set_option maxRecDepth 100000 in
set_option maxHeartbeats 4000000 in
theorem bk_409_46 {b : Bool} {d : Nat} {t0 : Int32} {e : Nat → x_E} {g : Nat → Int32} {q : Nat → Int64} {c : Nat → Nat → Int32} {l : Nat → Nat → Int64} (hv : t0 = 0 ∨ t0 = 1) : rr b e d 409 46 [] [.int t0] g q c l (some (.int t0), rH e g q c l) := by
  refine ⟨0 + 1, ?_⟩
  obtain ⟨y, cb, hj⟩ := mq_409
  exact n_ret rfl hj rfl rfl (x_ret (nb_01 hv))
set_option maxRecDepth 100000 in
set_option maxHeartbeats 4000000 in
theorem bk_410s96_0 {b : Bool} {d : Nat} {x1 x3 x4 : Int32} {e : Nat → x_E} {g : Nat → Int32} {q : Nat → Int64} {c : Nat → Nat → Int32} {l : Nat → Nat → Int64} {R : Option Value × List x_E} (hz0 : ¬ (x1 < 0 ∨ 66000 ≤ (x1).toNatClampNeg)) (hz1 : ¬ (x1 < 0 ∨ 66000 ≤ (x1).toNatClampNeg)) (h : rr b e d 410 21 [(0, .ref 49), (2, .ref 96), (3, .int x3), (4, .int x4), (5, .int (Int32.ofInt (0)))] [] g q (updA (updA c 89 (upd (c 89) (x1).toNatClampNeg ((g 92)))) 90 (upd ((updA c 89 (upd (c 89) (x1).toNatClampNeg ((g 92)))) 90) (x1).toNatClampNeg x4)) l R) : rr b e d 410 0 [(0, .ref 49), (1, .int x1), (2, .ref 96), (3, .int x3), (4, .int x4)] [] g q c l R := by
  obtain ⟨f, h⟩ := h
  refine ⟨f + 13, ?_⟩
  obtain ⟨y, cb, hj⟩ := mq_410
  rw [n_step (st' := [.ref 49]) (pc' := 1) (lv' := [(0, .ref 49), (1, .int x1), (2, .ref 96), (3, .int x3), (4, .int x4)]) (hp' := rH e g q c l) (i := .aload_n 0) (len := 1) rfl hj rfl rfl rfl]
  rw [n_get (st' := [.ref 89]) (pc' := 4) (lv' := [(0, .ref 49), (1, .int x1), (2, .ref 96), (3, .int x3), (4, .int x4)]) (hp' := rH e g q c l) (i := .getfield 137) (len := 3) rfl hj rfl rfl rfl rfl]
  rw [n_step (st' := [.int x1, .ref 89]) (pc' := 5) (lv' := [(0, .ref 49), (1, .int x1), (2, .ref 96), (3, .int x3), (4, .int x4)]) (hp' := rH e g q c l) (i := .iload_n 1) (len := 1) rfl hj rfl rfl rfl]
  rw [n_step (st' := [.ref 49, .int x1, .ref 89]) (pc' := 6) (lv' := [(0, .ref 49), (1, .int x1), (2, .ref 96), (3, .int x3), (4, .int x4)]) (hp' := rH e g q c l) (i := .aload_n 0) (len := 1) rfl hj rfl rfl rfl]
  rw [n_get (st' := [.int (g 92), .int x1, .ref 89]) (pc' := 9) (lv' := [(0, .ref 49), (1, .int x1), (2, .ref 96), (3, .int x3), (4, .int x4)]) (hp' := rH e g q c l) (i := .getfield 682) (len := 3) rfl hj rfl rfl rfl rfl]
  rw [n_ias (st' := []) (hp' := rH e g q (updA c 89 (upd (c 89) (x1).toNatClampNeg ((g 92)))) l) rfl hj (ast_89 hz0)]
  rw [n_step (st' := [.ref 49]) (pc' := 11) (lv' := [(0, .ref 49), (1, .int x1), (2, .ref 96), (3, .int x3), (4, .int x4)]) (hp' := rH e g q (updA c 89 (upd (c 89) (x1).toNatClampNeg ((g 92)))) l) (i := .aload_n 0) (len := 1) rfl hj rfl rfl rfl]
  rw [n_get (st' := [.ref 90]) (pc' := 14) (lv' := [(0, .ref 49), (1, .int x1), (2, .ref 96), (3, .int x3), (4, .int x4)]) (hp' := rH e g q (updA c 89 (upd (c 89) (x1).toNatClampNeg ((g 92)))) l) (i := .getfield 140) (len := 3) rfl hj rfl rfl rfl rfl]
  rw [n_step (st' := [.int x1, .ref 90]) (pc' := 15) (lv' := [(0, .ref 49), (1, .int x1), (2, .ref 96), (3, .int x3), (4, .int x4)]) (hp' := rH e g q (updA c 89 (upd (c 89) (x1).toNatClampNeg ((g 92)))) l) (i := .iload_n 1) (len := 1) rfl hj rfl rfl rfl]
  rw [n_step (st' := [.int x4, .int x1, .ref 90]) (pc' := 17) (lv' := [(0, .ref 49), (1, .int x1), (2, .ref 96), (3, .int x3), (4, .int x4)]) (hp' := rH e g q (updA c 89 (upd (c 89) (x1).toNatClampNeg ((g 92)))) l) (i := .iload 4) (len := 2) rfl hj rfl rfl rfl]
  rw [n_ias (st' := []) (hp' := rH e g q (updA (updA c 89 (upd (c 89) (x1).toNatClampNeg ((g 92)))) 90 (upd ((updA c 89 (upd (c 89) (x1).toNatClampNeg ((g 92)))) 90) (x1).toNatClampNeg x4)) l) rfl hj (ast_90 hz1)]
  rw [n_step (st' := [.int (Int32.ofInt (0))]) (pc' := 19) (lv' := [(0, .ref 49), (1, .int x1), (2, .ref 96), (3, .int x3), (4, .int x4)]) (hp' := rH e g q (updA (updA c 89 (upd (c 89) (x1).toNatClampNeg ((g 92)))) 90 (upd ((updA c 89 (upd (c 89) (x1).toNatClampNeg ((g 92)))) 90) (x1).toNatClampNeg x4)) l) (i := .iconst 0) (len := 1) rfl hj rfl rfl rfl]
  rw [n_step (st' := []) (pc' := 21) (lv' := [(5, .int (Int32.ofInt (0))), (0, .ref 49), (1, .int x1), (2, .ref 96), (3, .int x3), (4, .int x4)]) (hp' := rH e g q (updA (updA c 89 (upd (c 89) (x1).toNatClampNeg ((g 92)))) 90 (upd ((updA c 89 (upd (c 89) (x1).toNatClampNeg ((g 92)))) 90) (x1).toNatClampNeg x4)) l) (i := .istore 5) (len := 2) rfl hj rfl rfl rfl]
  exact nrun_ext f f _ _ R 410 21 [(0, .ref 49), (2, .ref 96), (3, .int x3), (4, .int x4), (5, .int (Int32.ofInt (0)))] [(5, .int (Int32.ofInt (0))), (0, .ref 49), (1, .int x1), (2, .ref 96), (3, .int x3), (4, .int x4)] [] _ 0 0 122 (Nat.le_refl _) (Nat.le_refl _) (Nat.le_of_ble_eq_true rfl) (lvR_mk [0, 2, 3, 4, 5] [5, 0, 1, 2, 3, 4] rfl rfl (by decide) (by decide) (List.forall_mem_cons.mpr ⟨(List.mem_cons_of_mem _ List.mem_cons_self), (List.forall_mem_cons.mpr ⟨(List.mem_cons_of_mem _ (List.mem_cons_of_mem _ (List.mem_cons_of_mem _ List.mem_cons_self))), (List.forall_mem_cons.mpr ⟨(List.mem_cons_of_mem _ (List.mem_cons_of_mem _ (List.mem_cons_of_mem _ (List.mem_cons_of_mem _ List.mem_cons_self)))), (List.forall_mem_cons.mpr ⟨(List.mem_cons_of_mem _ (List.mem_cons_of_mem _ (List.mem_cons_of_mem _ (List.mem_cons_of_mem _ (List.mem_cons_of_mem _ List.mem_cons_self))))), (List.forall_mem_cons.mpr ⟨List.mem_cons_self, (fun _ h => nomatch h)⟩)⟩)⟩)⟩)⟩) (List.forall_mem_cons.mpr ⟨Or.inl (List.mem_cons_of_mem _ (List.mem_cons_of_mem _ (List.mem_cons_of_mem _ (List.mem_cons_of_mem _ List.mem_cons_self)))), (List.forall_mem_cons.mpr ⟨Or.inl List.mem_cons_self, (List.forall_mem_cons.mpr ⟨Or.inr rfl, (List.forall_mem_cons.mpr ⟨Or.inl (List.mem_cons_of_mem _ List.mem_cons_self), (List.forall_mem_cons.mpr ⟨Or.inl (List.mem_cons_of_mem _ (List.mem_cons_of_mem _ List.mem_cons_self)), (List.forall_mem_cons.mpr ⟨Or.inl (List.mem_cons_of_mem _ (List.mem_cons_of_mem _ (List.mem_cons_of_mem _ List.mem_cons_self))), (fun _ h => nomatch h)⟩)⟩)⟩)⟩)⟩)⟩)) h
set_option maxRecDepth 100000 in
set_option maxHeartbeats 4000000 in
theorem bk_410s96_21 {b : Bool} {d : Nat} {x3 x4 x5 : Int32} {e : Nat → x_E} {g : Nat → Int32} {q : Nat → Int64} {c : Nat → Nat → Int32} {l : Nat → Nat → Int64} {R : Option Value × List x_E} (h1 : xCn .ge x5 x4 = true → rr b e d 410 59 [] [] g q c l R) (h2 : ¬ xCn .ge x5 x4 = true → rr b e d 410 28 [(0, .ref 49), (2, .ref 96), (3, .int x3), (4, .int x4), (5, .int x5)] [] g q c l R) : rr b e d 410 21 [(0, .ref 49), (2, .ref 96), (3, .int x3), (4, .int x4), (5, .int x5)] [] g q c l R := by
  have key : ∀ f, nrun xZ (xY (xfm b)) xDT (f + 3) d 410 21 [(0, .ref 49), (2, .ref 96), (3, .int x3), (4, .int x4), (5, .int x5)] [] (rH e g q c l) 0 0 = nrun xZ (xY (xfm b)) xDT f d 410 (if xCn .ge x5 x4 = true then 59 else 28) [(0, .ref 49), (2, .ref 96), (3, .int x3), (4, .int x4), (5, .int x5)] [] (rH e g q c l) 0 0 := by
    intro f
    obtain ⟨y, cb, hj⟩ := mq_410
    rw [n_step (st' := [.int x5]) (pc' := 23) (lv' := [(0, .ref 49), (2, .ref 96), (3, .int x3), (4, .int x4), (5, .int x5)]) (hp' := rH e g q c l) (i := .iload 5) (len := 2) rfl hj rfl rfl rfl]
    rw [n_step (st' := [.int x4, .int x5]) (pc' := 25) (lv' := [(0, .ref 49), (2, .ref 96), (3, .int x3), (4, .int x4), (5, .int x5)]) (hp' := rH e g q c l) (i := .iload 4) (len := 2) rfl hj rfl rfl rfl]
    rw [n_step (st' := []) (pc' := (if xCn .ge x5 x4 = true then 59 else 28)) (lv' := [(0, .ref 49), (2, .ref 96), (3, .int x3), (4, .int x4), (5, .int x5)]) (hp' := rH e g q c l) (i := .if_icmp .ge 34) (len := 3) rfl hj rfl rfl rfl]
  by_cases hc : xCn .ge x5 x4 = true
  · obtain ⟨f, h⟩ := h1 hc
    refine ⟨f + 3, ?_⟩
    rw [key, if_pos hc]
    exact nrun_ext f f _ _ R 410 59 [] [(0, .ref 49), (2, .ref 96), (3, .int x3), (4, .int x4), (5, .int x5)] [] _ 0 0 122 (Nat.le_refl _) (Nat.le_refl _) (Nat.le_of_ble_eq_true rfl) (lvR_mk [] [0, 2, 3, 4, 5] rfl rfl (by decide) (by decide) (fun _ h => nomatch h) (List.forall_mem_cons.mpr ⟨Or.inr rfl, (List.forall_mem_cons.mpr ⟨Or.inr rfl, (List.forall_mem_cons.mpr ⟨Or.inr rfl, (List.forall_mem_cons.mpr ⟨Or.inr rfl, (List.forall_mem_cons.mpr ⟨Or.inr rfl, (fun _ h => nomatch h)⟩)⟩)⟩)⟩)⟩)) h
  · obtain ⟨f, h⟩ := h2 hc
    refine ⟨f + 3, ?_⟩
    rw [key, if_neg hc]
    exact h
set_option maxRecDepth 100000 in
set_option maxHeartbeats 4000000 in
theorem bk_410s96_28 {b : Bool} {d : Nat} {x3 x4 x5 : Int32} {e : Nat → x_E} {g : Nat → Int32} {q : Nat → Int64} {c : Nat → Nat → Int32} {l : Nat → Nat → Int64} {R : Option Value × List x_E} (hz0 : ¬ ((x3 + x5) < 0 ∨ 1400 ≤ ((x3 + x5)).toNatClampNeg)) (hz1 : ¬ ((g 92) < 0 ∨ 80000 ≤ ((g 92)).toNatClampNeg)) (h : rr b e d 410 21 [(0, .ref 49), (2, .ref 96), (3, .int x3), (4, .int x4), (5, .int (x5 + Int32.ofInt (1)))] [] (upd g 92 (((g 92) + (Int32.ofInt (1))))) q (updA c 92 (upd (c 92) ((g 92)).toNatClampNeg ((c 96 ((x3 + x5)).toNatClampNeg)))) l R) : rr b e d 410 28 [(0, .ref 49), (2, .ref 96), (3, .int x3), (4, .int x4), (5, .int x5)] [] g q c l R := by
  obtain ⟨f, h⟩ := h
  refine ⟨f + 18, ?_⟩
  obtain ⟨y, cb, hj⟩ := mq_410
  rw [n_step (st' := [.ref 49]) (pc' := 29) (lv' := [(0, .ref 49), (2, .ref 96), (3, .int x3), (4, .int x4), (5, .int x5)]) (hp' := rH e g q c l) (i := .aload_n 0) (len := 1) rfl hj rfl rfl rfl]
  rw [n_get (st' := [.ref 92]) (pc' := 32) (lv' := [(0, .ref 49), (2, .ref 96), (3, .int x3), (4, .int x4), (5, .int x5)]) (hp' := rH e g q c l) (i := .getfield 147) (len := 3) rfl hj rfl rfl rfl rfl]
  rw [n_step (st' := [.ref 49, .ref 92]) (pc' := 33) (lv' := [(0, .ref 49), (2, .ref 96), (3, .int x3), (4, .int x4), (5, .int x5)]) (hp' := rH e g q c l) (i := .aload_n 0) (len := 1) rfl hj rfl rfl rfl]
  rw [n_get (st' := [.int (g 92), .ref 92]) (pc' := 36) (lv' := [(0, .ref 49), (2, .ref 96), (3, .int x3), (4, .int x4), (5, .int x5)]) (hp' := rH e g q c l) (i := .getfield 682) (len := 3) rfl hj rfl rfl rfl rfl]
  rw [n_step (st' := [.ref 96, .int (g 92), .ref 92]) (pc' := 37) (lv' := [(0, .ref 49), (2, .ref 96), (3, .int x3), (4, .int x4), (5, .int x5)]) (hp' := rH e g q c l) (i := .aload_n 2) (len := 1) rfl hj rfl rfl rfl]
  rw [n_step (st' := [.int x3, .ref 96, .int (g 92), .ref 92]) (pc' := 38) (lv' := [(0, .ref 49), (2, .ref 96), (3, .int x3), (4, .int x4), (5, .int x5)]) (hp' := rH e g q c l) (i := .iload_n 3) (len := 1) rfl hj rfl rfl rfl]
  rw [n_step (st' := [.int x5, .int x3, .ref 96, .int (g 92), .ref 92]) (pc' := 40) (lv' := [(0, .ref 49), (2, .ref 96), (3, .int x3), (4, .int x4), (5, .int x5)]) (hp' := rH e g q c l) (i := .iload 5) (len := 2) rfl hj rfl rfl rfl]
  rw [n_step (st' := [.int (x3 + x5), .ref 96, .int (g 92), .ref 92]) (pc' := 41) (lv' := [(0, .ref 49), (2, .ref 96), (3, .int x3), (4, .int x4), (5, .int x5)]) (hp' := rH e g q c l) (i := .iadd) (len := 1) rfl hj rfl rfl rfl]
  rw [n_ial (st' := [.int (c 96 ((x3 + x5)).toNatClampNeg), .int (g 92), .ref 92]) rfl hj (ald_96 hz0)]
  rw [n_ias (st' := []) (hp' := rH e g q (updA c 92 (upd (c 92) ((g 92)).toNatClampNeg ((c 96 ((x3 + x5)).toNatClampNeg)))) l) rfl hj (ast_92 hz1)]
  rw [n_step (st' := [.ref 49]) (pc' := 44) (lv' := [(0, .ref 49), (2, .ref 96), (3, .int x3), (4, .int x4), (5, .int x5)]) (hp' := rH e g q (updA c 92 (upd (c 92) ((g 92)).toNatClampNeg ((c 96 ((x3 + x5)).toNatClampNeg)))) l) (i := .aload_n 0) (len := 1) rfl hj rfl rfl rfl]
  rw [n_step (st' := [.ref 49, .ref 49]) (pc' := 45) (lv' := [(0, .ref 49), (2, .ref 96), (3, .int x3), (4, .int x4), (5, .int x5)]) (hp' := rH e g q (updA c 92 (upd (c 92) ((g 92)).toNatClampNeg ((c 96 ((x3 + x5)).toNatClampNeg)))) l) (i := .aload_n 0) (len := 1) rfl hj rfl rfl rfl]
  rw [n_get (st' := [.int (g 92), .ref 49]) (pc' := 48) (lv' := [(0, .ref 49), (2, .ref 96), (3, .int x3), (4, .int x4), (5, .int x5)]) (hp' := rH e g q (updA c 92 (upd (c 92) ((g 92)).toNatClampNeg ((c 96 ((x3 + x5)).toNatClampNeg)))) l) (i := .getfield 682) (len := 3) rfl hj rfl rfl rfl rfl]
  rw [n_step (st' := [.int (Int32.ofInt (1)), .int (g 92), .ref 49]) (pc' := 49) (lv' := [(0, .ref 49), (2, .ref 96), (3, .int x3), (4, .int x4), (5, .int x5)]) (hp' := rH e g q (updA c 92 (upd (c 92) ((g 92)).toNatClampNeg ((c 96 ((x3 + x5)).toNatClampNeg)))) l) (i := .iconst 1) (len := 1) rfl hj rfl rfl rfl]
  rw [n_step (st' := [.int ((g 92) + (Int32.ofInt (1))), .ref 49]) (pc' := 50) (lv' := [(0, .ref 49), (2, .ref 96), (3, .int x3), (4, .int x4), (5, .int x5)]) (hp' := rH e g q (updA c 92 (upd (c 92) ((g 92)).toNatClampNeg ((c 96 ((x3 + x5)).toNatClampNeg)))) l) (i := .iadd) (len := 1) rfl hj rfl rfl rfl]
  rw [n_put (st' := []) (hp' := rH e (upd g 92 (((g 92) + (Int32.ofInt (1))))) q (updA c 92 (upd (c 92) ((g 92)).toNatClampNeg ((c 96 ((x3 + x5)).toNatClampNeg)))) l) rfl hj pf_92]
  rw [n_step (st' := []) (pc' := 56) (lv' := [(5, .int (x5 + Int32.ofInt (1))), (0, .ref 49), (2, .ref 96), (3, .int x3), (4, .int x4)]) (hp' := rH e (upd g 92 (((g 92) + (Int32.ofInt (1))))) q (updA c 92 (upd (c 92) ((g 92)).toNatClampNeg ((c 96 ((x3 + x5)).toNatClampNeg)))) l) (i := .iinc 5 1) (len := 3) rfl hj rfl rfl rfl]
  rw [n_step (st' := []) (pc' := 21) (lv' := [(5, .int (x5 + Int32.ofInt (1))), (0, .ref 49), (2, .ref 96), (3, .int x3), (4, .int x4)]) (hp' := rH e (upd g 92 (((g 92) + (Int32.ofInt (1))))) q (updA c 92 (upd (c 92) ((g 92)).toNatClampNeg ((c 96 ((x3 + x5)).toNatClampNeg)))) l) (i := .goto (-35)) (len := 3) rfl hj rfl rfl rfl]
  exact nrun_ext f f _ _ R 410 21 [(0, .ref 49), (2, .ref 96), (3, .int x3), (4, .int x4), (5, .int (x5 + Int32.ofInt (1)))] [(5, .int (x5 + Int32.ofInt (1))), (0, .ref 49), (2, .ref 96), (3, .int x3), (4, .int x4)] [] _ 0 0 122 (Nat.le_refl _) (Nat.le_refl _) (Nat.le_of_ble_eq_true rfl) (lvR_mk [0, 2, 3, 4, 5] [5, 0, 2, 3, 4] rfl rfl (by decide) (by decide) (List.forall_mem_cons.mpr ⟨(List.mem_cons_of_mem _ List.mem_cons_self), (List.forall_mem_cons.mpr ⟨(List.mem_cons_of_mem _ (List.mem_cons_of_mem _ List.mem_cons_self)), (List.forall_mem_cons.mpr ⟨(List.mem_cons_of_mem _ (List.mem_cons_of_mem _ (List.mem_cons_of_mem _ List.mem_cons_self))), (List.forall_mem_cons.mpr ⟨(List.mem_cons_of_mem _ (List.mem_cons_of_mem _ (List.mem_cons_of_mem _ (List.mem_cons_of_mem _ List.mem_cons_self)))), (List.forall_mem_cons.mpr ⟨List.mem_cons_self, (fun _ h => nomatch h)⟩)⟩)⟩)⟩)⟩) (List.forall_mem_cons.mpr ⟨Or.inl (List.mem_cons_of_mem _ (List.mem_cons_of_mem _ (List.mem_cons_of_mem _ (List.mem_cons_of_mem _ List.mem_cons_self)))), (List.forall_mem_cons.mpr ⟨Or.inl List.mem_cons_self, (List.forall_mem_cons.mpr ⟨Or.inl (List.mem_cons_of_mem _ List.mem_cons_self), (List.forall_mem_cons.mpr ⟨Or.inl (List.mem_cons_of_mem _ (List.mem_cons_of_mem _ List.mem_cons_self)), (List.forall_mem_cons.mpr ⟨Or.inl (List.mem_cons_of_mem _ (List.mem_cons_of_mem _ (List.mem_cons_of_mem _ List.mem_cons_self))), (fun _ h => nomatch h)⟩)⟩)⟩)⟩)⟩)) h
set_option maxRecDepth 100000 in
set_option maxHeartbeats 4000000 in
theorem bk_410s96_59 {b : Bool} {d : Nat} {e : Nat → x_E} {g : Nat → Int32} {q : Nat → Int64} {c : Nat → Nat → Int32} {l : Nat → Nat → Int64} : rr b e d 410 59 [] [] g q c l (none, rH e g q c l) := by
  refine ⟨0 + 1, ?_⟩
  obtain ⟨y, cb, hj⟩ := mq_410
  exact n_ret rfl hj rfl rfl rfl
set_option maxRecDepth 100000 in
set_option maxHeartbeats 4000000 in
theorem bk_411_0 {b : Bool} {d : Nat} {x1 : Int32} {e : Nat → x_E} {g : Nat → Int32} {q : Nat → Int64} {c : Nat → Nat → Int32} {l : Nat → Nat → Int64} {R : Option Value × List x_E} (h : rr b e d 411 4 [(0, .ref 49), (1, .int x1), (2, .int (Int32.ofInt (0))), (3, .int (Int32.ofInt (1)))] [] g q c l R) : rr b e d 411 0 [(0, .ref 49), (1, .int x1)] [] g q c l R := by
  obtain ⟨f, h⟩ := h
  refine ⟨f + 4, ?_⟩
  obtain ⟨y, cb, hj⟩ := mq_411
  rw [n_step (st' := [.int (Int32.ofInt (0))]) (pc' := 1) (lv' := [(0, .ref 49), (1, .int x1)]) (hp' := rH e g q c l) (i := .iconst 0) (len := 1) rfl hj rfl rfl rfl]
  rw [n_step (st' := []) (pc' := 2) (lv' := [(2, .int (Int32.ofInt (0))), (0, .ref 49), (1, .int x1)]) (hp' := rH e g q c l) (i := .istore_n 2) (len := 1) rfl hj rfl rfl rfl]
  rw [n_step (st' := [.int (Int32.ofInt (1))]) (pc' := 3) (lv' := [(2, .int (Int32.ofInt (0))), (0, .ref 49), (1, .int x1)]) (hp' := rH e g q c l) (i := .iconst 1) (len := 1) rfl hj rfl rfl rfl]
  rw [n_step (st' := []) (pc' := 4) (lv' := [(3, .int (Int32.ofInt (1))), (2, .int (Int32.ofInt (0))), (0, .ref 49), (1, .int x1)]) (hp' := rH e g q c l) (i := .istore_n 3) (len := 1) rfl hj rfl rfl rfl]
  exact nrun_ext f f _ _ R 411 4 [(0, .ref 49), (1, .int x1), (2, .int (Int32.ofInt (0))), (3, .int (Int32.ofInt (1)))] [(3, .int (Int32.ofInt (1))), (2, .int (Int32.ofInt (0))), (0, .ref 49), (1, .int x1)] [] _ 0 0 122 (Nat.le_refl _) (Nat.le_refl _) (Nat.le_of_ble_eq_true rfl) (lvR_mk [0, 1, 2, 3] [3, 2, 0, 1] rfl rfl (by decide) (by decide) (List.forall_mem_cons.mpr ⟨(List.mem_cons_of_mem _ (List.mem_cons_of_mem _ List.mem_cons_self)), (List.forall_mem_cons.mpr ⟨(List.mem_cons_of_mem _ (List.mem_cons_of_mem _ (List.mem_cons_of_mem _ List.mem_cons_self))), (List.forall_mem_cons.mpr ⟨(List.mem_cons_of_mem _ List.mem_cons_self), (List.forall_mem_cons.mpr ⟨List.mem_cons_self, (fun _ h => nomatch h)⟩)⟩)⟩)⟩) (List.forall_mem_cons.mpr ⟨Or.inl (List.mem_cons_of_mem _ (List.mem_cons_of_mem _ (List.mem_cons_of_mem _ List.mem_cons_self))), (List.forall_mem_cons.mpr ⟨Or.inl (List.mem_cons_of_mem _ (List.mem_cons_of_mem _ List.mem_cons_self)), (List.forall_mem_cons.mpr ⟨Or.inl List.mem_cons_self, (List.forall_mem_cons.mpr ⟨Or.inl (List.mem_cons_of_mem _ List.mem_cons_self), (fun _ h => nomatch h)⟩)⟩)⟩)⟩)) h
set_option maxRecDepth 100000 in
set_option maxHeartbeats 4000000 in
theorem bk_411_4 {b : Bool} {d : Nat} {x1 x2 x3 : Int32} {e : Nat → x_E} {g : Nat → Int32} {q : Nat → Int64} {c : Nat → Nat → Int32} {l : Nat → Nat → Int64} {R : Option Value × List x_E} (h1 : xCn .ge x3 ((Int8.ofInt (16)).toInt32) = true → rr b e d 411 75 [] [] g q c l R) (h2 : ¬ xCn .ge x3 ((Int8.ofInt (16)).toInt32) = true → rr b e d 411 10 [(0, .ref 49), (1, .int x1), (2, .int x2), (3, .int x3)] [] g q c l R) : rr b e d 411 4 [(0, .ref 49), (1, .int x1), (2, .int x2), (3, .int x3)] [] g q c l R := by
  have key : ∀ f, nrun xZ (xY (xfm b)) xDT (f + 3) d 411 4 [(0, .ref 49), (1, .int x1), (2, .int x2), (3, .int x3)] [] (rH e g q c l) 0 0 = nrun xZ (xY (xfm b)) xDT f d 411 (if xCn .ge x3 ((Int8.ofInt (16)).toInt32) = true then 75 else 10) [(0, .ref 49), (1, .int x1), (2, .int x2), (3, .int x3)] [] (rH e g q c l) 0 0 := by
    intro f
    obtain ⟨y, cb, hj⟩ := mq_411
    rw [n_step (st' := [.int x3]) (pc' := 5) (lv' := [(0, .ref 49), (1, .int x1), (2, .int x2), (3, .int x3)]) (hp' := rH e g q c l) (i := .iload_n 3) (len := 1) rfl hj rfl rfl rfl]
    rw [n_step (st' := [.int (Int8.ofInt (16)).toInt32, .int x3]) (pc' := 7) (lv' := [(0, .ref 49), (1, .int x1), (2, .int x2), (3, .int x3)]) (hp' := rH e g q c l) (i := .bipush 16) (len := 2) rfl hj rfl rfl rfl]
    rw [n_step (st' := []) (pc' := (if xCn .ge x3 ((Int8.ofInt (16)).toInt32) = true then 75 else 10)) (lv' := [(0, .ref 49), (1, .int x1), (2, .int x2), (3, .int x3)]) (hp' := rH e g q c l) (i := .if_icmp .ge 68) (len := 3) rfl hj rfl rfl rfl]
  by_cases hc : xCn .ge x3 ((Int8.ofInt (16)).toInt32) = true
  · obtain ⟨f, h⟩ := h1 hc
    refine ⟨f + 3, ?_⟩
    rw [key, if_pos hc]
    exact nrun_ext f f _ _ R 411 75 [] [(0, .ref 49), (1, .int x1), (2, .int x2), (3, .int x3)] [] _ 0 0 122 (Nat.le_refl _) (Nat.le_refl _) (Nat.le_of_ble_eq_true rfl) (lvR_mk [] [0, 1, 2, 3] rfl rfl (by decide) (by decide) (fun _ h => nomatch h) (List.forall_mem_cons.mpr ⟨Or.inr rfl, (List.forall_mem_cons.mpr ⟨Or.inr rfl, (List.forall_mem_cons.mpr ⟨Or.inr rfl, (List.forall_mem_cons.mpr ⟨Or.inr rfl, (fun _ h => nomatch h)⟩)⟩)⟩)⟩)) h
  · obtain ⟨f, h⟩ := h2 hc
    refine ⟨f + 3, ?_⟩
    rw [key, if_neg hc]
    exact h
set_option maxRecDepth 100000 in
set_option maxHeartbeats 4000000 in
theorem bk_411_10 {b : Bool} {d : Nat} {x1 x2 x3 : Int32} {e : Nat → x_E} {g : Nat → Int32} {q : Nat → Int64} {c : Nat → Nat → Int32} {l : Nat → Nat → Int64} {R : Option Value × List x_E} (h1 : xCn .ne x1 ((Int32.ofInt (-1))) = true → rr b e d 411 24 [(0, .ref 49), (1, .int x1), (2, .int x2), (3, .int x3)] [.int x3, .ref 118] g q c l R) (h2 : ¬ xCn .ne x1 ((Int32.ofInt (-1))) = true → rr b e d 411 20 [(0, .ref 49), (1, .int x1), (2, .int x2), (3, .int x3)] [.int x3, .ref 118] g q c l R) : rr b e d 411 10 [(0, .ref 49), (1, .int x1), (2, .int x2), (3, .int x3)] [] g q c l R := by
  have key : ∀ f, nrun xZ (xY (xfm b)) xDT (f + 6) d 411 10 [(0, .ref 49), (1, .int x1), (2, .int x2), (3, .int x3)] [] (rH e g q c l) 0 0 = nrun xZ (xY (xfm b)) xDT f d 411 (if xCn .ne x1 ((Int32.ofInt (-1))) = true then 24 else 20) [(0, .ref 49), (1, .int x1), (2, .int x2), (3, .int x3)] [.int x3, .ref 118] (rH e g q c l) 0 0 := by
    intro f
    obtain ⟨y, cb, hj⟩ := mq_411
    rw [n_step (st' := [.ref 49]) (pc' := 11) (lv' := [(0, .ref 49), (1, .int x1), (2, .int x2), (3, .int x3)]) (hp' := rH e g q c l) (i := .aload_n 0) (len := 1) rfl hj rfl rfl rfl]
    rw [n_get (st' := [.ref 118]) (pc' := 14) (lv' := [(0, .ref 49), (1, .int x1), (2, .int x2), (3, .int x3)]) (hp' := rH e g q c l) (i := .getfield 225) (len := 3) rfl hj rfl rfl rfl rfl]
    rw [n_step (st' := [.int x3, .ref 118]) (pc' := 15) (lv' := [(0, .ref 49), (1, .int x1), (2, .int x2), (3, .int x3)]) (hp' := rH e g q c l) (i := .iload_n 3) (len := 1) rfl hj rfl rfl rfl]
    rw [n_step (st' := [.int x1, .int x3, .ref 118]) (pc' := 16) (lv' := [(0, .ref 49), (1, .int x1), (2, .int x2), (3, .int x3)]) (hp' := rH e g q c l) (i := .iload_n 1) (len := 1) rfl hj rfl rfl rfl]
    rw [n_step (st' := [.int (Int32.ofInt (-1)), .int x1, .int x3, .ref 118]) (pc' := 17) (lv' := [(0, .ref 49), (1, .int x1), (2, .int x2), (3, .int x3)]) (hp' := rH e g q c l) (i := .iconst (-1)) (len := 1) rfl hj rfl rfl rfl]
    rw [n_step (st' := [.int x3, .ref 118]) (pc' := (if xCn .ne x1 ((Int32.ofInt (-1))) = true then 24 else 20)) (lv' := [(0, .ref 49), (1, .int x1), (2, .int x2), (3, .int x3)]) (hp' := rH e g q c l) (i := .if_icmp .ne 7) (len := 3) rfl hj rfl rfl rfl]
  by_cases hc : xCn .ne x1 ((Int32.ofInt (-1))) = true
  · obtain ⟨f, h⟩ := h1 hc
    refine ⟨f + 6, ?_⟩
    rw [key, if_pos hc]
    exact h
  · obtain ⟨f, h⟩ := h2 hc
    refine ⟨f + 6, ?_⟩
    rw [key, if_neg hc]
    exact h
set_option maxRecDepth 100000 in
set_option maxHeartbeats 4000000 in
theorem bk_411_20 {b : Bool} {d : Nat} {t0 x1 x2 x3 : Int32} {e : Nat → x_E} {g : Nat → Int32} {q : Nat → Int64} {c : Nat → Nat → Int32} {l : Nat → Nat → Int64} {R : Option Value × List x_E} (h : rr b e d 411 26 [(0, .ref 49), (1, .int x1), (2, .int x2), (3, .int x3)] [.int (Int32.ofInt (-1)), .int t0, .ref 118] g q c l R) : rr b e d 411 20 [(0, .ref 49), (1, .int x1), (2, .int x2), (3, .int x3)] [.int t0, .ref 118] g q c l R := by
  obtain ⟨f, h⟩ := h
  refine ⟨f + 2, ?_⟩
  obtain ⟨y, cb, hj⟩ := mq_411
  rw [n_step (st' := [.int (Int32.ofInt (-1)), .int t0, .ref 118]) (pc' := 21) (lv' := [(0, .ref 49), (1, .int x1), (2, .int x2), (3, .int x3)]) (hp' := rH e g q c l) (i := .iconst (-1)) (len := 1) rfl hj rfl rfl rfl]
  rw [n_step (st' := [.int (Int32.ofInt (-1)), .int t0, .ref 118]) (pc' := 26) (lv' := [(0, .ref 49), (1, .int x1), (2, .int x2), (3, .int x3)]) (hp' := rH e g q c l) (i := .goto 5) (len := 3) rfl hj rfl rfl rfl]
  exact h
set_option maxRecDepth 100000 in
set_option maxHeartbeats 4000000 in
theorem bk_411_24 {b : Bool} {d : Nat} {t0 x1 x2 x3 : Int32} {e : Nat → x_E} {g : Nat → Int32} {q : Nat → Int64} {c : Nat → Nat → Int32} {l : Nat → Nat → Int64} {R : Option Value × List x_E} (h : rr b e d 411 26 [(0, .ref 49), (1, .int x1), (2, .int x2), (3, .int x3)] [.int (Int8.ofInt (-2)).toInt32, .int t0, .ref 118] g q c l R) : rr b e d 411 24 [(0, .ref 49), (1, .int x1), (2, .int x2), (3, .int x3)] [.int t0, .ref 118] g q c l R := by
  obtain ⟨f, h⟩ := h
  refine ⟨f + 1, ?_⟩
  obtain ⟨y, cb, hj⟩ := mq_411
  rw [n_step (st' := [.int (Int8.ofInt (-2)).toInt32, .int t0, .ref 118]) (pc' := 26) (lv' := [(0, .ref 49), (1, .int x1), (2, .int x2), (3, .int x3)]) (hp' := rH e g q c l) (i := .bipush (-2)) (len := 2) rfl hj rfl rfl rfl]
  exact h
set_option maxRecDepth 100000 in
set_option maxHeartbeats 4000000 in
theorem bk_411_26 {b : Bool} {d : Nat} {t0 t1 x1 x2 x3 : Int32} {e : Nat → x_E} {g : Nat → Int32} {q : Nat → Int64} {c : Nat → Nat → Int32} {l : Nat → Nat → Int64} {R : Option Value × List x_E} (hz0 : ¬ (t1 < 0 ∨ 16 ≤ (t1).toNatClampNeg)) (h1 : xCn .eq x1 ((Int32.ofInt (-1))) = true → rr b e d 411 69 [(0, .ref 49), (1, .int x1), (2, .int x2), (3, .int x3)] [] g q (updA c 118 (upd (c 118) (t1).toNatClampNeg t0)) l R) (h2 : ¬ xCn .eq x1 ((Int32.ofInt (-1))) = true → rr b e d 411 32 [(0, .ref 49), (1, .int x1), (2, .int x2), (3, .int x3)] [] g q (updA c 118 (upd (c 118) (t1).toNatClampNeg t0)) l R) : rr b e d 411 26 [(0, .ref 49), (1, .int x1), (2, .int x2), (3, .int x3)] [.int t0, .int t1, .ref 118] g q c l R := by
  have key : ∀ f, nrun xZ (xY (xfm b)) xDT (f + 4) d 411 26 [(0, .ref 49), (1, .int x1), (2, .int x2), (3, .int x3)] [.int t0, .int t1, .ref 118] (rH e g q c l) 0 0 = nrun xZ (xY (xfm b)) xDT f d 411 (if xCn .eq x1 ((Int32.ofInt (-1))) = true then 69 else 32) [(0, .ref 49), (1, .int x1), (2, .int x2), (3, .int x3)] [] (rH e g q (updA c 118 (upd (c 118) (t1).toNatClampNeg t0)) l) 0 0 := by
    intro f
    obtain ⟨y, cb, hj⟩ := mq_411
    rw [n_ias (st' := []) (hp' := rH e g q (updA c 118 (upd (c 118) (t1).toNatClampNeg t0)) l) rfl hj (ast_118 hz0)]
    rw [n_step (st' := [.int x1]) (pc' := 28) (lv' := [(0, .ref 49), (1, .int x1), (2, .int x2), (3, .int x3)]) (hp' := rH e g q (updA c 118 (upd (c 118) (t1).toNatClampNeg t0)) l) (i := .iload_n 1) (len := 1) rfl hj rfl rfl rfl]
    rw [n_step (st' := [.int (Int32.ofInt (-1)), .int x1]) (pc' := 29) (lv' := [(0, .ref 49), (1, .int x1), (2, .int x2), (3, .int x3)]) (hp' := rH e g q (updA c 118 (upd (c 118) (t1).toNatClampNeg t0)) l) (i := .iconst (-1)) (len := 1) rfl hj rfl rfl rfl]
    rw [n_step (st' := []) (pc' := (if xCn .eq x1 ((Int32.ofInt (-1))) = true then 69 else 32)) (lv' := [(0, .ref 49), (1, .int x1), (2, .int x2), (3, .int x3)]) (hp' := rH e g q (updA c 118 (upd (c 118) (t1).toNatClampNeg t0)) l) (i := .if_icmp .eq 40) (len := 3) rfl hj rfl rfl rfl]
  by_cases hc : xCn .eq x1 ((Int32.ofInt (-1))) = true
  · obtain ⟨f, h⟩ := h1 hc
    refine ⟨f + 4, ?_⟩
    rw [key, if_pos hc]
    exact h
  · obtain ⟨f, h⟩ := h2 hc
    refine ⟨f + 4, ?_⟩
    rw [key, if_neg hc]
    exact h
set_option maxRecDepth 100000 in
set_option maxHeartbeats 4000000 in
theorem bk_411_32 {b : Bool} {d : Nat} {x1 x2 x3 : Int32} {e : Nat → x_E} {g : Nat → Int32} {q : Nat → Int64} {c : Nat → Nat → Int32} {l : Nat → Nat → Int64} {R : Option Value × List x_E} (hz0 : ¬ (x1 < 0 ∨ 66000 ≤ (x1).toNatClampNeg)) (h1 : xCn .ne ((((c 91 (x1).toNatClampNeg) >>> (x3 &&& 31)) &&& (Int32.ofInt (1)))) ((Int32.ofInt (1))) = true → rr b e d 411 69 [(0, .ref 49), (1, .int x1), (2, .int x2), (3, .int x3)] [] g q c l R) (h2 : ¬ xCn .ne ((((c 91 (x1).toNatClampNeg) >>> (x3 &&& 31)) &&& (Int32.ofInt (1)))) ((Int32.ofInt (1))) = true → rr b e d 411 46 [(0, .ref 49), (1, .int x1), (2, .int x2), (3, .int x3)] [] g q c l R) : rr b e d 411 32 [(0, .ref 49), (1, .int x1), (2, .int x2), (3, .int x3)] [] g q c l R := by
  have key : ∀ f, nrun xZ (xY (xfm b)) xDT (f + 10) d 411 32 [(0, .ref 49), (1, .int x1), (2, .int x2), (3, .int x3)] [] (rH e g q c l) 0 0 = nrun xZ (xY (xfm b)) xDT f d 411 (if xCn .ne ((((c 91 (x1).toNatClampNeg) >>> (x3 &&& 31)) &&& (Int32.ofInt (1)))) ((Int32.ofInt (1))) = true then 69 else 46) [(0, .ref 49), (1, .int x1), (2, .int x2), (3, .int x3)] [] (rH e g q c l) 0 0 := by
    intro f
    obtain ⟨y, cb, hj⟩ := mq_411
    rw [n_step (st' := [.ref 49]) (pc' := 33) (lv' := [(0, .ref 49), (1, .int x1), (2, .int x2), (3, .int x3)]) (hp' := rH e g q c l) (i := .aload_n 0) (len := 1) rfl hj rfl rfl rfl]
    rw [n_get (st' := [.ref 91]) (pc' := 36) (lv' := [(0, .ref 49), (1, .int x1), (2, .int x2), (3, .int x3)]) (hp' := rH e g q c l) (i := .getfield 143) (len := 3) rfl hj rfl rfl rfl rfl]
    rw [n_step (st' := [.int x1, .ref 91]) (pc' := 37) (lv' := [(0, .ref 49), (1, .int x1), (2, .int x2), (3, .int x3)]) (hp' := rH e g q c l) (i := .iload_n 1) (len := 1) rfl hj rfl rfl rfl]
    rw [n_ial (st' := [.int (c 91 (x1).toNatClampNeg)]) rfl hj (ald_91 hz0)]
    rw [n_step (st' := [.int x3, .int (c 91 (x1).toNatClampNeg)]) (pc' := 39) (lv' := [(0, .ref 49), (1, .int x1), (2, .int x2), (3, .int x3)]) (hp' := rH e g q c l) (i := .iload_n 3) (len := 1) rfl hj rfl rfl rfl]
    rw [n_step (st' := [.int ((c 91 (x1).toNatClampNeg) >>> (x3 &&& 31))]) (pc' := 40) (lv' := [(0, .ref 49), (1, .int x1), (2, .int x2), (3, .int x3)]) (hp' := rH e g q c l) (i := .ishr) (len := 1) rfl hj rfl rfl rfl]
    rw [n_step (st' := [.int (Int32.ofInt (1)), .int ((c 91 (x1).toNatClampNeg) >>> (x3 &&& 31))]) (pc' := 41) (lv' := [(0, .ref 49), (1, .int x1), (2, .int x2), (3, .int x3)]) (hp' := rH e g q c l) (i := .iconst 1) (len := 1) rfl hj rfl rfl rfl]
    rw [n_step (st' := [.int (((c 91 (x1).toNatClampNeg) >>> (x3 &&& 31)) &&& (Int32.ofInt (1)))]) (pc' := 42) (lv' := [(0, .ref 49), (1, .int x1), (2, .int x2), (3, .int x3)]) (hp' := rH e g q c l) (i := .iand) (len := 1) rfl hj rfl rfl rfl]
    rw [n_step (st' := [.int (Int32.ofInt (1)), .int (((c 91 (x1).toNatClampNeg) >>> (x3 &&& 31)) &&& (Int32.ofInt (1)))]) (pc' := 43) (lv' := [(0, .ref 49), (1, .int x1), (2, .int x2), (3, .int x3)]) (hp' := rH e g q c l) (i := .iconst 1) (len := 1) rfl hj rfl rfl rfl]
    rw [n_step (st' := []) (pc' := (if xCn .ne ((((c 91 (x1).toNatClampNeg) >>> (x3 &&& 31)) &&& (Int32.ofInt (1)))) ((Int32.ofInt (1))) = true then 69 else 46)) (lv' := [(0, .ref 49), (1, .int x1), (2, .int x2), (3, .int x3)]) (hp' := rH e g q c l) (i := .if_icmp .ne 26) (len := 3) rfl hj rfl rfl rfl]
  by_cases hc : xCn .ne ((((c 91 (x1).toNatClampNeg) >>> (x3 &&& 31)) &&& (Int32.ofInt (1)))) ((Int32.ofInt (1))) = true
  · obtain ⟨f, h⟩ := h1 hc
    refine ⟨f + 10, ?_⟩
    rw [key, if_pos hc]
    exact h
  · obtain ⟨f, h⟩ := h2 hc
    refine ⟨f + 10, ?_⟩
    rw [key, if_neg hc]
    exact h
set_option maxRecDepth 100000 in
set_option maxHeartbeats 4000000 in
theorem bk_411_46 {b : Bool} {d : Nat} {x1 x2 x3 : Int32} {e : Nat → x_E} {g : Nat → Int32} {q : Nat → Int64} {c : Nat → Nat → Int32} {l : Nat → Nat → Int64} {R : Option Value × List x_E} (hz0 : ¬ (x1 < 0 ∨ 66000 ≤ (x1).toNatClampNeg)) (hz1 : ¬ (((c 89 (x1).toNatClampNeg) + x2) < 0 ∨ 80000 ≤ (((c 89 (x1).toNatClampNeg) + x2)).toNatClampNeg)) (hz2 : ¬ (x3 < 0 ∨ 16 ≤ (x3).toNatClampNeg)) (h : rr b e d 411 69 [(0, .ref 49), (1, .int x1), (2, .int (x2 + (Int32.ofInt (1)))), (3, .int x3)] [] g q (updA c 118 (upd (c 118) (x3).toNatClampNeg ((c 92 (((c 89 (x1).toNatClampNeg) + x2)).toNatClampNeg)))) l R) : rr b e d 411 46 [(0, .ref 49), (1, .int x1), (2, .int x2), (3, .int x3)] [] g q c l R := by
  obtain ⟨f, h⟩ := h
  refine ⟨f + 17, ?_⟩
  obtain ⟨y, cb, hj⟩ := mq_411
  rw [n_step (st' := [.ref 49]) (pc' := 47) (lv' := [(0, .ref 49), (1, .int x1), (2, .int x2), (3, .int x3)]) (hp' := rH e g q c l) (i := .aload_n 0) (len := 1) rfl hj rfl rfl rfl]
  rw [n_get (st' := [.ref 118]) (pc' := 50) (lv' := [(0, .ref 49), (1, .int x1), (2, .int x2), (3, .int x3)]) (hp' := rH e g q c l) (i := .getfield 225) (len := 3) rfl hj rfl rfl rfl rfl]
  rw [n_step (st' := [.int x3, .ref 118]) (pc' := 51) (lv' := [(0, .ref 49), (1, .int x1), (2, .int x2), (3, .int x3)]) (hp' := rH e g q c l) (i := .iload_n 3) (len := 1) rfl hj rfl rfl rfl]
  rw [n_step (st' := [.ref 49, .int x3, .ref 118]) (pc' := 52) (lv' := [(0, .ref 49), (1, .int x1), (2, .int x2), (3, .int x3)]) (hp' := rH e g q c l) (i := .aload_n 0) (len := 1) rfl hj rfl rfl rfl]
  rw [n_get (st' := [.ref 92, .int x3, .ref 118]) (pc' := 55) (lv' := [(0, .ref 49), (1, .int x1), (2, .int x2), (3, .int x3)]) (hp' := rH e g q c l) (i := .getfield 147) (len := 3) rfl hj rfl rfl rfl rfl]
  rw [n_step (st' := [.ref 49, .ref 92, .int x3, .ref 118]) (pc' := 56) (lv' := [(0, .ref 49), (1, .int x1), (2, .int x2), (3, .int x3)]) (hp' := rH e g q c l) (i := .aload_n 0) (len := 1) rfl hj rfl rfl rfl]
  rw [n_get (st' := [.ref 89, .ref 92, .int x3, .ref 118]) (pc' := 59) (lv' := [(0, .ref 49), (1, .int x1), (2, .int x2), (3, .int x3)]) (hp' := rH e g q c l) (i := .getfield 137) (len := 3) rfl hj rfl rfl rfl rfl]
  rw [n_step (st' := [.int x1, .ref 89, .ref 92, .int x3, .ref 118]) (pc' := 60) (lv' := [(0, .ref 49), (1, .int x1), (2, .int x2), (3, .int x3)]) (hp' := rH e g q c l) (i := .iload_n 1) (len := 1) rfl hj rfl rfl rfl]
  rw [n_ial (st' := [.int (c 89 (x1).toNatClampNeg), .ref 92, .int x3, .ref 118]) rfl hj (ald_89 hz0)]
  rw [n_step (st' := [.int x2, .int (c 89 (x1).toNatClampNeg), .ref 92, .int x3, .ref 118]) (pc' := 62) (lv' := [(0, .ref 49), (1, .int x1), (2, .int x2), (3, .int x3)]) (hp' := rH e g q c l) (i := .iload_n 2) (len := 1) rfl hj rfl rfl rfl]
  rw [n_step (st' := [.int ((c 89 (x1).toNatClampNeg) + x2), .ref 92, .int x3, .ref 118]) (pc' := 63) (lv' := [(0, .ref 49), (1, .int x1), (2, .int x2), (3, .int x3)]) (hp' := rH e g q c l) (i := .iadd) (len := 1) rfl hj rfl rfl rfl]
  rw [n_ial (st' := [.int (c 92 (((c 89 (x1).toNatClampNeg) + x2)).toNatClampNeg), .int x3, .ref 118]) rfl hj (ald_92 hz1)]
  rw [n_ias (st' := []) (hp' := rH e g q (updA c 118 (upd (c 118) (x3).toNatClampNeg ((c 92 (((c 89 (x1).toNatClampNeg) + x2)).toNatClampNeg)))) l) rfl hj (ast_118 hz2)]
  rw [n_step (st' := [.int x2]) (pc' := 66) (lv' := [(0, .ref 49), (1, .int x1), (2, .int x2), (3, .int x3)]) (hp' := rH e g q (updA c 118 (upd (c 118) (x3).toNatClampNeg ((c 92 (((c 89 (x1).toNatClampNeg) + x2)).toNatClampNeg)))) l) (i := .iload_n 2) (len := 1) rfl hj rfl rfl rfl]
  rw [n_step (st' := [.int (Int32.ofInt (1)), .int x2]) (pc' := 67) (lv' := [(0, .ref 49), (1, .int x1), (2, .int x2), (3, .int x3)]) (hp' := rH e g q (updA c 118 (upd (c 118) (x3).toNatClampNeg ((c 92 (((c 89 (x1).toNatClampNeg) + x2)).toNatClampNeg)))) l) (i := .iconst 1) (len := 1) rfl hj rfl rfl rfl]
  rw [n_step (st' := [.int (x2 + (Int32.ofInt (1)))]) (pc' := 68) (lv' := [(0, .ref 49), (1, .int x1), (2, .int x2), (3, .int x3)]) (hp' := rH e g q (updA c 118 (upd (c 118) (x3).toNatClampNeg ((c 92 (((c 89 (x1).toNatClampNeg) + x2)).toNatClampNeg)))) l) (i := .iadd) (len := 1) rfl hj rfl rfl rfl]
  rw [n_step (st' := []) (pc' := 69) (lv' := [(2, .int (x2 + (Int32.ofInt (1)))), (0, .ref 49), (1, .int x1), (3, .int x3)]) (hp' := rH e g q (updA c 118 (upd (c 118) (x3).toNatClampNeg ((c 92 (((c 89 (x1).toNatClampNeg) + x2)).toNatClampNeg)))) l) (i := .istore_n 2) (len := 1) rfl hj rfl rfl rfl]
  exact nrun_ext f f _ _ R 411 69 [(0, .ref 49), (1, .int x1), (2, .int (x2 + (Int32.ofInt (1)))), (3, .int x3)] [(2, .int (x2 + (Int32.ofInt (1)))), (0, .ref 49), (1, .int x1), (3, .int x3)] [] _ 0 0 122 (Nat.le_refl _) (Nat.le_refl _) (Nat.le_of_ble_eq_true rfl) (lvR_mk [0, 1, 2, 3] [2, 0, 1, 3] rfl rfl (by decide) (by decide) (List.forall_mem_cons.mpr ⟨(List.mem_cons_of_mem _ List.mem_cons_self), (List.forall_mem_cons.mpr ⟨(List.mem_cons_of_mem _ (List.mem_cons_of_mem _ List.mem_cons_self)), (List.forall_mem_cons.mpr ⟨List.mem_cons_self, (List.forall_mem_cons.mpr ⟨(List.mem_cons_of_mem _ (List.mem_cons_of_mem _ (List.mem_cons_of_mem _ List.mem_cons_self))), (fun _ h => nomatch h)⟩)⟩)⟩)⟩) (List.forall_mem_cons.mpr ⟨Or.inl (List.mem_cons_of_mem _ (List.mem_cons_of_mem _ List.mem_cons_self)), (List.forall_mem_cons.mpr ⟨Or.inl List.mem_cons_self, (List.forall_mem_cons.mpr ⟨Or.inl (List.mem_cons_of_mem _ List.mem_cons_self), (List.forall_mem_cons.mpr ⟨Or.inl (List.mem_cons_of_mem _ (List.mem_cons_of_mem _ (List.mem_cons_of_mem _ List.mem_cons_self))), (fun _ h => nomatch h)⟩)⟩)⟩)⟩)) h
set_option maxRecDepth 100000 in
set_option maxHeartbeats 4000000 in
theorem bk_411_69 {b : Bool} {d : Nat} {x1 x2 x3 : Int32} {e : Nat → x_E} {g : Nat → Int32} {q : Nat → Int64} {c : Nat → Nat → Int32} {l : Nat → Nat → Int64} {R : Option Value × List x_E} (h : rr b e d 411 4 [(0, .ref 49), (1, .int x1), (2, .int x2), (3, .int (x3 + Int32.ofInt (1)))] [] g q c l R) : rr b e d 411 69 [(0, .ref 49), (1, .int x1), (2, .int x2), (3, .int x3)] [] g q c l R := by
  obtain ⟨f, h⟩ := h
  refine ⟨f + 2, ?_⟩
  obtain ⟨y, cb, hj⟩ := mq_411
  rw [n_step (st' := []) (pc' := 72) (lv' := [(3, .int (x3 + Int32.ofInt (1))), (0, .ref 49), (1, .int x1), (2, .int x2)]) (hp' := rH e g q c l) (i := .iinc 3 1) (len := 3) rfl hj rfl rfl rfl]
  rw [n_step (st' := []) (pc' := 4) (lv' := [(3, .int (x3 + Int32.ofInt (1))), (0, .ref 49), (1, .int x1), (2, .int x2)]) (hp' := rH e g q c l) (i := .goto (-68)) (len := 3) rfl hj rfl rfl rfl]
  exact nrun_ext f f _ _ R 411 4 [(0, .ref 49), (1, .int x1), (2, .int x2), (3, .int (x3 + Int32.ofInt (1)))] [(3, .int (x3 + Int32.ofInt (1))), (0, .ref 49), (1, .int x1), (2, .int x2)] [] _ 0 0 122 (Nat.le_refl _) (Nat.le_refl _) (Nat.le_of_ble_eq_true rfl) (lvR_mk [0, 1, 2, 3] [3, 0, 1, 2] rfl rfl (by decide) (by decide) (List.forall_mem_cons.mpr ⟨(List.mem_cons_of_mem _ List.mem_cons_self), (List.forall_mem_cons.mpr ⟨(List.mem_cons_of_mem _ (List.mem_cons_of_mem _ List.mem_cons_self)), (List.forall_mem_cons.mpr ⟨(List.mem_cons_of_mem _ (List.mem_cons_of_mem _ (List.mem_cons_of_mem _ List.mem_cons_self))), (List.forall_mem_cons.mpr ⟨List.mem_cons_self, (fun _ h => nomatch h)⟩)⟩)⟩)⟩) (List.forall_mem_cons.mpr ⟨Or.inl (List.mem_cons_of_mem _ (List.mem_cons_of_mem _ (List.mem_cons_of_mem _ List.mem_cons_self))), (List.forall_mem_cons.mpr ⟨Or.inl List.mem_cons_self, (List.forall_mem_cons.mpr ⟨Or.inl (List.mem_cons_of_mem _ List.mem_cons_self), (List.forall_mem_cons.mpr ⟨Or.inl (List.mem_cons_of_mem _ (List.mem_cons_of_mem _ List.mem_cons_self)), (fun _ h => nomatch h)⟩)⟩)⟩)⟩)) h
set_option maxRecDepth 100000 in
set_option maxHeartbeats 4000000 in
theorem bk_411_75 {b : Bool} {d : Nat} {e : Nat → x_E} {g : Nat → Int32} {q : Nat → Int64} {c : Nat → Nat → Int32} {l : Nat → Nat → Int64} : rr b e d 411 75 [] [] g q c l (none, rH e g q c l) := by
  refine ⟨0 + 1, ?_⟩
  obtain ⟨y, cb, hj⟩ := mq_411
  exact n_ret rfl hj rfl rfl rfl
set_option maxRecDepth 100000 in
set_option maxHeartbeats 4000000 in
theorem bk_412_0 {b : Bool} {d : Nat} {e : Nat → x_E} {g : Nat → Int32} {q : Nat → Int64} {c : Nat → Nat → Int32} {l : Nat → Nat → Int64} {g' : Nat → Int32} {q' : Nat → Int64} {c' : Nat → Nat → Int32} {l' : Nat → Nat → Int64} {v : Int32} {R : Option Value × List x_E} (hc : rr b e d 337 0 [(0, .ref 49)] [] g q c l (some (.int v), rH e g' q' c' l')) (h : rr b e (d + 1) 412 4 [(0, .ref 49)] [.int v] g' q' c' l' R) : rr b e (d + 1) 412 0 [(0, .ref 49)] [] g q c l R := by
  obtain ⟨f1, hc⟩ := hc
  obtain ⟨f2, h⟩ := h
  obtain ⟨f, hf1, hf2⟩ : ∃ f, f1 ≤ f ∧ f2 ≤ f := ⟨max f1 f2, Nat.le_max_left _ _, Nat.le_max_right _ _⟩
  have hc := nrun_fuel f1 f _ _ _ _ _ _ _ _ _ hf1 hc
  have h := nrun_fuel f2 f _ _ _ _ _ _ _ _ _ hf2 h
  refine ⟨f + 2, ?_⟩
  obtain ⟨y, cb, hj⟩ := mq_412
  rw [n_step (st' := [.ref 49]) (pc' := 1) (lv' := [(0, .ref 49)]) (hp' := rH e g q c l) (i := .aload_n 0) (len := 1) rfl hj rfl rfl rfl]
  obtain ⟨y2, cb2, hj2⟩ := mq_337
  rw [n_call (f := f) (d := d) (ki := 0) (idx := 337) (j' := 337) (kd := 0) (M' := (y2, cb2, 1, some .boolean, 12, 0, 0, 0)) (avs := [.ref 49]) (r := []) (rv := some (.int v)) (hp1 := rH e g' q' c' l') rfl hj rfl rfl rfl rfl (rq_n rfl rfl hj2 rfl rfl) rfl hc (Nat.le_of_ble_eq_true rfl)]
  exact h
set_option maxRecDepth 100000 in
set_option maxHeartbeats 4000000 in
theorem bk_412_4 {b : Bool} {d : Nat} {t0 : Int32} {e : Nat → x_E} {g : Nat → Int32} {q : Nat → Int64} {c : Nat → Nat → Int32} {l : Nat → Nat → Int64} {R : Option Value × List x_E} (h1 : xCn .eq t0 0 = true → rr b e d 412 8 [(0, .ref 49)] [] g q c l R) (h2 : ¬ xCn .eq t0 0 = true → rr b e d 412 7 [] [] g q c l R) : rr b e d 412 4 [(0, .ref 49)] [.int t0] g q c l R := by
  have key : ∀ f, nrun xZ (xY (xfm b)) xDT (f + 1) d 412 4 [(0, .ref 49)] [.int t0] (rH e g q c l) 0 0 = nrun xZ (xY (xfm b)) xDT f d 412 (if xCn .eq t0 0 = true then 8 else 7) [(0, .ref 49)] [] (rH e g q c l) 0 0 := by
    intro f
    obtain ⟨y, cb, hj⟩ := mq_412
    rw [n_step (st' := []) (pc' := (if xCn .eq t0 0 = true then 8 else 7)) (lv' := [(0, .ref 49)]) (hp' := rH e g q c l) (i := .ifCond .eq 4) (len := 3) rfl hj rfl rfl rfl]
  by_cases hc : xCn .eq t0 0 = true
  · obtain ⟨f, h⟩ := h1 hc
    refine ⟨f + 1, ?_⟩
    rw [key, if_pos hc]
    exact h
  · obtain ⟨f, h⟩ := h2 hc
    refine ⟨f + 1, ?_⟩
    rw [key, if_neg hc]
    exact nrun_ext f f _ _ R 412 7 [] [(0, .ref 49)] [] _ 0 0 122 (Nat.le_refl _) (Nat.le_refl _) (Nat.le_of_ble_eq_true rfl) (lvR_mk [] [0] rfl rfl (by decide) (by decide) (fun _ h => nomatch h) (List.forall_mem_cons.mpr ⟨Or.inr rfl, (fun _ h => nomatch h)⟩)) h
set_option maxRecDepth 100000 in
set_option maxHeartbeats 4000000 in
theorem bk_412_7 {b : Bool} {d : Nat} {e : Nat → x_E} {g : Nat → Int32} {q : Nat → Int64} {c : Nat → Nat → Int32} {l : Nat → Nat → Int64} : rr b e d 412 7 [] [] g q c l (none, rH e g q c l) := by
  refine ⟨0 + 1, ?_⟩
  obtain ⟨y, cb, hj⟩ := mq_412
  exact n_ret rfl hj rfl rfl rfl
set_option maxRecDepth 100000 in
set_option maxHeartbeats 4000000 in
theorem bk_412_8 {b : Bool} {d : Nat} {e : Nat → x_E} {g : Nat → Int32} {q : Nat → Int64} {c : Nat → Nat → Int32} {l : Nat → Nat → Int64} {R : Option Value × List x_E} (h1 : xCn .ne ((g 10)) ((Int32.ofInt (4))) = true → rr b e d 412 23 [(0, .ref 49)] [] g q c l R) (h2 : ¬ xCn .ne ((g 10)) ((Int32.ofInt (4))) = true → rr b e d 412 16 [(0, .ref 49)] [] g q c l R) : rr b e d 412 8 [(0, .ref 49)] [] g q c l R := by
  have key : ∀ f, nrun xZ (xY (xfm b)) xDT (f + 4) d 412 8 [(0, .ref 49)] [] (rH e g q c l) 0 0 = nrun xZ (xY (xfm b)) xDT f d 412 (if xCn .ne ((g 10)) ((Int32.ofInt (4))) = true then 23 else 16) [(0, .ref 49)] [] (rH e g q c l) 0 0 := by
    intro f
    obtain ⟨y, cb, hj⟩ := mq_412
    rw [n_step (st' := [.ref 49]) (pc' := 9) (lv' := [(0, .ref 49)]) (hp' := rH e g q c l) (i := .aload_n 0) (len := 1) rfl hj rfl rfl rfl]
    rw [n_get (st' := [.int (g 10)]) (pc' := 12) (lv' := [(0, .ref 49)]) (hp' := rH e g q c l) (i := .getfield 273) (len := 3) rfl hj rfl rfl rfl rfl]
    rw [n_step (st' := [.int (Int32.ofInt (4)), .int (g 10)]) (pc' := 13) (lv' := [(0, .ref 49)]) (hp' := rH e g q c l) (i := .iconst 4) (len := 1) rfl hj rfl rfl rfl]
    rw [n_step (st' := []) (pc' := (if xCn .ne ((g 10)) ((Int32.ofInt (4))) = true then 23 else 16)) (lv' := [(0, .ref 49)]) (hp' := rH e g q c l) (i := .if_icmp .ne 10) (len := 3) rfl hj rfl rfl rfl]
  by_cases hc : xCn .ne ((g 10)) ((Int32.ofInt (4))) = true
  · obtain ⟨f, h⟩ := h1 hc
    refine ⟨f + 4, ?_⟩
    rw [key, if_pos hc]
    exact h
  · obtain ⟨f, h⟩ := h2 hc
    refine ⟨f + 4, ?_⟩
    rw [key, if_neg hc]
    exact h
set_option maxRecDepth 100000 in
set_option maxHeartbeats 4000000 in
theorem bk_412_16 {b : Bool} {d : Nat} {e : Nat → x_E} {g : Nat → Int32} {q : Nat → Int64} {c : Nat → Nat → Int32} {l : Nat → Nat → Int64} {R : Option Value × List x_E} (h : rr b e d 412 24 [(0, .ref 49)] [.int (g 13)] g q c l R) : rr b e d 412 16 [(0, .ref 49)] [] g q c l R := by
  obtain ⟨f, h⟩ := h
  refine ⟨f + 3, ?_⟩
  obtain ⟨y, cb, hj⟩ := mq_412
  rw [n_step (st' := [.ref 49]) (pc' := 17) (lv' := [(0, .ref 49)]) (hp' := rH e g q c l) (i := .aload_n 0) (len := 1) rfl hj rfl rfl rfl]
  rw [n_get (st' := [.int (g 13)]) (pc' := 20) (lv' := [(0, .ref 49)]) (hp' := rH e g q c l) (i := .getfield 270) (len := 3) rfl hj rfl rfl rfl rfl]
  rw [n_step (st' := [.int (g 13)]) (pc' := 24) (lv' := [(0, .ref 49)]) (hp' := rH e g q c l) (i := .goto 4) (len := 3) rfl hj rfl rfl rfl]
  exact h
set_option maxRecDepth 100000 in
set_option maxHeartbeats 4000000 in
theorem bk_412_23 {b : Bool} {d : Nat} {e : Nat → x_E} {g : Nat → Int32} {q : Nat → Int64} {c : Nat → Nat → Int32} {l : Nat → Nat → Int64} {R : Option Value × List x_E} (h : rr b e d 412 24 [(0, .ref 49)] [.int (Int32.ofInt (-1))] g q c l R) : rr b e d 412 23 [(0, .ref 49)] [] g q c l R := by
  obtain ⟨f, h⟩ := h
  refine ⟨f + 1, ?_⟩
  obtain ⟨y, cb, hj⟩ := mq_412
  rw [n_step (st' := [.int (Int32.ofInt (-1))]) (pc' := 24) (lv' := [(0, .ref 49)]) (hp' := rH e g q c l) (i := .iconst (-1)) (len := 1) rfl hj rfl rfl rfl]
  exact h
set_option maxRecDepth 100000 in
set_option maxHeartbeats 4000000 in
theorem bk_412_24 {b : Bool} {d : Nat} {t0 : Int32} {e : Nat → x_E} {g : Nat → Int32} {q : Nat → Int64} {c : Nat → Nat → Int32} {l : Nat → Nat → Int64} {R : Option Value × List x_E} (h1 : xCn .ge t0 ((Int32.ofInt (5))) = true → rr b e d 412 40 [(0, .ref 49), (1, .int t0), (2, .int (g 11))] [] g q c l R) (h2 : ¬ xCn .ge t0 ((Int32.ofInt (5))) = true → rr b e d 412 35 [(0, .ref 49)] [] g q c l R) : rr b e d 412 24 [(0, .ref 49)] [.int t0] g q c l R := by
  have key : ∀ f, nrun xZ (xY (xfm b)) xDT (f + 7) d 412 24 [(0, .ref 49)] [.int t0] (rH e g q c l) 0 0 = nrun xZ (xY (xfm b)) xDT f d 412 (if xCn .ge t0 ((Int32.ofInt (5))) = true then 40 else 35) [(2, .int (g 11)), (1, .int t0), (0, .ref 49)] [] (rH e g q c l) 0 0 := by
    intro f
    obtain ⟨y, cb, hj⟩ := mq_412
    rw [n_step (st' := []) (pc' := 25) (lv' := [(1, .int t0), (0, .ref 49)]) (hp' := rH e g q c l) (i := .istore_n 1) (len := 1) rfl hj rfl rfl rfl]
    rw [n_step (st' := [.ref 49]) (pc' := 26) (lv' := [(1, .int t0), (0, .ref 49)]) (hp' := rH e g q c l) (i := .aload_n 0) (len := 1) rfl hj rfl rfl rfl]
    rw [n_get (st' := [.int (g 11)]) (pc' := 29) (lv' := [(1, .int t0), (0, .ref 49)]) (hp' := rH e g q c l) (i := .getfield 257) (len := 3) rfl hj rfl rfl rfl rfl]
    rw [n_step (st' := []) (pc' := 30) (lv' := [(2, .int (g 11)), (1, .int t0), (0, .ref 49)]) (hp' := rH e g q c l) (i := .istore_n 2) (len := 1) rfl hj rfl rfl rfl]
    rw [n_step (st' := [.int t0]) (pc' := 31) (lv' := [(2, .int (g 11)), (1, .int t0), (0, .ref 49)]) (hp' := rH e g q c l) (i := .iload_n 1) (len := 1) rfl hj rfl rfl rfl]
    rw [n_step (st' := [.int (Int32.ofInt (5)), .int t0]) (pc' := 32) (lv' := [(2, .int (g 11)), (1, .int t0), (0, .ref 49)]) (hp' := rH e g q c l) (i := .iconst 5) (len := 1) rfl hj rfl rfl rfl]
    rw [n_step (st' := []) (pc' := (if xCn .ge t0 ((Int32.ofInt (5))) = true then 40 else 35)) (lv' := [(2, .int (g 11)), (1, .int t0), (0, .ref 49)]) (hp' := rH e g q c l) (i := .if_icmp .ge 8) (len := 3) rfl hj rfl rfl rfl]
  by_cases hc : xCn .ge t0 ((Int32.ofInt (5))) = true
  · obtain ⟨f, h⟩ := h1 hc
    refine ⟨f + 7, ?_⟩
    rw [key, if_pos hc]
    exact nrun_ext f f _ _ R 412 40 [(0, .ref 49), (1, .int t0), (2, .int (g 11))] [(2, .int (g 11)), (1, .int t0), (0, .ref 49)] [] _ 0 0 122 (Nat.le_refl _) (Nat.le_refl _) (Nat.le_of_ble_eq_true rfl) (lvR_mk [0, 1, 2] [2, 1, 0] rfl rfl (by decide) (by decide) (List.forall_mem_cons.mpr ⟨(List.mem_cons_of_mem _ (List.mem_cons_of_mem _ List.mem_cons_self)), (List.forall_mem_cons.mpr ⟨(List.mem_cons_of_mem _ List.mem_cons_self), (List.forall_mem_cons.mpr ⟨List.mem_cons_self, (fun _ h => nomatch h)⟩)⟩)⟩) (List.forall_mem_cons.mpr ⟨Or.inl (List.mem_cons_of_mem _ (List.mem_cons_of_mem _ List.mem_cons_self)), (List.forall_mem_cons.mpr ⟨Or.inl (List.mem_cons_of_mem _ List.mem_cons_self), (List.forall_mem_cons.mpr ⟨Or.inl List.mem_cons_self, (fun _ h => nomatch h)⟩)⟩)⟩)) h
  · obtain ⟨f, h⟩ := h2 hc
    refine ⟨f + 7, ?_⟩
    rw [key, if_neg hc]
    exact nrun_ext f f _ _ R 412 35 [(0, .ref 49)] [(2, .int (g 11)), (1, .int t0), (0, .ref 49)] [] _ 0 0 122 (Nat.le_refl _) (Nat.le_refl _) (Nat.le_of_ble_eq_true rfl) (lvR_mk [0] [2, 1, 0] rfl rfl (by decide) (by decide) (List.forall_mem_cons.mpr ⟨(List.mem_cons_of_mem _ (List.mem_cons_of_mem _ List.mem_cons_self)), (fun _ h => nomatch h)⟩) (List.forall_mem_cons.mpr ⟨Or.inr rfl, (List.forall_mem_cons.mpr ⟨Or.inr rfl, (List.forall_mem_cons.mpr ⟨Or.inl List.mem_cons_self, (fun _ h => nomatch h)⟩)⟩)⟩)) h
set_option maxRecDepth 100000 in
set_option maxHeartbeats 4000000 in
theorem bk_412_35 {b : Bool} {d : Nat} {e : Nat → x_E} {g : Nat → Int32} {q : Nat → Int64} {c : Nat → Nat → Int32} {l : Nat → Nat → Int64} {g' : Nat → Int32} {q' : Nat → Int64} {c' : Nat → Nat → Int32} {l' : Nat → Nat → Int64} {R : Option Value × List x_E} (hc : rr b e d 342 0 [(0, .ref 49)] [] g q c l (none, rH e g' q' c' l')) (h : rr b e (d + 1) 412 39 [] [] g' q' c' l' R) : rr b e (d + 1) 412 35 [(0, .ref 49)] [] g q c l R := by
  obtain ⟨f1, hc⟩ := hc
  obtain ⟨f2, h⟩ := h
  obtain ⟨f, hf1, hf2⟩ : ∃ f, f1 ≤ f ∧ f2 ≤ f := ⟨max f1 f2, Nat.le_max_left _ _, Nat.le_max_right _ _⟩
  have hc := nrun_fuel f1 f _ _ _ _ _ _ _ _ _ hf1 hc
  have h := nrun_fuel f2 f _ _ _ _ _ _ _ _ _ hf2 h
  refine ⟨f + 2, ?_⟩
  obtain ⟨y, cb, hj⟩ := mq_412
  rw [n_step (st' := [.ref 49]) (pc' := 36) (lv' := [(0, .ref 49)]) (hp' := rH e g q c l) (i := .aload_n 0) (len := 1) rfl hj rfl rfl rfl]
  obtain ⟨y2, cb2, hj2⟩ := mq_342
  rw [n_call (f := f) (d := d) (ki := 0) (idx := 347) (j' := 342) (kd := 0) (M' := (y2, cb2, 1, none, 12, 0, 0, 0)) (avs := [.ref 49]) (r := []) (rv := none) (hp1 := rH e g' q' c' l') rfl hj rfl rfl rfl rfl (rq_n rfl rfl hj2 rfl rfl) rfl hc (Nat.le_of_ble_eq_true rfl)]
  exact nrun_ext f f _ _ R 412 39 [] [(0, .ref 49)] [] _ 0 0 122 (Nat.le_refl _) (Nat.le_refl _) (Nat.le_of_ble_eq_true rfl) (lvR_mk [] [0] rfl rfl (by decide) (by decide) (fun _ h => nomatch h) (List.forall_mem_cons.mpr ⟨Or.inr rfl, (fun _ h => nomatch h)⟩)) h
set_option maxRecDepth 100000 in
set_option maxHeartbeats 4000000 in
theorem bk_412_39 {b : Bool} {d : Nat} {e : Nat → x_E} {g : Nat → Int32} {q : Nat → Int64} {c : Nat → Nat → Int32} {l : Nat → Nat → Int64} : rr b e d 412 39 [] [] g q c l (none, rH e g q c l) := by
  refine ⟨0 + 1, ?_⟩
  obtain ⟨y, cb, hj⟩ := mq_412
  exact n_ret rfl hj rfl rfl rfl
set_option maxRecDepth 100000 in
set_option maxHeartbeats 4000000 in
theorem bk_412_40 {b : Bool} {d : Nat} {x1 x2 : Int32} {e : Nat → x_E} {g : Nat → Int32} {q : Nat → Int64} {c : Nat → Nat → Int32} {l : Nat → Nat → Int64} {g' : Nat → Int32} {q' : Nat → Int64} {c' : Nat → Nat → Int32} {l' : Nat → Nat → Int64} {R : Option Value × List x_E} (hc : rr b e d 322 0 [(0, .ref 49)] [] g q c l (none, rH e g' q' c' l')) (h : rr b e (d + 1) 412 44 [(0, .ref 49), (1, .int x1), (2, .int x2)] [] g' q' c' l' R) : rr b e (d + 1) 412 40 [(0, .ref 49), (1, .int x1), (2, .int x2)] [] g q c l R := by
  obtain ⟨f1, hc⟩ := hc
  obtain ⟨f2, h⟩ := h
  obtain ⟨f, hf1, hf2⟩ : ∃ f, f1 ≤ f ∧ f2 ≤ f := ⟨max f1 f2, Nat.le_max_left _ _, Nat.le_max_right _ _⟩
  have hc := nrun_fuel f1 f _ _ _ _ _ _ _ _ _ hf1 hc
  have h := nrun_fuel f2 f _ _ _ _ _ _ _ _ _ hf2 h
  refine ⟨f + 2, ?_⟩
  obtain ⟨y, cb, hj⟩ := mq_412
  rw [n_step (st' := [.ref 49]) (pc' := 41) (lv' := [(0, .ref 49), (1, .int x1), (2, .int x2)]) (hp' := rH e g q c l) (i := .aload_n 0) (len := 1) rfl hj rfl rfl rfl]
  obtain ⟨y2, cb2, hj2⟩ := mq_322
  rw [n_call (f := f) (d := d) (ki := 0) (idx := 344) (j' := 322) (kd := 0) (M' := (y2, cb2, 2, none, 12, 0, 0, 0)) (avs := [.ref 49]) (r := []) (rv := none) (hp1 := rH e g' q' c' l') rfl hj rfl rfl rfl rfl (rq_n rfl rfl hj2 rfl rfl) rfl hc (Nat.le_of_ble_eq_true rfl)]
  exact h
set_option maxRecDepth 100000 in
set_option maxHeartbeats 4000000 in
theorem bk_412_44 {b : Bool} {d : Nat} {x1 x2 : Int32} {e : Nat → x_E} {g : Nat → Int32} {q : Nat → Int64} {c : Nat → Nat → Int32} {l : Nat → Nat → Int64} {R : Option Value × List x_E} (h1 : xCn .ne x1 ((Int8.ofInt (15)).toInt32) = true → rr b e d 412 102 [(0, .ref 49), (1, .int x1)] [] g q c l R) (h2 : ¬ xCn .ne x1 ((Int8.ofInt (15)).toInt32) = true → rr b e d 412 50 [(0, .ref 49), (1, .int x1), (2, .int x2)] [] g q c l R) : rr b e d 412 44 [(0, .ref 49), (1, .int x1), (2, .int x2)] [] g q c l R := by
  have key : ∀ f, nrun xZ (xY (xfm b)) xDT (f + 3) d 412 44 [(0, .ref 49), (1, .int x1), (2, .int x2)] [] (rH e g q c l) 0 0 = nrun xZ (xY (xfm b)) xDT f d 412 (if xCn .ne x1 ((Int8.ofInt (15)).toInt32) = true then 102 else 50) [(0, .ref 49), (1, .int x1), (2, .int x2)] [] (rH e g q c l) 0 0 := by
    intro f
    obtain ⟨y, cb, hj⟩ := mq_412
    rw [n_step (st' := [.int x1]) (pc' := 45) (lv' := [(0, .ref 49), (1, .int x1), (2, .int x2)]) (hp' := rH e g q c l) (i := .iload_n 1) (len := 1) rfl hj rfl rfl rfl]
    rw [n_step (st' := [.int (Int8.ofInt (15)).toInt32, .int x1]) (pc' := 47) (lv' := [(0, .ref 49), (1, .int x1), (2, .int x2)]) (hp' := rH e g q c l) (i := .bipush 15) (len := 2) rfl hj rfl rfl rfl]
    rw [n_step (st' := []) (pc' := (if xCn .ne x1 ((Int8.ofInt (15)).toInt32) = true then 102 else 50)) (lv' := [(0, .ref 49), (1, .int x1), (2, .int x2)]) (hp' := rH e g q c l) (i := .if_icmp .ne 55) (len := 3) rfl hj rfl rfl rfl]
  by_cases hc : xCn .ne x1 ((Int8.ofInt (15)).toInt32) = true
  · obtain ⟨f, h⟩ := h1 hc
    refine ⟨f + 3, ?_⟩
    rw [key, if_pos hc]
    exact nrun_ext f f _ _ R 412 102 [(0, .ref 49), (1, .int x1)] [(0, .ref 49), (1, .int x1), (2, .int x2)] [] _ 0 0 122 (Nat.le_refl _) (Nat.le_refl _) (Nat.le_of_ble_eq_true rfl) (lvR_mk [0, 1] [0, 1, 2] rfl rfl (by decide) (by decide) (List.forall_mem_cons.mpr ⟨List.mem_cons_self, (List.forall_mem_cons.mpr ⟨(List.mem_cons_of_mem _ List.mem_cons_self), (fun _ h => nomatch h)⟩)⟩) (List.forall_mem_cons.mpr ⟨Or.inl List.mem_cons_self, (List.forall_mem_cons.mpr ⟨Or.inl (List.mem_cons_of_mem _ List.mem_cons_self), (List.forall_mem_cons.mpr ⟨Or.inr rfl, (fun _ h => nomatch h)⟩)⟩)⟩)) h
  · obtain ⟨f, h⟩ := h2 hc
    refine ⟨f + 3, ?_⟩
    rw [key, if_neg hc]
    exact h
set_option maxRecDepth 100000 in
set_option maxHeartbeats 4000000 in
theorem bk_412_50 {b : Bool} {d : Nat} {x1 x2 : Int32} {e : Nat → x_E} {g : Nat → Int32} {q : Nat → Int64} {c : Nat → Nat → Int32} {l : Nat → Nat → Int64} {R : Option Value × List x_E} (hz0 : ¬ ((Int32.ofInt (1)) < 0 ∨ 16 ≤ ((Int32.ofInt (1))).toNatClampNeg)) (h1 : xCn .eq ((c 118 ((Int32.ofInt (1))).toNatClampNeg)) ((Int32.ofInt (-1))) = true → rr b e d 412 91 [(0, .ref 49), (1, .int x1)] [] g q c l R) (h2 : ¬ xCn .eq ((c 118 ((Int32.ofInt (1))).toNatClampNeg)) ((Int32.ofInt (-1))) = true → rr b e d 412 60 [(0, .ref 49), (1, .int x1), (2, .int x2)] [] g q c l R) : rr b e d 412 50 [(0, .ref 49), (1, .int x1), (2, .int x2)] [] g q c l R := by
  have key : ∀ f, nrun xZ (xY (xfm b)) xDT (f + 6) d 412 50 [(0, .ref 49), (1, .int x1), (2, .int x2)] [] (rH e g q c l) 0 0 = nrun xZ (xY (xfm b)) xDT f d 412 (if xCn .eq ((c 118 ((Int32.ofInt (1))).toNatClampNeg)) ((Int32.ofInt (-1))) = true then 91 else 60) [(0, .ref 49), (1, .int x1), (2, .int x2)] [] (rH e g q c l) 0 0 := by
    intro f
    obtain ⟨y, cb, hj⟩ := mq_412
    rw [n_step (st' := [.ref 49]) (pc' := 51) (lv' := [(0, .ref 49), (1, .int x1), (2, .int x2)]) (hp' := rH e g q c l) (i := .aload_n 0) (len := 1) rfl hj rfl rfl rfl]
    rw [n_get (st' := [.ref 118]) (pc' := 54) (lv' := [(0, .ref 49), (1, .int x1), (2, .int x2)]) (hp' := rH e g q c l) (i := .getfield 225) (len := 3) rfl hj rfl rfl rfl rfl]
    rw [n_step (st' := [.int (Int32.ofInt (1)), .ref 118]) (pc' := 55) (lv' := [(0, .ref 49), (1, .int x1), (2, .int x2)]) (hp' := rH e g q c l) (i := .iconst 1) (len := 1) rfl hj rfl rfl rfl]
    rw [n_ial (st' := [.int (c 118 ((Int32.ofInt (1))).toNatClampNeg)]) rfl hj (ald_118 hz0)]
    rw [n_step (st' := [.int (Int32.ofInt (-1)), .int (c 118 ((Int32.ofInt (1))).toNatClampNeg)]) (pc' := 57) (lv' := [(0, .ref 49), (1, .int x1), (2, .int x2)]) (hp' := rH e g q c l) (i := .iconst (-1)) (len := 1) rfl hj rfl rfl rfl]
    rw [n_step (st' := []) (pc' := (if xCn .eq ((c 118 ((Int32.ofInt (1))).toNatClampNeg)) ((Int32.ofInt (-1))) = true then 91 else 60)) (lv' := [(0, .ref 49), (1, .int x1), (2, .int x2)]) (hp' := rH e g q c l) (i := .if_icmp .eq 34) (len := 3) rfl hj rfl rfl rfl]
  by_cases hc : xCn .eq ((c 118 ((Int32.ofInt (1))).toNatClampNeg)) ((Int32.ofInt (-1))) = true
  · obtain ⟨f, h⟩ := h1 hc
    refine ⟨f + 6, ?_⟩
    rw [key, if_pos hc]
    exact nrun_ext f f _ _ R 412 91 [(0, .ref 49), (1, .int x1)] [(0, .ref 49), (1, .int x1), (2, .int x2)] [] _ 0 0 122 (Nat.le_refl _) (Nat.le_refl _) (Nat.le_of_ble_eq_true rfl) (lvR_mk [0, 1] [0, 1, 2] rfl rfl (by decide) (by decide) (List.forall_mem_cons.mpr ⟨List.mem_cons_self, (List.forall_mem_cons.mpr ⟨(List.mem_cons_of_mem _ List.mem_cons_self), (fun _ h => nomatch h)⟩)⟩) (List.forall_mem_cons.mpr ⟨Or.inl List.mem_cons_self, (List.forall_mem_cons.mpr ⟨Or.inl (List.mem_cons_of_mem _ List.mem_cons_self), (List.forall_mem_cons.mpr ⟨Or.inr rfl, (fun _ h => nomatch h)⟩)⟩)⟩)) h
  · obtain ⟨f, h⟩ := h2 hc
    refine ⟨f + 6, ?_⟩
    rw [key, if_neg hc]
    exact h
set_option maxRecDepth 100000 in
set_option maxHeartbeats 4000000 in
theorem bk_412_60 {b : Bool} {d : Nat} {x1 x2 : Int32} {e : Nat → x_E} {g : Nat → Int32} {q : Nat → Int64} {c : Nat → Nat → Int32} {l : Nat → Nat → Int64} {R : Option Value × List x_E} (hz0 : ¬ ((Int32.ofInt (1)) < 0 ∨ 16 ≤ ((Int32.ofInt (1))).toNatClampNeg)) (h1 : xCn .eq ((c 118 ((Int32.ofInt (1))).toNatClampNeg)) ((Int8.ofInt (-2)).toInt32) = true → rr b e d 412 85 [(0, .ref 49), (1, .int x1), (2, .int x2)] [] g q c l R) (h2 : ¬ xCn .eq ((c 118 ((Int32.ofInt (1))).toNatClampNeg)) ((Int8.ofInt (-2)).toInt32) = true → rr b e d 412 71 [(0, .ref 49), (1, .int x1), (2, .int x2)] [] g q c l R) : rr b e d 412 60 [(0, .ref 49), (1, .int x1), (2, .int x2)] [] g q c l R := by
  have key : ∀ f, nrun xZ (xY (xfm b)) xDT (f + 6) d 412 60 [(0, .ref 49), (1, .int x1), (2, .int x2)] [] (rH e g q c l) 0 0 = nrun xZ (xY (xfm b)) xDT f d 412 (if xCn .eq ((c 118 ((Int32.ofInt (1))).toNatClampNeg)) ((Int8.ofInt (-2)).toInt32) = true then 85 else 71) [(0, .ref 49), (1, .int x1), (2, .int x2)] [] (rH e g q c l) 0 0 := by
    intro f
    obtain ⟨y, cb, hj⟩ := mq_412
    rw [n_step (st' := [.ref 49]) (pc' := 61) (lv' := [(0, .ref 49), (1, .int x1), (2, .int x2)]) (hp' := rH e g q c l) (i := .aload_n 0) (len := 1) rfl hj rfl rfl rfl]
    rw [n_get (st' := [.ref 118]) (pc' := 64) (lv' := [(0, .ref 49), (1, .int x1), (2, .int x2)]) (hp' := rH e g q c l) (i := .getfield 225) (len := 3) rfl hj rfl rfl rfl rfl]
    rw [n_step (st' := [.int (Int32.ofInt (1)), .ref 118]) (pc' := 65) (lv' := [(0, .ref 49), (1, .int x1), (2, .int x2)]) (hp' := rH e g q c l) (i := .iconst 1) (len := 1) rfl hj rfl rfl rfl]
    rw [n_ial (st' := [.int (c 118 ((Int32.ofInt (1))).toNatClampNeg)]) rfl hj (ald_118 hz0)]
    rw [n_step (st' := [.int (Int8.ofInt (-2)).toInt32, .int (c 118 ((Int32.ofInt (1))).toNatClampNeg)]) (pc' := 68) (lv' := [(0, .ref 49), (1, .int x1), (2, .int x2)]) (hp' := rH e g q c l) (i := .bipush (-2)) (len := 2) rfl hj rfl rfl rfl]
    rw [n_step (st' := []) (pc' := (if xCn .eq ((c 118 ((Int32.ofInt (1))).toNatClampNeg)) ((Int8.ofInt (-2)).toInt32) = true then 85 else 71)) (lv' := [(0, .ref 49), (1, .int x1), (2, .int x2)]) (hp' := rH e g q c l) (i := .if_icmp .eq 17) (len := 3) rfl hj rfl rfl rfl]
  by_cases hc : xCn .eq ((c 118 ((Int32.ofInt (1))).toNatClampNeg)) ((Int8.ofInt (-2)).toInt32) = true
  · obtain ⟨f, h⟩ := h1 hc
    refine ⟨f + 6, ?_⟩
    rw [key, if_pos hc]
    exact h
  · obtain ⟨f, h⟩ := h2 hc
    refine ⟨f + 6, ?_⟩
    rw [key, if_neg hc]
    exact h
set_option maxRecDepth 100000 in
set_option maxHeartbeats 4000000 in
theorem bk_412_71 {b : Bool} {d : Nat} {x1 x2 : Int32} {e : Nat → x_E} {g : Nat → Int32} {q : Nat → Int64} {c : Nat → Nat → Int32} {l : Nat → Nat → Int64} {R : Option Value × List x_E} (hz0 : ¬ ((Int32.ofInt (1)) < 0 ∨ 16 ≤ ((Int32.ofInt (1))).toNatClampNeg)) (hz1 : ¬ ((c 118 ((Int32.ofInt (1))).toNatClampNeg) < 0 ∨ 66000 ≤ ((c 118 ((Int32.ofInt (1))).toNatClampNeg)).toNatClampNeg)) (h1 : xCn .eq ((c 86 ((c 118 ((Int32.ofInt (1))).toNatClampNeg)).toNatClampNeg)) 0 = true → rr b e d 412 91 [(0, .ref 49), (1, .int x1)] [] g q c l R) (h2 : ¬ xCn .eq ((c 86 ((c 118 ((Int32.ofInt (1))).toNatClampNeg)).toNatClampNeg)) 0 = true → rr b e d 412 85 [(0, .ref 49), (1, .int x1), (2, .int x2)] [] g q c l R) : rr b e d 412 71 [(0, .ref 49), (1, .int x1), (2, .int x2)] [] g q c l R := by
  have key : ∀ f, nrun xZ (xY (xfm b)) xDT (f + 8) d 412 71 [(0, .ref 49), (1, .int x1), (2, .int x2)] [] (rH e g q c l) 0 0 = nrun xZ (xY (xfm b)) xDT f d 412 (if xCn .eq ((c 86 ((c 118 ((Int32.ofInt (1))).toNatClampNeg)).toNatClampNeg)) 0 = true then 91 else 85) [(0, .ref 49), (1, .int x1), (2, .int x2)] [] (rH e g q c l) 0 0 := by
    intro f
    obtain ⟨y, cb, hj⟩ := mq_412
    rw [n_step (st' := [.ref 49]) (pc' := 72) (lv' := [(0, .ref 49), (1, .int x1), (2, .int x2)]) (hp' := rH e g q c l) (i := .aload_n 0) (len := 1) rfl hj rfl rfl rfl]
    rw [n_get (st' := [.ref 86]) (pc' := 75) (lv' := [(0, .ref 49), (1, .int x1), (2, .int x2)]) (hp' := rH e g q c l) (i := .getfield 128) (len := 3) rfl hj rfl rfl rfl rfl]
    rw [n_step (st' := [.ref 49, .ref 86]) (pc' := 76) (lv' := [(0, .ref 49), (1, .int x1), (2, .int x2)]) (hp' := rH e g q c l) (i := .aload_n 0) (len := 1) rfl hj rfl rfl rfl]
    rw [n_get (st' := [.ref 118, .ref 86]) (pc' := 79) (lv' := [(0, .ref 49), (1, .int x1), (2, .int x2)]) (hp' := rH e g q c l) (i := .getfield 225) (len := 3) rfl hj rfl rfl rfl rfl]
    rw [n_step (st' := [.int (Int32.ofInt (1)), .ref 118, .ref 86]) (pc' := 80) (lv' := [(0, .ref 49), (1, .int x1), (2, .int x2)]) (hp' := rH e g q c l) (i := .iconst 1) (len := 1) rfl hj rfl rfl rfl]
    rw [n_ial (st' := [.int (c 118 ((Int32.ofInt (1))).toNatClampNeg), .ref 86]) rfl hj (ald_118 hz0)]
    rw [n_ial (st' := [.int (c 86 ((c 118 ((Int32.ofInt (1))).toNatClampNeg)).toNatClampNeg)]) rfl hj (ald_86 hz1)]
    rw [n_step (st' := []) (pc' := (if xCn .eq ((c 86 ((c 118 ((Int32.ofInt (1))).toNatClampNeg)).toNatClampNeg)) 0 = true then 91 else 85)) (lv' := [(0, .ref 49), (1, .int x1), (2, .int x2)]) (hp' := rH e g q c l) (i := .ifCond .eq 9) (len := 3) rfl hj rfl rfl rfl]
  by_cases hc : xCn .eq ((c 86 ((c 118 ((Int32.ofInt (1))).toNatClampNeg)).toNatClampNeg)) 0 = true
  · obtain ⟨f, h⟩ := h1 hc
    refine ⟨f + 8, ?_⟩
    rw [key, if_pos hc]
    exact nrun_ext f f _ _ R 412 91 [(0, .ref 49), (1, .int x1)] [(0, .ref 49), (1, .int x1), (2, .int x2)] [] _ 0 0 122 (Nat.le_refl _) (Nat.le_refl _) (Nat.le_of_ble_eq_true rfl) (lvR_mk [0, 1] [0, 1, 2] rfl rfl (by decide) (by decide) (List.forall_mem_cons.mpr ⟨List.mem_cons_self, (List.forall_mem_cons.mpr ⟨(List.mem_cons_of_mem _ List.mem_cons_self), (fun _ h => nomatch h)⟩)⟩) (List.forall_mem_cons.mpr ⟨Or.inl List.mem_cons_self, (List.forall_mem_cons.mpr ⟨Or.inl (List.mem_cons_of_mem _ List.mem_cons_self), (List.forall_mem_cons.mpr ⟨Or.inr rfl, (fun _ h => nomatch h)⟩)⟩)⟩)) h
  · obtain ⟨f, h⟩ := h2 hc
    refine ⟨f + 8, ?_⟩
    rw [key, if_neg hc]
    exact h
set_option maxRecDepth 100000 in
set_option maxHeartbeats 4000000 in
theorem bk_412_85 {b : Bool} {d : Nat} {x1 x2 : Int32} {e : Nat → x_E} {g : Nat → Int32} {q : Nat → Int64} {c : Nat → Nat → Int32} {l : Nat → Nat → Int64} {g' : Nat → Int32} {q' : Nat → Int64} {c' : Nat → Nat → Int32} {l' : Nat → Nat → Int64} {R : Option Value × List x_E} (hc : rr b e d 349 0 [(0, .ref 49), (1, .int (Int32.ofInt (5))), (2, .int x2)] [] g q c l (none, rH e g' q' c' l')) (h : rr b e (d + 1) 412 91 [(0, .ref 49), (1, .int x1)] [] g' q' c' l' R) : rr b e (d + 1) 412 85 [(0, .ref 49), (1, .int x1), (2, .int x2)] [] g q c l R := by
  obtain ⟨f1, hc⟩ := hc
  obtain ⟨f2, h⟩ := h
  obtain ⟨f, hf1, hf2⟩ : ∃ f, f1 ≤ f ∧ f2 ≤ f := ⟨max f1 f2, Nat.le_max_left _ _, Nat.le_max_right _ _⟩
  have hc := nrun_fuel f1 f _ _ _ _ _ _ _ _ _ hf1 hc
  have h := nrun_fuel f2 f _ _ _ _ _ _ _ _ _ hf2 h
  refine ⟨f + 4, ?_⟩
  obtain ⟨y, cb, hj⟩ := mq_412
  rw [n_step (st' := [.ref 49]) (pc' := 86) (lv' := [(0, .ref 49), (1, .int x1), (2, .int x2)]) (hp' := rH e g q c l) (i := .aload_n 0) (len := 1) rfl hj rfl rfl rfl]
  rw [n_step (st' := [.int (Int32.ofInt (5)), .ref 49]) (pc' := 87) (lv' := [(0, .ref 49), (1, .int x1), (2, .int x2)]) (hp' := rH e g q c l) (i := .iconst 5) (len := 1) rfl hj rfl rfl rfl]
  rw [n_step (st' := [.int x2, .int (Int32.ofInt (5)), .ref 49]) (pc' := 88) (lv' := [(0, .ref 49), (1, .int x1), (2, .int x2)]) (hp' := rH e g q c l) (i := .iload_n 2) (len := 1) rfl hj rfl rfl rfl]
  obtain ⟨y2, cb2, hj2⟩ := mq_349
  rw [n_call (f := f) (d := d) (ki := 0) (idx := 427) (j' := 349) (kd := 0) (M' := (y2, cb2, 3, none, 12, 2, 0, 0)) (avs := [.ref 49, .int (Int32.ofInt (5)), .int x2]) (r := []) (rv := none) (hp1 := rH e g' q' c' l') rfl hj rfl rfl rfl rfl (rq_n rfl rfl hj2 rfl rfl) rfl hc (Nat.le_of_ble_eq_true rfl)]
  exact nrun_ext f f _ _ R 412 91 [(0, .ref 49), (1, .int x1)] [(0, .ref 49), (1, .int x1), (2, .int x2)] [] _ 0 0 122 (Nat.le_refl _) (Nat.le_refl _) (Nat.le_of_ble_eq_true rfl) (lvR_mk [0, 1] [0, 1, 2] rfl rfl (by decide) (by decide) (List.forall_mem_cons.mpr ⟨List.mem_cons_self, (List.forall_mem_cons.mpr ⟨(List.mem_cons_of_mem _ List.mem_cons_self), (fun _ h => nomatch h)⟩)⟩) (List.forall_mem_cons.mpr ⟨Or.inl List.mem_cons_self, (List.forall_mem_cons.mpr ⟨Or.inl (List.mem_cons_of_mem _ List.mem_cons_self), (List.forall_mem_cons.mpr ⟨Or.inr rfl, (fun _ h => nomatch h)⟩)⟩)⟩)) h
set_option maxRecDepth 100000 in
set_option maxHeartbeats 4000000 in
theorem bk_412_91 {b : Bool} {d : Nat} {x1 : Int32} {e : Nat → x_E} {g : Nat → Int32} {q : Nat → Int64} {c : Nat → Nat → Int32} {l : Nat → Nat → Int64} {g' : Nat → Int32} {q' : Nat → Int64} {c' : Nat → Nat → Int32} {l' : Nat → Nat → Int64} {R : Option Value × List x_E} (hc : rr b e d 413 0 [(0, .ref 49), (1, .int x1), (2, .int (Int32.ofInt (0))), (3, .int (Int32.ofInt (0))), (4, .int (Int32.ofInt (0)))] [] g q c l (none, rH e g' q' c' l')) (h : rr b e (d + 1) 412 99 [(0, .ref 49)] [] g' q' c' l' R) : rr b e (d + 1) 412 91 [(0, .ref 49), (1, .int x1)] [] g q c l R := by
  obtain ⟨f1, hc⟩ := hc
  obtain ⟨f2, h⟩ := h
  obtain ⟨f, hf1, hf2⟩ : ∃ f, f1 ≤ f ∧ f2 ≤ f := ⟨max f1 f2, Nat.le_max_left _ _, Nat.le_max_right _ _⟩
  have hc := nrun_fuel f1 f _ _ _ _ _ _ _ _ _ hf1 hc
  have h := nrun_fuel f2 f _ _ _ _ _ _ _ _ _ hf2 h
  refine ⟨f + 6, ?_⟩
  obtain ⟨y, cb, hj⟩ := mq_412
  rw [n_step (st' := [.ref 49]) (pc' := 92) (lv' := [(0, .ref 49), (1, .int x1)]) (hp' := rH e g q c l) (i := .aload_n 0) (len := 1) rfl hj rfl rfl rfl]
  rw [n_step (st' := [.int x1, .ref 49]) (pc' := 93) (lv' := [(0, .ref 49), (1, .int x1)]) (hp' := rH e g q c l) (i := .iload_n 1) (len := 1) rfl hj rfl rfl rfl]
  rw [n_step (st' := [.int (Int32.ofInt (0)), .int x1, .ref 49]) (pc' := 94) (lv' := [(0, .ref 49), (1, .int x1)]) (hp' := rH e g q c l) (i := .iconst 0) (len := 1) rfl hj rfl rfl rfl]
  rw [n_step (st' := [.int (Int32.ofInt (0)), .int (Int32.ofInt (0)), .int x1, .ref 49]) (pc' := 95) (lv' := [(0, .ref 49), (1, .int x1)]) (hp' := rH e g q c l) (i := .iconst 0) (len := 1) rfl hj rfl rfl rfl]
  rw [n_step (st' := [.int (Int32.ofInt (0)), .int (Int32.ofInt (0)), .int (Int32.ofInt (0)), .int x1, .ref 49]) (pc' := 96) (lv' := [(0, .ref 49), (1, .int x1)]) (hp' := rH e g q c l) (i := .iconst 0) (len := 1) rfl hj rfl rfl rfl]
  obtain ⟨y2, cb2, hj2⟩ := mq_413
  rw [n_call (f := f) (d := d) (ki := 0) (idx := 815) (j' := 413) (kd := 0) (M' := (y2, cb2, 5, none, 12, 4, 0, 0)) (avs := [.ref 49, .int x1, .int (Int32.ofInt (0)), .int (Int32.ofInt (0)), .int (Int32.ofInt (0))]) (r := []) (rv := none) (hp1 := rH e g' q' c' l') rfl hj rfl rfl rfl rfl (rq_n rfl rfl hj2 rfl rfl) rfl hc (Nat.le_of_ble_eq_true rfl)]
  exact nrun_ext f f _ _ R 412 99 [(0, .ref 49)] [(0, .ref 49), (1, .int x1)] [] _ 0 0 122 (Nat.le_refl _) (Nat.le_refl _) (Nat.le_of_ble_eq_true rfl) (lvR_mk [0] [0, 1] rfl rfl (by decide) (by decide) (List.forall_mem_cons.mpr ⟨List.mem_cons_self, (fun _ h => nomatch h)⟩) (List.forall_mem_cons.mpr ⟨Or.inl List.mem_cons_self, (List.forall_mem_cons.mpr ⟨Or.inr rfl, (fun _ h => nomatch h)⟩)⟩)) h
set_option maxRecDepth 100000 in
set_option maxHeartbeats 4000000 in
theorem bk_412_99 {b : Bool} {d : Nat} {e : Nat → x_E} {g : Nat → Int32} {q : Nat → Int64} {c : Nat → Nat → Int32} {l : Nat → Nat → Int64} {R : Option Value × List x_E} (h : rr b e d 412 151 [(0, .ref 49)] [] g q c l R) : rr b e d 412 99 [(0, .ref 49)] [] g q c l R := by
  obtain ⟨f, h⟩ := h
  refine ⟨f + 1, ?_⟩
  obtain ⟨y, cb, hj⟩ := mq_412
  rw [n_step (st' := []) (pc' := 151) (lv' := [(0, .ref 49)]) (hp' := rH e g q c l) (i := .goto 52) (len := 3) rfl hj rfl rfl rfl]
  exact h
set_option maxRecDepth 100000 in
set_option maxHeartbeats 4000000 in
theorem bk_412_102 {b : Bool} {d : Nat} {x1 : Int32} {e : Nat → x_E} {g : Nat → Int32} {q : Nat → Int64} {c : Nat → Nat → Int32} {l : Nat → Nat → Int64} {R : Option Value × List x_E} (h1 : xCn .ne x1 ((Int8.ofInt (14)).toInt32) = true → rr b e d 412 133 [(0, .ref 49), (1, .int x1)] [] g q c l R) (h2 : ¬ xCn .ne x1 ((Int8.ofInt (14)).toInt32) = true → rr b e d 412 108 [(0, .ref 49), (1, .int x1)] [] g q c l R) : rr b e d 412 102 [(0, .ref 49), (1, .int x1)] [] g q c l R := by
  have key : ∀ f, nrun xZ (xY (xfm b)) xDT (f + 3) d 412 102 [(0, .ref 49), (1, .int x1)] [] (rH e g q c l) 0 0 = nrun xZ (xY (xfm b)) xDT f d 412 (if xCn .ne x1 ((Int8.ofInt (14)).toInt32) = true then 133 else 108) [(0, .ref 49), (1, .int x1)] [] (rH e g q c l) 0 0 := by
    intro f
    obtain ⟨y, cb, hj⟩ := mq_412
    rw [n_step (st' := [.int x1]) (pc' := 103) (lv' := [(0, .ref 49), (1, .int x1)]) (hp' := rH e g q c l) (i := .iload_n 1) (len := 1) rfl hj rfl rfl rfl]
    rw [n_step (st' := [.int (Int8.ofInt (14)).toInt32, .int x1]) (pc' := 105) (lv' := [(0, .ref 49), (1, .int x1)]) (hp' := rH e g q c l) (i := .bipush 14) (len := 2) rfl hj rfl rfl rfl]
    rw [n_step (st' := []) (pc' := (if xCn .ne x1 ((Int8.ofInt (14)).toInt32) = true then 133 else 108)) (lv' := [(0, .ref 49), (1, .int x1)]) (hp' := rH e g q c l) (i := .if_icmp .ne 28) (len := 3) rfl hj rfl rfl rfl]
  by_cases hc : xCn .ne x1 ((Int8.ofInt (14)).toInt32) = true
  · obtain ⟨f, h⟩ := h1 hc
    refine ⟨f + 3, ?_⟩
    rw [key, if_pos hc]
    exact h
  · obtain ⟨f, h⟩ := h2 hc
    refine ⟨f + 3, ?_⟩
    rw [key, if_neg hc]
    exact h
set_option maxRecDepth 100000 in
set_option maxHeartbeats 4000000 in
theorem bk_412_108 {b : Bool} {d : Nat} {x1 : Int32} {e : Nat → x_E} {g : Nat → Int32} {q : Nat → Int64} {c : Nat → Nat → Int32} {l : Nat → Nat → Int64} {g' : Nat → Int32} {q' : Nat → Int64} {c' : Nat → Nat → Int32} {l' : Nat → Nat → Int64} {v : Int32} {R : Option Value × List x_E} (hc : rr b e d 414 0 [(0, .ref 49)] [] g q c l (some (.int v), rH e g' q' c' l')) (h : rr b e (d + 1) 412 118 [(0, .ref 49), (1, .int x1), (3, .int (g 11))] [.int v, .ref 49] g' q' c' l' R) : rr b e (d + 1) 412 108 [(0, .ref 49), (1, .int x1)] [] g q c l R := by
  obtain ⟨f1, hc⟩ := hc
  obtain ⟨f2, h⟩ := h
  obtain ⟨f, hf1, hf2⟩ : ∃ f, f1 ≤ f ∧ f2 ≤ f := ⟨max f1 f2, Nat.le_max_left _ _, Nat.le_max_right _ _⟩
  have hc := nrun_fuel f1 f _ _ _ _ _ _ _ _ _ hf1 hc
  have h := nrun_fuel f2 f _ _ _ _ _ _ _ _ _ hf2 h
  refine ⟨f + 6, ?_⟩
  obtain ⟨y, cb, hj⟩ := mq_412
  rw [n_step (st' := [.ref 49]) (pc' := 109) (lv' := [(0, .ref 49), (1, .int x1)]) (hp' := rH e g q c l) (i := .aload_n 0) (len := 1) rfl hj rfl rfl rfl]
  rw [n_get (st' := [.int (g 11)]) (pc' := 112) (lv' := [(0, .ref 49), (1, .int x1)]) (hp' := rH e g q c l) (i := .getfield 257) (len := 3) rfl hj rfl rfl rfl rfl]
  rw [n_step (st' := []) (pc' := 113) (lv' := [(3, .int (g 11)), (0, .ref 49), (1, .int x1)]) (hp' := rH e g q c l) (i := .istore_n 3) (len := 1) rfl hj rfl rfl rfl]
  rw [n_step (st' := [.ref 49]) (pc' := 114) (lv' := [(3, .int (g 11)), (0, .ref 49), (1, .int x1)]) (hp' := rH e g q c l) (i := .aload_n 0) (len := 1) rfl hj rfl rfl rfl]
  rw [n_step (st' := [.ref 49, .ref 49]) (pc' := 115) (lv' := [(3, .int (g 11)), (0, .ref 49), (1, .int x1)]) (hp' := rH e g q c l) (i := .aload_n 0) (len := 1) rfl hj rfl rfl rfl]
  obtain ⟨y2, cb2, hj2⟩ := mq_414
  rw [n_call (f := f) (d := d) (ki := 0) (idx := 809) (j' := 414) (kd := 0) (M' := (y2, cb2, 4, some .int, 12, 0, 0, 0)) (avs := [.ref 49]) (r := [.ref 49]) (rv := some (.int v)) (hp1 := rH e g' q' c' l') rfl hj rfl rfl rfl rfl (rq_n rfl rfl hj2 rfl rfl) rfl hc (Nat.le_of_ble_eq_true rfl)]
  exact nrun_ext f f _ _ R 412 118 [(0, .ref 49), (1, .int x1), (3, .int (g 11))] [(3, .int (g 11)), (0, .ref 49), (1, .int x1)] [.int v, .ref 49] _ 0 0 122 (Nat.le_refl _) (Nat.le_refl _) (Nat.le_of_ble_eq_true rfl) (lvR_mk [0, 1, 3] [3, 0, 1] rfl rfl (by decide) (by decide) (List.forall_mem_cons.mpr ⟨(List.mem_cons_of_mem _ List.mem_cons_self), (List.forall_mem_cons.mpr ⟨(List.mem_cons_of_mem _ (List.mem_cons_of_mem _ List.mem_cons_self)), (List.forall_mem_cons.mpr ⟨List.mem_cons_self, (fun _ h => nomatch h)⟩)⟩)⟩) (List.forall_mem_cons.mpr ⟨Or.inl (List.mem_cons_of_mem _ (List.mem_cons_of_mem _ List.mem_cons_self)), (List.forall_mem_cons.mpr ⟨Or.inl List.mem_cons_self, (List.forall_mem_cons.mpr ⟨Or.inl (List.mem_cons_of_mem _ List.mem_cons_self), (fun _ h => nomatch h)⟩)⟩)⟩)) h
set_option maxRecDepth 100000 in
set_option maxHeartbeats 4000000 in
theorem bk_412_118 {b : Bool} {d : Nat} {t0 x1 x3 : Int32} {e : Nat → x_E} {g : Nat → Int32} {q : Nat → Int64} {c : Nat → Nat → Int32} {l : Nat → Nat → Int64} {g' : Nat → Int32} {q' : Nat → Int64} {c' : Nat → Nat → Int32} {l' : Nat → Nat → Int64} {R : Option Value × List x_E} (hc : rr b e d 423 0 [(0, .ref 49), (1, .int t0), (2, .int x3)] [] g q c l (none, rH e g' q' c' l')) (h : rr b e (d + 1) 412 122 [(0, .ref 49), (1, .int x1)] [] g' q' c' l' R) : rr b e (d + 1) 412 118 [(0, .ref 49), (1, .int x1), (3, .int x3)] [.int t0, .ref 49] g q c l R := by
  obtain ⟨f1, hc⟩ := hc
  obtain ⟨f2, h⟩ := h
  obtain ⟨f, hf1, hf2⟩ : ∃ f, f1 ≤ f ∧ f2 ≤ f := ⟨max f1 f2, Nat.le_max_left _ _, Nat.le_max_right _ _⟩
  have hc := nrun_fuel f1 f _ _ _ _ _ _ _ _ _ hf1 hc
  have h := nrun_fuel f2 f _ _ _ _ _ _ _ _ _ hf2 h
  refine ⟨f + 2, ?_⟩
  obtain ⟨y, cb, hj⟩ := mq_412
  rw [n_step (st' := [.int x3, .int t0, .ref 49]) (pc' := 119) (lv' := [(0, .ref 49), (1, .int x1), (3, .int x3)]) (hp' := rH e g q c l) (i := .iload_n 3) (len := 1) rfl hj rfl rfl rfl]
  obtain ⟨y2, cb2, hj2⟩ := mq_423
  rw [n_call (f := f) (d := d) (ki := 0) (idx := 818) (j' := 423) (kd := 0) (M' := (y2, cb2, 6, none, 12, 2, 0, 0)) (avs := [.ref 49, .int t0, .int x3]) (r := []) (rv := none) (hp1 := rH e g' q' c' l') rfl hj rfl rfl rfl rfl (rq_n rfl rfl hj2 rfl rfl) rfl hc (Nat.le_of_ble_eq_true rfl)]
  exact nrun_ext f f _ _ R 412 122 [(0, .ref 49), (1, .int x1)] [(0, .ref 49), (1, .int x1), (3, .int x3)] [] _ 0 0 122 (Nat.le_refl _) (Nat.le_refl _) (Nat.le_of_ble_eq_true rfl) (lvR_mk [0, 1] [0, 1, 3] rfl rfl (by decide) (by decide) (List.forall_mem_cons.mpr ⟨List.mem_cons_self, (List.forall_mem_cons.mpr ⟨(List.mem_cons_of_mem _ List.mem_cons_self), (fun _ h => nomatch h)⟩)⟩) (List.forall_mem_cons.mpr ⟨Or.inl List.mem_cons_self, (List.forall_mem_cons.mpr ⟨Or.inl (List.mem_cons_of_mem _ List.mem_cons_self), (List.forall_mem_cons.mpr ⟨Or.inr rfl, (fun _ h => nomatch h)⟩)⟩)⟩)) h
set_option maxRecDepth 100000 in
set_option maxHeartbeats 4000000 in
theorem bk_412_122 {b : Bool} {d : Nat} {x1 : Int32} {e : Nat → x_E} {g : Nat → Int32} {q : Nat → Int64} {c : Nat → Nat → Int32} {l : Nat → Nat → Int64} {g' : Nat → Int32} {q' : Nat → Int64} {c' : Nat → Nat → Int32} {l' : Nat → Nat → Int64} {R : Option Value × List x_E} (hc : rr b e d 413 0 [(0, .ref 49), (1, .int x1), (2, .int (Int32.ofInt (0))), (3, .int (Int32.ofInt (0))), (4, .int (Int32.ofInt (0)))] [] g q c l (none, rH e g' q' c' l')) (h : rr b e (d + 1) 412 130 [(0, .ref 49)] [] g' q' c' l' R) : rr b e (d + 1) 412 122 [(0, .ref 49), (1, .int x1)] [] g q c l R := by
  obtain ⟨f1, hc⟩ := hc
  obtain ⟨f2, h⟩ := h
  obtain ⟨f, hf1, hf2⟩ : ∃ f, f1 ≤ f ∧ f2 ≤ f := ⟨max f1 f2, Nat.le_max_left _ _, Nat.le_max_right _ _⟩
  have hc := nrun_fuel f1 f _ _ _ _ _ _ _ _ _ hf1 hc
  have h := nrun_fuel f2 f _ _ _ _ _ _ _ _ _ hf2 h
  refine ⟨f + 6, ?_⟩
  obtain ⟨y, cb, hj⟩ := mq_412
  rw [n_step (st' := [.ref 49]) (pc' := 123) (lv' := [(0, .ref 49), (1, .int x1)]) (hp' := rH e g q c l) (i := .aload_n 0) (len := 1) rfl hj rfl rfl rfl]
  rw [n_step (st' := [.int x1, .ref 49]) (pc' := 124) (lv' := [(0, .ref 49), (1, .int x1)]) (hp' := rH e g q c l) (i := .iload_n 1) (len := 1) rfl hj rfl rfl rfl]
  rw [n_step (st' := [.int (Int32.ofInt (0)), .int x1, .ref 49]) (pc' := 125) (lv' := [(0, .ref 49), (1, .int x1)]) (hp' := rH e g q c l) (i := .iconst 0) (len := 1) rfl hj rfl rfl rfl]
  rw [n_step (st' := [.int (Int32.ofInt (0)), .int (Int32.ofInt (0)), .int x1, .ref 49]) (pc' := 126) (lv' := [(0, .ref 49), (1, .int x1)]) (hp' := rH e g q c l) (i := .iconst 0) (len := 1) rfl hj rfl rfl rfl]
  rw [n_step (st' := [.int (Int32.ofInt (0)), .int (Int32.ofInt (0)), .int (Int32.ofInt (0)), .int x1, .ref 49]) (pc' := 127) (lv' := [(0, .ref 49), (1, .int x1)]) (hp' := rH e g q c l) (i := .iconst 0) (len := 1) rfl hj rfl rfl rfl]
  obtain ⟨y2, cb2, hj2⟩ := mq_413
  rw [n_call (f := f) (d := d) (ki := 0) (idx := 815) (j' := 413) (kd := 0) (M' := (y2, cb2, 5, none, 12, 4, 0, 0)) (avs := [.ref 49, .int x1, .int (Int32.ofInt (0)), .int (Int32.ofInt (0)), .int (Int32.ofInt (0))]) (r := []) (rv := none) (hp1 := rH e g' q' c' l') rfl hj rfl rfl rfl rfl (rq_n rfl rfl hj2 rfl rfl) rfl hc (Nat.le_of_ble_eq_true rfl)]
  exact nrun_ext f f _ _ R 412 130 [(0, .ref 49)] [(0, .ref 49), (1, .int x1)] [] _ 0 0 122 (Nat.le_refl _) (Nat.le_refl _) (Nat.le_of_ble_eq_true rfl) (lvR_mk [0] [0, 1] rfl rfl (by decide) (by decide) (List.forall_mem_cons.mpr ⟨List.mem_cons_self, (fun _ h => nomatch h)⟩) (List.forall_mem_cons.mpr ⟨Or.inl List.mem_cons_self, (List.forall_mem_cons.mpr ⟨Or.inr rfl, (fun _ h => nomatch h)⟩)⟩)) h
set_option maxRecDepth 100000 in
set_option maxHeartbeats 4000000 in
theorem bk_412_130 {b : Bool} {d : Nat} {e : Nat → x_E} {g : Nat → Int32} {q : Nat → Int64} {c : Nat → Nat → Int32} {l : Nat → Nat → Int64} {R : Option Value × List x_E} (h : rr b e d 412 151 [(0, .ref 49)] [] g q c l R) : rr b e d 412 130 [(0, .ref 49)] [] g q c l R := by
  obtain ⟨f, h⟩ := h
  refine ⟨f + 1, ?_⟩
  obtain ⟨y, cb, hj⟩ := mq_412
  rw [n_step (st' := []) (pc' := 151) (lv' := [(0, .ref 49)]) (hp' := rH e g q c l) (i := .goto 21) (len := 3) rfl hj rfl rfl rfl]
  exact h
set_option maxRecDepth 100000 in
set_option maxHeartbeats 4000000 in
theorem bk_412_133 {b : Bool} {d : Nat} {x1 : Int32} {e : Nat → x_E} {g : Nat → Int32} {q : Nat → Int64} {c : Nat → Nat → Int32} {l : Nat → Nat → Int64} {R : Option Value × List x_E} (h1 : xCn .ne x1 ((Int8.ofInt (13)).toInt32) = true → rr b e d 412 146 [(0, .ref 49), (1, .int x1)] [] g q c l R) (h2 : ¬ xCn .ne x1 ((Int8.ofInt (13)).toInt32) = true → rr b e d 412 139 [(0, .ref 49)] [] g q c l R) : rr b e d 412 133 [(0, .ref 49), (1, .int x1)] [] g q c l R := by
  have key : ∀ f, nrun xZ (xY (xfm b)) xDT (f + 3) d 412 133 [(0, .ref 49), (1, .int x1)] [] (rH e g q c l) 0 0 = nrun xZ (xY (xfm b)) xDT f d 412 (if xCn .ne x1 ((Int8.ofInt (13)).toInt32) = true then 146 else 139) [(0, .ref 49), (1, .int x1)] [] (rH e g q c l) 0 0 := by
    intro f
    obtain ⟨y, cb, hj⟩ := mq_412
    rw [n_step (st' := [.int x1]) (pc' := 134) (lv' := [(0, .ref 49), (1, .int x1)]) (hp' := rH e g q c l) (i := .iload_n 1) (len := 1) rfl hj rfl rfl rfl]
    rw [n_step (st' := [.int (Int8.ofInt (13)).toInt32, .int x1]) (pc' := 136) (lv' := [(0, .ref 49), (1, .int x1)]) (hp' := rH e g q c l) (i := .bipush 13) (len := 2) rfl hj rfl rfl rfl]
    rw [n_step (st' := []) (pc' := (if xCn .ne x1 ((Int8.ofInt (13)).toInt32) = true then 146 else 139)) (lv' := [(0, .ref 49), (1, .int x1)]) (hp' := rH e g q c l) (i := .if_icmp .ne 10) (len := 3) rfl hj rfl rfl rfl]
  by_cases hc : xCn .ne x1 ((Int8.ofInt (13)).toInt32) = true
  · obtain ⟨f, h⟩ := h1 hc
    refine ⟨f + 3, ?_⟩
    rw [key, if_pos hc]
    exact h
  · obtain ⟨f, h⟩ := h2 hc
    refine ⟨f + 3, ?_⟩
    rw [key, if_neg hc]
    exact nrun_ext f f _ _ R 412 139 [(0, .ref 49)] [(0, .ref 49), (1, .int x1)] [] _ 0 0 122 (Nat.le_refl _) (Nat.le_refl _) (Nat.le_of_ble_eq_true rfl) (lvR_mk [0] [0, 1] rfl rfl (by decide) (by decide) (List.forall_mem_cons.mpr ⟨List.mem_cons_self, (fun _ h => nomatch h)⟩) (List.forall_mem_cons.mpr ⟨Or.inl List.mem_cons_self, (List.forall_mem_cons.mpr ⟨Or.inr rfl, (fun _ h => nomatch h)⟩)⟩)) h
set_option maxRecDepth 100000 in
set_option maxHeartbeats 4000000 in
theorem bk_412_139 {b : Bool} {d : Nat} {e : Nat → x_E} {g : Nat → Int32} {q : Nat → Int64} {c : Nat → Nat → Int32} {l : Nat → Nat → Int64} {g' : Nat → Int32} {q' : Nat → Int64} {c' : Nat → Nat → Int32} {l' : Nat → Nat → Int64} {R : Option Value × List x_E} (hc : rr b e d 425 0 [(0, .ref 49)] [] g q c l (none, rH e g' q' c' l')) (h : rr b e (d + 1) 412 143 [(0, .ref 49)] [] g' q' c' l' R) : rr b e (d + 1) 412 139 [(0, .ref 49)] [] g q c l R := by
  obtain ⟨f1, hc⟩ := hc
  obtain ⟨f2, h⟩ := h
  obtain ⟨f, hf1, hf2⟩ : ∃ f, f1 ≤ f ∧ f2 ≤ f := ⟨max f1 f2, Nat.le_max_left _ _, Nat.le_max_right _ _⟩
  have hc := nrun_fuel f1 f _ _ _ _ _ _ _ _ _ hf1 hc
  have h := nrun_fuel f2 f _ _ _ _ _ _ _ _ _ hf2 h
  refine ⟨f + 2, ?_⟩
  obtain ⟨y, cb, hj⟩ := mq_412
  rw [n_step (st' := [.ref 49]) (pc' := 140) (lv' := [(0, .ref 49)]) (hp' := rH e g q c l) (i := .aload_n 0) (len := 1) rfl hj rfl rfl rfl]
  obtain ⟨y2, cb2, hj2⟩ := mq_425
  rw [n_call (f := f) (d := d) (ki := 0) (idx := 821) (j' := 425) (kd := 0) (M' := (y2, cb2, 11, none, 12, 0, 0, 0)) (avs := [.ref 49]) (r := []) (rv := none) (hp1 := rH e g' q' c' l') rfl hj rfl rfl rfl rfl (rq_n rfl rfl hj2 rfl rfl) rfl hc (Nat.le_of_ble_eq_true rfl)]
  exact h
set_option maxRecDepth 100000 in
set_option maxHeartbeats 4000000 in
theorem bk_412_143 {b : Bool} {d : Nat} {e : Nat → x_E} {g : Nat → Int32} {q : Nat → Int64} {c : Nat → Nat → Int32} {l : Nat → Nat → Int64} {R : Option Value × List x_E} (h : rr b e d 412 151 [(0, .ref 49)] [] g q c l R) : rr b e d 412 143 [(0, .ref 49)] [] g q c l R := by
  obtain ⟨f, h⟩ := h
  refine ⟨f + 1, ?_⟩
  obtain ⟨y, cb, hj⟩ := mq_412
  rw [n_step (st' := []) (pc' := 151) (lv' := [(0, .ref 49)]) (hp' := rH e g q c l) (i := .goto 8) (len := 3) rfl hj rfl rfl rfl]
  exact h
set_option maxRecDepth 100000 in
set_option maxHeartbeats 4000000 in
theorem bk_412_146 {b : Bool} {d : Nat} {x1 : Int32} {e : Nat → x_E} {g : Nat → Int32} {q : Nat → Int64} {c : Nat → Nat → Int32} {l : Nat → Nat → Int64} {g' : Nat → Int32} {q' : Nat → Int64} {c' : Nat → Nat → Int32} {l' : Nat → Nat → Int64} {R : Option Value × List x_E} (hc : rr b e d 427 0 [(0, .ref 49), (1, .int x1)] [] g q c l (none, rH e g' q' c' l')) (h : rr b e (d + 1) 412 151 [(0, .ref 49)] [] g' q' c' l' R) : rr b e (d + 1) 412 146 [(0, .ref 49), (1, .int x1)] [] g q c l R := by
  obtain ⟨f1, hc⟩ := hc
  obtain ⟨f2, h⟩ := h
  obtain ⟨f, hf1, hf2⟩ : ∃ f, f1 ≤ f ∧ f2 ≤ f := ⟨max f1 f2, Nat.le_max_left _ _, Nat.le_max_right _ _⟩
  have hc := nrun_fuel f1 f _ _ _ _ _ _ _ _ _ hf1 hc
  have h := nrun_fuel f2 f _ _ _ _ _ _ _ _ _ hf2 h
  refine ⟨f + 3, ?_⟩
  obtain ⟨y, cb, hj⟩ := mq_412
  rw [n_step (st' := [.ref 49]) (pc' := 147) (lv' := [(0, .ref 49), (1, .int x1)]) (hp' := rH e g q c l) (i := .aload_n 0) (len := 1) rfl hj rfl rfl rfl]
  rw [n_step (st' := [.int x1, .ref 49]) (pc' := 148) (lv' := [(0, .ref 49), (1, .int x1)]) (hp' := rH e g q c l) (i := .iload_n 1) (len := 1) rfl hj rfl rfl rfl]
  obtain ⟨y2, cb2, hj2⟩ := mq_427
  rw [n_call (f := f) (d := d) (ki := 0) (idx := 824) (j' := 427) (kd := 0) (M' := (y2, cb2, 10, none, 12, 1, 0, 0)) (avs := [.ref 49, .int x1]) (r := []) (rv := none) (hp1 := rH e g' q' c' l') rfl hj rfl rfl rfl rfl (rq_n rfl rfl hj2 rfl rfl) rfl hc (Nat.le_of_ble_eq_true rfl)]
  exact nrun_ext f f _ _ R 412 151 [(0, .ref 49)] [(0, .ref 49), (1, .int x1)] [] _ 0 0 122 (Nat.le_refl _) (Nat.le_refl _) (Nat.le_of_ble_eq_true rfl) (lvR_mk [0] [0, 1] rfl rfl (by decide) (by decide) (List.forall_mem_cons.mpr ⟨List.mem_cons_self, (fun _ h => nomatch h)⟩) (List.forall_mem_cons.mpr ⟨Or.inl List.mem_cons_self, (List.forall_mem_cons.mpr ⟨Or.inr rfl, (fun _ h => nomatch h)⟩)⟩)) h
set_option maxRecDepth 100000 in
set_option maxHeartbeats 4000000 in
theorem bk_412_151 {b : Bool} {d : Nat} {e : Nat → x_E} {g : Nat → Int32} {q : Nat → Int64} {c : Nat → Nat → Int32} {l : Nat → Nat → Int64} {g' : Nat → Int32} {q' : Nat → Int64} {c' : Nat → Nat → Int32} {l' : Nat → Nat → Int64} {R : Option Value × List x_E} (hc : rr b e d 343 0 [(0, .ref 49), (1, .int (Int8.ofInt (59)).toInt32)] [] g q c l (none, rH e g' q' c' l')) (h : rr b e (d + 1) 412 157 [] [] g' q' c' l' R) : rr b e (d + 1) 412 151 [(0, .ref 49)] [] g q c l R := by
  obtain ⟨f1, hc⟩ := hc
  obtain ⟨f2, h⟩ := h
  obtain ⟨f, hf1, hf2⟩ : ∃ f, f1 ≤ f ∧ f2 ≤ f := ⟨max f1 f2, Nat.le_max_left _ _, Nat.le_max_right _ _⟩
  have hc := nrun_fuel f1 f _ _ _ _ _ _ _ _ _ hf1 hc
  have h := nrun_fuel f2 f _ _ _ _ _ _ _ _ _ hf2 h
  refine ⟨f + 3, ?_⟩
  obtain ⟨y, cb, hj⟩ := mq_412
  rw [n_step (st' := [.ref 49]) (pc' := 152) (lv' := [(0, .ref 49)]) (hp' := rH e g q c l) (i := .aload_n 0) (len := 1) rfl hj rfl rfl rfl]
  rw [n_step (st' := [.int (Int8.ofInt (59)).toInt32, .ref 49]) (pc' := 154) (lv' := [(0, .ref 49)]) (hp' := rH e g q c l) (i := .bipush 59) (len := 2) rfl hj rfl rfl rfl]
  obtain ⟨y2, cb2, hj2⟩ := mq_343
  rw [n_call (f := f) (d := d) (ki := 0) (idx := 359) (j' := 343) (kd := 0) (M' := (y2, cb2, 2, none, 12, 1, 0, 0)) (avs := [.ref 49, .int (Int8.ofInt (59)).toInt32]) (r := []) (rv := none) (hp1 := rH e g' q' c' l') rfl hj rfl rfl rfl rfl (rq_n rfl rfl hj2 rfl rfl) rfl hc (Nat.le_of_ble_eq_true rfl)]
  exact nrun_ext f f _ _ R 412 157 [] [(0, .ref 49)] [] _ 0 0 122 (Nat.le_refl _) (Nat.le_refl _) (Nat.le_of_ble_eq_true rfl) (lvR_mk [] [0] rfl rfl (by decide) (by decide) (fun _ h => nomatch h) (List.forall_mem_cons.mpr ⟨Or.inr rfl, (fun _ h => nomatch h)⟩)) h
set_option maxRecDepth 100000 in
set_option maxHeartbeats 4000000 in
theorem bk_412_157 {b : Bool} {d : Nat} {e : Nat → x_E} {g : Nat → Int32} {q : Nat → Int64} {c : Nat → Nat → Int32} {l : Nat → Nat → Int64} : rr b e d 412 157 [] [] g q c l (none, rH e g q c l) := by
  refine ⟨0 + 1, ?_⟩
  obtain ⟨y, cb, hj⟩ := mq_412
  exact n_ret rfl hj rfl rfl rfl
set_option maxRecDepth 100000 in
set_option maxHeartbeats 4000000 in
theorem bk_413_0 {b : Bool} {d : Nat} {x1 x2 x3 x4 : Int32} {e : Nat → x_E} {g : Nat → Int32} {q : Nat → Int64} {c : Nat → Nat → Int32} {l : Nat → Nat → Int64} (hz0 : ¬ ((g 125) < 0 ∨ 700 ≤ ((g 125)).toNatClampNeg)) (hz1 : ¬ ((g 125) < 0 ∨ 700 ≤ ((g 125)).toNatClampNeg)) (hz2 : ¬ ((g 125) < 0 ∨ 700 ≤ ((g 125)).toNatClampNeg)) (hz3 : ¬ ((g 125) < 0 ∨ 700 ≤ ((g 125)).toNatClampNeg)) (hz4 : ¬ ((g 125) < 0 ∨ 700 ≤ ((g 125)).toNatClampNeg)) (hz5 : ¬ ((g 125) < 0 ∨ 700 ≤ ((g 125)).toNatClampNeg)) : rr b e d 413 0 [(0, .ref 49), (1, .int x1), (2, .int x2), (3, .int x3), (4, .int x4)] [] g q c l (none, rH e (upd g 125 (((g 125) + (Int32.ofInt (1))))) q (updA (updA (updA (updA (updA (updA c 111 (upd (c 111) ((g 125)).toNatClampNeg x1)) 112 (upd ((updA c 111 (upd (c 111) ((g 125)).toNatClampNeg x1)) 112) ((g 125)).toNatClampNeg x2)) 113 (upd ((updA (updA c 111 (upd (c 111) ((g 125)).toNatClampNeg x1)) 112 (upd ((updA c 111 (upd (c 111) ((g 125)).toNatClampNeg x1)) 112) ((g 125)).toNatClampNeg x2)) 113) ((g 125)).toNatClampNeg x3)) 114 (upd ((updA (updA (updA c 111 (upd (c 111) ((g 125)).toNatClampNeg x1)) 112 (upd ((updA c 111 (upd (c 111) ((g 125)).toNatClampNeg x1)) 112) ((g 125)).toNatClampNeg x2)) 113 (upd ((updA (updA c 111 (upd (c 111) ((g 125)).toNatClampNeg x1)) 112 (upd ((updA c 111 (upd (c 111) ((g 125)).toNatClampNeg x1)) 112) ((g 125)).toNatClampNeg x2)) 113) ((g 125)).toNatClampNeg x3)) 114) ((g 125)).toNatClampNeg x4)) 115 (upd ((updA (updA (updA (updA c 111 (upd (c 111) ((g 125)).toNatClampNeg x1)) 112 (upd ((updA c 111 (upd (c 111) ((g 125)).toNatClampNeg x1)) 112) ((g 125)).toNatClampNeg x2)) 113 (upd ((updA (updA c 111 (upd (c 111) ((g 125)).toNatClampNeg x1)) 112 (upd ((updA c 111 (upd (c 111) ((g 125)).toNatClampNeg x1)) 112) ((g 125)).toNatClampNeg x2)) 113) ((g 125)).toNatClampNeg x3)) 114 (upd ((updA (updA (updA c 111 (upd (c 111) ((g 125)).toNatClampNeg x1)) 112 (upd ((updA c 111 (upd (c 111) ((g 125)).toNatClampNeg x1)) 112) ((g 125)).toNatClampNeg x2)) 113 (upd ((updA (updA c 111 (upd (c 111) ((g 125)).toNatClampNeg x1)) 112 (upd ((updA c 111 (upd (c 111) ((g 125)).toNatClampNeg x1)) 112) ((g 125)).toNatClampNeg x2)) 113) ((g 125)).toNatClampNeg x3)) 114) ((g 125)).toNatClampNeg x4)) 115) ((g 125)).toNatClampNeg ((g 135)))) 116 (upd ((updA (updA (updA (updA (updA c 111 (upd (c 111) ((g 125)).toNatClampNeg x1)) 112 (upd ((updA c 111 (upd (c 111) ((g 125)).toNatClampNeg x1)) 112) ((g 125)).toNatClampNeg x2)) 113 (upd ((updA (updA c 111 (upd (c 111) ((g 125)).toNatClampNeg x1)) 112 (upd ((updA c 111 (upd (c 111) ((g 125)).toNatClampNeg x1)) 112) ((g 125)).toNatClampNeg x2)) 113) ((g 125)).toNatClampNeg x3)) 114 (upd ((updA (updA (updA c 111 (upd (c 111) ((g 125)).toNatClampNeg x1)) 112 (upd ((updA c 111 (upd (c 111) ((g 125)).toNatClampNeg x1)) 112) ((g 125)).toNatClampNeg x2)) 113 (upd ((updA (updA c 111 (upd (c 111) ((g 125)).toNatClampNeg x1)) 112 (upd ((updA c 111 (upd (c 111) ((g 125)).toNatClampNeg x1)) 112) ((g 125)).toNatClampNeg x2)) 113) ((g 125)).toNatClampNeg x3)) 114) ((g 125)).toNatClampNeg x4)) 115 (upd ((updA (updA (updA (updA c 111 (upd (c 111) ((g 125)).toNatClampNeg x1)) 112 (upd ((updA c 111 (upd (c 111) ((g 125)).toNatClampNeg x1)) 112) ((g 125)).toNatClampNeg x2)) 113 (upd ((updA (updA c 111 (upd (c 111) ((g 125)).toNatClampNeg x1)) 112 (upd ((updA c 111 (upd (c 111) ((g 125)).toNatClampNeg x1)) 112) ((g 125)).toNatClampNeg x2)) 113) ((g 125)).toNatClampNeg x3)) 114 (upd ((updA (updA (updA c 111 (upd (c 111) ((g 125)).toNatClampNeg x1)) 112 (upd ((updA c 111 (upd (c 111) ((g 125)).toNatClampNeg x1)) 112) ((g 125)).toNatClampNeg x2)) 113 (upd ((updA (updA c 111 (upd (c 111) ((g 125)).toNatClampNeg x1)) 112 (upd ((updA c 111 (upd (c 111) ((g 125)).toNatClampNeg x1)) 112) ((g 125)).toNatClampNeg x2)) 113) ((g 125)).toNatClampNeg x3)) 114) ((g 125)).toNatClampNeg x4)) 115) ((g 125)).toNatClampNeg ((g 135)))) 116) ((g 125)).toNatClampNeg ((g 136)))) l) := by
  refine ⟨0 + 45, ?_⟩
  obtain ⟨y, cb, hj⟩ := mq_413
  rw [n_step (st' := [.ref 49]) (pc' := 1) (lv' := [(0, .ref 49), (1, .int x1), (2, .int x2), (3, .int x3), (4, .int x4)]) (hp' := rH e g q c l) (i := .aload_n 0) (len := 1) rfl hj rfl rfl rfl]
  rw [n_get (st' := [.ref 111]) (pc' := 4) (lv' := [(0, .ref 49), (1, .int x1), (2, .int x2), (3, .int x3), (4, .int x4)]) (hp' := rH e g q c l) (i := .getfield 204) (len := 3) rfl hj rfl rfl rfl rfl]
  rw [n_step (st' := [.ref 49, .ref 111]) (pc' := 5) (lv' := [(0, .ref 49), (1, .int x1), (2, .int x2), (3, .int x3), (4, .int x4)]) (hp' := rH e g q c l) (i := .aload_n 0) (len := 1) rfl hj rfl rfl rfl]
  rw [n_get (st' := [.int (g 125), .ref 111]) (pc' := 8) (lv' := [(0, .ref 49), (1, .int x1), (2, .int x2), (3, .int x3), (4, .int x4)]) (hp' := rH e g q c l) (i := .getfield 766) (len := 3) rfl hj rfl rfl rfl rfl]
  rw [n_step (st' := [.int x1, .int (g 125), .ref 111]) (pc' := 9) (lv' := [(0, .ref 49), (1, .int x1), (2, .int x2), (3, .int x3), (4, .int x4)]) (hp' := rH e g q c l) (i := .iload_n 1) (len := 1) rfl hj rfl rfl rfl]
  rw [n_ias (st' := []) (hp' := rH e g q (updA c 111 (upd (c 111) ((g 125)).toNatClampNeg x1)) l) rfl hj (ast_111 hz0)]
  rw [n_step (st' := [.ref 49]) (pc' := 11) (lv' := [(0, .ref 49), (1, .int x1), (2, .int x2), (3, .int x3), (4, .int x4)]) (hp' := rH e g q (updA c 111 (upd (c 111) ((g 125)).toNatClampNeg x1)) l) (i := .aload_n 0) (len := 1) rfl hj rfl rfl rfl]
  rw [n_get (st' := [.ref 112]) (pc' := 14) (lv' := [(0, .ref 49), (1, .int x1), (2, .int x2), (3, .int x3), (4, .int x4)]) (hp' := rH e g q (updA c 111 (upd (c 111) ((g 125)).toNatClampNeg x1)) l) (i := .getfield 207) (len := 3) rfl hj rfl rfl rfl rfl]
  rw [n_step (st' := [.ref 49, .ref 112]) (pc' := 15) (lv' := [(0, .ref 49), (1, .int x1), (2, .int x2), (3, .int x3), (4, .int x4)]) (hp' := rH e g q (updA c 111 (upd (c 111) ((g 125)).toNatClampNeg x1)) l) (i := .aload_n 0) (len := 1) rfl hj rfl rfl rfl]
  rw [n_get (st' := [.int (g 125), .ref 112]) (pc' := 18) (lv' := [(0, .ref 49), (1, .int x1), (2, .int x2), (3, .int x3), (4, .int x4)]) (hp' := rH e g q (updA c 111 (upd (c 111) ((g 125)).toNatClampNeg x1)) l) (i := .getfield 766) (len := 3) rfl hj rfl rfl rfl rfl]
  rw [n_step (st' := [.int x2, .int (g 125), .ref 112]) (pc' := 19) (lv' := [(0, .ref 49), (1, .int x1), (2, .int x2), (3, .int x3), (4, .int x4)]) (hp' := rH e g q (updA c 111 (upd (c 111) ((g 125)).toNatClampNeg x1)) l) (i := .iload_n 2) (len := 1) rfl hj rfl rfl rfl]
  rw [n_ias (st' := []) (hp' := rH e g q (updA (updA c 111 (upd (c 111) ((g 125)).toNatClampNeg x1)) 112 (upd ((updA c 111 (upd (c 111) ((g 125)).toNatClampNeg x1)) 112) ((g 125)).toNatClampNeg x2)) l) rfl hj (ast_112 hz1)]
  rw [n_step (st' := [.ref 49]) (pc' := 21) (lv' := [(0, .ref 49), (1, .int x1), (2, .int x2), (3, .int x3), (4, .int x4)]) (hp' := rH e g q (updA (updA c 111 (upd (c 111) ((g 125)).toNatClampNeg x1)) 112 (upd ((updA c 111 (upd (c 111) ((g 125)).toNatClampNeg x1)) 112) ((g 125)).toNatClampNeg x2)) l) (i := .aload_n 0) (len := 1) rfl hj rfl rfl rfl]
  rw [n_get (st' := [.ref 113]) (pc' := 24) (lv' := [(0, .ref 49), (1, .int x1), (2, .int x2), (3, .int x3), (4, .int x4)]) (hp' := rH e g q (updA (updA c 111 (upd (c 111) ((g 125)).toNatClampNeg x1)) 112 (upd ((updA c 111 (upd (c 111) ((g 125)).toNatClampNeg x1)) 112) ((g 125)).toNatClampNeg x2)) l) (i := .getfield 210) (len := 3) rfl hj rfl rfl rfl rfl]
  rw [n_step (st' := [.ref 49, .ref 113]) (pc' := 25) (lv' := [(0, .ref 49), (1, .int x1), (2, .int x2), (3, .int x3), (4, .int x4)]) (hp' := rH e g q (updA (updA c 111 (upd (c 111) ((g 125)).toNatClampNeg x1)) 112 (upd ((updA c 111 (upd (c 111) ((g 125)).toNatClampNeg x1)) 112) ((g 125)).toNatClampNeg x2)) l) (i := .aload_n 0) (len := 1) rfl hj rfl rfl rfl]
  rw [n_get (st' := [.int (g 125), .ref 113]) (pc' := 28) (lv' := [(0, .ref 49), (1, .int x1), (2, .int x2), (3, .int x3), (4, .int x4)]) (hp' := rH e g q (updA (updA c 111 (upd (c 111) ((g 125)).toNatClampNeg x1)) 112 (upd ((updA c 111 (upd (c 111) ((g 125)).toNatClampNeg x1)) 112) ((g 125)).toNatClampNeg x2)) l) (i := .getfield 766) (len := 3) rfl hj rfl rfl rfl rfl]
  rw [n_step (st' := [.int x3, .int (g 125), .ref 113]) (pc' := 29) (lv' := [(0, .ref 49), (1, .int x1), (2, .int x2), (3, .int x3), (4, .int x4)]) (hp' := rH e g q (updA (updA c 111 (upd (c 111) ((g 125)).toNatClampNeg x1)) 112 (upd ((updA c 111 (upd (c 111) ((g 125)).toNatClampNeg x1)) 112) ((g 125)).toNatClampNeg x2)) l) (i := .iload_n 3) (len := 1) rfl hj rfl rfl rfl]
  rw [n_ias (st' := []) (hp' := rH e g q (updA (updA (updA c 111 (upd (c 111) ((g 125)).toNatClampNeg x1)) 112 (upd ((updA c 111 (upd (c 111) ((g 125)).toNatClampNeg x1)) 112) ((g 125)).toNatClampNeg x2)) 113 (upd ((updA (updA c 111 (upd (c 111) ((g 125)).toNatClampNeg x1)) 112 (upd ((updA c 111 (upd (c 111) ((g 125)).toNatClampNeg x1)) 112) ((g 125)).toNatClampNeg x2)) 113) ((g 125)).toNatClampNeg x3)) l) rfl hj (ast_113 hz2)]
  rw [n_step (st' := [.ref 49]) (pc' := 31) (lv' := [(0, .ref 49), (1, .int x1), (2, .int x2), (3, .int x3), (4, .int x4)]) (hp' := rH e g q (updA (updA (updA c 111 (upd (c 111) ((g 125)).toNatClampNeg x1)) 112 (upd ((updA c 111 (upd (c 111) ((g 125)).toNatClampNeg x1)) 112) ((g 125)).toNatClampNeg x2)) 113 (upd ((updA (updA c 111 (upd (c 111) ((g 125)).toNatClampNeg x1)) 112 (upd ((updA c 111 (upd (c 111) ((g 125)).toNatClampNeg x1)) 112) ((g 125)).toNatClampNeg x2)) 113) ((g 125)).toNatClampNeg x3)) l) (i := .aload_n 0) (len := 1) rfl hj rfl rfl rfl]
  rw [n_get (st' := [.ref 114]) (pc' := 34) (lv' := [(0, .ref 49), (1, .int x1), (2, .int x2), (3, .int x3), (4, .int x4)]) (hp' := rH e g q (updA (updA (updA c 111 (upd (c 111) ((g 125)).toNatClampNeg x1)) 112 (upd ((updA c 111 (upd (c 111) ((g 125)).toNatClampNeg x1)) 112) ((g 125)).toNatClampNeg x2)) 113 (upd ((updA (updA c 111 (upd (c 111) ((g 125)).toNatClampNeg x1)) 112 (upd ((updA c 111 (upd (c 111) ((g 125)).toNatClampNeg x1)) 112) ((g 125)).toNatClampNeg x2)) 113) ((g 125)).toNatClampNeg x3)) l) (i := .getfield 213) (len := 3) rfl hj rfl rfl rfl rfl]
  rw [n_step (st' := [.ref 49, .ref 114]) (pc' := 35) (lv' := [(0, .ref 49), (1, .int x1), (2, .int x2), (3, .int x3), (4, .int x4)]) (hp' := rH e g q (updA (updA (updA c 111 (upd (c 111) ((g 125)).toNatClampNeg x1)) 112 (upd ((updA c 111 (upd (c 111) ((g 125)).toNatClampNeg x1)) 112) ((g 125)).toNatClampNeg x2)) 113 (upd ((updA (updA c 111 (upd (c 111) ((g 125)).toNatClampNeg x1)) 112 (upd ((updA c 111 (upd (c 111) ((g 125)).toNatClampNeg x1)) 112) ((g 125)).toNatClampNeg x2)) 113) ((g 125)).toNatClampNeg x3)) l) (i := .aload_n 0) (len := 1) rfl hj rfl rfl rfl]
  rw [n_get (st' := [.int (g 125), .ref 114]) (pc' := 38) (lv' := [(0, .ref 49), (1, .int x1), (2, .int x2), (3, .int x3), (4, .int x4)]) (hp' := rH e g q (updA (updA (updA c 111 (upd (c 111) ((g 125)).toNatClampNeg x1)) 112 (upd ((updA c 111 (upd (c 111) ((g 125)).toNatClampNeg x1)) 112) ((g 125)).toNatClampNeg x2)) 113 (upd ((updA (updA c 111 (upd (c 111) ((g 125)).toNatClampNeg x1)) 112 (upd ((updA c 111 (upd (c 111) ((g 125)).toNatClampNeg x1)) 112) ((g 125)).toNatClampNeg x2)) 113) ((g 125)).toNatClampNeg x3)) l) (i := .getfield 766) (len := 3) rfl hj rfl rfl rfl rfl]
  rw [n_step (st' := [.int x4, .int (g 125), .ref 114]) (pc' := 40) (lv' := [(0, .ref 49), (1, .int x1), (2, .int x2), (3, .int x3), (4, .int x4)]) (hp' := rH e g q (updA (updA (updA c 111 (upd (c 111) ((g 125)).toNatClampNeg x1)) 112 (upd ((updA c 111 (upd (c 111) ((g 125)).toNatClampNeg x1)) 112) ((g 125)).toNatClampNeg x2)) 113 (upd ((updA (updA c 111 (upd (c 111) ((g 125)).toNatClampNeg x1)) 112 (upd ((updA c 111 (upd (c 111) ((g 125)).toNatClampNeg x1)) 112) ((g 125)).toNatClampNeg x2)) 113) ((g 125)).toNatClampNeg x3)) l) (i := .iload 4) (len := 2) rfl hj rfl rfl rfl]
  rw [n_ias (st' := []) (hp' := rH e g q (updA (updA (updA (updA c 111 (upd (c 111) ((g 125)).toNatClampNeg x1)) 112 (upd ((updA c 111 (upd (c 111) ((g 125)).toNatClampNeg x1)) 112) ((g 125)).toNatClampNeg x2)) 113 (upd ((updA (updA c 111 (upd (c 111) ((g 125)).toNatClampNeg x1)) 112 (upd ((updA c 111 (upd (c 111) ((g 125)).toNatClampNeg x1)) 112) ((g 125)).toNatClampNeg x2)) 113) ((g 125)).toNatClampNeg x3)) 114 (upd ((updA (updA (updA c 111 (upd (c 111) ((g 125)).toNatClampNeg x1)) 112 (upd ((updA c 111 (upd (c 111) ((g 125)).toNatClampNeg x1)) 112) ((g 125)).toNatClampNeg x2)) 113 (upd ((updA (updA c 111 (upd (c 111) ((g 125)).toNatClampNeg x1)) 112 (upd ((updA c 111 (upd (c 111) ((g 125)).toNatClampNeg x1)) 112) ((g 125)).toNatClampNeg x2)) 113) ((g 125)).toNatClampNeg x3)) 114) ((g 125)).toNatClampNeg x4)) l) rfl hj (ast_114 hz3)]
  rw [n_step (st' := [.ref 49]) (pc' := 42) (lv' := [(0, .ref 49), (1, .int x1), (2, .int x2), (3, .int x3), (4, .int x4)]) (hp' := rH e g q (updA (updA (updA (updA c 111 (upd (c 111) ((g 125)).toNatClampNeg x1)) 112 (upd ((updA c 111 (upd (c 111) ((g 125)).toNatClampNeg x1)) 112) ((g 125)).toNatClampNeg x2)) 113 (upd ((updA (updA c 111 (upd (c 111) ((g 125)).toNatClampNeg x1)) 112 (upd ((updA c 111 (upd (c 111) ((g 125)).toNatClampNeg x1)) 112) ((g 125)).toNatClampNeg x2)) 113) ((g 125)).toNatClampNeg x3)) 114 (upd ((updA (updA (updA c 111 (upd (c 111) ((g 125)).toNatClampNeg x1)) 112 (upd ((updA c 111 (upd (c 111) ((g 125)).toNatClampNeg x1)) 112) ((g 125)).toNatClampNeg x2)) 113 (upd ((updA (updA c 111 (upd (c 111) ((g 125)).toNatClampNeg x1)) 112 (upd ((updA c 111 (upd (c 111) ((g 125)).toNatClampNeg x1)) 112) ((g 125)).toNatClampNeg x2)) 113) ((g 125)).toNatClampNeg x3)) 114) ((g 125)).toNatClampNeg x4)) l) (i := .aload_n 0) (len := 1) rfl hj rfl rfl rfl]
  rw [n_get (st' := [.ref 115]) (pc' := 45) (lv' := [(0, .ref 49), (1, .int x1), (2, .int x2), (3, .int x3), (4, .int x4)]) (hp' := rH e g q (updA (updA (updA (updA c 111 (upd (c 111) ((g 125)).toNatClampNeg x1)) 112 (upd ((updA c 111 (upd (c 111) ((g 125)).toNatClampNeg x1)) 112) ((g 125)).toNatClampNeg x2)) 113 (upd ((updA (updA c 111 (upd (c 111) ((g 125)).toNatClampNeg x1)) 112 (upd ((updA c 111 (upd (c 111) ((g 125)).toNatClampNeg x1)) 112) ((g 125)).toNatClampNeg x2)) 113) ((g 125)).toNatClampNeg x3)) 114 (upd ((updA (updA (updA c 111 (upd (c 111) ((g 125)).toNatClampNeg x1)) 112 (upd ((updA c 111 (upd (c 111) ((g 125)).toNatClampNeg x1)) 112) ((g 125)).toNatClampNeg x2)) 113 (upd ((updA (updA c 111 (upd (c 111) ((g 125)).toNatClampNeg x1)) 112 (upd ((updA c 111 (upd (c 111) ((g 125)).toNatClampNeg x1)) 112) ((g 125)).toNatClampNeg x2)) 113) ((g 125)).toNatClampNeg x3)) 114) ((g 125)).toNatClampNeg x4)) l) (i := .getfield 216) (len := 3) rfl hj rfl rfl rfl rfl]
  rw [n_step (st' := [.ref 49, .ref 115]) (pc' := 46) (lv' := [(0, .ref 49), (1, .int x1), (2, .int x2), (3, .int x3), (4, .int x4)]) (hp' := rH e g q (updA (updA (updA (updA c 111 (upd (c 111) ((g 125)).toNatClampNeg x1)) 112 (upd ((updA c 111 (upd (c 111) ((g 125)).toNatClampNeg x1)) 112) ((g 125)).toNatClampNeg x2)) 113 (upd ((updA (updA c 111 (upd (c 111) ((g 125)).toNatClampNeg x1)) 112 (upd ((updA c 111 (upd (c 111) ((g 125)).toNatClampNeg x1)) 112) ((g 125)).toNatClampNeg x2)) 113) ((g 125)).toNatClampNeg x3)) 114 (upd ((updA (updA (updA c 111 (upd (c 111) ((g 125)).toNatClampNeg x1)) 112 (upd ((updA c 111 (upd (c 111) ((g 125)).toNatClampNeg x1)) 112) ((g 125)).toNatClampNeg x2)) 113 (upd ((updA (updA c 111 (upd (c 111) ((g 125)).toNatClampNeg x1)) 112 (upd ((updA c 111 (upd (c 111) ((g 125)).toNatClampNeg x1)) 112) ((g 125)).toNatClampNeg x2)) 113) ((g 125)).toNatClampNeg x3)) 114) ((g 125)).toNatClampNeg x4)) l) (i := .aload_n 0) (len := 1) rfl hj rfl rfl rfl]
  rw [n_get (st' := [.int (g 125), .ref 115]) (pc' := 49) (lv' := [(0, .ref 49), (1, .int x1), (2, .int x2), (3, .int x3), (4, .int x4)]) (hp' := rH e g q (updA (updA (updA (updA c 111 (upd (c 111) ((g 125)).toNatClampNeg x1)) 112 (upd ((updA c 111 (upd (c 111) ((g 125)).toNatClampNeg x1)) 112) ((g 125)).toNatClampNeg x2)) 113 (upd ((updA (updA c 111 (upd (c 111) ((g 125)).toNatClampNeg x1)) 112 (upd ((updA c 111 (upd (c 111) ((g 125)).toNatClampNeg x1)) 112) ((g 125)).toNatClampNeg x2)) 113) ((g 125)).toNatClampNeg x3)) 114 (upd ((updA (updA (updA c 111 (upd (c 111) ((g 125)).toNatClampNeg x1)) 112 (upd ((updA c 111 (upd (c 111) ((g 125)).toNatClampNeg x1)) 112) ((g 125)).toNatClampNeg x2)) 113 (upd ((updA (updA c 111 (upd (c 111) ((g 125)).toNatClampNeg x1)) 112 (upd ((updA c 111 (upd (c 111) ((g 125)).toNatClampNeg x1)) 112) ((g 125)).toNatClampNeg x2)) 113) ((g 125)).toNatClampNeg x3)) 114) ((g 125)).toNatClampNeg x4)) l) (i := .getfield 766) (len := 3) rfl hj rfl rfl rfl rfl]
  rw [n_step (st' := [.ref 49, .int (g 125), .ref 115]) (pc' := 50) (lv' := [(0, .ref 49), (1, .int x1), (2, .int x2), (3, .int x3), (4, .int x4)]) (hp' := rH e g q (updA (updA (updA (updA c 111 (upd (c 111) ((g 125)).toNatClampNeg x1)) 112 (upd ((updA c 111 (upd (c 111) ((g 125)).toNatClampNeg x1)) 112) ((g 125)).toNatClampNeg x2)) 113 (upd ((updA (updA c 111 (upd (c 111) ((g 125)).toNatClampNeg x1)) 112 (upd ((updA c 111 (upd (c 111) ((g 125)).toNatClampNeg x1)) 112) ((g 125)).toNatClampNeg x2)) 113) ((g 125)).toNatClampNeg x3)) 114 (upd ((updA (updA (updA c 111 (upd (c 111) ((g 125)).toNatClampNeg x1)) 112 (upd ((updA c 111 (upd (c 111) ((g 125)).toNatClampNeg x1)) 112) ((g 125)).toNatClampNeg x2)) 113 (upd ((updA (updA c 111 (upd (c 111) ((g 125)).toNatClampNeg x1)) 112 (upd ((updA c 111 (upd (c 111) ((g 125)).toNatClampNeg x1)) 112) ((g 125)).toNatClampNeg x2)) 113) ((g 125)).toNatClampNeg x3)) 114) ((g 125)).toNatClampNeg x4)) l) (i := .aload_n 0) (len := 1) rfl hj rfl rfl rfl]
  rw [n_get (st' := [.int (g 135), .int (g 125), .ref 115]) (pc' := 53) (lv' := [(0, .ref 49), (1, .int x1), (2, .int x2), (3, .int x3), (4, .int x4)]) (hp' := rH e g q (updA (updA (updA (updA c 111 (upd (c 111) ((g 125)).toNatClampNeg x1)) 112 (upd ((updA c 111 (upd (c 111) ((g 125)).toNatClampNeg x1)) 112) ((g 125)).toNatClampNeg x2)) 113 (upd ((updA (updA c 111 (upd (c 111) ((g 125)).toNatClampNeg x1)) 112 (upd ((updA c 111 (upd (c 111) ((g 125)).toNatClampNeg x1)) 112) ((g 125)).toNatClampNeg x2)) 113) ((g 125)).toNatClampNeg x3)) 114 (upd ((updA (updA (updA c 111 (upd (c 111) ((g 125)).toNatClampNeg x1)) 112 (upd ((updA c 111 (upd (c 111) ((g 125)).toNatClampNeg x1)) 112) ((g 125)).toNatClampNeg x2)) 113 (upd ((updA (updA c 111 (upd (c 111) ((g 125)).toNatClampNeg x1)) 112 (upd ((updA c 111 (upd (c 111) ((g 125)).toNatClampNeg x1)) 112) ((g 125)).toNatClampNeg x2)) 113) ((g 125)).toNatClampNeg x3)) 114) ((g 125)).toNatClampNeg x4)) l) (i := .getfield 797) (len := 3) rfl hj rfl rfl rfl rfl]
  rw [n_ias (st' := []) (hp' := rH e g q (updA (updA (updA (updA (updA c 111 (upd (c 111) ((g 125)).toNatClampNeg x1)) 112 (upd ((updA c 111 (upd (c 111) ((g 125)).toNatClampNeg x1)) 112) ((g 125)).toNatClampNeg x2)) 113 (upd ((updA (updA c 111 (upd (c 111) ((g 125)).toNatClampNeg x1)) 112 (upd ((updA c 111 (upd (c 111) ((g 125)).toNatClampNeg x1)) 112) ((g 125)).toNatClampNeg x2)) 113) ((g 125)).toNatClampNeg x3)) 114 (upd ((updA (updA (updA c 111 (upd (c 111) ((g 125)).toNatClampNeg x1)) 112 (upd ((updA c 111 (upd (c 111) ((g 125)).toNatClampNeg x1)) 112) ((g 125)).toNatClampNeg x2)) 113 (upd ((updA (updA c 111 (upd (c 111) ((g 125)).toNatClampNeg x1)) 112 (upd ((updA c 111 (upd (c 111) ((g 125)).toNatClampNeg x1)) 112) ((g 125)).toNatClampNeg x2)) 113) ((g 125)).toNatClampNeg x3)) 114) ((g 125)).toNatClampNeg x4)) 115 (upd ((updA (updA (updA (updA c 111 (upd (c 111) ((g 125)).toNatClampNeg x1)) 112 (upd ((updA c 111 (upd (c 111) ((g 125)).toNatClampNeg x1)) 112) ((g 125)).toNatClampNeg x2)) 113 (upd ((updA (updA c 111 (upd (c 111) ((g 125)).toNatClampNeg x1)) 112 (upd ((updA c 111 (upd (c 111) ((g 125)).toNatClampNeg x1)) 112) ((g 125)).toNatClampNeg x2)) 113) ((g 125)).toNatClampNeg x3)) 114 (upd ((updA (updA (updA c 111 (upd (c 111) ((g 125)).toNatClampNeg x1)) 112 (upd ((updA c 111 (upd (c 111) ((g 125)).toNatClampNeg x1)) 112) ((g 125)).toNatClampNeg x2)) 113 (upd ((updA (updA c 111 (upd (c 111) ((g 125)).toNatClampNeg x1)) 112 (upd ((updA c 111 (upd (c 111) ((g 125)).toNatClampNeg x1)) 112) ((g 125)).toNatClampNeg x2)) 113) ((g 125)).toNatClampNeg x3)) 114) ((g 125)).toNatClampNeg x4)) 115) ((g 125)).toNatClampNeg ((g 135)))) l) rfl hj (ast_115 hz4)]
  rw [n_step (st' := [.ref 49]) (pc' := 55) (lv' := [(0, .ref 49), (1, .int x1), (2, .int x2), (3, .int x3), (4, .int x4)]) (hp' := rH e g q (updA (updA (updA (updA (updA c 111 (upd (c 111) ((g 125)).toNatClampNeg x1)) 112 (upd ((updA c 111 (upd (c 111) ((g 125)).toNatClampNeg x1)) 112) ((g 125)).toNatClampNeg x2)) 113 (upd ((updA (updA c 111 (upd (c 111) ((g 125)).toNatClampNeg x1)) 112 (upd ((updA c 111 (upd (c 111) ((g 125)).toNatClampNeg x1)) 112) ((g 125)).toNatClampNeg x2)) 113) ((g 125)).toNatClampNeg x3)) 114 (upd ((updA (updA (updA c 111 (upd (c 111) ((g 125)).toNatClampNeg x1)) 112 (upd ((updA c 111 (upd (c 111) ((g 125)).toNatClampNeg x1)) 112) ((g 125)).toNatClampNeg x2)) 113 (upd ((updA (updA c 111 (upd (c 111) ((g 125)).toNatClampNeg x1)) 112 (upd ((updA c 111 (upd (c 111) ((g 125)).toNatClampNeg x1)) 112) ((g 125)).toNatClampNeg x2)) 113) ((g 125)).toNatClampNeg x3)) 114) ((g 125)).toNatClampNeg x4)) 115 (upd ((updA (updA (updA (updA c 111 (upd (c 111) ((g 125)).toNatClampNeg x1)) 112 (upd ((updA c 111 (upd (c 111) ((g 125)).toNatClampNeg x1)) 112) ((g 125)).toNatClampNeg x2)) 113 (upd ((updA (updA c 111 (upd (c 111) ((g 125)).toNatClampNeg x1)) 112 (upd ((updA c 111 (upd (c 111) ((g 125)).toNatClampNeg x1)) 112) ((g 125)).toNatClampNeg x2)) 113) ((g 125)).toNatClampNeg x3)) 114 (upd ((updA (updA (updA c 111 (upd (c 111) ((g 125)).toNatClampNeg x1)) 112 (upd ((updA c 111 (upd (c 111) ((g 125)).toNatClampNeg x1)) 112) ((g 125)).toNatClampNeg x2)) 113 (upd ((updA (updA c 111 (upd (c 111) ((g 125)).toNatClampNeg x1)) 112 (upd ((updA c 111 (upd (c 111) ((g 125)).toNatClampNeg x1)) 112) ((g 125)).toNatClampNeg x2)) 113) ((g 125)).toNatClampNeg x3)) 114) ((g 125)).toNatClampNeg x4)) 115) ((g 125)).toNatClampNeg ((g 135)))) l) (i := .aload_n 0) (len := 1) rfl hj rfl rfl rfl]
  rw [n_get (st' := [.ref 116]) (pc' := 58) (lv' := [(0, .ref 49), (1, .int x1), (2, .int x2), (3, .int x3), (4, .int x4)]) (hp' := rH e g q (updA (updA (updA (updA (updA c 111 (upd (c 111) ((g 125)).toNatClampNeg x1)) 112 (upd ((updA c 111 (upd (c 111) ((g 125)).toNatClampNeg x1)) 112) ((g 125)).toNatClampNeg x2)) 113 (upd ((updA (updA c 111 (upd (c 111) ((g 125)).toNatClampNeg x1)) 112 (upd ((updA c 111 (upd (c 111) ((g 125)).toNatClampNeg x1)) 112) ((g 125)).toNatClampNeg x2)) 113) ((g 125)).toNatClampNeg x3)) 114 (upd ((updA (updA (updA c 111 (upd (c 111) ((g 125)).toNatClampNeg x1)) 112 (upd ((updA c 111 (upd (c 111) ((g 125)).toNatClampNeg x1)) 112) ((g 125)).toNatClampNeg x2)) 113 (upd ((updA (updA c 111 (upd (c 111) ((g 125)).toNatClampNeg x1)) 112 (upd ((updA c 111 (upd (c 111) ((g 125)).toNatClampNeg x1)) 112) ((g 125)).toNatClampNeg x2)) 113) ((g 125)).toNatClampNeg x3)) 114) ((g 125)).toNatClampNeg x4)) 115 (upd ((updA (updA (updA (updA c 111 (upd (c 111) ((g 125)).toNatClampNeg x1)) 112 (upd ((updA c 111 (upd (c 111) ((g 125)).toNatClampNeg x1)) 112) ((g 125)).toNatClampNeg x2)) 113 (upd ((updA (updA c 111 (upd (c 111) ((g 125)).toNatClampNeg x1)) 112 (upd ((updA c 111 (upd (c 111) ((g 125)).toNatClampNeg x1)) 112) ((g 125)).toNatClampNeg x2)) 113) ((g 125)).toNatClampNeg x3)) 114 (upd ((updA (updA (updA c 111 (upd (c 111) ((g 125)).toNatClampNeg x1)) 112 (upd ((updA c 111 (upd (c 111) ((g 125)).toNatClampNeg x1)) 112) ((g 125)).toNatClampNeg x2)) 113 (upd ((updA (updA c 111 (upd (c 111) ((g 125)).toNatClampNeg x1)) 112 (upd ((updA c 111 (upd (c 111) ((g 125)).toNatClampNeg x1)) 112) ((g 125)).toNatClampNeg x2)) 113) ((g 125)).toNatClampNeg x3)) 114) ((g 125)).toNatClampNeg x4)) 115) ((g 125)).toNatClampNeg ((g 135)))) l) (i := .getfield 219) (len := 3) rfl hj rfl rfl rfl rfl]
  rw [n_step (st' := [.ref 49, .ref 116]) (pc' := 59) (lv' := [(0, .ref 49), (1, .int x1), (2, .int x2), (3, .int x3), (4, .int x4)]) (hp' := rH e g q (updA (updA (updA (updA (updA c 111 (upd (c 111) ((g 125)).toNatClampNeg x1)) 112 (upd ((updA c 111 (upd (c 111) ((g 125)).toNatClampNeg x1)) 112) ((g 125)).toNatClampNeg x2)) 113 (upd ((updA (updA c 111 (upd (c 111) ((g 125)).toNatClampNeg x1)) 112 (upd ((updA c 111 (upd (c 111) ((g 125)).toNatClampNeg x1)) 112) ((g 125)).toNatClampNeg x2)) 113) ((g 125)).toNatClampNeg x3)) 114 (upd ((updA (updA (updA c 111 (upd (c 111) ((g 125)).toNatClampNeg x1)) 112 (upd ((updA c 111 (upd (c 111) ((g 125)).toNatClampNeg x1)) 112) ((g 125)).toNatClampNeg x2)) 113 (upd ((updA (updA c 111 (upd (c 111) ((g 125)).toNatClampNeg x1)) 112 (upd ((updA c 111 (upd (c 111) ((g 125)).toNatClampNeg x1)) 112) ((g 125)).toNatClampNeg x2)) 113) ((g 125)).toNatClampNeg x3)) 114) ((g 125)).toNatClampNeg x4)) 115 (upd ((updA (updA (updA (updA c 111 (upd (c 111) ((g 125)).toNatClampNeg x1)) 112 (upd ((updA c 111 (upd (c 111) ((g 125)).toNatClampNeg x1)) 112) ((g 125)).toNatClampNeg x2)) 113 (upd ((updA (updA c 111 (upd (c 111) ((g 125)).toNatClampNeg x1)) 112 (upd ((updA c 111 (upd (c 111) ((g 125)).toNatClampNeg x1)) 112) ((g 125)).toNatClampNeg x2)) 113) ((g 125)).toNatClampNeg x3)) 114 (upd ((updA (updA (updA c 111 (upd (c 111) ((g 125)).toNatClampNeg x1)) 112 (upd ((updA c 111 (upd (c 111) ((g 125)).toNatClampNeg x1)) 112) ((g 125)).toNatClampNeg x2)) 113 (upd ((updA (updA c 111 (upd (c 111) ((g 125)).toNatClampNeg x1)) 112 (upd ((updA c 111 (upd (c 111) ((g 125)).toNatClampNeg x1)) 112) ((g 125)).toNatClampNeg x2)) 113) ((g 125)).toNatClampNeg x3)) 114) ((g 125)).toNatClampNeg x4)) 115) ((g 125)).toNatClampNeg ((g 135)))) l) (i := .aload_n 0) (len := 1) rfl hj rfl rfl rfl]
  rw [n_get (st' := [.int (g 125), .ref 116]) (pc' := 62) (lv' := [(0, .ref 49), (1, .int x1), (2, .int x2), (3, .int x3), (4, .int x4)]) (hp' := rH e g q (updA (updA (updA (updA (updA c 111 (upd (c 111) ((g 125)).toNatClampNeg x1)) 112 (upd ((updA c 111 (upd (c 111) ((g 125)).toNatClampNeg x1)) 112) ((g 125)).toNatClampNeg x2)) 113 (upd ((updA (updA c 111 (upd (c 111) ((g 125)).toNatClampNeg x1)) 112 (upd ((updA c 111 (upd (c 111) ((g 125)).toNatClampNeg x1)) 112) ((g 125)).toNatClampNeg x2)) 113) ((g 125)).toNatClampNeg x3)) 114 (upd ((updA (updA (updA c 111 (upd (c 111) ((g 125)).toNatClampNeg x1)) 112 (upd ((updA c 111 (upd (c 111) ((g 125)).toNatClampNeg x1)) 112) ((g 125)).toNatClampNeg x2)) 113 (upd ((updA (updA c 111 (upd (c 111) ((g 125)).toNatClampNeg x1)) 112 (upd ((updA c 111 (upd (c 111) ((g 125)).toNatClampNeg x1)) 112) ((g 125)).toNatClampNeg x2)) 113) ((g 125)).toNatClampNeg x3)) 114) ((g 125)).toNatClampNeg x4)) 115 (upd ((updA (updA (updA (updA c 111 (upd (c 111) ((g 125)).toNatClampNeg x1)) 112 (upd ((updA c 111 (upd (c 111) ((g 125)).toNatClampNeg x1)) 112) ((g 125)).toNatClampNeg x2)) 113 (upd ((updA (updA c 111 (upd (c 111) ((g 125)).toNatClampNeg x1)) 112 (upd ((updA c 111 (upd (c 111) ((g 125)).toNatClampNeg x1)) 112) ((g 125)).toNatClampNeg x2)) 113) ((g 125)).toNatClampNeg x3)) 114 (upd ((updA (updA (updA c 111 (upd (c 111) ((g 125)).toNatClampNeg x1)) 112 (upd ((updA c 111 (upd (c 111) ((g 125)).toNatClampNeg x1)) 112) ((g 125)).toNatClampNeg x2)) 113 (upd ((updA (updA c 111 (upd (c 111) ((g 125)).toNatClampNeg x1)) 112 (upd ((updA c 111 (upd (c 111) ((g 125)).toNatClampNeg x1)) 112) ((g 125)).toNatClampNeg x2)) 113) ((g 125)).toNatClampNeg x3)) 114) ((g 125)).toNatClampNeg x4)) 115) ((g 125)).toNatClampNeg ((g 135)))) l) (i := .getfield 766) (len := 3) rfl hj rfl rfl rfl rfl]
  rw [n_step (st' := [.ref 49, .int (g 125), .ref 116]) (pc' := 63) (lv' := [(0, .ref 49), (1, .int x1), (2, .int x2), (3, .int x3), (4, .int x4)]) (hp' := rH e g q (updA (updA (updA (updA (updA c 111 (upd (c 111) ((g 125)).toNatClampNeg x1)) 112 (upd ((updA c 111 (upd (c 111) ((g 125)).toNatClampNeg x1)) 112) ((g 125)).toNatClampNeg x2)) 113 (upd ((updA (updA c 111 (upd (c 111) ((g 125)).toNatClampNeg x1)) 112 (upd ((updA c 111 (upd (c 111) ((g 125)).toNatClampNeg x1)) 112) ((g 125)).toNatClampNeg x2)) 113) ((g 125)).toNatClampNeg x3)) 114 (upd ((updA (updA (updA c 111 (upd (c 111) ((g 125)).toNatClampNeg x1)) 112 (upd ((updA c 111 (upd (c 111) ((g 125)).toNatClampNeg x1)) 112) ((g 125)).toNatClampNeg x2)) 113 (upd ((updA (updA c 111 (upd (c 111) ((g 125)).toNatClampNeg x1)) 112 (upd ((updA c 111 (upd (c 111) ((g 125)).toNatClampNeg x1)) 112) ((g 125)).toNatClampNeg x2)) 113) ((g 125)).toNatClampNeg x3)) 114) ((g 125)).toNatClampNeg x4)) 115 (upd ((updA (updA (updA (updA c 111 (upd (c 111) ((g 125)).toNatClampNeg x1)) 112 (upd ((updA c 111 (upd (c 111) ((g 125)).toNatClampNeg x1)) 112) ((g 125)).toNatClampNeg x2)) 113 (upd ((updA (updA c 111 (upd (c 111) ((g 125)).toNatClampNeg x1)) 112 (upd ((updA c 111 (upd (c 111) ((g 125)).toNatClampNeg x1)) 112) ((g 125)).toNatClampNeg x2)) 113) ((g 125)).toNatClampNeg x3)) 114 (upd ((updA (updA (updA c 111 (upd (c 111) ((g 125)).toNatClampNeg x1)) 112 (upd ((updA c 111 (upd (c 111) ((g 125)).toNatClampNeg x1)) 112) ((g 125)).toNatClampNeg x2)) 113 (upd ((updA (updA c 111 (upd (c 111) ((g 125)).toNatClampNeg x1)) 112 (upd ((updA c 111 (upd (c 111) ((g 125)).toNatClampNeg x1)) 112) ((g 125)).toNatClampNeg x2)) 113) ((g 125)).toNatClampNeg x3)) 114) ((g 125)).toNatClampNeg x4)) 115) ((g 125)).toNatClampNeg ((g 135)))) l) (i := .aload_n 0) (len := 1) rfl hj rfl rfl rfl]
  rw [n_get (st' := [.int (g 136), .int (g 125), .ref 116]) (pc' := 66) (lv' := [(0, .ref 49), (1, .int x1), (2, .int x2), (3, .int x3), (4, .int x4)]) (hp' := rH e g q (updA (updA (updA (updA (updA c 111 (upd (c 111) ((g 125)).toNatClampNeg x1)) 112 (upd ((updA c 111 (upd (c 111) ((g 125)).toNatClampNeg x1)) 112) ((g 125)).toNatClampNeg x2)) 113 (upd ((updA (updA c 111 (upd (c 111) ((g 125)).toNatClampNeg x1)) 112 (upd ((updA c 111 (upd (c 111) ((g 125)).toNatClampNeg x1)) 112) ((g 125)).toNatClampNeg x2)) 113) ((g 125)).toNatClampNeg x3)) 114 (upd ((updA (updA (updA c 111 (upd (c 111) ((g 125)).toNatClampNeg x1)) 112 (upd ((updA c 111 (upd (c 111) ((g 125)).toNatClampNeg x1)) 112) ((g 125)).toNatClampNeg x2)) 113 (upd ((updA (updA c 111 (upd (c 111) ((g 125)).toNatClampNeg x1)) 112 (upd ((updA c 111 (upd (c 111) ((g 125)).toNatClampNeg x1)) 112) ((g 125)).toNatClampNeg x2)) 113) ((g 125)).toNatClampNeg x3)) 114) ((g 125)).toNatClampNeg x4)) 115 (upd ((updA (updA (updA (updA c 111 (upd (c 111) ((g 125)).toNatClampNeg x1)) 112 (upd ((updA c 111 (upd (c 111) ((g 125)).toNatClampNeg x1)) 112) ((g 125)).toNatClampNeg x2)) 113 (upd ((updA (updA c 111 (upd (c 111) ((g 125)).toNatClampNeg x1)) 112 (upd ((updA c 111 (upd (c 111) ((g 125)).toNatClampNeg x1)) 112) ((g 125)).toNatClampNeg x2)) 113) ((g 125)).toNatClampNeg x3)) 114 (upd ((updA (updA (updA c 111 (upd (c 111) ((g 125)).toNatClampNeg x1)) 112 (upd ((updA c 111 (upd (c 111) ((g 125)).toNatClampNeg x1)) 112) ((g 125)).toNatClampNeg x2)) 113 (upd ((updA (updA c 111 (upd (c 111) ((g 125)).toNatClampNeg x1)) 112 (upd ((updA c 111 (upd (c 111) ((g 125)).toNatClampNeg x1)) 112) ((g 125)).toNatClampNeg x2)) 113) ((g 125)).toNatClampNeg x3)) 114) ((g 125)).toNatClampNeg x4)) 115) ((g 125)).toNatClampNeg ((g 135)))) l) (i := .getfield 800) (len := 3) rfl hj rfl rfl rfl rfl]
  rw [n_ias (st' := []) (hp' := rH e g q (updA (updA (updA (updA (updA (updA c 111 (upd (c 111) ((g 125)).toNatClampNeg x1)) 112 (upd ((updA c 111 (upd (c 111) ((g 125)).toNatClampNeg x1)) 112) ((g 125)).toNatClampNeg x2)) 113 (upd ((updA (updA c 111 (upd (c 111) ((g 125)).toNatClampNeg x1)) 112 (upd ((updA c 111 (upd (c 111) ((g 125)).toNatClampNeg x1)) 112) ((g 125)).toNatClampNeg x2)) 113) ((g 125)).toNatClampNeg x3)) 114 (upd ((updA (updA (updA c 111 (upd (c 111) ((g 125)).toNatClampNeg x1)) 112 (upd ((updA c 111 (upd (c 111) ((g 125)).toNatClampNeg x1)) 112) ((g 125)).toNatClampNeg x2)) 113 (upd ((updA (updA c 111 (upd (c 111) ((g 125)).toNatClampNeg x1)) 112 (upd ((updA c 111 (upd (c 111) ((g 125)).toNatClampNeg x1)) 112) ((g 125)).toNatClampNeg x2)) 113) ((g 125)).toNatClampNeg x3)) 114) ((g 125)).toNatClampNeg x4)) 115 (upd ((updA (updA (updA (updA c 111 (upd (c 111) ((g 125)).toNatClampNeg x1)) 112 (upd ((updA c 111 (upd (c 111) ((g 125)).toNatClampNeg x1)) 112) ((g 125)).toNatClampNeg x2)) 113 (upd ((updA (updA c 111 (upd (c 111) ((g 125)).toNatClampNeg x1)) 112 (upd ((updA c 111 (upd (c 111) ((g 125)).toNatClampNeg x1)) 112) ((g 125)).toNatClampNeg x2)) 113) ((g 125)).toNatClampNeg x3)) 114 (upd ((updA (updA (updA c 111 (upd (c 111) ((g 125)).toNatClampNeg x1)) 112 (upd ((updA c 111 (upd (c 111) ((g 125)).toNatClampNeg x1)) 112) ((g 125)).toNatClampNeg x2)) 113 (upd ((updA (updA c 111 (upd (c 111) ((g 125)).toNatClampNeg x1)) 112 (upd ((updA c 111 (upd (c 111) ((g 125)).toNatClampNeg x1)) 112) ((g 125)).toNatClampNeg x2)) 113) ((g 125)).toNatClampNeg x3)) 114) ((g 125)).toNatClampNeg x4)) 115) ((g 125)).toNatClampNeg ((g 135)))) 116 (upd ((updA (updA (updA (updA (updA c 111 (upd (c 111) ((g 125)).toNatClampNeg x1)) 112 (upd ((updA c 111 (upd (c 111) ((g 125)).toNatClampNeg x1)) 112) ((g 125)).toNatClampNeg x2)) 113 (upd ((updA (updA c 111 (upd (c 111) ((g 125)).toNatClampNeg x1)) 112 (upd ((updA c 111 (upd (c 111) ((g 125)).toNatClampNeg x1)) 112) ((g 125)).toNatClampNeg x2)) 113) ((g 125)).toNatClampNeg x3)) 114 (upd ((updA (updA (updA c 111 (upd (c 111) ((g 125)).toNatClampNeg x1)) 112 (upd ((updA c 111 (upd (c 111) ((g 125)).toNatClampNeg x1)) 112) ((g 125)).toNatClampNeg x2)) 113 (upd ((updA (updA c 111 (upd (c 111) ((g 125)).toNatClampNeg x1)) 112 (upd ((updA c 111 (upd (c 111) ((g 125)).toNatClampNeg x1)) 112) ((g 125)).toNatClampNeg x2)) 113) ((g 125)).toNatClampNeg x3)) 114) ((g 125)).toNatClampNeg x4)) 115 (upd ((updA (updA (updA (updA c 111 (upd (c 111) ((g 125)).toNatClampNeg x1)) 112 (upd ((updA c 111 (upd (c 111) ((g 125)).toNatClampNeg x1)) 112) ((g 125)).toNatClampNeg x2)) 113 (upd ((updA (updA c 111 (upd (c 111) ((g 125)).toNatClampNeg x1)) 112 (upd ((updA c 111 (upd (c 111) ((g 125)).toNatClampNeg x1)) 112) ((g 125)).toNatClampNeg x2)) 113) ((g 125)).toNatClampNeg x3)) 114 (upd ((updA (updA (updA c 111 (upd (c 111) ((g 125)).toNatClampNeg x1)) 112 (upd ((updA c 111 (upd (c 111) ((g 125)).toNatClampNeg x1)) 112) ((g 125)).toNatClampNeg x2)) 113 (upd ((updA (updA c 111 (upd (c 111) ((g 125)).toNatClampNeg x1)) 112 (upd ((updA c 111 (upd (c 111) ((g 125)).toNatClampNeg x1)) 112) ((g 125)).toNatClampNeg x2)) 113) ((g 125)).toNatClampNeg x3)) 114) ((g 125)).toNatClampNeg x4)) 115) ((g 125)).toNatClampNeg ((g 135)))) 116) ((g 125)).toNatClampNeg ((g 136)))) l) rfl hj (ast_116 hz5)]
  rw [n_step (st' := [.ref 49]) (pc' := 68) (lv' := [(0, .ref 49), (1, .int x1), (2, .int x2), (3, .int x3), (4, .int x4)]) (hp' := rH e g q (updA (updA (updA (updA (updA (updA c 111 (upd (c 111) ((g 125)).toNatClampNeg x1)) 112 (upd ((updA c 111 (upd (c 111) ((g 125)).toNatClampNeg x1)) 112) ((g 125)).toNatClampNeg x2)) 113 (upd ((updA (updA c 111 (upd (c 111) ((g 125)).toNatClampNeg x1)) 112 (upd ((updA c 111 (upd (c 111) ((g 125)).toNatClampNeg x1)) 112) ((g 125)).toNatClampNeg x2)) 113) ((g 125)).toNatClampNeg x3)) 114 (upd ((updA (updA (updA c 111 (upd (c 111) ((g 125)).toNatClampNeg x1)) 112 (upd ((updA c 111 (upd (c 111) ((g 125)).toNatClampNeg x1)) 112) ((g 125)).toNatClampNeg x2)) 113 (upd ((updA (updA c 111 (upd (c 111) ((g 125)).toNatClampNeg x1)) 112 (upd ((updA c 111 (upd (c 111) ((g 125)).toNatClampNeg x1)) 112) ((g 125)).toNatClampNeg x2)) 113) ((g 125)).toNatClampNeg x3)) 114) ((g 125)).toNatClampNeg x4)) 115 (upd ((updA (updA (updA (updA c 111 (upd (c 111) ((g 125)).toNatClampNeg x1)) 112 (upd ((updA c 111 (upd (c 111) ((g 125)).toNatClampNeg x1)) 112) ((g 125)).toNatClampNeg x2)) 113 (upd ((updA (updA c 111 (upd (c 111) ((g 125)).toNatClampNeg x1)) 112 (upd ((updA c 111 (upd (c 111) ((g 125)).toNatClampNeg x1)) 112) ((g 125)).toNatClampNeg x2)) 113) ((g 125)).toNatClampNeg x3)) 114 (upd ((updA (updA (updA c 111 (upd (c 111) ((g 125)).toNatClampNeg x1)) 112 (upd ((updA c 111 (upd (c 111) ((g 125)).toNatClampNeg x1)) 112) ((g 125)).toNatClampNeg x2)) 113 (upd ((updA (updA c 111 (upd (c 111) ((g 125)).toNatClampNeg x1)) 112 (upd ((updA c 111 (upd (c 111) ((g 125)).toNatClampNeg x1)) 112) ((g 125)).toNatClampNeg x2)) 113) ((g 125)).toNatClampNeg x3)) 114) ((g 125)).toNatClampNeg x4)) 115) ((g 125)).toNatClampNeg ((g 135)))) 116 (upd ((updA (updA (updA (updA (updA c 111 (upd (c 111) ((g 125)).toNatClampNeg x1)) 112 (upd ((updA c 111 (upd (c 111) ((g 125)).toNatClampNeg x1)) 112) ((g 125)).toNatClampNeg x2)) 113 (upd ((updA (updA c 111 (upd (c 111) ((g 125)).toNatClampNeg x1)) 112 (upd ((updA c 111 (upd (c 111) ((g 125)).toNatClampNeg x1)) 112) ((g 125)).toNatClampNeg x2)) 113) ((g 125)).toNatClampNeg x3)) 114 (upd ((updA (updA (updA c 111 (upd (c 111) ((g 125)).toNatClampNeg x1)) 112 (upd ((updA c 111 (upd (c 111) ((g 125)).toNatClampNeg x1)) 112) ((g 125)).toNatClampNeg x2)) 113 (upd ((updA (updA c 111 (upd (c 111) ((g 125)).toNatClampNeg x1)) 112 (upd ((updA c 111 (upd (c 111) ((g 125)).toNatClampNeg x1)) 112) ((g 125)).toNatClampNeg x2)) 113) ((g 125)).toNatClampNeg x3)) 114) ((g 125)).toNatClampNeg x4)) 115 (upd ((updA (updA (updA (updA c 111 (upd (c 111) ((g 125)).toNatClampNeg x1)) 112 (upd ((updA c 111 (upd (c 111) ((g 125)).toNatClampNeg x1)) 112) ((g 125)).toNatClampNeg x2)) 113 (upd ((updA (updA c 111 (upd (c 111) ((g 125)).toNatClampNeg x1)) 112 (upd ((updA c 111 (upd (c 111) ((g 125)).toNatClampNeg x1)) 112) ((g 125)).toNatClampNeg x2)) 113) ((g 125)).toNatClampNeg x3)) 114 (upd ((updA (updA (updA c 111 (upd (c 111) ((g 125)).toNatClampNeg x1)) 112 (upd ((updA c 111 (upd (c 111) ((g 125)).toNatClampNeg x1)) 112) ((g 125)).toNatClampNeg x2)) 113 (upd ((updA (updA c 111 (upd (c 111) ((g 125)).toNatClampNeg x1)) 112 (upd ((updA c 111 (upd (c 111) ((g 125)).toNatClampNeg x1)) 112) ((g 125)).toNatClampNeg x2)) 113) ((g 125)).toNatClampNeg x3)) 114) ((g 125)).toNatClampNeg x4)) 115) ((g 125)).toNatClampNeg ((g 135)))) 116) ((g 125)).toNatClampNeg ((g 136)))) l) (i := .aload_n 0) (len := 1) rfl hj rfl rfl rfl]
  rw [n_step (st' := [.ref 49, .ref 49]) (pc' := 69) (lv' := [(0, .ref 49), (1, .int x1), (2, .int x2), (3, .int x3), (4, .int x4)]) (hp' := rH e g q (updA (updA (updA (updA (updA (updA c 111 (upd (c 111) ((g 125)).toNatClampNeg x1)) 112 (upd ((updA c 111 (upd (c 111) ((g 125)).toNatClampNeg x1)) 112) ((g 125)).toNatClampNeg x2)) 113 (upd ((updA (updA c 111 (upd (c 111) ((g 125)).toNatClampNeg x1)) 112 (upd ((updA c 111 (upd (c 111) ((g 125)).toNatClampNeg x1)) 112) ((g 125)).toNatClampNeg x2)) 113) ((g 125)).toNatClampNeg x3)) 114 (upd ((updA (updA (updA c 111 (upd (c 111) ((g 125)).toNatClampNeg x1)) 112 (upd ((updA c 111 (upd (c 111) ((g 125)).toNatClampNeg x1)) 112) ((g 125)).toNatClampNeg x2)) 113 (upd ((updA (updA c 111 (upd (c 111) ((g 125)).toNatClampNeg x1)) 112 (upd ((updA c 111 (upd (c 111) ((g 125)).toNatClampNeg x1)) 112) ((g 125)).toNatClampNeg x2)) 113) ((g 125)).toNatClampNeg x3)) 114) ((g 125)).toNatClampNeg x4)) 115 (upd ((updA (updA (updA (updA c 111 (upd (c 111) ((g 125)).toNatClampNeg x1)) 112 (upd ((updA c 111 (upd (c 111) ((g 125)).toNatClampNeg x1)) 112) ((g 125)).toNatClampNeg x2)) 113 (upd ((updA (updA c 111 (upd (c 111) ((g 125)).toNatClampNeg x1)) 112 (upd ((updA c 111 (upd (c 111) ((g 125)).toNatClampNeg x1)) 112) ((g 125)).toNatClampNeg x2)) 113) ((g 125)).toNatClampNeg x3)) 114 (upd ((updA (updA (updA c 111 (upd (c 111) ((g 125)).toNatClampNeg x1)) 112 (upd ((updA c 111 (upd (c 111) ((g 125)).toNatClampNeg x1)) 112) ((g 125)).toNatClampNeg x2)) 113 (upd ((updA (updA c 111 (upd (c 111) ((g 125)).toNatClampNeg x1)) 112 (upd ((updA c 111 (upd (c 111) ((g 125)).toNatClampNeg x1)) 112) ((g 125)).toNatClampNeg x2)) 113) ((g 125)).toNatClampNeg x3)) 114) ((g 125)).toNatClampNeg x4)) 115) ((g 125)).toNatClampNeg ((g 135)))) 116 (upd ((updA (updA (updA (updA (updA c 111 (upd (c 111) ((g 125)).toNatClampNeg x1)) 112 (upd ((updA c 111 (upd (c 111) ((g 125)).toNatClampNeg x1)) 112) ((g 125)).toNatClampNeg x2)) 113 (upd ((updA (updA c 111 (upd (c 111) ((g 125)).toNatClampNeg x1)) 112 (upd ((updA c 111 (upd (c 111) ((g 125)).toNatClampNeg x1)) 112) ((g 125)).toNatClampNeg x2)) 113) ((g 125)).toNatClampNeg x3)) 114 (upd ((updA (updA (updA c 111 (upd (c 111) ((g 125)).toNatClampNeg x1)) 112 (upd ((updA c 111 (upd (c 111) ((g 125)).toNatClampNeg x1)) 112) ((g 125)).toNatClampNeg x2)) 113 (upd ((updA (updA c 111 (upd (c 111) ((g 125)).toNatClampNeg x1)) 112 (upd ((updA c 111 (upd (c 111) ((g 125)).toNatClampNeg x1)) 112) ((g 125)).toNatClampNeg x2)) 113) ((g 125)).toNatClampNeg x3)) 114) ((g 125)).toNatClampNeg x4)) 115 (upd ((updA (updA (updA (updA c 111 (upd (c 111) ((g 125)).toNatClampNeg x1)) 112 (upd ((updA c 111 (upd (c 111) ((g 125)).toNatClampNeg x1)) 112) ((g 125)).toNatClampNeg x2)) 113 (upd ((updA (updA c 111 (upd (c 111) ((g 125)).toNatClampNeg x1)) 112 (upd ((updA c 111 (upd (c 111) ((g 125)).toNatClampNeg x1)) 112) ((g 125)).toNatClampNeg x2)) 113) ((g 125)).toNatClampNeg x3)) 114 (upd ((updA (updA (updA c 111 (upd (c 111) ((g 125)).toNatClampNeg x1)) 112 (upd ((updA c 111 (upd (c 111) ((g 125)).toNatClampNeg x1)) 112) ((g 125)).toNatClampNeg x2)) 113 (upd ((updA (updA c 111 (upd (c 111) ((g 125)).toNatClampNeg x1)) 112 (upd ((updA c 111 (upd (c 111) ((g 125)).toNatClampNeg x1)) 112) ((g 125)).toNatClampNeg x2)) 113) ((g 125)).toNatClampNeg x3)) 114) ((g 125)).toNatClampNeg x4)) 115) ((g 125)).toNatClampNeg ((g 135)))) 116) ((g 125)).toNatClampNeg ((g 136)))) l) (i := .aload_n 0) (len := 1) rfl hj rfl rfl rfl]
  rw [n_get (st' := [.int (g 125), .ref 49]) (pc' := 72) (lv' := [(0, .ref 49), (1, .int x1), (2, .int x2), (3, .int x3), (4, .int x4)]) (hp' := rH e g q (updA (updA (updA (updA (updA (updA c 111 (upd (c 111) ((g 125)).toNatClampNeg x1)) 112 (upd ((updA c 111 (upd (c 111) ((g 125)).toNatClampNeg x1)) 112) ((g 125)).toNatClampNeg x2)) 113 (upd ((updA (updA c 111 (upd (c 111) ((g 125)).toNatClampNeg x1)) 112 (upd ((updA c 111 (upd (c 111) ((g 125)).toNatClampNeg x1)) 112) ((g 125)).toNatClampNeg x2)) 113) ((g 125)).toNatClampNeg x3)) 114 (upd ((updA (updA (updA c 111 (upd (c 111) ((g 125)).toNatClampNeg x1)) 112 (upd ((updA c 111 (upd (c 111) ((g 125)).toNatClampNeg x1)) 112) ((g 125)).toNatClampNeg x2)) 113 (upd ((updA (updA c 111 (upd (c 111) ((g 125)).toNatClampNeg x1)) 112 (upd ((updA c 111 (upd (c 111) ((g 125)).toNatClampNeg x1)) 112) ((g 125)).toNatClampNeg x2)) 113) ((g 125)).toNatClampNeg x3)) 114) ((g 125)).toNatClampNeg x4)) 115 (upd ((updA (updA (updA (updA c 111 (upd (c 111) ((g 125)).toNatClampNeg x1)) 112 (upd ((updA c 111 (upd (c 111) ((g 125)).toNatClampNeg x1)) 112) ((g 125)).toNatClampNeg x2)) 113 (upd ((updA (updA c 111 (upd (c 111) ((g 125)).toNatClampNeg x1)) 112 (upd ((updA c 111 (upd (c 111) ((g 125)).toNatClampNeg x1)) 112) ((g 125)).toNatClampNeg x2)) 113) ((g 125)).toNatClampNeg x3)) 114 (upd ((updA (updA (updA c 111 (upd (c 111) ((g 125)).toNatClampNeg x1)) 112 (upd ((updA c 111 (upd (c 111) ((g 125)).toNatClampNeg x1)) 112) ((g 125)).toNatClampNeg x2)) 113 (upd ((updA (updA c 111 (upd (c 111) ((g 125)).toNatClampNeg x1)) 112 (upd ((updA c 111 (upd (c 111) ((g 125)).toNatClampNeg x1)) 112) ((g 125)).toNatClampNeg x2)) 113) ((g 125)).toNatClampNeg x3)) 114) ((g 125)).toNatClampNeg x4)) 115) ((g 125)).toNatClampNeg ((g 135)))) 116 (upd ((updA (updA (updA (updA (updA c 111 (upd (c 111) ((g 125)).toNatClampNeg x1)) 112 (upd ((updA c 111 (upd (c 111) ((g 125)).toNatClampNeg x1)) 112) ((g 125)).toNatClampNeg x2)) 113 (upd ((updA (updA c 111 (upd (c 111) ((g 125)).toNatClampNeg x1)) 112 (upd ((updA c 111 (upd (c 111) ((g 125)).toNatClampNeg x1)) 112) ((g 125)).toNatClampNeg x2)) 113) ((g 125)).toNatClampNeg x3)) 114 (upd ((updA (updA (updA c 111 (upd (c 111) ((g 125)).toNatClampNeg x1)) 112 (upd ((updA c 111 (upd (c 111) ((g 125)).toNatClampNeg x1)) 112) ((g 125)).toNatClampNeg x2)) 113 (upd ((updA (updA c 111 (upd (c 111) ((g 125)).toNatClampNeg x1)) 112 (upd ((updA c 111 (upd (c 111) ((g 125)).toNatClampNeg x1)) 112) ((g 125)).toNatClampNeg x2)) 113) ((g 125)).toNatClampNeg x3)) 114) ((g 125)).toNatClampNeg x4)) 115 (upd ((updA (updA (updA (updA c 111 (upd (c 111) ((g 125)).toNatClampNeg x1)) 112 (upd ((updA c 111 (upd (c 111) ((g 125)).toNatClampNeg x1)) 112) ((g 125)).toNatClampNeg x2)) 113 (upd ((updA (updA c 111 (upd (c 111) ((g 125)).toNatClampNeg x1)) 112 (upd ((updA c 111 (upd (c 111) ((g 125)).toNatClampNeg x1)) 112) ((g 125)).toNatClampNeg x2)) 113) ((g 125)).toNatClampNeg x3)) 114 (upd ((updA (updA (updA c 111 (upd (c 111) ((g 125)).toNatClampNeg x1)) 112 (upd ((updA c 111 (upd (c 111) ((g 125)).toNatClampNeg x1)) 112) ((g 125)).toNatClampNeg x2)) 113 (upd ((updA (updA c 111 (upd (c 111) ((g 125)).toNatClampNeg x1)) 112 (upd ((updA c 111 (upd (c 111) ((g 125)).toNatClampNeg x1)) 112) ((g 125)).toNatClampNeg x2)) 113) ((g 125)).toNatClampNeg x3)) 114) ((g 125)).toNatClampNeg x4)) 115) ((g 125)).toNatClampNeg ((g 135)))) 116) ((g 125)).toNatClampNeg ((g 136)))) l) (i := .getfield 766) (len := 3) rfl hj rfl rfl rfl rfl]
  rw [n_step (st' := [.int (Int32.ofInt (1)), .int (g 125), .ref 49]) (pc' := 73) (lv' := [(0, .ref 49), (1, .int x1), (2, .int x2), (3, .int x3), (4, .int x4)]) (hp' := rH e g q (updA (updA (updA (updA (updA (updA c 111 (upd (c 111) ((g 125)).toNatClampNeg x1)) 112 (upd ((updA c 111 (upd (c 111) ((g 125)).toNatClampNeg x1)) 112) ((g 125)).toNatClampNeg x2)) 113 (upd ((updA (updA c 111 (upd (c 111) ((g 125)).toNatClampNeg x1)) 112 (upd ((updA c 111 (upd (c 111) ((g 125)).toNatClampNeg x1)) 112) ((g 125)).toNatClampNeg x2)) 113) ((g 125)).toNatClampNeg x3)) 114 (upd ((updA (updA (updA c 111 (upd (c 111) ((g 125)).toNatClampNeg x1)) 112 (upd ((updA c 111 (upd (c 111) ((g 125)).toNatClampNeg x1)) 112) ((g 125)).toNatClampNeg x2)) 113 (upd ((updA (updA c 111 (upd (c 111) ((g 125)).toNatClampNeg x1)) 112 (upd ((updA c 111 (upd (c 111) ((g 125)).toNatClampNeg x1)) 112) ((g 125)).toNatClampNeg x2)) 113) ((g 125)).toNatClampNeg x3)) 114) ((g 125)).toNatClampNeg x4)) 115 (upd ((updA (updA (updA (updA c 111 (upd (c 111) ((g 125)).toNatClampNeg x1)) 112 (upd ((updA c 111 (upd (c 111) ((g 125)).toNatClampNeg x1)) 112) ((g 125)).toNatClampNeg x2)) 113 (upd ((updA (updA c 111 (upd (c 111) ((g 125)).toNatClampNeg x1)) 112 (upd ((updA c 111 (upd (c 111) ((g 125)).toNatClampNeg x1)) 112) ((g 125)).toNatClampNeg x2)) 113) ((g 125)).toNatClampNeg x3)) 114 (upd ((updA (updA (updA c 111 (upd (c 111) ((g 125)).toNatClampNeg x1)) 112 (upd ((updA c 111 (upd (c 111) ((g 125)).toNatClampNeg x1)) 112) ((g 125)).toNatClampNeg x2)) 113 (upd ((updA (updA c 111 (upd (c 111) ((g 125)).toNatClampNeg x1)) 112 (upd ((updA c 111 (upd (c 111) ((g 125)).toNatClampNeg x1)) 112) ((g 125)).toNatClampNeg x2)) 113) ((g 125)).toNatClampNeg x3)) 114) ((g 125)).toNatClampNeg x4)) 115) ((g 125)).toNatClampNeg ((g 135)))) 116 (upd ((updA (updA (updA (updA (updA c 111 (upd (c 111) ((g 125)).toNatClampNeg x1)) 112 (upd ((updA c 111 (upd (c 111) ((g 125)).toNatClampNeg x1)) 112) ((g 125)).toNatClampNeg x2)) 113 (upd ((updA (updA c 111 (upd (c 111) ((g 125)).toNatClampNeg x1)) 112 (upd ((updA c 111 (upd (c 111) ((g 125)).toNatClampNeg x1)) 112) ((g 125)).toNatClampNeg x2)) 113) ((g 125)).toNatClampNeg x3)) 114 (upd ((updA (updA (updA c 111 (upd (c 111) ((g 125)).toNatClampNeg x1)) 112 (upd ((updA c 111 (upd (c 111) ((g 125)).toNatClampNeg x1)) 112) ((g 125)).toNatClampNeg x2)) 113 (upd ((updA (updA c 111 (upd (c 111) ((g 125)).toNatClampNeg x1)) 112 (upd ((updA c 111 (upd (c 111) ((g 125)).toNatClampNeg x1)) 112) ((g 125)).toNatClampNeg x2)) 113) ((g 125)).toNatClampNeg x3)) 114) ((g 125)).toNatClampNeg x4)) 115 (upd ((updA (updA (updA (updA c 111 (upd (c 111) ((g 125)).toNatClampNeg x1)) 112 (upd ((updA c 111 (upd (c 111) ((g 125)).toNatClampNeg x1)) 112) ((g 125)).toNatClampNeg x2)) 113 (upd ((updA (updA c 111 (upd (c 111) ((g 125)).toNatClampNeg x1)) 112 (upd ((updA c 111 (upd (c 111) ((g 125)).toNatClampNeg x1)) 112) ((g 125)).toNatClampNeg x2)) 113) ((g 125)).toNatClampNeg x3)) 114 (upd ((updA (updA (updA c 111 (upd (c 111) ((g 125)).toNatClampNeg x1)) 112 (upd ((updA c 111 (upd (c 111) ((g 125)).toNatClampNeg x1)) 112) ((g 125)).toNatClampNeg x2)) 113 (upd ((updA (updA c 111 (upd (c 111) ((g 125)).toNatClampNeg x1)) 112 (upd ((updA c 111 (upd (c 111) ((g 125)).toNatClampNeg x1)) 112) ((g 125)).toNatClampNeg x2)) 113) ((g 125)).toNatClampNeg x3)) 114) ((g 125)).toNatClampNeg x4)) 115) ((g 125)).toNatClampNeg ((g 135)))) 116) ((g 125)).toNatClampNeg ((g 136)))) l) (i := .iconst 1) (len := 1) rfl hj rfl rfl rfl]
  rw [n_step (st' := [.int ((g 125) + (Int32.ofInt (1))), .ref 49]) (pc' := 74) (lv' := [(0, .ref 49), (1, .int x1), (2, .int x2), (3, .int x3), (4, .int x4)]) (hp' := rH e g q (updA (updA (updA (updA (updA (updA c 111 (upd (c 111) ((g 125)).toNatClampNeg x1)) 112 (upd ((updA c 111 (upd (c 111) ((g 125)).toNatClampNeg x1)) 112) ((g 125)).toNatClampNeg x2)) 113 (upd ((updA (updA c 111 (upd (c 111) ((g 125)).toNatClampNeg x1)) 112 (upd ((updA c 111 (upd (c 111) ((g 125)).toNatClampNeg x1)) 112) ((g 125)).toNatClampNeg x2)) 113) ((g 125)).toNatClampNeg x3)) 114 (upd ((updA (updA (updA c 111 (upd (c 111) ((g 125)).toNatClampNeg x1)) 112 (upd ((updA c 111 (upd (c 111) ((g 125)).toNatClampNeg x1)) 112) ((g 125)).toNatClampNeg x2)) 113 (upd ((updA (updA c 111 (upd (c 111) ((g 125)).toNatClampNeg x1)) 112 (upd ((updA c 111 (upd (c 111) ((g 125)).toNatClampNeg x1)) 112) ((g 125)).toNatClampNeg x2)) 113) ((g 125)).toNatClampNeg x3)) 114) ((g 125)).toNatClampNeg x4)) 115 (upd ((updA (updA (updA (updA c 111 (upd (c 111) ((g 125)).toNatClampNeg x1)) 112 (upd ((updA c 111 (upd (c 111) ((g 125)).toNatClampNeg x1)) 112) ((g 125)).toNatClampNeg x2)) 113 (upd ((updA (updA c 111 (upd (c 111) ((g 125)).toNatClampNeg x1)) 112 (upd ((updA c 111 (upd (c 111) ((g 125)).toNatClampNeg x1)) 112) ((g 125)).toNatClampNeg x2)) 113) ((g 125)).toNatClampNeg x3)) 114 (upd ((updA (updA (updA c 111 (upd (c 111) ((g 125)).toNatClampNeg x1)) 112 (upd ((updA c 111 (upd (c 111) ((g 125)).toNatClampNeg x1)) 112) ((g 125)).toNatClampNeg x2)) 113 (upd ((updA (updA c 111 (upd (c 111) ((g 125)).toNatClampNeg x1)) 112 (upd ((updA c 111 (upd (c 111) ((g 125)).toNatClampNeg x1)) 112) ((g 125)).toNatClampNeg x2)) 113) ((g 125)).toNatClampNeg x3)) 114) ((g 125)).toNatClampNeg x4)) 115) ((g 125)).toNatClampNeg ((g 135)))) 116 (upd ((updA (updA (updA (updA (updA c 111 (upd (c 111) ((g 125)).toNatClampNeg x1)) 112 (upd ((updA c 111 (upd (c 111) ((g 125)).toNatClampNeg x1)) 112) ((g 125)).toNatClampNeg x2)) 113 (upd ((updA (updA c 111 (upd (c 111) ((g 125)).toNatClampNeg x1)) 112 (upd ((updA c 111 (upd (c 111) ((g 125)).toNatClampNeg x1)) 112) ((g 125)).toNatClampNeg x2)) 113) ((g 125)).toNatClampNeg x3)) 114 (upd ((updA (updA (updA c 111 (upd (c 111) ((g 125)).toNatClampNeg x1)) 112 (upd ((updA c 111 (upd (c 111) ((g 125)).toNatClampNeg x1)) 112) ((g 125)).toNatClampNeg x2)) 113 (upd ((updA (updA c 111 (upd (c 111) ((g 125)).toNatClampNeg x1)) 112 (upd ((updA c 111 (upd (c 111) ((g 125)).toNatClampNeg x1)) 112) ((g 125)).toNatClampNeg x2)) 113) ((g 125)).toNatClampNeg x3)) 114) ((g 125)).toNatClampNeg x4)) 115 (upd ((updA (updA (updA (updA c 111 (upd (c 111) ((g 125)).toNatClampNeg x1)) 112 (upd ((updA c 111 (upd (c 111) ((g 125)).toNatClampNeg x1)) 112) ((g 125)).toNatClampNeg x2)) 113 (upd ((updA (updA c 111 (upd (c 111) ((g 125)).toNatClampNeg x1)) 112 (upd ((updA c 111 (upd (c 111) ((g 125)).toNatClampNeg x1)) 112) ((g 125)).toNatClampNeg x2)) 113) ((g 125)).toNatClampNeg x3)) 114 (upd ((updA (updA (updA c 111 (upd (c 111) ((g 125)).toNatClampNeg x1)) 112 (upd ((updA c 111 (upd (c 111) ((g 125)).toNatClampNeg x1)) 112) ((g 125)).toNatClampNeg x2)) 113 (upd ((updA (updA c 111 (upd (c 111) ((g 125)).toNatClampNeg x1)) 112 (upd ((updA c 111 (upd (c 111) ((g 125)).toNatClampNeg x1)) 112) ((g 125)).toNatClampNeg x2)) 113) ((g 125)).toNatClampNeg x3)) 114) ((g 125)).toNatClampNeg x4)) 115) ((g 125)).toNatClampNeg ((g 135)))) 116) ((g 125)).toNatClampNeg ((g 136)))) l) (i := .iadd) (len := 1) rfl hj rfl rfl rfl]
  rw [n_put (st' := []) (hp' := rH e (upd g 125 (((g 125) + (Int32.ofInt (1))))) q (updA (updA (updA (updA (updA (updA c 111 (upd (c 111) ((g 125)).toNatClampNeg x1)) 112 (upd ((updA c 111 (upd (c 111) ((g 125)).toNatClampNeg x1)) 112) ((g 125)).toNatClampNeg x2)) 113 (upd ((updA (updA c 111 (upd (c 111) ((g 125)).toNatClampNeg x1)) 112 (upd ((updA c 111 (upd (c 111) ((g 125)).toNatClampNeg x1)) 112) ((g 125)).toNatClampNeg x2)) 113) ((g 125)).toNatClampNeg x3)) 114 (upd ((updA (updA (updA c 111 (upd (c 111) ((g 125)).toNatClampNeg x1)) 112 (upd ((updA c 111 (upd (c 111) ((g 125)).toNatClampNeg x1)) 112) ((g 125)).toNatClampNeg x2)) 113 (upd ((updA (updA c 111 (upd (c 111) ((g 125)).toNatClampNeg x1)) 112 (upd ((updA c 111 (upd (c 111) ((g 125)).toNatClampNeg x1)) 112) ((g 125)).toNatClampNeg x2)) 113) ((g 125)).toNatClampNeg x3)) 114) ((g 125)).toNatClampNeg x4)) 115 (upd ((updA (updA (updA (updA c 111 (upd (c 111) ((g 125)).toNatClampNeg x1)) 112 (upd ((updA c 111 (upd (c 111) ((g 125)).toNatClampNeg x1)) 112) ((g 125)).toNatClampNeg x2)) 113 (upd ((updA (updA c 111 (upd (c 111) ((g 125)).toNatClampNeg x1)) 112 (upd ((updA c 111 (upd (c 111) ((g 125)).toNatClampNeg x1)) 112) ((g 125)).toNatClampNeg x2)) 113) ((g 125)).toNatClampNeg x3)) 114 (upd ((updA (updA (updA c 111 (upd (c 111) ((g 125)).toNatClampNeg x1)) 112 (upd ((updA c 111 (upd (c 111) ((g 125)).toNatClampNeg x1)) 112) ((g 125)).toNatClampNeg x2)) 113 (upd ((updA (updA c 111 (upd (c 111) ((g 125)).toNatClampNeg x1)) 112 (upd ((updA c 111 (upd (c 111) ((g 125)).toNatClampNeg x1)) 112) ((g 125)).toNatClampNeg x2)) 113) ((g 125)).toNatClampNeg x3)) 114) ((g 125)).toNatClampNeg x4)) 115) ((g 125)).toNatClampNeg ((g 135)))) 116 (upd ((updA (updA (updA (updA (updA c 111 (upd (c 111) ((g 125)).toNatClampNeg x1)) 112 (upd ((updA c 111 (upd (c 111) ((g 125)).toNatClampNeg x1)) 112) ((g 125)).toNatClampNeg x2)) 113 (upd ((updA (updA c 111 (upd (c 111) ((g 125)).toNatClampNeg x1)) 112 (upd ((updA c 111 (upd (c 111) ((g 125)).toNatClampNeg x1)) 112) ((g 125)).toNatClampNeg x2)) 113) ((g 125)).toNatClampNeg x3)) 114 (upd ((updA (updA (updA c 111 (upd (c 111) ((g 125)).toNatClampNeg x1)) 112 (upd ((updA c 111 (upd (c 111) ((g 125)).toNatClampNeg x1)) 112) ((g 125)).toNatClampNeg x2)) 113 (upd ((updA (updA c 111 (upd (c 111) ((g 125)).toNatClampNeg x1)) 112 (upd ((updA c 111 (upd (c 111) ((g 125)).toNatClampNeg x1)) 112) ((g 125)).toNatClampNeg x2)) 113) ((g 125)).toNatClampNeg x3)) 114) ((g 125)).toNatClampNeg x4)) 115 (upd ((updA (updA (updA (updA c 111 (upd (c 111) ((g 125)).toNatClampNeg x1)) 112 (upd ((updA c 111 (upd (c 111) ((g 125)).toNatClampNeg x1)) 112) ((g 125)).toNatClampNeg x2)) 113 (upd ((updA (updA c 111 (upd (c 111) ((g 125)).toNatClampNeg x1)) 112 (upd ((updA c 111 (upd (c 111) ((g 125)).toNatClampNeg x1)) 112) ((g 125)).toNatClampNeg x2)) 113) ((g 125)).toNatClampNeg x3)) 114 (upd ((updA (updA (updA c 111 (upd (c 111) ((g 125)).toNatClampNeg x1)) 112 (upd ((updA c 111 (upd (c 111) ((g 125)).toNatClampNeg x1)) 112) ((g 125)).toNatClampNeg x2)) 113 (upd ((updA (updA c 111 (upd (c 111) ((g 125)).toNatClampNeg x1)) 112 (upd ((updA c 111 (upd (c 111) ((g 125)).toNatClampNeg x1)) 112) ((g 125)).toNatClampNeg x2)) 113) ((g 125)).toNatClampNeg x3)) 114) ((g 125)).toNatClampNeg x4)) 115) ((g 125)).toNatClampNeg ((g 135)))) 116) ((g 125)).toNatClampNeg ((g 136)))) l) rfl hj pf_125]
  exact n_ret rfl hj rfl rfl rfl
