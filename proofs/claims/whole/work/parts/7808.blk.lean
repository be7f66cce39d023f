set_option maxRecDepth 100000 in
set_option maxHeartbeats 4000000 in
theorem bk_360_184 {b : Bool} {d : Nat} {x1 x2 x3 x4 : Int32} {e : Nat → x_E} {g : Nat → Int32} {q : Nat → Int64} {c : Nat → Nat → Int32} {l : Nat → Nat → Int64} {R : Option Value × List x_E} (hz0 : ¬ (((x3 - (Int32.ofInt (1))) - (Int32.ofInt (1))) < 0 ∨ 2000 ≤ (((x3 - (Int32.ofInt (1))) - (Int32.ofInt (1)))).toNatClampNeg)) (h : rr b e d 360 282 [(0, .ref 49), (1, .int x1), (2, .int x2), (3, .int (x3 - (Int32.ofInt (1)))), (4, .int x4)] [] g q (updA c 76 (upd (c 76) (((x3 - (Int32.ofInt (1))) - (Int32.ofInt (1)))).toNatClampNeg ((Int8.ofInt (100)).toInt32))) l R) : rr b e d 360 184 [(0, .ref 49), (1, .int x1), (2, .int x2), (3, .int x3), (4, .int x4)] [] g q c l R := by
  obtain ⟨f, h⟩ := h
  refine ⟨f + 12, ?_⟩
  obtain ⟨y, cb, hj⟩ := mq_360
  rw [n_step (st' := [.int x3]) (pc' := 185) (lv' := [(0, .ref 49), (1, .int x1), (2, .int x2), (3, .int x3), (4, .int x4)]) (hp' := rH e g q c l) (i := .iload_n 3) (len := 1) rfl hj rfl rfl rfl]
  rw [n_step (st' := [.int (Int32.ofInt (1)), .int x3]) (pc' := 186) (lv' := [(0, .ref 49), (1, .int x1), (2, .int x2), (3, .int x3), (4, .int x4)]) (hp' := rH e g q c l) (i := .iconst 1) (len := 1) rfl hj rfl rfl rfl]
  rw [n_step (st' := [.int (x3 - (Int32.ofInt (1)))]) (pc' := 187) (lv' := [(0, .ref 49), (1, .int x1), (2, .int x2), (3, .int x3), (4, .int x4)]) (hp' := rH e g q c l) (i := .isub) (len := 1) rfl hj rfl rfl rfl]
  rw [n_step (st' := []) (pc' := 188) (lv' := [(3, .int (x3 - (Int32.ofInt (1)))), (0, .ref 49), (1, .int x1), (2, .int x2), (4, .int x4)]) (hp' := rH e g q c l) (i := .istore_n 3) (len := 1) rfl hj rfl rfl rfl]
  rw [n_step (st' := [.ref 49]) (pc' := 189) (lv' := [(3, .int (x3 - (Int32.ofInt (1)))), (0, .ref 49), (1, .int x1), (2, .int x2), (4, .int x4)]) (hp' := rH e g q c l) (i := .aload_n 0) (len := 1) rfl hj rfl rfl rfl]
  rw [n_get (st' := [.ref 76]) (pc' := 192) (lv' := [(3, .int (x3 - (Int32.ofInt (1)))), (0, .ref 49), (1, .int x1), (2, .int x2), (4, .int x4)]) (hp' := rH e g q c l) (i := .getfield 96) (len := 3) rfl hj rfl rfl rfl rfl]
  rw [n_step (st' := [.int (x3 - (Int32.ofInt (1))), .ref 76]) (pc' := 193) (lv' := [(3, .int (x3 - (Int32.ofInt (1)))), (0, .ref 49), (1, .int x1), (2, .int x2), (4, .int x4)]) (hp' := rH e g q c l) (i := .iload_n 3) (len := 1) rfl hj rfl rfl rfl]
  rw [n_step (st' := [.int (Int32.ofInt (1)), .int (x3 - (Int32.ofInt (1))), .ref 76]) (pc' := 194) (lv' := [(3, .int (x3 - (Int32.ofInt (1)))), (0, .ref 49), (1, .int x1), (2, .int x2), (4, .int x4)]) (hp' := rH e g q c l) (i := .iconst 1) (len := 1) rfl hj rfl rfl rfl]
  rw [n_step (st' := [.int ((x3 - (Int32.ofInt (1))) - (Int32.ofInt (1))), .ref 76]) (pc' := 195) (lv' := [(3, .int (x3 - (Int32.ofInt (1)))), (0, .ref 49), (1, .int x1), (2, .int x2), (4, .int x4)]) (hp' := rH e g q c l) (i := .isub) (len := 1) rfl hj rfl rfl rfl]
  rw [n_step (st' := [.int (Int8.ofInt (100)).toInt32, .int ((x3 - (Int32.ofInt (1))) - (Int32.ofInt (1))), .ref 76]) (pc' := 197) (lv' := [(3, .int (x3 - (Int32.ofInt (1)))), (0, .ref 49), (1, .int x1), (2, .int x2), (4, .int x4)]) (hp' := rH e g q c l) (i := .bipush 100) (len := 2) rfl hj rfl rfl rfl]
  rw [n_ias (st' := []) (hp' := rH e g q (updA c 76 (upd (c 76) (((x3 - (Int32.ofInt (1))) - (Int32.ofInt (1)))).toNatClampNeg ((Int8.ofInt (100)).toInt32))) l) rfl hj (ast_76 hz0)]
  rw [n_step (st' := []) (pc' := 282) (lv' := [(3, .int (x3 - (Int32.ofInt (1)))), (0, .ref 49), (1, .int x1), (2, .int x2), (4, .int x4)]) (hp' := rH e g q (updA c 76 (upd (c 76) (((x3 - (Int32.ofInt (1))) - (Int32.ofInt (1)))).toNatClampNeg ((Int8.ofInt (100)).toInt32))) l) (i := .goto 84) (len := 3) rfl hj rfl rfl rfl]
  exact nrun_ext f f _ _ R 360 282 [(0, .ref 49), (1, .int x1), (2, .int x2), (3, .int (x3 - (Int32.ofInt (1)))), (4, .int x4)] [(3, .int (x3 - (Int32.ofInt (1)))), (0, .ref 49), (1, .int x1), (2, .int x2), (4, .int x4)] [] _ 0 0 122 (Nat.le_refl _) (Nat.le_refl _) (Nat.le_of_ble_eq_true rfl) (lvR_mk [0, 1, 2, 3, 4] [3, 0, 1, 2, 4] rfl rfl (by decide) (by decide) (List.forall_mem_cons.mpr ⟨(List.mem_cons_of_mem _ List.mem_cons_self), (List.forall_mem_cons.mpr ⟨(List.mem_cons_of_mem _ (List.mem_cons_of_mem _ List.mem_cons_self)), (List.forall_mem_cons.mpr ⟨(List.mem_cons_of_mem _ (List.mem_cons_of_mem _ (List.mem_cons_of_mem _ List.mem_cons_self))), (List.forall_mem_cons.mpr ⟨List.mem_cons_self, (List.forall_mem_cons.mpr ⟨(List.mem_cons_of_mem _ (List.mem_cons_of_mem _ (List.mem_cons_of_mem _ (List.mem_cons_of_mem _ List.mem_cons_self)))), (fun _ h => nomatch h)⟩)⟩)⟩)⟩)⟩) (List.forall_mem_cons.mpr ⟨Or.inl (List.mem_cons_of_mem _ (List.mem_cons_of_mem _ (List.mem_cons_of_mem _ List.mem_cons_self))), (List.forall_mem_cons.mpr ⟨Or.inl List.mem_cons_self, (List.forall_mem_cons.mpr ⟨Or.inl (List.mem_cons_of_mem _ List.mem_cons_self), (List.forall_mem_cons.mpr ⟨Or.inl (List.mem_cons_of_mem _ (List.mem_cons_of_mem _ List.mem_cons_self)), (List.forall_mem_cons.mpr ⟨Or.inl (List.mem_cons_of_mem _ (List.mem_cons_of_mem _ (List.mem_cons_of_mem _ (List.mem_cons_of_mem _ List.mem_cons_self)))), (fun _ h => nomatch h)⟩)⟩)⟩)⟩)⟩)) h
set_option maxRecDepth 100000 in
set_option maxHeartbeats 4000000 in
theorem bk_360_201 {b : Bool} {d : Nat} {x1 x2 x3 x4 : Int32} {e : Nat → x_E} {g : Nat → Int32} {q : Nat → Int64} {c : Nat → Nat → Int32} {l : Nat → Nat → Int64} {R : Option Value × List x_E} (h : rr b e d 360 282 [(0, .ref 49), (1, .int x1), (2, .int x2), (3, .int (x3 - (Int32.ofInt (1)))), (4, .int x4)] [] g q c l R) : rr b e d 360 201 [(0, .ref 49), (1, .int x1), (2, .int x2), (3, .int x3), (4, .int x4)] [] g q c l R := by
  obtain ⟨f, h⟩ := h
  refine ⟨f + 5, ?_⟩
  obtain ⟨y, cb, hj⟩ := mq_360
  rw [n_step (st' := [.int x3]) (pc' := 202) (lv' := [(0, .ref 49), (1, .int x1), (2, .int x2), (3, .int x3), (4, .int x4)]) (hp' := rH e g q c l) (i := .iload_n 3) (len := 1) rfl hj rfl rfl rfl]
  rw [n_step (st' := [.int (Int32.ofInt (1)), .int x3]) (pc' := 203) (lv' := [(0, .ref 49), (1, .int x1), (2, .int x2), (3, .int x3), (4, .int x4)]) (hp' := rH e g q c l) (i := .iconst 1) (len := 1) rfl hj rfl rfl rfl]
  rw [n_step (st' := [.int (x3 - (Int32.ofInt (1)))]) (pc' := 204) (lv' := [(0, .ref 49), (1, .int x1), (2, .int x2), (3, .int x3), (4, .int x4)]) (hp' := rH e g q c l) (i := .isub) (len := 1) rfl hj rfl rfl rfl]
  rw [n_step (st' := []) (pc' := 205) (lv' := [(3, .int (x3 - (Int32.ofInt (1)))), (0, .ref 49), (1, .int x1), (2, .int x2), (4, .int x4)]) (hp' := rH e g q c l) (i := .istore_n 3) (len := 1) rfl hj rfl rfl rfl]
  rw [n_step (st' := []) (pc' := 282) (lv' := [(3, .int (x3 - (Int32.ofInt (1)))), (0, .ref 49), (1, .int x1), (2, .int x2), (4, .int x4)]) (hp' := rH e g q c l) (i := .goto 77) (len := 3) rfl hj rfl rfl rfl]
  exact nrun_ext f f _ _ R 360 282 [(0, .ref 49), (1, .int x1), (2, .int x2), (3, .int (x3 - (Int32.ofInt (1)))), (4, .int x4)] [(3, .int (x3 - (Int32.ofInt (1)))), (0, .ref 49), (1, .int x1), (2, .int x2), (4, .int x4)] [] _ 0 0 122 (Nat.le_refl _) (Nat.le_refl _) (Nat.le_of_ble_eq_true rfl) (lvR_mk [0, 1, 2, 3, 4] [3, 0, 1, 2, 4] rfl rfl (by decide) (by decide) (List.forall_mem_cons.mpr ⟨(List.mem_cons_of_mem _ List.mem_cons_self), (List.forall_mem_cons.mpr ⟨(List.mem_cons_of_mem _ (List.mem_cons_of_mem _ List.mem_cons_self)), (List.forall_mem_cons.mpr ⟨(List.mem_cons_of_mem _ (List.mem_cons_of_mem _ (List.mem_cons_of_mem _ List.mem_cons_self))), (List.forall_mem_cons.mpr ⟨List.mem_cons_self, (List.forall_mem_cons.mpr ⟨(List.mem_cons_of_mem _ (List.mem_cons_of_mem _ (List.mem_cons_of_mem _ (List.mem_cons_of_mem _ List.mem_cons_self)))), (fun _ h => nomatch h)⟩)⟩)⟩)⟩)⟩) (List.forall_mem_cons.mpr ⟨Or.inl (List.mem_cons_of_mem _ (List.mem_cons_of_mem _ (List.mem_cons_of_mem _ List.mem_cons_self))), (List.forall_mem_cons.mpr ⟨Or.inl List.mem_cons_self, (List.forall_mem_cons.mpr ⟨Or.inl (List.mem_cons_of_mem _ List.mem_cons_self), (List.forall_mem_cons.mpr ⟨Or.inl (List.mem_cons_of_mem _ (List.mem_cons_of_mem _ List.mem_cons_self)), (List.forall_mem_cons.mpr ⟨Or.inl (List.mem_cons_of_mem _ (List.mem_cons_of_mem _ (List.mem_cons_of_mem _ (List.mem_cons_of_mem _ List.mem_cons_self)))), (fun _ h => nomatch h)⟩)⟩)⟩)⟩)⟩)) h
set_option maxRecDepth 100000 in
set_option maxHeartbeats 4000000 in
theorem bk_360_208 {b : Bool} {d : Nat} {x1 x2 x3 x4 : Int32} {e : Nat → x_E} {g : Nat → Int32} {q : Nat → Int64} {c : Nat → Nat → Int32} {l : Nat → Nat → Int64} {R : Option Value × List x_E} (h : rr b e d 360 282 [(0, .ref 49), (1, .int x1), (2, .int x2), (3, .int (x3 - (Int32.ofInt (1)))), (4, .int x4)] [] g q c l R) : rr b e d 360 208 [(0, .ref 49), (1, .int x1), (2, .int x2), (3, .int x3), (4, .int x4)] [] g q c l R := by
  obtain ⟨f, h⟩ := h
  refine ⟨f + 5, ?_⟩
  obtain ⟨y, cb, hj⟩ := mq_360
  rw [n_step (st' := [.int x3]) (pc' := 209) (lv' := [(0, .ref 49), (1, .int x1), (2, .int x2), (3, .int x3), (4, .int x4)]) (hp' := rH e g q c l) (i := .iload_n 3) (len := 1) rfl hj rfl rfl rfl]
  rw [n_step (st' := [.int (Int32.ofInt (1)), .int x3]) (pc' := 210) (lv' := [(0, .ref 49), (1, .int x1), (2, .int x2), (3, .int x3), (4, .int x4)]) (hp' := rH e g q c l) (i := .iconst 1) (len := 1) rfl hj rfl rfl rfl]
  rw [n_step (st' := [.int (x3 - (Int32.ofInt (1)))]) (pc' := 211) (lv' := [(0, .ref 49), (1, .int x1), (2, .int x2), (3, .int x3), (4, .int x4)]) (hp' := rH e g q c l) (i := .isub) (len := 1) rfl hj rfl rfl rfl]
  rw [n_step (st' := []) (pc' := 212) (lv' := [(3, .int (x3 - (Int32.ofInt (1)))), (0, .ref 49), (1, .int x1), (2, .int x2), (4, .int x4)]) (hp' := rH e g q c l) (i := .istore_n 3) (len := 1) rfl hj rfl rfl rfl]
  rw [n_step (st' := []) (pc' := 282) (lv' := [(3, .int (x3 - (Int32.ofInt (1)))), (0, .ref 49), (1, .int x1), (2, .int x2), (4, .int x4)]) (hp' := rH e g q c l) (i := .goto 70) (len := 3) rfl hj rfl rfl rfl]
  exact nrun_ext f f _ _ R 360 282 [(0, .ref 49), (1, .int x1), (2, .int x2), (3, .int (x3 - (Int32.ofInt (1)))), (4, .int x4)] [(3, .int (x3 - (Int32.ofInt (1)))), (0, .ref 49), (1, .int x1), (2, .int x2), (4, .int x4)] [] _ 0 0 122 (Nat.le_refl _) (Nat.le_refl _) (Nat.le_of_ble_eq_true rfl) (lvR_mk [0, 1, 2, 3, 4] [3, 0, 1, 2, 4] rfl rfl (by decide) (by decide) (List.forall_mem_cons.mpr ⟨(List.mem_cons_of_mem _ List.mem_cons_self), (List.forall_mem_cons.mpr ⟨(List.mem_cons_of_mem _ (List.mem_cons_of_mem _ List.mem_cons_self)), (List.forall_mem_cons.mpr ⟨(List.mem_cons_of_mem _ (List.mem_cons_of_mem _ (List.mem_cons_of_mem _ List.mem_cons_self))), (List.forall_mem_cons.mpr ⟨List.mem_cons_self, (List.forall_mem_cons.mpr ⟨(List.mem_cons_of_mem _ (List.mem_cons_of_mem _ (List.mem_cons_of_mem _ (List.mem_cons_of_mem _ List.mem_cons_self)))), (fun _ h => nomatch h)⟩)⟩)⟩)⟩)⟩) (List.forall_mem_cons.mpr ⟨Or.inl (List.mem_cons_of_mem _ (List.mem_cons_of_mem _ (List.mem_cons_of_mem _ List.mem_cons_self))), (List.forall_mem_cons.mpr ⟨Or.inl List.mem_cons_self, (List.forall_mem_cons.mpr ⟨Or.inl (List.mem_cons_of_mem _ List.mem_cons_self), (List.forall_mem_cons.mpr ⟨Or.inl (List.mem_cons_of_mem _ (List.mem_cons_of_mem _ List.mem_cons_self)), (List.forall_mem_cons.mpr ⟨Or.inl (List.mem_cons_of_mem _ (List.mem_cons_of_mem _ (List.mem_cons_of_mem _ (List.mem_cons_of_mem _ List.mem_cons_self)))), (fun _ h => nomatch h)⟩)⟩)⟩)⟩)⟩)) h
set_option maxRecDepth 100000 in
set_option maxHeartbeats 4000000 in
theorem bk_360_215 {b : Bool} {d : Nat} {x1 x2 x3 x4 : Int32} {e : Nat → x_E} {g : Nat → Int32} {q : Nat → Int64} {c : Nat → Nat → Int32} {l : Nat → Nat → Int64} {g' : Nat → Int32} {q' : Nat → Int64} {c' : Nat → Nat → Int32} {l' : Nat → Nat → Int64} {R : Option Value × List x_E} (hc : rr b e d 361 0 [(0, .ref 49), (1, .int x1), (2, .int x4), (3, .int (x3 - (Int32.ofInt (2))))] [] g q c l (none, rH e g' q' c' l')) (h : rr b e (d + 1) 360 227 [(0, .ref 49), (1, .int x1), (2, .int x2), (3, .int (x3 - (Int32.ofInt (2)))), (4, .int x4)] [] g' q' c' l' R) : rr b e (d + 1) 360 215 [(0, .ref 49), (1, .int x1), (2, .int x2), (3, .int x3), (4, .int x4)] [] g q c l R := by
  obtain ⟨f1, hc⟩ := hc
  obtain ⟨f2, h⟩ := h
  obtain ⟨f, hf1, hf2⟩ : ∃ f, f1 ≤ f ∧ f2 ≤ f := ⟨max f1 f2, Nat.le_max_left _ _, Nat.le_max_right _ _⟩
  have hc := nrun_fuel f1 f _ _ _ _ _ _ _ _ _ hf1 hc
  have h := nrun_fuel f2 f _ _ _ _ _ _ _ _ _ hf2 h
  refine ⟨f + 9, ?_⟩
  obtain ⟨y, cb, hj⟩ := mq_360
  rw [n_step (st' := [.int x3]) (pc' := 216) (lv' := [(0, .ref 49), (1, .int x1), (2, .int x2), (3, .int x3), (4, .int x4)]) (hp' := rH e g q c l) (i := .iload_n 3) (len := 1) rfl hj rfl rfl rfl]
  rw [n_step (st' := [.int (Int32.ofInt (2)), .int x3]) (pc' := 217) (lv' := [(0, .ref 49), (1, .int x1), (2, .int x2), (3, .int x3), (4, .int x4)]) (hp' := rH e g q c l) (i := .iconst 2) (len := 1) rfl hj rfl rfl rfl]
  rw [n_step (st' := [.int (x3 - (Int32.ofInt (2)))]) (pc' := 218) (lv' := [(0, .ref 49), (1, .int x1), (2, .int x2), (3, .int x3), (4, .int x4)]) (hp' := rH e g q c l) (i := .isub) (len := 1) rfl hj rfl rfl rfl]
  rw [n_step (st' := []) (pc' := 219) (lv' := [(3, .int (x3 - (Int32.ofInt (2)))), (0, .ref 49), (1, .int x1), (2, .int x2), (4, .int x4)]) (hp' := rH e g q c l) (i := .istore_n 3) (len := 1) rfl hj rfl rfl rfl]
  rw [n_step (st' := [.ref 49]) (pc' := 220) (lv' := [(3, .int (x3 - (Int32.ofInt (2)))), (0, .ref 49), (1, .int x1), (2, .int x2), (4, .int x4)]) (hp' := rH e g q c l) (i := .aload_n 0) (len := 1) rfl hj rfl rfl rfl]
  rw [n_step (st' := [.int x1, .ref 49]) (pc' := 221) (lv' := [(3, .int (x3 - (Int32.ofInt (2)))), (0, .ref 49), (1, .int x1), (2, .int x2), (4, .int x4)]) (hp' := rH e g q c l) (i := .iload_n 1) (len := 1) rfl hj rfl rfl rfl]
  rw [n_step (st' := [.int x4, .int x1, .ref 49]) (pc' := 223) (lv' := [(3, .int (x3 - (Int32.ofInt (2)))), (0, .ref 49), (1, .int x1), (2, .int x2), (4, .int x4)]) (hp' := rH e g q c l) (i := .iload 4) (len := 2) rfl hj rfl rfl rfl]
  rw [n_step (st' := [.int (x3 - (Int32.ofInt (2))), .int x4, .int x1, .ref 49]) (pc' := 224) (lv' := [(3, .int (x3 - (Int32.ofInt (2)))), (0, .ref 49), (1, .int x1), (2, .int x2), (4, .int x4)]) (hp' := rH e g q c l) (i := .iload_n 3) (len := 1) rfl hj rfl rfl rfl]
  obtain ⟨y2, cb2, hj2⟩ := mq_361
  rw [n_call (f := f) (d := d) (ki := 0) (idx := 567) (j' := 361) (kd := 0) (M' := (y2, cb2, 9, none, 12, 3, 0, 0)) (avs := [.ref 49, .int x1, .int x4, .int (x3 - (Int32.ofInt (2)))]) (r := []) (rv := none) (hp1 := rH e g' q' c' l') rfl hj rfl rfl rfl rfl (rq_n rfl rfl hj2 rfl rfl) rfl hc (Nat.le_of_ble_eq_true rfl)]
  exact nrun_ext f f _ _ R 360 227 [(0, .ref 49), (1, .int x1), (2, .int x2), (3, .int (x3 - (Int32.ofInt (2)))), (4, .int x4)] [(3, .int (x3 - (Int32.ofInt (2)))), (0, .ref 49), (1, .int x1), (2, .int x2), (4, .int x4)] [] _ 0 0 122 (Nat.le_refl _) (Nat.le_refl _) (Nat.le_of_ble_eq_true rfl) (lvR_mk [0, 1, 2, 3, 4] [3, 0, 1, 2, 4] rfl rfl (by decide) (by decide) (List.forall_mem_cons.mpr ⟨(List.mem_cons_of_mem _ List.mem_cons_self), (List.forall_mem_cons.mpr ⟨(List.mem_cons_of_mem _ (List.mem_cons_of_mem _ List.mem_cons_self)), (List.forall_mem_cons.mpr ⟨(List.mem_cons_of_mem _ (List.mem_cons_of_mem _ (List.mem_cons_of_mem _ List.mem_cons_self))), (List.forall_mem_cons.mpr ⟨List.mem_cons_self, (List.forall_mem_cons.mpr ⟨(List.mem_cons_of_mem _ (List.mem_cons_of_mem _ (List.mem_cons_of_mem _ (List.mem_cons_of_mem _ List.mem_cons_self)))), (fun _ h => nomatch h)⟩)⟩)⟩)⟩)⟩) (List.forall_mem_cons.mpr ⟨Or.inl (List.mem_cons_of_mem _ (List.mem_cons_of_mem _ (List.mem_cons_of_mem _ List.mem_cons_self))), (List.forall_mem_cons.mpr ⟨Or.inl List.mem_cons_self, (List.forall_mem_cons.mpr ⟨Or.inl (List.mem_cons_of_mem _ List.mem_cons_self), (List.forall_mem_cons.mpr ⟨Or.inl (List.mem_cons_of_mem _ (List.mem_cons_of_mem _ List.mem_cons_self)), (List.forall_mem_cons.mpr ⟨Or.inl (List.mem_cons_of_mem _ (List.mem_cons_of_mem _ (List.mem_cons_of_mem _ (List.mem_cons_of_mem _ List.mem_cons_self)))), (fun _ h => nomatch h)⟩)⟩)⟩)⟩)⟩)) h
set_option maxRecDepth 100000 in
set_option maxHeartbeats 4000000 in
theorem bk_360_227 {b : Bool} {d : Nat} {x1 x2 x3 x4 : Int32} {e : Nat → x_E} {g : Nat → Int32} {q : Nat → Int64} {c : Nat → Nat → Int32} {l : Nat → Nat → Int64} {R : Option Value × List x_E} (hz0 : ¬ (x3 < 0 ∨ 2000 ≤ (x3).toNatClampNeg)) (h : rr b e d 360 282 [(0, .ref 49), (1, .int x1), (2, .int x2), (3, .int (x3 + (Int32.ofInt (1)))), (4, .int x4)] [] g q (updA c 76 (upd (c 76) (x3).toNatClampNeg ((Int8.ofInt (100)).toInt32))) l R) : rr b e d 360 227 [(0, .ref 49), (1, .int x1), (2, .int x2), (3, .int x3), (4, .int x4)] [] g q c l R := by
  obtain ⟨f, h⟩ := h
  refine ⟨f + 10, ?_⟩
  obtain ⟨y, cb, hj⟩ := mq_360
  rw [n_step (st' := [.ref 49]) (pc' := 228) (lv' := [(0, .ref 49), (1, .int x1), (2, .int x2), (3, .int x3), (4, .int x4)]) (hp' := rH e g q c l) (i := .aload_n 0) (len := 1) rfl hj rfl rfl rfl]
  rw [n_get (st' := [.ref 76]) (pc' := 231) (lv' := [(0, .ref 49), (1, .int x1), (2, .int x2), (3, .int x3), (4, .int x4)]) (hp' := rH e g q c l) (i := .getfield 96) (len := 3) rfl hj rfl rfl rfl rfl]
  rw [n_step (st' := [.int x3, .ref 76]) (pc' := 232) (lv' := [(0, .ref 49), (1, .int x1), (2, .int x2), (3, .int x3), (4, .int x4)]) (hp' := rH e g q c l) (i := .iload_n 3) (len := 1) rfl hj rfl rfl rfl]
  rw [n_step (st' := [.int (Int8.ofInt (100)).toInt32, .int x3, .ref 76]) (pc' := 234) (lv' := [(0, .ref 49), (1, .int x1), (2, .int x2), (3, .int x3), (4, .int x4)]) (hp' := rH e g q c l) (i := .bipush 100) (len := 2) rfl hj rfl rfl rfl]
  rw [n_ias (st' := []) (hp' := rH e g q (updA c 76 (upd (c 76) (x3).toNatClampNeg ((Int8.ofInt (100)).toInt32))) l) rfl hj (ast_76 hz0)]
  rw [n_step (st' := [.int x3]) (pc' := 236) (lv' := [(0, .ref 49), (1, .int x1), (2, .int x2), (3, .int x3), (4, .int x4)]) (hp' := rH e g q (updA c 76 (upd (c 76) (x3).toNatClampNeg ((Int8.ofInt (100)).toInt32))) l) (i := .iload_n 3) (len := 1) rfl hj rfl rfl rfl]
  rw [n_step (st' := [.int (Int32.ofInt (1)), .int x3]) (pc' := 237) (lv' := [(0, .ref 49), (1, .int x1), (2, .int x2), (3, .int x3), (4, .int x4)]) (hp' := rH e g q (updA c 76 (upd (c 76) (x3).toNatClampNeg ((Int8.ofInt (100)).toInt32))) l) (i := .iconst 1) (len := 1) rfl hj rfl rfl rfl]
  rw [n_step (st' := [.int (x3 + (Int32.ofInt (1)))]) (pc' := 238) (lv' := [(0, .ref 49), (1, .int x1), (2, .int x2), (3, .int x3), (4, .int x4)]) (hp' := rH e g q (updA c 76 (upd (c 76) (x3).toNatClampNeg ((Int8.ofInt (100)).toInt32))) l) (i := .iadd) (len := 1) rfl hj rfl rfl rfl]
  rw [n_step (st' := []) (pc' := 239) (lv' := [(3, .int (x3 + (Int32.ofInt (1)))), (0, .ref 49), (1, .int x1), (2, .int x2), (4, .int x4)]) (hp' := rH e g q (updA c 76 (upd (c 76) (x3).toNatClampNeg ((Int8.ofInt (100)).toInt32))) l) (i := .istore_n 3) (len := 1) rfl hj rfl rfl rfl]
  rw [n_step (st' := []) (pc' := 282) (lv' := [(3, .int (x3 + (Int32.ofInt (1)))), (0, .ref 49), (1, .int x1), (2, .int x2), (4, .int x4)]) (hp' := rH e g q (updA c 76 (upd (c 76) (x3).toNatClampNeg ((Int8.ofInt (100)).toInt32))) l) (i := .goto 43) (len := 3) rfl hj rfl rfl rfl]
  exact nrun_ext f f _ _ R 360 282 [(0, .ref 49), (1, .int x1), (2, .int x2), (3, .int (x3 + (Int32.ofInt (1)))), (4, .int x4)] [(3, .int (x3 + (Int32.ofInt (1)))), (0, .ref 49), (1, .int x1), (2, .int x2), (4, .int x4)] [] _ 0 0 122 (Nat.le_refl _) (Nat.le_refl _) (Nat.le_of_ble_eq_true rfl) (lvR_mk [0, 1, 2, 3, 4] [3, 0, 1, 2, 4] rfl rfl (by decide) (by decide) (List.forall_mem_cons.mpr ⟨(List.mem_cons_of_mem _ List.mem_cons_self), (List.forall_mem_cons.mpr ⟨(List.mem_cons_of_mem _ (List.mem_cons_of_mem _ List.mem_cons_self)), (List.forall_mem_cons.mpr ⟨(List.mem_cons_of_mem _ (List.mem_cons_of_mem _ (List.mem_cons_of_mem _ List.mem_cons_self))), (List.forall_mem_cons.mpr ⟨List.mem_cons_self, (List.forall_mem_cons.mpr ⟨(List.mem_cons_of_mem _ (List.mem_cons_of_mem _ (List.mem_cons_of_mem _ (List.mem_cons_of_mem _ List.mem_cons_self)))), (fun _ h => nomatch h)⟩)⟩)⟩)⟩)⟩) (List.forall_mem_cons.mpr ⟨Or.inl (List.mem_cons_of_mem _ (List.mem_cons_of_mem _ (List.mem_cons_of_mem _ List.mem_cons_self))), (List.forall_mem_cons.mpr ⟨Or.inl List.mem_cons_self, (List.forall_mem_cons.mpr ⟨Or.inl (List.mem_cons_of_mem _ List.mem_cons_self), (List.forall_mem_cons.mpr ⟨Or.inl (List.mem_cons_of_mem _ (List.mem_cons_of_mem _ List.mem_cons_self)), (List.forall_mem_cons.mpr ⟨Or.inl (List.mem_cons_of_mem _ (List.mem_cons_of_mem _ (List.mem_cons_of_mem _ (List.mem_cons_of_mem _ List.mem_cons_self)))), (fun _ h => nomatch h)⟩)⟩)⟩)⟩)⟩)) h
set_option maxRecDepth 100000 in
set_option maxHeartbeats 4000000 in
theorem bk_360_242 {b : Bool} {d : Nat} {x1 x2 x3 x4 : Int32} {e : Nat → x_E} {g : Nat → Int32} {q : Nat → Int64} {c : Nat → Nat → Int32} {l : Nat → Nat → Int64} {g' : Nat → Int32} {q' : Nat → Int64} {c' : Nat → Nat → Int32} {l' : Nat → Nat → Int64} {R : Option Value × List x_E} (hc : rr b e d 361 0 [(0, .ref 49), (1, .int x1), (2, .int x4), (3, .int (x3 - (Int32.ofInt (1))))] [] g q c l (none, rH e g' q' c' l')) (h : rr b e (d + 1) 360 254 [(0, .ref 49), (1, .int x1), (2, .int x2), (3, .int (x3 - (Int32.ofInt (1)))), (4, .int x4)] [] g' q' c' l' R) : rr b e (d + 1) 360 242 [(0, .ref 49), (1, .int x1), (2, .int x2), (3, .int x3), (4, .int x4)] [] g q c l R := by
  obtain ⟨f1, hc⟩ := hc
  obtain ⟨f2, h⟩ := h
  obtain ⟨f, hf1, hf2⟩ : ∃ f, f1 ≤ f ∧ f2 ≤ f := ⟨max f1 f2, Nat.le_max_left _ _, Nat.le_max_right _ _⟩
  have hc := nrun_fuel f1 f _ _ _ _ _ _ _ _ _ hf1 hc
  have h := nrun_fuel f2 f _ _ _ _ _ _ _ _ _ hf2 h
  refine ⟨f + 9, ?_⟩
  obtain ⟨y, cb, hj⟩ := mq_360
  rw [n_step (st' := [.int x3]) (pc' := 243) (lv' := [(0, .ref 49), (1, .int x1), (2, .int x2), (3, .int x3), (4, .int x4)]) (hp' := rH e g q c l) (i := .iload_n 3) (len := 1) rfl hj rfl rfl rfl]
  rw [n_step (st' := [.int (Int32.ofInt (1)), .int x3]) (pc' := 244) (lv' := [(0, .ref 49), (1, .int x1), (2, .int x2), (3, .int x3), (4, .int x4)]) (hp' := rH e g q c l) (i := .iconst 1) (len := 1) rfl hj rfl rfl rfl]
  rw [n_step (st' := [.int (x3 - (Int32.ofInt (1)))]) (pc' := 245) (lv' := [(0, .ref 49), (1, .int x1), (2, .int x2), (3, .int x3), (4, .int x4)]) (hp' := rH e g q c l) (i := .isub) (len := 1) rfl hj rfl rfl rfl]
  rw [n_step (st' := []) (pc' := 246) (lv' := [(3, .int (x3 - (Int32.ofInt (1)))), (0, .ref 49), (1, .int x1), (2, .int x2), (4, .int x4)]) (hp' := rH e g q c l) (i := .istore_n 3) (len := 1) rfl hj rfl rfl rfl]
  rw [n_step (st' := [.ref 49]) (pc' := 247) (lv' := [(3, .int (x3 - (Int32.ofInt (1)))), (0, .ref 49), (1, .int x1), (2, .int x2), (4, .int x4)]) (hp' := rH e g q c l) (i := .aload_n 0) (len := 1) rfl hj rfl rfl rfl]
  rw [n_step (st' := [.int x1, .ref 49]) (pc' := 248) (lv' := [(3, .int (x3 - (Int32.ofInt (1)))), (0, .ref 49), (1, .int x1), (2, .int x2), (4, .int x4)]) (hp' := rH e g q c l) (i := .iload_n 1) (len := 1) rfl hj rfl rfl rfl]
  rw [n_step (st' := [.int x4, .int x1, .ref 49]) (pc' := 250) (lv' := [(3, .int (x3 - (Int32.ofInt (1)))), (0, .ref 49), (1, .int x1), (2, .int x2), (4, .int x4)]) (hp' := rH e g q c l) (i := .iload 4) (len := 2) rfl hj rfl rfl rfl]
  rw [n_step (st' := [.int (x3 - (Int32.ofInt (1))), .int x4, .int x1, .ref 49]) (pc' := 251) (lv' := [(3, .int (x3 - (Int32.ofInt (1)))), (0, .ref 49), (1, .int x1), (2, .int x2), (4, .int x4)]) (hp' := rH e g q c l) (i := .iload_n 3) (len := 1) rfl hj rfl rfl rfl]
  obtain ⟨y2, cb2, hj2⟩ := mq_361
  rw [n_call (f := f) (d := d) (ki := 0) (idx := 567) (j' := 361) (kd := 0) (M' := (y2, cb2, 9, none, 12, 3, 0, 0)) (avs := [.ref 49, .int x1, .int x4, .int (x3 - (Int32.ofInt (1)))]) (r := []) (rv := none) (hp1 := rH e g' q' c' l') rfl hj rfl rfl rfl rfl (rq_n rfl rfl hj2 rfl rfl) rfl hc (Nat.le_of_ble_eq_true rfl)]
  exact nrun_ext f f _ _ R 360 254 [(0, .ref 49), (1, .int x1), (2, .int x2), (3, .int (x3 - (Int32.ofInt (1)))), (4, .int x4)] [(3, .int (x3 - (Int32.ofInt (1)))), (0, .ref 49), (1, .int x1), (2, .int x2), (4, .int x4)] [] _ 0 0 122 (Nat.le_refl _) (Nat.le_refl _) (Nat.le_of_ble_eq_true rfl) (lvR_mk [0, 1, 2, 3, 4] [3, 0, 1, 2, 4] rfl rfl (by decide) (by decide) (List.forall_mem_cons.mpr ⟨(List.mem_cons_of_mem _ List.mem_cons_self), (List.forall_mem_cons.mpr ⟨(List.mem_cons_of_mem _ (List.mem_cons_of_mem _ List.mem_cons_self)), (List.forall_mem_cons.mpr ⟨(List.mem_cons_of_mem _ (List.mem_cons_of_mem _ (List.mem_cons_of_mem _ List.mem_cons_self))), (List.forall_mem_cons.mpr ⟨List.mem_cons_self, (List.forall_mem_cons.mpr ⟨(List.mem_cons_of_mem _ (List.mem_cons_of_mem _ (List.mem_cons_of_mem _ (List.mem_cons_of_mem _ List.mem_cons_self)))), (fun _ h => nomatch h)⟩)⟩)⟩)⟩)⟩) (List.forall_mem_cons.mpr ⟨Or.inl (List.mem_cons_of_mem _ (List.mem_cons_of_mem _ (List.mem_cons_of_mem _ List.mem_cons_self))), (List.forall_mem_cons.mpr ⟨Or.inl List.mem_cons_self, (List.forall_mem_cons.mpr ⟨Or.inl (List.mem_cons_of_mem _ List.mem_cons_self), (List.forall_mem_cons.mpr ⟨Or.inl (List.mem_cons_of_mem _ (List.mem_cons_of_mem _ List.mem_cons_self)), (List.forall_mem_cons.mpr ⟨Or.inl (List.mem_cons_of_mem _ (List.mem_cons_of_mem _ (List.mem_cons_of_mem _ (List.mem_cons_of_mem _ List.mem_cons_self)))), (fun _ h => nomatch h)⟩)⟩)⟩)⟩)⟩)) h
set_option maxRecDepth 100000 in
set_option maxHeartbeats 4000000 in
theorem bk_360_254 {b : Bool} {d : Nat} {x1 x2 x3 x4 : Int32} {e : Nat → x_E} {g : Nat → Int32} {q : Nat → Int64} {c : Nat → Nat → Int32} {l : Nat → Nat → Int64} {R : Option Value × List x_E} (hz0 : ¬ (x3 < 0 ∨ 2000 ≤ (x3).toNatClampNeg)) (h : rr b e d 360 282 [(0, .ref 49), (1, .int x1), (2, .int x2), (3, .int (x3 + (Int32.ofInt (1)))), (4, .int x4)] [] g q (updA c 76 (upd (c 76) (x3).toNatClampNeg ((Int8.ofInt (100)).toInt32))) l R) : rr b e d 360 254 [(0, .ref 49), (1, .int x1), (2, .int x2), (3, .int x3), (4, .int x4)] [] g q c l R := by
  obtain ⟨f, h⟩ := h
  refine ⟨f + 10, ?_⟩
  obtain ⟨y, cb, hj⟩ := mq_360
  rw [n_step (st' := [.ref 49]) (pc' := 255) (lv' := [(0, .ref 49), (1, .int x1), (2, .int x2), (3, .int x3), (4, .int x4)]) (hp' := rH e g q c l) (i := .aload_n 0) (len := 1) rfl hj rfl rfl rfl]
  rw [n_get (st' := [.ref 76]) (pc' := 258) (lv' := [(0, .ref 49), (1, .int x1), (2, .int x2), (3, .int x3), (4, .int x4)]) (hp' := rH e g q c l) (i := .getfield 96) (len := 3) rfl hj rfl rfl rfl rfl]
  rw [n_step (st' := [.int x3, .ref 76]) (pc' := 259) (lv' := [(0, .ref 49), (1, .int x1), (2, .int x2), (3, .int x3), (4, .int x4)]) (hp' := rH e g q c l) (i := .iload_n 3) (len := 1) rfl hj rfl rfl rfl]
  rw [n_step (st' := [.int (Int8.ofInt (100)).toInt32, .int x3, .ref 76]) (pc' := 261) (lv' := [(0, .ref 49), (1, .int x1), (2, .int x2), (3, .int x3), (4, .int x4)]) (hp' := rH e g q c l) (i := .bipush 100) (len := 2) rfl hj rfl rfl rfl]
  rw [n_ias (st' := []) (hp' := rH e g q (updA c 76 (upd (c 76) (x3).toNatClampNeg ((Int8.ofInt (100)).toInt32))) l) rfl hj (ast_76 hz0)]
  rw [n_step (st' := [.int x3]) (pc' := 263) (lv' := [(0, .ref 49), (1, .int x1), (2, .int x2), (3, .int x3), (4, .int x4)]) (hp' := rH e g q (updA c 76 (upd (c 76) (x3).toNatClampNeg ((Int8.ofInt (100)).toInt32))) l) (i := .iload_n 3) (len := 1) rfl hj rfl rfl rfl]
  rw [n_step (st' := [.int (Int32.ofInt (1)), .int x3]) (pc' := 264) (lv' := [(0, .ref 49), (1, .int x1), (2, .int x2), (3, .int x3), (4, .int x4)]) (hp' := rH e g q (updA c 76 (upd (c 76) (x3).toNatClampNeg ((Int8.ofInt (100)).toInt32))) l) (i := .iconst 1) (len := 1) rfl hj rfl rfl rfl]
  rw [n_step (st' := [.int (x3 + (Int32.ofInt (1)))]) (pc' := 265) (lv' := [(0, .ref 49), (1, .int x1), (2, .int x2), (3, .int x3), (4, .int x4)]) (hp' := rH e g q (updA c 76 (upd (c 76) (x3).toNatClampNeg ((Int8.ofInt (100)).toInt32))) l) (i := .iadd) (len := 1) rfl hj rfl rfl rfl]
  rw [n_step (st' := []) (pc' := 266) (lv' := [(3, .int (x3 + (Int32.ofInt (1)))), (0, .ref 49), (1, .int x1), (2, .int x2), (4, .int x4)]) (hp' := rH e g q (updA c 76 (upd (c 76) (x3).toNatClampNeg ((Int8.ofInt (100)).toInt32))) l) (i := .istore_n 3) (len := 1) rfl hj rfl rfl rfl]
  rw [n_step (st' := []) (pc' := 282) (lv' := [(3, .int (x3 + (Int32.ofInt (1)))), (0, .ref 49), (1, .int x1), (2, .int x2), (4, .int x4)]) (hp' := rH e g q (updA c 76 (upd (c 76) (x3).toNatClampNeg ((Int8.ofInt (100)).toInt32))) l) (i := .goto 16) (len := 3) rfl hj rfl rfl rfl]
  exact nrun_ext f f _ _ R 360 282 [(0, .ref 49), (1, .int x1), (2, .int x2), (3, .int (x3 + (Int32.ofInt (1)))), (4, .int x4)] [(3, .int (x3 + (Int32.ofInt (1)))), (0, .ref 49), (1, .int x1), (2, .int x2), (4, .int x4)] [] _ 0 0 122 (Nat.le_refl _) (Nat.le_refl _) (Nat.le_of_ble_eq_true rfl) (lvR_mk [0, 1, 2, 3, 4] [3, 0, 1, 2, 4] rfl rfl (by decide) (by decide) (List.forall_mem_cons.mpr ⟨(List.mem_cons_of_mem _ List.mem_cons_self), (List.forall_mem_cons.mpr ⟨(List.mem_cons_of_mem _ (List.mem_cons_of_mem _ List.mem_cons_self)), (List.forall_mem_cons.mpr ⟨(List.mem_cons_of_mem _ (List.mem_cons_of_mem _ (List.mem_cons_of_mem _ List.mem_cons_self))), (List.forall_mem_cons.mpr ⟨List.mem_cons_self, (List.forall_mem_cons.mpr ⟨(List.mem_cons_of_mem _ (List.mem_cons_of_mem _ (List.mem_cons_of_mem _ (List.mem_cons_of_mem _ List.mem_cons_self)))), (fun _ h => nomatch h)⟩)⟩)⟩)⟩)⟩) (List.forall_mem_cons.mpr ⟨Or.inl (List.mem_cons_of_mem _ (List.mem_cons_of_mem _ (List.mem_cons_of_mem _ List.mem_cons_self))), (List.forall_mem_cons.mpr ⟨Or.inl List.mem_cons_self, (List.forall_mem_cons.mpr ⟨Or.inl (List.mem_cons_of_mem _ List.mem_cons_self), (List.forall_mem_cons.mpr ⟨Or.inl (List.mem_cons_of_mem _ (List.mem_cons_of_mem _ List.mem_cons_self)), (List.forall_mem_cons.mpr ⟨Or.inl (List.mem_cons_of_mem _ (List.mem_cons_of_mem _ (List.mem_cons_of_mem _ (List.mem_cons_of_mem _ List.mem_cons_self)))), (fun _ h => nomatch h)⟩)⟩)⟩)⟩)⟩)) h
set_option maxRecDepth 100000 in
set_option maxHeartbeats 4000000 in
theorem bk_360_269 {b : Bool} {d : Nat} {x1 x2 x3 x4 : Int32} {e : Nat → x_E} {g : Nat → Int32} {q : Nat → Int64} {c : Nat → Nat → Int32} {l : Nat → Nat → Int64} {R : Option Value × List x_E} (h : rr b e d 360 282 [(0, .ref 49), (1, .int x1), (2, .int x2), (3, .int x3), (4, .int x4)] [] g q c l R) : rr b e d 360 269 [(0, .ref 49), (1, .int x1), (2, .int x2), (3, .int x3), (4, .int x4)] [] g q c l R := by
  obtain ⟨f, h⟩ := h
  refine ⟨f + 1, ?_⟩
  obtain ⟨y, cb, hj⟩ := mq_360
  rw [n_step (st' := []) (pc' := 282) (lv' := [(0, .ref 49), (1, .int x1), (2, .int x2), (3, .int x3), (4, .int x4)]) (hp' := rH e g q c l) (i := .goto 13) (len := 3) rfl hj rfl rfl rfl]
  exact h
set_option maxRecDepth 100000 in
set_option maxHeartbeats 4000000 in
theorem bk_360_272 {b : Bool} {d : Nat} {x1 x2 x3 x4 : Int32} {e : Nat → x_E} {g : Nat → Int32} {q : Nat → Int64} {c : Nat → Nat → Int32} {l : Nat → Nat → Int64} {R : Option Value × List x_E} (hz0 : ¬ ((x3 - (Int32.ofInt (1))) < 0 ∨ 2000 ≤ ((x3 - (Int32.ofInt (1)))).toNatClampNeg)) (h : rr b e d 360 282 [(0, .ref 49), (1, .int x1), (2, .int x2), (3, .int x3), (4, .int x4)] [] g q (updA c 76 (upd (c 76) ((x3 - (Int32.ofInt (1)))).toNatClampNeg ((Int8.ofInt (100)).toInt32))) l R) : rr b e d 360 272 [(0, .ref 49), (1, .int x1), (2, .int x2), (3, .int x3), (4, .int x4)] [] g q c l R := by
  obtain ⟨f, h⟩ := h
  refine ⟨f + 7, ?_⟩
  obtain ⟨y, cb, hj⟩ := mq_360
  rw [n_step (st' := [.ref 49]) (pc' := 273) (lv' := [(0, .ref 49), (1, .int x1), (2, .int x2), (3, .int x3), (4, .int x4)]) (hp' := rH e g q c l) (i := .aload_n 0) (len := 1) rfl hj rfl rfl rfl]
  rw [n_get (st' := [.ref 76]) (pc' := 276) (lv' := [(0, .ref 49), (1, .int x1), (2, .int x2), (3, .int x3), (4, .int x4)]) (hp' := rH e g q c l) (i := .getfield 96) (len := 3) rfl hj rfl rfl rfl rfl]
  rw [n_step (st' := [.int x3, .ref 76]) (pc' := 277) (lv' := [(0, .ref 49), (1, .int x1), (2, .int x2), (3, .int x3), (4, .int x4)]) (hp' := rH e g q c l) (i := .iload_n 3) (len := 1) rfl hj rfl rfl rfl]
  rw [n_step (st' := [.int (Int32.ofInt (1)), .int x3, .ref 76]) (pc' := 278) (lv' := [(0, .ref 49), (1, .int x1), (2, .int x2), (3, .int x3), (4, .int x4)]) (hp' := rH e g q c l) (i := .iconst 1) (len := 1) rfl hj rfl rfl rfl]
  rw [n_step (st' := [.int (x3 - (Int32.ofInt (1))), .ref 76]) (pc' := 279) (lv' := [(0, .ref 49), (1, .int x1), (2, .int x2), (3, .int x3), (4, .int x4)]) (hp' := rH e g q c l) (i := .isub) (len := 1) rfl hj rfl rfl rfl]
  rw [n_step (st' := [.int (Int8.ofInt (100)).toInt32, .int (x3 - (Int32.ofInt (1))), .ref 76]) (pc' := 281) (lv' := [(0, .ref 49), (1, .int x1), (2, .int x2), (3, .int x3), (4, .int x4)]) (hp' := rH e g q c l) (i := .bipush 100) (len := 2) rfl hj rfl rfl rfl]
  rw [n_ias (st' := []) (hp' := rH e g q (updA c 76 (upd (c 76) ((x3 - (Int32.ofInt (1)))).toNatClampNeg ((Int8.ofInt (100)).toInt32))) l) rfl hj (ast_76 hz0)]
  exact h
set_option maxRecDepth 100000 in
set_option maxHeartbeats 4000000 in
theorem bk_360_282 {b : Bool} {d : Nat} {x1 x2 x3 x4 : Int32} {e : Nat → x_E} {g : Nat → Int32} {q : Nat → Int64} {c : Nat → Nat → Int32} {l : Nat → Nat → Int64} {R : Option Value × List x_E} (h : rr b e d 360 10 [(0, .ref 49), (1, .int x1), (2, .int x2), (3, .int x3), (4, .int (x4 + Int32.ofInt (1)))] [] g q c l R) : rr b e d 360 282 [(0, .ref 49), (1, .int x1), (2, .int x2), (3, .int x3), (4, .int x4)] [] g q c l R := by
  obtain ⟨f, h⟩ := h
  refine ⟨f + 2, ?_⟩
  obtain ⟨y, cb, hj⟩ := mq_360
  rw [n_step (st' := []) (pc' := 285) (lv' := [(4, .int (x4 + Int32.ofInt (1))), (0, .ref 49), (1, .int x1), (2, .int x2), (3, .int x3)]) (hp' := rH e g q c l) (i := .iinc 4 1) (len := 3) rfl hj rfl rfl rfl]
  rw [n_step (st' := []) (pc' := 10) (lv' := [(4, .int (x4 + Int32.ofInt (1))), (0, .ref 49), (1, .int x1), (2, .int x2), (3, .int x3)]) (hp' := rH e g q c l) (i := .goto (-275)) (len := 3) rfl hj rfl rfl rfl]
  exact nrun_ext f f _ _ R 360 10 [(0, .ref 49), (1, .int x1), (2, .int x2), (3, .int x3), (4, .int (x4 + Int32.ofInt (1)))] [(4, .int (x4 + Int32.ofInt (1))), (0, .ref 49), (1, .int x1), (2, .int x2), (3, .int x3)] [] _ 0 0 122 (Nat.le_refl _) (Nat.le_refl _) (Nat.le_of_ble_eq_true rfl) (lvR_mk [0, 1, 2, 3, 4] [4, 0, 1, 2, 3] rfl rfl (by decide) (by decide) (List.forall_mem_cons.mpr ⟨(List.mem_cons_of_mem _ List.mem_cons_self), (List.forall_mem_cons.mpr ⟨(List.mem_cons_of_mem _ (List.mem_cons_of_mem _ List.mem_cons_self)), (List.forall_mem_cons.mpr ⟨(List.mem_cons_of_mem _ (List.mem_cons_of_mem _ (List.mem_cons_of_mem _ List.mem_cons_self))), (List.forall_mem_cons.mpr ⟨(List.mem_cons_of_mem _ (List.mem_cons_of_mem _ (List.mem_cons_of_mem _ (List.mem_cons_of_mem _ List.mem_cons_self)))), (List.forall_mem_cons.mpr ⟨List.mem_cons_self, (fun _ h => nomatch h)⟩)⟩)⟩)⟩)⟩) (List.forall_mem_cons.mpr ⟨Or.inl (List.mem_cons_of_mem _ (List.mem_cons_of_mem _ (List.mem_cons_of_mem _ (List.mem_cons_of_mem _ List.mem_cons_self)))), (List.forall_mem_cons.mpr ⟨Or.inl List.mem_cons_self, (List.forall_mem_cons.mpr ⟨Or.inl (List.mem_cons_of_mem _ List.mem_cons_self), (List.forall_mem_cons.mpr ⟨Or.inl (List.mem_cons_of_mem _ (List.mem_cons_of_mem _ List.mem_cons_self)), (List.forall_mem_cons.mpr ⟨Or.inl (List.mem_cons_of_mem _ (List.mem_cons_of_mem _ (List.mem_cons_of_mem _ List.mem_cons_self))), (fun _ h => nomatch h)⟩)⟩)⟩)⟩)⟩)) h
set_option maxRecDepth 100000 in
set_option maxHeartbeats 4000000 in
theorem bk_360_288 {b : Bool} {d : Nat} {e : Nat → x_E} {g : Nat → Int32} {q : Nat → Int64} {c : Nat → Nat → Int32} {l : Nat → Nat → Int64} : rr b e d 360 288 [] [] g q c l (none, rH e g q c l) := by
  refine ⟨0 + 1, ?_⟩
  obtain ⟨y, cb, hj⟩ := mq_360
  exact n_ret rfl hj rfl rfl rfl
set_option maxRecDepth 100000 in
set_option maxHeartbeats 4000000 in
theorem bk_361_0 {b : Bool} {d : Nat} {x1 x2 x3 : Int32} {e : Nat → x_E} {g : Nat → Int32} {q : Nat → Int64} {c : Nat → Nat → Int32} {l : Nat → Nat → Int64} {g' : Nat → Int32} {q' : Nat → Int64} {c' : Nat → Nat → Int32} {l' : Nat → Nat → Int64} {v : Int32} {R : Option Value × List x_E} (hc : rr b e d 359 0 [(0, .ref 49), (1, .int x2)] [] g q c l (some (.int v), rH e g' q' c' l')) (h : rr b e (d + 1) 361 5 [(0, .ref 49), (1, .int x1), (2, .int x2), (3, .int x3)] [.int v] g' q' c' l' R) : rr b e (d + 1) 361 0 [(0, .ref 49), (1, .int x1), (2, .int x2), (3, .int x3)] [] g q c l R := by
  obtain ⟨f1, hc⟩ := hc
  obtain ⟨f2, h⟩ := h
  obtain ⟨f, hf1, hf2⟩ : ∃ f, f1 ≤ f ∧ f2 ≤ f := ⟨max f1 f2, Nat.le_max_left _ _, Nat.le_max_right _ _⟩
  have hc := nrun_fuel f1 f _ _ _ _ _ _ _ _ _ hf1 hc
  have h := nrun_fuel f2 f _ _ _ _ _ _ _ _ _ hf2 h
  refine ⟨f + 3, ?_⟩
  obtain ⟨y, cb, hj⟩ := mq_361
  rw [n_step (st' := [.ref 49]) (pc' := 1) (lv' := [(0, .ref 49), (1, .int x1), (2, .int x2), (3, .int x3)]) (hp' := rH e g q c l) (i := .aload_n 0) (len := 1) rfl hj rfl rfl rfl]
  rw [n_step (st' := [.int x2, .ref 49]) (pc' := 2) (lv' := [(0, .ref 49), (1, .int x1), (2, .int x2), (3, .int x3)]) (hp' := rH e g q c l) (i := .iload_n 2) (len := 1) rfl hj rfl rfl rfl]
  obtain ⟨y2, cb2, hj2⟩ := mq_359
  rw [n_call (f := f) (d := d) (ki := 0) (idx := 561) (j' := 359) (kd := 0) (M' := (y2, cb2, 2, some .int, 12, 1, 0, 0)) (avs := [.ref 49, .int x2]) (r := []) (rv := some (.int v)) (hp1 := rH e g' q' c' l') rfl hj rfl rfl rfl rfl (rq_n rfl rfl hj2 rfl rfl) rfl hc (Nat.le_of_ble_eq_true rfl)]
  exact h
set_option maxRecDepth 100000 in
set_option maxHeartbeats 4000000 in
theorem bk_361_5 {b : Bool} {d : Nat} {t0 x1 x2 x3 : Int32} {e : Nat → x_E} {g : Nat → Int32} {q : Nat → Int64} {c : Nat → Nat → Int32} {l : Nat → Nat → Int64} {R : Option Value × List x_E} (h : rr b e d 361 7 [(0, .ref 49), (1, .int x1), (2, .int x2), (3, .int x3), (4, .int t0)] [] g q c l R) : rr b e d 361 5 [(0, .ref 49), (1, .int x1), (2, .int x2), (3, .int x3)] [.int t0] g q c l R := by
  obtain ⟨f, h⟩ := h
  refine ⟨f + 1, ?_⟩
  obtain ⟨y, cb, hj⟩ := mq_361
  rw [n_step (st' := []) (pc' := 7) (lv' := [(4, .int t0), (0, .ref 49), (1, .int x1), (2, .int x2), (3, .int x3)]) (hp' := rH e g q c l) (i := .istore 4) (len := 2) rfl hj rfl rfl rfl]
  exact nrun_ext f f _ _ R 361 7 [(0, .ref 49), (1, .int x1), (2, .int x2), (3, .int x3), (4, .int t0)] [(4, .int t0), (0, .ref 49), (1, .int x1), (2, .int x2), (3, .int x3)] [] _ 0 0 122 (Nat.le_refl _) (Nat.le_refl _) (Nat.le_of_ble_eq_true rfl) (lvR_mk [0, 1, 2, 3, 4] [4, 0, 1, 2, 3] rfl rfl (by decide) (by decide) (List.forall_mem_cons.mpr ⟨(List.mem_cons_of_mem _ List.mem_cons_self), (List.forall_mem_cons.mpr ⟨(List.mem_cons_of_mem _ (List.mem_cons_of_mem _ List.mem_cons_self)), (List.forall_mem_cons.mpr ⟨(List.mem_cons_of_mem _ (List.mem_cons_of_mem _ (List.mem_cons_of_mem _ List.mem_cons_self))), (List.forall_mem_cons.mpr ⟨(List.mem_cons_of_mem _ (List.mem_cons_of_mem _ (List.mem_cons_of_mem _ (List.mem_cons_of_mem _ List.mem_cons_self)))), (List.forall_mem_cons.mpr ⟨List.mem_cons_self, (fun _ h => nomatch h)⟩)⟩)⟩)⟩)⟩) (List.forall_mem_cons.mpr ⟨Or.inl (List.mem_cons_of_mem _ (List.mem_cons_of_mem _ (List.mem_cons_of_mem _ (List.mem_cons_of_mem _ List.mem_cons_self)))), (List.forall_mem_cons.mpr ⟨Or.inl List.mem_cons_self, (List.forall_mem_cons.mpr ⟨Or.inl (List.mem_cons_of_mem _ List.mem_cons_self), (List.forall_mem_cons.mpr ⟨Or.inl (List.mem_cons_of_mem _ (List.mem_cons_of_mem _ List.mem_cons_self)), (List.forall_mem_cons.mpr ⟨Or.inl (List.mem_cons_of_mem _ (List.mem_cons_of_mem _ (List.mem_cons_of_mem _ List.mem_cons_self))), (fun _ h => nomatch h)⟩)⟩)⟩)⟩)⟩)) h
set_option maxRecDepth 100000 in
set_option maxHeartbeats 4000000 in
theorem bk_361_7 {b : Bool} {d : Nat} {x1 x2 x3 x4 : Int32} {e : Nat → x_E} {g : Nat → Int32} {q : Nat → Int64} {c : Nat → Nat → Int32} {l : Nat → Nat → Int64} {R : Option Value × List x_E} (hz0 : ¬ (x4 < 0 ∨ 4000 ≤ (x4).toNatClampNeg)) (h1 : xCn .eq ((c 62 (x4).toNatClampNeg)) ((Int8.ofInt (11)).toInt32) = true → rr b e d 361 31 [(0, .ref 49), (1, .int x1), (2, .int x2), (3, .int x3), (4, .int x4)] [] g q c l R) (h2 : ¬ xCn .eq ((c 62 (x4).toNatClampNeg)) ((Int8.ofInt (11)).toInt32) = true → rr b e d 361 19 [(0, .ref 49), (1, .int x1), (2, .int x2), (3, .int x3), (4, .int x4)] [] g q c l R) : rr b e d 361 7 [(0, .ref 49), (1, .int x1), (2, .int x2), (3, .int x3), (4, .int x4)] [] g q c l R := by
  have key : ∀ f, nrun xZ (xY (xfm b)) xDT (f + 6) d 361 7 [(0, .ref 49), (1, .int x1), (2, .int x2), (3, .int x3), (4, .int x4)] [] (rH e g q c l) 0 0 = nrun xZ (xY (xfm b)) xDT f d 361 (if xCn .eq ((c 62 (x4).toNatClampNeg)) ((Int8.ofInt (11)).toInt32) = true then 31 else 19) [(0, .ref 49), (1, .int x1), (2, .int x2), (3, .int x3), (4, .int x4)] [] (rH e g q c l) 0 0 := by
    intro f
    obtain ⟨y, cb, hj⟩ := mq_361
    rw [n_step (st' := [.ref 49]) (pc' := 8) (lv' := [(0, .ref 49), (1, .int x1), (2, .int x2), (3, .int x3), (4, .int x4)]) (hp' := rH e g q c l) (i := .aload_n 0) (len := 1) rfl hj rfl rfl rfl]
    rw [n_get (st' := [.ref 62]) (pc' := 11) (lv' := [(0, .ref 49), (1, .int x1), (2, .int x2), (3, .int x3), (4, .int x4)]) (hp' := rH e g q c l) (i := .getfield 53) (len := 3) rfl hj rfl rfl rfl rfl]
    rw [n_step (st' := [.int x4, .ref 62]) (pc' := 13) (lv' := [(0, .ref 49), (1, .int x1), (2, .int x2), (3, .int x3), (4, .int x4)]) (hp' := rH e g q c l) (i := .iload 4) (len := 2) rfl hj rfl rfl rfl]
    rw [n_ial (st' := [.int (c 62 (x4).toNatClampNeg)]) rfl hj (ald_62 hz0)]
    rw [n_step (st' := [.int (Int8.ofInt (11)).toInt32, .int (c 62 (x4).toNatClampNeg)]) (pc' := 16) (lv' := [(0, .ref 49), (1, .int x1), (2, .int x2), (3, .int x3), (4, .int x4)]) (hp' := rH e g q c l) (i := .bipush 11) (len := 2) rfl hj rfl rfl rfl]
    rw [n_step (st' := []) (pc' := (if xCn .eq ((c 62 (x4).toNatClampNeg)) ((Int8.ofInt (11)).toInt32) = true then 31 else 19)) (lv' := [(0, .ref 49), (1, .int x1), (2, .int x2), (3, .int x3), (4, .int x4)]) (hp' := rH e g q c l) (i := .if_icmp .eq 15) (len := 3) rfl hj rfl rfl rfl]
  by_cases hc : xCn .eq ((c 62 (x4).toNatClampNeg)) ((Int8.ofInt (11)).toInt32) = true
  · obtain ⟨f, h⟩ := h1 hc
    refine ⟨f + 6, ?_⟩
    rw [key, if_pos hc]
    exact h
  · obtain ⟨f, h⟩ := h2 hc
    refine ⟨f + 6, ?_⟩
    rw [key, if_neg hc]
    exact h
set_option maxRecDepth 100000 in
set_option maxHeartbeats 4000000 in
theorem bk_361_19 {b : Bool} {d : Nat} {x1 x2 x3 x4 : Int32} {e : Nat → x_E} {g : Nat → Int32} {q : Nat → Int64} {c : Nat → Nat → Int32} {l : Nat → Nat → Int64} {R : Option Value × List x_E} (hz0 : ¬ (x4 < 0 ∨ 4000 ≤ (x4).toNatClampNeg)) (h1 : xCn .ne ((c 62 (x4).toNatClampNeg)) ((Int8.ofInt (9)).toInt32) = true → rr b e d 361 62 [(0, .ref 49), (1, .int x1), (2, .int x2), (3, .int x3), (4, .int x4)] [] g q c l R) (h2 : ¬ xCn .ne ((c 62 (x4).toNatClampNeg)) ((Int8.ofInt (9)).toInt32) = true → rr b e d 361 31 [(0, .ref 49), (1, .int x1), (2, .int x2), (3, .int x3), (4, .int x4)] [] g q c l R) : rr b e d 361 19 [(0, .ref 49), (1, .int x1), (2, .int x2), (3, .int x3), (4, .int x4)] [] g q c l R := by
  have key : ∀ f, nrun xZ (xY (xfm b)) xDT (f + 6) d 361 19 [(0, .ref 49), (1, .int x1), (2, .int x2), (3, .int x3), (4, .int x4)] [] (rH e g q c l) 0 0 = nrun xZ (xY (xfm b)) xDT f d 361 (if xCn .ne ((c 62 (x4).toNatClampNeg)) ((Int8.ofInt (9)).toInt32) = true then 62 else 31) [(0, .ref 49), (1, .int x1), (2, .int x2), (3, .int x3), (4, .int x4)] [] (rH e g q c l) 0 0 := by
    intro f
    obtain ⟨y, cb, hj⟩ := mq_361
    rw [n_step (st' := [.ref 49]) (pc' := 20) (lv' := [(0, .ref 49), (1, .int x1), (2, .int x2), (3, .int x3), (4, .int x4)]) (hp' := rH e g q c l) (i := .aload_n 0) (len := 1) rfl hj rfl rfl rfl]
    rw [n_get (st' := [.ref 62]) (pc' := 23) (lv' := [(0, .ref 49), (1, .int x1), (2, .int x2), (3, .int x3), (4, .int x4)]) (hp' := rH e g q c l) (i := .getfield 53) (len := 3) rfl hj rfl rfl rfl rfl]
    rw [n_step (st' := [.int x4, .ref 62]) (pc' := 25) (lv' := [(0, .ref 49), (1, .int x1), (2, .int x2), (3, .int x3), (4, .int x4)]) (hp' := rH e g q c l) (i := .iload 4) (len := 2) rfl hj rfl rfl rfl]
    rw [n_ial (st' := [.int (c 62 (x4).toNatClampNeg)]) rfl hj (ald_62 hz0)]
    rw [n_step (st' := [.int (Int8.ofInt (9)).toInt32, .int (c 62 (x4).toNatClampNeg)]) (pc' := 28) (lv' := [(0, .ref 49), (1, .int x1), (2, .int x2), (3, .int x3), (4, .int x4)]) (hp' := rH e g q c l) (i := .bipush 9) (len := 2) rfl hj rfl rfl rfl]
    rw [n_step (st' := []) (pc' := (if xCn .ne ((c 62 (x4).toNatClampNeg)) ((Int8.ofInt (9)).toInt32) = true then 62 else 31)) (lv' := [(0, .ref 49), (1, .int x1), (2, .int x2), (3, .int x3), (4, .int x4)]) (hp' := rH e g q c l) (i := .if_icmp .ne 34) (len := 3) rfl hj rfl rfl rfl]
  by_cases hc : xCn .ne ((c 62 (x4).toNatClampNeg)) ((Int8.ofInt (9)).toInt32) = true
  · obtain ⟨f, h⟩ := h1 hc
    refine ⟨f + 6, ?_⟩
    rw [key, if_pos hc]
    exact h
  · obtain ⟨f, h⟩ := h2 hc
    refine ⟨f + 6, ?_⟩
    rw [key, if_neg hc]
    exact h
set_option maxRecDepth 100000 in
set_option maxHeartbeats 4000000 in
theorem bk_361_31 {b : Bool} {d : Nat} {x1 x2 x3 x4 : Int32} {e : Nat → x_E} {g : Nat → Int32} {q : Nat → Int64} {c : Nat → Nat → Int32} {l : Nat → Nat → Int64} {R : Option Value × List x_E} (hz0 : ¬ (x4 < 0 ∨ 4000 ≤ (x4).toNatClampNeg)) (h1 : xCn .ne ((c 62 (x4).toNatClampNeg)) ((Int8.ofInt (9)).toInt32) = true → rr b e d 361 53 [(0, .ref 49), (1, .int x1), (2, .int x2), (3, .int x3), (4, .int x4)] [] g q c l R) (h2 : ¬ xCn .ne ((c 62 (x4).toNatClampNeg)) ((Int8.ofInt (9)).toInt32) = true → rr b e d 361 43 [(0, .ref 49), (1, .int x1), (2, .int x2), (3, .int x3), (4, .int x4)] [] g q c l R) : rr b e d 361 31 [(0, .ref 49), (1, .int x1), (2, .int x2), (3, .int x3), (4, .int x4)] [] g q c l R := by
  have key : ∀ f, nrun xZ (xY (xfm b)) xDT (f + 6) d 361 31 [(0, .ref 49), (1, .int x1), (2, .int x2), (3, .int x3), (4, .int x4)] [] (rH e g q c l) 0 0 = nrun xZ (xY (xfm b)) xDT f d 361 (if xCn .ne ((c 62 (x4).toNatClampNeg)) ((Int8.ofInt (9)).toInt32) = true then 53 else 43) [(0, .ref 49), (1, .int x1), (2, .int x2), (3, .int x3), (4, .int x4)] [] (rH e g q c l) 0 0 := by
    intro f
    obtain ⟨y, cb, hj⟩ := mq_361
    rw [n_step (st' := [.ref 49]) (pc' := 32) (lv' := [(0, .ref 49), (1, .int x1), (2, .int x2), (3, .int x3), (4, .int x4)]) (hp' := rH e g q c l) (i := .aload_n 0) (len := 1) rfl hj rfl rfl rfl]
    rw [n_get (st' := [.ref 62]) (pc' := 35) (lv' := [(0, .ref 49), (1, .int x1), (2, .int x2), (3, .int x3), (4, .int x4)]) (hp' := rH e g q c l) (i := .getfield 53) (len := 3) rfl hj rfl rfl rfl rfl]
    rw [n_step (st' := [.int x4, .ref 62]) (pc' := 37) (lv' := [(0, .ref 49), (1, .int x1), (2, .int x2), (3, .int x3), (4, .int x4)]) (hp' := rH e g q c l) (i := .iload 4) (len := 2) rfl hj rfl rfl rfl]
    rw [n_ial (st' := [.int (c 62 (x4).toNatClampNeg)]) rfl hj (ald_62 hz0)]
    rw [n_step (st' := [.int (Int8.ofInt (9)).toInt32, .int (c 62 (x4).toNatClampNeg)]) (pc' := 40) (lv' := [(0, .ref 49), (1, .int x1), (2, .int x2), (3, .int x3), (4, .int x4)]) (hp' := rH e g q c l) (i := .bipush 9) (len := 2) rfl hj rfl rfl rfl]
    rw [n_step (st' := []) (pc' := (if xCn .ne ((c 62 (x4).toNatClampNeg)) ((Int8.ofInt (9)).toInt32) = true then 53 else 43)) (lv' := [(0, .ref 49), (1, .int x1), (2, .int x2), (3, .int x3), (4, .int x4)]) (hp' := rH e g q c l) (i := .if_icmp .ne 13) (len := 3) rfl hj rfl rfl rfl]
  by_cases hc : xCn .ne ((c 62 (x4).toNatClampNeg)) ((Int8.ofInt (9)).toInt32) = true
  · obtain ⟨f, h⟩ := h1 hc
    refine ⟨f + 6, ?_⟩
    rw [key, if_pos hc]
    exact h
  · obtain ⟨f, h⟩ := h2 hc
    refine ⟨f + 6, ?_⟩
    rw [key, if_neg hc]
    exact h
set_option maxRecDepth 100000 in
set_option maxHeartbeats 4000000 in
theorem bk_361_43 {b : Bool} {d : Nat} {x1 x2 x3 x4 : Int32} {e : Nat → x_E} {g : Nat → Int32} {q : Nat → Int64} {c : Nat → Nat → Int32} {l : Nat → Nat → Int64} {R : Option Value × List x_E} (hz0 : ¬ (x4 < 0 ∨ 4000 ≤ (x4).toNatClampNeg)) (h : rr b e d 361 57 [(0, .ref 49), (1, .int x1), (2, .int x2), (3, .int x3)] [.int (c 63 (x4).toNatClampNeg)] g q c l R) : rr b e d 361 43 [(0, .ref 49), (1, .int x1), (2, .int x2), (3, .int x3), (4, .int x4)] [] g q c l R := by
  obtain ⟨f, h⟩ := h
  refine ⟨f + 5, ?_⟩
  obtain ⟨y, cb, hj⟩ := mq_361
  rw [n_step (st' := [.ref 49]) (pc' := 44) (lv' := [(0, .ref 49), (1, .int x1), (2, .int x2), (3, .int x3), (4, .int x4)]) (hp' := rH e g q c l) (i := .aload_n 0) (len := 1) rfl hj rfl rfl rfl]
  rw [n_get (st' := [.ref 63]) (pc' := 47) (lv' := [(0, .ref 49), (1, .int x1), (2, .int x2), (3, .int x3), (4, .int x4)]) (hp' := rH e g q c l) (i := .getfield 56) (len := 3) rfl hj rfl rfl rfl rfl]
  rw [n_step (st' := [.int x4, .ref 63]) (pc' := 49) (lv' := [(0, .ref 49), (1, .int x1), (2, .int x2), (3, .int x3), (4, .int x4)]) (hp' := rH e g q c l) (i := .iload 4) (len := 2) rfl hj rfl rfl rfl]
  rw [n_ial (st' := [.int (c 63 (x4).toNatClampNeg)]) rfl hj (ald_63 hz0)]
  rw [n_step (st' := [.int (c 63 (x4).toNatClampNeg)]) (pc' := 57) (lv' := [(0, .ref 49), (1, .int x1), (2, .int x2), (3, .int x3), (4, .int x4)]) (hp' := rH e g q c l) (i := .goto 7) (len := 3) rfl hj rfl rfl rfl]
  exact nrun_ext f f _ _ R 361 57 [(0, .ref 49), (1, .int x1), (2, .int x2), (3, .int x3)] [(0, .ref 49), (1, .int x1), (2, .int x2), (3, .int x3), (4, .int x4)] [.int (c 63 (x4).toNatClampNeg)] _ 0 0 122 (Nat.le_refl _) (Nat.le_refl _) (Nat.le_of_ble_eq_true rfl) (lvR_mk [0, 1, 2, 3] [0, 1, 2, 3, 4] rfl rfl (by decide) (by decide) (List.forall_mem_cons.mpr ⟨List.mem_cons_self, (List.forall_mem_cons.mpr ⟨(List.mem_cons_of_mem _ List.mem_cons_self), (List.forall_mem_cons.mpr ⟨(List.mem_cons_of_mem _ (List.mem_cons_of_mem _ List.mem_cons_self)), (List.forall_mem_cons.mpr ⟨(List.mem_cons_of_mem _ (List.mem_cons_of_mem _ (List.mem_cons_of_mem _ List.mem_cons_self))), (fun _ h => nomatch h)⟩)⟩)⟩)⟩) (List.forall_mem_cons.mpr ⟨Or.inl List.mem_cons_self, (List.forall_mem_cons.mpr ⟨Or.inl (List.mem_cons_of_mem _ List.mem_cons_self), (List.forall_mem_cons.mpr ⟨Or.inl (List.mem_cons_of_mem _ (List.mem_cons_of_mem _ List.mem_cons_self)), (List.forall_mem_cons.mpr ⟨Or.inl (List.mem_cons_of_mem _ (List.mem_cons_of_mem _ (List.mem_cons_of_mem _ List.mem_cons_self))), (List.forall_mem_cons.mpr ⟨Or.inr rfl, (fun _ h => nomatch h)⟩)⟩)⟩)⟩)⟩)) h
set_option maxRecDepth 100000 in
set_option maxHeartbeats 4000000 in
theorem bk_361_53 {b : Bool} {d : Nat} {x1 x2 x3 x4 : Int32} {e : Nat → x_E} {g : Nat → Int32} {q : Nat → Int64} {c : Nat → Nat → Int32} {l : Nat → Nat → Int64} {R : Option Value × List x_E} (h : rr b e d 361 57 [(0, .ref 49), (1, .int x1), (2, .int x2), (3, .int x3)] [.int (x4 + (Int32.ofInt (1)))] g q c l R) : rr b e d 361 53 [(0, .ref 49), (1, .int x1), (2, .int x2), (3, .int x3), (4, .int x4)] [] g q c l R := by
  obtain ⟨f, h⟩ := h
  refine ⟨f + 3, ?_⟩
  obtain ⟨y, cb, hj⟩ := mq_361
  rw [n_step (st' := [.int x4]) (pc' := 55) (lv' := [(0, .ref 49), (1, .int x1), (2, .int x2), (3, .int x3), (4, .int x4)]) (hp' := rH e g q c l) (i := .iload 4) (len := 2) rfl hj rfl rfl rfl]
  rw [n_step (st' := [.int (Int32.ofInt (1)), .int x4]) (pc' := 56) (lv' := [(0, .ref 49), (1, .int x1), (2, .int x2), (3, .int x3), (4, .int x4)]) (hp' := rH e g q c l) (i := .iconst 1) (len := 1) rfl hj rfl rfl rfl]
  rw [n_step (st' := [.int (x4 + (Int32.ofInt (1)))]) (pc' := 57) (lv' := [(0, .ref 49), (1, .int x1), (2, .int x2), (3, .int x3), (4, .int x4)]) (hp' := rH e g q c l) (i := .iadd) (len := 1) rfl hj rfl rfl rfl]
  exact nrun_ext f f _ _ R 361 57 [(0, .ref 49), (1, .int x1), (2, .int x2), (3, .int x3)] [(0, .ref 49), (1, .int x1), (2, .int x2), (3, .int x3), (4, .int x4)] [.int (x4 + (Int32.ofInt (1)))] _ 0 0 122 (Nat.le_refl _) (Nat.le_refl _) (Nat.le_of_ble_eq_true rfl) (lvR_mk [0, 1, 2, 3] [0, 1, 2, 3, 4] rfl rfl (by decide) (by decide) (List.forall_mem_cons.mpr ⟨List.mem_cons_self, (List.forall_mem_cons.mpr ⟨(List.mem_cons_of_mem _ List.mem_cons_self), (List.forall_mem_cons.mpr ⟨(List.mem_cons_of_mem _ (List.mem_cons_of_mem _ List.mem_cons_self)), (List.forall_mem_cons.mpr ⟨(List.mem_cons_of_mem _ (List.mem_cons_of_mem _ (List.mem_cons_of_mem _ List.mem_cons_self))), (fun _ h => nomatch h)⟩)⟩)⟩)⟩) (List.forall_mem_cons.mpr ⟨Or.inl List.mem_cons_self, (List.forall_mem_cons.mpr ⟨Or.inl (List.mem_cons_of_mem _ List.mem_cons_self), (List.forall_mem_cons.mpr ⟨Or.inl (List.mem_cons_of_mem _ (List.mem_cons_of_mem _ List.mem_cons_self)), (List.forall_mem_cons.mpr ⟨Or.inl (List.mem_cons_of_mem _ (List.mem_cons_of_mem _ (List.mem_cons_of_mem _ List.mem_cons_self))), (List.forall_mem_cons.mpr ⟨Or.inr rfl, (fun _ h => nomatch h)⟩)⟩)⟩)⟩)⟩)) h
set_option maxRecDepth 100000 in
set_option maxHeartbeats 4000000 in
theorem bk_361_57 {b : Bool} {d : Nat} {t0 x1 x2 x3 : Int32} {e : Nat → x_E} {g : Nat → Int32} {q : Nat → Int64} {c : Nat → Nat → Int32} {l : Nat → Nat → Int64} {R : Option Value × List x_E} (h : rr b e d 361 7 [(0, .ref 49), (1, .int x1), (2, .int x2), (3, .int x3), (4, .int t0)] [] g q c l R) : rr b e d 361 57 [(0, .ref 49), (1, .int x1), (2, .int x2), (3, .int x3)] [.int t0] g q c l R := by
  obtain ⟨f, h⟩ := h
  refine ⟨f + 2, ?_⟩
  obtain ⟨y, cb, hj⟩ := mq_361
  rw [n_step (st' := []) (pc' := 59) (lv' := [(4, .int t0), (0, .ref 49), (1, .int x1), (2, .int x2), (3, .int x3)]) (hp' := rH e g q c l) (i := .istore 4) (len := 2) rfl hj rfl rfl rfl]
  rw [n_step (st' := []) (pc' := 7) (lv' := [(4, .int t0), (0, .ref 49), (1, .int x1), (2, .int x2), (3, .int x3)]) (hp' := rH e g q c l) (i := .goto (-52)) (len := 3) rfl hj rfl rfl rfl]
  exact nrun_ext f f _ _ R 361 7 [(0, .ref 49), (1, .int x1), (2, .int x2), (3, .int x3), (4, .int t0)] [(4, .int t0), (0, .ref 49), (1, .int x1), (2, .int x2), (3, .int x3)] [] _ 0 0 122 (Nat.le_refl _) (Nat.le_refl _) (Nat.le_of_ble_eq_true rfl) (lvR_mk [0, 1, 2, 3, 4] [4, 0, 1, 2, 3] rfl rfl (by decide) (by decide) (List.forall_mem_cons.mpr ⟨(List.mem_cons_of_mem _ List.mem_cons_self), (List.forall_mem_cons.mpr ⟨(List.mem_cons_of_mem _ (List.mem_cons_of_mem _ List.mem_cons_self)), (List.forall_mem_cons.mpr ⟨(List.mem_cons_of_mem _ (List.mem_cons_of_mem _ (List.mem_cons_of_mem _ List.mem_cons_self))), (List.forall_mem_cons.mpr ⟨(List.mem_cons_of_mem _ (List.mem_cons_of_mem _ (List.mem_cons_of_mem _ (List.mem_cons_of_mem _ List.mem_cons_self)))), (List.forall_mem_cons.mpr ⟨List.mem_cons_self, (fun _ h => nomatch h)⟩)⟩)⟩)⟩)⟩) (List.forall_mem_cons.mpr ⟨Or.inl (List.mem_cons_of_mem _ (List.mem_cons_of_mem _ (List.mem_cons_of_mem _ (List.mem_cons_of_mem _ List.mem_cons_self)))), (List.forall_mem_cons.mpr ⟨Or.inl List.mem_cons_self, (List.forall_mem_cons.mpr ⟨Or.inl (List.mem_cons_of_mem _ List.mem_cons_self), (List.forall_mem_cons.mpr ⟨Or.inl (List.mem_cons_of_mem _ (List.mem_cons_of_mem _ List.mem_cons_self)), (List.forall_mem_cons.mpr ⟨Or.inl (List.mem_cons_of_mem _ (List.mem_cons_of_mem _ (List.mem_cons_of_mem _ List.mem_cons_self))), (fun _ h => nomatch h)⟩)⟩)⟩)⟩)⟩)) h
set_option maxRecDepth 100000 in
set_option maxHeartbeats 4000000 in
theorem bk_361_62 {b : Bool} {d : Nat} {x1 x2 x3 x4 : Int32} {e : Nat → x_E} {g : Nat → Int32} {q : Nat → Int64} {c : Nat → Nat → Int32} {l : Nat → Nat → Int64} {R : Option Value × List x_E} (h1 : xCn .le x1 0 = true → rr b e d 361 79 [(0, .ref 49), (1, .int x1), (2, .int x2), (3, .int x3)] [] g q c l R) (h2 : ¬ xCn .le x1 0 = true → rr b e d 361 66 [(0, .ref 49), (1, .int x1), (2, .int x2), (3, .int x3), (4, .int x4)] [] g q c l R) : rr b e d 361 62 [(0, .ref 49), (1, .int x1), (2, .int x2), (3, .int x3), (4, .int x4)] [] g q c l R := by
  have key : ∀ f, nrun xZ (xY (xfm b)) xDT (f + 2) d 361 62 [(0, .ref 49), (1, .int x1), (2, .int x2), (3, .int x3), (4, .int x4)] [] (rH e g q c l) 0 0 = nrun xZ (xY (xfm b)) xDT f d 361 (if xCn .le x1 0 = true then 79 else 66) [(0, .ref 49), (1, .int x1), (2, .int x2), (3, .int x3), (4, .int x4)] [] (rH e g q c l) 0 0 := by
    intro f
    obtain ⟨y, cb, hj⟩ := mq_361
    rw [n_step (st' := [.int x1]) (pc' := 63) (lv' := [(0, .ref 49), (1, .int x1), (2, .int x2), (3, .int x3), (4, .int x4)]) (hp' := rH e g q c l) (i := .iload_n 1) (len := 1) rfl hj rfl rfl rfl]
    rw [n_step (st' := []) (pc' := (if xCn .le x1 0 = true then 79 else 66)) (lv' := [(0, .ref 49), (1, .int x1), (2, .int x2), (3, .int x3), (4, .int x4)]) (hp' := rH e g q c l) (i := .ifCond .le 16) (len := 3) rfl hj rfl rfl rfl]
  by_cases hc : xCn .le x1 0 = true
  · obtain ⟨f, h⟩ := h1 hc
    refine ⟨f + 2, ?_⟩
    rw [key, if_pos hc]
    exact nrun_ext f f _ _ R 361 79 [(0, .ref 49), (1, .int x1), (2, .int x2), (3, .int x3)] [(0, .ref 49), (1, .int x1), (2, .int x2), (3, .int x3), (4, .int x4)] [] _ 0 0 122 (Nat.le_refl _) (Nat.le_refl _) (Nat.le_of_ble_eq_true rfl) (lvR_mk [0, 1, 2, 3] [0, 1, 2, 3, 4] rfl rfl (by decide) (by decide) (List.forall_mem_cons.mpr ⟨List.mem_cons_self, (List.forall_mem_cons.mpr ⟨(List.mem_cons_of_mem _ List.mem_cons_self), (List.forall_mem_cons.mpr ⟨(List.mem_cons_of_mem _ (List.mem_cons_of_mem _ List.mem_cons_self)), (List.forall_mem_cons.mpr ⟨(List.mem_cons_of_mem _ (List.mem_cons_of_mem _ (List.mem_cons_of_mem _ List.mem_cons_self))), (fun _ h => nomatch h)⟩)⟩)⟩)⟩) (List.forall_mem_cons.mpr ⟨Or.inl List.mem_cons_self, (List.forall_mem_cons.mpr ⟨Or.inl (List.mem_cons_of_mem _ List.mem_cons_self), (List.forall_mem_cons.mpr ⟨Or.inl (List.mem_cons_of_mem _ (List.mem_cons_of_mem _ List.mem_cons_self)), (List.forall_mem_cons.mpr ⟨Or.inl (List.mem_cons_of_mem _ (List.mem_cons_of_mem _ (List.mem_cons_of_mem _ List.mem_cons_self))), (List.forall_mem_cons.mpr ⟨Or.inr rfl, (fun _ h => nomatch h)⟩)⟩)⟩)⟩)⟩)) h
  · obtain ⟨f, h⟩ := h2 hc
    refine ⟨f + 2, ?_⟩
    rw [key, if_neg hc]
    exact h
set_option maxRecDepth 100000 in
set_option maxHeartbeats 4000000 in
theorem bk_361_66 {b : Bool} {d : Nat} {x1 x2 x3 x4 : Int32} {e : Nat → x_E} {g : Nat → Int32} {q : Nat → Int64} {c : Nat → Nat → Int32} {l : Nat → Nat → Int64} {R : Option Value × List x_E} (hz0 : ¬ (x4 < 0 ∨ 4000 ≤ (x4).toNatClampNeg)) (h1 : xCn .ne ((c 62 (x4).toNatClampNeg)) ((Int8.ofInt (14)).toInt32) = true → rr b e d 361 79 [(0, .ref 49), (1, .int x1), (2, .int x2), (3, .int x3)] [] g q c l R) (h2 : ¬ xCn .ne ((c 62 (x4).toNatClampNeg)) ((Int8.ofInt (14)).toInt32) = true → rr b e d 361 78 [] [] g q c l R) : rr b e d 361 66 [(0, .ref 49), (1, .int x1), (2, .int x2), (3, .int x3), (4, .int x4)] [] g q c l R := by
  have key : ∀ f, nrun xZ (xY (xfm b)) xDT (f + 6) d 361 66 [(0, .ref 49), (1, .int x1), (2, .int x2), (3, .int x3), (4, .int x4)] [] (rH e g q c l) 0 0 = nrun xZ (xY (xfm b)) xDT f d 361 (if xCn .ne ((c 62 (x4).toNatClampNeg)) ((Int8.ofInt (14)).toInt32) = true then 79 else 78) [(0, .ref 49), (1, .int x1), (2, .int x2), (3, .int x3), (4, .int x4)] [] (rH e g q c l) 0 0 := by
    intro f
    obtain ⟨y, cb, hj⟩ := mq_361
    rw [n_step (st' := [.ref 49]) (pc' := 67) (lv' := [(0, .ref 49), (1, .int x1), (2, .int x2), (3, .int x3), (4, .int x4)]) (hp' := rH e g q c l) (i := .aload_n 0) (len := 1) rfl hj rfl rfl rfl]
    rw [n_get (st' := [.ref 62]) (pc' := 70) (lv' := [(0, .ref 49), (1, .int x1), (2, .int x2), (3, .int x3), (4, .int x4)]) (hp' := rH e g q c l) (i := .getfield 53) (len := 3) rfl hj rfl rfl rfl rfl]
    rw [n_step (st' := [.int x4, .ref 62]) (pc' := 72) (lv' := [(0, .ref 49), (1, .int x1), (2, .int x2), (3, .int x3), (4, .int x4)]) (hp' := rH e g q c l) (i := .iload 4) (len := 2) rfl hj rfl rfl rfl]
    rw [n_ial (st' := [.int (c 62 (x4).toNatClampNeg)]) rfl hj (ald_62 hz0)]
    rw [n_step (st' := [.int (Int8.ofInt (14)).toInt32, .int (c 62 (x4).toNatClampNeg)]) (pc' := 75) (lv' := [(0, .ref 49), (1, .int x1), (2, .int x2), (3, .int x3), (4, .int x4)]) (hp' := rH e g q c l) (i := .bipush 14) (len := 2) rfl hj rfl rfl rfl]
    rw [n_step (st' := []) (pc' := (if xCn .ne ((c 62 (x4).toNatClampNeg)) ((Int8.ofInt (14)).toInt32) = true then 79 else 78)) (lv' := [(0, .ref 49), (1, .int x1), (2, .int x2), (3, .int x3), (4, .int x4)]) (hp' := rH e g q c l) (i := .if_icmp .ne 4) (len := 3) rfl hj rfl rfl rfl]
  by_cases hc : xCn .ne ((c 62 (x4).toNatClampNeg)) ((Int8.ofInt (14)).toInt32) = true
  · obtain ⟨f, h⟩ := h1 hc
    refine ⟨f + 6, ?_⟩
    rw [key, if_pos hc]
    exact nrun_ext f f _ _ R 361 79 [(0, .ref 49), (1, .int x1), (2, .int x2), (3, .int x3)] [(0, .ref 49), (1, .int x1), (2, .int x2), (3, .int x3), (4, .int x4)] [] _ 0 0 122 (Nat.le_refl _) (Nat.le_refl _) (Nat.le_of_ble_eq_true rfl) (lvR_mk [0, 1, 2, 3] [0, 1, 2, 3, 4] rfl rfl (by decide) (by decide) (List.forall_mem_cons.mpr ⟨List.mem_cons_self, (List.forall_mem_cons.mpr ⟨(List.mem_cons_of_mem _ List.mem_cons_self), (List.forall_mem_cons.mpr ⟨(List.mem_cons_of_mem _ (List.mem_cons_of_mem _ List.mem_cons_self)), (List.forall_mem_cons.mpr ⟨(List.mem_cons_of_mem _ (List.mem_cons_of_mem _ (List.mem_cons_of_mem _ List.mem_cons_self))), (fun _ h => nomatch h)⟩)⟩)⟩)⟩) (List.forall_mem_cons.mpr ⟨Or.inl List.mem_cons_self, (List.forall_mem_cons.mpr ⟨Or.inl (List.mem_cons_of_mem _ List.mem_cons_self), (List.forall_mem_cons.mpr ⟨Or.inl (List.mem_cons_of_mem _ (List.mem_cons_of_mem _ List.mem_cons_self)), (List.forall_mem_cons.mpr ⟨Or.inl (List.mem_cons_of_mem _ (List.mem_cons_of_mem _ (List.mem_cons_of_mem _ List.mem_cons_self))), (List.forall_mem_cons.mpr ⟨Or.inr rfl, (fun _ h => nomatch h)⟩)⟩)⟩)⟩)⟩)) h
  · obtain ⟨f, h⟩ := h2 hc
    refine ⟨f + 6, ?_⟩
    rw [key, if_neg hc]
    exact nrun_ext f f _ _ R 361 78 [] [(0, .ref 49), (1, .int x1), (2, .int x2), (3, .int x3), (4, .int x4)] [] _ 0 0 122 (Nat.le_refl _) (Nat.le_refl _) (Nat.le_of_ble_eq_true rfl) (lvR_mk [] [0, 1, 2, 3, 4] rfl rfl (by decide) (by decide) (fun _ h => nomatch h) (List.forall_mem_cons.mpr ⟨Or.inr rfl, (List.forall_mem_cons.mpr ⟨Or.inr rfl, (List.forall_mem_cons.mpr ⟨Or.inr rfl, (List.forall_mem_cons.mpr ⟨Or.inr rfl, (List.forall_mem_cons.mpr ⟨Or.inr rfl, (fun _ h => nomatch h)⟩)⟩)⟩)⟩)⟩)) h
set_option maxRecDepth 100000 in
set_option maxHeartbeats 4000000 in
theorem bk_361_78 {b : Bool} {d : Nat} {e : Nat → x_E} {g : Nat → Int32} {q : Nat → Int64} {c : Nat → Nat → Int32} {l : Nat → Nat → Int64} : rr b e d 361 78 [] [] g q c l (none, rH e g q c l) := by
  refine ⟨0 + 1, ?_⟩
  obtain ⟨y, cb, hj⟩ := mq_361
  exact n_ret rfl hj rfl rfl rfl
set_option maxRecDepth 100000 in
set_option maxHeartbeats 4000000 in
theorem bk_361_79 {b : Bool} {d : Nat} {x1 x2 x3 : Int32} {e : Nat → x_E} {g : Nat → Int32} {q : Nat → Int64} {c : Nat → Nat → Int32} {l : Nat → Nat → Int64} {R : Option Value × List x_E} (hz0 : ¬ ((x2 + (Int32.ofInt (1))) < 0 ∨ 4000 ≤ ((x2 + (Int32.ofInt (1)))).toNatClampNeg)) (h1 : xCn .le x1 0 = true → rr b e d 361 97 [(0, .ref 49), (2, .int x2), (3, .int x3), (5, .long (l 66 ((x2 + (Int32.ofInt (1)))).toNatClampNeg))] [] g q c l R) (h2 : ¬ xCn .le x1 0 = true → rr b e d 361 93 [(0, .ref 49), (2, .int x2), (3, .int x3), (5, .long (l 66 ((x2 + (Int32.ofInt (1)))).toNatClampNeg))] [] g q c l R) : rr b e d 361 79 [(0, .ref 49), (1, .int x1), (2, .int x2), (3, .int x3)] [] g q c l R := by
  have key : ∀ f, nrun xZ (xY (xfm b)) xDT (f + 9) d 361 79 [(0, .ref 49), (1, .int x1), (2, .int x2), (3, .int x3)] [] (rH e g q c l) 0 0 = nrun xZ (xY (xfm b)) xDT f d 361 (if xCn .le x1 0 = true then 97 else 93) [(5, .long (l 66 ((x2 + (Int32.ofInt (1)))).toNatClampNeg)), (0, .ref 49), (1, .int x1), (2, .int x2), (3, .int x3)] [] (rH e g q c l) 0 0 := by
    intro f
    obtain ⟨y, cb, hj⟩ := mq_361
    rw [n_step (st' := [.ref 49]) (pc' := 80) (lv' := [(0, .ref 49), (1, .int x1), (2, .int x2), (3, .int x3)]) (hp' := rH e g q c l) (i := .aload_n 0) (len := 1) rfl hj rfl rfl rfl]
    rw [n_get (st' := [.ref 66]) (pc' := 83) (lv' := [(0, .ref 49), (1, .int x1), (2, .int x2), (3, .int x3)]) (hp' := rH e g q c l) (i := .getfield 65) (len := 3) rfl hj rfl rfl rfl rfl]
    rw [n_step (st' := [.int x2, .ref 66]) (pc' := 84) (lv' := [(0, .ref 49), (1, .int x1), (2, .int x2), (3, .int x3)]) (hp' := rH e g q c l) (i := .iload_n 2) (len := 1) rfl hj rfl rfl rfl]
    rw [n_step (st' := [.int (Int32.ofInt (1)), .int x2, .ref 66]) (pc' := 85) (lv' := [(0, .ref 49), (1, .int x1), (2, .int x2), (3, .int x3)]) (hp' := rH e g q c l) (i := .iconst 1) (len := 1) rfl hj rfl rfl rfl]
    rw [n_step (st' := [.int (x2 + (Int32.ofInt (1))), .ref 66]) (pc' := 86) (lv' := [(0, .ref 49), (1, .int x1), (2, .int x2), (3, .int x3)]) (hp' := rH e g q c l) (i := .iadd) (len := 1) rfl hj rfl rfl rfl]
    rw [n_lal (st' := [.long (l 66 ((x2 + (Int32.ofInt (1)))).toNatClampNeg)]) rfl hj (all_66 hz0)]
    rw [n_step (st' := []) (pc' := 89) (lv' := [(5, .long (l 66 ((x2 + (Int32.ofInt (1)))).toNatClampNeg)), (0, .ref 49), (1, .int x1), (2, .int x2), (3, .int x3)]) (hp' := rH e g q c l) (i := .lstore 5) (len := 2) rfl hj rfl rfl rfl]
    rw [n_step (st' := [.int x1]) (pc' := 90) (lv' := [(5, .long (l 66 ((x2 + (Int32.ofInt (1)))).toNatClampNeg)), (0, .ref 49), (1, .int x1), (2, .int x2), (3, .int x3)]) (hp' := rH e g q c l) (i := .iload_n 1) (len := 1) rfl hj rfl rfl rfl]
    rw [n_step (st' := []) (pc' := (if xCn .le x1 0 = true then 97 else 93)) (lv' := [(5, .long (l 66 ((x2 + (Int32.ofInt (1)))).toNatClampNeg)), (0, .ref 49), (1, .int x1), (2, .int x2), (3, .int x3)]) (hp' := rH e g q c l) (i := .ifCond .le 7) (len := 3) rfl hj rfl rfl rfl]
  by_cases hc : xCn .le x1 0 = true
  · obtain ⟨f, h⟩ := h1 hc
    refine ⟨f + 9, ?_⟩
    rw [key, if_pos hc]
    exact nrun_ext f f _ _ R 361 97 [(0, .ref 49), (2, .int x2), (3, .int x3), (5, .long (l 66 ((x2 + (Int32.ofInt (1)))).toNatClampNeg))] [(5, .long (l 66 ((x2 + (Int32.ofInt (1)))).toNatClampNeg)), (0, .ref 49), (1, .int x1), (2, .int x2), (3, .int x3)] [] _ 0 0 122 (Nat.le_refl _) (Nat.le_refl _) (Nat.le_of_ble_eq_true rfl) (lvR_mk [0, 2, 3, 5] [5, 0, 1, 2, 3] rfl rfl (by decide) (by decide) (List.forall_mem_cons.mpr ⟨(List.mem_cons_of_mem _ List.mem_cons_self), (List.forall_mem_cons.mpr ⟨(List.mem_cons_of_mem _ (List.mem_cons_of_mem _ (List.mem_cons_of_mem _ List.mem_cons_self))), (List.forall_mem_cons.mpr ⟨(List.mem_cons_of_mem _ (List.mem_cons_of_mem _ (List.mem_cons_of_mem _ (List.mem_cons_of_mem _ List.mem_cons_self)))), (List.forall_mem_cons.mpr ⟨List.mem_cons_self, (fun _ h => nomatch h)⟩)⟩)⟩)⟩) (List.forall_mem_cons.mpr ⟨Or.inl (List.mem_cons_of_mem _ (List.mem_cons_of_mem _ (List.mem_cons_of_mem _ List.mem_cons_self))), (List.forall_mem_cons.mpr ⟨Or.inl List.mem_cons_self, (List.forall_mem_cons.mpr ⟨Or.inr rfl, (List.forall_mem_cons.mpr ⟨Or.inl (List.mem_cons_of_mem _ List.mem_cons_self), (List.forall_mem_cons.mpr ⟨Or.inl (List.mem_cons_of_mem _ (List.mem_cons_of_mem _ List.mem_cons_self)), (fun _ h => nomatch h)⟩)⟩)⟩)⟩)⟩)) h
  · obtain ⟨f, h⟩ := h2 hc
    refine ⟨f + 9, ?_⟩
    rw [key, if_neg hc]
    exact nrun_ext f f _ _ R 361 93 [(0, .ref 49), (2, .int x2), (3, .int x3), (5, .long (l 66 ((x2 + (Int32.ofInt (1)))).toNatClampNeg))] [(5, .long (l 66 ((x2 + (Int32.ofInt (1)))).toNatClampNeg)), (0, .ref 49), (1, .int x1), (2, .int x2), (3, .int x3)] [] _ 0 0 122 (Nat.le_refl _) (Nat.le_refl _) (Nat.le_of_ble_eq_true rfl) (lvR_mk [0, 2, 3, 5] [5, 0, 1, 2, 3] rfl rfl (by decide) (by decide) (List.forall_mem_cons.mpr ⟨(List.mem_cons_of_mem _ List.mem_cons_self), (List.forall_mem_cons.mpr ⟨(List.mem_cons_of_mem _ (List.mem_cons_of_mem _ (List.mem_cons_of_mem _ List.mem_cons_self))), (List.forall_mem_cons.mpr ⟨(List.mem_cons_of_mem _ (List.mem_cons_of_mem _ (List.mem_cons_of_mem _ (List.mem_cons_of_mem _ List.mem_cons_self)))), (List.forall_mem_cons.mpr ⟨List.mem_cons_self, (fun _ h => nomatch h)⟩)⟩)⟩)⟩) (List.forall_mem_cons.mpr ⟨Or.inl (List.mem_cons_of_mem _ (List.mem_cons_of_mem _ (List.mem_cons_of_mem _ List.mem_cons_self))), (List.forall_mem_cons.mpr ⟨Or.inl List.mem_cons_self, (List.forall_mem_cons.mpr ⟨Or.inr rfl, (List.forall_mem_cons.mpr ⟨Or.inl (List.mem_cons_of_mem _ List.mem_cons_self), (List.forall_mem_cons.mpr ⟨Or.inl (List.mem_cons_of_mem _ (List.mem_cons_of_mem _ List.mem_cons_self)), (fun _ h => nomatch h)⟩)⟩)⟩)⟩)⟩)) h
set_option maxRecDepth 100000 in
set_option maxHeartbeats 4000000 in
theorem bk_361_93 {b : Bool} {d : Nat} {x2 x3 : Int32} {x5 : Int64} {e : Nat → x_E} {g : Nat → Int32} {q : Nat → Int64} {c : Nat → Nat → Int32} {l : Nat → Nat → Int64} {R : Option Value × List x_E} (h : rr b e d 361 98 [(0, .ref 49), (2, .int x2), (3, .int x3), (5, .long x5)] [.int (Int32.ofInt (1))] g q c l R) : rr b e d 361 93 [(0, .ref 49), (2, .int x2), (3, .int x3), (5, .long x5)] [] g q c l R := by
  obtain ⟨f, h⟩ := h
  refine ⟨f + 2, ?_⟩
  obtain ⟨y, cb, hj⟩ := mq_361
  rw [n_step (st' := [.int (Int32.ofInt (1))]) (pc' := 94) (lv' := [(0, .ref 49), (2, .int x2), (3, .int x3), (5, .long x5)]) (hp' := rH e g q c l) (i := .iconst 1) (len := 1) rfl hj rfl rfl rfl]
  rw [n_step (st' := [.int (Int32.ofInt (1))]) (pc' := 98) (lv' := [(0, .ref 49), (2, .int x2), (3, .int x3), (5, .long x5)]) (hp' := rH e g q c l) (i := .goto 4) (len := 3) rfl hj rfl rfl rfl]
  exact h
set_option maxRecDepth 100000 in
set_option maxHeartbeats 4000000 in
theorem bk_361_97 {b : Bool} {d : Nat} {x2 x3 : Int32} {x5 : Int64} {e : Nat → x_E} {g : Nat → Int32} {q : Nat → Int64} {c : Nat → Nat → Int32} {l : Nat → Nat → Int64} {R : Option Value × List x_E} (h : rr b e d 361 98 [(0, .ref 49), (2, .int x2), (3, .int x3), (5, .long x5)] [.int (Int32.ofInt (0))] g q c l R) : rr b e d 361 97 [(0, .ref 49), (2, .int x2), (3, .int x3), (5, .long x5)] [] g q c l R := by
  obtain ⟨f, h⟩ := h
  refine ⟨f + 1, ?_⟩
  obtain ⟨y, cb, hj⟩ := mq_361
  rw [n_step (st' := [.int (Int32.ofInt (0))]) (pc' := 98) (lv' := [(0, .ref 49), (2, .int x2), (3, .int x3), (5, .long x5)]) (hp' := rH e g q c l) (i := .iconst 0) (len := 1) rfl hj rfl rfl rfl]
  exact h
set_option maxRecDepth 100000 in
set_option maxHeartbeats 4000000 in
theorem bk_361_98 {b : Bool} {d : Nat} {t0 x2 x3 : Int32} {x5 : Int64} {e : Nat → x_E} {g : Nat → Int32} {q : Nat → Int64} {c : Nat → Nat → Int32} {l : Nat → Nat → Int64} {R : Option Value × List x_E} (h : rr b e d 361 103 [(0, .ref 49), (2, .int x2), (3, .int x3), (5, .long x5), (7, .int t0), (8, .int (Int32.ofInt (0)))] [] g q c l R) : rr b e d 361 98 [(0, .ref 49), (2, .int x2), (3, .int x3), (5, .long x5)] [.int t0] g q c l R := by
  obtain ⟨f, h⟩ := h
  refine ⟨f + 3, ?_⟩
  obtain ⟨y, cb, hj⟩ := mq_361
  rw [n_step (st' := []) (pc' := 100) (lv' := [(7, .int t0), (0, .ref 49), (2, .int x2), (3, .int x3), (5, .long x5)]) (hp' := rH e g q c l) (i := .istore 7) (len := 2) rfl hj rfl rfl rfl]
  rw [n_step (st' := [.int (Int32.ofInt (0))]) (pc' := 101) (lv' := [(7, .int t0), (0, .ref 49), (2, .int x2), (3, .int x3), (5, .long x5)]) (hp' := rH e g q c l) (i := .iconst 0) (len := 1) rfl hj rfl rfl rfl]
  rw [n_step (st' := []) (pc' := 103) (lv' := [(8, .int (Int32.ofInt (0))), (7, .int t0), (0, .ref 49), (2, .int x2), (3, .int x3), (5, .long x5)]) (hp' := rH e g q c l) (i := .istore 8) (len := 2) rfl hj rfl rfl rfl]
  exact nrun_ext f f _ _ R 361 103 [(0, .ref 49), (2, .int x2), (3, .int x3), (5, .long x5), (7, .int t0), (8, .int (Int32.ofInt (0)))] [(8, .int (Int32.ofInt (0))), (7, .int t0), (0, .ref 49), (2, .int x2), (3, .int x3), (5, .long x5)] [] _ 0 0 122 (Nat.le_refl _) (Nat.le_refl _) (Nat.le_of_ble_eq_true rfl) (lvR_mk [0, 2, 3, 5, 7, 8] [8, 7, 0, 2, 3, 5] rfl rfl (by decide) (by decide) (List.forall_mem_cons.mpr ⟨(List.mem_cons_of_mem _ (List.mem_cons_of_mem _ List.mem_cons_self)), (List.forall_mem_cons.mpr ⟨(List.mem_cons_of_mem _ (List.mem_cons_of_mem _ (List.mem_cons_of_mem _ List.mem_cons_self))), (List.forall_mem_cons.mpr ⟨(List.mem_cons_of_mem _ (List.mem_cons_of_mem _ (List.mem_cons_of_mem _ (List.mem_cons_of_mem _ List.mem_cons_self)))), (List.forall_mem_cons.mpr ⟨(List.mem_cons_of_mem _ (List.mem_cons_of_mem _ (List.mem_cons_of_mem _ (List.mem_cons_of_mem _ (List.mem_cons_of_mem _ List.mem_cons_self))))), (List.forall_mem_cons.mpr ⟨(List.mem_cons_of_mem _ List.mem_cons_self), (List.forall_mem_cons.mpr ⟨List.mem_cons_self, (fun _ h => nomatch h)⟩)⟩)⟩)⟩)⟩)⟩) (List.forall_mem_cons.mpr ⟨Or.inl (List.mem_cons_of_mem _ (List.mem_cons_of_mem _ (List.mem_cons_of_mem _ (List.mem_cons_of_mem _ (List.mem_cons_of_mem _ List.mem_cons_self))))), (List.forall_mem_cons.mpr ⟨Or.inl (List.mem_cons_of_mem _ (List.mem_cons_of_mem _ (List.mem_cons_of_mem _ (List.mem_cons_of_mem _ List.mem_cons_self)))), (List.forall_mem_cons.mpr ⟨Or.inl List.mem_cons_self, (List.forall_mem_cons.mpr ⟨Or.inl (List.mem_cons_of_mem _ List.mem_cons_self), (List.forall_mem_cons.mpr ⟨Or.inl (List.mem_cons_of_mem _ (List.mem_cons_of_mem _ List.mem_cons_self)), (List.forall_mem_cons.mpr ⟨Or.inl (List.mem_cons_of_mem _ (List.mem_cons_of_mem _ (List.mem_cons_of_mem _ List.mem_cons_self))), (fun _ h => nomatch h)⟩)⟩)⟩)⟩)⟩)⟩)) h
set_option maxRecDepth 100000 in
set_option maxHeartbeats 4000000 in
theorem bk_361_103 {b : Bool} {d : Nat} {x2 x3 x7 x8 : Int32} {x5 : Int64} {e : Nat → x_E} {g : Nat → Int32} {q : Nat → Int64} {c : Nat → Nat → Int32} {l : Nat → Nat → Int64} {R : Option Value × List x_E} (h1 : xCn .ge x8 x3 = true → rr b e d 361 160 [(0, .ref 49), (2, .int x2), (5, .long x5), (7, .int x7)] [] g q c l R) (h2 : ¬ xCn .ge x8 x3 = true → rr b e d 361 109 [(0, .ref 49), (2, .int x2), (3, .int x3), (5, .long x5), (7, .int x7), (8, .int x8)] [] g q c l R) : rr b e d 361 103 [(0, .ref 49), (2, .int x2), (3, .int x3), (5, .long x5), (7, .int x7), (8, .int x8)] [] g q c l R := by
  have key : ∀ f, nrun xZ (xY (xfm b)) xDT (f + 3) d 361 103 [(0, .ref 49), (2, .int x2), (3, .int x3), (5, .long x5), (7, .int x7), (8, .int x8)] [] (rH e g q c l) 0 0 = nrun xZ (xY (xfm b)) xDT f d 361 (if xCn .ge x8 x3 = true then 160 else 109) [(0, .ref 49), (2, .int x2), (3, .int x3), (5, .long x5), (7, .int x7), (8, .int x8)] [] (rH e g q c l) 0 0 := by
    intro f
    obtain ⟨y, cb, hj⟩ := mq_361
    rw [n_step (st' := [.int x8]) (pc' := 105) (lv' := [(0, .ref 49), (2, .int x2), (3, .int x3), (5, .long x5), (7, .int x7), (8, .int x8)]) (hp' := rH e g q c l) (i := .iload 8) (len := 2) rfl hj rfl rfl rfl]
    rw [n_step (st' := [.int x3, .int x8]) (pc' := 106) (lv' := [(0, .ref 49), (2, .int x2), (3, .int x3), (5, .long x5), (7, .int x7), (8, .int x8)]) (hp' := rH e g q c l) (i := .iload_n 3) (len := 1) rfl hj rfl rfl rfl]
    rw [n_step (st' := []) (pc' := (if xCn .ge x8 x3 = true then 160 else 109)) (lv' := [(0, .ref 49), (2, .int x2), (3, .int x3), (5, .long x5), (7, .int x7), (8, .int x8)]) (hp' := rH e g q c l) (i := .if_icmp .ge 54) (len := 3) rfl hj rfl rfl rfl]
  by_cases hc : xCn .ge x8 x3 = true
  · obtain ⟨f, h⟩ := h1 hc
    refine ⟨f + 3, ?_⟩
    rw [key, if_pos hc]
    exact nrun_ext f f _ _ R 361 160 [(0, .ref 49), (2, .int x2), (5, .long x5), (7, .int x7)] [(0, .ref 49), (2, .int x2), (3, .int x3), (5, .long x5), (7, .int x7), (8, .int x8)] [] _ 0 0 122 (Nat.le_refl _) (Nat.le_refl _) (Nat.le_of_ble_eq_true rfl) (lvR_mk [0, 2, 5, 7] [0, 2, 3, 5, 7, 8] rfl rfl (by decide) (by decide) (List.forall_mem_cons.mpr ⟨List.mem_cons_self, (List.forall_mem_cons.mpr ⟨(List.mem_cons_of_mem _ List.mem_cons_self), (List.forall_mem_cons.mpr ⟨(List.mem_cons_of_mem _ (List.mem_cons_of_mem _ (List.mem_cons_of_mem _ List.mem_cons_self))), (List.forall_mem_cons.mpr ⟨(List.mem_cons_of_mem _ (List.mem_cons_of_mem _ (List.mem_cons_of_mem _ (List.mem_cons_of_mem _ List.mem_cons_self)))), (fun _ h => nomatch h)⟩)⟩)⟩)⟩) (List.forall_mem_cons.mpr ⟨Or.inl List.mem_cons_self, (List.forall_mem_cons.mpr ⟨Or.inl (List.mem_cons_of_mem _ List.mem_cons_self), (List.forall_mem_cons.mpr ⟨Or.inr rfl, (List.forall_mem_cons.mpr ⟨Or.inl (List.mem_cons_of_mem _ (List.mem_cons_of_mem _ List.mem_cons_self)), (List.forall_mem_cons.mpr ⟨Or.inl (List.mem_cons_of_mem _ (List.mem_cons_of_mem _ (List.mem_cons_of_mem _ List.mem_cons_self))), (List.forall_mem_cons.mpr ⟨Or.inr rfl, (fun _ h => nomatch h)⟩)⟩)⟩)⟩)⟩)⟩)) h
  · obtain ⟨f, h⟩ := h2 hc
    refine ⟨f + 3, ?_⟩
    rw [key, if_neg hc]
    exact h
set_option maxRecDepth 100000 in
set_option maxHeartbeats 4000000 in
theorem bk_361_109 {b : Bool} {d : Nat} {x2 x3 x7 x8 : Int32} {x5 : Int64} {e : Nat → x_E} {g : Nat → Int32} {q : Nat → Int64} {c : Nat → Nat → Int32} {l : Nat → Nat → Int64} {R : Option Value × List x_E} (hz0 : ¬ (x8 < 0 ∨ 2000 ≤ (x8).toNatClampNeg)) (h1 : xCn .ne ((c 76 (x8).toNatClampNeg)) ((Int8.ofInt (100)).toInt32) = true → rr b e d 361 130 [(0, .ref 49), (2, .int x2), (3, .int x3), (5, .long x5), (7, .int x7), (8, .int x8)] [] g q c l R) (h2 : ¬ xCn .ne ((c 76 (x8).toNatClampNeg)) ((Int8.ofInt (100)).toInt32) = true → rr b e d 361 121 [(0, .ref 49), (2, .int x2), (3, .int x3), (5, .long x5), (7, .int x7), (8, .int x8)] [] g q c l R) : rr b e d 361 109 [(0, .ref 49), (2, .int x2), (3, .int x3), (5, .long x5), (7, .int x7), (8, .int x8)] [] g q c l R := by
  have key : ∀ f, nrun xZ (xY (xfm b)) xDT (f + 6) d 361 109 [(0, .ref 49), (2, .int x2), (3, .int x3), (5, .long x5), (7, .int x7), (8, .int x8)] [] (rH e g q c l) 0 0 = nrun xZ (xY (xfm b)) xDT f d 361 (if xCn .ne ((c 76 (x8).toNatClampNeg)) ((Int8.ofInt (100)).toInt32) = true then 130 else 121) [(0, .ref 49), (2, .int x2), (3, .int x3), (5, .long x5), (7, .int x7), (8, .int x8)] [] (rH e g q c l) 0 0 := by
    intro f
    obtain ⟨y, cb, hj⟩ := mq_361
    rw [n_step (st' := [.ref 49]) (pc' := 110) (lv' := [(0, .ref 49), (2, .int x2), (3, .int x3), (5, .long x5), (7, .int x7), (8, .int x8)]) (hp' := rH e g q c l) (i := .aload_n 0) (len := 1) rfl hj rfl rfl rfl]
    rw [n_get (st' := [.ref 76]) (pc' := 113) (lv' := [(0, .ref 49), (2, .int x2), (3, .int x3), (5, .long x5), (7, .int x7), (8, .int x8)]) (hp' := rH e g q c l) (i := .getfield 96) (len := 3) rfl hj rfl rfl rfl rfl]
    rw [n_step (st' := [.int x8, .ref 76]) (pc' := 115) (lv' := [(0, .ref 49), (2, .int x2), (3, .int x3), (5, .long x5), (7, .int x7), (8, .int x8)]) (hp' := rH e g q c l) (i := .iload 8) (len := 2) rfl hj rfl rfl rfl]
    rw [n_ial (st' := [.int (c 76 (x8).toNatClampNeg)]) rfl hj (ald_76 hz0)]
    rw [n_step (st' := [.int (Int8.ofInt (100)).toInt32, .int (c 76 (x8).toNatClampNeg)]) (pc' := 118) (lv' := [(0, .ref 49), (2, .int x2), (3, .int x3), (5, .long x5), (7, .int x7), (8, .int x8)]) (hp' := rH e g q c l) (i := .bipush 100) (len := 2) rfl hj rfl rfl rfl]
    rw [n_step (st' := []) (pc' := (if xCn .ne ((c 76 (x8).toNatClampNeg)) ((Int8.ofInt (100)).toInt32) = true then 130 else 121)) (lv' := [(0, .ref 49), (2, .int x2), (3, .int x3), (5, .long x5), (7, .int x7), (8, .int x8)]) (hp' := rH e g q c l) (i := .if_icmp .ne 12) (len := 3) rfl hj rfl rfl rfl]
  by_cases hc : xCn .ne ((c 76 (x8).toNatClampNeg)) ((Int8.ofInt (100)).toInt32) = true
  · obtain ⟨f, h⟩ := h1 hc
    refine ⟨f + 6, ?_⟩
    rw [key, if_pos hc]
    exact h
  · obtain ⟨f, h⟩ := h2 hc
    refine ⟨f + 6, ?_⟩
    rw [key, if_neg hc]
    exact h
set_option maxRecDepth 100000 in
set_option maxHeartbeats 4000000 in
theorem bk_361_121 {b : Bool} {d : Nat} {x2 x3 x7 x8 : Int32} {x5 : Int64} {e : Nat → x_E} {g : Nat → Int32} {q : Nat → Int64} {c : Nat → Nat → Int32} {l : Nat → Nat → Int64} {R : Option Value × List x_E} (h : rr b e d 361 154 [(0, .ref 49), (2, .int x2), (3, .int x3), (5, .long x5), (7, .int (x7 + (Int32.ofInt (1)))), (8, .int x8)] [] g q c l R) : rr b e d 361 121 [(0, .ref 49), (2, .int x2), (3, .int x3), (5, .long x5), (7, .int x7), (8, .int x8)] [] g q c l R := by
  obtain ⟨f, h⟩ := h
  refine ⟨f + 5, ?_⟩
  obtain ⟨y, cb, hj⟩ := mq_361
  rw [n_step (st' := [.int x7]) (pc' := 123) (lv' := [(0, .ref 49), (2, .int x2), (3, .int x3), (5, .long x5), (7, .int x7), (8, .int x8)]) (hp' := rH e g q c l) (i := .iload 7) (len := 2) rfl hj rfl rfl rfl]
  rw [n_step (st' := [.int (Int32.ofInt (1)), .int x7]) (pc' := 124) (lv' := [(0, .ref 49), (2, .int x2), (3, .int x3), (5, .long x5), (7, .int x7), (8, .int x8)]) (hp' := rH e g q c l) (i := .iconst 1) (len := 1) rfl hj rfl rfl rfl]
  rw [n_step (st' := [.int (x7 + (Int32.ofInt (1)))]) (pc' := 125) (lv' := [(0, .ref 49), (2, .int x2), (3, .int x3), (5, .long x5), (7, .int x7), (8, .int x8)]) (hp' := rH e g q c l) (i := .iadd) (len := 1) rfl hj rfl rfl rfl]
  rw [n_step (st' := []) (pc' := 127) (lv' := [(7, .int (x7 + (Int32.ofInt (1)))), (0, .ref 49), (2, .int x2), (3, .int x3), (5, .long x5), (8, .int x8)]) (hp' := rH e g q c l) (i := .istore 7) (len := 2) rfl hj rfl rfl rfl]
  rw [n_step (st' := []) (pc' := 154) (lv' := [(7, .int (x7 + (Int32.ofInt (1)))), (0, .ref 49), (2, .int x2), (3, .int x3), (5, .long x5), (8, .int x8)]) (hp' := rH e g q c l) (i := .goto 27) (len := 3) rfl hj rfl rfl rfl]
  exact nrun_ext f f _ _ R 361 154 [(0, .ref 49), (2, .int x2), (3, .int x3), (5, .long x5), (7, .int (x7 + (Int32.ofInt (1)))), (8, .int x8)] [(7, .int (x7 + (Int32.ofInt (1)))), (0, .ref 49), (2, .int x2), (3, .int x3), (5, .long x5), (8, .int x8)] [] _ 0 0 122 (Nat.le_refl _) (Nat.le_refl _) (Nat.le_of_ble_eq_true rfl) (lvR_mk [0, 2, 3, 5, 7, 8] [7, 0, 2, 3, 5, 8] rfl rfl (by decide) (by decide) (List.forall_mem_cons.mpr ⟨(List.mem_cons_of_mem _ List.mem_cons_self), (List.forall_mem_cons.mpr ⟨(List.mem_cons_of_mem _ (List.mem_cons_of_mem _ List.mem_cons_self)), (List.forall_mem_cons.mpr ⟨(List.mem_cons_of_mem _ (List.mem_cons_of_mem _ (List.mem_cons_of_mem _ List.mem_cons_self))), (List.forall_mem_cons.mpr ⟨(List.mem_cons_of_mem _ (List.mem_cons_of_mem _ (List.mem_cons_of_mem _ (List.mem_cons_of_mem _ List.mem_cons_self)))), (List.forall_mem_cons.mpr ⟨List.mem_cons_self, (List.forall_mem_cons.mpr ⟨(List.mem_cons_of_mem _ (List.mem_cons_of_mem _ (List.mem_cons_of_mem _ (List.mem_cons_of_mem _ (List.mem_cons_of_mem _ List.mem_cons_self))))), (fun _ h => nomatch h)⟩)⟩)⟩)⟩)⟩)⟩) (List.forall_mem_cons.mpr ⟨Or.inl (List.mem_cons_of_mem _ (List.mem_cons_of_mem _ (List.mem_cons_of_mem _ (List.mem_cons_of_mem _ List.mem_cons_self)))), (List.forall_mem_cons.mpr ⟨Or.inl List.mem_cons_self, (List.forall_mem_cons.mpr ⟨Or.inl (List.mem_cons_of_mem _ List.mem_cons_self), (List.forall_mem_cons.mpr ⟨Or.inl (List.mem_cons_of_mem _ (List.mem_cons_of_mem _ List.mem_cons_self)), (List.forall_mem_cons.mpr ⟨Or.inl (List.mem_cons_of_mem _ (List.mem_cons_of_mem _ (List.mem_cons_of_mem _ List.mem_cons_self))), (List.forall_mem_cons.mpr ⟨Or.inl (List.mem_cons_of_mem _ (List.mem_cons_of_mem _ (List.mem_cons_of_mem _ (List.mem_cons_of_mem _ (List.mem_cons_of_mem _ List.mem_cons_self))))), (fun _ h => nomatch h)⟩)⟩)⟩)⟩)⟩)⟩)) h
set_option maxRecDepth 100000 in
set_option maxHeartbeats 4000000 in
theorem bk_361_130 {b : Bool} {d : Nat} {x2 x3 x7 x8 : Int32} {x5 : Int64} {e : Nat → x_E} {g : Nat → Int32} {q : Nat → Int64} {c : Nat → Nat → Int32} {l : Nat → Nat → Int64} {R : Option Value × List x_E} (hz0 : ¬ (x8 < 0 ∨ 2000 ≤ (x8).toNatClampNeg)) (h1 : xCn .lt ((c 76 (x8).toNatClampNeg)) 0 = true → rr b e d 361 154 [(0, .ref 49), (2, .int x2), (3, .int x3), (5, .long x5), (7, .int x7), (8, .int x8)] [] g q c l R) (h2 : ¬ xCn .lt ((c 76 (x8).toNatClampNeg)) 0 = true → rr b e d 361 140 [(0, .ref 49), (2, .int x2), (3, .int x3), (5, .long x5), (7, .int x7), (8, .int x8)] [] g q c l R) : rr b e d 361 130 [(0, .ref 49), (2, .int x2), (3, .int x3), (5, .long x5), (7, .int x7), (8, .int x8)] [] g q c l R := by
  have key : ∀ f, nrun xZ (xY (xfm b)) xDT (f + 5) d 361 130 [(0, .ref 49), (2, .int x2), (3, .int x3), (5, .long x5), (7, .int x7), (8, .int x8)] [] (rH e g q c l) 0 0 = nrun xZ (xY (xfm b)) xDT f d 361 (if xCn .lt ((c 76 (x8).toNatClampNeg)) 0 = true then 154 else 140) [(0, .ref 49), (2, .int x2), (3, .int x3), (5, .long x5), (7, .int x7), (8, .int x8)] [] (rH e g q c l) 0 0 := by
    intro f
    obtain ⟨y, cb, hj⟩ := mq_361
    rw [n_step (st' := [.ref 49]) (pc' := 131) (lv' := [(0, .ref 49), (2, .int x2), (3, .int x3), (5, .long x5), (7, .int x7), (8, .int x8)]) (hp' := rH e g q c l) (i := .aload_n 0) (len := 1) rfl hj rfl rfl rfl]
    rw [n_get (st' := [.ref 76]) (pc' := 134) (lv' := [(0, .ref 49), (2, .int x2), (3, .int x3), (5, .long x5), (7, .int x7), (8, .int x8)]) (hp' := rH e g q c l) (i := .getfield 96) (len := 3) rfl hj rfl rfl rfl rfl]
    rw [n_step (st' := [.int x8, .ref 76]) (pc' := 136) (lv' := [(0, .ref 49), (2, .int x2), (3, .int x3), (5, .long x5), (7, .int x7), (8, .int x8)]) (hp' := rH e g q c l) (i := .iload 8) (len := 2) rfl hj rfl rfl rfl]
    rw [n_ial (st' := [.int (c 76 (x8).toNatClampNeg)]) rfl hj (ald_76 hz0)]
    rw [n_step (st' := []) (pc' := (if xCn .lt ((c 76 (x8).toNatClampNeg)) 0 = true then 154 else 140)) (lv' := [(0, .ref 49), (2, .int x2), (3, .int x3), (5, .long x5), (7, .int x7), (8, .int x8)]) (hp' := rH e g q c l) (i := .ifCond .lt 17) (len := 3) rfl hj rfl rfl rfl]
  by_cases hc : xCn .lt ((c 76 (x8).toNatClampNeg)) 0 = true
  · obtain ⟨f, h⟩ := h1 hc
    refine ⟨f + 5, ?_⟩
    rw [key, if_pos hc]
    exact h
  · obtain ⟨f, h⟩ := h2 hc
    refine ⟨f + 5, ?_⟩
    rw [key, if_neg hc]
    exact h
set_option maxRecDepth 100000 in
set_option maxHeartbeats 4000000 in
theorem bk_361_140 {b : Bool} {d : Nat} {x2 x3 x7 x8 : Int32} {x5 : Int64} {e : Nat → x_E} {g : Nat → Int32} {q : Nat → Int64} {c : Nat → Nat → Int32} {l : Nat → Nat → Int64} {R : Option Value × List x_E} (hz0 : ¬ (x8 < 0 ∨ 2000 ≤ (x8).toNatClampNeg)) (h : rr b e d 361 154 [(0, .ref 49), (2, .int x2), (3, .int x3), (5, .long (x5 ||| ((Int64.ofNat 1) <<< (((c 76 (x8).toNatClampNeg)).toInt64 &&& 63)))), (7, .int x7), (8, .int x8)] [] g q c l R) : rr b e d 361 140 [(0, .ref 49), (2, .int x2), (3, .int x3), (5, .long x5), (7, .int x7), (8, .int x8)] [] g q c l R := by
  obtain ⟨f, h⟩ := h
  refine ⟨f + 9, ?_⟩
  obtain ⟨y, cb, hj⟩ := mq_361
  rw [n_step (st' := [.long x5]) (pc' := 142) (lv' := [(0, .ref 49), (2, .int x2), (3, .int x3), (5, .long x5), (7, .int x7), (8, .int x8)]) (hp' := rH e g q c l) (i := .lload 5) (len := 2) rfl hj rfl rfl rfl]
  rw [n_step (st' := [.long (Int64.ofNat 1), .long x5]) (pc' := 143) (lv' := [(0, .ref 49), (2, .int x2), (3, .int x3), (5, .long x5), (7, .int x7), (8, .int x8)]) (hp' := rH e g q c l) (i := .lconst 1) (len := 1) rfl hj rfl rfl rfl]
  rw [n_step (st' := [.ref 49, .long (Int64.ofNat 1), .long x5]) (pc' := 144) (lv' := [(0, .ref 49), (2, .int x2), (3, .int x3), (5, .long x5), (7, .int x7), (8, .int x8)]) (hp' := rH e g q c l) (i := .aload_n 0) (len := 1) rfl hj rfl rfl rfl]
  rw [n_get (st' := [.ref 76, .long (Int64.ofNat 1), .long x5]) (pc' := 147) (lv' := [(0, .ref 49), (2, .int x2), (3, .int x3), (5, .long x5), (7, .int x7), (8, .int x8)]) (hp' := rH e g q c l) (i := .getfield 96) (len := 3) rfl hj rfl rfl rfl rfl]
  rw [n_step (st' := [.int x8, .ref 76, .long (Int64.ofNat 1), .long x5]) (pc' := 149) (lv' := [(0, .ref 49), (2, .int x2), (3, .int x3), (5, .long x5), (7, .int x7), (8, .int x8)]) (hp' := rH e g q c l) (i := .iload 8) (len := 2) rfl hj rfl rfl rfl]
  rw [n_ial (st' := [.int (c 76 (x8).toNatClampNeg), .long (Int64.ofNat 1), .long x5]) rfl hj (ald_76 hz0)]
  rw [n_step (st' := [.long ((Int64.ofNat 1) <<< (((c 76 (x8).toNatClampNeg)).toInt64 &&& 63)), .long x5]) (pc' := 151) (lv' := [(0, .ref 49), (2, .int x2), (3, .int x3), (5, .long x5), (7, .int x7), (8, .int x8)]) (hp' := rH e g q c l) (i := .lshl) (len := 1) rfl hj rfl rfl rfl]
  rw [n_step (st' := [.long (x5 ||| ((Int64.ofNat 1) <<< (((c 76 (x8).toNatClampNeg)).toInt64 &&& 63)))]) (pc' := 152) (lv' := [(0, .ref 49), (2, .int x2), (3, .int x3), (5, .long x5), (7, .int x7), (8, .int x8)]) (hp' := rH e g q c l) (i := .lor) (len := 1) rfl hj rfl rfl rfl]
  rw [n_step (st' := []) (pc' := 154) (lv' := [(5, .long (x5 ||| ((Int64.ofNat 1) <<< (((c 76 (x8).toNatClampNeg)).toInt64 &&& 63)))), (0, .ref 49), (2, .int x2), (3, .int x3), (7, .int x7), (8, .int x8)]) (hp' := rH e g q c l) (i := .lstore 5) (len := 2) rfl hj rfl rfl rfl]
  exact nrun_ext f f _ _ R 361 154 [(0, .ref 49), (2, .int x2), (3, .int x3), (5, .long (x5 ||| ((Int64.ofNat 1) <<< (((c 76 (x8).toNatClampNeg)).toInt64 &&& 63)))), (7, .int x7), (8, .int x8)] [(5, .long (x5 ||| ((Int64.ofNat 1) <<< (((c 76 (x8).toNatClampNeg)).toInt64 &&& 63)))), (0, .ref 49), (2, .int x2), (3, .int x3), (7, .int x7), (8, .int x8)] [] _ 0 0 122 (Nat.le_refl _) (Nat.le_refl _) (Nat.le_of_ble_eq_true rfl) (lvR_mk [0, 2, 3, 5, 7, 8] [5, 0, 2, 3, 7, 8] rfl rfl (by decide) (by decide) (List.forall_mem_cons.mpr ⟨(List.mem_cons_of_mem _ List.mem_cons_self), (List.forall_mem_cons.mpr ⟨(List.mem_cons_of_mem _ (List.mem_cons_of_mem _ List.mem_cons_self)), (List.forall_mem_cons.mpr ⟨(List.mem_cons_of_mem _ (List.mem_cons_of_mem _ (List.mem_cons_of_mem _ List.mem_cons_self))), (List.forall_mem_cons.mpr ⟨List.mem_cons_self, (List.forall_mem_cons.mpr ⟨(List.mem_cons_of_mem _ (List.mem_cons_of_mem _ (List.mem_cons_of_mem _ (List.mem_cons_of_mem _ List.mem_cons_self)))), (List.forall_mem_cons.mpr ⟨(List.mem_cons_of_mem _ (List.mem_cons_of_mem _ (List.mem_cons_of_mem _ (List.mem_cons_of_mem _ (List.mem_cons_of_mem _ List.mem_cons_self))))), (fun _ h => nomatch h)⟩)⟩)⟩)⟩)⟩)⟩) (List.forall_mem_cons.mpr ⟨Or.inl (List.mem_cons_of_mem _ (List.mem_cons_of_mem _ (List.mem_cons_of_mem _ List.mem_cons_self))), (List.forall_mem_cons.mpr ⟨Or.inl List.mem_cons_self, (List.forall_mem_cons.mpr ⟨Or.inl (List.mem_cons_of_mem _ List.mem_cons_self), (List.forall_mem_cons.mpr ⟨Or.inl (List.mem_cons_of_mem _ (List.mem_cons_of_mem _ List.mem_cons_self)), (List.forall_mem_cons.mpr ⟨Or.inl (List.mem_cons_of_mem _ (List.mem_cons_of_mem _ (List.mem_cons_of_mem _ (List.mem_cons_of_mem _ List.mem_cons_self)))), (List.forall_mem_cons.mpr ⟨Or.inl (List.mem_cons_of_mem _ (List.mem_cons_of_mem _ (List.mem_cons_of_mem _ (List.mem_cons_of_mem _ (List.mem_cons_of_mem _ List.mem_cons_self))))), (fun _ h => nomatch h)⟩)⟩)⟩)⟩)⟩)⟩)) h
set_option maxRecDepth 100000 in
set_option maxHeartbeats 4000000 in
theorem bk_361_154 {b : Bool} {d : Nat} {x2 x3 x7 x8 : Int32} {x5 : Int64} {e : Nat → x_E} {g : Nat → Int32} {q : Nat → Int64} {c : Nat → Nat → Int32} {l : Nat → Nat → Int64} {R : Option Value × List x_E} (h : rr b e d 361 103 [(0, .ref 49), (2, .int x2), (3, .int x3), (5, .long x5), (7, .int x7), (8, .int (x8 + Int32.ofInt (1)))] [] g q c l R) : rr b e d 361 154 [(0, .ref 49), (2, .int x2), (3, .int x3), (5, .long x5), (7, .int x7), (8, .int x8)] [] g q c l R := by
  obtain ⟨f, h⟩ := h
  refine ⟨f + 2, ?_⟩
  obtain ⟨y, cb, hj⟩ := mq_361
  rw [n_step (st' := []) (pc' := 157) (lv' := [(8, .int (x8 + Int32.ofInt (1))), (0, .ref 49), (2, .int x2), (3, .int x3), (5, .long x5), (7, .int x7)]) (hp' := rH e g q c l) (i := .iinc 8 1) (len := 3) rfl hj rfl rfl rfl]
  rw [n_step (st' := []) (pc' := 103) (lv' := [(8, .int (x8 + Int32.ofInt (1))), (0, .ref 49), (2, .int x2), (3, .int x3), (5, .long x5), (7, .int x7)]) (hp' := rH e g q c l) (i := .goto (-54)) (len := 3) rfl hj rfl rfl rfl]
  exact nrun_ext f f _ _ R 361 103 [(0, .ref 49), (2, .int x2), (3, .int x3), (5, .long x5), (7, .int x7), (8, .int (x8 + Int32.ofInt (1)))] [(8, .int (x8 + Int32.ofInt (1))), (0, .ref 49), (2, .int x2), (3, .int x3), (5, .long x5), (7, .int x7)] [] _ 0 0 122 (Nat.le_refl _) (Nat.le_refl _) (Nat.le_of_ble_eq_true rfl) (lvR_mk [0, 2, 3, 5, 7, 8] [8, 0, 2, 3, 5, 7] rfl rfl (by decide) (by decide) (List.forall_mem_cons.mpr ⟨(List.mem_cons_of_mem _ List.mem_cons_self), (List.forall_mem_cons.mpr ⟨(List.mem_cons_of_mem _ (List.mem_cons_of_mem _ List.mem_cons_self)), (List.forall_mem_cons.mpr ⟨(List.mem_cons_of_mem _ (List.mem_cons_of_mem _ (List.mem_cons_of_mem _ List.mem_cons_self))), (List.forall_mem_cons.mpr ⟨(List.mem_cons_of_mem _ (List.mem_cons_of_mem _ (List.mem_cons_of_mem _ (List.mem_cons_of_mem _ List.mem_cons_self)))), (List.forall_mem_cons.mpr ⟨(List.mem_cons_of_mem _ (List.mem_cons_of_mem _ (List.mem_cons_of_mem _ (List.mem_cons_of_mem _ (List.mem_cons_of_mem _ List.mem_cons_self))))), (List.forall_mem_cons.mpr ⟨List.mem_cons_self, (fun _ h => nomatch h)⟩)⟩)⟩)⟩)⟩)⟩) (List.forall_mem_cons.mpr ⟨Or.inl (List.mem_cons_of_mem _ (List.mem_cons_of_mem _ (List.mem_cons_of_mem _ (List.mem_cons_of_mem _ (List.mem_cons_of_mem _ List.mem_cons_self))))), (List.forall_mem_cons.mpr ⟨Or.inl List.mem_cons_self, (List.forall_mem_cons.mpr ⟨Or.inl (List.mem_cons_of_mem _ List.mem_cons_self), (List.forall_mem_cons.mpr ⟨Or.inl (List.mem_cons_of_mem _ (List.mem_cons_of_mem _ List.mem_cons_self)), (List.forall_mem_cons.mpr ⟨Or.inl (List.mem_cons_of_mem _ (List.mem_cons_of_mem _ (List.mem_cons_of_mem _ List.mem_cons_self))), (List.forall_mem_cons.mpr ⟨Or.inl (List.mem_cons_of_mem _ (List.mem_cons_of_mem _ (List.mem_cons_of_mem _ (List.mem_cons_of_mem _ List.mem_cons_self)))), (fun _ h => nomatch h)⟩)⟩)⟩)⟩)⟩)⟩)) h
set_option maxRecDepth 100000 in
set_option maxHeartbeats 4000000 in
theorem bk_361_160 {b : Bool} {d : Nat} {x2 x7 : Int32} {x5 : Int64} {e : Nat → x_E} {g : Nat → Int32} {q : Nat → Int64} {c : Nat → Nat → Int32} {l : Nat → Nat → Int64} {R : Option Value × List x_E} (h : rr b e d 361 163 [(0, .ref 49), (2, .int x2), (5, .long x5), (7, .int x7), (8, .int (Int32.ofInt (0)))] [] g q c l R) : rr b e d 361 160 [(0, .ref 49), (2, .int x2), (5, .long x5), (7, .int x7)] [] g q c l R := by
  obtain ⟨f, h⟩ := h
  refine ⟨f + 2, ?_⟩
  obtain ⟨y, cb, hj⟩ := mq_361
  rw [n_step (st' := [.int (Int32.ofInt (0))]) (pc' := 161) (lv' := [(0, .ref 49), (2, .int x2), (5, .long x5), (7, .int x7)]) (hp' := rH e g q c l) (i := .iconst 0) (len := 1) rfl hj rfl rfl rfl]
  rw [n_step (st' := []) (pc' := 163) (lv' := [(8, .int (Int32.ofInt (0))), (0, .ref 49), (2, .int x2), (5, .long x5), (7, .int x7)]) (hp' := rH e g q c l) (i := .istore 8) (len := 2) rfl hj rfl rfl rfl]
  exact nrun_ext f f _ _ R 361 163 [(0, .ref 49), (2, .int x2), (5, .long x5), (7, .int x7), (8, .int (Int32.ofInt (0)))] [(8, .int (Int32.ofInt (0))), (0, .ref 49), (2, .int x2), (5, .long x5), (7, .int x7)] [] _ 0 0 122 (Nat.le_refl _) (Nat.le_refl _) (Nat.le_of_ble_eq_true rfl) (lvR_mk [0, 2, 5, 7, 8] [8, 0, 2, 5, 7] rfl rfl (by decide) (by decide) (List.forall_mem_cons.mpr ⟨(List.mem_cons_of_mem _ List.mem_cons_self), (List.forall_mem_cons.mpr ⟨(List.mem_cons_of_mem _ (List.mem_cons_of_mem _ List.mem_cons_self)), (List.forall_mem_cons.mpr ⟨(List.mem_cons_of_mem _ (List.mem_cons_of_mem _ (List.mem_cons_of_mem _ List.mem_cons_self))), (List.forall_mem_cons.mpr ⟨(List.mem_cons_of_mem _ (List.mem_cons_of_mem _ (List.mem_cons_of_mem _ (List.mem_cons_of_mem _ List.mem_cons_self)))), (List.forall_mem_cons.mpr ⟨List.mem_cons_self, (fun _ h => nomatch h)⟩)⟩)⟩)⟩)⟩) (List.forall_mem_cons.mpr ⟨Or.inl (List.mem_cons_of_mem _ (List.mem_cons_of_mem _ (List.mem_cons_of_mem _ (List.mem_cons_of_mem _ List.mem_cons_self)))), (List.forall_mem_cons.mpr ⟨Or.inl List.mem_cons_self, (List.forall_mem_cons.mpr ⟨Or.inl (List.mem_cons_of_mem _ List.mem_cons_self), (List.forall_mem_cons.mpr ⟨Or.inl (List.mem_cons_of_mem _ (List.mem_cons_of_mem _ List.mem_cons_self)), (List.forall_mem_cons.mpr ⟨Or.inl (List.mem_cons_of_mem _ (List.mem_cons_of_mem _ (List.mem_cons_of_mem _ List.mem_cons_self))), (fun _ h => nomatch h)⟩)⟩)⟩)⟩)⟩)) h
set_option maxRecDepth 100000 in
set_option maxHeartbeats 4000000 in
theorem bk_361_163 {b : Bool} {d : Nat} {x2 x7 x8 : Int32} {x5 : Int64} {e : Nat → x_E} {g : Nat → Int32} {q : Nat → Int64} {c : Nat → Nat → Int32} {l : Nat → Nat → Int64} {R : Option Value × List x_E} (h1 : xCn .ge x8 ((Int8.ofInt (64)).toInt32) = true → rr b e d 361 189 [(0, .ref 49), (2, .int x2), (7, .int x7)] [] g q c l R) (h2 : ¬ xCn .ge x8 ((Int8.ofInt (64)).toInt32) = true → rr b e d 361 170 [(0, .ref 49), (2, .int x2), (5, .long x5), (7, .int x7), (8, .int x8)] [] g q c l R) : rr b e d 361 163 [(0, .ref 49), (2, .int x2), (5, .long x5), (7, .int x7), (8, .int x8)] [] g q c l R := by
  have key : ∀ f, nrun xZ (xY (xfm b)) xDT (f + 3) d 361 163 [(0, .ref 49), (2, .int x2), (5, .long x5), (7, .int x7), (8, .int x8)] [] (rH e g q c l) 0 0 = nrun xZ (xY (xfm b)) xDT f d 361 (if xCn .ge x8 ((Int8.ofInt (64)).toInt32) = true then 189 else 170) [(0, .ref 49), (2, .int x2), (5, .long x5), (7, .int x7), (8, .int x8)] [] (rH e g q c l) 0 0 := by
    intro f
    obtain ⟨y, cb, hj⟩ := mq_361
    rw [n_step (st' := [.int x8]) (pc' := 165) (lv' := [(0, .ref 49), (2, .int x2), (5, .long x5), (7, .int x7), (8, .int x8)]) (hp' := rH e g q c l) (i := .iload 8) (len := 2) rfl hj rfl rfl rfl]
    rw [n_step (st' := [.int (Int8.ofInt (64)).toInt32, .int x8]) (pc' := 167) (lv' := [(0, .ref 49), (2, .int x2), (5, .long x5), (7, .int x7), (8, .int x8)]) (hp' := rH e g q c l) (i := .bipush 64) (len := 2) rfl hj rfl rfl rfl]
    rw [n_step (st' := []) (pc' := (if xCn .ge x8 ((Int8.ofInt (64)).toInt32) = true then 189 else 170)) (lv' := [(0, .ref 49), (2, .int x2), (5, .long x5), (7, .int x7), (8, .int x8)]) (hp' := rH e g q c l) (i := .if_icmp .ge 22) (len := 3) rfl hj rfl rfl rfl]
  by_cases hc : xCn .ge x8 ((Int8.ofInt (64)).toInt32) = true
  · obtain ⟨f, h⟩ := h1 hc
    refine ⟨f + 3, ?_⟩
    rw [key, if_pos hc]
    exact nrun_ext f f _ _ R 361 189 [(0, .ref 49), (2, .int x2), (7, .int x7)] [(0, .ref 49), (2, .int x2), (5, .long x5), (7, .int x7), (8, .int x8)] [] _ 0 0 122 (Nat.le_refl _) (Nat.le_refl _) (Nat.le_of_ble_eq_true rfl) (lvR_mk [0, 2, 7] [0, 2, 5, 7, 8] rfl rfl (by decide) (by decide) (List.forall_mem_cons.mpr ⟨List.mem_cons_self, (List.forall_mem_cons.mpr ⟨(List.mem_cons_of_mem _ List.mem_cons_self), (List.forall_mem_cons.mpr ⟨(List.mem_cons_of_mem _ (List.mem_cons_of_mem _ (List.mem_cons_of_mem _ List.mem_cons_self))), (fun _ h => nomatch h)⟩)⟩)⟩) (List.forall_mem_cons.mpr ⟨Or.inl List.mem_cons_self, (List.forall_mem_cons.mpr ⟨Or.inl (List.mem_cons_of_mem _ List.mem_cons_self), (List.forall_mem_cons.mpr ⟨Or.inr rfl, (List.forall_mem_cons.mpr ⟨Or.inl (List.mem_cons_of_mem _ (List.mem_cons_of_mem _ List.mem_cons_self)), (List.forall_mem_cons.mpr ⟨Or.inr rfl, (fun _ h => nomatch h)⟩)⟩)⟩)⟩)⟩)) h
  · obtain ⟨f, h⟩ := h2 hc
    refine ⟨f + 3, ?_⟩
    rw [key, if_neg hc]
    exact h
set_option maxRecDepth 100000 in
set_option maxHeartbeats 4000000 in
theorem bk_361_170 {b : Bool} {d : Nat} {x2 x7 x8 : Int32} {x5 : Int64} {e : Nat → x_E} {g : Nat → Int32} {q : Nat → Int64} {c : Nat → Nat → Int32} {l : Nat → Nat → Int64} {R : Option Value × List x_E} (h : rr b e d 361 163 [(0, .ref 49), (2, .int x2), (5, .long x5), (7, .int (x7 + (Int64.toInt32 (((x5 >>> ((x8).toInt64 &&& 63)) &&& (Int64.ofNat 1)))))), (8, .int (x8 + Int32.ofInt (1)))] [] g q c l R) : rr b e d 361 170 [(0, .ref 49), (2, .int x2), (5, .long x5), (7, .int x7), (8, .int x8)] [] g q c l R := by
  obtain ⟨f, h⟩ := h
  refine ⟨f + 11, ?_⟩
  obtain ⟨y, cb, hj⟩ := mq_361
  rw [n_step (st' := [.int x7]) (pc' := 172) (lv' := [(0, .ref 49), (2, .int x2), (5, .long x5), (7, .int x7), (8, .int x8)]) (hp' := rH e g q c l) (i := .iload 7) (len := 2) rfl hj rfl rfl rfl]
  rw [n_step (st' := [.long x5, .int x7]) (pc' := 174) (lv' := [(0, .ref 49), (2, .int x2), (5, .long x5), (7, .int x7), (8, .int x8)]) (hp' := rH e g q c l) (i := .lload 5) (len := 2) rfl hj rfl rfl rfl]
  rw [n_step (st' := [.int x8, .long x5, .int x7]) (pc' := 176) (lv' := [(0, .ref 49), (2, .int x2), (5, .long x5), (7, .int x7), (8, .int x8)]) (hp' := rH e g q c l) (i := .iload 8) (len := 2) rfl hj rfl rfl rfl]
  rw [n_step (st' := [.long (x5 >>> ((x8).toInt64 &&& 63)), .int x7]) (pc' := 177) (lv' := [(0, .ref 49), (2, .int x2), (5, .long x5), (7, .int x7), (8, .int x8)]) (hp' := rH e g q c l) (i := .lshr) (len := 1) rfl hj rfl rfl rfl]
  rw [n_step (st' := [.long (Int64.ofNat 1), .long (x5 >>> ((x8).toInt64 &&& 63)), .int x7]) (pc' := 178) (lv' := [(0, .ref 49), (2, .int x2), (5, .long x5), (7, .int x7), (8, .int x8)]) (hp' := rH e g q c l) (i := .lconst 1) (len := 1) rfl hj rfl rfl rfl]
  rw [n_step (st' := [.long ((x5 >>> ((x8).toInt64 &&& 63)) &&& (Int64.ofNat 1)), .int x7]) (pc' := 179) (lv' := [(0, .ref 49), (2, .int x2), (5, .long x5), (7, .int x7), (8, .int x8)]) (hp' := rH e g q c l) (i := .land) (len := 1) rfl hj rfl rfl rfl]
  rw [n_step (st' := [.int (Int64.toInt32 (((x5 >>> ((x8).toInt64 &&& 63)) &&& (Int64.ofNat 1)))), .int x7]) (pc' := 180) (lv' := [(0, .ref 49), (2, .int x2), (5, .long x5), (7, .int x7), (8, .int x8)]) (hp' := rH e g q c l) (i := .l2i) (len := 1) rfl hj rfl rfl rfl]
  rw [n_step (st' := [.int (x7 + (Int64.toInt32 (((x5 >>> ((x8).toInt64 &&& 63)) &&& (Int64.ofNat 1)))))]) (pc' := 181) (lv' := [(0, .ref 49), (2, .int x2), (5, .long x5), (7, .int x7), (8, .int x8)]) (hp' := rH e g q c l) (i := .iadd) (len := 1) rfl hj rfl rfl rfl]
  rw [n_step (st' := []) (pc' := 183) (lv' := [(7, .int (x7 + (Int64.toInt32 (((x5 >>> ((x8).toInt64 &&& 63)) &&& (Int64.ofNat 1)))))), (0, .ref 49), (2, .int x2), (5, .long x5), (8, .int x8)]) (hp' := rH e g q c l) (i := .istore 7) (len := 2) rfl hj rfl rfl rfl]
  rw [n_step (st' := []) (pc' := 186) (lv' := [(8, .int (x8 + Int32.ofInt (1))), (7, .int (x7 + (Int64.toInt32 (((x5 >>> ((x8).toInt64 &&& 63)) &&& (Int64.ofNat 1)))))), (0, .ref 49), (2, .int x2), (5, .long x5)]) (hp' := rH e g q c l) (i := .iinc 8 1) (len := 3) rfl hj rfl rfl rfl]
  rw [n_step (st' := []) (pc' := 163) (lv' := [(8, .int (x8 + Int32.ofInt (1))), (7, .int (x7 + (Int64.toInt32 (((x5 >>> ((x8).toInt64 &&& 63)) &&& (Int64.ofNat 1)))))), (0, .ref 49), (2, .int x2), (5, .long x5)]) (hp' := rH e g q c l) (i := .goto (-23)) (len := 3) rfl hj rfl rfl rfl]
  exact nrun_ext f f _ _ R 361 163 [(0, .ref 49), (2, .int x2), (5, .long x5), (7, .int (x7 + (Int64.toInt32 (((x5 >>> ((x8).toInt64 &&& 63)) &&& (Int64.ofNat 1)))))), (8, .int (x8 + Int32.ofInt (1)))] [(8, .int (x8 + Int32.ofInt (1))), (7, .int (x7 + (Int64.toInt32 (((x5 >>> ((x8).toInt64 &&& 63)) &&& (Int64.ofNat 1)))))), (0, .ref 49), (2, .int x2), (5, .long x5)] [] _ 0 0 122 (Nat.le_refl _) (Nat.le_refl _) (Nat.le_of_ble_eq_true rfl) (lvR_mk [0, 2, 5, 7, 8] [8, 7, 0, 2, 5] rfl rfl (by decide) (by decide) (List.forall_mem_cons.mpr ⟨(List.mem_cons_of_mem _ (List.mem_cons_of_mem _ List.mem_cons_self)), (List.forall_mem_cons.mpr ⟨(List.mem_cons_of_mem _ (List.mem_cons_of_mem _ (List.mem_cons_of_mem _ List.mem_cons_self))), (List.forall_mem_cons.mpr ⟨(List.mem_cons_of_mem _ (List.mem_cons_of_mem _ (List.mem_cons_of_mem _ (List.mem_cons_of_mem _ List.mem_cons_self)))), (List.forall_mem_cons.mpr ⟨(List.mem_cons_of_mem _ List.mem_cons_self), (List.forall_mem_cons.mpr ⟨List.mem_cons_self, (fun _ h => nomatch h)⟩)⟩)⟩)⟩)⟩) (List.forall_mem_cons.mpr ⟨Or.inl (List.mem_cons_of_mem _ (List.mem_cons_of_mem _ (List.mem_cons_of_mem _ (List.mem_cons_of_mem _ List.mem_cons_self)))), (List.forall_mem_cons.mpr ⟨Or.inl (List.mem_cons_of_mem _ (List.mem_cons_of_mem _ (List.mem_cons_of_mem _ List.mem_cons_self))), (List.forall_mem_cons.mpr ⟨Or.inl List.mem_cons_self, (List.forall_mem_cons.mpr ⟨Or.inl (List.mem_cons_of_mem _ List.mem_cons_self), (List.forall_mem_cons.mpr ⟨Or.inl (List.mem_cons_of_mem _ (List.mem_cons_of_mem _ List.mem_cons_self)), (fun _ h => nomatch h)⟩)⟩)⟩)⟩)⟩)) h
set_option maxRecDepth 100000 in
set_option maxHeartbeats 4000000 in
theorem bk_361_189 {b : Bool} {d : Nat} {x2 x7 : Int32} {e : Nat → x_E} {g : Nat → Int32} {q : Nat → Int64} {c : Nat → Nat → Int32} {l : Nat → Nat → Int64} (hz0 : ¬ (x2 < 0 ∨ 4000 ≤ (x2).toNatClampNeg)) : rr b e d 361 189 [(0, .ref 49), (2, .int x2), (7, .int x7)] [] g q c l (none, rH e g q (updA c 64 (upd (c 64) (x2).toNatClampNeg x7)) l) := by
  refine ⟨0 + 6, ?_⟩
  obtain ⟨y, cb, hj⟩ := mq_361
  rw [n_step (st' := [.ref 49]) (pc' := 190) (lv' := [(0, .ref 49), (2, .int x2), (7, .int x7)]) (hp' := rH e g q c l) (i := .aload_n 0) (len := 1) rfl hj rfl rfl rfl]
  rw [n_get (st' := [.ref 64]) (pc' := 193) (lv' := [(0, .ref 49), (2, .int x2), (7, .int x7)]) (hp' := rH e g q c l) (i := .getfield 59) (len := 3) rfl hj rfl rfl rfl rfl]
  rw [n_step (st' := [.int x2, .ref 64]) (pc' := 194) (lv' := [(0, .ref 49), (2, .int x2), (7, .int x7)]) (hp' := rH e g q c l) (i := .iload_n 2) (len := 1) rfl hj rfl rfl rfl]
  rw [n_step (st' := [.int x7, .int x2, .ref 64]) (pc' := 196) (lv' := [(0, .ref 49), (2, .int x2), (7, .int x7)]) (hp' := rH e g q c l) (i := .iload 7) (len := 2) rfl hj rfl rfl rfl]
  rw [n_ias (st' := []) (hp' := rH e g q (updA c 64 (upd (c 64) (x2).toNatClampNeg x7)) l) rfl hj (ast_64 hz0)]
  exact n_ret rfl hj rfl rfl rfl
set_option maxRecDepth 100000 in
set_option maxHeartbeats 4000000 in
theorem bk_362_0 {b : Bool} {d : Nat} {x1 x2 x3 : Int32} {e : Nat → x_E} {g : Nat → Int32} {q : Nat → Int64} {c : Nat → Nat → Int32} {l : Nat → Nat → Int64} {R : Option Value × List x_E} (h1 : xCn .lt x1 0 = true → rr b e d 362 8 [] [] g q c l R) (h2 : ¬ xCn .lt x1 0 = true → rr b e d 362 4 [(0, .ref 49), (1, .int x1), (2, .int x2), (3, .int x3)] [] g q c l R) : rr b e d 362 0 [(0, .ref 49), (1, .int x1), (2, .int x2), (3, .int x3)] [] g q c l R := by
  have key : ∀ f, nrun xZ (xY (xfm b)) xDT (f + 2) d 362 0 [(0, .ref 49), (1, .int x1), (2, .int x2), (3, .int x3)] [] (rH e g q c l) 0 0 = nrun xZ (xY (xfm b)) xDT f d 362 (if xCn .lt x1 0 = true then 8 else 4) [(0, .ref 49), (1, .int x1), (2, .int x2), (3, .int x3)] [] (rH e g q c l) 0 0 := by
    intro f
    obtain ⟨y, cb, hj⟩ := mq_362
    rw [n_step (st' := [.int x1]) (pc' := 1) (lv' := [(0, .ref 49), (1, .int x1), (2, .int x2), (3, .int x3)]) (hp' := rH e g q c l) (i := .iload_n 1) (len := 1) rfl hj rfl rfl rfl]
    rw [n_step (st' := []) (pc' := (if xCn .lt x1 0 = true then 8 else 4)) (lv' := [(0, .ref 49), (1, .int x1), (2, .int x2), (3, .int x3)]) (hp' := rH e g q c l) (i := .ifCond .lt 7) (len := 3) rfl hj rfl rfl rfl]
  by_cases hc : xCn .lt x1 0 = true
  · obtain ⟨f, h⟩ := h1 hc
    refine ⟨f + 2, ?_⟩
    rw [key, if_pos hc]
    exact nrun_ext f f _ _ R 362 8 [] [(0, .ref 49), (1, .int x1), (2, .int x2), (3, .int x3)] [] _ 0 0 122 (Nat.le_refl _) (Nat.le_refl _) (Nat.le_of_ble_eq_true rfl) (lvR_mk [] [0, 1, 2, 3] rfl rfl (by decide) (by decide) (fun _ h => nomatch h) (List.forall_mem_cons.mpr ⟨Or.inr rfl, (List.forall_mem_cons.mpr ⟨Or.inr rfl, (List.forall_mem_cons.mpr ⟨Or.inr rfl, (List.forall_mem_cons.mpr ⟨Or.inr rfl, (fun _ h => nomatch h)⟩)⟩)⟩)⟩)) h
  · obtain ⟨f, h⟩ := h2 hc
    refine ⟨f + 2, ?_⟩
    rw [key, if_neg hc]
    exact h
set_option maxRecDepth 100000 in
set_option maxHeartbeats 4000000 in
theorem bk_362_4 {b : Bool} {d : Nat} {x1 x2 x3 : Int32} {e : Nat → x_E} {g : Nat → Int32} {q : Nat → Int64} {c : Nat → Nat → Int32} {l : Nat → Nat → Int64} {R : Option Value × List x_E} (h1 : xCn .ge x2 0 = true → rr b e d 362 10 [(0, .ref 49), (1, .int x1), (2, .int x2), (3, .int x3)] [] g q c l R) (h2 : ¬ xCn .ge x2 0 = true → rr b e d 362 8 [] [] g q c l R) : rr b e d 362 4 [(0, .ref 49), (1, .int x1), (2, .int x2), (3, .int x3)] [] g q c l R := by
  have key : ∀ f, nrun xZ (xY (xfm b)) xDT (f + 2) d 362 4 [(0, .ref 49), (1, .int x1), (2, .int x2), (3, .int x3)] [] (rH e g q c l) 0 0 = nrun xZ (xY (xfm b)) xDT f d 362 (if xCn .ge x2 0 = true then 10 else 8) [(0, .ref 49), (1, .int x1), (2, .int x2), (3, .int x3)] [] (rH e g q c l) 0 0 := by
    intro f
    obtain ⟨y, cb, hj⟩ := mq_362
    rw [n_step (st' := [.int x2]) (pc' := 5) (lv' := [(0, .ref 49), (1, .int x1), (2, .int x2), (3, .int x3)]) (hp' := rH e g q c l) (i := .iload_n 2) (len := 1) rfl hj rfl rfl rfl]
    rw [n_step (st' := []) (pc' := (if xCn .ge x2 0 = true then 10 else 8)) (lv' := [(0, .ref 49), (1, .int x1), (2, .int x2), (3, .int x3)]) (hp' := rH e g q c l) (i := .ifCond .ge 5) (len := 3) rfl hj rfl rfl rfl]
  by_cases hc : xCn .ge x2 0 = true
  · obtain ⟨f, h⟩ := h1 hc
    refine ⟨f + 2, ?_⟩
    rw [key, if_pos hc]
    exact h
  · obtain ⟨f, h⟩ := h2 hc
    refine ⟨f + 2, ?_⟩
    rw [key, if_neg hc]
    exact nrun_ext f f _ _ R 362 8 [] [(0, .ref 49), (1, .int x1), (2, .int x2), (3, .int x3)] [] _ 0 0 122 (Nat.le_refl _) (Nat.le_refl _) (Nat.le_of_ble_eq_true rfl) (lvR_mk [] [0, 1, 2, 3] rfl rfl (by decide) (by decide) (fun _ h => nomatch h) (List.forall_mem_cons.mpr ⟨Or.inr rfl, (List.forall_mem_cons.mpr ⟨Or.inr rfl, (List.forall_mem_cons.mpr ⟨Or.inr rfl, (List.forall_mem_cons.mpr ⟨Or.inr rfl, (fun _ h => nomatch h)⟩)⟩)⟩)⟩)) h
set_option maxRecDepth 100000 in
set_option maxHeartbeats 4000000 in
theorem bk_362_8 {b : Bool} {d : Nat} {e : Nat → x_E} {g : Nat → Int32} {q : Nat → Int64} {c : Nat → Nat → Int32} {l : Nat → Nat → Int64} : rr b e d 362 8 [] [] g q c l (some (.int (Int32.ofInt (-1))), rH e g q c l) := by
  refine ⟨0 + 2, ?_⟩
  obtain ⟨y, cb, hj⟩ := mq_362
  rw [n_step (st' := [.int (Int32.ofInt (-1))]) (pc' := 9) (lv' := []) (hp' := rH e g q c l) (i := .iconst (-1)) (len := 1) rfl hj rfl rfl rfl]
  exact n_ret rfl hj rfl rfl (x_ret rfl)
set_option maxRecDepth 100000 in
set_option maxHeartbeats 4000000 in
theorem bk_362_10 {b : Bool} {d : Nat} {x1 x2 x3 : Int32} {e : Nat → x_E} {g : Nat → Int32} {q : Nat → Int64} {c : Nat → Nat → Int32} {l : Nat → Nat → Int64} {R : Option Value × List x_E} (hz0 : ¬ (x1 < 0 ∨ 1300 ≤ (x1).toNatClampNeg)) (hz1 : ¬ (x2 < 0 ∨ 1300 ≤ (x2).toNatClampNeg)) (h1 : xCn .lt (((c 57 (x1).toNatClampNeg) + (c 57 (x2).toNatClampNeg))) ((Int8.ofInt (80)).toInt32) = true → rr b e d 362 36 [(0, .ref 49), (1, .int x1), (2, .int x2)] [] g q c l R) (h2 : ¬ xCn .lt (((c 57 (x1).toNatClampNeg) + (c 57 (x2).toNatClampNeg))) ((Int8.ofInt (80)).toInt32) = true → rr b e d 362 28 [(0, .ref 49), (3, .int x3)] [] g q c l R) : rr b e d 362 10 [(0, .ref 49), (1, .int x1), (2, .int x2), (3, .int x3)] [] g q c l R := by
  have key : ∀ f, nrun xZ (xY (xfm b)) xDT (f + 11) d 362 10 [(0, .ref 49), (1, .int x1), (2, .int x2), (3, .int x3)] [] (rH e g q c l) 0 0 = nrun xZ (xY (xfm b)) xDT f d 362 (if xCn .lt (((c 57 (x1).toNatClampNeg) + (c 57 (x2).toNatClampNeg))) ((Int8.ofInt (80)).toInt32) = true then 36 else 28) [(0, .ref 49), (1, .int x1), (2, .int x2), (3, .int x3)] [] (rH e g q c l) 0 0 := by
    intro f
    obtain ⟨y, cb, hj⟩ := mq_362
    rw [n_step (st' := [.ref 49]) (pc' := 11) (lv' := [(0, .ref 49), (1, .int x1), (2, .int x2), (3, .int x3)]) (hp' := rH e g q c l) (i := .aload_n 0) (len := 1) rfl hj rfl rfl rfl]
    rw [n_get (st' := [.ref 57]) (pc' := 14) (lv' := [(0, .ref 49), (1, .int x1), (2, .int x2), (3, .int x3)]) (hp' := rH e g q c l) (i := .getfield 37) (len := 3) rfl hj rfl rfl rfl rfl]
    rw [n_step (st' := [.int x1, .ref 57]) (pc' := 15) (lv' := [(0, .ref 49), (1, .int x1), (2, .int x2), (3, .int x3)]) (hp' := rH e g q c l) (i := .iload_n 1) (len := 1) rfl hj rfl rfl rfl]
    rw [n_ial (st' := [.int (c 57 (x1).toNatClampNeg)]) rfl hj (ald_57 hz0)]
    rw [n_step (st' := [.ref 49, .int (c 57 (x1).toNatClampNeg)]) (pc' := 17) (lv' := [(0, .ref 49), (1, .int x1), (2, .int x2), (3, .int x3)]) (hp' := rH e g q c l) (i := .aload_n 0) (len := 1) rfl hj rfl rfl rfl]
    rw [n_get (st' := [.ref 57, .int (c 57 (x1).toNatClampNeg)]) (pc' := 20) (lv' := [(0, .ref 49), (1, .int x1), (2, .int x2), (3, .int x3)]) (hp' := rH e g q c l) (i := .getfield 37) (len := 3) rfl hj rfl rfl rfl rfl]
    rw [n_step (st' := [.int x2, .ref 57, .int (c 57 (x1).toNatClampNeg)]) (pc' := 21) (lv' := [(0, .ref 49), (1, .int x1), (2, .int x2), (3, .int x3)]) (hp' := rH e g q c l) (i := .iload_n 2) (len := 1) rfl hj rfl rfl rfl]
    rw [n_ial (st' := [.int (c 57 (x2).toNatClampNeg), .int (c 57 (x1).toNatClampNeg)]) rfl hj (ald_57 hz1)]
    rw [n_step (st' := [.int ((c 57 (x1).toNatClampNeg) + (c 57 (x2).toNatClampNeg))]) (pc' := 23) (lv' := [(0, .ref 49), (1, .int x1), (2, .int x2), (3, .int x3)]) (hp' := rH e g q c l) (i := .iadd) (len := 1) rfl hj rfl rfl rfl]
    rw [n_step (st' := [.int (Int8.ofInt (80)).toInt32, .int ((c 57 (x1).toNatClampNeg) + (c 57 (x2).toNatClampNeg))]) (pc' := 25) (lv' := [(0, .ref 49), (1, .int x1), (2, .int x2), (3, .int x3)]) (hp' := rH e g q c l) (i := .bipush 80) (len := 2) rfl hj rfl rfl rfl]
    rw [n_step (st' := []) (pc' := (if xCn .lt (((c 57 (x1).toNatClampNeg) + (c 57 (x2).toNatClampNeg))) ((Int8.ofInt (80)).toInt32) = true then 36 else 28)) (lv' := [(0, .ref 49), (1, .int x1), (2, .int x2), (3, .int x3)]) (hp' := rH e g q c l) (i := .if_icmp .lt 11) (len := 3) rfl hj rfl rfl rfl]
  by_cases hc : xCn .lt (((c 57 (x1).toNatClampNeg) + (c 57 (x2).toNatClampNeg))) ((Int8.ofInt (80)).toInt32) = true
  · obtain ⟨f, h⟩ := h1 hc
    refine ⟨f + 11, ?_⟩
    rw [key, if_pos hc]
    exact nrun_ext f f _ _ R 362 36 [(0, .ref 49), (1, .int x1), (2, .int x2)] [(0, .ref 49), (1, .int x1), (2, .int x2), (3, .int x3)] [] _ 0 0 122 (Nat.le_refl _) (Nat.le_refl _) (Nat.le_of_ble_eq_true rfl) (lvR_mk [0, 1, 2] [0, 1, 2, 3] rfl rfl (by decide) (by decide) (List.forall_mem_cons.mpr ⟨List.mem_cons_self, (List.forall_mem_cons.mpr ⟨(List.mem_cons_of_mem _ List.mem_cons_self), (List.forall_mem_cons.mpr ⟨(List.mem_cons_of_mem _ (List.mem_cons_of_mem _ List.mem_cons_self)), (fun _ h => nomatch h)⟩)⟩)⟩) (List.forall_mem_cons.mpr ⟨Or.inl List.mem_cons_self, (List.forall_mem_cons.mpr ⟨Or.inl (List.mem_cons_of_mem _ List.mem_cons_self), (List.forall_mem_cons.mpr ⟨Or.inl (List.mem_cons_of_mem _ (List.mem_cons_of_mem _ List.mem_cons_self)), (List.forall_mem_cons.mpr ⟨Or.inr rfl, (fun _ h => nomatch h)⟩)⟩)⟩)⟩)) h
  · obtain ⟨f, h⟩ := h2 hc
    refine ⟨f + 11, ?_⟩
    rw [key, if_neg hc]
    exact nrun_ext f f _ _ R 362 28 [(0, .ref 49), (3, .int x3)] [(0, .ref 49), (1, .int x1), (2, .int x2), (3, .int x3)] [] _ 0 0 122 (Nat.le_refl _) (Nat.le_refl _) (Nat.le_of_ble_eq_true rfl) (lvR_mk [0, 3] [0, 1, 2, 3] rfl rfl (by decide) (by decide) (List.forall_mem_cons.mpr ⟨List.mem_cons_self, (List.forall_mem_cons.mpr ⟨(List.mem_cons_of_mem _ (List.mem_cons_of_mem _ (List.mem_cons_of_mem _ List.mem_cons_self))), (fun _ h => nomatch h)⟩)⟩) (List.forall_mem_cons.mpr ⟨Or.inl List.mem_cons_self, (List.forall_mem_cons.mpr ⟨Or.inr rfl, (List.forall_mem_cons.mpr ⟨Or.inr rfl, (List.forall_mem_cons.mpr ⟨Or.inl (List.mem_cons_of_mem _ List.mem_cons_self), (fun _ h => nomatch h)⟩)⟩)⟩)⟩)) h
set_option maxRecDepth 100000 in
set_option maxHeartbeats 4000000 in
theorem bk_362_28 {b : Bool} {d : Nat} {x3 : Int32} {e : Nat → x_E} {g : Nat → Int32} {q : Nat → Int64} {c : Nat → Nat → Int32} {l : Nat → Nat → Int64} {g' : Nat → Int32} {q' : Nat → Int64} {c' : Nat → Nat → Int32} {l' : Nat → Nat → Int64} {R : Option Value × List x_E} (hc : rr b e d 349 0 [(0, .ref 49), (1, .int (Int32.ofInt (5))), (2, .int x3)] [] g q c l (none, rH e g' q' c' l')) (h : rr b e (d + 1) 362 34 [] [] g' q' c' l' R) : rr b e (d + 1) 362 28 [(0, .ref 49), (3, .int x3)] [] g q c l R := by
  obtain ⟨f1, hc⟩ := hc
  obtain ⟨f2, h⟩ := h
  obtain ⟨f, hf1, hf2⟩ : ∃ f, f1 ≤ f ∧ f2 ≤ f := ⟨max f1 f2, Nat.le_max_left _ _, Nat.le_max_right _ _⟩
  have hc := nrun_fuel f1 f _ _ _ _ _ _ _ _ _ hf1 hc
  have h := nrun_fuel f2 f _ _ _ _ _ _ _ _ _ hf2 h
  refine ⟨f + 4, ?_⟩
  obtain ⟨y, cb, hj⟩ := mq_362
  rw [n_step (st' := [.ref 49]) (pc' := 29) (lv' := [(0, .ref 49), (3, .int x3)]) (hp' := rH e g q c l) (i := .aload_n 0) (len := 1) rfl hj rfl rfl rfl]
  rw [n_step (st' := [.int (Int32.ofInt (5)), .ref 49]) (pc' := 30) (lv' := [(0, .ref 49), (3, .int x3)]) (hp' := rH e g q c l) (i := .iconst 5) (len := 1) rfl hj rfl rfl rfl]
  rw [n_step (st' := [.int x3, .int (Int32.ofInt (5)), .ref 49]) (pc' := 31) (lv' := [(0, .ref 49), (3, .int x3)]) (hp' := rH e g q c l) (i := .iload_n 3) (len := 1) rfl hj rfl rfl rfl]
  obtain ⟨y2, cb2, hj2⟩ := mq_349
  rw [n_call (f := f) (d := d) (ki := 0) (idx := 427) (j' := 349) (kd := 0) (M' := (y2, cb2, 3, none, 12, 2, 0, 0)) (avs := [.ref 49, .int (Int32.ofInt (5)), .int x3]) (r := []) (rv := none) (hp1 := rH e g' q' c' l') rfl hj rfl rfl rfl rfl (rq_n rfl rfl hj2 rfl rfl) rfl hc (Nat.le_of_ble_eq_true rfl)]
  exact nrun_ext f f _ _ R 362 34 [] [(0, .ref 49), (3, .int x3)] [] _ 0 0 122 (Nat.le_refl _) (Nat.le_refl _) (Nat.le_of_ble_eq_true rfl) (lvR_mk [] [0, 3] rfl rfl (by decide) (by decide) (fun _ h => nomatch h) (List.forall_mem_cons.mpr ⟨Or.inr rfl, (List.forall_mem_cons.mpr ⟨Or.inr rfl, (fun _ h => nomatch h)⟩)⟩)) h
set_option maxRecDepth 100000 in
set_option maxHeartbeats 4000000 in
theorem bk_362_34 {b : Bool} {d : Nat} {e : Nat → x_E} {g : Nat → Int32} {q : Nat → Int64} {c : Nat → Nat → Int32} {l : Nat → Nat → Int64} : rr b e d 362 34 [] [] g q c l (some (.int (Int32.ofInt (-1))), rH e g q c l) := by
  refine ⟨0 + 2, ?_⟩
  obtain ⟨y, cb, hj⟩ := mq_362
  rw [n_step (st' := [.int (Int32.ofInt (-1))]) (pc' := 35) (lv' := []) (hp' := rH e g q c l) (i := .iconst (-1)) (len := 1) rfl hj rfl rfl rfl]
  exact n_ret rfl hj rfl rfl (x_ret rfl)
set_option maxRecDepth 100000 in
set_option maxHeartbeats 4000000 in
theorem bk_362_36 {b : Bool} {d : Nat} {x1 x2 : Int32} {e : Nat → x_E} {g : Nat → Int32} {q : Nat → Int64} {c : Nat → Nat → Int32} {l : Nat → Nat → Int64} {g' : Nat → Int32} {q' : Nat → Int64} {c' : Nat → Nat → Int32} {l' : Nat → Nat → Int64} {v : Int32} {R : Option Value × List x_E} (hc : rr b e d 363 0 [(0, .ref 49), (1, .int x1), (2, .int x2)] [] g q c l (some (.int v), rH e g' q' c' l')) (h : rr b e (d + 1) 362 42 [] [.int v] g' q' c' l' R) : rr b e (d + 1) 362 36 [(0, .ref 49), (1, .int x1), (2, .int x2)] [] g q c l R := by
  obtain ⟨f1, hc⟩ := hc
  obtain ⟨f2, h⟩ := h
  obtain ⟨f, hf1, hf2⟩ : ∃ f, f1 ≤ f ∧ f2 ≤ f := ⟨max f1 f2, Nat.le_max_left _ _, Nat.le_max_right _ _⟩
  have hc := nrun_fuel f1 f _ _ _ _ _ _ _ _ _ hf1 hc
  have h := nrun_fuel f2 f _ _ _ _ _ _ _ _ _ hf2 h
  refine ⟨f + 4, ?_⟩
  obtain ⟨y, cb, hj⟩ := mq_362
  rw [n_step (st' := [.ref 49]) (pc' := 37) (lv' := [(0, .ref 49), (1, .int x1), (2, .int x2)]) (hp' := rH e g q c l) (i := .aload_n 0) (len := 1) rfl hj rfl rfl rfl]
  rw [n_step (st' := [.int x1, .ref 49]) (pc' := 38) (lv' := [(0, .ref 49), (1, .int x1), (2, .int x2)]) (hp' := rH e g q c l) (i := .iload_n 1) (len := 1) rfl hj rfl rfl rfl]
  rw [n_step (st' := [.int x2, .int x1, .ref 49]) (pc' := 39) (lv' := [(0, .ref 49), (1, .int x1), (2, .int x2)]) (hp' := rH e g q c l) (i := .iload_n 2) (len := 1) rfl hj rfl rfl rfl]
  obtain ⟨y2, cb2, hj2⟩ := mq_363
  rw [n_call (f := f) (d := d) (ki := 0) (idx := 479) (j' := 363) (kd := 0) (M' := (y2, cb2, 4, some .int, 12, 2, 0, 0)) (avs := [.ref 49, .int x1, .int x2]) (r := []) (rv := some (.int v)) (hp1 := rH e g' q' c' l') rfl hj rfl rfl rfl rfl (rq_n rfl rfl hj2 rfl rfl) rfl hc (Nat.le_of_ble_eq_true rfl)]
  exact nrun_ext f f _ _ R 362 42 [] [(0, .ref 49), (1, .int x1), (2, .int x2)] [.int v] _ 0 0 122 (Nat.le_refl _) (Nat.le_refl _) (Nat.le_of_ble_eq_true rfl) (lvR_mk [] [0, 1, 2] rfl rfl (by decide) (by decide) (fun _ h => nomatch h) (List.forall_mem_cons.mpr ⟨Or.inr rfl, (List.forall_mem_cons.mpr ⟨Or.inr rfl, (List.forall_mem_cons.mpr ⟨Or.inr rfl, (fun _ h => nomatch h)⟩)⟩)⟩)) h
set_option maxRecDepth 100000 in
set_option maxHeartbeats 4000000 in
theorem bk_362_42 {b : Bool} {d : Nat} {t0 : Int32} {e : Nat → x_E} {g : Nat → Int32} {q : Nat → Int64} {c : Nat → Nat → Int32} {l : Nat → Nat → Int64} : rr b e d 362 42 [] [.int t0] g q c l (some (.int t0), rH e g q c l) := by
  refine ⟨0 + 1, ?_⟩
  obtain ⟨y, cb, hj⟩ := mq_362
  exact n_ret rfl hj rfl rfl (x_ret rfl)
set_option maxRecDepth 100000 in
set_option maxHeartbeats 4000000 in
theorem bk_363_0 {b : Bool} {d : Nat} {x1 x2 : Int32} {e : Nat → x_E} {g : Nat → Int32} {q : Nat → Int64} {c : Nat → Nat → Int32} {l : Nat → Nat → Int64} {g' : Nat → Int32} {q' : Nat → Int64} {c' : Nat → Nat → Int32} {l' : Nat → Nat → Int64} {v : Int32} {R : Option Value × List x_E} (hc : rr b e d 333 0 [(0, .ref 49)] [] g q c l (some (.int v), rH e g' q' c' l')) (h : rr b e (d + 1) 363 4 [(0, .ref 49), (1, .int x1), (2, .int x2)] [.int v] g' q' c' l' R) : rr b e (d + 1) 363 0 [(0, .ref 49), (1, .int x1), (2, .int x2)] [] g q c l R := by
  obtain ⟨f1, hc⟩ := hc
  obtain ⟨f2, h⟩ := h
  obtain ⟨f, hf1, hf2⟩ : ∃ f, f1 ≤ f ∧ f2 ≤ f := ⟨max f1 f2, Nat.le_max_left _ _, Nat.le_max_right _ _⟩
  have hc := nrun_fuel f1 f _ _ _ _ _ _ _ _ _ hf1 hc
  have h := nrun_fuel f2 f _ _ _ _ _ _ _ _ _ hf2 h
  refine ⟨f + 2, ?_⟩
  obtain ⟨y, cb, hj⟩ := mq_363
  rw [n_step (st' := [.ref 49]) (pc' := 1) (lv' := [(0, .ref 49), (1, .int x1), (2, .int x2)]) (hp' := rH e g q c l) (i := .aload_n 0) (len := 1) rfl hj rfl rfl rfl]
  obtain ⟨y2, cb2, hj2⟩ := mq_333
  rw [n_call (f := f) (d := d) (ki := 0) (idx := 380) (j' := 333) (kd := 0) (M' := (y2, cb2, 1, some .int, 12, 0, 0, 0)) (avs := [.ref 49]) (r := []) (rv := some (.int v)) (hp1 := rH e g' q' c' l') rfl hj rfl rfl rfl rfl (rq_n rfl rfl hj2 rfl rfl) rfl hc (Nat.le_of_ble_eq_true rfl)]
  exact h
set_option maxRecDepth 100000 in
set_option maxHeartbeats 4000000 in
theorem bk_363_4 {b : Bool} {d : Nat} {t0 x1 x2 : Int32} {e : Nat → x_E} {g : Nat → Int32} {q : Nat → Int64} {c : Nat → Nat → Int32} {l : Nat → Nat → Int64} {g' : Nat → Int32} {q' : Nat → Int64} {c' : Nat → Nat → Int32} {l' : Nat → Nat → Int64} {R : Option Value × List x_E} (hc : rr b e d 334 0 [(0, .ref 49), (1, .int (Int32.ofInt (1)))] [] g q c l (none, rH e g' q' c' l')) (h : rr b e (d + 1) 363 10 [(0, .ref 49), (1, .int x1), (2, .int x2), (3, .int t0)] [] g' q' c' l' R) : rr b e (d + 1) 363 4 [(0, .ref 49), (1, .int x1), (2, .int x2)] [.int t0] g q c l R := by
  obtain ⟨f1, hc⟩ := hc
  obtain ⟨f2, h⟩ := h
  obtain ⟨f, hf1, hf2⟩ : ∃ f, f1 ≤ f ∧ f2 ≤ f := ⟨max f1 f2, Nat.le_max_left _ _, Nat.le_max_right _ _⟩
  have hc := nrun_fuel f1 f _ _ _ _ _ _ _ _ _ hf1 hc
  have h := nrun_fuel f2 f _ _ _ _ _ _ _ _ _ hf2 h
  refine ⟨f + 4, ?_⟩
  obtain ⟨y, cb, hj⟩ := mq_363
  rw [n_step (st' := []) (pc' := 5) (lv' := [(3, .int t0), (0, .ref 49), (1, .int x1), (2, .int x2)]) (hp' := rH e g q c l) (i := .istore_n 3) (len := 1) rfl hj rfl rfl rfl]
  rw [n_step (st' := [.ref 49]) (pc' := 6) (lv' := [(3, .int t0), (0, .ref 49), (1, .int x1), (2, .int x2)]) (hp' := rH e g q c l) (i := .aload_n 0) (len := 1) rfl hj rfl rfl rfl]
  rw [n_step (st' := [.int (Int32.ofInt (1)), .ref 49]) (pc' := 7) (lv' := [(3, .int t0), (0, .ref 49), (1, .int x1), (2, .int x2)]) (hp' := rH e g q c l) (i := .iconst 1) (len := 1) rfl hj rfl rfl rfl]
  obtain ⟨y2, cb2, hj2⟩ := mq_334
  rw [n_call (f := f) (d := d) (ki := 0) (idx := 377) (j' := 334) (kd := 0) (M' := (y2, cb2, 2, none, 12, 1, 0, 0)) (avs := [.ref 49, .int (Int32.ofInt (1))]) (r := []) (rv := none) (hp1 := rH e g' q' c' l') rfl hj rfl rfl rfl rfl (rq_n rfl rfl hj2 rfl rfl) rfl hc (Nat.le_of_ble_eq_true rfl)]
  exact nrun_ext f f _ _ R 363 10 [(0, .ref 49), (1, .int x1), (2, .int x2), (3, .int t0)] [(3, .int t0), (0, .ref 49), (1, .int x1), (2, .int x2)] [] _ 0 0 122 (Nat.le_refl _) (Nat.le_refl _) (Nat.le_of_ble_eq_true rfl) (lvR_mk [0, 1, 2, 3] [3, 0, 1, 2] rfl rfl (by decide) (by decide) (List.forall_mem_cons.mpr ⟨(List.mem_cons_of_mem _ List.mem_cons_self), (List.forall_mem_cons.mpr ⟨(List.mem_cons_of_mem _ (List.mem_cons_of_mem _ List.mem_cons_self)), (List.forall_mem_cons.mpr ⟨(List.mem_cons_of_mem _ (List.mem_cons_of_mem _ (List.mem_cons_of_mem _ List.mem_cons_self))), (List.forall_mem_cons.mpr ⟨List.mem_cons_self, (fun _ h => nomatch h)⟩)⟩)⟩)⟩) (List.forall_mem_cons.mpr ⟨Or.inl (List.mem_cons_of_mem _ (List.mem_cons_of_mem _ (List.mem_cons_of_mem _ List.mem_cons_self))), (List.forall_mem_cons.mpr ⟨Or.inl List.mem_cons_self, (List.forall_mem_cons.mpr ⟨Or.inl (List.mem_cons_of_mem _ List.mem_cons_self), (List.forall_mem_cons.mpr ⟨Or.inl (List.mem_cons_of_mem _ (List.mem_cons_of_mem _ List.mem_cons_self)), (fun _ h => nomatch h)⟩)⟩)⟩)⟩)) h
set_option maxRecDepth 100000 in
set_option maxHeartbeats 4000000 in
theorem bk_363_10 {b : Bool} {d : Nat} {x1 x2 x3 : Int32} {e : Nat → x_E} {g : Nat → Int32} {q : Nat → Int64} {c : Nat → Nat → Int32} {l : Nat → Nat → Int64} {g' : Nat → Int32} {q' : Nat → Int64} {c' : Nat → Nat → Int32} {l' : Nat → Nat → Int64} {R : Option Value × List x_E} (hc : rr b e d 364 0 [(0, .ref 49), (1, .int x1)] [] g q c l (none, rH e g' q' c' l')) (h : rr b e (d + 1) 363 15 [(0, .ref 49), (2, .int x2), (3, .int x3)] [] g' q' c' l' R) : rr b e (d + 1) 363 10 [(0, .ref 49), (1, .int x1), (2, .int x2), (3, .int x3)] [] g q c l R := by
  obtain ⟨f1, hc⟩ := hc
  obtain ⟨f2, h⟩ := h
  obtain ⟨f, hf1, hf2⟩ : ∃ f, f1 ≤ f ∧ f2 ≤ f := ⟨max f1 f2, Nat.le_max_left _ _, Nat.le_max_right _ _⟩
  have hc := nrun_fuel f1 f _ _ _ _ _ _ _ _ _ hf1 hc
  have h := nrun_fuel f2 f _ _ _ _ _ _ _ _ _ hf2 h
  refine ⟨f + 3, ?_⟩
  obtain ⟨y, cb, hj⟩ := mq_363
  rw [n_step (st' := [.ref 49]) (pc' := 11) (lv' := [(0, .ref 49), (1, .int x1), (2, .int x2), (3, .int x3)]) (hp' := rH e g q c l) (i := .aload_n 0) (len := 1) rfl hj rfl rfl rfl]
  rw [n_step (st' := [.int x1, .ref 49]) (pc' := 12) (lv' := [(0, .ref 49), (1, .int x1), (2, .int x2), (3, .int x3)]) (hp' := rH e g q c l) (i := .iload_n 1) (len := 1) rfl hj rfl rfl rfl]
  obtain ⟨y2, cb2, hj2⟩ := mq_364
  rw [n_call (f := f) (d := d) (ki := 0) (idx := 387) (j' := 364) (kd := 0) (M' := (y2, cb2, 3, none, 12, 1, 0, 0)) (avs := [.ref 49, .int x1]) (r := []) (rv := none) (hp1 := rH e g' q' c' l') rfl hj rfl rfl rfl rfl (rq_n rfl rfl hj2 rfl rfl) rfl hc (Nat.le_of_ble_eq_true rfl)]
  exact nrun_ext f f _ _ R 363 15 [(0, .ref 49), (2, .int x2), (3, .int x3)] [(0, .ref 49), (1, .int x1), (2, .int x2), (3, .int x3)] [] _ 0 0 122 (Nat.le_refl _) (Nat.le_refl _) (Nat.le_of_ble_eq_true rfl) (lvR_mk [0, 2, 3] [0, 1, 2, 3] rfl rfl (by decide) (by decide) (List.forall_mem_cons.mpr ⟨List.mem_cons_self, (List.forall_mem_cons.mpr ⟨(List.mem_cons_of_mem _ (List.mem_cons_of_mem _ List.mem_cons_self)), (List.forall_mem_cons.mpr ⟨(List.mem_cons_of_mem _ (List.mem_cons_of_mem _ (List.mem_cons_of_mem _ List.mem_cons_self))), (fun _ h => nomatch h)⟩)⟩)⟩) (List.forall_mem_cons.mpr ⟨Or.inl List.mem_cons_self, (List.forall_mem_cons.mpr ⟨Or.inr rfl, (List.forall_mem_cons.mpr ⟨Or.inl (List.mem_cons_of_mem _ List.mem_cons_self), (List.forall_mem_cons.mpr ⟨Or.inl (List.mem_cons_of_mem _ (List.mem_cons_of_mem _ List.mem_cons_self)), (fun _ h => nomatch h)⟩)⟩)⟩)⟩)) h
set_option maxRecDepth 100000 in
set_option maxHeartbeats 4000000 in
theorem bk_363_15 {b : Bool} {d : Nat} {x2 x3 : Int32} {e : Nat → x_E} {g : Nat → Int32} {q : Nat → Int64} {c : Nat → Nat → Int32} {l : Nat → Nat → Int64} {g' : Nat → Int32} {q' : Nat → Int64} {c' : Nat → Nat → Int32} {l' : Nat → Nat → Int64} {R : Option Value × List x_E} (hc : rr b e d 364 0 [(0, .ref 49), (1, .int x2)] [] g q c l (none, rH e g' q' c' l')) (h : rr b e (d + 1) 363 20 [(0, .ref 49), (3, .int x3)] [] g' q' c' l' R) : rr b e (d + 1) 363 15 [(0, .ref 49), (2, .int x2), (3, .int x3)] [] g q c l R := by
  obtain ⟨f1, hc⟩ := hc
  obtain ⟨f2, h⟩ := h
  obtain ⟨f, hf1, hf2⟩ : ∃ f, f1 ≤ f ∧ f2 ≤ f := ⟨max f1 f2, Nat.le_max_left _ _, Nat.le_max_right _ _⟩
  have hc := nrun_fuel f1 f _ _ _ _ _ _ _ _ _ hf1 hc
  have h := nrun_fuel f2 f _ _ _ _ _ _ _ _ _ hf2 h
  refine ⟨f + 3, ?_⟩
  obtain ⟨y, cb, hj⟩ := mq_363
  rw [n_step (st' := [.ref 49]) (pc' := 16) (lv' := [(0, .ref 49), (2, .int x2), (3, .int x3)]) (hp' := rH e g q c l) (i := .aload_n 0) (len := 1) rfl hj rfl rfl rfl]
  rw [n_step (st' := [.int x2, .ref 49]) (pc' := 17) (lv' := [(0, .ref 49), (2, .int x2), (3, .int x3)]) (hp' := rH e g q c l) (i := .iload_n 2) (len := 1) rfl hj rfl rfl rfl]
  obtain ⟨y2, cb2, hj2⟩ := mq_364
  rw [n_call (f := f) (d := d) (ki := 0) (idx := 387) (j' := 364) (kd := 0) (M' := (y2, cb2, 3, none, 12, 1, 0, 0)) (avs := [.ref 49, .int x2]) (r := []) (rv := none) (hp1 := rH e g' q' c' l') rfl hj rfl rfl rfl rfl (rq_n rfl rfl hj2 rfl rfl) rfl hc (Nat.le_of_ble_eq_true rfl)]
  exact nrun_ext f f _ _ R 363 20 [(0, .ref 49), (3, .int x3)] [(0, .ref 49), (2, .int x2), (3, .int x3)] [] _ 0 0 122 (Nat.le_refl _) (Nat.le_refl _) (Nat.le_of_ble_eq_true rfl) (lvR_mk [0, 3] [0, 2, 3] rfl rfl (by decide) (by decide) (List.forall_mem_cons.mpr ⟨List.mem_cons_self, (List.forall_mem_cons.mpr ⟨(List.mem_cons_of_mem _ (List.mem_cons_of_mem _ List.mem_cons_self)), (fun _ h => nomatch h)⟩)⟩) (List.forall_mem_cons.mpr ⟨Or.inl List.mem_cons_self, (List.forall_mem_cons.mpr ⟨Or.inr rfl, (List.forall_mem_cons.mpr ⟨Or.inl (List.mem_cons_of_mem _ List.mem_cons_self), (fun _ h => nomatch h)⟩)⟩)⟩)) h
set_option maxRecDepth 100000 in
set_option maxHeartbeats 4000000 in
theorem bk_363_20 {b : Bool} {d : Nat} {x3 : Int32} {e : Nat → x_E} {g : Nat → Int32} {q : Nat → Int64} {c : Nat → Nat → Int32} {l : Nat → Nat → Int64} {g' : Nat → Int32} {q' : Nat → Int64} {c' : Nat → Nat → Int32} {l' : Nat → Nat → Int64} {v : Int32} {R : Option Value × List x_E} (hc : rr b e d 335 0 [(0, .ref 49), (1, .int x3)] [] g q c l (some (.int v), rH e g' q' c' l')) (h : rr b e (d + 1) 363 25 [] [.int v] g' q' c' l' R) : rr b e (d + 1) 363 20 [(0, .ref 49), (3, .int x3)] [] g q c l R := by
  obtain ⟨f1, hc⟩ := hc
  obtain ⟨f2, h⟩ := h
  obtain ⟨f, hf1, hf2⟩ : ∃ f, f1 ≤ f ∧ f2 ≤ f := ⟨max f1 f2, Nat.le_max_left _ _, Nat.le_max_right _ _⟩
  have hc := nrun_fuel f1 f _ _ _ _ _ _ _ _ _ hf1 hc
  have h := nrun_fuel f2 f _ _ _ _ _ _ _ _ _ hf2 h
  refine ⟨f + 3, ?_⟩
  obtain ⟨y, cb, hj⟩ := mq_363
  rw [n_step (st' := [.ref 49]) (pc' := 21) (lv' := [(0, .ref 49), (3, .int x3)]) (hp' := rH e g q c l) (i := .aload_n 0) (len := 1) rfl hj rfl rfl rfl]
  rw [n_step (st' := [.int x3, .ref 49]) (pc' := 22) (lv' := [(0, .ref 49), (3, .int x3)]) (hp' := rH e g q c l) (i := .iload_n 3) (len := 1) rfl hj rfl rfl rfl]
  obtain ⟨y2, cb2, hj2⟩ := mq_335
  rw [n_call (f := f) (d := d) (ki := 0) (idx := 384) (j' := 335) (kd := 0) (M' := (y2, cb2, 2, some .int, 12, 1, 0, 0)) (avs := [.ref 49, .int x3]) (r := []) (rv := some (.int v)) (hp1 := rH e g' q' c' l') rfl hj rfl rfl rfl rfl (rq_n rfl rfl hj2 rfl rfl) rfl hc (Nat.le_of_ble_eq_true rfl)]
  exact nrun_ext f f _ _ R 363 25 [] [(0, .ref 49), (3, .int x3)] [.int v] _ 0 0 122 (Nat.le_refl _) (Nat.le_refl _) (Nat.le_of_ble_eq_true rfl) (lvR_mk [] [0, 3] rfl rfl (by decide) (by decide) (fun _ h => nomatch h) (List.forall_mem_cons.mpr ⟨Or.inr rfl, (List.forall_mem_cons.mpr ⟨Or.inr rfl, (fun _ h => nomatch h)⟩)⟩)) h
set_option maxRecDepth 100000 in
set_option maxHeartbeats 4000000 in
theorem bk_363_25 {b : Bool} {d : Nat} {t0 : Int32} {e : Nat → x_E} {g : Nat → Int32} {q : Nat → Int64} {c : Nat → Nat → Int32} {l : Nat → Nat → Int64} : rr b e d 363 25 [] [.int t0] g q c l (some (.int t0), rH e g q c l) := by
  refine ⟨0 + 1, ?_⟩
  obtain ⟨y, cb, hj⟩ := mq_363
  exact n_ret rfl hj rfl rfl (x_ret rfl)
set_option maxRecDepth 100000 in
set_option maxHeartbeats 4000000 in
theorem bk_364_0 {b : Bool} {d : Nat} {x1 : Int32} {e : Nat → x_E} {g : Nat → Int32} {q : Nat → Int64} {c : Nat → Nat → Int32} {l : Nat → Nat → Int64} {R : Option Value × List x_E} (h : rr b e d 364 2 [(0, .ref 49), (1, .int x1), (2, .int (Int32.ofInt (0)))] [] g q c l R) : rr b e d 364 0 [(0, .ref 49), (1, .int x1)] [] g q c l R := by
  obtain ⟨f, h⟩ := h
  refine ⟨f + 2, ?_⟩
  obtain ⟨y, cb, hj⟩ := mq_364
  rw [n_step (st' := [.int (Int32.ofInt (0))]) (pc' := 1) (lv' := [(0, .ref 49), (1, .int x1)]) (hp' := rH e g q c l) (i := .iconst 0) (len := 1) rfl hj rfl rfl rfl]
  rw [n_step (st' := []) (pc' := 2) (lv' := [(2, .int (Int32.ofInt (0))), (0, .ref 49), (1, .int x1)]) (hp' := rH e g q c l) (i := .istore_n 2) (len := 1) rfl hj rfl rfl rfl]
  exact nrun_ext f f _ _ R 364 2 [(0, .ref 49), (1, .int x1), (2, .int (Int32.ofInt (0)))] [(2, .int (Int32.ofInt (0))), (0, .ref 49), (1, .int x1)] [] _ 0 0 122 (Nat.le_refl _) (Nat.le_refl _) (Nat.le_of_ble_eq_true rfl) (lvR_mk [0, 1, 2] [2, 0, 1] rfl rfl (by decide) (by decide) (List.forall_mem_cons.mpr ⟨(List.mem_cons_of_mem _ List.mem_cons_self), (List.forall_mem_cons.mpr ⟨(List.mem_cons_of_mem _ (List.mem_cons_of_mem _ List.mem_cons_self)), (List.forall_mem_cons.mpr ⟨List.mem_cons_self, (fun _ h => nomatch h)⟩)⟩)⟩) (List.forall_mem_cons.mpr ⟨Or.inl (List.mem_cons_of_mem _ (List.mem_cons_of_mem _ List.mem_cons_self)), (List.forall_mem_cons.mpr ⟨Or.inl List.mem_cons_self, (List.forall_mem_cons.mpr ⟨Or.inl (List.mem_cons_of_mem _ List.mem_cons_self), (fun _ h => nomatch h)⟩)⟩)⟩)) h
