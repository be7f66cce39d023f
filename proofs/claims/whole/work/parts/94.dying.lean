/-! Steps of the reference's endOf and of its method of #, that end in a read beyond the row. -/
theorem d_s {b : Bool} {d j pc : Nat} {lv : List (Nat × Value)} {st : List Value} {hp : List x_E} {i : Instr} {len : Nat} {M : x_M} {pc' : Nat} {lv' : List (Nat × Value)} {st' : List Value} {hp' : List x_E} (hd : xDT j pc = some (i, len)) (hj : zM xZ j = some M) (hs : xs1F i (zcl xZ) ((xy M).name == "<init>") (xn M) (zF xZ (xo M)) (zKc xZ (xo M)) (zKl xZ (xo M)) len pc lv st hp = some (pc', lv', st', hp')) (h : pD b [] d j pc' lv' st' hp') : pD b [] d j pc lv st hp := by
  obtain ⟨f, h⟩ := h
  exact ⟨f + 1, Or.inr (Or.inl ⟨i, len, M, pc', lv', st', hp', hd, hj, hs, h⟩)⟩
section DS
variable {b : Bool} {d : Nat} {e : Nat → x_E} {g : Nat → Int32} {q : Nat → Int64} {c : Nat → Nat → Int32} {l : Nat → Nat → Int64}
set_option maxRecDepth 100000 in
set_option maxHeartbeats 4000000 in
theorem dA_18 {x k y : Int32} (hz : ¬ (k < 0 ∨ 66000 ≤ k.toNatClampNeg)) (hx : ¬ xCn .le x 0 = true) (hc : c 55 k.toNatClampNeg = 18) (h : pD b [] d 370 4 [(3, .int (k + (Int32.ofInt (1)))), (2, .int (((x - (Int32.ofInt (1))) + 18) - ((Int8.ofInt (10)).toInt32))), (4, .int 18), (0, .ref 49), (1, .int y)] [] (rH e g q c l)) : pD b [] d 370 4 [(3, .int k), (2, .int x), (0, .ref 49), (1, .int y)] [] (rH e g q c l) := by
  obtain ⟨y0, cb, hj⟩ := mq_370
  refine d_s (st' := [.int x]) (pc' := 5) (lv' := [(3, .int k), (2, .int x), (0, .ref 49), (1, .int y)]) (hp' := rH e g q c l) (i := .iload_n 2) (len := 1) rfl hj rfl ?_
  refine d_s (st' := []) (pc' := (if xCn .le x 0 = true then 75 else 8)) (lv' := [(3, .int k), (2, .int x), (0, .ref 49), (1, .int y)]) (hp' := rH e g q c l) (i := .ifCond .le 70) (len := 3) rfl hj rfl ?_
  rw [if_neg hx]
  refine d_s (st' := [.ref 49]) (pc' := 9) (lv' := [(3, .int k), (2, .int x), (0, .ref 49), (1, .int y)]) (hp' := rH e g q c l) (i := .aload_n 0) (len := 1) rfl hj rfl ?_
  refine d_s (st' := [.ref 55]) (pc' := 12) (lv' := [(3, .int k), (2, .int x), (0, .ref 49), (1, .int y)]) (hp' := rH e g q c l) (i := .getfield 31) (len := 3) rfl hj rfl ?_
  refine d_s (st' := [.int k, .ref 55]) (pc' := 13) (lv' := [(3, .int k), (2, .int x), (0, .ref 49), (1, .int y)]) (hp' := rH e g q c l) (i := .iload_n 3) (len := 1) rfl hj rfl ?_
  refine d_s (st' := [.int (c 55 (k).toNatClampNeg)]) (pc' := 14) (lv' := [(3, .int k), (2, .int x), (0, .ref 49), (1, .int y)]) (hp' := rH e g q c l) (i := .iaload) (len := 1) rfl hj (by show xK 1 1 ((xAld _ _ _).map _) = _; rw [ald_55 hz]; rfl) ?_
  rw [hc]
  refine d_s (st' := []) (pc' := 16) (lv' := [(4, .int 18), (3, .int k), (2, .int x), (0, .ref 49), (1, .int y)]) (hp' := rH e g q c l) (i := .istore 4) (len := 2) rfl hj rfl ?_
  refine d_s (st' := [.int x]) (pc' := 17) (lv' := [(4, .int 18), (3, .int k), (2, .int x), (0, .ref 49), (1, .int y)]) (hp' := rH e g q c l) (i := .iload_n 2) (len := 1) rfl hj rfl ?_
  refine d_s (st' := [.int (Int32.ofInt (1)), .int x]) (pc' := 18) (lv' := [(4, .int 18), (3, .int k), (2, .int x), (0, .ref 49), (1, .int y)]) (hp' := rH e g q c l) (i := .iconst 1) (len := 1) rfl hj rfl ?_
  refine d_s (st' := [.int (x - (Int32.ofInt (1)))]) (pc' := 19) (lv' := [(4, .int 18), (3, .int k), (2, .int x), (0, .ref 49), (1, .int y)]) (hp' := rH e g q c l) (i := .isub) (len := 1) rfl hj rfl ?_
  refine d_s (st' := []) (pc' := 20) (lv' := [(2, .int (x - (Int32.ofInt (1)))), (4, .int 18), (3, .int k), (0, .ref 49), (1, .int y)]) (hp' := rH e g q c l) (i := .istore_n 2) (len := 1) rfl hj rfl ?_
  refine d_s (st' := [.int 18]) (pc' := 22) (lv' := [(2, .int (x - (Int32.ofInt (1)))), (4, .int 18), (3, .int k), (0, .ref 49), (1, .int y)]) (hp' := rH e g q c l) (i := .iload 4) (len := 2) rfl hj rfl ?_
  refine d_s (st' := [.int (Int32.ofInt (1)), .int 18]) (pc' := 23) (lv' := [(2, .int (x - (Int32.ofInt (1)))), (4, .int 18), (3, .int k), (0, .ref 49), (1, .int y)]) (hp' := rH e g q c l) (i := .iconst 1) (len := 1) rfl hj rfl ?_
  refine d_s (st' := []) (pc' := (if xCn .ne 18 (Int32.ofInt (1)) = true then 33 else 26)) (lv' := [(2, .int (x - (Int32.ofInt (1)))), (4, .int 18), (3, .int k), (0, .ref 49), (1, .int y)]) (hp' := rH e g q c l) (i := .if_icmp .ne 10) (len := 3) rfl hj rfl ?_
  rw [if_pos (by decide +kernel)]
  refine d_s (st' := [.int 18]) (pc' := 35) (lv' := [(2, .int (x - (Int32.ofInt (1)))), (4, .int 18), (3, .int k), (0, .ref 49), (1, .int y)]) (hp' := rH e g q c l) (i := .iload 4) (len := 2) rfl hj rfl ?_
  refine d_s (st' := [.int (Int32.ofInt (2)), .int 18]) (pc' := 36) (lv' := [(2, .int (x - (Int32.ofInt (1)))), (4, .int 18), (3, .int k), (0, .ref 49), (1, .int y)]) (hp' := rH e g q c l) (i := .iconst 2) (len := 1) rfl hj rfl ?_
  refine d_s (st' := []) (pc' := (if xCn .ne 18 (Int32.ofInt (2)) = true then 46 else 39)) (lv' := [(2, .int (x - (Int32.ofInt (1)))), (4, .int 18), (3, .int k), (0, .ref 49), (1, .int y)]) (hp' := rH e g q c l) (i := .if_icmp .ne 10) (len := 3) rfl hj rfl ?_
  rw [if_pos (by decide +kernel)]
  refine d_s (st' := [.int 18]) (pc' := 48) (lv' := [(2, .int (x - (Int32.ofInt (1)))), (4, .int 18), (3, .int k), (0, .ref 49), (1, .int y)]) (hp' := rH e g q c l) (i := .iload 4) (len := 2) rfl hj rfl ?_
  refine d_s (st' := [.int (Int8.ofInt (10)).toInt32, .int 18]) (pc' := 50) (lv' := [(2, .int (x - (Int32.ofInt (1)))), (4, .int 18), (3, .int k), (0, .ref 49), (1, .int y)]) (hp' := rH e g q c l) (i := .bipush 10) (len := 2) rfl hj rfl ?_
  refine d_s (st' := []) (pc' := (if xCn .lt 18 ((Int8.ofInt (10)).toInt32) = true then 68 else 53)) (lv' := [(2, .int (x - (Int32.ofInt (1)))), (4, .int 18), (3, .int k), (0, .ref 49), (1, .int y)]) (hp' := rH e g q c l) (i := .if_icmp .lt 18) (len := 3) rfl hj rfl ?_
  rw [if_neg (by decide +kernel)]
  refine d_s (st' := [.int 18]) (pc' := 55) (lv' := [(2, .int (x - (Int32.ofInt (1)))), (4, .int 18), (3, .int k), (0, .ref 49), (1, .int y)]) (hp' := rH e g q c l) (i := .iload 4) (len := 2) rfl hj rfl ?_
  refine d_s (st' := [.int (Int8.ofInt (100)).toInt32, .int 18]) (pc' := 57) (lv' := [(2, .int (x - (Int32.ofInt (1)))), (4, .int 18), (3, .int k), (0, .ref 49), (1, .int y)]) (hp' := rH e g q c l) (i := .bipush 100) (len := 2) rfl hj rfl ?_
  refine d_s (st' := []) (pc' := (if xCn .ge 18 ((Int8.ofInt (100)).toInt32) = true then 68 else 60)) (lv' := [(2, .int (x - (Int32.ofInt (1)))), (4, .int 18), (3, .int k), (0, .ref 49), (1, .int y)]) (hp' := rH e g q c l) (i := .if_icmp .ge 11) (len := 3) rfl hj rfl ?_
  rw [if_neg (by decide +kernel)]
  refine d_s (st' := [.int (x - (Int32.ofInt (1)))]) (pc' := 61) (lv' := [(2, .int (x - (Int32.ofInt (1)))), (4, .int 18), (3, .int k), (0, .ref 49), (1, .int y)]) (hp' := rH e g q c l) (i := .iload_n 2) (len := 1) rfl hj rfl ?_
  refine d_s (st' := [.int 18, .int (x - (Int32.ofInt (1)))]) (pc' := 63) (lv' := [(2, .int (x - (Int32.ofInt (1)))), (4, .int 18), (3, .int k), (0, .ref 49), (1, .int y)]) (hp' := rH e g q c l) (i := .iload 4) (len := 2) rfl hj rfl ?_
  refine d_s (st' := [.int ((x - (Int32.ofInt (1))) + 18)]) (pc' := 64) (lv' := [(2, .int (x - (Int32.ofInt (1)))), (4, .int 18), (3, .int k), (0, .ref 49), (1, .int y)]) (hp' := rH e g q c l) (i := .iadd) (len := 1) rfl hj rfl ?_
  refine d_s (st' := [.int (Int8.ofInt (10)).toInt32, .int ((x - (Int32.ofInt (1))) + 18)]) (pc' := 66) (lv' := [(2, .int (x - (Int32.ofInt (1)))), (4, .int 18), (3, .int k), (0, .ref 49), (1, .int y)]) (hp' := rH e g q c l) (i := .bipush 10) (len := 2) rfl hj rfl ?_
  refine d_s (st' := [.int (((x - (Int32.ofInt (1))) + 18) - ((Int8.ofInt (10)).toInt32))]) (pc' := 67) (lv' := [(2, .int (x - (Int32.ofInt (1)))), (4, .int 18), (3, .int k), (0, .ref 49), (1, .int y)]) (hp' := rH e g q c l) (i := .isub) (len := 1) rfl hj rfl ?_
  refine d_s (st' := []) (pc' := 68) (lv' := [(2, .int (((x - (Int32.ofInt (1))) + 18) - ((Int8.ofInt (10)).toInt32))), (4, .int 18), (3, .int k), (0, .ref 49), (1, .int y)]) (hp' := rH e g q c l) (i := .istore_n 2) (len := 1) rfl hj rfl ?_
  refine d_s (st' := [.int k]) (pc' := 69) (lv' := [(2, .int (((x - (Int32.ofInt (1))) + 18) - ((Int8.ofInt (10)).toInt32))), (4, .int 18), (3, .int k), (0, .ref 49), (1, .int y)]) (hp' := rH e g q c l) (i := .iload_n 3) (len := 1) rfl hj rfl ?_
  refine d_s (st' := [.int (Int32.ofInt (1)), .int k]) (pc' := 70) (lv' := [(2, .int (((x - (Int32.ofInt (1))) + 18) - ((Int8.ofInt (10)).toInt32))), (4, .int 18), (3, .int k), (0, .ref 49), (1, .int y)]) (hp' := rH e g q c l) (i := .iconst 1) (len := 1) rfl hj rfl ?_
  refine d_s (st' := [.int (k + (Int32.ofInt (1)))]) (pc' := 71) (lv' := [(2, .int (((x - (Int32.ofInt (1))) + 18) - ((Int8.ofInt (10)).toInt32))), (4, .int 18), (3, .int k), (0, .ref 49), (1, .int y)]) (hp' := rH e g q c l) (i := .iadd) (len := 1) rfl hj rfl ?_
  refine d_s (st' := []) (pc' := 72) (lv' := [(3, .int (k + (Int32.ofInt (1)))), (2, .int (((x - (Int32.ofInt (1))) + 18) - ((Int8.ofInt (10)).toInt32))), (4, .int 18), (0, .ref 49), (1, .int y)]) (hp' := rH e g q c l) (i := .istore_n 3) (len := 1) rfl hj rfl ?_
  refine d_s (st' := []) (pc' := 4) (lv' := [(3, .int (k + (Int32.ofInt (1)))), (2, .int (((x - (Int32.ofInt (1))) + 18) - ((Int8.ofInt (10)).toInt32))), (4, .int 18), (0, .ref 49), (1, .int y)]) (hp' := rH e g q c l) (i := .goto (-68)) (len := 3) rfl hj rfl ?_
  exact h
set_option maxRecDepth 100000 in
set_option maxHeartbeats 4000000 in
theorem dB_18 {x k y p : Int32} (hz : ¬ (k < 0 ∨ 66000 ≤ k.toNatClampNeg)) (hx : ¬ xCn .le x 0 = true) (hc : c 55 k.toNatClampNeg = 18) (h : pD b [] d 370 4 [(3, .int (k + (Int32.ofInt (1)))), (2, .int (((x - (Int32.ofInt (1))) + 18) - ((Int8.ofInt (10)).toInt32))), (4, .int 18), (0, .ref 49), (1, .int y)] [] (rH e g q c l)) : pD b [] d 370 4 [(3, .int k), (2, .int x), (4, .int p), (0, .ref 49), (1, .int y)] [] (rH e g q c l) := by
  obtain ⟨y0, cb, hj⟩ := mq_370
  refine d_s (st' := [.int x]) (pc' := 5) (lv' := [(3, .int k), (2, .int x), (4, .int p), (0, .ref 49), (1, .int y)]) (hp' := rH e g q c l) (i := .iload_n 2) (len := 1) rfl hj rfl ?_
  refine d_s (st' := []) (pc' := (if xCn .le x 0 = true then 75 else 8)) (lv' := [(3, .int k), (2, .int x), (4, .int p), (0, .ref 49), (1, .int y)]) (hp' := rH e g q c l) (i := .ifCond .le 70) (len := 3) rfl hj rfl ?_
  rw [if_neg hx]
  refine d_s (st' := [.ref 49]) (pc' := 9) (lv' := [(3, .int k), (2, .int x), (4, .int p), (0, .ref 49), (1, .int y)]) (hp' := rH e g q c l) (i := .aload_n 0) (len := 1) rfl hj rfl ?_
  refine d_s (st' := [.ref 55]) (pc' := 12) (lv' := [(3, .int k), (2, .int x), (4, .int p), (0, .ref 49), (1, .int y)]) (hp' := rH e g q c l) (i := .getfield 31) (len := 3) rfl hj rfl ?_
  refine d_s (st' := [.int k, .ref 55]) (pc' := 13) (lv' := [(3, .int k), (2, .int x), (4, .int p), (0, .ref 49), (1, .int y)]) (hp' := rH e g q c l) (i := .iload_n 3) (len := 1) rfl hj rfl ?_
  refine d_s (st' := [.int (c 55 (k).toNatClampNeg)]) (pc' := 14) (lv' := [(3, .int k), (2, .int x), (4, .int p), (0, .ref 49), (1, .int y)]) (hp' := rH e g q c l) (i := .iaload) (len := 1) rfl hj (by show xK 1 1 ((xAld _ _ _).map _) = _; rw [ald_55 hz]; rfl) ?_
  rw [hc]
  refine d_s (st' := []) (pc' := 16) (lv' := [(4, .int 18), (3, .int k), (2, .int x), (0, .ref 49), (1, .int y)]) (hp' := rH e g q c l) (i := .istore 4) (len := 2) rfl hj rfl ?_
  refine d_s (st' := [.int x]) (pc' := 17) (lv' := [(4, .int 18), (3, .int k), (2, .int x), (0, .ref 49), (1, .int y)]) (hp' := rH e g q c l) (i := .iload_n 2) (len := 1) rfl hj rfl ?_
  refine d_s (st' := [.int (Int32.ofInt (1)), .int x]) (pc' := 18) (lv' := [(4, .int 18), (3, .int k), (2, .int x), (0, .ref 49), (1, .int y)]) (hp' := rH e g q c l) (i := .iconst 1) (len := 1) rfl hj rfl ?_
  refine d_s (st' := [.int (x - (Int32.ofInt (1)))]) (pc' := 19) (lv' := [(4, .int 18), (3, .int k), (2, .int x), (0, .ref 49), (1, .int y)]) (hp' := rH e g q c l) (i := .isub) (len := 1) rfl hj rfl ?_
  refine d_s (st' := []) (pc' := 20) (lv' := [(2, .int (x - (Int32.ofInt (1)))), (4, .int 18), (3, .int k), (0, .ref 49), (1, .int y)]) (hp' := rH e g q c l) (i := .istore_n 2) (len := 1) rfl hj rfl ?_
  refine d_s (st' := [.int 18]) (pc' := 22) (lv' := [(2, .int (x - (Int32.ofInt (1)))), (4, .int 18), (3, .int k), (0, .ref 49), (1, .int y)]) (hp' := rH e g q c l) (i := .iload 4) (len := 2) rfl hj rfl ?_
  refine d_s (st' := [.int (Int32.ofInt (1)), .int 18]) (pc' := 23) (lv' := [(2, .int (x - (Int32.ofInt (1)))), (4, .int 18), (3, .int k), (0, .ref 49), (1, .int y)]) (hp' := rH e g q c l) (i := .iconst 1) (len := 1) rfl hj rfl ?_
  refine d_s (st' := []) (pc' := (if xCn .ne 18 (Int32.ofInt (1)) = true then 33 else 26)) (lv' := [(2, .int (x - (Int32.ofInt (1)))), (4, .int 18), (3, .int k), (0, .ref 49), (1, .int y)]) (hp' := rH e g q c l) (i := .if_icmp .ne 10) (len := 3) rfl hj rfl ?_
  rw [if_pos (by decide +kernel)]
  refine d_s (st' := [.int 18]) (pc' := 35) (lv' := [(2, .int (x - (Int32.ofInt (1)))), (4, .int 18), (3, .int k), (0, .ref 49), (1, .int y)]) (hp' := rH e g q c l) (i := .iload 4) (len := 2) rfl hj rfl ?_
  refine d_s (st' := [.int (Int32.ofInt (2)), .int 18]) (pc' := 36) (lv' := [(2, .int (x - (Int32.ofInt (1)))), (4, .int 18), (3, .int k), (0, .ref 49), (1, .int y)]) (hp' := rH e g q c l) (i := .iconst 2) (len := 1) rfl hj rfl ?_
  refine d_s (st' := []) (pc' := (if xCn .ne 18 (Int32.ofInt (2)) = true then 46 else 39)) (lv' := [(2, .int (x - (Int32.ofInt (1)))), (4, .int 18), (3, .int k), (0, .ref 49), (1, .int y)]) (hp' := rH e g q c l) (i := .if_icmp .ne 10) (len := 3) rfl hj rfl ?_
  rw [if_pos (by decide +kernel)]
  refine d_s (st' := [.int 18]) (pc' := 48) (lv' := [(2, .int (x - (Int32.ofInt (1)))), (4, .int 18), (3, .int k), (0, .ref 49), (1, .int y)]) (hp' := rH e g q c l) (i := .iload 4) (len := 2) rfl hj rfl ?_
  refine d_s (st' := [.int (Int8.ofInt (10)).toInt32, .int 18]) (pc' := 50) (lv' := [(2, .int (x - (Int32.ofInt (1)))), (4, .int 18), (3, .int k), (0, .ref 49), (1, .int y)]) (hp' := rH e g q c l) (i := .bipush 10) (len := 2) rfl hj rfl ?_
  refine d_s (st' := []) (pc' := (if xCn .lt 18 ((Int8.ofInt (10)).toInt32) = true then 68 else 53)) (lv' := [(2, .int (x - (Int32.ofInt (1)))), (4, .int 18), (3, .int k), (0, .ref 49), (1, .int y)]) (hp' := rH e g q c l) (i := .if_icmp .lt 18) (len := 3) rfl hj rfl ?_
  rw [if_neg (by decide +kernel)]
  refine d_s (st' := [.int 18]) (pc' := 55) (lv' := [(2, .int (x - (Int32.ofInt (1)))), (4, .int 18), (3, .int k), (0, .ref 49), (1, .int y)]) (hp' := rH e g q c l) (i := .iload 4) (len := 2) rfl hj rfl ?_
  refine d_s (st' := [.int (Int8.ofInt (100)).toInt32, .int 18]) (pc' := 57) (lv' := [(2, .int (x - (Int32.ofInt (1)))), (4, .int 18), (3, .int k), (0, .ref 49), (1, .int y)]) (hp' := rH e g q c l) (i := .bipush 100) (len := 2) rfl hj rfl ?_
  refine d_s (st' := []) (pc' := (if xCn .ge 18 ((Int8.ofInt (100)).toInt32) = true then 68 else 60)) (lv' := [(2, .int (x - (Int32.ofInt (1)))), (4, .int 18), (3, .int k), (0, .ref 49), (1, .int y)]) (hp' := rH e g q c l) (i := .if_icmp .ge 11) (len := 3) rfl hj rfl ?_
  rw [if_neg (by decide +kernel)]
  refine d_s (st' := [.int (x - (Int32.ofInt (1)))]) (pc' := 61) (lv' := [(2, .int (x - (Int32.ofInt (1)))), (4, .int 18), (3, .int k), (0, .ref 49), (1, .int y)]) (hp' := rH e g q c l) (i := .iload_n 2) (len := 1) rfl hj rfl ?_
  refine d_s (st' := [.int 18, .int (x - (Int32.ofInt (1)))]) (pc' := 63) (lv' := [(2, .int (x - (Int32.ofInt (1)))), (4, .int 18), (3, .int k), (0, .ref 49), (1, .int y)]) (hp' := rH e g q c l) (i := .iload 4) (len := 2) rfl hj rfl ?_
  refine d_s (st' := [.int ((x - (Int32.ofInt (1))) + 18)]) (pc' := 64) (lv' := [(2, .int (x - (Int32.ofInt (1)))), (4, .int 18), (3, .int k), (0, .ref 49), (1, .int y)]) (hp' := rH e g q c l) (i := .iadd) (len := 1) rfl hj rfl ?_
  refine d_s (st' := [.int (Int8.ofInt (10)).toInt32, .int ((x - (Int32.ofInt (1))) + 18)]) (pc' := 66) (lv' := [(2, .int (x - (Int32.ofInt (1)))), (4, .int 18), (3, .int k), (0, .ref 49), (1, .int y)]) (hp' := rH e g q c l) (i := .bipush 10) (len := 2) rfl hj rfl ?_
  refine d_s (st' := [.int (((x - (Int32.ofInt (1))) + 18) - ((Int8.ofInt (10)).toInt32))]) (pc' := 67) (lv' := [(2, .int (x - (Int32.ofInt (1)))), (4, .int 18), (3, .int k), (0, .ref 49), (1, .int y)]) (hp' := rH e g q c l) (i := .isub) (len := 1) rfl hj rfl ?_
  refine d_s (st' := []) (pc' := 68) (lv' := [(2, .int (((x - (Int32.ofInt (1))) + 18) - ((Int8.ofInt (10)).toInt32))), (4, .int 18), (3, .int k), (0, .ref 49), (1, .int y)]) (hp' := rH e g q c l) (i := .istore_n 2) (len := 1) rfl hj rfl ?_
  refine d_s (st' := [.int k]) (pc' := 69) (lv' := [(2, .int (((x - (Int32.ofInt (1))) + 18) - ((Int8.ofInt (10)).toInt32))), (4, .int 18), (3, .int k), (0, .ref 49), (1, .int y)]) (hp' := rH e g q c l) (i := .iload_n 3) (len := 1) rfl hj rfl ?_
  refine d_s (st' := [.int (Int32.ofInt (1)), .int k]) (pc' := 70) (lv' := [(2, .int (((x - (Int32.ofInt (1))) + 18) - ((Int8.ofInt (10)).toInt32))), (4, .int 18), (3, .int k), (0, .ref 49), (1, .int y)]) (hp' := rH e g q c l) (i := .iconst 1) (len := 1) rfl hj rfl ?_
  refine d_s (st' := [.int (k + (Int32.ofInt (1)))]) (pc' := 71) (lv' := [(2, .int (((x - (Int32.ofInt (1))) + 18) - ((Int8.ofInt (10)).toInt32))), (4, .int 18), (3, .int k), (0, .ref 49), (1, .int y)]) (hp' := rH e g q c l) (i := .iadd) (len := 1) rfl hj rfl ?_
  refine d_s (st' := []) (pc' := 72) (lv' := [(3, .int (k + (Int32.ofInt (1)))), (2, .int (((x - (Int32.ofInt (1))) + 18) - ((Int8.ofInt (10)).toInt32))), (4, .int 18), (0, .ref 49), (1, .int y)]) (hp' := rH e g q c l) (i := .istore_n 3) (len := 1) rfl hj rfl ?_
  refine d_s (st' := []) (pc' := 4) (lv' := [(3, .int (k + (Int32.ofInt (1)))), (2, .int (((x - (Int32.ofInt (1))) + 18) - ((Int8.ofInt (10)).toInt32))), (4, .int 18), (0, .ref 49), (1, .int y)]) (hp' := rH e g q c l) (i := .goto (-68)) (len := 3) rfl hj rfl ?_
  exact h
set_option maxRecDepth 100000 in
set_option maxHeartbeats 4000000 in
theorem dB_0 {x k y p : Int32} (hz : ¬ (k < 0 ∨ 66000 ≤ k.toNatClampNeg)) (hx : ¬ xCn .le x 0 = true) (hc : c 55 k.toNatClampNeg = 0) (h : pD b [] d 370 4 [(3, .int (k + (Int32.ofInt (1)))), (2, .int (x - (Int32.ofInt (1)))), (4, .int 0), (0, .ref 49), (1, .int y)] [] (rH e g q c l)) : pD b [] d 370 4 [(3, .int k), (2, .int x), (4, .int p), (0, .ref 49), (1, .int y)] [] (rH e g q c l) := by
  obtain ⟨y0, cb, hj⟩ := mq_370
  refine d_s (st' := [.int x]) (pc' := 5) (lv' := [(3, .int k), (2, .int x), (4, .int p), (0, .ref 49), (1, .int y)]) (hp' := rH e g q c l) (i := .iload_n 2) (len := 1) rfl hj rfl ?_
  refine d_s (st' := []) (pc' := (if xCn .le x 0 = true then 75 else 8)) (lv' := [(3, .int k), (2, .int x), (4, .int p), (0, .ref 49), (1, .int y)]) (hp' := rH e g q c l) (i := .ifCond .le 70) (len := 3) rfl hj rfl ?_
  rw [if_neg hx]
  refine d_s (st' := [.ref 49]) (pc' := 9) (lv' := [(3, .int k), (2, .int x), (4, .int p), (0, .ref 49), (1, .int y)]) (hp' := rH e g q c l) (i := .aload_n 0) (len := 1) rfl hj rfl ?_
  refine d_s (st' := [.ref 55]) (pc' := 12) (lv' := [(3, .int k), (2, .int x), (4, .int p), (0, .ref 49), (1, .int y)]) (hp' := rH e g q c l) (i := .getfield 31) (len := 3) rfl hj rfl ?_
  refine d_s (st' := [.int k, .ref 55]) (pc' := 13) (lv' := [(3, .int k), (2, .int x), (4, .int p), (0, .ref 49), (1, .int y)]) (hp' := rH e g q c l) (i := .iload_n 3) (len := 1) rfl hj rfl ?_
  refine d_s (st' := [.int (c 55 (k).toNatClampNeg)]) (pc' := 14) (lv' := [(3, .int k), (2, .int x), (4, .int p), (0, .ref 49), (1, .int y)]) (hp' := rH e g q c l) (i := .iaload) (len := 1) rfl hj (by show xK 1 1 ((xAld _ _ _).map _) = _; rw [ald_55 hz]; rfl) ?_
  rw [hc]
  refine d_s (st' := []) (pc' := 16) (lv' := [(4, .int 0), (3, .int k), (2, .int x), (0, .ref 49), (1, .int y)]) (hp' := rH e g q c l) (i := .istore 4) (len := 2) rfl hj rfl ?_
  refine d_s (st' := [.int x]) (pc' := 17) (lv' := [(4, .int 0), (3, .int k), (2, .int x), (0, .ref 49), (1, .int y)]) (hp' := rH e g q c l) (i := .iload_n 2) (len := 1) rfl hj rfl ?_
  refine d_s (st' := [.int (Int32.ofInt (1)), .int x]) (pc' := 18) (lv' := [(4, .int 0), (3, .int k), (2, .int x), (0, .ref 49), (1, .int y)]) (hp' := rH e g q c l) (i := .iconst 1) (len := 1) rfl hj rfl ?_
  refine d_s (st' := [.int (x - (Int32.ofInt (1)))]) (pc' := 19) (lv' := [(4, .int 0), (3, .int k), (2, .int x), (0, .ref 49), (1, .int y)]) (hp' := rH e g q c l) (i := .isub) (len := 1) rfl hj rfl ?_
  refine d_s (st' := []) (pc' := 20) (lv' := [(2, .int (x - (Int32.ofInt (1)))), (4, .int 0), (3, .int k), (0, .ref 49), (1, .int y)]) (hp' := rH e g q c l) (i := .istore_n 2) (len := 1) rfl hj rfl ?_
  refine d_s (st' := [.int 0]) (pc' := 22) (lv' := [(2, .int (x - (Int32.ofInt (1)))), (4, .int 0), (3, .int k), (0, .ref 49), (1, .int y)]) (hp' := rH e g q c l) (i := .iload 4) (len := 2) rfl hj rfl ?_
  refine d_s (st' := [.int (Int32.ofInt (1)), .int 0]) (pc' := 23) (lv' := [(2, .int (x - (Int32.ofInt (1)))), (4, .int 0), (3, .int k), (0, .ref 49), (1, .int y)]) (hp' := rH e g q c l) (i := .iconst 1) (len := 1) rfl hj rfl ?_
  refine d_s (st' := []) (pc' := (if xCn .ne 0 (Int32.ofInt (1)) = true then 33 else 26)) (lv' := [(2, .int (x - (Int32.ofInt (1)))), (4, .int 0), (3, .int k), (0, .ref 49), (1, .int y)]) (hp' := rH e g q c l) (i := .if_icmp .ne 10) (len := 3) rfl hj rfl ?_
  rw [if_pos (by decide +kernel)]
  refine d_s (st' := [.int 0]) (pc' := 35) (lv' := [(2, .int (x - (Int32.ofInt (1)))), (4, .int 0), (3, .int k), (0, .ref 49), (1, .int y)]) (hp' := rH e g q c l) (i := .iload 4) (len := 2) rfl hj rfl ?_
  refine d_s (st' := [.int (Int32.ofInt (2)), .int 0]) (pc' := 36) (lv' := [(2, .int (x - (Int32.ofInt (1)))), (4, .int 0), (3, .int k), (0, .ref 49), (1, .int y)]) (hp' := rH e g q c l) (i := .iconst 2) (len := 1) rfl hj rfl ?_
  refine d_s (st' := []) (pc' := (if xCn .ne 0 (Int32.ofInt (2)) = true then 46 else 39)) (lv' := [(2, .int (x - (Int32.ofInt (1)))), (4, .int 0), (3, .int k), (0, .ref 49), (1, .int y)]) (hp' := rH e g q c l) (i := .if_icmp .ne 10) (len := 3) rfl hj rfl ?_
  rw [if_pos (by decide +kernel)]
  refine d_s (st' := [.int 0]) (pc' := 48) (lv' := [(2, .int (x - (Int32.ofInt (1)))), (4, .int 0), (3, .int k), (0, .ref 49), (1, .int y)]) (hp' := rH e g q c l) (i := .iload 4) (len := 2) rfl hj rfl ?_
  refine d_s (st' := [.int (Int8.ofInt (10)).toInt32, .int 0]) (pc' := 50) (lv' := [(2, .int (x - (Int32.ofInt (1)))), (4, .int 0), (3, .int k), (0, .ref 49), (1, .int y)]) (hp' := rH e g q c l) (i := .bipush 10) (len := 2) rfl hj rfl ?_
  refine d_s (st' := []) (pc' := (if xCn .lt 0 ((Int8.ofInt (10)).toInt32) = true then 68 else 53)) (lv' := [(2, .int (x - (Int32.ofInt (1)))), (4, .int 0), (3, .int k), (0, .ref 49), (1, .int y)]) (hp' := rH e g q c l) (i := .if_icmp .lt 18) (len := 3) rfl hj rfl ?_
  rw [if_pos (by decide +kernel)]
  refine d_s (st' := [.int k]) (pc' := 69) (lv' := [(2, .int (x - (Int32.ofInt (1)))), (4, .int 0), (3, .int k), (0, .ref 49), (1, .int y)]) (hp' := rH e g q c l) (i := .iload_n 3) (len := 1) rfl hj rfl ?_
  refine d_s (st' := [.int (Int32.ofInt (1)), .int k]) (pc' := 70) (lv' := [(2, .int (x - (Int32.ofInt (1)))), (4, .int 0), (3, .int k), (0, .ref 49), (1, .int y)]) (hp' := rH e g q c l) (i := .iconst 1) (len := 1) rfl hj rfl ?_
  refine d_s (st' := [.int (k + (Int32.ofInt (1)))]) (pc' := 71) (lv' := [(2, .int (x - (Int32.ofInt (1)))), (4, .int 0), (3, .int k), (0, .ref 49), (1, .int y)]) (hp' := rH e g q c l) (i := .iadd) (len := 1) rfl hj rfl ?_
  refine d_s (st' := []) (pc' := 72) (lv' := [(3, .int (k + (Int32.ofInt (1)))), (2, .int (x - (Int32.ofInt (1)))), (4, .int 0), (0, .ref 49), (1, .int y)]) (hp' := rH e g q c l) (i := .istore_n 3) (len := 1) rfl hj rfl ?_
  refine d_s (st' := []) (pc' := 4) (lv' := [(3, .int (k + (Int32.ofInt (1)))), (2, .int (x - (Int32.ofInt (1)))), (4, .int 0), (0, .ref 49), (1, .int y)]) (hp' := rH e g q c l) (i := .goto (-68)) (len := 3) rfl hj rfl ?_
  exact h
set_option maxRecDepth 100000 in
set_option maxHeartbeats 4000000 in
theorem dB_out {x k y p : Int32} (hz : k < 0 ∨ 66000 ≤ k.toNatClampNeg) (hx : ¬ xCn .le x 0 = true) : pD b [] d 370 4 [(3, .int k), (2, .int x), (4, .int p), (0, .ref 49), (1, .int y)] [] (rH e g q c l) := by
  obtain ⟨y0, cb, hj⟩ := mq_370
  refine d_s (st' := [.int x]) (pc' := 5) (lv' := [(3, .int k), (2, .int x), (4, .int p), (0, .ref 49), (1, .int y)]) (hp' := rH e g q c l) (i := .iload_n 2) (len := 1) rfl hj rfl ?_
  refine d_s (st' := []) (pc' := (if xCn .le x 0 = true then 75 else 8)) (lv' := [(3, .int k), (2, .int x), (4, .int p), (0, .ref 49), (1, .int y)]) (hp' := rH e g q c l) (i := .ifCond .le 70) (len := 3) rfl hj rfl ?_
  rw [if_neg hx]
  refine d_s (st' := [.ref 49]) (pc' := 9) (lv' := [(3, .int k), (2, .int x), (4, .int p), (0, .ref 49), (1, .int y)]) (hp' := rH e g q c l) (i := .aload_n 0) (len := 1) rfl hj rfl ?_
  refine d_s (st' := [.ref 55]) (pc' := 12) (lv' := [(3, .int k), (2, .int x), (4, .int p), (0, .ref 49), (1, .int y)]) (hp' := rH e g q c l) (i := .getfield 31) (len := 3) rfl hj rfl ?_
  refine d_s (st' := [.int k, .ref 55]) (pc' := 13) (lv' := [(3, .int k), (2, .int x), (4, .int p), (0, .ref 49), (1, .int y)]) (hp' := rH e g q c l) (i := .iload_n 3) (len := 1) rfl hj rfl ?_
  exact ⟨1, Or.inl ⟨rfl, k, 55, [], 66000, c 55, rfl, rfl, hz⟩⟩
set_option maxRecDepth 100000 in
set_option maxHeartbeats 4000000 in
theorem dA_in {y : Int32} (h : pD b [] d 370 4 [(3, .int y), (2, .int (Int32.ofInt (1))), (0, .ref 49), (1, .int y)] [] (rH e g q c l)) : pD b [] d 370 0 [(0, .ref 49), (1, .int y)] [] (rH e g q c l) := by
  obtain ⟨y0, cb, hj⟩ := mq_370
  refine d_s (st' := [.int (Int32.ofInt (1))]) (pc' := 1) (lv' := [(0, .ref 49), (1, .int y)]) (hp' := rH e g q c l) (i := .iconst 1) (len := 1) rfl hj rfl ?_
  refine d_s (st' := []) (pc' := 2) (lv' := [(2, .int (Int32.ofInt (1))), (0, .ref 49), (1, .int y)]) (hp' := rH e g q c l) (i := .istore_n 2) (len := 1) rfl hj rfl ?_
  refine d_s (st' := [.int y]) (pc' := 3) (lv' := [(2, .int (Int32.ofInt (1))), (0, .ref 49), (1, .int y)]) (hp' := rH e g q c l) (i := .iload_n 1) (len := 1) rfl hj rfl ?_
  refine d_s (st' := []) (pc' := 4) (lv' := [(3, .int y), (2, .int (Int32.ofInt (1))), (0, .ref 49), (1, .int y)]) (hp' := rH e g q c l) (i := .istore_n 3) (len := 1) rfl hj rfl ?_
  exact h
theorem dB_0s {y : Int32} : ∀ (r k L : Nat) (p : Int32), k + r = 66000 → r < L → L < 2 ^ 31 → (∀ i, k ≤ i → i < 66000 → c 55 i = 0) → pD b [] d 370 4 [(3, .int (nI k)), (2, .int (nI L)), (4, .int p), (0, .ref 49), (1, .int y)] [] (rH e g q c l) := by
  intro r
  induction r with
  | zero =>
    intro k L p hk hL hb h0
    exact dB_out (Or.inr (by rw [nI_clamp (by omega)]; omega)) (fun h => absurd (of_decide_eq_true h) (nI_nle (by omega) hb))
  | succ r ih =>
    intro k L p hk hL hb h0
    refine dB_0 (nI_in (by omega) (by decide)) (fun h => absurd (of_decide_eq_true h) (nI_nle (by omega) hb)) (by rw [nI_clamp (by omega)]; exact h0 k (Nat.le_refl _) (by omega)) ?_
    obtain ⟨L', rfl⟩ : ∃ L', L = L' + 1 := ⟨L - 1, by omega⟩
    rw [show nI k + (Int32.ofInt (1)) = nI (k + 1) from (nI_succ k).symm, show nI (L' + 1) - (Int32.ofInt (1)) = nI L' from nI_pred _]
    exact ih (k + 1) L' 0 (by omega) (by omega) (by omega) (fun i h1 h2 => h0 i (by omega) h2)
theorem dB_18s {y : Int32} (s : Nat) : ∀ (r t : Nat) (p : Int32), (∀ i, s < i → i ≤ s + (t + r) → c 55 i = 18) → s + (t + r) + 1 ≤ 66000 → (∀ p : Int32, pD b [] d 370 4 [(3, .int (nI (s + 1 + (t + r)))), (2, .int (nI (7 * (t + r) + 1))), (4, .int p), (0, .ref 49), (1, .int y)] [] (rH e g q c l)) → pD b [] d 370 4 [(3, .int (nI (s + 1 + t))), (2, .int (nI (7 * t + 1))), (4, .int p), (0, .ref 49), (1, .int y)] [] (rH e g q c l) := by
  intro r
  induction r with
  | zero => intro t p _ _ h; exact h p
  | succ r ih =>
    intro t p h18 hb h
    refine dB_18 (nI_in (by omega) (by decide)) (fun h => absurd (of_decide_eq_true h) (nI_nle (by omega) (by omega))) (by rw [nI_clamp (by omega)]; exact h18 _ (by omega) (by omega)) ?_
    rw [n7_eq, show nI (s + 1 + t) + (Int32.ofInt (1)) = nI (s + 1 + (t + 1)) from (nI_succ _).symm]
    refine ih (t + 1) 18 (fun i h1 h2 => h18 i h1 (by omega)) (by omega) ?_
    rw [show t + 1 + r = t + (r + 1) from by omega]
    exact h
/-- endOf reads beyond the row's end -/
theorem eo_die {s m : Nat} (h18 : ∀ i, s < i → i ≤ s + m → c 55 i = 18) (h0 : ∀ i, s + m < i → i < 66000 → c 55 i = 0) (hm : 1 ≤ m) (hs : s + m < 66000) (hbig : 66000 ≤ s + 8 * m) : pD b [] d 370 0 [(0, .ref 49), (1, .int (nI (s + 1)))] [] (rH e g q c l) := by
  refine dA_in ?_
  refine dA_18 (nI_in (by omega) (by decide)) (by decide +kernel) (by rw [nI_clamp (by omega)]; exact h18 _ (by omega) (by omega)) ?_
  obtain ⟨m', rfl⟩ : ∃ m', m = 1 + m' := ⟨m - 1, by omega⟩
  rw [show Int32.ofInt (1) - Int32.ofInt (1) + 18 - (Int8.ofInt (10)).toInt32 = nI (7 * 1 + 1) from by decide +kernel, show nI (s + 1) + Int32.ofInt (1) = nI (s + 1 + 1) from (nI_succ _).symm]
  refine dB_18s s m' 1 18 (fun i h1 h2 => h18 i h1 h2) (by omega) (fun p => ?_)
  exact dB_0s (66000 - (s + 1 + (1 + m'))) (s + 1 + (1 + m')) (7 * (1 + m') + 1) p (by omega) (by omega) (by omega) (fun i h1 h2 => h0 i (by omega) h2)
set_option maxRecDepth 100000 in
set_option maxHeartbeats 4000000 in
/-- the method of # reads beyond the row's end -/
theorem fld_die {K s m w : Nat} {x1 : Int32} (hI : tI K s m w g c) (hm : 1 ≤ m) (hs : s + m < 66000) (hbig : 66000 ≤ s + 8 * m) (hK : K < 1300) (hw : w < 4000) : pD b [] (d + 2) 381 74 [(2, .int 1), (1, .int x1), (0, .ref 49)] [.int (nI K)] (rH e g q c l) := by
  obtain ⟨h31, h30, h43, h56, hh, h18, h0⟩ := hI
  have hwz : ¬ ((upd g 24 (g 24 - Int32.ofInt (1))) 43 < 0 ∨ 4000 ≤ ((upd g 24 (g 24 - Int32.ofInt (1))) 43).toNatClampNeg) := by
    rw [show (upd g 24 (g 24 - Int32.ofInt (1))) 43 = g 43 from rfl, h43]
    exact nI_in hw (by decide)
  have hKc : (nI K).toNatClampNeg = K := nI_clamp (by omega)
  have hsc : (nI s).toNatClampNeg = s := nI_clamp (by omega)
  obtain ⟨f1, hc1⟩ := bk_351_0 (b := b) (d := d + 1) (e := e) (g := g) (q := q) (c := c) (l := l)
  obtain ⟨g2, c2, ⟨f2, hem⟩, r55, r56⟩ : ∃ (g2 : Nat → Int32) (c2 : Nat → Nat → Int32), rr b e (d + 1) 355 0 [(0, .ref 49), (1, .int (Int32.ofInt (4))), (2, .int (1 - Int32.ofInt (1)))] [] (upd g 24 (g 24 - Int32.ofInt (1))) q c l (some (.int (nI w)), rH e g2 q c2 l) ∧ c2 55 = c 55 ∧ c2 56 = c 56 := by
    have hem := bk_355_0 (b := b) (d := d + 1) (x1 := Int32.ofInt (4)) (x2 := 1 - Int32.ofInt (1)) (e := e) (g := upd g 24 (g 24 - Int32.ofInt (1))) (q := q) (c := c) (l := l) hwz hwz hwz hwz
    have ev : (upd (upd g 24 (g 24 - Int32.ofInt (1))) 43 ((upd g 24 (g 24 - Int32.ofInt (1))) 43 + Int32.ofInt (1))) 43 - Int32.ofInt (1) = nI w := by
      show g 43 + Int32.ofInt (1) - Int32.ofInt (1) = nI w
      rw [h43]
      exact Int32.add_sub_cancel _ _
    rw [ev] at hem
    exact ⟨_, _, hem, rfl, rfl⟩
  obtain ⟨f3, hhd⟩ : rr b e (d + 1) 382 0 [(0, .ref 49), (1, .int (nI K))] [] g2 q c2 l (some (.int (c 55 s)), rH e g2 q c2 l) := by
    have h := bk_382_0 (b := b) (d := d + 1) (x1 := nI K) (e := e) (g := g2) (q := q) (c := c2) (l := l) (nI_in hK (by decide)) (by rw [hKc, r56, h56]; exact nI_in (by omega) (by decide))
    rw [hKc, r56, h56, hsc, r55] at h
    exact h
  have hk0 : xCn .ge (nI K) 0 = true := decide_eq_true (nI_pos' (by omega))
  have hb1 : ¬ xCn .lt (c 55 s) ((Int8.ofInt (10)).toInt32) = true := by rcases hh with h | h <;> rw [h] <;> decide +kernel
  have hb2 : ¬ xCn .ge (c 55 s) ((Int8.ofInt (100)).toInt32) = true := by rcases hh with h | h <;> rw [h] <;> decide +kernel
  have hb3 : xCn .le 1 ((c 55 s) - (Int8.ofInt (10)).toInt32) = true := by rcases hh with h | h <;> rw [h] <;> decide +kernel
  have hz56 : ¬ (nI K < 0 ∨ 1300 ≤ (nI K).toNatClampNeg) := nI_in hK (by decide)
  have hk56 : c2 56 (nI K).toNatClampNeg = nI s := by rw [hKc, r56, h56]
  obtain ⟨y0, cb, hj⟩ := mq_381
  refine d_s (st' := []) (pc' := 75) (lv' := [(3, .int (nI K)), (2, .int 1), (1, .int x1), (0, .ref 49)]) (hp' := rH e g q c l) (i := .istore_n 3) (len := 1) rfl hj rfl ?_
  refine d_s (st' := [.ref 49]) (pc' := 76) (lv' := [(3, .int (nI K)), (2, .int 1), (1, .int x1), (0, .ref 49)]) (hp' := rH e g q c l) (i := .aload_n 0) (len := 1) rfl hj rfl ?_
  obtain ⟨y351, cb351, hj351⟩ := mq_351
  refine pD_callR (rest := []) (d := d + 1) (ki := 0) (kd := 0) (j' := 351) (M' := (y351, cb351, 1, none, 12, 0, 0, 0)) (avs := [.ref 49]) (r := []) (rv := none) (hp1 := rH e (upd g 24 (g 24 - Int32.ofInt (1))) q c l) rfl rfl rfl hj rfl rfl rfl (rq_n rfl rfl hj351 rfl rfl) rfl rfl rfl hc1 (Nat.le_of_ble_eq_true rfl) ?_
  show pD b [] (d + 2) 381 79 [(3, .int (nI K)), (2, .int 1), (1, .int x1), (0, .ref 49)] [] (rH e (upd g 24 (g 24 - Int32.ofInt (1))) q c l)
  refine d_s (st' := [.ref 49]) (pc' := 80) (lv' := [(3, .int (nI K)), (2, .int 1), (1, .int x1), (0, .ref 49)]) (hp' := rH e (upd g 24 (g 24 - Int32.ofInt (1))) q c l) (i := .aload_n 0) (len := 1) rfl hj rfl ?_
  refine d_s (st' := [.int (Int32.ofInt (4)), .ref 49]) (pc' := 81) (lv' := [(3, .int (nI K)), (2, .int 1), (1, .int x1), (0, .ref 49)]) (hp' := rH e (upd g 24 (g 24 - Int32.ofInt (1))) q c l) (i := .iconst 4) (len := 1) rfl hj rfl ?_
  refine d_s (st' := [.int 1, .int (Int32.ofInt (4)), .ref 49]) (pc' := 82) (lv' := [(3, .int (nI K)), (2, .int 1), (1, .int x1), (0, .ref 49)]) (hp' := rH e (upd g 24 (g 24 - Int32.ofInt (1))) q c l) (i := .iload_n 2) (len := 1) rfl hj rfl ?_
  refine d_s (st' := [.int (Int32.ofInt (1)), .int 1, .int (Int32.ofInt (4)), .ref 49]) (pc' := 83) (lv' := [(3, .int (nI K)), (2, .int 1), (1, .int x1), (0, .ref 49)]) (hp' := rH e (upd g 24 (g 24 - Int32.ofInt (1))) q c l) (i := .iconst 1) (len := 1) rfl hj rfl ?_
  refine d_s (st' := [.int (1 - (Int32.ofInt (1))), .int (Int32.ofInt (4)), .ref 49]) (pc' := 84) (lv' := [(3, .int (nI K)), (2, .int 1), (1, .int x1), (0, .ref 49)]) (hp' := rH e (upd g 24 (g 24 - Int32.ofInt (1))) q c l) (i := .isub) (len := 1) rfl hj rfl ?_
  obtain ⟨y355, cb355, hj355⟩ := mq_355
  refine pD_callR (rest := []) (d := d + 1) (ki := 0) (kd := 0) (j' := 355) (M' := (y355, cb355, 3, some .int, 12, 2, 0, 0)) (avs := [.ref 49, .int (Int32.ofInt (4)), .int (1 - (Int32.ofInt (1)))]) (r := []) (rv := some (.int (nI w))) (hp1 := rH e g2 q c2 l) rfl rfl rfl hj rfl rfl rfl (rq_n rfl rfl hj355 rfl rfl) rfl rfl rfl hem (Nat.le_of_ble_eq_true rfl) ?_
  show pD b [] (d + 2) 381 87 [(3, .int (nI K)), (2, .int 1), (1, .int x1), (0, .ref 49)] [.int (nI w)] (rH e g2 q c2 l)
  refine d_s (st' := []) (pc' := 88) (lv' := [(3, .int (nI K)), (2, .int 1), (1, .int x1), (0, .ref 49)]) (hp' := rH e g2 q c2 l) (i := .pop) (len := 1) rfl hj rfl ?_
  refine d_s (st' := [.int (nI K)]) (pc' := 89) (lv' := [(3, .int (nI K)), (2, .int 1), (1, .int x1), (0, .ref 49)]) (hp' := rH e g2 q c2 l) (i := .iload_n 3) (len := 1) rfl hj rfl ?_
  refine d_s (st' := []) (pc' := (if xCn .ge (nI K) 0 = true then 94 else 92)) (lv' := [(3, .int (nI K)), (2, .int 1), (1, .int x1), (0, .ref 49)]) (hp' := rH e g2 q c2 l) (i := .ifCond .ge 5) (len := 3) rfl hj rfl ?_
  rw [if_pos hk0]
  refine d_s (st' := [.ref 49]) (pc' := 95) (lv' := [(3, .int (nI K)), (2, .int 1), (1, .int x1), (0, .ref 49)]) (hp' := rH e g2 q c2 l) (i := .aload_n 0) (len := 1) rfl hj rfl ?_
  refine d_s (st' := [.int (nI K), .ref 49]) (pc' := 96) (lv' := [(3, .int (nI K)), (2, .int 1), (1, .int x1), (0, .ref 49)]) (hp' := rH e g2 q c2 l) (i := .iload_n 3) (len := 1) rfl hj rfl ?_
  obtain ⟨y382, cb382, hj382⟩ := mq_382
  refine pD_callR (rest := []) (d := d + 1) (ki := 0) (kd := 0) (j' := 382) (M' := (y382, cb382, 2, some .int, 12, 1, 0, 0)) (avs := [.ref 49, .int (nI K)]) (r := []) (rv := some (.int (c 55 s))) (hp1 := rH e g2 q c2 l) rfl rfl rfl hj rfl rfl rfl (rq_n rfl rfl hj382 rfl rfl) rfl rfl rfl hhd (Nat.le_of_ble_eq_true rfl) ?_
  show pD b [] (d + 2) 381 99 [(3, .int (nI K)), (2, .int 1), (1, .int x1), (0, .ref 49)] [.int (c 55 s)] (rH e g2 q c2 l)
  refine d_s (st' := []) (pc' := 101) (lv' := [(4, .int (c 55 s)), (3, .int (nI K)), (2, .int 1), (1, .int x1), (0, .ref 49)]) (hp' := rH e g2 q c2 l) (i := .istore 4) (len := 2) rfl hj rfl ?_
  refine d_s (st' := [.int (c 55 s)]) (pc' := 103) (lv' := [(4, .int (c 55 s)), (3, .int (nI K)), (2, .int 1), (1, .int x1), (0, .ref 49)]) (hp' := rH e g2 q c2 l) (i := .iload 4) (len := 2) rfl hj rfl ?_
  refine d_s (st' := [.int (Int8.ofInt (10)).toInt32, .int (c 55 s)]) (pc' := 105) (lv' := [(4, .int (c 55 s)), (3, .int (nI K)), (2, .int 1), (1, .int x1), (0, .ref 49)]) (hp' := rH e g2 q c2 l) (i := .bipush 10) (len := 2) rfl hj rfl ?_
  refine d_s (st' := []) (pc' := (if xCn .lt (c 55 s) ((Int8.ofInt (10)).toInt32) = true then 124 else 108)) (lv' := [(4, .int (c 55 s)), (3, .int (nI K)), (2, .int 1), (1, .int x1), (0, .ref 49)]) (hp' := rH e g2 q c2 l) (i := .if_icmp .lt 19) (len := 3) rfl hj rfl ?_
  rw [if_neg hb1]
  refine d_s (st' := [.int (c 55 s)]) (pc' := 110) (lv' := [(4, .int (c 55 s)), (3, .int (nI K)), (2, .int 1), (1, .int x1), (0, .ref 49)]) (hp' := rH e g2 q c2 l) (i := .iload 4) (len := 2) rfl hj rfl ?_
  refine d_s (st' := [.int (Int8.ofInt (100)).toInt32, .int (c 55 s)]) (pc' := 112) (lv' := [(4, .int (c 55 s)), (3, .int (nI K)), (2, .int 1), (1, .int x1), (0, .ref 49)]) (hp' := rH e g2 q c2 l) (i := .bipush 100) (len := 2) rfl hj rfl ?_
  refine d_s (st' := []) (pc' := (if xCn .ge (c 55 s) ((Int8.ofInt (100)).toInt32) = true then 124 else 115)) (lv' := [(4, .int (c 55 s)), (3, .int (nI K)), (2, .int 1), (1, .int x1), (0, .ref 49)]) (hp' := rH e g2 q c2 l) (i := .if_icmp .ge 12) (len := 3) rfl hj rfl ?_
  rw [if_neg hb2]
  refine d_s (st' := [.int 1]) (pc' := 116) (lv' := [(4, .int (c 55 s)), (3, .int (nI K)), (2, .int 1), (1, .int x1), (0, .ref 49)]) (hp' := rH e g2 q c2 l) (i := .iload_n 2) (len := 1) rfl hj rfl ?_
  refine d_s (st' := [.int (c 55 s), .int 1]) (pc' := 118) (lv' := [(4, .int (c 55 s)), (3, .int (nI K)), (2, .int 1), (1, .int x1), (0, .ref 49)]) (hp' := rH e g2 q c2 l) (i := .iload 4) (len := 2) rfl hj rfl ?_
  refine d_s (st' := [.int (Int8.ofInt (10)).toInt32, .int (c 55 s), .int 1]) (pc' := 120) (lv' := [(4, .int (c 55 s)), (3, .int (nI K)), (2, .int 1), (1, .int x1), (0, .ref 49)]) (hp' := rH e g2 q c2 l) (i := .bipush 10) (len := 2) rfl hj rfl ?_
  refine d_s (st' := [.int ((c 55 s) - ((Int8.ofInt (10)).toInt32)), .int 1]) (pc' := 121) (lv' := [(4, .int (c 55 s)), (3, .int (nI K)), (2, .int 1), (1, .int x1), (0, .ref 49)]) (hp' := rH e g2 q c2 l) (i := .isub) (len := 1) rfl hj rfl ?_
  refine d_s (st' := []) (pc' := (if xCn .le 1 ((c 55 s) - ((Int8.ofInt (10)).toInt32)) = true then 132 else 124)) (lv' := [(4, .int (c 55 s)), (3, .int (nI K)), (2, .int 1), (1, .int x1), (0, .ref 49)]) (hp' := rH e g2 q c2 l) (i := .if_icmp .le 11) (len := 3) rfl hj rfl ?_
  rw [if_pos hb3]
  refine d_s (st' := [.ref 49]) (pc' := 133) (lv' := [(4, .int (c 55 s)), (3, .int (nI K)), (2, .int 1), (1, .int x1), (0, .ref 49)]) (hp' := rH e g2 q c2 l) (i := .aload_n 0) (len := 1) rfl hj rfl ?_
  refine d_s (st' := [.ref 56]) (pc' := 136) (lv' := [(4, .int (c 55 s)), (3, .int (nI K)), (2, .int 1), (1, .int x1), (0, .ref 49)]) (hp' := rH e g2 q c2 l) (i := .getfield 34) (len := 3) rfl hj rfl ?_
  refine d_s (st' := [.int (nI K), .ref 56]) (pc' := 137) (lv' := [(4, .int (c 55 s)), (3, .int (nI K)), (2, .int 1), (1, .int x1), (0, .ref 49)]) (hp' := rH e g2 q c2 l) (i := .iload_n 3) (len := 1) rfl hj rfl ?_
  refine d_s (st' := [.int (c2 56 ((nI K)).toNatClampNeg)]) (pc' := 138) (lv' := [(4, .int (c 55 s)), (3, .int (nI K)), (2, .int 1), (1, .int x1), (0, .ref 49)]) (hp' := rH e g2 q c2 l) (i := .iaload) (len := 1) rfl hj (by show xK 1 1 ((xAld _ _ _).map _) = _; rw [ald_56 hz56]; rfl) ?_
  rw [hk56]
  refine d_s (st' := [.int (Int32.ofInt (1)), .int (nI s)]) (pc' := 139) (lv' := [(4, .int (c 55 s)), (3, .int (nI K)), (2, .int 1), (1, .int x1), (0, .ref 49)]) (hp' := rH e g2 q c2 l) (i := .iconst 1) (len := 1) rfl hj rfl ?_
  refine d_s (st' := [.int ((nI s) + (Int32.ofInt (1)))]) (pc' := 140) (lv' := [(4, .int (c 55 s)), (3, .int (nI K)), (2, .int 1), (1, .int x1), (0, .ref 49)]) (hp' := rH e g2 q c2 l) (i := .iadd) (len := 1) rfl hj rfl ?_
  refine d_s (st' := []) (pc' := 142) (lv' := [(5, .int ((nI s) + (Int32.ofInt (1)))), (4, .int (c 55 s)), (3, .int (nI K)), (2, .int 1), (1, .int x1), (0, .ref 49)]) (hp' := rH e g2 q c2 l) (i := .istore 5) (len := 2) rfl hj rfl ?_
  refine d_s (st' := [.int (Int32.ofInt (1))]) (pc' := 143) (lv' := [(5, .int ((nI s) + (Int32.ofInt (1)))), (4, .int (c 55 s)), (3, .int (nI K)), (2, .int 1), (1, .int x1), (0, .ref 49)]) (hp' := rH e g2 q c2 l) (i := .iconst 1) (len := 1) rfl hj rfl ?_
  refine d_s (st' := []) (pc' := 145) (lv' := [(6, .int (Int32.ofInt (1))), (5, .int ((nI s) + (Int32.ofInt (1)))), (4, .int (c 55 s)), (3, .int (nI K)), (2, .int 1), (1, .int x1), (0, .ref 49)]) (hp' := rH e g2 q c2 l) (i := .istore 6) (len := 2) rfl hj rfl ?_
  refine d_s (st' := [.int (Int32.ofInt (1))]) (pc' := 147) (lv' := [(6, .int (Int32.ofInt (1))), (5, .int ((nI s) + (Int32.ofInt (1)))), (4, .int (c 55 s)), (3, .int (nI K)), (2, .int 1), (1, .int x1), (0, .ref 49)]) (hp' := rH e g2 q c2 l) (i := .iload 6) (len := 2) rfl hj rfl ?_
  refine d_s (st' := [.int 1, .int (Int32.ofInt (1))]) (pc' := 148) (lv' := [(6, .int (Int32.ofInt (1))), (5, .int ((nI s) + (Int32.ofInt (1)))), (4, .int (c 55 s)), (3, .int (nI K)), (2, .int 1), (1, .int x1), (0, .ref 49)]) (hp' := rH e g2 q c2 l) (i := .iload_n 2) (len := 1) rfl hj rfl ?_
  refine d_s (st' := []) (pc' := (if xCn .ge (Int32.ofInt (1)) 1 = true then 165 else 151)) (lv' := [(6, .int (Int32.ofInt (1))), (5, .int ((nI s) + (Int32.ofInt (1)))), (4, .int (c 55 s)), (3, .int (nI K)), (2, .int 1), (1, .int x1), (0, .ref 49)]) (hp' := rH e g2 q c2 l) (i := .if_icmp .ge 17) (len := 3) rfl hj rfl ?_
  rw [if_pos (by decide +kernel)]
  refine d_s (st' := [.ref 49]) (pc' := 166) (lv' := [(6, .int (Int32.ofInt (1))), (5, .int ((nI s) + (Int32.ofInt (1)))), (4, .int (c 55 s)), (3, .int (nI K)), (2, .int 1), (1, .int x1), (0, .ref 49)]) (hp' := rH e g2 q c2 l) (i := .aload_n 0) (len := 1) rfl hj rfl ?_
  refine d_s (st' := [.int ((nI s) + (Int32.ofInt (1))), .ref 49]) (pc' := 168) (lv' := [(6, .int (Int32.ofInt (1))), (5, .int ((nI s) + (Int32.ofInt (1)))), (4, .int (c 55 s)), (3, .int (nI K)), (2, .int 1), (1, .int x1), (0, .ref 49)]) (hp' := rH e g2 q c2 l) (i := .iload 5) (len := 2) rfl hj rfl ?_
  refine d_s (st' := [.ref 49, .int ((nI s) + (Int32.ofInt (1))), .ref 49]) (pc' := 169) (lv' := [(6, .int (Int32.ofInt (1))), (5, .int ((nI s) + (Int32.ofInt (1)))), (4, .int (c 55 s)), (3, .int (nI K)), (2, .int 1), (1, .int x1), (0, .ref 49)]) (hp' := rH e g2 q c2 l) (i := .aload_n 0) (len := 1) rfl hj rfl ?_
  refine d_s (st' := [.int ((nI s) + (Int32.ofInt (1))), .ref 49, .int ((nI s) + (Int32.ofInt (1))), .ref 49]) (pc' := 171) (lv' := [(6, .int (Int32.ofInt (1))), (5, .int ((nI s) + (Int32.ofInt (1)))), (4, .int (c 55 s)), (3, .int (nI K)), (2, .int 1), (1, .int x1), (0, .ref 49)]) (hp' := rH e g2 q c2 l) (i := .iload 5) (len := 2) rfl hj rfl ?_
  rw [show nI s + (Int32.ofInt (1)) = nI (s + 1) from (nI_succ s).symm]
  obtain ⟨y370, cb370, hj370⟩ := mq_370
  exact pD_call (rest := []) (d := d + 1) (j' := 370) (M' := (y370, cb370, 5, some .int, 12, 1, 0, 0)) (avs := [.ref 49, .int (nI (s + 1))]) (r := [.int (nI (s + 1)), .ref 49]) rfl hj rfl rfl rfl (rq_n rfl rfl hj370 rfl rfl) rfl rfl rfl (Or.inl (eo_die (fun i h1 h2 => by rw [r55]; exact h18 i h1 h2) (fun i h1 h2 => by rw [r55]; exact h0 i h1 h2) hm hs hbig))
end DS
