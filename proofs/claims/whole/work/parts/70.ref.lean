/-! THE REFERENCE IN A GENERAL STATE: its int fields g, long fields q, int arrays c, long arrays l (by their places), any cells e ahead of it. -/
def updA (c : Nat → Nat → Int32) (a : Nat) (f : Nat → Int32) : Nat → Nat → Int32 := fun b => if b = a then f else c b
def updB (l : Nat → Nat → Int64) (a : Nat) (f : Nat → Int64) : Nat → Nat → Int64 := fun b => if b = a then f else l b
def updQ (q : Nat → Int64) (k : Nat) (x : Int64) : Nat → Int64 := fun j => if j = k then x else q j
set_option maxRecDepth 100000 in
def rF (g : Nat → Int32) (q : Nat → Int64) : List Value := [.ref 50, .int (g 1), .ref 51, .int (g 3), .int (g 4), .int (g 5), .ref 52, .ref 53, .ref 54, .int (g 9), .int (g 10), .int (g 11), .int (g 12), .int (g 13), .int (g 14), .long (q 15), .int (g 16), .int (g 17), .int (g 18), .int (g 19), .int (g 20), .int (g 21), .int (g 22), .int (g 23), .int (g 24), .int (g 25), .long (q 26), .int (g 27), .int (g 28), .ref 55, .int (g 30), .int (g 31), .ref 56, .ref 57, .int (g 34), .ref 58, .int (g 36), .ref 59, .ref 60, .ref 61, .int (g 40), .int (g 41), .int (g 42), .int (g 43), .ref 62, .ref 63, .ref 64, .ref 65, .ref 66, .int (g 49), .ref 67, .ref 68, .ref 69, .ref 70, .ref 71, .int (g 55), .int (g 56), .ref 72, .ref 73, .ref 74, .ref 75, .int (g 61), .ref 76, .int (g 63), .int (g 64), .int (g 65), .int (g 66), .int (g 67), .int (g 68), .int (g 69), .ref 77, .int (g 71), .ref 78, .ref 79, .ref 80, .int (g 75), .int (g 76), .int (g 77), .ref 81, .int (g 79), .ref 82, .ref 83, .ref 84, .int (g 83), .ref 85, .int (g 85), .ref 86, .ref 87, .ref 88, .ref 89, .ref 90, .ref 91, .int (g 92), .ref 92, .int (g 94), .int (g 95), .int (g 96), .ref 93, .ref 94, .ref 95, .ref 96, .ref 97, .int (g 102), .int (g 103), .int (g 104), .int (g 105), .int (g 106), .int (g 107), .ref 98, .ref 99, .int (g 110), .ref 100, .ref 101, .ref 102, .ref 103, .int (g 115), .ref 104, .ref 105, .int (g 118), .ref 106, .ref 107, .ref 108, .ref 109, .ref 110, .int (g 124), .int (g 125), .ref 111, .ref 112, .ref 113, .ref 114, .ref 115, .ref 116, .ref 117, .ref 118, .int (g 134), .int (g 135), .int (g 136), .int (g 137), .ref 119, .int (g 139), .int (g 140), .ref 120, .ref 121, .int (g 143)]
set_option maxRecDepth 100000 in
def rH (e : Nat → x_E) (g : Nat → Int32) (q : Nat → Int64) (c : Nat → Nat → Int32) (l : Nat → Nat → Int64) : List x_E := [e 0, e 1, e 2, e 3, e 4, e 5, e 6, e 7, e 8, e 9, e 10, e 11, e 12, e 13, e 14, e 15, e 16, e 17, e 18, e 19, e 20, e 21, e 22, e 23, e 24, e 25, e 26, e 27, e 28, e 29, e 30, e 31, e 32, e 33, e 34, e 35, e 36, e 37, e 38, e 39, e 40, e 41, e 42, e 43, e 44, e 45, e 46, e 47, e 48, .inr (12, rF g q), .inl (0, 6000, .inl (c 50)), .inl (0, 6000, .inl (c 51)), .inl (3, 31, .inl (c 52)), .inl (3, 71, .inl (c 53)), .inl (3, 18, .inl (c 54)), .inl (0, 66000, .inl (c 55)), .inl (0, 1300, .inl (c 56)), .inl (0, 1300, .inl (c 57)), .inl (0, 100, .inl (c 58)), .inl (1, 64, .inr (.inl (l 59))), .inl (0, 64, .inl (c 60)), .inl (0, 64, .inl (c 61)), .inl (0, 4000, .inl (c 62)), .inl (0, 4000, .inl (c 63)), .inl (0, 4000, .inl (c 64)), .inl (0, 4000, .inl (c 65)), .inl (1, 4000, .inr (.inl (l 66))), .inl (0, 900, .inl (c 67)), .inl (0, 900, .inl (c 68)), .inl (0, 900, .inl (c 69)), .inl (1, 900, .inr (.inl (l 70))), .inl (4, 900, .inl (c 71)), .inl (1, 80, .inr (.inl (l 72))), .inl (0, 80, .inl (c 73)), .inl (0, 80, .inl (c 74)), .inl (0, 400, .inl (c 75)), .inl (0, 2000, .inl (c 76)), .inl (0, 21000, .inl (c 77)), .inl (0, 435200, .inl (c 78)), .inl (0, 6800, .inl (c 79)), .inl (0, 1500000, .inl (c 80)), .inl (0, 4000, .inl (c 81)), .inl (0, 1000, .inl (c 82)), .inl (0, 1000, .inl (c 83)), .inl (4, 1000, .inl (c 84)), .inl (0, 8, .inl (c 85)), .inl (0, 66000, .inl (c 86)), .inl (0, 66000, .inl (c 87)), .inl (0, 66000, .inl (c 88)), .inl (0, 66000, .inl (c 89)), .inl (0, 66000, .inl (c 90)), .inl (0, 66000, .inl (c 91)), .inl (0, 80000, .inl (c 92)), .inl (1, 1400, .inr (.inl (l 93))), .inl (0, 1400, .inl (c 94)), .inl (0, 1400, .inl (c 95)), .inl (0, 1400, .inl (c 96)), .inl (0, 1400, .inl (c 97)), .inl (0, 66000, .inl (c 98)), .inl (0, 66000, .inl (c 99)), .inl (0, 3000, .inl (c 100)), .inl (0, 3000, .inl (c 101)), .inl (0, 3000, .inl (c 102)), .inl (0, 3000, .inl (c 103)), .inl (0, 1400, .inl (c 104)), .inl (0, 1400, .inl (c 105)), .inl (1, 41, .inr (.inl (l 106))), .inl (0, 41, .inl (c 107)), .inl (0, 41, .inl (c 108)), .inl (0, 41, .inl (c 109)), .inl (0, 41, .inl (c 110)), .inl (0, 700, .inl (c 111)), .inl (0, 700, .inl (c 112)), .inl (0, 700, .inl (c 113)), .inl (0, 700, .inl (c 114)), .inl (0, 700, .inl (c 115)), .inl (0, 700, .inl (c 116)), .inl (0, 700, .inl (c 117)), .inl (0, 16, .inl (c 118)), .inl (0, 24000, .inl (c 119)), .inl (0, 16, .inl (c 120)), .inl (0, 20001, .inl (c 121))]
theorem n_wr {Z : x_T} {Y : x_Y} {DT : Nat → Nat → Option (Instr × Nat)} {f d j pc : Nat} {lv : List (Nat × Value)} {st : List Value} {hp : List x_E} {k n : Nat} {i : Instr} {len : Nat} {M : x_M} {pc' : Nat} {lv' : List (Nat × Value)} {st' : List Value} {hp' : List x_E} (hd : DT j pc = some (i, len)) (hj : zM Z j = some M) (hg : gH i = gPl i) (hh : sH i = hWr i) (hs : xs1F i (zcl Z) ((xy M).name == "<init>") (xn M) (zF Z (xo M)) (zKc Z (xo M)) (zKl Z (xo M)) len pc lv st hp = some (pc', lv', st', hp')) : nrun Z Y DT (f + 1) d j pc lv st hp k n = nrun Z Y DT f d j pc' lv' st' hp' k n := by
  conv => lhs; unfold nrun
  rw [fN_eq, hd]
  dsimp only
  rw [hj]
  dsimp only
  rw [hg]
  unfold gPl
  rw [hh]
  unfold hWr
  rw [hs]
  dsimp only
  rw [fH_eq]
theorem n_wa {Z : x_T} {Y : x_Y} {DT : Nat → Nat → Option (Instr × Nat)} {f d j pc : Nat} {lv : List (Nat × Value)} {st : List Value} {hp : List x_E} {k n : Nat} {i : Instr} {len : Nat} {M : x_M} {pc' : Nat} {lv' : List (Nat × Value)} {st' : List Value} {hp' : List x_E} (hd : DT j pc = some (i, len)) (hj : zM Z j = some M) (hg : gH i = gPl i) (hh : sH i = hWa i) (hs : xs1F i (zcl Z) ((xy M).name == "<init>") (xn M) (zF Z (xo M)) (zKc Z (xo M)) (zKl Z (xo M)) len pc lv st hp = some (pc', lv', st', hp')) : nrun Z Y DT (f + 1) d j pc lv st hp k n = nrun Z Y DT f d j pc' lv' st' hp' k n := by
  conv => lhs; unfold nrun
  rw [fN_eq, hd]
  dsimp only
  rw [hj]
  dsimp only
  rw [hg]
  unfold gPl
  rw [hh]
  unfold hWa
  rw [hs]
  dsimp only
  rw [fP_eq]
section ST
variable {Z : x_T} {Y : x_Y} {DT : Nat → Nat → Option (Instr × Nat)} {f d j pc : Nat} {lv : List (Nat × Value)} {st : List Value} {hp : List x_E} {k n : Nat} {M : x_M} {st' : List Value} {hp' : List x_E}
theorem n_put {idx : Nat} (hd : DT j pc = some (.putfield idx, 3)) (hj : zM Z j = some M) (hs : xPut (zcl Z) ((xy M).name == "<init>") (zF Z (xo M)) idx hp st = some (st', hp')) : nrun Z Y DT (f + 1) d j pc lv st hp k n = nrun Z Y DT f d j (pc + 3) lv st' hp' k n :=
  n_wr hd hj rfl rfl (by
    show xK 3 3 ((xPut _ _ _ _ _ _).map _) = _
    rw [hs]
    rfl)
theorem n_ias (hd : DT j pc = some (.iastore, 1)) (hj : zM Z j = some M) (hs : xAst 0 (fun x => x) hp st = some (st', hp')) : nrun Z Y DT (f + 1) d j pc lv st hp k n = nrun Z Y DT f d j (pc + 1) lv st' hp' k n :=
  n_wa hd hj rfl rfl (by
    show xK 1 1 ((xAst _ _ _ _).map _) = _
    rw [hs]
    rfl)
theorem n_ial (hd : DT j pc = some (.iaload, 1)) (hj : zM Z j = some M) (hs : xAld 0 hp st = some st') : nrun Z Y DT (f + 1) d j pc lv st hp k n = nrun Z Y DT f d j (pc + 1) lv st' hp k n :=
  n_step hd hj rfl rfl (by
    show xK 1 1 ((xAld _ _ _).map _) = _
    rw [hs]
    rfl)
end ST
