theorem sF_ok {b : Bool} {f j : Nat} {hp : List x_E} {avs : List Value} {l : List x_S} (h : sOk (xgn b f 999 j hp avs) l = true) : ∃ cI cL, nrun xZ (xY (xfm b)) xDT f 999 j 0 (lv_args 0 avs) [] hp 0 0 = some (none, xmks l cI cL 0) := ⟨_, _, xr_eq h (xr_c _)⟩
theorem rq_v {Y : x_Y} {M : x_M} {o o' idx j' v : Nat} (hM : xo M = o) (hl : zL xZ o idx = some (0, j')) {y : MethodName} {cb : ByteArray} {n : Nat} {r : Option FieldType} {mc ms : Nat} (hj' : zM xZ j' = some (y, cb, n, r, o', 1, mc, ms)) {hp : List x_E} {fs : List Value} {w : Int32} (hh : hp[v]? = some (.inr (o', fs))) : xReq xZ Y M 0 idx [.int w, .ref v] hp = some ((y, cb, n, r, o', 1, mc, ms), [.ref v, .int w], []) := by
  unfold xReq
  rw [hM, hl]
  dsimp only
  rw [hj']
  dsimp only
  rw [show xSplit 1 [Value.int w, Value.ref v] = some ([Value.int w], [Value.ref v]) from rfl]
  dsimp only
  rw [if_neg (by decide), if_pos rfl, hh]
  dsimp only
  rw [if_pos ⟨rfl, rfl⟩]
/-- the locals of feed -/
def fl (v : Nat) (a1 a2 a3 a4 a5 : Int32) : List (Nat × Value) := [(0, .ref v), (1, .int a1), (2, .int a2), (3, .int a3), (4, .int a4), (5, .int a5)]
/-- a word of feed: the object, the word, the call -/
theorem f_w {b : Bool} {f j j' o idx v pc pc1 len : Nat} {S S' : List x_S} {ld : Instr} {w a1 a2 a3 a4 a5 : Int32} {y y' : MethodName} {cb cb' : ByteArray} {nl : Nat} {r r' : Option FieldType} (hj : zM xZ j = some (y, cb, nl, r, o, 5, 0, 0)) (hj' : zM xZ j' = some (y', cb', 3, r', o, 1, 0, 0)) (hl : zL xZ o idx = some (0, j')) (hc : ∀ cI cL, ∃ fs, (xmks S cI cL 0)[v]? = some (.inr (o, fs))) (hw : ∀ cI cL, sOk (xgn b (f + 120) 999 j' (xmks S cI cL 0) [.ref v, .int w]) S' = true) (d0 : xDT j pc = some (.aload_n 0, 1)) (d1 : xDT j (pc + 1) = some (ld, len)) (hg : gH ld = gPl ld) (hh : sH ld = hPl ld) (hs : ∀ cI cL, xs1F ld (zcl xZ) (y.name == "<init>") nl (zF xZ o) (zKc xZ o) (zKl xZ o) len (pc + 1) (fl v a1 a2 a3 a4 a5) [.ref v] (xmks S cI cL 0) = some (pc1, fl v a1 a2 a3 a4 a5, [.int w, .ref v], xmks S cI cL 0)) (d2 : xDT j pc1 = some (.invokevirtual idx, 3)) (hck : ∀ cI cL, xChk (y, cb, nl, r, o, 5, 0, 0) (y', cb', 3, r', o, 1, 0, 0) (fl v a1 a2 a3 a4 a5) [] [.ref v, .int w] (xmks S cI cL 0) 0 0 = true) (hlen : ∀ cI cL cI' cL', (xmks S cI cL 0).length ≤ (xmks S' cI' cL' 0).length) (cI : Nat → Nat → Int32) (cL : Nat → Nat → Int64) : ∃ cI' cL', nrun xZ (xY (xfm b)) xDT (f + 123) 1000 j pc (fl v a1 a2 a3 a4 a5) [] (xmks S cI cL 0) 0 0 = nrun xZ (xY (xfm b)) xDT (f + 120) 1000 j (pc1 + 3) (fl v a1 a2 a3 a4 a5) [] (xmks S' cI' cL' 0) 0 0 := by
  obtain ⟨c1, c2, h⟩ := sF_ok (hw cI cL)
  obtain ⟨fs, hfs⟩ := hc cI cL
  refine ⟨c1, c2, ?_⟩
  rw [n_step (f := f + 122) (i := .aload_n 0) (len := 1) (pc' := pc + 1) (lv' := fl v a1 a2 a3 a4 a5) (st' := [.ref v]) (hp' := xmks S cI cL 0) d0 hj rfl rfl rfl]
  rw [n_step (f := f + 121) (i := ld) (len := len) (pc' := pc1) (lv' := fl v a1 a2 a3 a4 a5) (st' := [.int w, .ref v]) (hp' := xmks S cI cL 0) d1 hj hg hh (hs cI cL)]
  exact n_call (f := f + 120) (d := 999) (i := .invokevirtual idx) (ki := 0) (idx := idx) (M' := (y', cb', 3, r', o, 1, 0, 0)) (avs := [.ref v, .int w]) (r := []) (rv := none) d2 hj rfl rfl rfl hl (rq_v rfl hl hj' hfs) (hck cI cL) h (hlen cI cL c1 c2)
theorem mj_25 : ∃ y b n r, zM xZ 25 = some (y, b, n, r, 0, 5, 0, 0) := ⟨_, _, _, _, rfl⟩
theorem mj_26 : ∃ y b r, zM xZ 26 = some (y, b, 3, r, 0, 1, 0, 0) := ⟨_, _, _, rfl⟩
theorem mj_315 : ∃ y b n r, zM xZ 315 = some (y, b, n, r, 12, 5, 0, 0) := ⟨_, _, _, _, rfl⟩
theorem mj_316 : ∃ y b r, zM xZ 316 = some (y, b, 3, r, 12, 1, 0, 0) := ⟨_, _, _, rfl⟩
theorem sF_00 : xsF 0 0 = xsM := rfl
