theorem lvR_mk {m : Nat} {a b : List (Nat × Value)} (ka kb : List Nat) (ea : a.map Prod.fst = ka) (eb : b.map Prod.fst = kb) (ha : ka.Nodup) (hb : kb.Nodup) (hs : ∀ q ∈ a, q ∈ b) (ho : ∀ q ∈ b, q ∈ a ∨ xok m q.2 = true) : lvR m a b := ⟨ea ▸ ha, fun _ _ h => xLd_of_mem (eb ▸ hb) (hs _ (xLd_mem h)), ho⟩
theorem n_ret {Z : x_T} {Y : x_Y} {DT : Nat → Nat → Option (Instr × Nat)} {f d j pc : Nat} {lv : List (Nat × Value)} {st : List Value} {hp : List x_E} {k n : Nat} {i : Instr} {len : Nat} {M : x_M} {rv : Option Value} (hd : DT j pc = some (i, len)) (hj : zM Z j = some M) (hg : gH i = gPl i) (hh : sH i = hRt i) (hs : xRet M i len st = some rv) : nrun Z Y DT (f + 1) d j pc lv st hp k n = some (rv, hp) := by
  unfold nrun
  rw [fN_eq, hd]
  dsimp only
  rw [hj]
  dsimp only
  rw [hg]
  unfold gPl
  rw [hh]
  unfold hRt
  rw [hs]
theorem x_ret {M : x_M} {v : Int32} {ty : FieldType} (h : narrow ty (.int v) = .int v) (hr : xr M = some ty := by rfl) : xRet M .ireturn 1 [.int v] = some (some (.int v)) := by
  unfold xRet
  rw [hr]
  dsimp only
  rw [if_pos ⟨rfl, h⟩]
section RQ
variable {Y : x_Y} {M : x_M} {o o' idx j' v : Nat} {y : MethodName} {cb : ByteArray} {n na : Nat} {r : Option FieldType} {mc ms : Nat} {hp : List x_E} {fs st As rs : List Value}
theorem rq_n (hM : xo M = o) (hl : zL xZ o idx = some (0, j')) (hj' : zM xZ j' = some (y, cb, n, r, o', na, mc, ms)) (hsp : xSplit na st = some (As, .ref v :: rs)) (hh : hp[v]? = some (.inr (o', fs))) : xReq xZ Y M 0 idx st hp = some ((y, cb, n, r, o', na, mc, ms), .ref v :: As, rs) := by
  unfold xReq
  rw [hM, hl]
  dsimp only
  rw [hj']
  dsimp only
  rw [hsp]
  dsimp only
  rw [if_neg (by decide), if_pos rfl, hh]
  dsimp only
  rw [if_pos ⟨rfl, rfl⟩]
theorem rq_t (hM : xo M = o) (hl : zL xZ o idx = some (1, j')) (hj' : zM xZ j' = some (y, cb, n, r, o', na, mc, ms)) (hsp : xSplit na st = some (As, rs)) : xReq xZ Y M 1 idx st hp = some ((y, cb, n, r, o', na, mc, ms), As, rs) := by
  unfold xReq
  rw [hM, hl]
  dsimp only
  rw [hj']
  dsimp only
  rw [hsp]
  dsimp only
  rw [if_pos rfl, if_pos rfl]
end RQ
theorem nb_01 {v : Int32} (h : v = 0 ∨ v = 1) : narrow .boolean (.int v) = .int v := by rcases h with rfl | rfl <;> rfl
section ST2
variable {Z : x_T} {Y : x_Y} {DT : Nat → Nat → Option (Instr × Nat)} {f d j pc : Nat} {lv : List (Nat × Value)} {st : List Value} {hp : List x_E} {k n : Nat} {M : x_M} {st' : List Value} {hp' : List x_E}
theorem n_lal (hd : DT j pc = some (.laload, 1)) (hj : zM Z j = some M) (hs : xAldL hp st = some st') : nrun Z Y DT (f + 1) d j pc lv st hp k n = nrun Z Y DT f d j (pc + 1) lv st' hp k n :=
  n_step hd hj rfl rfl (by
    show xK 1 1 ((xAldL _ _).map _) = _
    rw [hs]
    rfl)
theorem n_cal (hd : DT j pc = some (.caload, 1)) (hj : zM Z j = some M) (hs : xAld 3 hp st = some st') : nrun Z Y DT (f + 1) d j pc lv st hp k n = nrun Z Y DT f d j (pc + 1) lv st' hp k n :=
  n_step hd hj rfl rfl (by
    show xK 1 1 ((xAld _ _ _).map _) = _
    rw [hs]
    rfl)
theorem n_bal (hd : DT j pc = some (.baload, 1)) (hj : zM Z j = some M) (h2 : xs2 Y (xo M) .baload 1 pc st = none) (hn : xAld 2 hp st = none) (hs : xAld 4 hp st = some st') : nrun Z Y DT (f + 1) d j pc lv st hp k n = nrun Z Y DT f d j (pc + 1) lv st' hp k n :=
  n_get hd hj rfl rfl h2 (by
    show xK 1 1 (((xAld 2 _ _).or (xAld 4 _ _)).map _) = _
    rw [hn, hs]
    rfl)
theorem n_las (hd : DT j pc = some (.lastore, 1)) (hj : zM Z j = some M) (hs : xAstL hp st = some (st', hp')) : nrun Z Y DT (f + 1) d j pc lv st hp k n = nrun Z Y DT f d j (pc + 1) lv st' hp' k n :=
  n_wa hd hj rfl rfl (by
    show xK 1 1 ((xAstL _ _).map _) = _
    rw [hs]
    rfl)
theorem n_bas (hd : DT j pc = some (.bastore, 1)) (hj : zM Z j = some M) (hs : (xAst 2 (vp_nar .byte) hp st).or (xAst 4 (vp_nar .boolean) hp st) = some (st', hp')) : nrun Z Y DT (f + 1) d j pc lv st hp k n = nrun Z Y DT f d j (pc + 1) lv st' hp' k n :=
  n_wa hd hj rfl rfl (by
    show xK 1 1 (((xAst 2 _ _ _).or (xAst 4 _ _ _)).map _) = _
    rw [hs]
    rfl)
theorem x_sw {cl : List vw_C} {ini : Bool} {nL : Nat} {fl : Nat → Option (Nat × Nat)} {kc : Nat → Option Int32} {kl : Nat → Option Int64} {len p : Nat} {dd lo hi t : Int} {offs : Array Int} {x : Int32} {r : List Value} (ht : xTab dd lo hi offs x = some t) (hp1 : xTg pc t = some p) : xs1F (.tableswitch dd lo hi offs) cl ini nL fl kc kl len pc lv (.int x :: r) hp = some (p, lv, r, hp) := by
  show ((xTab dd lo hi offs x).bind fun off => (xTg pc off).map fun t => (t, lv, r, hp)) = _
  rw [ht, Option.bind_some, hp1]
  rfl
end ST2
