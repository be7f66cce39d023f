theorem lvR_mk {m : Nat} {a b : List (Nat × Value)} (ka kb : List Nat) (ea : a.map Prod.fst = ka) (eb : b.map Prod.fst = kb) (ha : ka.Nodup) (hb : kb.Nodup) (hs : ∀ q ∈ a, q ∈ b) (ho : ∀ q ∈ b, q ∈ a ∨ xok m q.2 = true) : lvR m a b := ⟨ea ▸ ha, fun _ _ h => xLd_of_mem (eb ▸ hb) (hs _ (xLd_mem h)), ho⟩
theorem n_ret {Z : x_T} {Y : x_Y} {DT : Nat → Nat → Option (Instr × Nat)} {f d j pc : Nat} {lv : List (Nat × Value)} {st : List Value} {hp : List x_E} {k n : Nat} {i : Instr} {len : Nat} {M : x_M} {rv : Option Value} (hd : DT j pc = some (i, len)) (hj : zM Z j = some M) (hg : gH i = gPl i) (hh : sH i = hRt i) (hs : xRet M i len st = some rv) : nrun Z Y DT (f + 1) d j pc lv st hp k n = some (rv, hp) := by
  unfold nrun
  rw [fN_eq, hd]
  dsimp only
  rw [hj]
  dsimp only
  rw [hg]
  unfold gPl
  rw [hh]
  unfold hRt
  rw [hs]
theorem x_ret {M : x_M} {v : Int32} {ty : FieldType} (h : narrow ty (.int v) = .int v) (hr : xr M = some ty := by rfl) : xRet M .ireturn 1 [.int v] = some (some (.int v)) := by
  unfold xRet
  rw [hr]
  dsimp only
  rw [if_pos ⟨rfl, h⟩]
section RQ
variable {Y : x_Y} {M : x_M} {o o' idx j' v : Nat} {y : MethodName} {cb : ByteArray} {n na : Nat} {r : Option FieldType} {mc ms : Nat} {hp : List x_E} {fs st As rs : List Value}
theorem rq_n (hM : xo M = o) (hl : zL xZ o idx = some (0, j')) (hj' : zM xZ j' = some (y, cb, n, r, o', na, mc, ms)) (hsp : xSplit na st = some (As, .ref v :: rs)) (hh : hp[v]? = some (.inr (o', fs))) : xReq xZ Y M 0 idx st hp = some ((y, cb, n, r, o', na, mc, ms), .ref v :: As, rs) := by
  unfold xReq
  rw [hM, hl]
  dsimp only
  rw [hj']
  dsimp only
  rw [hsp]
  dsimp only
  rw [if_neg (by decide), if_pos rfl, hh]
  dsimp only
  rw [if_pos ⟨rfl, rfl⟩]
theorem rq_t (hM : xo M = o) (hl : zL xZ o idx = some (1, j')) (hj' : zM xZ j' = some (y, cb, n, r, o', na, mc, ms)) (hsp : xSplit na st = some (As, rs)) : xReq xZ Y M 1 idx st hp = some ((y, cb, n, r, o', na, mc, ms), As, rs) := by
  unfold xReq
  rw [hM, hl]
  dsimp only
  rw [hj']
  dsimp only
  rw [hsp]
  dsimp only
  rw [if_pos rfl, if_pos rfl]
end RQ
theorem nb_01 {v : Int32} (h : v = 0 ∨ v = 1) : narrow .boolean (.int v) = .int v := by rcases h with rfl | rfl <;> rfl
