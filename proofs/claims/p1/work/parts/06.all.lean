theorem xKi_inv {i : Instr} {ki idx : Nat} (h : xKi i = some (ki, idx)) : (i = .invokevirtual idx ∧ ki = 0) ∨ (i = .invokestatic idx ∧ ki = 1) ∨ (i = .invokespecial idx ∧ ki = 2) := by
  unfold xKi at h
  split at h
  · cases h; exact Or.inl ⟨rfl, rfl⟩
  · cases h; exact Or.inr (Or.inl ⟨rfl, rfl⟩)
  · cases h; exact Or.inr (Or.inr ⟨rfl, rfl⟩)
  · cases h
theorem xReq_inv {Z : x_T} {Y : x_Y} {M M' : x_M} {ki idx : Nat} {st avs r : List Value} {hp : List x_E} (h : xReq Z Y M ki idx st hp = some (M', avs, r)) : ∃ kd j As, zL Z (xo M) idx = some (kd, j) ∧ zM Z j = some M' ∧ As.length = xa M' ∧
    ((ki = 1 ∧ kd = 1 ∧ avs = As ∧ st = As.reverse ++ r) ∨ (ki = 0 ∧ kd = 0 ∧ ∃ b fs, hp[b]? = some (.inr (xo M', fs)) ∧ avs = .ref b :: As ∧ st = As.reverse ++ .ref b :: r) ∨ (ki ≠ 0 ∧ ki ≠ 1 ∧ (kd = 2 ∨ kd = 3) ∧ ∃ b, avs = .ref b :: As ∧ st = As.reverse ++ .ref b :: r) ∨ (ki = 0 ∧ kd = 5 ∧ ∃ b i, xTx Y b 0 = some i ∧ avs = .ref b :: As ∧ st = As.reverse ++ .ref b :: r)) := by
  unfold xReq at h
  split at h
  · cases h
  · rename_i kd j hl
    split at h
    · cases h
    · rename_i M1 hm
      split at h
      · cases h
      · rename_i As r1 hs
        obtain ⟨e1, e2⟩ := xSplit_inv hs
        split at h
        · rename_i hk
          split at h
          · rename_i hkd
            cases h
            exact ⟨kd, j, _, hl, hm, e2, Or.inl ⟨hk, hkd, rfl, e1⟩⟩
          · cases h
        · rename_i hk
          split at h
          · rename_i b r2
            split at h
            · rename_i hk0
              split at h
              · rename_i ci fs hb
                split at h
                · rename_i hc
                  cases h
                  obtain ⟨h1, rfl⟩ := hc
                  exact ⟨kd, j, As, hl, hm, e2, Or.inr (Or.inl ⟨hk0, h1, b, fs, hb, rfl, e1⟩)⟩
                · cases h
              · split at h
                · rename_i hc
                  cases h
                  obtain ⟨h1, h2⟩ := hc
                  obtain ⟨i, hi⟩ := Option.isSome_iff_exists.mp h2
                  exact ⟨kd, j, As, hl, hm, e2, Or.inr (Or.inr (Or.inr ⟨hk0, h1, b, i, hi, rfl, e1⟩))⟩
                · cases h
            · rename_i hk0
              split at h
              · rename_i hc
                cases h
                exact ⟨kd, j, As, hl, hm, e2, Or.inr (Or.inr (Or.inl ⟨hk0, hk, hc, b, rfl, e1⟩))⟩
              · cases h
          · cases h
theorem xBlind {Z : x_T} {Y : x_Y} {D : va_G} {cl : List vw_C} {cA : Nat → ClassId} {ρ : Nat → Nat} {hp : List x_E} {avs : List Value} {sz : Nat} : FrameBlind (xPc Z Y D cl cA ρ hp avs sz) := fun a U g mk q => by
  obtain ⟨q0, q1, qP, qK, qD, qE1, qE2, qE3, qE4⟩ := q
  refine ⟨q0, q1, qP, va_K.moved (u := U) (U := U.calling g mk a) (Vm.Alike.refl U.vm) qK, qD, qE1.moved (U := U.calling g mk a) (Vm.Alike.refl U.vm), fun o idx i hi => ?_, fun o idx g' hg => (qE3 o idx g' hg).moved (U := U.calling g mk a) (Vm.Alike.refl U.vm), fun q' hq' => va_Nw.same (u := U) (U := U.calling g mk a) rfl rfl (qE4 q' hq')⟩
  obtain ⟨tx, hr⟩ := qE2 o idx i hi
  exact ⟨tx, vk_R.same (u := U) (U := U.calling g mk a) rfl hr⟩
theorem xGoodIn {Ts : List Cond} (hG : ∀ w ∈ Ts, goodWord w = true) {w0 : Cond} (h0 : w0 ∈ Ts) : GoodIn Ts (w0 :: Ts) := fun w hw => by
  rcases List.mem_cons.mp hw with rfl | h
  · exact ⟨h0, good_of_word (hG _ h0)⟩
  · exact ⟨h, good_of_word (hG _ h)⟩
section XR
variable {p : Program} {l : Launch} {e : Env} {s : State} {m : MethodId} {args : Array Value} {below : List Frame} {meth : Method} {c : Code} {H : Heap} {locs : List Loc}
set_option maxHeartbeats 4000000 in
theorem x_run {Z : x_T} {Y : x_Y} {Ts : List Cond} {D : va_G} {cA : Nat → ClassId} (hZ : xZok Z Y Ts) {M M' : x_M} {ki idx pc d' k n : Nat} {i : Instr} {lv : List (Nat × Value)} {st avs r : List Value} {hp hp1 : List x_E} {rv1 : Option Value} {ls : Array Slot} {ρ : Nat → Nat} {A : Nat → Prop} (hki : xKi i = some (ki, idx)) (hd : decode (xb M) pc = .ok (i, 3)) (hreq : xReq Z Y M ki idx st hp = some (M', avs, r)) (hchk : xChk M M' lv r avs hp k n = true)
    (hMet : ∀ j', zM Z j' = some M' → xMet Z Y Ts l D cA d' M' hp avs rv1 hp1) (hx : p.tables.exec = Jvm.exec) (hb : c.code = xb M) (hml : c.maxLocals = xn M) (hts : ∀ w ∈ Ts, w.before args s = true) (hown : s.vm.findClass (znm Z (xo M)) = some m.cls) (hK : va_K D (zcl Z) (x_tys cA) s) (hP : va_P D (zcl Z) (xw ρ cA hp) H) (hD : va_D A (xw ρ cA hp)) {ρ0 : Nat → Nat} (hS : va_S A s.heap H locs) (hE : xEnv Z Y ρ0 A s s.heap) (hFc : ∀ q, va_A (xw ρ cA hp) H.size q → A q) (hag : ∀ i, 1000000 ≤ i → ρ i = ρ0 i) (hl : lv_has ls (xn M) (lv.map (xq ρ))) :
    va_Run p l e (xrm (d' + 1) (xmc M) (xms M)) s m args below meth c H locs k n (xmc M') (xms M') (F0 m pc ls (st.map (xv ρ))) (r.map (xv ρ)) (xQc D (zcl Z) cA ρ hp.length rv1 hp1 (va_A (xw ρ cA hp) H.size) (avs.map (xv ρ)).toArray) (va_A (xw ρ cA hp) H.size) := by
  obtain ⟨hC, hF, hKc, hKl, hNew, hM, hL, hMt, hO, hOb, hArr, hGood, hNm, hyF, hyG⟩ := hZ
  obtain ⟨kd, j, As, hz, hj, hAs, hcase⟩ := xReq_inv hreq
  obtain ⟨c1, c2, c3, c4, c5, c6⟩ := hM j M' hj
  obtain ⟨L0, L1, L2, L3, L5⟩ := hL _ idx j kd M' hz hj
  simp only [xChk, Bool.and_eq_true, decide_eq_true_eq] at hchk
  obtain ⟨⟨⟨⟨⟨q1, q2⟩, q3⟩, q4⟩, q5⟩, q6⟩ := hchk
  have hG : GoodIn Ts (Cond.code (xy M') (xb M') (xn M') (xr M') :: Ts) := xGoodIn hGood c1
  have hR : (xrm d' (xmc M') (xms M')).frames + 1 ≤ (xrm (d' + 1) (xmc M) (xms M)).frames ∧ 8 + (xn M' + 11) + (xrm d' (xmc M') (xms M')).locals ≤ (xrm (d' + 1) (xmc M) (xms M)).locals := ⟨Nat.le_refl _, by show 8 + (xn M' + 11) + 64 * d' ≤ 64 * (d' + 1); omega⟩
  have hf : k + xmc M' ≤ (xrm (d' + 1) (xmc M) (xms M)).cells ∧ n + xms M' ≤ (xrm (d' + 1) (xmc M) (xms M)).slots := ⟨q3, q4⟩
  have hcat : ((r.map (xv ρ)).map fun v => v.category).sum ≤ 8 := by
    have : ((r.map (xv ρ)).map fun v => v.category) = r.map fun v => v.category := by
      rw [List.map_map]
      exact List.map_congr_left (fun v _ => xv_cat ρ v)
    rw [this]
    exact q5
  have hpre : ∀ U : State, U.heap = H → s.WarmedH U.vm → xPc Z Y D (zcl Z) cA ρ hp avs H.size (avs.map (xv ρ)).toArray U := fun U hU hW => ⟨rfl, by rw [hU], by rw [hU]; exact hP, va_K.moved hW.alike hK, hD.weaken (fun _ _ _ _ => trivial), xEnv_go (fun o idx g hg => (hyG o idx g hg).2) hE hS hFc hag hW hU⟩
  have S : CallFix p m c (xb M) (xn M) s args Ts (znm Z (xo M)) := ⟨hx, hb, hml, hown, hts⟩
  have hn' : (As.map (xv ρ)).length = xa M' := by rw [List.length_map]; exact hAs
  rcases xKi_inv hki with ⟨rfl, rfl⟩ | ⟨rfl, rfl⟩ | ⟨rfl, rfl⟩
  · rcases hcase with ⟨h, _⟩ | ⟨_, rfl, b, fs, hbp, rfl, rfl⟩ | ⟨h, _⟩ | ⟨_, rfl, b, ib, hbp, rfl, rfl⟩
    · cases h
    · obtain ⟨l1, l2, l3⟩ := L0 rfl
      have he : (xw ρ cA hp)[b]? = some (ρ b, .inr (xo M', fs.map (xv ρ))) := by rw [xw_get, hbp]; rfl
      obtain ⟨q, hq, -⟩ := hP b _ he
      have hrec := va_recv hK hP hq he
      rw [hNm _ _ hq, ← c4] at hrec
      exact va_runV (C := (xy M').cls) (b := ρ b) (As := As.map (xv ρ)) S (hMet j hj ρ H.size) ⟨callB_of (xa M') hts hG rfl rfl rfl (hts _ c2) (hts _ l1) c5 hR, hts _ l2, hts _ l3⟩ ⟨xBlind, hrec, hpre⟩ rfl hn' hl.1 (by simp [xv]) (lv_room hcat) hd hf
    · exact absurd rfl h
    · obtain ⟨l1, l2, l3, l4⟩ := L5 rfl
      unfold xTx at hbp
      split at hbp
      · rename_i hbq
        cases hbp
        have hrec := vk_recv hE.1 hbq.2.2 hS
        have eb : ρ0 (1000000 + 2 * ((b - 1000000) / 2)) = ρ b := by
          rw [hag b hbq.1]
          congr 1
          omega
        rw [eb, ← l4] at hrec
        exact va_runV (C := (xy M').cls) (b := ρ b) (As := As.map (xv ρ)) S (hMet j hj ρ H.size) ⟨callB_of (xa M') hts hG rfl rfl rfl (hts _ c2) (hts _ l1) c5 hR, hts _ l2, hts _ l3⟩ ⟨xBlind, hrec, hpre⟩ rfl hn' hl.1 (by simp [xv]) (lv_room hcat) hd hf
      · cases hbp
  · rcases hcase with ⟨_, rfl, rfl, rfl⟩ | ⟨h, _⟩ | ⟨_, h, _⟩ | ⟨h, _⟩
    · obtain ⟨l1, l2⟩ := L1 rfl
      exact va_runS (As := avs.map (xv ρ)) S (hMet j hj ρ H.size) ⟨callB_of (xa M') hts hG rfl rfl rfl (hts _ c2) (hts _ l1) c5 hR, hts _ l2⟩ ⟨xBlind, hpre⟩ rfl hn' hl.1 (by simp) (lv_room hcat) hd hf
    · cases h
    · exact absurd rfl h
    · cases h
  · rcases hcase with ⟨h, _⟩ | ⟨h, _⟩ | ⟨_, _, hkd, b, rfl, rfl⟩ | ⟨h, _⟩
    · cases h
    · cases h
    · rcases hkd with rfl | rfl
      · obtain ⟨l1, l2, l3, l4⟩ := L2 rfl
        have hMet' := hMet j hj ρ H.size
        have hG' := hG
        rw [l4] at hMet' hG'
        exact va_runI (b := ρ b) (As := As.map (xv ρ)) S hMet' ⟨callB_of (xa M') hts hG' rfl rfl rfl (hts _ c2) (hts _ l1) c5 hR, l3, hts _ l2⟩ ⟨xBlind, hpre⟩ rfl hn' hl.1 (by simp [xv]) (lv_room hcat) hd hf
      · obtain ⟨⟨host, l1⟩, l2, l3, l4⟩ := L3 rfl
        have hMet' := hMet j hj ρ H.size
        have hG' := hG
        rw [l4] at hMet' hG'
        exact va_runIN (b := ρ b) (As := As.map (xv ρ)) S hMet' ⟨va_cnB (xa M') hts hG' rfl rfl rfl (hE.2.2.2 _ l1) (hts _ c2) c5 hR, l3, hts _ l2⟩ ⟨xBlind, hpre⟩ rfl hn' hl.1 (by simp [xv]) (lv_room hcat) hd hf
    · cases h
end XR
