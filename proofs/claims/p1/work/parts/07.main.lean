theorem xRet_inv {M : x_M} {i : Instr} {len : Nat} {st : List Value} {rv : Option Value} (h : xRet M i len st = some rv) : (i = .return_ ∧ len = 1 ∧ xr M = none ∧ st = [] ∧ rv = none) ∨ (i = .ireturn ∧ len = 1 ∧ ∃ v ty, xr M = some ty ∧ narrow ty (.int v) = .int v ∧ st = [.int v] ∧ rv = some (.int v)) ∨ (i = .lreturn ∧ len = 1 ∧ ∃ v, xr M = some .long ∧ st = [.long v] ∧ rv = some (.long v)) ∨ (i = .areturn ∧ len = 1 ∧ ∃ a, xr M = some (.array .long) ∧ st = [.ref a] ∧ rv = some (.ref a)) := by
  unfold xRet at h
  split at h
  · split at h
    · rename_i hc
      cases h
      exact Or.inl ⟨rfl, hc.1, hc.2.1, hc.2.2, rfl⟩
    · cases h
  · split at h
    · rename_i hr
      split at h
      · rename_i hc
        cases h
        exact Or.inr (Or.inl ⟨rfl, hc.1, _, _, hr, hc.2, rfl, rfl⟩)
      · cases h
    · cases h
  · split at h
    · rename_i hr
      split at h
      · rename_i hc
        cases h
        obtain ⟨h1, rfl⟩ := hc
        exact Or.inr (Or.inr (Or.inl ⟨rfl, h1, _, hr, rfl, rfl⟩))
      · cases h
    · cases h
  · split at h
    · rename_i hr
      split at h
      · rename_i hc
        cases h
        obtain ⟨h1, rfl⟩ := hc
        exact Or.inr (Or.inr (Or.inr ⟨rfl, h1, _, hr, rfl, rfl⟩))
      · cases h
    · cases h
  · cases h
theorem xAlo_inv {Z : x_T} {M : x_M} {i : Instr} {len : Nat} {st r : List Value} {x : x_E} {sl w : Nat} (h : xAlo Z M i len st = some (x, sl, r, w)) : (∃ idx ci q, i = .new idx ∧ len = 3 ∧ zC Z (xo M) idx = some ci ∧ (zcl Z)[ci]? = some q ∧ x = .inr (ci, (List.range q.2.2).map fun k => defaultValue (xty q k)) ∧ sl = q.2.2 ∧ r = st ∧ w = 3) ∨
    (∃ t cnt tn a0, i = .newarray t ∧ len = 2 ∧ st = .int cnt :: r ∧ ¬ cnt < 0 ∧ cnt.toNatClampNeg * componentBytes (newarray.typeOf t) ≤ 536870912 ∧ xAt t = some (tn, a0) ∧ x = .inl (tn, cnt.toNatClampNeg, a0) ∧ sl = cnt.toNatClampNeg ∧ w = 2) := by
  unfold xAlo at h
  split at h
  · split at h
    · rename_i hlen
      split at h
      · cases h
      · rename_i hc
        split at h
        · cases h
        · rename_i hq
          cases h
          exact Or.inl ⟨_, _, _, rfl, hlen, hc, hq, rfl, rfl, rfl, rfl⟩
    · cases h
  · split at h
    · split at h
      · rename_i hc
        split at h
        · cases h
        · rename_i ht
          cases h
          exact Or.inr ⟨_, _, _, _, rfl, hc.1, rfl, hc.2.1, hc.2.2, ht, rfl, rfl, rfl⟩
      · cases h
    · cases h
  · cases h
theorem xAt_inv {t : ArrayType} {tn : Nat} {a0 : (Nat → Int32) ⊕ (Nat → Int64) ⊕ (Nat → UInt32) ⊕ (Nat → UInt64) ⊕ (Nat → Option Nat)} (h : xAt t = some (tn, a0)) (cA : Nat → ClassId) : (x_tys cA)[tn]? = some (cA tn, newarray.typeOf t) ∧ (∀ C, newarray.typeOf t ≠ .object C) ∧ (∀ (N : Nat) (cB : ClassId), vp_cell cB (N, a0) = arrV cB N (fun _ => defaultValue (newarray.typeOf t))) := by
  cases t <;> first | (cases h; done) | (cases h; exact ⟨rfl, fun C z => (by cases z), fun N cB => rfl⟩)
set_option maxHeartbeats 8000000 in
set_option maxRecDepth 20000 in
/-- THE INTERPRETER IS SOUND -/
theorem xWst_all {Z : x_T} {Y : x_Y} {Ts : List Cond} (hZ : xZok Z Y Ts) (l : Launch) (D : va_G) (cA : Nat → ClassId) : ∀ f, xWst Z Y Ts l D cA f := by
  intro f
  induction f with
  | zero =>
    intro d M j pc lv st hp k n rv hp' hj h
    cases h
  | succ f ih =>
    intro d M j pc lv st hp k n rv hp' hj h p e s m args below meth c H locs ls ρ0 ρ n0 A hx hb hml hr hlocks hnm hts hown hK hA hw hl hag hn0 hk hn hE
    obtain ⟨hC, hF, hKc, hKl, hNew, hM, hL, hMt, hO, hOb, hArr, hGood, hNm, hyF, hyG⟩ := id hZ
    have hagM : ∀ i, 1000000 ≤ i → ρ i = ρ0 i := fun i hi => hag i (Or.inr hi)
    obtain ⟨hc1, hc2, hc3, hc4, hc5, hc6⟩ := hM j M hj
    have hown' : s.vm.findClass (znm Z (xo M)) = some m.cls := by rw [← hc4]; exact hown
    unfold brun at h
    cases hd : decode (xb M) pc with
    | error z => rw [hd] at h; cases h
    | ok z =>
      obtain ⟨i, len⟩ := z
      rw [hd] at h
      dsimp only at h
      cases hki : xKi i with
      | some z =>
        obtain ⟨ki, idx⟩ := z
        rw [hki] at h
        dsimp only at h
        split at h
        · rename_i hlen
          subst hlen
          split at h
          · rename_i hobj
            split at h
            · rename_i b r
              split at h
              · rename_i hchk
                simp only [xObj, Bool.and_eq_true, beq_iff_eq] at hobj
                obtain ⟨rfl, hobj⟩ := hobj
                have hi : i = .invokespecial idx := by
                  rcases xKi_inv hki with ⟨_, z⟩ | ⟨_, z⟩ | ⟨z, _⟩
                  · cases z
                  · cases z
                  · exact z
                subst hi
                cases hz : zL Z (xo M) idx with
                | none => rw [hz] at hobj; cases hobj
                | some z =>
                  obtain ⟨kd, j2⟩ := z
                  rw [hz] at hobj
                  have : kd = 4 := by simpa using hobj
                  subst this
                  have hcat : ((r.map (xv ρ)).map fun v => v.category).sum ≤ 8 := by
                    have : ((r.map (xv ρ)).map fun v => v.category) = r.map fun v => v.category := by
                      rw [List.map_map]
                      exact List.map_congr_left (fun v _ => xv_cat ρ v)
                    rw [this]
                    exact hchk.2
                  refine W.objInit (a := ρ b) (rest := r.map (xv ρ)) hx hb hown' (hts _ (hO _ _ _ hz)) (hts _ hOb.1) (hts _ hOb.2) rfl (hl.1.trans hml.symm) rfl hd hchk.1 ?_ ?_
                  · have := lv_room (m := m) (pc := pc) (ls := ls) (rest := r.map (xv ρ)) hcat
                    show _ ≤ 64 * d
                    have h1 := hchk.1
                    have h2 : 2 * (F0 m pc ls ((Value.ref b :: r).map (xv ρ))).monitorRoom + ((r.map (xv ρ)).map fun v => v.category).sum ≤ 8 := lv_room hcat
                    omega
                  · exact ih d M j (pc + 3) lv r hp k n rv hp' hj h p e s m args below meth c H locs ls ρ0 ρ n0 A hx hb hml hr hlocks hnm hts hown hK hA hw hl hag hn0 hk hn hE
              · cases h
            · cases h
          · cases hmt : xMth Z M ki idx st with
            | some st' =>
              rw [hmt] at h
              dsimp only at h
              split at h
              · rename_i hchk
                obtain ⟨hd1, hcat⟩ := hchk
                have go := ih d M j (pc + 3) lv st' hp k n rv hp' hj h p e s m args below meth c H locs ls ρ0 ρ n0 A hx hb hml hr hlocks hnm hts hown hK hA hw hl hag hn0 hk hn hE
                have hmap : ∀ r : List Value, ((r.map (xv ρ)).map fun v => v.category) = r.map fun v => v.category := fun r => by
                  rw [List.map_map]
                  exact List.map_congr_left (fun v _ => xv_cat ρ v)
                have hml' : c.maxLocals = ls.size := hml.trans hl.1.symm
                unfold xMth at hmt
                split at hmt
                · rename_i hki1
                  subst hki1
                  have hi : i = .invokestatic idx := by
                    rcases xKi_inv hki with ⟨_, z⟩ | ⟨z, _⟩ | ⟨_, z⟩
                    · cases z
                    · exact z
                    · cases z
                  subst hi
                  split at hmt
                  · rename_i hz
                    obtain ⟨m1, m2, m3, m4⟩ := (hMt _ _ _ _ hz).1 rfl
                    split at hmt
                    · cases hmt
                      simp only [List.map_cons, List.sum_cons] at hcat
                      exact va_mmin hx hb hml' hown' (hts _ m1) (hts _ m2) (hts _ m3) (hts _ m4) hd1 (by rw [hmap]; show _ ≤ 64 * d; omega) hk hn hd go
                    · cases hmt
                  · rename_i hz
                    obtain ⟨m1, m2, m3, m4⟩ := (hMt _ _ _ _ hz).2.1 rfl
                    split at hmt
                    · cases hmt
                      simp only [List.map_cons, List.sum_cons] at hcat
                      exact va_mmax hx hb hml' hown' (hts _ m1) (hts _ m2) (hts _ m3) (hts _ m4) hd1 (by rw [hmap]; show _ ≤ 64 * d; omega) hk hn hd go
                    · cases hmt
                  · rename_i hz
                    obtain ⟨m1, m2, m3, m4⟩ := (hMt _ _ _ _ hz).2.2 rfl
                    split at hmt
                    · cases hmt
                      simp only [List.map_cons, List.sum_cons] at hcat
                      exact va_mmin_long hx hb hml' hown' (hts _ m1) (hts _ m2) (hts _ m3) (hts _ m4) hd1 (by rw [hmap]; show _ ≤ 64 * d; omega) hk hn hd go
                    · cases hmt
                  · cases hmt
                · cases hmt
              · cases h
            | none =>
              rw [hmt] at h
              dsimp only at h
              split at h
              · cases h
              · rename_i d'
                split at h
                · cases h
                · rename_i M' avs r hreq
                  split at h
                  · rename_i hchk
                    split at h
                    · cases h
                    · rename_i rv1 hp1 hrun
                      split at h
                      · rename_i hle
                        have hchk2 := hchk
                        simp only [xChk, Bool.and_eq_true, decide_eq_true_eq] at hchk2
                        obtain ⟨⟨⟨⟨⟨q1, q2⟩, q3⟩, q4⟩, q5⟩, q6⟩ := hchk2
                        have hMet : ∀ j', zM Z j' = some M' → xMet Z Y Ts l D cA d' M' hp avs rv1 hp1 := fun j' hj' => xMet_of hZ ih hj' hrun q6
                        have hFc := va_free (wc := xw ρ cA hp) hw.2.1 hw.2.2 hA (List.range (xw ρ cA hp).length) (by
                          apply List.ext_getElem?
                          intro q
                          rw [List.getElem?_map, List.getElem?_map]
                          by_cases hq : q < (xw ρ cA hp).length
                          · rw [List.getElem?_range hq]
                            simp [hq]
                          · rw [List.getElem?_eq_none (by simpa using hq), List.getElem?_eq_none (by simpa using hq)]
                            rfl)
                        refine x_call (x_run hZ hki hd hreq hchk hMet hx hb hml hts hown' hK hw.1 hw.2.1 hw.2.2 hE hFc hagM hl) hw.2.2 (fun q _ z => hFc q z) hFc (fun ρ1 t H1 locs1 ht hvm hag1 hP1 hK1 hD1 hS1 => ?_)
                        have hl1 : lv_has ls (xn M) (lv.map (xq ρ1)) := by rw [xq_ofs hag1 q1]; exact hl
                        have := ih (d' + 1) M j (pc + 3) lv (rv1.toList ++ r) hp1 (k + xmc M') (n + xms M') rv hp' hj h p e s m args below meth c H1 locs1 ls ρ0 ρ1 n0 A hx hb hml hr hlocks hnm hts hown hK hA ⟨by rw [← ht]; exact hP1, hD1.weaken (fun _ q _ z => hFc q.1 z), hS1⟩ hl1 (fun i hi => (hag1 i (by omega)).trans (hag i hi)) (by omega) q3 q4 hE
                        rw [List.map_append, xv_ofs hag1 q2] at this
                        have e0 : rv1.toList.map (xv ρ1) = (rv1.map (xv ρ1)).toList := by cases rv1 <;> rfl
                        rw [e0] at this
                        exact this
                      · cases h
                  · cases h
        · cases h
      | none =>
        rw [hki] at h
        dsimp only at h
        cases hret : xRet M i len st with
        | some z =>
          rw [hret] at h
          cases h
          refine W.widen (k := xmc M) (n := xms M) hk hn ?_
          have post : ∀ t : State, t.heap = H → s.WarmedH t.vm → xQc D (zcl Z) cA ρ0 n0 rv hp A args s (.returned (rv.map (xv ρ))) t := fun t ht hW => ⟨⟨ρ, rfl, hag, by rw [ht]; exact hw.1, va_K.moved hW.alike hK, hw.2.1⟩, hw.2.2.F ht⟩
          rcases xRet_inv hret with ⟨rfl, rfl, h1, rfl, rfl⟩ | ⟨rfl, rfl, v, ty, h1, h2, rfl, rfl⟩ | ⟨rfl, rfl, v, h1, rfl, rfl⟩ | ⟨rfl, rfl, v, h1, rfl, rfl⟩
          · exact W.vret hx hb (hr.trans h1) post hw.2.2.2.2 hd hlocks
          · exact W.zret hx hb (hr.trans h1) h2 post hw.2.2.2.2 hd hlocks
          · exact W.lret hx hb (hr.trans h1) post hw.2.2.2.2 hd hlocks
          · exact W.aret hx hb (hr.trans h1) (Or.inr ⟨_, rfl⟩) (Or.inr ⟨_, rfl⟩) post hw.2.2.2.2 hd hlocks
        | none =>
          rw [hret] at h
          dsimp only at h
          cases hal : xAlo Z M i len st with
          | some z =>
            obtain ⟨x, sl, r, w⟩ := z
            rw [hal] at h
            dsimp only at h
            split at h
            · rename_i hchk
              simp only [Bool.and_eq_true, decide_eq_true_eq] at hchk
              obtain ⟨⟨⟨⟨⟨q1, q2⟩, q3⟩, q4⟩, q5⟩, q6⟩ := hchk
              have hagN : ∀ (q i : Nat), i < hp.length ∨ 1000000 ≤ i → (fun j => if j = hp.length then q else ρ j) i = ρ i := fun q i hi => by
                show (if i = hp.length then q else ρ i) = ρ i
                rw [if_neg (by omega)]
              have go : ∀ (q : Nat) (y : va_E) (H1 : Heap), (∀ ρ', xe ρ' cA x = y) → va_P D (zcl Z) (xw ρ cA hp ++ [(q, y)]) H1 → va_D A (xw ρ cA hp ++ [(q, y)]) → va_S A s.heap H1 locs → W p l e (xrm d (xmc M) (xms M)) s m args below meth c H1 locs (k + 1) (n + sl) (MQ below (xQc D (zcl Z) cA ρ0 n0 rv hp' A) args s (xmc M) (xms M) A) (F0 m (pc + w) ls (.ref q :: r.map (xv ρ))) := by
                intro q y H1 hy hP1 hD1 hS1
                rw [← xw_push (q := q) q1 q4 hy] at hP1 hD1
                have hl1 : lv_has ls (xn M) (lv.map (xq (fun j => if j = hp.length then q else ρ j))) := by rw [xq_ofs (hagN q) q2]; exact hl
                have := ih d M j (pc + w) lv (.ref hp.length :: r) (hp ++ [x]) (k + 1) (n + sl) rv hp' hj h p e s m args below meth c H1 locs ls ρ0 _ n0 A hx hb hml hr hlocks hnm hts hown hK hA ⟨hP1, hD1, hS1⟩ hl1 (fun i hi => (hagN q i (by omega)).trans (hag i hi)) (by rw [List.length_append]; omega) q5 q6 hE
                rw [List.map_cons, xv_ofs (hagN q) q3] at this
                have e0 : xv (fun j => if j = hp.length then q else ρ j) (.ref hp.length) = .ref q := by simp [xv]
                rw [e0] at this
                exact this
              rcases xAlo_inv hal with ⟨idx, ci, q, rfl, rfl, hz, hq, rfl, rfl, rfl, rfl⟩ | ⟨t, cnt, tn, a0, rfl, rfl, rfl, h1, h2, h3, rfl, rfl, rfl⟩
              · obtain ⟨q', hq', n1, n2, n3⟩ := hNew _ _ _ hz
                rw [hq] at hq'
                cases hq'
                obtain ⟨hin, hty, hnmf⟩ := hC ci q hq
                refine va_new (fs := (List.range q.2.2).map fun k => defaultValue (xty q k)) hx hb hts hin (xty q) hty hown' (hts _ n1) (hts _ n2) (hts _ n3) hK hw.1 hw.2.1 hw.2.2 hA hq (fun jj hjj => ?_) q5 q6 hd (fun qq H1 hP1 hD1 hS1 => go qq _ H1 (fun ρ' => ?_) hP1 hD1 hS1)
                · simp [vp_V, hjj]
                · show (Sum.inr (ci, ((List.range q.2.2).map fun k => defaultValue (xty q k)).map (xv ρ')) : va_E) = _
                  rw [List.map_map]
                  congr 2
                  apply List.map_congr_left
                  intro k0 _
                  show xv ρ' (defaultValue (xty q k0)) = defaultValue (xty q k0)
                  cases xty q k0 <;> rfl
              · obtain ⟨g1, g2, g3⟩ := xAt_inv h3 cA
                have harr : (Cond.arrayClass (newarray.typeOf t)).before args s = true := by
                  cases t <;> first | (cases h3; done) | exact hts _ hArr.1 | exact hts _ hArr.2.1 | exact hts _ hArr.2.2.1 | exact hts _ hArr.2.2.2.1 | exact hts _ hArr.2.2.2.2
                refine va_newa (a0 := (cnt.toNatClampNeg, a0)) hx hb harr rfl hK hw.1 hw.2.1 hw.2.2 hA (g3 _) h1 rfl h2 q5 q6 hd (fun qq cB H1 hK1 hP1 hD1 hS1 => ?_)
                have := xK0 hK g1 hK1 g2
                subst this
                exact go qq _ H1 (fun ρ' => rfl) hP1 hD1 hS1
            · cases h
          | none =>
            rw [hal] at h
            dsimp only at h
            cases hs2 : xs2 Y (xo M) i len pc st with
            | some z =>
              obtain ⟨pc', st'⟩ := z
              rw [hs2] at h
              dsimp only at h
              refine xs2_ok hx hb hts hown' hyF hyG hE hagM hw.2.2 hd hs2 ?_
              exact ih d M j pc' lv st' hp k n rv hp' hj h p e s m args below meth c H locs ls ρ0 ρ n0 A hx hb hml hr hlocks hnm hts hown hK hA hw hl hag hn0 hk hn hE
            | none =>
              rw [hs2] at h
              dsimp only at h
              split at h
              · cases h
              · rename_i pc' lv' st' hp2 hstep
                exact xs1_ok hx hb hts hown' hK (fun hi => by rw [hnm]; simpa using hi) hC (hF _) (fun idx v hv => hts _ (hKc _ _ _ hv)) (fun idx v hv => hts _ (hKl _ _ _ hv)) hw hl hd hstep (fun H1 locs1 ls1 hw1 hl1 => ih d M j pc' lv' st' hp2 k n rv hp' hj h p e s m args below meth c H1 locs1 ls1 ρ0 ρ n0 A hx hb hml hr hlocks hnm hts hown hK hA hw1 hl1 hag (xs1_len hstep ▸ hn0) hk hn hE)
