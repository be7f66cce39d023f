/-! Runs of the reference that die, over the tables; they are sound. -/
theorem nrun_brun {b : Bool} {f d j : Nat} {M : x_M} {pc : Nat} {lv : List (Nat × Value)} {st : List Value} {hp : List x_E} {k n : Nat} {R : Option Value × List x_E} (hj : zM xZ j = some M) (h : nrun xZ (xY (xfm b)) xDT f d j pc lv st hp k n = some R) : brun xZ (xY (xfm b)) f d M pc lv st hp k n = some R := by
  rw [nrun_eq] at h
  rw [← srun_eq]
  exact frun_ok xZ (xY (xfm b)) xDT xDT_ok f R d j M pc lv st hp k n hj h
def dn (b : Bool) : Nat → Nat → Nat → Nat → List (Nat × Value) → List Value → List x_E → Prop
  | 0 => fun _ _ _ _ _ _ => False
  | f + 1 => fun d j pc lv st hp =>
    (xDT j pc = some (.iaload, 1) ∧ ∃ (i : Int32) (a : Nat) (r : List Value) (N : Nat) (fn : Nat → Int32), st = .int i :: .ref a :: r ∧ hp[a]? = some (.inl (0, N, .inl fn)) ∧ (i < 0 ∨ N ≤ i.toNatClampNeg)) ∨
    (∃ (i : Instr) (len : Nat) (M : x_M) (pc' : Nat) (lv' : List (Nat × Value)) (st' : List Value) (hp' : List x_E), xDT j pc = some (i, len) ∧ zM xZ j = some M ∧ xs1F i (zcl xZ) ((xy M).name == "<init>") (xn M) (zF xZ (xo M)) (zKc xZ (xo M)) (zKl xZ (xo M)) len pc lv st hp = some (pc', lv', st', hp') ∧ dn b f d j pc' lv' st' hp') ∨
    (∃ (i : Instr) (ki idx : Nat) (M M' : x_M) (avs r : List Value) (d' kd j' f1 : Nat) (rv : Option Value) (hp1 : List x_E), xDT j pc = some (i, 3) ∧ xKi i = some (ki, idx) ∧ zM xZ j = some M ∧ d = d' + 1 ∧ zL xZ (xo M) idx = some (kd, j') ∧ xReq xZ (xY (xfm b)) M ki idx st hp = some (M', avs, r) ∧ xChk M M' lv r avs hp 0 0 = true ∧ xmc M' = 0 ∧ xms M' = 0 ∧ nrun xZ (xY (xfm b)) xDT f1 d' j' 0 (lv_args 0 avs) [] hp 0 0 = some (rv, hp1) ∧ hp.length ≤ hp1.length ∧ dn b f d j (pc + 3) lv (rv.toList ++ r) hp1) ∨
    (∃ (idx : Nat) (M M' : x_M) (avs r : List Value) (d' j' : Nat), xDT j pc = some (.invokevirtual idx, 3) ∧ zM xZ j = some M ∧ d = d' + 1 ∧ zL xZ (xo M) idx = some (0, j') ∧ xReq xZ (xY (xfm b)) M 0 idx st hp = some (M', avs, r) ∧ xChk M M' lv r avs hp 0 0 = true ∧ dn b f d' j' 0 (lv_args 0 avs) [] hp) ∨
    (∃ (idx : Nat) (M M' : x_M) (avs r : List Value) (d' j' : Nat), xDT j pc = some (.invokestatic idx, 3) ∧ zM xZ j = some M ∧ d = d' + 1 ∧ zL xZ (xo M) idx = some (1, j') ∧ xReq xZ (xY (xfm b)) M 1 idx st hp = some (M', avs, r) ∧ xChk M M' lv r avs hp 0 0 = true ∧ dn b f d' j' 0 (lv_args 0 avs) [] hp)
/-- the contract of a run that dies -/
def dnMet (b : Bool) (l : Launch) (D : va_G) (cA : Nat → ClassId) (d : Nat) (M : x_M) (hp : List x_E) (avs : List Value) : Prop :=
  ∀ (ρ : Nat → Nat) (sz : Nat), dzM l (xy M) (Cond.code (xy M) (xb M) (xn M) (xr M) :: xTs) (xrm d (xmc M) (xms M)) (xPc xZ (xY (xfm b)) D (zcl xZ) cA ρ hp avs sz)
def dnW (b : Bool) (l : Launch) (D : va_G) (cA : Nat → ClassId) (f : Nat) : Prop :=
  ∀ (d j : Nat) (M : x_M) (pc : Nat) (lv : List (Nat × Value)) (st : List Value) (hp : List x_E), zM xZ j = some M → dn b f d j pc lv st hp →
  ∀ (p : Program) (e : Env) (s : State) (m : MethodId) (args : Array Value) (below : List Frame) (meth : Method) (c : Code) (H : Heap) (locs : List Loc) (ls : Array Slot) (ρ0 ρ : Nat → Nat) (n0 : Nat) (A : Nat → Prop),
  p.tables.exec = Jvm.exec → c.code = xb M → c.maxLocals = xn M → meth.locks = false → meth.name = (xy M).name → (∀ w ∈ xTs, w.before args s = true) → s.vm.findClass (xy M).cls = some m.cls → va_K D (zcl xZ) (x_tys cA) s → (∀ q, s.heap.size ≤ q → A q) →
  (va_P D (zcl xZ) (xw ρ cA hp) H ∧ va_D A (xw ρ cA hp) ∧ va_S A s.heap H locs) → lv_has ls (xn M) (lv.map (xq ρ)) → (∀ i, i < n0 ∨ 1000000 ≤ i → ρ i = ρ0 i) → n0 ≤ hp.length → xEnv xZ (xY (xfm b)) ρ0 A s s.heap → c.exceptionTable = #[] →
  W p l e (xrm d (xmc M) (xms M)) s m args below meth c H locs 0 0 (dzQ p below) (F0 m pc ls (st.map (xv ρ)))
theorem xsl_map (ρ : Nat → Nat) : ∀ vs : List Value, (lg_sl (vs.map (xv ρ))).length = (lg_sl vs).length := by
  intro vs
  induction vs with
  | nil => rfl
  | cons v vs ih =>
    simp only [lg_sl, List.map_cons, List.flatMap_cons, List.length_append] at ih ⊢
    rw [ih, xv_cat]
    by_cases hc : v.category = 2
    · simp [hc]
    · simp [hc]
theorem xla_map (ρ : Nat → Nat) : ∀ (vs : List Value) (i : Nat), lv_args i (vs.map (xv ρ)) = (lv_args i vs).map (xq ρ) := by
  intro vs
  induction vs with
  | nil => intro i; rfl
  | cons v vs ih =>
    intro i
    simp only [List.map_cons, lv_args, xv_cat]
    rw [ih]
    rfl
set_option maxHeartbeats 4000000 in
set_option maxRecDepth 20000 in
theorem dnMet_of {b : Bool} {l : Launch} {D : va_G} {cA : Nat → ClassId} {f : Nat} (hW : dnW b l D cA f) {d : Nat} {M : x_M} {j : Nat} {hp : List x_E} {avs : List Value} (hj : zM xZ j = some M) (h : dn b f d j 0 (lv_args 0 avs) [] hp) (hlen : (lg_sl avs).length ≤ xn M) : dnMet b l D cA d M hp avs := by
  intro ρ sz
  have hZ := xZ_ok (xfm_ok b)
  obtain ⟨-, -, -, -, -, hM, -⟩ := hZ
  obtain ⟨hc1, hc2, hc3, hc4, hc5, hc6⟩ := hM j M hj
  refine dz_ofW (cc := xb M) (maxL := xn M) (ret := xr M) hc3 rfl ?_
  intro p e s m args below meth c s₁ B hml hxt hv
  obtain ⟨rfl, hsz, hP, hK, hD0, hE⟩ := hv
  have hts0 := atoms_spec (ws := Cond.code (xy M) (xb M) (xn M) (xr M) :: xTs) B.pre
  have hown : s.vm.findClass (xy M).cls = some m.cls := findClass_of_methodNamed B.named
  subst hsz
  have hl := lv_entry (avs.map (xv ρ)) (n := xn M) (by rw [xsl_map]; exact hlen)
  rw [xla_map] at hl
  rw [lg_entry_eq]
  exact hW d j M 0 (lv_args 0 avs) [] hp hj h p e s m _ below meth c s.heap [] _ ρ ρ hp.length (va_A (xw ρ cA hp) s.heap.size) B.exec B.bytes hml B.notSynchronized (name_of_methodNamed B.named B.method).1 (fun w hw => hts0 w (List.mem_cons_of_mem _ hw)) hown hK (fun q h => Or.inr h) ⟨hP, hD0.self, va_S.rf⟩ hl (fun _ _ => rfl) (Nat.le_refl _) hE hxt
set_option maxHeartbeats 8000000 in
set_option maxRecDepth 20000 in
theorem dn_ok (b : Bool) (l : Launch) (D : va_G) (cA : Nat → ClassId) : ∀ f, dnW b l D cA f := by
  intro f
  induction f with
  | zero =>
    intro d j M pc lv st hp hj h
    exact absurd h id
  | succ f ih =>
    intro d j M pc lv st hp hj h p e s m args below meth c H locs ls ρ0 ρ n0 A hx hb hml hlocks hnm hts hown hK hA hw hl hag hn0 hE hxt
    have hZ := xZ_ok (xfm_ok b)
    obtain ⟨hC, hF, hKc, hKl, hNew, hM, hL, hMt, hO, hOb, hArr, hGood, hNm, hyF, hyG⟩ := id hZ
    have hagM : ∀ i, 1000000 ≤ i → ρ i = ρ0 i := fun i hi => hag i (Or.inr hi)
    obtain ⟨hc1, hc2, hc3, hc4, hc5, hc6⟩ := hM j M hj
    have hown' : s.vm.findClass (znm xZ (xo M)) = some m.cls := by rw [← hc4]; exact hown
    have hFc := va_free (wc := xw ρ cA hp) hw.2.1 hw.2.2 hA (List.range (xw ρ cA hp).length) (xall_range _)
    rcases h with ⟨hd, i, a, r, N, fn, rfl, ha, hout⟩ | ⟨i, len, M2, pc', lv', st', hp', hd, hj2, hs, hdn⟩ | ⟨i, ki, idx, M2, M', avs, r, d', kd, j', f1, rv1, hp1, hd, hki, hj2, rfl, hz, hreq, hchk, hmc, hms, hrun, hle, hdn⟩ | ⟨idx, M2, M', avs, r, d', j', hd, hj2, rfl, hz, hreq, hchk, hdn⟩ | ⟨idx, M2, M', avs, r, d', j', hd, hj2, rfl, hz, hreq, hchk, hdn⟩
    · have hd := xDT_ok j M pc _ hj hd
      have he : (xw ρ cA hp)[a]? = some (ρ a, .inl (cA 0, N, .inl fn)) := by rw [xw_get, ha]; rfl
      have hcell : H[ρ a]? = some (arrV (cA 0) N (fun q => .int (fn q))) := hw.1 a _ he
      have harr : s.isArrayOf (arrV (cA 0) N (fun q => .int (fn q))) .int := (hK.2 0 (cA 0, .int) rfl).1 N (fun q => .int (fn q))
      exact dz_iald (rest := r.map (xv ρ)) hx hb hcell harr (by rw [arrV_size]; exact hout) hxt hlocks rfl rfl rfl rfl hd
    · cases hj.symm.trans hj2
      have hd := xDT_ok j M pc _ hj hd
      rw [xs1F_eq] at hs
      refine xs1_ok hx hb hts hown' hK (fun hi => ?_) hC (hF _) (fun idx v h => hts _ (hKc _ _ _ h)) (fun idx v h => hts _ (hKl _ _ _ h)) hw hl hd hs (fun H1 locs1 ls1 hw1 hl1 => ?_)
      · rw [hnm]; exact of_decide_eq_true hi
      · exact ih d j M pc' lv' st' hp' hj hdn p e s m args below meth c H1 locs1 ls1 ρ0 ρ n0 A hx hb hml hlocks hnm hts hown hK hA hw1 hl1 hag (Nat.le_trans hn0 (Nat.le_of_eq (xs1_len hs))) hE hxt
    · cases hj.symm.trans hj2
      have hd := xDT_ok j M pc _ hj hd
      obtain ⟨kd2, j2, As, hz2, hj', -, -⟩ := xReq_inv hreq
      cases hz.symm.trans hz2
      have hchk2 := hchk
      simp only [xChk, Bool.and_eq_true, decide_eq_true_eq] at hchk2
      obtain ⟨⟨⟨⟨⟨q1, q2⟩, q3⟩, q4⟩, q5⟩, q6⟩ := hchk2
      have hMet : ∀ j'', zM xZ j'' = some M' → xMet xZ (xY (xfm b)) xTs l D cA d' M' hp avs rv1 hp1 := fun j'' hj'' => xMet_of hZ (xWst_all hZ l D cA f1) hj' (nrun_brun hj' hrun) q6
      have hr := x_run (e := e) (below := below) (meth := meth) (k := 0) (n := 0) hZ hki hd hreq hchk hMet hx hb hml hts hown' hK hw.1 hw.2.1 hw.2.2 hE hFc hagM hl
      refine x_call hr hw.2.2 (fun q _ z => hFc q z) hFc (fun ρ1 t H1 locs1 ht hvm hag1 hP1 hK1 hD1 hS1 => ?_)
      rw [hmc, hms]
      have hl1 : lv_has ls (xn M) (lv.map (xq ρ1)) := by rw [xq_ofs hag1 q1]; exact hl
      have := ih (d' + 1) j M (pc + 3) lv (rv1.toList ++ r) hp1 hj hdn p e s m args below meth c H1 locs1 ls ρ0 ρ1 n0 A hx hb hml hlocks hnm hts hown hK hA ⟨by rw [← ht]; exact hP1, hD1.weaken (fun _ q _ z => hFc q.1 z), hS1⟩ hl1 (fun i hi => (hag1 i (by omega)).trans (hag i hi)) (by omega) hE hxt
      rw [List.map_append, xv_ofs hag1 q2] at this
      have e0 : rv1.toList.map (xv ρ1) = (rv1.map (xv ρ1)).toList := by cases rv1 <;> rfl
      rw [e0] at this
      exact this
    · cases hj.symm.trans hj2
      have hd := xDT_ok j M pc _ hj hd
      obtain ⟨kd2, j2, As, hz2, hj', hAs, hcase⟩ := xReq_inv hreq
      cases hz.symm.trans hz2
      obtain ⟨c1, c2, c3, c4, c5, c6⟩ := hM j' M' hj'
      obtain ⟨L0, -, -, -, -⟩ := hL _ idx j' 0 M' hz hj'
      obtain ⟨l1, l2, l3⟩ := L0 rfl
      simp only [xChk, Bool.and_eq_true, decide_eq_true_eq] at hchk
      obtain ⟨⟨⟨⟨⟨q1, q2⟩, q3⟩, q4⟩, q5⟩, q6⟩ := hchk
      have hMet := dnMet_of ih hj' hdn q6 ρ H.size
      have hG : GoodIn xTs (Cond.code (xy M') (xb M') (xn M') (xr M') :: xTs) := xGoodIn hGood c1
      have hR : (xrm d' (xmc M') (xms M')).frames + 1 ≤ (xrm (d' + 1) (xmc M) (xms M)).frames ∧ 8 + (xn M' + 11) + (xrm d' (xmc M') (xms M')).locals ≤ (xrm (d' + 1) (xmc M) (xms M)).locals := ⟨Nat.le_refl _, by show 8 + (xn M' + 11) + 64 * d' ≤ 64 * (d' + 1); omega⟩
      have hcat : ((r.map (xv ρ)).map fun v => v.category).sum ≤ 8 := by
        have : ((r.map (xv ρ)).map fun v => v.category) = r.map fun v => v.category := by
          rw [List.map_map]
          exact List.map_congr_left (fun v _ => xv_cat ρ v)
        rw [this]
        exact q5
      have hpre : ∀ U : State, U.heap = H → s.WarmedH U.vm → xPc xZ (xY (xfm b)) D (zcl xZ) cA ρ hp avs H.size (avs.map (xv ρ)).toArray U := fun U hU hW => ⟨rfl, by rw [hU], by rw [hU]; exact hw.1, va_K.moved hW.alike hK, hw.2.1.weaken (fun _ _ _ _ => trivial), xEnv_go (fun o idx g hg => (hyG o idx g hg).2) hE hw.2.2 hFc hagM hW hU⟩
      have S : CallFix p m c (xb M) (xn M) s args xTs (znm xZ (xo M)) := ⟨hx, hb, hml, hown', hts⟩
      have hn' : (As.map (xv ρ)).length = xa M' := by rw [List.length_map]; exact hAs
      rcases hcase with ⟨h, _⟩ | ⟨_, _, b1, fs, hbp, rfl, rfl⟩ | ⟨h, _⟩ | ⟨_, h, _⟩
      · cases h
      · have he : (xw ρ cA hp)[b1]? = some (ρ b1, .inr (xo M', fs.map (xv ρ))) := by rw [xw_get, hbp]; rfl
        obtain ⟨q, hq, -⟩ := hw.1 b1 _ he
        have hrec := va_recv hK hw.1 hq he
        rw [hNm _ _ hq, ← c4] at hrec
        exact dz_runV (C := (xy M').cls) (b := ρ b1) (As := As.map (xv ρ)) (rest := r.map (xv ρ)) S hMet ⟨callB_of (xa M') hts hG rfl rfl rfl (hts _ c2) (hts _ l1) c5 hR, hts _ l2, hts _ l3⟩ ⟨xBlind, hrec, hpre⟩ hxt hlocks rfl rfl rfl hn' hl.1 (by simp [xv]) (lv_room hcat) hd ⟨q3, q4⟩
      · exact absurd rfl h
      · cases h
    · cases hj.symm.trans hj2
      have hd := xDT_ok j M pc _ hj hd
      obtain ⟨kd2, j2, As, hz2, hj', hAs, hcase⟩ := xReq_inv hreq
      cases hz.symm.trans hz2
      obtain ⟨c1, c2, c3, c4, c5, c6⟩ := hM j' M' hj'
      obtain ⟨-, L1, -, -, -⟩ := hL _ idx j' 1 M' hz hj'
      obtain ⟨l1, l2⟩ := L1 rfl
      simp only [xChk, Bool.and_eq_true, decide_eq_true_eq] at hchk
      obtain ⟨⟨⟨⟨⟨q1, q2⟩, q3⟩, q4⟩, q5⟩, q6⟩ := hchk
      have hMet := dnMet_of ih hj' hdn q6 ρ H.size
      have hG : GoodIn xTs (Cond.code (xy M') (xb M') (xn M') (xr M') :: xTs) := xGoodIn hGood c1
      have hR : (xrm d' (xmc M') (xms M')).frames + 1 ≤ (xrm (d' + 1) (xmc M) (xms M)).frames ∧ 8 + (xn M' + 11) + (xrm d' (xmc M') (xms M')).locals ≤ (xrm (d' + 1) (xmc M) (xms M)).locals := ⟨Nat.le_refl _, by show 8 + (xn M' + 11) + 64 * d' ≤ 64 * (d' + 1); omega⟩
      have hcat : ((r.map (xv ρ)).map fun v => v.category).sum ≤ 8 := by
        have : ((r.map (xv ρ)).map fun v => v.category) = r.map fun v => v.category := by
          rw [List.map_map]
          exact List.map_congr_left (fun v _ => xv_cat ρ v)
        rw [this]
        exact q5
      have hpre : ∀ U : State, U.heap = H → s.WarmedH U.vm → xPc xZ (xY (xfm b)) D (zcl xZ) cA ρ hp avs H.size (avs.map (xv ρ)).toArray U := fun U hU hW => ⟨rfl, by rw [hU], by rw [hU]; exact hw.1, va_K.moved hW.alike hK, hw.2.1.weaken (fun _ _ _ _ => trivial), xEnv_go (fun o idx g hg => (hyG o idx g hg).2) hE hw.2.2 hFc hagM hW hU⟩
      have S : CallFix p m c (xb M) (xn M) s args xTs (znm xZ (xo M)) := ⟨hx, hb, hml, hown', hts⟩
      have hn' : (As.map (xv ρ)).length = xa M' := by rw [List.length_map]; exact hAs
      rcases hcase with ⟨_, _, rfl, rfl⟩ | ⟨h, _⟩ | ⟨_, h, _⟩ | ⟨h, _⟩
      · exact dz_runS (As := avs.map (xv ρ)) (rest := r.map (xv ρ)) S hMet ⟨callB_of (xa M') hts hG rfl rfl rfl (hts _ c2) (hts _ l1) c5 hR, hts _ l2⟩ ⟨xBlind, hpre⟩ hxt hlocks rfl rfl rfl hn' hl.1 (by simp) (lv_room hcat) hd ⟨q3, q4⟩
      · cases h
      · exact absurd rfl h
      · cases h
