/-! The law's entry, on the script of 24 ints. -/
def kA0 : List Int32 := [1718971936, 2017091948, 1814061358, 1010589996, 1630298412]
def kA1 : List Int32 := [1630298412, 1630298412, 1631469102, 590422833, 590422833]
def kA2 : List Int32 := [590422833, 678976288, 538976288, 538976288, 538976288]
def kS : List Int32 := 0 :: kA0 ++ (0 :: kA1 ++ (0 :: kA2 ++ [1, 47, 0, 0, 0, 0]))
/-- the eight calls: seven come back, the reference's program dies -/
def kRun (z : Bool) : Prop := ∃ (f : Nat) (h1 h2 h3 h4 h5 h6 h7 : List x_E), (xbr z f 1000 25 (xh2 z) (.ref 0 :: kA0.map Value.int) = some (some (.int 1), h1) ∧ xbr z f 1000 315 h1 (.ref 49 :: kA0.map Value.int) = some (some (.int 1), h2) ∧ xbr z f 1000 25 h2 (.ref 0 :: kA1.map Value.int) = some (some (.int 1), h3) ∧ xbr z f 1000 315 h3 (.ref 49 :: kA1.map Value.int) = some (some (.int 1), h4) ∧ xbr z f 1000 25 h4 (.ref 0 :: kA2.map Value.int) = some (some (.int 1), h5) ∧ xbr z f 1000 315 h5 (.ref 49 :: kA2.map Value.int) = some (some (.int 1), h6) ∧ xbr z f 1000 27 h6 (.ref 0 :: [47].map Value.int) = some (some (.int 1), h7)) ∧ (xGd h1 ∧ xGd h2 ∧ xGd h3 ∧ xGd h4 ∧ xGd h5 ∧ xGd h6 ∧ xGd h7) ∧ pD z [] 1000 317 0 (lv_args 0 (.ref 49 :: [47].map Value.int)) [] h7
set_option maxHeartbeats 4000000 in
set_option maxRecDepth 20000 in
theorem law_dies {p : Program} {e : Env} {s : State} {m : MethodId} {below : List Frame} {meth : Method} {c : Code} (l : Launch) {b : Nat} {xs : Nat → Int32} (C0 : lw_At p s m meth c b 24 xs) (hxt : c.exceptionTable = #[]) (hs : ∀ i, i < 24 → xs i = kS.getD i 0) (hR : ∀ z, kRun z) : W p l e room_1 s m #[Value.ref b] below meth c s.heap [] 0 0 (dzQ p below) (entryFrame m ([Value.ref b] : List Value).toArray 4) := by
  obtain ⟨hx, hb, hr, hml, hown, hts, hX, hbl, hlocks, hgv⟩ := C0
  obtain ⟨z, ρ0, hE⟩ := law_env hts hgv
  obtain ⟨D, cA, hK⟩ := law_K hts
  obtain ⟨f, h1, h2, h3, h4, h5, h6, h7, ⟨r1, r2, r3, r4, r5, r6, r7⟩, ⟨d1, d2, d3, d4, d5, d6, d7⟩, hpd⟩ := hR z
  have C : lwC p s m c #[Value.ref b] D cA z ρ0 := ⟨hx, hb, hml, hown, hts, hK, hE⟩
  have hl := lv_entry ([.ref b]) (n := 4) (Nat.le_of_ble_eq_true rfl)
  rw [lg_entry_eq]
  generalize (lg_sl ([.ref b]) ++ List.replicate (4 - (lg_sl ([.ref b])).length) Slot.unset).toArray = ls at hl ⊢
  have hl : lv_has ls 4 [(0, .ref b)] := hl
  have hw0 : lwW s D cA ρ0 ρ0 [] s.heap [] := ⟨fun k q h => by simp [xw] at h, ⟨fun i j p q h => by simp [xw] at h, fun k q h => by simp [xw] at h⟩, va_S.rf, fun _ _ => rfl⟩
  have cx := iCl_x
  have cm := iCl_m
  simp only [Bool.and_eq_true] at cx cm
  refine lw_new (ci := 0) (q := ("TypedDescent", fun k => xT0.getD k ("", "", "", false), 16)) C hw0 rfl (by decide) rfl (nis2_mem cx.1.1) (nis2_mem cx.1.2) (nis2_mem cx.2) (by decide) (by decide) dl_0 (fun a0 H1 hw1 => ?_)
  refine lv_dup hx hb dl_3 rfl ?_
  refine lw_i (hp := [xdf 0]) (v := 0) C hw1 rfl hl.1 iCk_x (by decide) (xbr_x z) (by decide) (by decide) (Nat.le_of_ble_eq_true rfl) dl_4 (fun ρ1 H2 locs2 ag1 hw2 => ?_)
  have e1 : ρ1 0 = a0 := ag1 0 (by decide)
  refine lv_astore_n (lv' := [(1, .ref a0), (0, .ref b)]) hx hb dl_7 rfl hl (by decide) rfl (fun ls hl => ?_)
  have hal : (xh1 z).all (xokE (xh1 z).length) = true := by
    rw [len_h1]
    cases z
    · exact hal_0
    · exact hal_1
  refine lw_new (ci := 12) (q := ("TypedDescentModel", fun k => xT12.getD k ("", "", "", false), 144)) C hw2 hal (by rw [len_h1]; decide) rfl (nis2_mem cm.1.1) (nis2_mem cm.1.2) (nis2_mem cm.2) (by decide) (by decide) dl_8 (fun a1 H3 hw3 => ?_)
  refine lv_dup hx hb dl_11 rfl ?_
  refine lw_i (hp := xh1 z ++ [xdf 12]) (v := 49) C hw3 (by rw [len_h1]; rfl) hl.1 iCk_m (by decide) (xbr_m z) (by decide) (by decide) (Nat.le_of_ble_eq_true rfl) dl_12 (fun ρ2 H4 locs4 ag2 hw4 => ?_)
  have e2 : ρ2 0 = a0 := by
    rw [ag2 0 (by rw [List.length_append, len_h1]; decide), len_h1]
    exact e1
  have e3 : ρ2 49 = a1 := by
    rw [ag2 49 (by rw [List.length_append, len_h1]; decide), len_h1]
    rfl
  refine lv_astore_n (lv' := [(2, .ref a1), (1, .ref a0), (0, .ref b)]) hx hb dl_15 rfl hl (by decide) rfl (fun ls hl => ?_)
  refine lv_iconst (v := 0) hx hb dl_16 (by decide) ?_
  refine lv_istore_n (lv' := [(3, .int 0), (2, .ref a1), (1, .ref a0), (0, .ref b)]) hx hb dl_17 rfl hl (by decide) rfl (fun ls hl => ?_)
  refine W.widen (k := 600000) (n := 7302250) (by decide) (by decide) ?_
  refine lt_feed (i := 0) (by decide) (by decide) C hX hbl (hs 0 (by decide)) (hs 1 (by decide)) (hs 2 (by decide)) (hs 3 (by decide)) (hs 4 (by decide)) (hs 5 (by decide)) (xgd_h2 z) d1 r1 r2 hw4 e2 e3 (lv_sub hl [0, 3, 2, 1] rfl) (fun ρ3 H5 locs5 ls5 hw5 k0 k1 hl5 => ?_)
  refine lt_feed (i := 1) (by decide) (by decide) C hX hbl (hs 6 (by decide)) (hs 7 (by decide)) (hs 8 (by decide)) (hs 9 (by decide)) (hs 10 (by decide)) (hs 11 (by decide)) d2 d3 r3 r4 hw5 k0 k1 hl5 (fun ρ4 H6 locs6 ls6 hw6 k2 k3 hl6 => ?_)
  refine lt_feed (i := 2) (by decide) (by decide) C hX hbl (hs 12 (by decide)) (hs 13 (by decide)) (hs 14 (by decide)) (hs 15 (by decide)) (hs 16 (by decide)) (hs 17 (by decide)) d4 d5 r5 r6 hw6 k2 k3 hl6 (fun ρ5 H7 locs7 ls7 hw7 k4 k5 hl7 => ?_)
  exact lt_prog (i := 3) (by decide) (by decide) C hX hbl hxt hlocks (hs 18 (by decide)) (hs 19 (by decide)) d6 d7 r7 hpd hw7 k4 k5 hl7
set_option maxHeartbeats 4000000 in
theorem law_dz (l : Launch) (b : Addr) (hR : ∀ z, kRun z) : dzM l x (Jvm.Cond.code x code maxLocals ret :: tables_1) room_1 (lw_P b kS) := by
  refine dz_ofW (cc := code) (maxL := maxLocals) (ret := ret) (by decide) rfl ?_
  intro p e s m args below meth c s₁ B hml0 hxt hP
  obtain ⟨rfl, hx, hbd, hgv⟩ := hP
  obtain ⟨scr, harrAt, hlist, hof, hsmall⟩ := hx
  obtain ⟨hcb, hkn, -, -⟩ := State.arrayAt?_spec harrAt
  have hown : s.vm.findClass R_law = some m.cls := findClass_of_methodNamed B.named
  have hts0 : ∀ c ∈ (Jvm.Cond.code x code maxLocals ret :: tables_1), c.before #[Value.ref b] s = true := atoms_spec (ws := Jvm.Cond.code x code maxLocals ret :: tables_1) B.pre
  have hts : ∀ w ∈ lw_tbl, w.before #[Value.ref b] s = true := k2_hts_sels lw_privs (fun w hw => hts0 w (List.mem_cons_of_mem _ hw)) lw_privs_ok
  have hml : c.maxLocals = 4 := B.maxLocals_eq (hts0 _ List.mem_cons_self)
  have hsz : scr.slots.size = kS.length := by rw [← Array.length_toList, hlist, List.length_map]
  have hval : ∀ j : Nat, j < kS.length → scr.slots[j]? = some (.int (kS.getD j 0)) := fun j hj => by
    rw [← Array.getElem?_toList, hlist]
    simp [hj]
  have hbl : b < s.heap.size := (Array.getElem?_eq_some_iff.mp hcb).1
  have hX : va_X b kS.length (fun j => kS.getD j 0) s s.heap := ⟨scr, hcb, hof, hkn, hsz, hval⟩
  exact law_dies l (xs := fun j => kS.getD j 0) ⟨B.exec, B.bytes, B.returns, hml, hown, hts, hX, hbl, B.notSynchronized, hgv⟩ hxt (fun _ _ => rfl) hR
/-- THE STATEMENT IS REFUTED by every start that it allows whose script is these 24 ints (and whose invoker is no native frame) -/
theorem refuted_of {l : Launch} {p : Program} {e : Env} {s : State} {m : MethodId} {args : Array Value} {below : List Frame} {b : Addr} (hR : ∀ z, kRun z) (hfl : l.flags = flags0) (hst : AtStart classFile x code maxLocals ret World_1 tables_1 room_1 Calls_1 rest_1 Pre_1 l p e s m args below) (hscr : lw_P b kS args s) (hb : ∀ g r, below ≠ .native g :: r) : ¬ Claimed_1_1 := by
  intro hC
  obtain ⟨hL, hW, ha, -, hc, hk, hf, hfit, hheap, happ, hpre⟩ := hst
  obtain ⟨n, o, h1, h2, h3, h4, -⟩ := hC l hfl hL hW p e ha hc hk s m args below hf hfit hheap happ hpre
  have ho : ∃ v, o = .returned v := by
    have h5 : limb_1_1.after args s o (stepsAlone p.tables e n s) = true := h4
    cases o with
    | returned v => exact ⟨v, rfl⟩
    | threw a => simp [limb_1_1, Cond.after, Cond.holds, Cond.value] at h5
  obtain ⟨v, rfl⟩ := ho
  exact dz_never (law_dz l b hR) p ha hc hk hf ((Spec.applies_iff_loose hf).mp happ).1 hscr hb n h1 v h3
