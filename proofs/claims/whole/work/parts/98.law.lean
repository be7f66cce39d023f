/-! The law on that script: three turns of feed, then program; the reference's call dies. -/
section LD
variable {p : Program} {l : Launch} {e : Env} {s : State} {m : MethodId} {below : List Frame} {meth : Method} {c : Code} {H : Heap} {locs : List Loc} {Q : State → Prop}
set_option maxHeartbeats 8000000 in
set_option maxRecDepth 20000 in
/-- a turn of feed, alike answers -/
theorem lt_feed {b0 L : Nat} {xs : Nat → Int32} {D : va_G} {cA : Nat → ClassId} {b : Bool} {ρ0 ρ : Nat → Nat} {a0 a1 i : Nat} {x1 x2 x3 x4 x5 r : Int32} {f f2 : Nat} {hp hp1 hp2 : List x_E} {ls : Array Slot} (hN : L ≤ 3072) (h0 : 6 * i + 6 ≤ L) (C : lwC p s m c #[Value.ref b0] D cA b ρ0) (hX : va_X b0 L xs s s.heap) (hbl : b0 < s.heap.size) (ex0 : xs (6 * i) = 0) (ex1 : xs (6 * i + 1) = x1) (ex2 : xs (6 * i + 2) = x2) (ex3 : xs (6 * i + 3) = x3) (ex4 : xs (6 * i + 4) = x4) (ex5 : xs (6 * i + 5) = x5) (hg : xGd hp) (hg1 : xGd hp1) (r1 : xbr b f 1000 25 hp (.ref 0 :: [x1, x2, x3, x4, x5].map Value.int) = some (some (.int r), hp1)) (r2 : xbr b f2 1000 315 hp1 (.ref 49 :: [x1, x2, x3, x4, x5].map Value.int) = some (some (.int r), hp2)) (hw : lwW s D cA ρ0 ρ hp H locs) (e0 : ρ 0 = a0) (e1 : ρ 49 = a1) (hl : lv_has ls 4 [(3, .int (nI (6 * i))), (0, .ref b0), (1, .ref a0), (2, .ref a1)])
    (kk : ∀ (ρ2 : Nat → Nat) (H2 : Heap) (locs2 : List Loc) (ls2 : Array Slot), lwW s D cA ρ0 ρ2 hp2 H2 locs2 → ρ2 0 = a0 → ρ2 49 = a1 → lv_has ls2 4 [(3, .int (nI (6 * (i + 1)))), (0, .ref b0), (1, .ref a0), (2, .ref a1)] → W p l e room_1 s m #[Value.ref b0] below meth c H2 locs2 600000 7302250 Q (F0 m 18 ls2 [])) : W p l e room_1 s m #[Value.ref b0] below meth c H locs 600000 7302250 Q (F0 m 18 ls []) := by
  obtain ⟨hx, hb, hml, hown, hts, hK, hE⟩ := id C
  obtain ⟨hP, hD, hS, hag⟩ := id hw
  obtain ⟨g1, ⟨f0, g2⟩, f1, g3⟩ := hg
  obtain ⟨q1, q2, ⟨fq, q3⟩⟩ := hg1
  refine lv_iload_n hx hb dl_18 rfl (lv_at hl 0 rfl) ?_
  refine lv_aload_n hx hb dl_19 rfl (lv_at hl 1 rfl) ?_
  refine va_slen hx hb hX hbl (Nat.not_le.mpr hbl) hS dl_20 ?_
  refine lv_bipush (v := nI 6) hx hb dl_21 (by decide) ?_
  refine lv_isub hx hb dl_23 ?_
  refine lv_icmp_gt (tgt := 408) hx hb dl_24 (by decide) (fun hc => absurd hc ?_) (fun _ => ?_)
  · show ¬ nI L - nI 6 < nI (6 * i)
    rw [Int32.lt_iff_toInt_lt, pk_sub_toInt (by omega) (by omega), nI_toInt (by omega)]
    omega
  · refine lv_aload_n hx hb dl_27 rfl (lv_at hl 1 rfl) ?_
    refine lv_iload_n hx hb dl_28 rfl (lv_at hl 0 rfl) ?_
    refine va_sld hx hb hX hbl (Nat.not_le.mpr hbl) hS (vp_in_nI (by omega) (by omega)) dl_29 ?_
    refine lv_bipush (v := 15) hx hb dl_30 (by decide) ?_
    refine lv_iand hx hb dl_32 ?_
    rw [nI_clamp (by omega), ex0, show (0 : Int32) &&& 15 = nI 0 from by decide +kernel]
    refine lv_tableIn (tgt := 96) (off := 63) hx hb dl_33 (by decide) (by decide) rfl (by decide) ?_
    refine lv_aload_n hx hb dl_96 rfl (lv_at hl 2 rfl) ?_
    refine lw_ld (j := 1) hx hb hX hbl hS hl (by omega) (by omega) (by decide) dl_97 dl_98 dl_99 dl_100 dl_101 ex1 ?_
    refine lw_ld (j := 2) hx hb hX hbl hS hl (by omega) (by omega) (by decide) dl_102 dl_103 dl_104 dl_105 dl_106 ex2 ?_
    refine lw_ld (j := 3) hx hb hX hbl hS hl (by omega) (by omega) (by decide) dl_107 dl_108 dl_109 dl_110 dl_111 ex3 ?_
    refine lw_ld (j := 4) hx hb hX hbl hS hl (by omega) (by omega) (by decide) dl_112 dl_113 dl_114 dl_115 dl_116 ex4 ?_
    refine lw_ld (j := 5) hx hb hX hbl hS hl (by omega) (by omega) (by decide) dl_117 dl_118 dl_119 dl_120 dl_121 ex5 ?_
    refine lw_va (as := [x1, x2, x3, x4, x5]) (rest := []) C hw e0 hl.1 0 rfl rfl (by decide) r1 g2 (Nat.le_refl _) (Nat.le_refl _) (by decide) dl_122 (fun ρ1 H1 locs1 ag1 hw1 => ?_)
    refine lv_aload_n hx hb dl_125 rfl (lv_at hl 3 rfl) ?_
    refine lw_ld (j := 1) hx hb hX hbl hw1.2.2.1 hl (by omega) (by omega) (by decide) dl_126 dl_127 dl_128 dl_129 dl_130 ex1 ?_
    refine lw_ld (j := 2) hx hb hX hbl hw1.2.2.1 hl (by omega) (by omega) (by decide) dl_131 dl_132 dl_133 dl_134 dl_135 ex2 ?_
    refine lw_ld (j := 3) hx hb hX hbl hw1.2.2.1 hl (by omega) (by omega) (by decide) dl_136 dl_137 dl_138 dl_139 dl_140 ex3 ?_
    refine lw_ld (j := 4) hx hb hX hbl hw1.2.2.1 hl (by omega) (by omega) (by decide) dl_141 dl_142 dl_143 dl_144 dl_145 ex4 ?_
    refine lw_ld (j := 5) hx hb hX hbl hw1.2.2.1 hl (by omega) (by omega) (by decide) dl_146 dl_147 dl_148 dl_149 dl_150 ex5 ?_
    refine lw_va (as := [x1, x2, x3, x4, x5]) (rest := [.int r]) C hw1 ((ag1 49 (by omega)).trans e1) hl.1 1 rfl rfl (by decide) r2 q3 (Nat.le_refl _) (Nat.le_refl _) (Nat.le_of_ble_eq_true rfl) dl_151 (fun ρ2 H2 locs2 ag2 hw2 => ?_)
    refine lv_icmp_eq (tgt := 402) hx hb dl_154 (by decide) (fun _ => ?_) (fun hc => absurd rfl hc)
    refine lv_iinc (v := nI (6 * (i + 1))) (lv' := [(3, .int (nI (6 * (i + 1)))), (0, .ref b0), (1, .ref a0), (2, .ref a1)]) hx hb dl_402 hl (k := 0) rfl ?_ (by decide) rfl (fun ls2 hl2 => ?_)
    · show nI (6 * i) + nI 6 = nI (6 * (i + 1))
      rw [nI_add]
      congr 1
    · refine lv_goto (tgt := 18) hx hb dl_405 (by decide) ?_
      exact kk ρ2 H2 locs2 ls2 hw2 ((ag2 0 (by omega)).trans ((ag1 0 (by omega)).trans e0)) ((ag2 49 (by omega)).trans ((ag1 49 (by omega)).trans e1)) hl2
set_option maxHeartbeats 4000000 in
/-- a call from the law of a method that dies -/
theorem lw_dieV {args : Array Value} {D : va_G} {cA : Nat → ClassId} {b : Bool} {ρ0 ρ : Nat → Nat} {hp : List x_E} {cells slots : Nat} (C : lwC p s m c args D cA b ρ0) (hw : lwW s D cA ρ0 ρ hp H locs) (hxt : c.exceptionTable = #[]) (hlocks : meth.locks = false) {ls : Array Slot} {pc d v : Nat} {as : List Int32} {rest : List Value} (hls : ls.size = 4) (k : Nat) {j idx i1 i2 i3 na own : Nat} (hk : lwT[k]? = some (j, idx, i1, i2, i3, na, own)) (hna : as.length = na) (hd : d ≤ 1000) (hrun : pD b [] d j 0 (lv_args 0 (.ref v :: as.map .int)) [] hp) {fs : List Value} (hv : hp[v]? = some (.inr (own, fs))) (hcells : cells ≤ 600000) (hslots : slots ≤ 7302250) (hcat : (rest.map fun v => v.category).sum ≤ 8) (hdg : decode code pc = .ok (.invokevirtual idx, 3)) {a : Nat} (ha : ρ v = a) : W p l e room_1 s m args below meth c H locs cells slots (dzQ p below) (F0 m pc ls ((as.map Value.int).reverse ++ .ref a :: rest)) := by
  subst ha
  obtain ⟨hx, hb, hml, hown, hts, hK, hE⟩ := C
  obtain ⟨hP, hD, hS, hag⟩ := hw
  have hc := List.all_eq_true.mp lwT_ok _ (List.mem_of_getElem? hk)
  unfold lwK at hc
  cases hj : xMf j with
  | none => rw [hj] at hc; cases hc
  | some M =>
    rw [hj] at hc
    simp only [Bool.and_eq_true, decide_eq_true_eq] at hc
    obtain ⟨⟨⟨⟨⟨⟨⟨g1, g2⟩, g3⟩, g4⟩, g5⟩, g6⟩, g7⟩, g8⟩ := hc
    have hZ := xZ_ok (xfm_ok b)
    obtain ⟨c1, c2, c3, c4, c5, c6⟩ := hZ.2.2.2.2.2.1 j M hj
    have hMet := dnMet_pD (M := M) hj hrun (by rw [xsl_len, hna]; exact g8) l D cA ρ H.size
    have hG : GoodIn lw_tbl (Cond.code (xy M) (xb M) (xn M) (xr M) :: xTs) := fun w hw => by
      rcases List.mem_cons.mp hw with rfl | h
      · exact ⟨xTs_sub c1, good_of_word (List.mem_filter.mp c1).2⟩
      · exact ⟨xTs_sub h, good_of_word (List.mem_filter.mp h).2⟩
    have hA : ∀ q : Nat, s.heap.size ≤ q → (fun q : Nat => s.heap.size ≤ q) q := fun _ h => h
    have hFc := va_free (wc := xw ρ cA hp) hD hS hA (List.range (xw ρ cA hp).length) (xall_range _)
    have hR : (xrm d (xmc M) (xms M)).frames + 1 ≤ room_1.frames ∧ 8 + (xn M + 11) + (xrm d (xmc M) (xms M)).locals ≤ room_1.locals := ⟨by show d + 1 ≤ 2048; omega, by show 8 + (xn M + 11) + 64 * d ≤ 84000; omega⟩
    have hmap : (as.map Value.int).map (xv ρ) = as.map Value.int := by
      rw [List.map_map]
      rfl
    have he : (xw ρ cA hp)[v]? = some (ρ v, .inr (xo M, fs.map (xv ρ))) := by rw [xw_get, hv, g5]; rfl
    obtain ⟨q, hq, -⟩ := hP v _ he
    have hrec := va_recv hK hP hq he
    have hNm := hZ.2.2.2.2.2.2.2.2.2.2.2.2.1 (xo M) q hq
    rw [hNm] at hrec
    have c4' : (xy M).cls = xnmF (xo M) := c4
    have hrec' : ∃ cell : Cell, H[ρ v]? = some cell ∧ cell.vm.isStatics = false ∧ s.vm.findClass (xy M).cls = some cell.cls := by rw [c4']; exact hrec
    have hpre : ∀ U : State, U.heap = H → s.WarmedH U.vm → xPc xZ (xY (xfm b)) D xcl cA ρ hp (.ref v :: as.map .int) H.size (Value.ref (ρ v) :: as.map Value.int).toArray U := fun U hU hW => ⟨by rw [List.map_cons, hmap]; rfl, by rw [hU], by rw [hU]; exact hP, va_K.moved hW.alike hK, hD.weaken (fun _ _ _ _ => trivial), xEnv_go (fun o idx g hg => (hZ.2.2.2.2.2.2.2.2.2.2.2.2.2.2 o idx g hg).2) hE hS hFc hag hW hU⟩
    exact dz_runV (g := F0 m pc ls ((as.map Value.int).reverse ++ .ref (ρ v) :: rest)) (rest := rest) (C := (xy M).cls) (b := ρ v) (As := as.map Value.int) (R := room_1) (nL := 4) ⟨hx, hb, hml, hown, hts⟩ hMet ⟨callB_of (xa M) hts hG rfl rfl rfl (hts _ (xTs_sub c2)) (hts _ (xTs_sub (xis_mem g1))) c5 hR, hts _ (xTs_sub (xis_mem g2)), hts _ (xTs_sub (xis_mem g3))⟩ ⟨xBlind, hrec', hpre⟩ hxt hlocks rfl rfl rfl (by rw [List.length_map, hna, g4]) hls rfl (lv_room hcat) hdg ⟨by rw [g6]; exact hcells, by rw [g7]; exact hslots⟩
set_option maxHeartbeats 8000000 in
set_option maxRecDepth 20000 in
/-- a turn of program: the class answers, the reference dies -/
theorem lt_prog {b0 L : Nat} {xs : Nat → Int32} {D : va_G} {cA : Nat → ClassId} {b : Bool} {ρ0 ρ : Nat → Nat} {a0 a1 i : Nat} {x1 r : Int32} {f : Nat} {hp hp1 : List x_E} {ls : Array Slot} (hN : L ≤ 3072) (h0 : 6 * i + 6 ≤ L) (C : lwC p s m c #[Value.ref b0] D cA b ρ0) (hX : va_X b0 L xs s s.heap) (hbl : b0 < s.heap.size) (hxt : c.exceptionTable = #[]) (hlocks : meth.locks = false) (ex0 : xs (6 * i) = 1) (ex1 : xs (6 * i + 1) = x1) (hg : xGd hp) (hg1 : xGd hp1) (r1 : xbr b f 1000 27 hp (.ref 0 :: [x1].map Value.int) = some (some (.int r), hp1)) (r2 : pD b [] 1000 317 0 (lv_args 0 (.ref 49 :: [x1].map Value.int)) [] hp1) (hw : lwW s D cA ρ0 ρ hp H locs) (e0 : ρ 0 = a0) (e1 : ρ 49 = a1) (hl : lv_has ls 4 [(3, .int (nI (6 * i))), (0, .ref b0), (1, .ref a0), (2, .ref a1)]) : W p l e room_1 s m #[Value.ref b0] below meth c H locs 600000 7302250 (dzQ p below) (F0 m 18 ls []) := by
  obtain ⟨hx, hb, hml, hown, hts, hK, hE⟩ := id C
  obtain ⟨hP, hD, hS, hag⟩ := id hw
  obtain ⟨g1, ⟨f0, g2⟩, f1, g3⟩ := hg
  obtain ⟨q1, q2, ⟨fq, q3⟩⟩ := hg1
  refine lv_iload_n hx hb dl_18 rfl (lv_at hl 0 rfl) ?_
  refine lv_aload_n hx hb dl_19 rfl (lv_at hl 1 rfl) ?_
  refine va_slen hx hb hX hbl (Nat.not_le.mpr hbl) hS dl_20 ?_
  refine lv_bipush (v := nI 6) hx hb dl_21 (by decide) ?_
  refine lv_isub hx hb dl_23 ?_
  refine lv_icmp_gt (tgt := 408) hx hb dl_24 (by decide) (fun hc => absurd hc ?_) (fun _ => ?_)
  · show ¬ nI L - nI 6 < nI (6 * i)
    rw [Int32.lt_iff_toInt_lt, pk_sub_toInt (by omega) (by omega), nI_toInt (by omega)]
    omega
  · refine lv_aload_n hx hb dl_27 rfl (lv_at hl 1 rfl) ?_
    refine lv_iload_n hx hb dl_28 rfl (lv_at hl 0 rfl) ?_
    refine va_sld hx hb hX hbl (Nat.not_le.mpr hbl) hS (vp_in_nI (by omega) (by omega)) dl_29 ?_
    refine lv_bipush (v := 15) hx hb dl_30 (by decide) ?_
    refine lv_iand hx hb dl_32 ?_
    rw [nI_clamp (by omega), ex0, show (1 : Int32) &&& 15 = nI 1 from by decide +kernel]
    refine lv_tableIn (tgt := 159) (off := 126) hx hb dl_33 (by decide) (by decide) rfl (by decide) ?_
    refine lv_aload_n hx hb dl_159 rfl (lv_at hl 2 rfl) ?_
    refine lw_ld (j := 1) hx hb hX hbl hS hl (by omega) (by omega) (by decide) dl_160 dl_161 dl_162 dl_163 dl_164 ex1 ?_
    refine lw_va (as := [x1]) (rest := []) C hw e0 hl.1 2 rfl rfl (by decide) r1 g2 (Nat.le_refl _) (Nat.le_refl _) (by decide) dl_165 (fun ρ1 H1 locs1 ag1 hw1 => ?_)
    refine lv_aload_n hx hb dl_168 rfl (lv_at hl 3 rfl) ?_
    refine lw_ld (j := 1) hx hb hX hbl hw1.2.2.1 hl (by omega) (by omega) (by decide) dl_169 dl_170 dl_171 dl_172 dl_173 ex1 ?_
    exact lw_dieV (as := [x1]) (rest := [.int r]) C hw1 hxt hlocks hl.1 3 rfl rfl (by decide) r2 q3 (Nat.le_refl _) (Nat.le_refl _) (Nat.le_of_ble_eq_true rfl) dl_174 ((ag1 49 (by omega)).trans e1)
end LD
