def xCalls : List (Nat × Nat × Nat) := [(25, 315, 5), (27, 317, 1), (176, 398, 1), (250, 460, 0), (252, 391, 1), (254, 443, 1), (256, 444, 1), (257, 445, 2), (300, 461, 0), (302, 462, 1), (312, 463, 1), (313, 464, 1)]
/-- the cells of the two objects -/
def xGd (hp : List x_E) : Prop := hp.length = 122 ∧ (∃ fs, hp[0]? = some (.inr (0, fs))) ∧ ∃ fs, hp[49]? = some (.inr (12, fs))
/-- a call on each of the two: alike answers, and what is kept is kept -/
def xStep (b : Bool) (N : Nat) (Inv : Nat → List x_E → Prop) : Prop := ∀ (i : Nat) (hp : List x_E), 6 * i + 6 ≤ N → Inv i hp → ∀ q ∈ xCalls, ∀ as : List Int32, as.length = q.2.2 → ∃ (f f2 : Nat) (r : Int32) (hp1 hp2 : List x_E), xbr b f 1000 q.1 hp (.ref 0 :: as.map Value.int) = some (some (.int r), hp1) ∧ xbr b f2 1000 q.2.1 hp1 (.ref 49 :: as.map Value.int) = some (some (.int r), hp2) ∧ xGd hp1 ∧ xGd hp2 ∧ Inv (i + 1) hp2
section LP
variable {p : Program} {l : Launch} {e : Env} {s : State} {m : MethodId} {below : List Frame} {meth : Method} {c : Code} {H : Heap} {locs : List Loc} {cells slots : Nat} {Q : State → Prop}
theorem lw_va {args : Array Value} {D : va_G} {cA : Nat → ClassId} {b : Bool} {ρ0 ρ : Nat → Nat} {hp hp1 : List x_E} (C : lwC p s m c args D cA b ρ0) (hw : lwW s D cA ρ0 ρ hp H locs) {ls : Array Slot} {pc f d v a : Nat} (ha : ρ v = a) {as : List Int32} {r : Int32} {rest : List Value} (hls : ls.size = 4) (k : Nat) {j idx i1 i2 i3 na own : Nat} (hk : lwT[k]? = some (j, idx, i1, i2, i3, na, own)) (hna : as.length = na) (hd : d ≤ 1000) (hrun : xbr b f d j hp (.ref v :: as.map .int) = some (some (.int r), hp1)) {fs : List Value} (hv : hp[v]? = some (.inr (own, fs))) (hcells : cells ≤ 600000) (hslots : slots ≤ 7302249) (hcat : (rest.map fun v => v.category).sum ≤ 8) (hdg : decode code pc = .ok (.invokevirtual idx, 3))
    (kk : ∀ (ρ1 : Nat → Nat) (H1 : Heap) (locs1 : List Loc), (∀ i, i < hp.length → ρ1 i = ρ i) → lwW s D cA ρ0 ρ1 hp1 H1 locs1 → W p l e room_1 s m args below meth c H1 locs1 cells slots Q (F0 m (pc + 3) ls (.int r :: rest))) : W p l e room_1 s m args below meth c H locs cells slots Q (F0 m pc ls ((as.map Value.int).reverse ++ .ref a :: rest)) := by
  subst ha
  exact lw_v C hw hls k hk hna hd hrun hv hcells hslots hcat hdg kk
/-- an int of the script -/
theorem lw_ld {args : Array Value} {R : Room} {b0 L i j a0 a1 pc : Nat} {xs : Nat → Int32} {ls : Array Slot} {rest : List Value} {x : Int32} (hx : p.tables.exec = Jvm.exec) (hb : c.code = code) (hX : va_X b0 L xs s s.heap) (hbl : b0 < s.heap.size) (hS : va_S (fun q => s.heap.size ≤ q) s.heap H locs) (hl : lv_has ls 4 [(3, .int (nI (6 * i))), (0, .ref b0), (1, .ref a0), (2, .ref a1)]) (hi : 6 * i + j < L) (hL : L ≤ 100000) (hxj : Int32.ofInt (j : Int) = nI j) (d0 : decode code pc = .ok (.aload_n 0, 1)) (d1 : decode code (pc + 1) = .ok (.iload_n 3, 1)) (d2 : decode code (pc + 2) = .ok (.iconst (j : Int), 1)) (d3 : decode code (pc + 3) = .ok (.iadd, 1)) (d4 : decode code (pc + 4) = .ok (.iaload, 1)) (ex : xs (6 * i + j) = x)
    (kk : W p l e R s m args below meth c H locs cells slots Q (F0 m (pc + 5) ls (.int x :: rest))) : W p l e R s m args below meth c H locs cells slots Q (F0 m pc ls rest) := by
  refine lv_aload_n hx hb d0 rfl (lv_at hl 1 rfl) ?_
  refine lv_iload_n hx hb d1 rfl (lv_at hl 0 rfl) ?_
  refine lv_iconst (v := nI j) hx hb d2 hxj ?_
  refine lv_iadd hx hb d3 ?_
  rw [nI_add]
  refine va_sld hx hb hX hbl (Nat.not_le.mpr hbl) hS (vp_in_nI hi (by omega)) d4 ?_
  rw [nI_clamp (by omega), ex]
  exact kk
set_option maxHeartbeats 8000000 in
set_option maxRecDepth 20000 in
theorem law_loop {b0 L N : Nat} {xs : Nat → Int32} {D : va_G} {cA : Nat → ClassId} {b : Bool} {ρ0 : Nat → Nat} {a0 a1 : Nat} (hLN : L ≤ N) (hN : N ≤ 3072) (C : lwC p s m c #[Value.ref b0] D cA b ρ0) (hX : va_X b0 L xs s s.heap) (hbl : b0 < s.heap.size) (hr : meth.sig.returnType = ret) (hlocks : meth.locks = false) {Inv : Nat → List x_E → Prop} (hst : xStep b N Inv) (hsk : ∀ i hp, Inv i hp → Inv (i + 1) hp) (hgd : ∀ i hp, Inv i hp → xGd hp) :
    ∀ (n i : Nat), L < 6 * i + 6 * n → 6 * i ≤ L + 6 → ∀ (hp : List x_E) (ρ : Nat → Nat) (H : Heap) (locs : List Loc) (ls : Array Slot), Inv i hp → lwW s D cA ρ0 ρ hp H locs → ρ 0 = a0 → ρ 49 = a1 → lv_has ls 4 [(3, .int (nI (6 * i))), (0, .ref b0), (1, .ref a0), (2, .ref a1)] → W p l e room_1 s m #[Value.ref b0] below meth c H locs 600000 7302249 (lw_Z below #[Value.ref b0] s) (F0 m 18 ls []) := by
  intro n
  induction n with
  | zero =>
    intro i h1 h1b
    have h0 : ¬ 6 * i + 6 ≤ L := by omega
    intro hp ρ H locs ls hI hw e0 e1 hl
    obtain ⟨hx, hb, hml, hown, hts, hK, hE⟩ := id C
    obtain ⟨hP, hD, hS, hag⟩ := id hw
    refine lv_iload_n hx hb dl_18 rfl (lv_at hl 0 rfl) ?_
    refine lv_aload_n hx hb dl_19 rfl (lv_at hl 1 rfl) ?_
    refine va_slen hx hb hX hbl (Nat.not_le.mpr hbl) hS dl_20 ?_
    refine lv_bipush (v := nI 6) hx hb dl_21 (by decide) ?_
    refine lv_isub hx hb dl_23 ?_
    refine lv_icmp_gt (tgt := 408) hx hb dl_24 (by decide) (fun _ => ?_) (fun hc => absurd ?_ hc)
    · refine lv_iconst (v := 1) hx hb dl_408 (by decide) ?_
      refine va_forget (fun q hq => hS.2.2 q hq) ?_
      exact lw_ret hx hb hr hlocks dl_409
    · show nI L - nI 6 < nI (6 * i)
      rw [Int32.lt_iff_toInt_lt, pk_sub_toInt (by omega) (by omega), nI_toInt (by omega)]
      omega
  | succ n ih =>
    intro i h1 h1b hp ρ H locs ls hI hw e0 e1 hl
    obtain ⟨hx, hb, hml, hown, hts, hK, hE⟩ := id C
    obtain ⟨hP, hD, hS, hag⟩ := id hw
    refine lv_iload_n hx hb dl_18 rfl (lv_at hl 0 rfl) ?_
    refine lv_aload_n hx hb dl_19 rfl (lv_at hl 1 rfl) ?_
    refine va_slen hx hb hX hbl (Nat.not_le.mpr hbl) hS dl_20 ?_
    refine lv_bipush (v := nI 6) hx hb dl_21 (by decide) ?_
    refine lv_isub hx hb dl_23 ?_
    by_cases h0 : 6 * i + 6 ≤ L
    · refine lv_icmp_gt (tgt := 408) hx hb dl_24 (by decide) (fun hc => absurd hc ?_) (fun _ => ?_)
      · show ¬ nI L - nI 6 < nI (6 * i)
        rw [Int32.lt_iff_toInt_lt, pk_sub_toInt (by omega) (by omega), nI_toInt (by omega)]
        omega
      · refine lv_aload_n hx hb dl_27 rfl (lv_at hl 1 rfl) ?_
        refine lv_iload_n hx hb dl_28 rfl (lv_at hl 0 rfl) ?_
        refine va_sld hx hb hX hbl (Nat.not_le.mpr hbl) hS (vp_in_nI (by omega) (by omega)) dl_29 ?_
        refine lv_bipush (v := 15) hx hb dl_30 (by decide) ?_
        refine lv_iand hx hb dl_32 ?_
        have tail : ∀ (hp2 : List x_E) (ρ2 : Nat → Nat) (H2 : Heap) (locs2 : List Loc), Inv (i + 1) hp2 → lwW s D cA ρ0 ρ2 hp2 H2 locs2 → ρ2 0 = a0 → ρ2 49 = a1 → W p l e room_1 s m #[Value.ref b0] below meth c H2 locs2 600000 7302249 (lw_Z below #[Value.ref b0] s) (F0 m 402 ls []) := by
          intro hp2 ρ2 H2 locs2 hI2 hw2 e02 e12
          refine lv_iinc (v := nI (6 * (i + 1))) (lv' := [(3, .int (nI (6 * (i + 1)))), (0, .ref b0), (1, .ref a0), (2, .ref a1)]) hx hb dl_402 hl (k := 0) rfl ?_ (by decide) rfl (fun ls2 hl2 => ?_)
          · show nI (6 * i) + nI 6 = nI (6 * (i + 1))
            rw [nI_add]
            congr 1
          · refine lv_goto (tgt := 18) hx hb dl_405 (by decide) ?_
            exact ih (i + 1) (by omega) (by omega) hp2 ρ2 H2 locs2 ls2 hI2 hw2 e02 e12 hl2
        obtain ⟨g1, ⟨f0, g2⟩, f1, g3⟩ := hgd i hp hI
        have hst1 := hst i hp (by omega) hI
        generalize hv0 : xs (nI (6 * i)).toNatClampNeg &&& 15 = v0
        obtain ⟨k, hk, ek⟩ := pk_andE (xs (nI (6 * i)).toNatClampNeg) (m := 15) 4 (by decide)
        rw [hv0] at ek
        subst ek
        match k, hk with
        | 0, _ =>
          refine lv_tableIn (tgt := 96) (off := 63) hx hb dl_33 (by decide) (by decide) rfl (by decide) ?_
          obtain ⟨x1, ex1⟩ : ∃ x, xs (6 * i + 1) = x := ⟨_, rfl⟩
          obtain ⟨x2, ex2⟩ : ∃ x, xs (6 * i + 2) = x := ⟨_, rfl⟩
          obtain ⟨x3, ex3⟩ : ∃ x, xs (6 * i + 3) = x := ⟨_, rfl⟩
          obtain ⟨x4, ex4⟩ : ∃ x, xs (6 * i + 4) = x := ⟨_, rfl⟩
          obtain ⟨x5, ex5⟩ : ∃ x, xs (6 * i + 5) = x := ⟨_, rfl⟩
          obtain ⟨f, f2, r, hp1, hp2, r1, r2, ⟨q1, q2, ⟨fq, q3⟩⟩, ⟨q4, q5⟩, q6⟩ := hst1 (25, 315, 5) (List.mem_of_getElem? (i := 0) rfl) [x1, x2, x3, x4, x5] rfl
          refine lv_aload_n hx hb dl_96 rfl (lv_at hl 2 rfl) ?_
          refine lw_ld (j := 1) hx hb hX hbl hS hl (by omega) (by omega) (by decide) dl_97 dl_98 dl_99 dl_100 dl_101 ex1 ?_
          refine lw_ld (j := 2) hx hb hX hbl hS hl (by omega) (by omega) (by decide) dl_102 dl_103 dl_104 dl_105 dl_106 ex2 ?_
          refine lw_ld (j := 3) hx hb hX hbl hS hl (by omega) (by omega) (by decide) dl_107 dl_108 dl_109 dl_110 dl_111 ex3 ?_
          refine lw_ld (j := 4) hx hb hX hbl hS hl (by omega) (by omega) (by decide) dl_112 dl_113 dl_114 dl_115 dl_116 ex4 ?_
          refine lw_ld (j := 5) hx hb hX hbl hS hl (by omega) (by omega) (by decide) dl_117 dl_118 dl_119 dl_120 dl_121 ex5 ?_
          refine lw_va (as := [x1, x2, x3, x4, x5]) (rest := []) C hw e0 hl.1 0 rfl rfl (by decide) r1 g2 (Nat.le_refl _) (Nat.le_refl _) (by decide) dl_122 (fun ρ1 H1 locs1 ag1 hw1 => ?_)
          refine lv_aload_n hx hb dl_125 rfl (lv_at hl 3 rfl) ?_
          refine lw_ld (j := 1) hx hb hX hbl hw1.2.2.1 hl (by omega) (by omega) (by decide) dl_126 dl_127 dl_128 dl_129 dl_130 ex1 ?_
          refine lw_ld (j := 2) hx hb hX hbl hw1.2.2.1 hl (by omega) (by omega) (by decide) dl_131 dl_132 dl_133 dl_134 dl_135 ex2 ?_
          refine lw_ld (j := 3) hx hb hX hbl hw1.2.2.1 hl (by omega) (by omega) (by decide) dl_136 dl_137 dl_138 dl_139 dl_140 ex3 ?_
          refine lw_ld (j := 4) hx hb hX hbl hw1.2.2.1 hl (by omega) (by omega) (by decide) dl_141 dl_142 dl_143 dl_144 dl_145 ex4 ?_
          refine lw_ld (j := 5) hx hb hX hbl hw1.2.2.1 hl (by omega) (by omega) (by decide) dl_146 dl_147 dl_148 dl_149 dl_150 ex5 ?_
          refine lw_va (as := [x1, x2, x3, x4, x5]) (rest := [.int r]) C hw1 ((ag1 49 (by omega)).trans e1) hl.1 1 rfl rfl (by decide) r2 q3 (Nat.le_refl _) (Nat.le_refl _) (Nat.le_of_ble_eq_true rfl) dl_151 (fun ρ2 H2 locs2 ag2 hw2 => ?_)
          refine lv_icmp_eq (tgt := 402) hx hb dl_154 (by decide) (fun _ => ?_) (fun hc => absurd rfl hc)
          exact tail hp2 ρ2 H2 locs2 q6 hw2 ((ag2 0 (by omega)).trans ((ag1 0 (by omega)).trans e0)) ((ag2 49 (by omega)).trans ((ag1 49 (by omega)).trans e1))
        | 1, _ =>
          refine lv_tableIn (tgt := 159) (off := 126) hx hb dl_33 (by decide) (by decide) rfl (by decide) ?_
          obtain ⟨x1, ex1⟩ : ∃ x, xs (6 * i + 1) = x := ⟨_, rfl⟩
          obtain ⟨f, f2, r, hp1, hp2, r1, r2, ⟨q1, q2, ⟨fq, q3⟩⟩, ⟨q4, q5⟩, q6⟩ := hst1 (27, 317, 1) (List.mem_of_getElem? (i := 1) rfl) [x1] rfl
          refine lv_aload_n hx hb dl_159 rfl (lv_at hl 2 rfl) ?_
          refine lw_ld (j := 1) hx hb hX hbl hS hl (by omega) (by omega) (by decide) dl_160 dl_161 dl_162 dl_163 dl_164 ex1 ?_
          refine lw_va (as := [x1]) (rest := []) C hw e0 hl.1 2 rfl rfl (by decide) r1 g2 (Nat.le_refl _) (Nat.le_refl _) (by decide) dl_165 (fun ρ1 H1 locs1 ag1 hw1 => ?_)
          refine lv_aload_n hx hb dl_168 rfl (lv_at hl 3 rfl) ?_
          refine lw_ld (j := 1) hx hb hX hbl hw1.2.2.1 hl (by omega) (by omega) (by decide) dl_169 dl_170 dl_171 dl_172 dl_173 ex1 ?_
          refine lw_va (as := [x1]) (rest := [.int r]) C hw1 ((ag1 49 (by omega)).trans e1) hl.1 3 rfl rfl (by decide) r2 q3 (Nat.le_refl _) (Nat.le_refl _) (Nat.le_of_ble_eq_true rfl) dl_174 (fun ρ2 H2 locs2 ag2 hw2 => ?_)
          refine lv_icmp_eq (tgt := 402) hx hb dl_177 (by decide) (fun _ => ?_) (fun hc => absurd rfl hc)
          exact tail hp2 ρ2 H2 locs2 q6 hw2 ((ag2 0 (by omega)).trans ((ag1 0 (by omega)).trans e0)) ((ag2 49 (by omega)).trans ((ag1 49 (by omega)).trans e1))
        | 2, _ =>
          refine lv_tableIn (tgt := 182) (off := 149) hx hb dl_33 (by decide) (by decide) rfl (by decide) ?_
          obtain ⟨x1, ex1⟩ : ∃ x, xs (6 * i + 1) = x := ⟨_, rfl⟩
          obtain ⟨f, f2, r, hp1, hp2, r1, r2, ⟨q1, q2, ⟨fq, q3⟩⟩, ⟨q4, q5⟩, q6⟩ := hst1 (176, 398, 1) (List.mem_of_getElem? (i := 2) rfl) [x1] rfl
          refine lv_aload_n hx hb dl_182 rfl (lv_at hl 2 rfl) ?_
          refine lw_ld (j := 1) hx hb hX hbl hS hl (by omega) (by omega) (by decide) dl_183 dl_184 dl_185 dl_186 dl_187 ex1 ?_
          refine lw_va (as := [x1]) (rest := []) C hw e0 hl.1 4 rfl rfl (by decide) r1 g2 (Nat.le_refl _) (Nat.le_refl _) (by decide) dl_188 (fun ρ1 H1 locs1 ag1 hw1 => ?_)
          refine lv_aload_n hx hb dl_191 rfl (lv_at hl 3 rfl) ?_
          refine lw_ld (j := 1) hx hb hX hbl hw1.2.2.1 hl (by omega) (by omega) (by decide) dl_192 dl_193 dl_194 dl_195 dl_196 ex1 ?_
          refine lw_va (as := [x1]) (rest := [.int r]) C hw1 ((ag1 49 (by omega)).trans e1) hl.1 5 rfl rfl (by decide) r2 q3 (Nat.le_refl _) (Nat.le_refl _) (Nat.le_of_ble_eq_true rfl) dl_197 (fun ρ2 H2 locs2 ag2 hw2 => ?_)
          refine lv_icmp_eq (tgt := 402) hx hb dl_200 (by decide) (fun _ => ?_) (fun hc => absurd rfl hc)
          exact tail hp2 ρ2 H2 locs2 q6 hw2 ((ag2 0 (by omega)).trans ((ag1 0 (by omega)).trans e0)) ((ag2 49 (by omega)).trans ((ag1 49 (by omega)).trans e1))
        | 3, _ =>
          refine lv_tableIn (tgt := 205) (off := 172) hx hb dl_33 (by decide) (by decide) rfl (by decide) ?_
          obtain ⟨f, f2, r, hp1, hp2, r1, r2, ⟨q1, q2, ⟨fq, q3⟩⟩, ⟨q4, q5⟩, q6⟩ := hst1 (250, 460, 0) (List.mem_of_getElem? (i := 3) rfl) [] rfl
          refine lv_aload_n hx hb dl_205 rfl (lv_at hl 2 rfl) ?_
          refine lw_va (as := []) (rest := []) C hw e0 hl.1 6 rfl rfl (by decide) r1 g2 (Nat.le_refl _) (Nat.le_refl _) (by decide) dl_206 (fun ρ1 H1 locs1 ag1 hw1 => ?_)
          refine lv_aload_n hx hb dl_209 rfl (lv_at hl 3 rfl) ?_
          refine lw_va (as := []) (rest := [.int r]) C hw1 ((ag1 49 (by omega)).trans e1) hl.1 7 rfl rfl (by decide) r2 q3 (Nat.le_refl _) (Nat.le_refl _) (Nat.le_of_ble_eq_true rfl) dl_210 (fun ρ2 H2 locs2 ag2 hw2 => ?_)
          refine lv_icmp_eq (tgt := 402) hx hb dl_213 (by decide) (fun _ => ?_) (fun hc => absurd rfl hc)
          exact tail hp2 ρ2 H2 locs2 q6 hw2 ((ag2 0 (by omega)).trans ((ag1 0 (by omega)).trans e0)) ((ag2 49 (by omega)).trans ((ag1 49 (by omega)).trans e1))
        | 4, _ =>
          refine lv_tableIn (tgt := 218) (off := 185) hx hb dl_33 (by decide) (by decide) rfl (by decide) ?_
          obtain ⟨x1, ex1⟩ : ∃ x, xs (6 * i + 1) = x := ⟨_, rfl⟩
          obtain ⟨f, f2, r, hp1, hp2, r1, r2, ⟨q1, q2, ⟨fq, q3⟩⟩, ⟨q4, q5⟩, q6⟩ := hst1 (252, 391, 1) (List.mem_of_getElem? (i := 4) rfl) [x1] rfl
          refine lv_aload_n hx hb dl_218 rfl (lv_at hl 2 rfl) ?_
          refine lw_ld (j := 1) hx hb hX hbl hS hl (by omega) (by omega) (by decide) dl_219 dl_220 dl_221 dl_222 dl_223 ex1 ?_
          refine lw_va (as := [x1]) (rest := []) C hw e0 hl.1 8 rfl rfl (by decide) r1 g2 (Nat.le_refl _) (Nat.le_refl _) (by decide) dl_224 (fun ρ1 H1 locs1 ag1 hw1 => ?_)
          refine lv_aload_n hx hb dl_227 rfl (lv_at hl 3 rfl) ?_
          refine lw_ld (j := 1) hx hb hX hbl hw1.2.2.1 hl (by omega) (by omega) (by decide) dl_228 dl_229 dl_230 dl_231 dl_232 ex1 ?_
          refine lw_va (as := [x1]) (rest := [.int r]) C hw1 ((ag1 49 (by omega)).trans e1) hl.1 9 rfl rfl (by decide) r2 q3 (Nat.le_refl _) (Nat.le_refl _) (Nat.le_of_ble_eq_true rfl) dl_233 (fun ρ2 H2 locs2 ag2 hw2 => ?_)
          refine lv_icmp_eq (tgt := 402) hx hb dl_236 (by decide) (fun _ => ?_) (fun hc => absurd rfl hc)
          exact tail hp2 ρ2 H2 locs2 q6 hw2 ((ag2 0 (by omega)).trans ((ag1 0 (by omega)).trans e0)) ((ag2 49 (by omega)).trans ((ag1 49 (by omega)).trans e1))
        | 5, _ =>
          refine lv_tableIn (tgt := 241) (off := 208) hx hb dl_33 (by decide) (by decide) rfl (by decide) ?_
          obtain ⟨x1, ex1⟩ : ∃ x, xs (6 * i + 1) = x := ⟨_, rfl⟩
          obtain ⟨f, f2, r, hp1, hp2, r1, r2, ⟨q1, q2, ⟨fq, q3⟩⟩, ⟨q4, q5⟩, q6⟩ := hst1 (254, 443, 1) (List.mem_of_getElem? (i := 5) rfl) [x1] rfl
          refine lv_aload_n hx hb dl_241 rfl (lv_at hl 2 rfl) ?_
          refine lw_ld (j := 1) hx hb hX hbl hS hl (by omega) (by omega) (by decide) dl_242 dl_243 dl_244 dl_245 dl_246 ex1 ?_
          refine lw_va (as := [x1]) (rest := []) C hw e0 hl.1 10 rfl rfl (by decide) r1 g2 (Nat.le_refl _) (Nat.le_refl _) (by decide) dl_247 (fun ρ1 H1 locs1 ag1 hw1 => ?_)
          refine lv_aload_n hx hb dl_250 rfl (lv_at hl 3 rfl) ?_
          refine lw_ld (j := 1) hx hb hX hbl hw1.2.2.1 hl (by omega) (by omega) (by decide) dl_251 dl_252 dl_253 dl_254 dl_255 ex1 ?_
          refine lw_va (as := [x1]) (rest := [.int r]) C hw1 ((ag1 49 (by omega)).trans e1) hl.1 11 rfl rfl (by decide) r2 q3 (Nat.le_refl _) (Nat.le_refl _) (Nat.le_of_ble_eq_true rfl) dl_256 (fun ρ2 H2 locs2 ag2 hw2 => ?_)
          refine lv_icmp_eq (tgt := 402) hx hb dl_259 (by decide) (fun _ => ?_) (fun hc => absurd rfl hc)
          exact tail hp2 ρ2 H2 locs2 q6 hw2 ((ag2 0 (by omega)).trans ((ag1 0 (by omega)).trans e0)) ((ag2 49 (by omega)).trans ((ag1 49 (by omega)).trans e1))
        | 6, _ =>
          refine lv_tableIn (tgt := 264) (off := 231) hx hb dl_33 (by decide) (by decide) rfl (by decide) ?_
          obtain ⟨x1, ex1⟩ : ∃ x, xs (6 * i + 1) = x := ⟨_, rfl⟩
          obtain ⟨f, f2, r, hp1, hp2, r1, r2, ⟨q1, q2, ⟨fq, q3⟩⟩, ⟨q4, q5⟩, q6⟩ := hst1 (256, 444, 1) (List.mem_of_getElem? (i := 6) rfl) [x1] rfl
          refine lv_aload_n hx hb dl_264 rfl (lv_at hl 2 rfl) ?_
          refine lw_ld (j := 1) hx hb hX hbl hS hl (by omega) (by omega) (by decide) dl_265 dl_266 dl_267 dl_268 dl_269 ex1 ?_
          refine lw_va (as := [x1]) (rest := []) C hw e0 hl.1 12 rfl rfl (by decide) r1 g2 (Nat.le_refl _) (Nat.le_refl _) (by decide) dl_270 (fun ρ1 H1 locs1 ag1 hw1 => ?_)
          refine lv_aload_n hx hb dl_273 rfl (lv_at hl 3 rfl) ?_
          refine lw_ld (j := 1) hx hb hX hbl hw1.2.2.1 hl (by omega) (by omega) (by decide) dl_274 dl_275 dl_276 dl_277 dl_278 ex1 ?_
          refine lw_va (as := [x1]) (rest := [.int r]) C hw1 ((ag1 49 (by omega)).trans e1) hl.1 13 rfl rfl (by decide) r2 q3 (Nat.le_refl _) (Nat.le_refl _) (Nat.le_of_ble_eq_true rfl) dl_279 (fun ρ2 H2 locs2 ag2 hw2 => ?_)
          refine lv_icmp_eq (tgt := 402) hx hb dl_282 (by decide) (fun _ => ?_) (fun hc => absurd rfl hc)
          exact tail hp2 ρ2 H2 locs2 q6 hw2 ((ag2 0 (by omega)).trans ((ag1 0 (by omega)).trans e0)) ((ag2 49 (by omega)).trans ((ag1 49 (by omega)).trans e1))
        | 7, _ =>
          refine lv_tableIn (tgt := 287) (off := 254) hx hb dl_33 (by decide) (by decide) rfl (by decide) ?_
          obtain ⟨x1, ex1⟩ : ∃ x, xs (6 * i + 1) = x := ⟨_, rfl⟩
          obtain ⟨x2, ex2⟩ : ∃ x, xs (6 * i + 2) = x := ⟨_, rfl⟩
          obtain ⟨f, f2, r, hp1, hp2, r1, r2, ⟨q1, q2, ⟨fq, q3⟩⟩, ⟨q4, q5⟩, q6⟩ := hst1 (257, 445, 2) (List.mem_of_getElem? (i := 7) rfl) [x1, x2] rfl
          refine lv_aload_n hx hb dl_287 rfl (lv_at hl 2 rfl) ?_
          refine lw_ld (j := 1) hx hb hX hbl hS hl (by omega) (by omega) (by decide) dl_288 dl_289 dl_290 dl_291 dl_292 ex1 ?_
          refine lw_ld (j := 2) hx hb hX hbl hS hl (by omega) (by omega) (by decide) dl_293 dl_294 dl_295 dl_296 dl_297 ex2 ?_
          refine lw_va (as := [x1, x2]) (rest := []) C hw e0 hl.1 14 rfl rfl (by decide) r1 g2 (Nat.le_refl _) (Nat.le_refl _) (by decide) dl_298 (fun ρ1 H1 locs1 ag1 hw1 => ?_)
          refine lv_aload_n hx hb dl_301 rfl (lv_at hl 3 rfl) ?_
          refine lw_ld (j := 1) hx hb hX hbl hw1.2.2.1 hl (by omega) (by omega) (by decide) dl_302 dl_303 dl_304 dl_305 dl_306 ex1 ?_
          refine lw_ld (j := 2) hx hb hX hbl hw1.2.2.1 hl (by omega) (by omega) (by decide) dl_307 dl_308 dl_309 dl_310 dl_311 ex2 ?_
          refine lw_va (as := [x1, x2]) (rest := [.int r]) C hw1 ((ag1 49 (by omega)).trans e1) hl.1 15 rfl rfl (by decide) r2 q3 (Nat.le_refl _) (Nat.le_refl _) (Nat.le_of_ble_eq_true rfl) dl_312 (fun ρ2 H2 locs2 ag2 hw2 => ?_)
          refine lv_icmp_eq (tgt := 402) hx hb dl_315 (by decide) (fun _ => ?_) (fun hc => absurd rfl hc)
          exact tail hp2 ρ2 H2 locs2 q6 hw2 ((ag2 0 (by omega)).trans ((ag1 0 (by omega)).trans e0)) ((ag2 49 (by omega)).trans ((ag1 49 (by omega)).trans e1))
        | 8, _ =>
          refine lv_tableIn (tgt := 320) (off := 287) hx hb dl_33 (by decide) (by decide) rfl (by decide) ?_
          obtain ⟨f, f2, r, hp1, hp2, r1, r2, ⟨q1, q2, ⟨fq, q3⟩⟩, ⟨q4, q5⟩, q6⟩ := hst1 (300, 461, 0) (List.mem_of_getElem? (i := 8) rfl) [] rfl
          refine lv_aload_n hx hb dl_320 rfl (lv_at hl 2 rfl) ?_
          refine lw_va (as := []) (rest := []) C hw e0 hl.1 16 rfl rfl (by decide) r1 g2 (Nat.le_refl _) (Nat.le_refl _) (by decide) dl_321 (fun ρ1 H1 locs1 ag1 hw1 => ?_)
          refine lv_aload_n hx hb dl_324 rfl (lv_at hl 3 rfl) ?_
          refine lw_va (as := []) (rest := [.int r]) C hw1 ((ag1 49 (by omega)).trans e1) hl.1 17 rfl rfl (by decide) r2 q3 (Nat.le_refl _) (Nat.le_refl _) (Nat.le_of_ble_eq_true rfl) dl_325 (fun ρ2 H2 locs2 ag2 hw2 => ?_)
          refine lv_icmp_eq (tgt := 402) hx hb dl_328 (by decide) (fun _ => ?_) (fun hc => absurd rfl hc)
          exact tail hp2 ρ2 H2 locs2 q6 hw2 ((ag2 0 (by omega)).trans ((ag1 0 (by omega)).trans e0)) ((ag2 49 (by omega)).trans ((ag1 49 (by omega)).trans e1))
        | 9, _ =>
          refine lv_tableIn (tgt := 333) (off := 300) hx hb dl_33 (by decide) (by decide) rfl (by decide) ?_
          obtain ⟨x1, ex1⟩ : ∃ x, xs (6 * i + 1) = x := ⟨_, rfl⟩
          obtain ⟨f, f2, r, hp1, hp2, r1, r2, ⟨q1, q2, ⟨fq, q3⟩⟩, ⟨q4, q5⟩, q6⟩ := hst1 (302, 462, 1) (List.mem_of_getElem? (i := 9) rfl) [x1] rfl
          refine lv_aload_n hx hb dl_333 rfl (lv_at hl 2 rfl) ?_
          refine lw_ld (j := 1) hx hb hX hbl hS hl (by omega) (by omega) (by decide) dl_334 dl_335 dl_336 dl_337 dl_338 ex1 ?_
          refine lw_va (as := [x1]) (rest := []) C hw e0 hl.1 18 rfl rfl (by decide) r1 g2 (Nat.le_refl _) (Nat.le_refl _) (by decide) dl_339 (fun ρ1 H1 locs1 ag1 hw1 => ?_)
          refine lv_aload_n hx hb dl_342 rfl (lv_at hl 3 rfl) ?_
          refine lw_ld (j := 1) hx hb hX hbl hw1.2.2.1 hl (by omega) (by omega) (by decide) dl_343 dl_344 dl_345 dl_346 dl_347 ex1 ?_
          refine lw_va (as := [x1]) (rest := [.int r]) C hw1 ((ag1 49 (by omega)).trans e1) hl.1 19 rfl rfl (by decide) r2 q3 (Nat.le_refl _) (Nat.le_refl _) (Nat.le_of_ble_eq_true rfl) dl_348 (fun ρ2 H2 locs2 ag2 hw2 => ?_)
          refine lv_icmp_eq (tgt := 402) hx hb dl_351 (by decide) (fun _ => ?_) (fun hc => absurd rfl hc)
          exact tail hp2 ρ2 H2 locs2 q6 hw2 ((ag2 0 (by omega)).trans ((ag1 0 (by omega)).trans e0)) ((ag2 49 (by omega)).trans ((ag1 49 (by omega)).trans e1))
        | 10, _ =>
          refine lv_tableIn (tgt := 356) (off := 323) hx hb dl_33 (by decide) (by decide) rfl (by decide) ?_
          obtain ⟨x1, ex1⟩ : ∃ x, xs (6 * i + 1) = x := ⟨_, rfl⟩
          obtain ⟨f, f2, r, hp1, hp2, r1, r2, ⟨q1, q2, ⟨fq, q3⟩⟩, ⟨q4, q5⟩, q6⟩ := hst1 (312, 463, 1) (List.mem_of_getElem? (i := 10) rfl) [x1] rfl
          refine lv_aload_n hx hb dl_356 rfl (lv_at hl 2 rfl) ?_
          refine lw_ld (j := 1) hx hb hX hbl hS hl (by omega) (by omega) (by decide) dl_357 dl_358 dl_359 dl_360 dl_361 ex1 ?_
          refine lw_va (as := [x1]) (rest := []) C hw e0 hl.1 20 rfl rfl (by decide) r1 g2 (Nat.le_refl _) (Nat.le_refl _) (by decide) dl_362 (fun ρ1 H1 locs1 ag1 hw1 => ?_)
          refine lv_aload_n hx hb dl_365 rfl (lv_at hl 3 rfl) ?_
          refine lw_ld (j := 1) hx hb hX hbl hw1.2.2.1 hl (by omega) (by omega) (by decide) dl_366 dl_367 dl_368 dl_369 dl_370 ex1 ?_
          refine lw_va (as := [x1]) (rest := [.int r]) C hw1 ((ag1 49 (by omega)).trans e1) hl.1 21 rfl rfl (by decide) r2 q3 (Nat.le_refl _) (Nat.le_refl _) (Nat.le_of_ble_eq_true rfl) dl_371 (fun ρ2 H2 locs2 ag2 hw2 => ?_)
          refine lv_icmp_eq (tgt := 402) hx hb dl_374 (by decide) (fun _ => ?_) (fun hc => absurd rfl hc)
          exact tail hp2 ρ2 H2 locs2 q6 hw2 ((ag2 0 (by omega)).trans ((ag1 0 (by omega)).trans e0)) ((ag2 49 (by omega)).trans ((ag1 49 (by omega)).trans e1))
        | 11, _ =>
          refine lv_tableIn (tgt := 379) (off := 346) hx hb dl_33 (by decide) (by decide) rfl (by decide) ?_
          obtain ⟨x1, ex1⟩ : ∃ x, xs (6 * i + 1) = x := ⟨_, rfl⟩
          obtain ⟨f, f2, r, hp1, hp2, r1, r2, ⟨q1, q2, ⟨fq, q3⟩⟩, ⟨q4, q5⟩, q6⟩ := hst1 (313, 464, 1) (List.mem_of_getElem? (i := 11) rfl) [x1] rfl
          refine lv_aload_n hx hb dl_379 rfl (lv_at hl 2 rfl) ?_
          refine lw_ld (j := 1) hx hb hX hbl hS hl (by omega) (by omega) (by decide) dl_380 dl_381 dl_382 dl_383 dl_384 ex1 ?_
          refine lw_va (as := [x1]) (rest := []) C hw e0 hl.1 22 rfl rfl (by decide) r1 g2 (Nat.le_refl _) (Nat.le_refl _) (by decide) dl_385 (fun ρ1 H1 locs1 ag1 hw1 => ?_)
          refine lv_aload_n hx hb dl_388 rfl (lv_at hl 3 rfl) ?_
          refine lw_ld (j := 1) hx hb hX hbl hw1.2.2.1 hl (by omega) (by omega) (by decide) dl_389 dl_390 dl_391 dl_392 dl_393 ex1 ?_
          refine lw_va (as := [x1]) (rest := [.int r]) C hw1 ((ag1 49 (by omega)).trans e1) hl.1 23 rfl rfl (by decide) r2 q3 (Nat.le_refl _) (Nat.le_refl _) (Nat.le_of_ble_eq_true rfl) dl_394 (fun ρ2 H2 locs2 ag2 hw2 => ?_)
          refine lv_icmp_eq (tgt := 402) hx hb dl_397 (by decide) (fun _ => ?_) (fun hc => absurd rfl hc)
          exact tail hp2 ρ2 H2 locs2 q6 hw2 ((ag2 0 (by omega)).trans ((ag1 0 (by omega)).trans e0)) ((ag2 49 (by omega)).trans ((ag1 49 (by omega)).trans e1))
        | 12, _ =>
          refine lv_tableOut (tgt := 402) hx hb dl_33 (by decide) (by decide) ?_
          exact tail hp ρ H locs (hsk i hp hI) hw e0 e1
        | 13, _ =>
          refine lv_tableOut (tgt := 402) hx hb dl_33 (by decide) (by decide) ?_
          exact tail hp ρ H locs (hsk i hp hI) hw e0 e1
        | 14, _ =>
          refine lv_tableOut (tgt := 402) hx hb dl_33 (by decide) (by decide) ?_
          exact tail hp ρ H locs (hsk i hp hI) hw e0 e1
        | 15, _ =>
          refine lv_tableOut (tgt := 402) hx hb dl_33 (by decide) (by decide) ?_
          exact tail hp ρ H locs (hsk i hp hI) hw e0 e1
        | k + 16, hk => exact absurd hk (by omega)
    · refine lv_icmp_gt (tgt := 408) hx hb dl_24 (by decide) (fun _ => ?_) (fun hc => absurd ?_ hc)
      · refine lv_iconst (v := 1) hx hb dl_408 (by decide) ?_
        refine va_forget (fun q hq => hS.2.2 q hq) ?_
        exact lw_ret hx hb hr hlocks dl_409
      · show nI L - nI 6 < nI (6 * i)
        rw [Int32.lt_iff_toInt_lt, pk_sub_toInt (by omega) (by omega), nI_toInt (by omega)]
        omega
end LP
