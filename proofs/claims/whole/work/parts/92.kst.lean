/-! An explicit stack of frames: its closed runs are counted out, and what dies behind them dies ahead of them. -/
abbrev xFr : Type := Nat × Nat × List (Nat × Value) × List Value
def pD (b : Bool) : List xFr → Nat → Nat → Nat → List (Nat × Value) → List Value → List x_E → Prop
  | [] => fun d j pc lv st hp => ∃ f, dn b f d j pc lv st hp
  | (j2, pc2, lv2, st2) :: rest => fun d j pc lv st hp => (∃ f, dn b f d j pc lv st hp) ∨ ∃ (f : Nat) (rv : Option Value) (hp' : List x_E), nrun xZ (xY (xfm b)) xDT f d j pc lv st hp 0 0 = some (rv, hp') ∧ hp.length ≤ hp'.length ∧ pD b rest (d + 1) j2 (pc2 + 3) lv2 (rv.toList ++ st2) hp'
theorem pD_dn {b : Bool} {rest : List xFr} {d j pc : Nat} {lv : List (Nat × Value)} {st : List Value} {hp : List x_E} {f : Nat} (h : dn b f d j pc lv st hp) : pD b rest d j pc lv st hp := by
  cases rest with
  | nil => exact ⟨f, h⟩
  | cons q rest => exact Or.inl ⟨f, h⟩
theorem pD_ret {b : Bool} {rest : List xFr} {d j pc j2 pc2 : Nat} {lv lv2 : List (Nat × Value)} {st st2 : List Value} {hp hp' : List x_E} {f : Nat} {rv : Option Value} (h : nrun xZ (xY (xfm b)) xDT f d j pc lv st hp 0 0 = some (rv, hp')) (hle : hp.length ≤ hp'.length) (k : pD b rest (d + 1) j2 (pc2 + 3) lv2 (rv.toList ++ st2) hp') : pD b ((j2, pc2, lv2, st2) :: rest) d j pc lv st hp := Or.inr ⟨f, rv, hp', h, hle, k⟩
/-- which way a plain instruction takes: 0 leaves the heap, 1 writes a field, 2 an array -/
def kCl (i : Instr) : Nat := match i with
  | .putfield _ => 1
  | .iastore => 2
  | .lastore => 2
  | .castore => 2
  | .bastore => 2
  | .iadd => 0 | .isub => 0 | .imul => 0 | .iand => 0 | .ior => 0 | .ishl => 0 | .ishr => 0 | .iushr => 0 | .ladd => 0 | .lsub => 0 | .lmul => 0 | .land => 0 | .lor => 0 | .lshl => 0 | .lshr => 0 | .lcmp => 0 | .ineg => 0 | .i2l => 0 | .l2i => 0
  | .iconst _ => 0 | .bipush _ => 0 | .sipush _ => 0 | .lconst _ => 0 | .ldc_w _ => 0 | .ldc2_w _ => 0 | .iload _ => 0 | .iload_n _ => 0 | .lload _ => 0 | .lload_n _ => 0 | .aload _ => 0 | .aload_n _ => 0 | .istore _ => 0 | .istore_n _ => 0 | .lstore _ => 0 | .lstore_n _ => 0 | .iinc _ _ => 0 | .ifCond _ _ => 0 | .if_icmp _ _ => 0 | .goto _ => 0 | .tableswitch _ _ _ _ => 0 | .dup => 0 | .pop => 0 | .iaload => 0 | .laload => 0 | .caload => 0
  | _ => 3
def kX (i : Instr) : Bool := match i with
  | .getfield _ => true
  | .arraylength => true
  | .ldc _ => true
  | _ => false
section KS
variable {b : Bool} {rest : List xFr} {d j pc : Nat} {lv : List (Nat × Value)} {st : List Value} {hp : List x_E} {i : Instr} {len : Nat} {M : x_M} {pc' : Nat} {lv' : List (Nat × Value)} {st' : List Value} {hp' : List x_E}
theorem k_any {f : Nat} (hd : xDT j pc = some (i, len)) (hj : zM xZ j = some M) (hs : xs1F i (zcl xZ) ((xy M).name == "<init>") (xn M) (zF xZ (xo M)) (zKc xZ (xo M)) (zKl xZ (xo M)) len pc lv st hp = some (pc', lv', st', hp')) (hc : kCl i < 3 ∨ (kX i = true ∧ xs2 (xY (xfm b)) (xo M) i len pc st = none)) : nrun xZ (xY (xfm b)) xDT (f + 1) d j pc lv st hp 0 0 = nrun xZ (xY (xfm b)) xDT f d j pc' lv' st' hp' 0 0 := by
  rcases hc with hc | ⟨hx, h2⟩
  · cases i <;> first | exact n_step hd hj rfl rfl hs | exact n_wr hd hj rfl rfl hs | exact n_wa hd hj rfl rfl hs | (simp [kCl] at hc)
  · cases i <;> first | exact n_get hd hj rfl rfl h2 hs | (simp [kX] at hx)
theorem pD_step (hd : xDT j pc = some (i, len)) (hj : zM xZ j = some M) (hs : xs1F i (zcl xZ) ((xy M).name == "<init>") (xn M) (zF xZ (xo M)) (zKc xZ (xo M)) (zKl xZ (xo M)) len pc lv st hp = some (pc', lv', st', hp')) (hc : kCl i < 3 ∨ (kX i = true ∧ xs2 (xY (xfm b)) (xo M) i len pc st = none)) (h : pD b rest d j pc' lv' st' hp') : pD b rest d j pc lv st hp := by
  have go : ∀ f, dn b f d j pc' lv' st' hp' → dn b (f + 1) d j pc lv st hp := fun f h => Or.inr (Or.inl ⟨i, len, M, pc', lv', st', hp', hd, hj, hs, h⟩)
  have hl : hp.length = hp'.length := xs1_len (by rw [← xs1F_eq]; exact hs)
  cases rest with
  | nil =>
    obtain ⟨f, h⟩ := h
    exact ⟨f + 1, go f h⟩
  | cons q rest =>
    obtain ⟨j2, pc2, lv2, st2⟩ := q
    rcases h with ⟨f, h⟩ | ⟨f, rv, hp1, h, hle, k⟩
    · exact Or.inl ⟨f + 1, go f h⟩
    · refine Or.inr ⟨f + 1, rv, hp1, ?_, by omega, k⟩
      rw [k_any hd hj hs hc]
      exact h
theorem pD_callR {ki idx kd j' f1 : Nat} {M' : x_M} {avs r : List Value} {rv : Option Value} {hp1 : List x_E} (hd : xDT j pc = some (i, 3)) (hki : xKi i = some (ki, idx)) (hg : gH i = gIn ki idx) (hj : zM xZ j = some M) (ho : xObj xZ M ki idx = false) (hm : xMth xZ M ki idx st = none) (hl : zL xZ (xo M) idx = some (kd, j')) (hr : xReq xZ (xY (xfm b)) M ki idx st hp = some (M', avs, r)) (hc : xChk M M' lv r avs hp 0 0 = true) (hmc : xmc M' = 0) (hms : xms M' = 0) (hrun : nrun xZ (xY (xfm b)) xDT f1 d j' 0 (lv_args 0 avs) [] hp 0 0 = some (rv, hp1)) (hle : hp.length ≤ hp1.length) (h : pD b rest (d + 1) j (pc + 3) lv (rv.toList ++ r) hp1) : pD b rest (d + 1) j pc lv st hp := by
  have go : ∀ f, dn b f (d + 1) j (pc + 3) lv (rv.toList ++ r) hp1 → dn b (f + 1) (d + 1) j pc lv st hp := fun f h => Or.inr (Or.inr (Or.inl ⟨i, ki, idx, M, M', avs, r, d, kd, j', f1, rv, hp1, hd, hki, hj, rfl, hl, hr, hc, hmc, hms, hrun, hle, h⟩))
  cases rest with
  | nil =>
    obtain ⟨f, h⟩ := h
    exact ⟨f + 1, go f h⟩
  | cons q rest =>
    obtain ⟨j2, pc2, lv2, st2⟩ := q
    rcases h with ⟨f, h⟩ | ⟨f, rv2, hp2, h, hle2, k⟩
    · exact Or.inl ⟨f + 1, go f h⟩
    · refine Or.inr ⟨max f f1 + 1, rv2, hp2, ?_, by omega, k⟩
      rw [n_call hd hj hg ho hm hl hr hc (nrun_fuel f1 (max f f1) _ _ _ _ _ _ _ _ _ (Nat.le_max_right _ _) hrun) hle, hmc, hms]
      exact nrun_fuel f (max f f1) _ _ _ _ _ _ _ _ _ (Nat.le_max_left _ _) h
theorem pD_call {idx j' : Nat} {M' : x_M} {avs r : List Value} (hd : xDT j pc = some (.invokevirtual idx, 3)) (hj : zM xZ j = some M) (ho : xObj xZ M 0 idx = false) (hm : xMth xZ M 0 idx st = none) (hl : zL xZ (xo M) idx = some (0, j')) (hr : xReq xZ (xY (xfm b)) M 0 idx st hp = some (M', avs, r)) (hc : xChk M M' lv r avs hp 0 0 = true) (hmc : xmc M' = 0) (hms : xms M' = 0) (h : pD b ((j, pc, lv, r) :: rest) d j' 0 (lv_args 0 avs) [] hp) : pD b rest (d + 1) j pc lv st hp := by
  rcases h with ⟨f, h⟩ | ⟨f, rv, hp1, h, hle, k⟩
  · exact pD_dn (f := f + 1) (Or.inr (Or.inr (Or.inr (Or.inl ⟨idx, M, M', avs, r, d, j', hd, hj, rfl, hl, hr, hc, h⟩))))
  · exact pD_callR hd rfl rfl hj ho hm hl hr hc hmc hms h hle k
theorem pD_callS {idx j' : Nat} {M' : x_M} {avs r : List Value} (hd : xDT j pc = some (.invokestatic idx, 3)) (hj : zM xZ j = some M) (ho : xObj xZ M 1 idx = false) (hm : xMth xZ M 1 idx st = none) (hl : zL xZ (xo M) idx = some (1, j')) (hr : xReq xZ (xY (xfm b)) M 1 idx st hp = some (M', avs, r)) (hc : xChk M M' lv r avs hp 0 0 = true) (hmc : xmc M' = 0) (hms : xms M' = 0) (h : pD b ((j, pc, lv, r) :: rest) d j' 0 (lv_args 0 avs) [] hp) : pD b rest (d + 1) j pc lv st hp := by
  rcases h with ⟨f, h⟩ | ⟨f, rv, hp1, h, hle, k⟩
  · exact pD_dn (f := f + 1) (Or.inr (Or.inr (Or.inr (Or.inr ⟨idx, M, M', avs, r, d, j', hd, hj, rfl, hl, hr, hc, h⟩))))
  · exact pD_callR hd rfl rfl hj ho hm hl hr hc hmc hms h hle k
end KS
abbrev x_K : Type := List xFr → x_G
def kRt (K : x_K) (rest : List xFr) (M : x_M) (i : Instr) (len d : Nat) (st : List Value) (hp : List x_E) : Option (Option Value × List x_E) := match xRet M i len st with
  | none => none
  | some rv => match rest with
    | [] => none
    | (j2, pc2, lv2, st2) :: r2 => K r2 (d + 1) j2 (pc2 + 3) lv2 (rv.toList ++ st2) hp 0 0
def k55 (st : List Value) : Bool := match st with
  | _ :: .int i :: .ref a :: _ => !(Nat.beq a 55) || Nat.blt i.toNatClampNeg 14
  | _ => true
def kPl (b : Bool) (K : x_K) (rest : List xFr) (M : x_M) (i : Instr) (len d j pc : Nat) (lv : List (Nat × Value)) (st : List Value) (hp : List x_E) : Option (Option Value × List x_E) := match xs1F i (zcl xZ) ((xy M).name == "<init>") (xn M) (zF xZ (xo M)) (zKc xZ (xo M)) (zKl xZ (xo M)) len pc lv st hp with
  | none => none
  | some (pc', lv', st', hp') => match kCl i with
    | 0 => K rest d j pc' lv' st' hp' 0 0
    | 1 => fH hp' fun hp' => K rest d j pc' lv' st' hp' 0 0
    | 2 => if k55 st = true then fP hp' fun hp' => K rest d j pc' lv' st' hp' 0 0 else none
    | _ => if kX i = true then (match xs2 (xY (xfm b)) (xo M) i len pc st with
      | some _ => none
      | none => K rest d j pc' lv' st' hp' 0 0) else none
def kIv (b : Bool) (idx : Nat) (K : x_K) (rest : List xFr) (M : x_M) (len d j pc : Nat) (lv : List (Nat × Value)) (st : List Value) (hp : List x_E) : Option (Option Value × List x_E) := if len = 3 then (match d with
  | 0 => none
  | d' + 1 => match zL xZ (xo M) idx with
    | none => none
    | some (kd, j') => match xReq xZ (xY (xfm b)) M 0 idx st hp with
      | none => none
      | some (M', avs, r) => if (Nat.beq kd 0 && !xObj xZ M 0 idx && (xMth xZ M 0 idx st).isNone && Nat.beq (xmc M') 0 && Nat.beq (xms M') 0 && xChk M M' lv r avs hp 0 0) = true then K ((j, pc, lv, r) :: rest) d' j' 0 (lv_args 0 avs) [] hp 0 0 else none) else none
def kIs (b : Bool) (idx : Nat) (K : x_K) (rest : List xFr) (M : x_M) (len d j pc : Nat) (lv : List (Nat × Value)) (st : List Value) (hp : List x_E) : Option (Option Value × List x_E) := if len = 3 then (match d with
  | 0 => none
  | d' + 1 => match zL xZ (xo M) idx with
    | none => none
    | some (kd, j') => match xReq xZ (xY (xfm b)) M 1 idx st hp with
      | none => none
      | some (M', avs, r) => if (Nat.beq kd 1 && !xObj xZ M 1 idx && (xMth xZ M 1 idx st).isNone && Nat.beq (xmc M') 0 && Nat.beq (xms M') 0 && xChk M M' lv r avs hp 0 0) = true then K ((j, pc, lv, r) :: rest) d' j' 0 (lv_args 0 avs) [] hp 0 0 else none) else none
def kst (b : Bool) (dT : Nat) (T : List xFr) : Nat → x_K
  | 0 => fun rest d j pc lv st hp _ _ => fN d fun d => fN pc fun pc => fG lv fun lv => fS st fun st => if d = dT ∧ ((j, pc, lv, st) :: rest) = T then some (none, hp) else none
  | f + 1 => fun rest d j pc lv st hp _ _ => fN d fun d => fN pc fun pc => fG lv fun lv => fS st fun st => match xDT j pc with
    | none => none
    | some (i, len) => match zM xZ j with
      | none => none
      | some M => match i with
        | .invokevirtual idx => kIv b idx (kst b dT T f) rest M len d j pc lv st hp
        | .invokestatic idx => kIs b idx (kst b dT T f) rest M len d j pc lv st hp
        | .ireturn => kRt (kst b dT T f) rest M .ireturn len d st hp
        | .return_ => kRt (kst b dT T f) rest M .return_ len d st hp
        | i => kPl b (kst b dT T f) rest M i len d j pc lv st hp
/-- what dies behind a counted run dies ahead of it -/
theorem kst_pD {b : Bool} {dT jT pcT : Nat} {lvT : List (Nat × Value)} {stT : List Value} {restT : List xFr} {hpT : List x_E} (hT : pD b restT dT jT pcT lvT stT hpT) : ∀ (f : Nat) (rest : List xFr) (d j pc : Nat) (lv : List (Nat × Value)) (st : List Value) (hp : List x_E) (k n : Nat), kst b dT ((jT, pcT, lvT, stT) :: restT) f rest d j pc lv st hp k n = some (none, hpT) → pD b rest d j pc lv st hp := by
  intro f
  induction f with
  | zero =>
    intro rest d j pc lv st hp k n h
    unfold kst at h
    rw [fN_eq, fN_eq, fG_eq, fS_eq] at h
    split at h
    · rename_i hc
      obtain ⟨rfl, he⟩ := hc
      cases he
      cases h
      exact hT
    · cases h
  | succ f ih =>
    intro rest d j pc lv st hp k n h
    unfold kst at h
    rw [fN_eq, fN_eq, fG_eq, fS_eq] at h
    split at h
    · cases h
    · rename_i i len hd
      split at h
      · cases h
      · rename_i M hj
        split at h
        · rename_i idx
          unfold kIv at h
          split at h
          · rename_i hlen
            subst hlen
            split at h
            · cases h
            · rename_i d'
              split at h
              · cases h
              · rename_i kd j' hl
                split at h
                · cases h
                · rename_i M' avs r hr
                  split at h
                  · rename_i hc
                    simp only [Bool.and_eq_true, Bool.not_eq_true', Option.isNone_iff_eq_none] at hc
                    obtain ⟨⟨⟨⟨⟨c1, c2⟩, c3⟩, c4⟩, c5⟩, c6⟩ := hc
                    have e := Nat.eq_of_beq_eq_true c1
                    subst e
                    exact pD_call hd hj c2 c3 hl hr c6 (Nat.eq_of_beq_eq_true c4) (Nat.eq_of_beq_eq_true c5) (ih _ _ _ _ _ _ _ _ _ h)
                  · cases h
          · cases h
        · rename_i idx
          unfold kIs at h
          split at h
          · rename_i hlen
            subst hlen
            split at h
            · cases h
            · rename_i d'
              split at h
              · cases h
              · rename_i kd j' hl
                split at h
                · cases h
                · rename_i M' avs r hr
                  split at h
                  · rename_i hc
                    simp only [Bool.and_eq_true, Bool.not_eq_true', Option.isNone_iff_eq_none] at hc
                    obtain ⟨⟨⟨⟨⟨c1, c2⟩, c3⟩, c4⟩, c5⟩, c6⟩ := hc
                    have e := Nat.eq_of_beq_eq_true c1
                    subst e
                    exact pD_callS hd hj c2 c3 hl hr c6 (Nat.eq_of_beq_eq_true c4) (Nat.eq_of_beq_eq_true c5) (ih _ _ _ _ _ _ _ _ _ h)
                  · cases h
          · cases h
        · unfold kRt at h
          split at h
          · cases h
          · rename_i rv hret
            split at h
            · cases h
            · rename_i j2 pc2 lv2 st2 r2
              exact pD_ret (f := 1) (n_ret hd hj rfl rfl hret) (Nat.le_refl _) (ih _ _ _ _ _ _ _ _ _ h)
        · unfold kRt at h
          split at h
          · cases h
          · rename_i rv hret
            split at h
            · cases h
            · rename_i j2 pc2 lv2 st2 r2
              exact pD_ret (f := 1) (n_ret hd hj rfl rfl hret) (Nat.le_refl _) (ih _ _ _ _ _ _ _ _ _ h)
        · unfold kPl at h
          split at h
          · cases h
          · rename_i pc' lv' st' hp' hs
            split at h
            · rename_i hc
              exact pD_step hd hj hs (Or.inl (by rw [hc]; decide)) (ih _ _ _ _ _ _ _ _ _ h)
            · rename_i hc
              rw [fH_eq] at h
              exact pD_step hd hj hs (Or.inl (by rw [hc]; decide)) (ih _ _ _ _ _ _ _ _ _ h)
            · rename_i hc
              split at h
              · rw [fP_eq] at h
                exact pD_step hd hj hs (Or.inl (by rw [hc]; decide)) (ih _ _ _ _ _ _ _ _ _ h)
              · cases h
            · split at h
              · rename_i hx
                split at h
                · cases h
                · rename_i h2
                  exact pD_step hd hj hs (Or.inr ⟨hx, h2⟩) (ih _ _ _ _ _ _ _ _ _ h)
              · cases h
/-- the row of parts holds 0 from place 14 on -/
def z55 (hp : List x_E) : Prop := ∃ (N : Nat) (f : Nat → Int32), hp[55]? = some (.inl (0, N, .inl f)) ∧ ∀ i, 14 ≤ i → f i = 0
set_option maxHeartbeats 4000000 in
set_option maxRecDepth 20000 in
theorem xs1_z {cl : List vw_C} {ini : Bool} {nL : Nat} {fl : Nat → Option (Nat × Nat)} {kc : Nat → Option Int32} {kl : Nat → Option Int64} {i : Instr} {len pc : Nat} {lv : List (Nat × Value)} {st : List Value} {hp : List x_E} {pc' : Nat} {lv' : List (Nat × Value)} {st' : List Value} {hp' : List x_E} (h : xs1 cl ini nL fl kc kl i len pc lv st hp = some (pc', lv', st', hp')) (hk : kCl i = 2 → k55 st = true) (hz : z55 hp) : z55 hp' := by
  obtain ⟨N0, f0, h55, hz0⟩ := id hz
  have hput : ∀ (idx : Nat) {t : List Value × List x_E}, xPut cl ini fl idx hp st = some t → z55 t.2 := by
    intro idx t ht
    obtain ⟨v, i, r, ci, k, fs, q, -, -, hi, -, -, -, -, -, rfl⟩ := xPut_inv ht
    have hne : i ≠ 55 := fun e => by rw [e, h55] at hi; cases hi
    exact ⟨N0, f0, by rw [List.getElem?_set_ne hne]; exact h55, hz0⟩
  have hast : k55 st = true → ∀ (t0 : Nat) (g : Int32 → Int32) {t : List Value × List x_E}, xAst t0 g hp st = some t → z55 t.2 := by
    intro hk t0 g t ht
    obtain ⟨x, i, a, r, n, f, rfl, ha, -, rfl⟩ := xAst_inv ht
    by_cases hne : a = 55
    · subst hne
      rw [h55] at ha
      cases ha
      refine ⟨N0, upd f0 i.toNatClampNeg (g x), by rw [List.getElem?_set_self (List.getElem?_eq_some_iff.mp h55).1], fun q hq => ?_⟩
      have hlt : i.toNatClampNeg < 14 := by
        have hk2 : Nat.ble (i.toNatClampNeg + 1) 14 = true := hk
        exact Nat.le_of_ble_eq_true hk2
      unfold upd
      rw [if_neg (by omega)]
      exact hz0 q hq
    · exact ⟨N0, f0, by rw [List.getElem?_set_ne hne]; exact h55, hz0⟩
  have hastL : ∀ {t : List Value × List x_E}, xAstL hp st = some t → z55 t.2 := by
    intro t ht
    obtain ⟨x, i, a, r, n, f, rfl, ha, -, rfl⟩ := xAstL_inv ht
    have hne : a ≠ 55 := fun e => by rw [e, h55] at ha; cases ha
    exact ⟨N0, f0, by rw [List.getElem?_set_ne hne]; exact h55, hz0⟩
  cases i with
  | putfield idx =>
    obtain ⟨rfl, h⟩ := xK_eq h
    obtain ⟨t, ht, he⟩ := Option.map_eq_some_iff.mp h
    cases he
    exact hput idx ht
  | iastore =>
    obtain ⟨rfl, h⟩ := xK_eq h
    obtain ⟨t, ht, he⟩ := Option.map_eq_some_iff.mp h
    cases he
    exact hast (hk rfl) _ _ ht
  | castore =>
    obtain ⟨rfl, h⟩ := xK_eq h
    obtain ⟨t, ht, he⟩ := Option.map_eq_some_iff.mp h
    cases he
    exact hast (hk rfl) _ _ ht
  | bastore =>
    obtain ⟨rfl, h⟩ := xK_eq h
    obtain ⟨t, ht, he⟩ := Option.map_eq_some_iff.mp h
    cases he
    rcases xor ht with ht | ht
    · exact hast (hk rfl) _ _ ht
    · exact hast (hk rfl) _ _ ht
  | lastore =>
    obtain ⟨rfl, h⟩ := xK_eq h
    obtain ⟨t, ht, he⟩ := Option.map_eq_some_iff.mp h
    cases he
    exact hastL ht
  | tableswitch dd lo hi offs =>
    obtain ⟨q, hq, h⟩ := Option.bind_eq_some_iff.mp h
    obtain ⟨o, ho, h⟩ := Option.bind_eq_some_iff.mp h
    obtain ⟨t, ht, he⟩ := Option.map_eq_some_iff.mp h
    cases he
    exact hz
  | lookupswitch dd ps =>
    dsimp only [xs1] at h
    split at h
    · obtain ⟨q, hq, h⟩ := Option.bind_eq_some_iff.mp h
      obtain ⟨t, ht, he⟩ := Option.map_eq_some_iff.mp h
      cases he
      exact hz
    · cases h
  | if_icmp cn off =>
    obtain ⟨rfl, h⟩ := xK_eq h
    obtain ⟨q, hq, h⟩ := Option.bind_eq_some_iff.mp h
    obtain ⟨q2, hq2, h⟩ := Option.bind_eq_some_iff.mp h
    obtain ⟨t, ht, he⟩ := Option.map_eq_some_iff.mp h
    cases he
    exact hz
  | _ => first
    | (cases h; done)
    | (obtain ⟨-, h⟩ := xK_eq h; cases h; exact hz)
    | (obtain ⟨-, h⟩ := xK_eq h; obtain ⟨t, ht, he⟩ := Option.map_eq_some_iff.mp h; cases he; exact hz)
    | (obtain ⟨-, h⟩ := xK_eq h; obtain ⟨q, hq, h⟩ := Option.bind_eq_some_iff.mp h; obtain ⟨t, ht, he⟩ := Option.map_eq_some_iff.mp h; cases he; exact hz)
    | (obtain ⟨-, h⟩ := xK_eq h; obtain ⟨q, hq, h⟩ := Option.bind_eq_some_iff.mp h; split at h; · cases h; exact hz
       · cases h)
theorem kst_z {b : Bool} {dT : Nat} {T : List xFr} {hpT : List x_E} : ∀ (f : Nat) (rest : List xFr) (d j pc : Nat) (lv : List (Nat × Value)) (st : List Value) (hp : List x_E) (k n : Nat), kst b dT T f rest d j pc lv st hp k n = some (none, hpT) → z55 hp → z55 hpT := by
  intro f
  induction f with
  | zero =>
    intro rest d j pc lv st hp k n h hz
    unfold kst at h
    rw [fN_eq, fN_eq, fG_eq, fS_eq] at h
    split at h
    · cases h
      exact hz
    · cases h
  | succ f ih =>
    intro rest d j pc lv st hp k n h hz
    unfold kst at h
    rw [fN_eq, fN_eq, fG_eq, fS_eq] at h
    split at h
    · cases h
    · rename_i i len hd
      split at h
      · cases h
      · rename_i M hj
        split at h
        · unfold kIv at h
          split at h
          · split at h
            · cases h
            · split at h
              · cases h
              · split at h
                · cases h
                · split at h
                  · exact ih _ _ _ _ _ _ _ _ _ h hz
                  · cases h
          · cases h
        · unfold kIs at h
          split at h
          · split at h
            · cases h
            · split at h
              · cases h
              · split at h
                · cases h
                · split at h
                  · exact ih _ _ _ _ _ _ _ _ _ h hz
                  · cases h
          · cases h
        · unfold kRt at h
          split at h
          · cases h
          · split at h
            · cases h
            · exact ih _ _ _ _ _ _ _ _ _ h hz
        · unfold kRt at h
          split at h
          · cases h
          · split at h
            · cases h
            · exact ih _ _ _ _ _ _ _ _ _ h hz
        · unfold kPl at h
          split at h
          · cases h
          · rename_i pc' lv' st' hp' hs
            rw [xs1F_eq] at hs
            split at h
            · rename_i hc
              exact ih _ _ _ _ _ _ _ _ _ h (xs1_z hs (fun e => by rw [hc] at e; cases e) hz)
            · rename_i hc
              rw [fH_eq] at h
              exact ih _ _ _ _ _ _ _ _ _ h (xs1_z hs (fun e => by rw [hc] at e; cases e) hz)
            · rename_i hc
              split at h
              · rename_i h55
                rw [fP_eq] at h
                exact ih _ _ _ _ _ _ _ _ _ h (xs1_z hs (fun _ => h55) hz)
              · cases h
            · rename_i hc0 hc1 hc2
              split at h
              · split at h
                · cases h
                · exact ih _ _ _ _ _ _ _ _ _ h (xs1_z hs (fun e => absurd e hc2) hz)
              · cases h
