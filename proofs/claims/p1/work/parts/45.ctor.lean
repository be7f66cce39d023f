def iCk (j idx i1 i2 mc ms : Nat) : Bool := match xMf j with
  | none => false
  | some M => xis i1 (.methodLink R_law idx (xy M)) && xis i2 (.instanceMethod (xy M)) && decide ((xy M).name = "<init>") && decide (xr M = none) && decide (xa M = 0) && decide (xmc M = mc) && decide (xms M = ms) && decide (1 ≤ xn M)
theorem iCk_x : iCk 0 9 25 26 48 313278 = true := by decide +kernel
theorem iCl_x : (nis2 23 (.classLink R_law 7 "TypedDescent") && nis2 24 (.instantiable "TypedDescent" 16) && nis2 1 (.initialized "TypedDescent")) = true := by decide +kernel
theorem iCk_m : iCk 314 12 7089 7090 72 2757098 = true := by decide +kernel
theorem iCl_m : (nis2 7087 (.classLink R_law 10 "TypedDescentModel") && nis2 7088 (.instantiable "TypedDescentModel" 144) && nis2 17 (.initialized "TypedDescentModel")) = true := by decide +kernel
theorem hal_0 : (xh1 false).all (xokE 49) = true := by decide +kernel
theorem hal_1 : (xh1 true).all (xokE 49) = true := by decide +kernel
theorem len_h1 (b : Bool) : (xh1 b).length = 49 := by cases b <;> rfl
theorem len_h2 (b : Bool) : (xh2 b).length = 122 := by cases b <;> rfl
section LI
variable {p : Program} {l : Launch} {e : Env} {s : State} {m : MethodId} {args : Array Value} {below : List Frame} {meth : Method} {c : Code} {H : Heap} {locs : List Loc} {cells slots : Nat} {Q : State → Prop}
/-- an object that the law makes -/
theorem lw_new {D : va_G} {cA : Nat → ClassId} {b : Bool} {ρ0 ρ : Nat → Nat} {hp : List x_E} (C : lwC p s m c args D cA b ρ0) (hw : lwW s D cA ρ0 ρ hp H locs) (hal : hp.all (xokE hp.length) = true) (hlt : hp.length < 1000000) {ls : Array Slot} {pc ci idx : Nat} {q : vw_C} {rest : List Value} (hq : xcl[ci]? = some q) (h1 : Cond.classLink R_law idx q.1 ∈ lw_tbl) (h2 : Cond.instantiable q.1 q.2.2 ∈ lw_tbl) (h3 : Cond.initialized q.1 ∈ lw_tbl) (hcells : cells + 1 ≤ 600000) (hslots : slots + q.2.2 ≤ 7302249) (hdg : decode code pc = .ok (.new idx, 3))
    (kk : ∀ (a : Nat) (H1 : Heap), lwW s D cA ρ0 (fun j => if j = hp.length then a else ρ j) (hp ++ [xdf ci]) H1 locs → W p l e room_1 s m args below meth c H1 locs (cells + 1) (slots + q.2.2) Q (F0 m (pc + 3) ls (.ref a :: rest))) : W p l e room_1 s m args below meth c H locs cells slots Q (F0 m pc ls rest) := by
  obtain ⟨hx, hb, hml, hown, hts, hK, hE⟩ := C
  obtain ⟨hP, hD, hS, hag⟩ := hw
  have hZ := xZ_ok (fm := .null) (Or.inl rfl)
  obtain ⟨hin, hty, hnm⟩ := hZ.1 ci q hq
  have hA : ∀ q : Nat, s.heap.size ≤ q → (fun q : Nat => s.heap.size ≤ q) q := fun _ h => h
  refine va_new (fs := (List.range q.2.2).map fun k => defaultValue (xty q k)) hx hb hts (fun w hw => xTs_sub (hin w hw)) (xty q) hty hown (hts _ h1) (hts _ h2) (hts _ h3) hK hP hD hS hA hq (fun jj hjj => ?_) hcells hslots hdg (fun a H1 hP1 hD1 hS1 => kk a H1 ?_)
  · simp [vp_V, hjj]
  · have hd : xdf ci = .inr (ci, (List.range q.2.2).map fun k => defaultValue (xty q k)) := by unfold xdf; rw [hq]
    have hy : ∀ ρ', xe ρ' cA (xdf ci) = .inr (ci, (List.range q.2.2).map fun k => defaultValue (xty q k)) := by
      intro ρ'
      rw [hd]
      show (Sum.inr (ci, ((List.range q.2.2).map fun k => defaultValue (xty q k)).map (xv ρ')) : va_E) = _
      have hl : ((List.range q.2.2).map fun k => defaultValue (xty q k)).map (xv ρ') = (List.range q.2.2).map fun k => defaultValue (xty q k) := by
        rw [List.map_map]
        apply List.map_congr_left
        intro k0 _
        show xv ρ' (defaultValue (xty q k0)) = defaultValue (xty q k0)
        cases xty q k0 <;> rfl
      rw [hl]
    refine ⟨?_, ?_, hS1, fun i hi => ?_⟩
    · rw [xw_push hal hlt hy]; exact hP1
    · rw [xw_push hal hlt hy]; exact hD1
    · show (if i = hp.length then a else ρ i) = ρ0 i
      rw [if_neg (by omega)]
      exact hag i hi
set_option maxHeartbeats 4000000 in
/-- a constructor that the law calls -/
theorem lw_i {D : va_G} {cA : Nat → ClassId} {b : Bool} {ρ0 ρ : Nat → Nat} {hp hp1 : List x_E} (C : lwC p s m c args D cA b ρ0) (hw : lwW s D cA ρ0 ρ hp H locs) {ls : Array Slot} {pc f d v a j idx i1 i2 mc ms : Nat} (ha : ρ v = a) {rest : List Value} (hls : ls.size = 4) (hck : iCk j idx i1 i2 mc ms = true) (hd : d ≤ 1000) (hrun : xbr b f d j hp [.ref v] = some (none, hp1)) (hcells : cells + mc ≤ 600000) (hslots : slots + ms ≤ 7302249) (hcat : (rest.map fun v => v.category).sum ≤ 8) (hdg : decode code pc = .ok (.invokespecial idx, 3))
    (kk : ∀ (ρ1 : Nat → Nat) (H1 : Heap) (locs1 : List Loc), (∀ i, i < hp.length → ρ1 i = ρ i) → lwW s D cA ρ0 ρ1 hp1 H1 locs1 → W p l e room_1 s m args below meth c H1 locs1 (cells + mc) (slots + ms) Q (F0 m (pc + 3) ls rest)) : W p l e room_1 s m args below meth c H locs cells slots Q (F0 m pc ls (.ref a :: rest)) := by
  subst ha
  obtain ⟨hx, hb, hml, hown, hts, hK, hE⟩ := C
  obtain ⟨hP, hD, hS, hag⟩ := hw
  unfold iCk at hck
  unfold xbr at hrun
  cases hj : xMf j with
  | none => rw [hj] at hrun; cases hrun
  | some M =>
    rw [hj] at hrun hck
    dsimp only at hck hrun
    simp only [Bool.and_eq_true, decide_eq_true_eq] at hck
    obtain ⟨⟨⟨⟨⟨⟨⟨g1, g2⟩, g3⟩, g4⟩, g5⟩, g6⟩, g7⟩, g8⟩ := hck
    have hZ := xZ_ok (xfm_ok b)
    obtain ⟨c1, c2, c3, c4, c5, c6⟩ := hZ.2.2.2.2.2.1 j M hj
    have hMet : xMet xZ (xY (xfm b)) xTs l D cA d M hp [.ref v] none hp1 := xMet_of hZ (xWst_all hZ l D cA f) hj hrun (by have := xsl_len v []; simp only [List.map_nil, List.length_nil] at this; rw [this]; exact g8)
    have hMet2 := hMet ρ H.size
    rw [g4, g6, g7] at hMet2
    have hG : GoodIn lw_tbl (Cond.code (xy M) (xb M) (xn M) none :: xTs) := fun w hw => by
      rw [← g4] at hw
      rcases List.mem_cons.mp hw with rfl | h
      · exact ⟨xTs_sub c1, good_of_word (List.mem_filter.mp c1).2⟩
      · exact ⟨xTs_sub h, good_of_word (List.mem_filter.mp h).2⟩
    have hA : ∀ q : Nat, s.heap.size ≤ q → (fun q : Nat => s.heap.size ≤ q) q := fun _ h => h
    have hFc := va_free (wc := xw ρ cA hp) hD hS hA (List.range (xw ρ cA hp).length) (xall_range _)
    have hR : (xrm d mc ms).frames + 1 ≤ room_1.frames ∧ 8 + (xn M + 11) + (xrm d mc ms).locals ≤ room_1.locals := ⟨by show d + 1 ≤ 2048; omega, by show 8 + (xn M + 11) + 64 * d ≤ 84000; omega⟩
    have hpre : ∀ U : State, U.heap = H → s.WarmedH U.vm → xPc xZ (xY (xfm b)) D xcl cA ρ hp [.ref v] H.size (Value.ref (ρ v) :: ([] : List Value)).toArray U := fun U hU hW => ⟨rfl, by rw [hU], by rw [hU]; exact hP, va_K.moved hW.alike hK, hD.weaken (fun _ _ _ _ => trivial), xEnv_go (fun o idx g hg => (hZ.2.2.2.2.2.2.2.2.2.2.2.2.2.2 o idx g hg).2) hE hS hFc hag hW hU⟩
    have hrn := va_runI (e := e) (below := below) (meth := meth) (locs := locs) (cells := cells) (slots := slots) (g := F0 m pc ls (.ref (ρ v) :: rest)) (rest := rest) (b := ρ v) (As := []) (R := room_1) (nL := 4) ⟨hx, hb, hml, hown, hts⟩ hMet2 ⟨callB_of 0 hts hG rfl rfl rfl (hts _ (xTs_sub c2)) (hts _ (xTs_sub (xis_mem g1))) (by rw [← g5]; exact c5) hR, g3, hts _ (xTs_sub (xis_mem g2))⟩ ⟨xBlind, hpre⟩ rfl rfl hls rfl (lv_room hcat) hdg ⟨hcells, hslots⟩
    refine x_call hrn hS (fun q _ z => hFc q z) hFc (fun ρ1 t H1 locs1 ht hvm hag1 hP1 hK1 hD1 hS1 => ?_)
    exact kk ρ1 H1 locs1 (fun i hi => hag1 i (Or.inl hi)) ⟨by rw [← ht]; exact hP1, hD1.weaken (fun _ q _ z => hFc q.1 z), hS1, fun i hi => (hag1 i (Or.inr hi)).trans (hag i hi)⟩
end LI
theorem xbr_x (b : Bool) : xbr b 3000 12 0 [xdf 0] [.ref 0] = some (none, xh1 b) := by
  rw [← xr1_eq b]
  unfold xr1 xgo xbr
  cases xMf 0 with
  | none => rfl
  | some M => exact (srun_eq _ _ _ _ _ _ _ _ _ _ _).symm
theorem M_model : (xMf 314).map (fun M => xb M) = some prog_14_method_1_code := by rfl
theorem xbr_m (b : Bool) : xbr b iTs.length 5 314 (xh1 b ++ [xdf 12]) [.ref 49] = some (none, xh2 b) := by
  have h := xr2_eq b
  have hM := M_model
  unfold xr2 xgoM xgoL at h
  unfold xbr
  cases hj : xMf 314 with
  | none => rw [hj] at h; cases h
  | some M =>
    rw [hj] at h hM
    dsimp only at h ⊢
    have e : xb M = prog_14_method_1_code := Option.some.inj hM
    rw [← srun_eq]
    exact irun_ok xZ (xY (xfm b)) M _ 5 iTs (fun q hq => by rw [e]; exact iTs_ok q hq) _ _ _ _ _ _ h
