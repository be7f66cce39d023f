set_option maxHeartbeats 4000000 in
set_option maxRecDepth 20000 in
/-- THE LAW, from its entry: an invariant that every call on both objects keeps, with alike answers, is all that is wanted -/
theorem whole_of {p : Program} {e : Env} {s : State} {m : MethodId} {below : List Frame} {meth : Method} {c : Code} (l : Launch) {b L N : Nat} {xs : Nat → Int32} (hLN : L ≤ N) (hN : N ≤ 3072) (C0 : lw_At p s m meth c b L xs) {Inv : Bool → Nat → List x_E → Prop} (h0 : ∀ z, Inv z 0 (xh2 z)) (hst : ∀ z, xStep z N (Inv z)) (hsk : ∀ z i hp, Inv z i hp → Inv z (i + 1) hp) (hgd : ∀ z i hp, Inv z i hp → xGd hp) : W p l e room_1 s m #[Value.ref b] below meth c s.heap [] 0 0 (lw_Z below #[Value.ref b] s) (entryFrame m ([Value.ref b] : List Value).toArray 4) := by
  obtain ⟨hx, hb, hr, hml, hown, hts, hX, hbl, hlocks, hgv⟩ := C0
  obtain ⟨z, ρ0, hE⟩ := law_env hts hgv
  obtain ⟨D, cA, hK⟩ := law_K hts
  have C : lwC p s m c #[Value.ref b] D cA z ρ0 := ⟨hx, hb, hml, hown, hts, hK, hE⟩
  have hl := lv_entry ([.ref b]) (n := 4) (Nat.le_of_ble_eq_true rfl)
  rw [lg_entry_eq]
  generalize (lg_sl ([.ref b]) ++ List.replicate (4 - (lg_sl ([.ref b])).length) Slot.unset).toArray = ls at hl ⊢
  have hl : lv_has ls 4 [(0, .ref b)] := hl
  have hw0 : lwW s D cA ρ0 ρ0 [] s.heap [] := ⟨fun k q h => by simp [xw] at h, ⟨fun i j p q h => by simp [xw] at h, fun k q h => by simp [xw] at h⟩, va_S.rf, fun _ _ => rfl⟩
  have cx := iCl_x
  have cm := iCl_m
  simp only [Bool.and_eq_true] at cx cm
  refine lw_new (ci := 0) (q := ("TypedDescent", fun k => xT0.getD k ("", "", "", false), 16)) C hw0 rfl (by decide) rfl (nis2_mem cx.1.1) (nis2_mem cx.1.2) (nis2_mem cx.2) (by decide) (by decide) dl_0 (fun a0 H1 hw1 => ?_)
  refine lv_dup hx hb dl_3 rfl ?_
  refine lw_i (hp := [xdf 0]) (v := 0) C hw1 rfl hl.1 iCk_x (by decide) (xbr_x z) (by decide) (by decide) (Nat.le_of_ble_eq_true rfl) dl_4 (fun ρ1 H2 locs2 ag1 hw2 => ?_)
  have e1 : ρ1 0 = a0 := ag1 0 (by decide)
  refine lv_astore_n (lv' := [(1, .ref a0), (0, .ref b)]) hx hb dl_7 rfl hl (by decide) rfl (fun ls hl => ?_)
  have hal : (xh1 z).all (xokE (xh1 z).length) = true := by
    rw [len_h1]
    cases z
    · exact hal_0
    · exact hal_1
  refine lw_new (ci := 12) (q := ("TypedDescentModel", fun k => xT12.getD k ("", "", "", false), 144)) C hw2 hal (by rw [len_h1]; decide) rfl (nis2_mem cm.1.1) (nis2_mem cm.1.2) (nis2_mem cm.2) (by decide) (by decide) dl_8 (fun a1 H3 hw3 => ?_)
  refine lv_dup hx hb dl_11 rfl ?_
  refine lw_i (hp := xh1 z ++ [xdf 12]) (v := 49) C hw3 (by rw [len_h1]; rfl) hl.1 iCk_m (by decide) (xbr_m z) (by decide) (by decide) (Nat.le_of_ble_eq_true rfl) dl_12 (fun ρ2 H4 locs4 ag2 hw4 => ?_)
  have e2 : ρ2 0 = a0 := by
    rw [ag2 0 (by rw [List.length_append, len_h1]; decide), len_h1]
    exact e1
  have e3 : ρ2 49 = a1 := by
    rw [ag2 49 (by rw [List.length_append, len_h1]; decide), len_h1]
    rfl
  refine lv_astore_n (lv' := [(2, .ref a1), (1, .ref a0), (0, .ref b)]) hx hb dl_15 rfl hl (by decide) rfl (fun ls hl => ?_)
  refine lv_iconst (v := 0) hx hb dl_16 (by decide) ?_
  refine lv_istore_n (lv' := [(3, .int 0), (2, .ref a1), (1, .ref a0), (0, .ref b)]) hx hb dl_17 rfl hl (by decide) rfl (fun ls hl => ?_)
  refine W.widen (k := 600000) (n := 7302249) (by decide) (by decide) ?_
  exact law_loop hLN hN C hX hbl hr hlocks (hst z) (hsk z) (hgd z) (L + 1) 0 (by omega) (by omega) (xh2 z) ρ2 H4 locs4 ls (h0 z) hw4 e2 e3 (lv_sub hl [0, 3, 2, 1] rfl)
