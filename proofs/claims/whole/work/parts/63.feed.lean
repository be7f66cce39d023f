theorem sy_feed_x (b : Bool) (a1 a2 a3 a4 a5 : Int32) (cI : Nat → Nat → Int32) (cL : Nat → Nat → Int64) : ∃ cI' cL', nrun xZ (xY (xfm b)) xDT 500 1000 25 0 (fl 0 a1 a2 a3 a4 a5) [] (xmks (xsF 0 0) cI cL 0) 0 0 = some (some (.int 1), xmks (xsF 20 0) cI' cL' 0) := by
  obtain ⟨c1, e1, h1⟩ := fd_x1 b 373 a1 a2 a3 a4 a5 cI cL
  obtain ⟨c2, e2, h2⟩ := fd_x2 b 370 a1 a2 a3 a4 a5 c1 e1
  obtain ⟨c3, e3, h3⟩ := fd_x3 b 367 a1 a2 a3 a4 a5 c2 e2
  obtain ⟨c4, e4, h4⟩ := fd_x4 b 364 a1 a2 a3 a4 a5 c3 e3
  obtain ⟨c5, e5, h5⟩ := fd_x5 b 361 a1 a2 a3 a4 a5 c4 e4
  exact ⟨c5, e5, (fd_x0 b 496 a1 a2 a3 a4 a5 cI cL).trans (h1.trans (h2.trans (h3.trans (h4.trans (h5.trans (fd_xe b 479 a1 a2 a3 a4 a5 _))))))⟩
theorem sy_feed_m (b : Bool) (a1 a2 a3 a4 a5 : Int32) (cI : Nat → Nat → Int32) (cL : Nat → Nat → Int64) : ∃ cI' cL', nrun xZ (xY (xfm b)) xDT 500 1000 315 0 (fl 49 a1 a2 a3 a4 a5) [] (xmks (xsF 20 0) cI cL 0) 0 0 = some (some (.int 1), xmks (xsF 20 20) cI' cL' 0) := by
  obtain ⟨c1, e1, h1⟩ := fd_m1 b 371 a1 a2 a3 a4 a5 cI cL
  obtain ⟨c2, e2, h2⟩ := fd_m2 b 368 a1 a2 a3 a4 a5 c1 e1
  obtain ⟨c3, e3, h3⟩ := fd_m3 b 365 a1 a2 a3 a4 a5 c2 e2
  obtain ⟨c4, e4, h4⟩ := fd_m4 b 362 a1 a2 a3 a4 a5 c3 e3
  obtain ⟨c5, e5, h5⟩ := fd_m5 b 359 a1 a2 a3 a4 a5 c4 e4
  exact ⟨c5, e5, (fd_m0 b 494 a1 a2 a3 a4 a5 cI cL).trans (h1.trans (h2.trans (h3.trans (h4.trans (h5.trans (fd_me b 477 a1 a2 a3 a4 a5 _))))))⟩
set_option maxRecDepth 100000 in
theorem xgd_F (t u : Nat) (cI : Nat → Nat → Int32) (cL : Nat → Nat → Int64) : xGd (xmks (xsF t u) cI cL 0) := ⟨rfl, ⟨_, rfl⟩, ⟨_, rfl⟩⟩
theorem al_feed (b : Bool) (a1 a2 a3 a4 a5 : Int32) : xAl b 25 315 (xh2 b) [a1, a2, a3, a4, a5] := by
  obtain ⟨c1, e1, h1⟩ := sy_feed_x b a1 a2 a3 a4 a5 (xrI (xr2 b)) (xrL (xr2 b))
  obtain ⟨c2, e2, h2⟩ := sy_feed_m b a1 a2 a3 a4 a5 c1 e1
  have h3 : xgn b 500 1000 25 (xh2 b) [.ref 0, .int a1, .int a2, .int a3, .int a4, .int a5] = some (some (.int 1), xmks (xsF 20 0) c1 e1 0) := by
    unfold xh2
    rw [← sF_00]
    exact h1
  have h4 : xgn b 500 1000 315 (xmks (xsF 20 0) c1 e1 0) [.ref 49, .int a1, .int a2, .int a3, .int a4, .int a5] = some (some (.int 1), xmks (xsF 20 20) c2 e2 0) := h2
  exact ⟨500, 500, 1, _, _, xgn_xbr h3, xgn_xbr h4, xgd_F 20 0 c1 e1, xgd_F 20 20 c2 e2⟩
