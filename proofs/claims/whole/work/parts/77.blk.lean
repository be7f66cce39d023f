theorem mq_315 : ∃ y cb, zM xZ 315 = some (y, cb, 6, some .boolean, 12, 5, 0, 0) := ⟨_, _, rfl⟩
theorem mq_316 : ∃ y cb, zM xZ 316 = some (y, cb, 3, none, 12, 1, 0, 0) := ⟨_, _, rfl⟩
theorem mq_317 : ∃ y cb, zM xZ 317 = some (y, cb, 2, some .int, 12, 1, 0, 0) := ⟨_, _, rfl⟩
theorem mq_318 : ∃ y cb, zM xZ 318 = some (y, cb, 4, none, 12, 2, 0, 0) := ⟨_, _, rfl⟩
theorem mq_319 : ∃ y cb, zM xZ 319 = some (y, cb, 1, none, 12, 0, 0, 0) := ⟨_, _, rfl⟩
theorem mq_320 : ∃ y cb, zM xZ 320 = some (y, cb, 1, none, 12, 0, 0, 0) := ⟨_, _, rfl⟩
theorem mq_321 : ∃ y cb, zM xZ 321 = some (y, cb, 1, none, 12, 0, 0, 0) := ⟨_, _, rfl⟩
theorem mq_322 : ∃ y cb, zM xZ 322 = some (y, cb, 2, none, 12, 0, 0, 0) := ⟨_, _, rfl⟩
theorem mq_323 : ∃ y cb, zM xZ 323 = some (y, cb, 3, none, 12, 2, 0, 0) := ⟨_, _, rfl⟩
theorem mq_324 : ∃ y cb, zM xZ 324 = some (y, cb, 5, some .int, 12, 1, 0, 0) := ⟨_, _, rfl⟩
theorem mq_325 : ∃ y cb, zM xZ 325 = some (y, cb, 2, some .int, 12, 1, 0, 0) := ⟨_, _, rfl⟩
theorem mq_326 : ∃ y cb, zM xZ 326 = some (y, cb, 1, some .boolean, 12, 1, 0, 0) := ⟨_, _, rfl⟩
theorem mq_327 : ∃ y cb, zM xZ 327 = some (y, cb, 2, none, 12, 0, 0, 0) := ⟨_, _, rfl⟩
theorem mq_328 : ∃ y cb, zM xZ 328 = some (y, cb, 1, some .boolean, 12, 1, 0, 0) := ⟨_, _, rfl⟩
theorem mq_331 : ∃ y cb, zM xZ 331 = some (y, cb, 4, none, 12, 0, 0, 0) := ⟨_, _, rfl⟩
theorem mq_332 : ∃ y cb, zM xZ 332 = some (y, cb, 4, none, 12, 1, 0, 0) := ⟨_, _, rfl⟩
theorem mq_333 : ∃ y cb, zM xZ 333 = some (y, cb, 1, some .int, 12, 0, 0, 0) := ⟨_, _, rfl⟩
theorem mq_334 : ∃ y cb, zM xZ 334 = some (y, cb, 2, none, 12, 1, 0, 0) := ⟨_, _, rfl⟩
theorem mq_335 : ∃ y cb, zM xZ 335 = some (y, cb, 2, some .int, 12, 1, 0, 0) := ⟨_, _, rfl⟩
theorem mq_336 : ∃ y cb, zM xZ 336 = some (y, cb, 1, some .int, 12, 0, 0, 0) := ⟨_, _, rfl⟩
theorem mq_337 : ∃ y cb, zM xZ 337 = some (y, cb, 1, some .boolean, 12, 0, 0, 0) := ⟨_, _, rfl⟩
theorem mq_338 : ∃ y cb, zM xZ 338 = some (y, cb, 2, some .boolean, 12, 1, 0, 0) := ⟨_, _, rfl⟩
theorem mq_339 : ∃ y cb, zM xZ 339 = some (y, cb, 8, some .int, 12, 0, 0, 0) := ⟨_, _, rfl⟩
theorem mq_340 : ∃ y cb, zM xZ 340 = some (y, cb, 1, none, 12, 0, 0, 0) := ⟨_, _, rfl⟩
theorem mq_341 : ∃ y cb, zM xZ 341 = some (y, cb, 1, none, 12, 0, 0, 0) := ⟨_, _, rfl⟩
theorem mq_342 : ∃ y cb, zM xZ 342 = some (y, cb, 1, none, 12, 0, 0, 0) := ⟨_, _, rfl⟩
theorem mq_343 : ∃ y cb, zM xZ 343 = some (y, cb, 2, none, 12, 1, 0, 0) := ⟨_, _, rfl⟩
theorem mq_344 : ∃ y cb, zM xZ 344 = some (y, cb, 2, some .boolean, 12, 1, 0, 0) := ⟨_, _, rfl⟩
theorem mq_351 : ∃ y cb, zM xZ 351 = some (y, cb, 1, none, 12, 0, 0, 0) := ⟨_, _, rfl⟩
theorem mq_352 : ∃ y cb, zM xZ 352 = some (y, cb, 2, some .boolean, 12, 1, 0, 0) := ⟨_, _, rfl⟩
theorem mq_353 : ∃ y cb, zM xZ 353 = some (y, cb, 2, none, 12, 1, 0, 0) := ⟨_, _, rfl⟩
theorem mq_355 : ∃ y cb, zM xZ 355 = some (y, cb, 3, some .int, 12, 2, 0, 0) := ⟨_, _, rfl⟩
theorem mq_358 : ∃ y cb, zM xZ 358 = some (y, cb, 6, none, 12, 2, 0, 0) := ⟨_, _, rfl⟩
theorem mq_365 : ∃ y cb, zM xZ 365 = some (y, cb, 14, some .int, 12, 0, 0, 0) := ⟨_, _, rfl⟩
theorem mq_366 : ∃ y cb, zM xZ 366 = some (y, cb, 2, none, 12, 1, 0, 0) := ⟨_, _, rfl⟩
theorem mq_368 : ∃ y cb, zM xZ 368 = some (y, cb, 5, some .int, 12, 0, 0, 0) := ⟨_, _, rfl⟩
theorem mq_371 : ∃ y cb, zM xZ 371 = some (y, cb, 6, some .int, 12, 0, 0, 0) := ⟨_, _, rfl⟩
theorem mq_372 : ∃ y cb, zM xZ 372 = some (y, cb, 2, none, 12, 1, 0, 0) := ⟨_, _, rfl⟩
theorem mq_373 : ∃ y cb, zM xZ 373 = some (y, cb, 6, some .int, 12, 0, 0, 0) := ⟨_, _, rfl⟩
theorem mq_374 : ∃ y cb, zM xZ 374 = some (y, cb, 5, some .int, 12, 0, 0, 0) := ⟨_, _, rfl⟩
theorem mq_375 : ∃ y cb, zM xZ 375 = some (y, cb, 4, some .int, 12, 0, 0, 0) := ⟨_, _, rfl⟩
theorem mq_376 : ∃ y cb, zM xZ 376 = some (y, cb, 3, some .int, 12, 0, 0, 0) := ⟨_, _, rfl⟩
theorem mq_377 : ∃ y cb, zM xZ 377 = some (y, cb, 2, some .int, 12, 0, 0, 0) := ⟨_, _, rfl⟩
theorem mq_379 : ∃ y cb, zM xZ 379 = some (y, cb, 9, some .int, 12, 0, 0, 0) := ⟨_, _, rfl⟩
theorem mq_380 : ∃ y cb, zM xZ 380 = some (y, cb, 1, some .boolean, 12, 0, 0, 0) := ⟨_, _, rfl⟩
theorem mq_381 : ∃ y cb, zM xZ 381 = some (y, cb, 7, some .int, 12, 0, 0, 0) := ⟨_, _, rfl⟩
theorem mq_384 : ∃ y cb, zM xZ 384 = some (y, cb, 8, some .int, 12, 0, 0, 0) := ⟨_, _, rfl⟩
theorem mq_385 : ∃ y cb, zM xZ 385 = some (y, cb, 3, some .boolean, 12, 2, 0, 0) := ⟨_, _, rfl⟩
theorem mq_386 : ∃ y cb, zM xZ 386 = some (y, cb, 2, some .boolean, 12, 1, 0, 0) := ⟨_, _, rfl⟩
theorem mq_387 : ∃ y cb, zM xZ 387 = some (y, cb, 5, some .int, 12, 2, 0, 0) := ⟨_, _, rfl⟩
theorem mq_389 : ∃ y cb, zM xZ 389 = some (y, cb, 8, some .int, 12, 2, 0, 0) := ⟨_, _, rfl⟩
theorem mq_390 : ∃ y cb, zM xZ 390 = some (y, cb, 1, some .int, 12, 0, 0, 0) := ⟨_, _, rfl⟩
theorem mq_391 : ∃ y cb, zM xZ 391 = some (y, cb, 2, some .int, 12, 1, 0, 0) := ⟨_, _, rfl⟩
theorem mq_392 : ∃ y cb, zM xZ 392 = some (y, cb, 3, none, 12, 1, 0, 0) := ⟨_, _, rfl⟩
theorem mq_398 : ∃ y cb, zM xZ 398 = some (y, cb, 2, some .int, 12, 1, 0, 0) := ⟨_, _, rfl⟩
theorem mq_399 : ∃ y cb, zM xZ 399 = some (y, cb, 5, some .int, 12, 4, 0, 0) := ⟨_, _, rfl⟩
theorem mq_400 : ∃ y cb, zM xZ 400 = some (y, cb, 2, none, 12, 0, 0, 0) := ⟨_, _, rfl⟩
theorem mq_401 : ∃ y cb, zM xZ 401 = some (y, cb, 10, none, 12, 0, 0, 0) := ⟨_, _, rfl⟩
theorem mq_432 : ∃ y cb, zM xZ 432 = some (y, cb, 4, none, 12, 0, 0, 0) := ⟨_, _, rfl⟩
theorem mq_443 : ∃ y cb, zM xZ 443 = some (y, cb, 2, some .int, 12, 1, 0, 0) := ⟨_, _, rfl⟩
theorem mq_444 : ∃ y cb, zM xZ 444 = some (y, cb, 2, some .int, 12, 1, 0, 0) := ⟨_, _, rfl⟩
theorem mq_445 : ∃ y cb, zM xZ 445 = some (y, cb, 3, some .int, 12, 2, 0, 0) := ⟨_, _, rfl⟩
theorem mq_446 : ∃ y cb, zM xZ 446 = some (y, cb, 4, some .int, 12, 1, 0, 0) := ⟨_, _, rfl⟩
theorem mq_457 : ∃ y cb, zM xZ 457 = some (y, cb, 6, some .int, 12, 1, 0, 0) := ⟨_, _, rfl⟩
theorem mq_460 : ∃ y cb, zM xZ 460 = some (y, cb, 1, some .int, 12, 0, 0, 0) := ⟨_, _, rfl⟩
theorem mq_461 : ∃ y cb, zM xZ 461 = some (y, cb, 1, some .int, 12, 0, 0, 0) := ⟨_, _, rfl⟩
theorem mq_463 : ∃ y cb, zM xZ 463 = some (y, cb, 2, some .int, 12, 1, 0, 0) := ⟨_, _, rfl⟩
theorem mq_464 : ∃ y cb, zM xZ 464 = some (y, cb, 2, some .int, 12, 1, 0, 0) := ⟨_, _, rfl⟩
set_option maxRecDepth 100000 in
set_option maxHeartbeats 4000000 in
theorem pf_3 {ini : Bool} {v : Int32} {r : List Value} {e : Nat → x_E} {g : Nat → Int32} {q : Nat → Int64} {c : Nat → Nat → Int32} {l : Nat → Nat → Int64} : xPut xcl ini (xFf 12) 244 (rH e g q c l) (.int v :: .ref 49 :: r) = some (r, rH e (upd g 3 v) q c l) := by
  unfold xPut
  rw [show xFf 12 244 = some (12, 3) from rfl]
  dsimp only
  rw [show (rH e g q c l)[49]? = some (.inr (12, rF g q)) from rfl, show xcl[12]? = some ("TypedDescentModel", fun k => xT12.getD k ("", "", "", false), 144) from rfl]
  dsimp only
  rw [if_pos ⟨rfl, Nat.le_of_ble_eq_true rfl, rfl, rfl, Or.inl rfl⟩]
  rfl
set_option maxRecDepth 100000 in
set_option maxHeartbeats 4000000 in
theorem pf_4 {ini : Bool} {v : Int32} {r : List Value} {e : Nat → x_E} {g : Nat → Int32} {q : Nat → Int64} {c : Nat → Nat → Int32} {l : Nat → Nat → Int64} : xPut xcl ini (xFf 12) 16 (rH e g q c l) (.int v :: .ref 49 :: r) = some (r, rH e (upd g 4 v) q c l) := by
  unfold xPut
  rw [show xFf 12 16 = some (12, 4) from rfl]
  dsimp only
  rw [show (rH e g q c l)[49]? = some (.inr (12, rF g q)) from rfl, show xcl[12]? = some ("TypedDescentModel", fun k => xT12.getD k ("", "", "", false), 144) from rfl]
  dsimp only
  rw [if_pos ⟨rfl, Nat.le_of_ble_eq_true rfl, rfl, rfl, Or.inl rfl⟩]
  rfl
set_option maxRecDepth 100000 in
set_option maxHeartbeats 4000000 in
theorem pf_5 {ini : Bool} {v : Int32} {r : List Value} {e : Nat → x_E} {g : Nat → Int32} {q : Nat → Int64} {c : Nat → Nat → Int32} {l : Nat → Nat → Int64} : xPut xcl ini (xFf 12) 575 (rH e g q c l) (.int v :: .ref 49 :: r) = some (r, rH e (upd g 5 v) q c l) := by
  unfold xPut
  rw [show xFf 12 575 = some (12, 5) from rfl]
  dsimp only
  rw [show (rH e g q c l)[49]? = some (.inr (12, rF g q)) from rfl, show xcl[12]? = some ("TypedDescentModel", fun k => xT12.getD k ("", "", "", false), 144) from rfl]
  dsimp only
  rw [if_pos ⟨rfl, Nat.le_of_ble_eq_true rfl, rfl, rfl, Or.inl rfl⟩]
  rfl
set_option maxRecDepth 100000 in
set_option maxHeartbeats 4000000 in
theorem pf_9 {ini : Bool} {v : Int32} {r : List Value} {e : Nat → x_E} {g : Nat → Int32} {q : Nat → Int64} {c : Nat → Nat → Int32} {l : Nat → Nat → Int64} (hv : v = 0 ∨ v = 1) : xPut xcl ini (xFf 12) 299 (rH e g q c l) (.int v :: .ref 49 :: r) = some (r, rH e (upd g 9 v) q c l) := by
  rcases hv with rfl | rfl
  · unfold xPut
    rw [show xFf 12 299 = some (12, 9) from rfl]
    dsimp only
    rw [show (rH e g q c l)[49]? = some (.inr (12, rF g q)) from rfl, show xcl[12]? = some ("TypedDescentModel", fun k => xT12.getD k ("", "", "", false), 144) from rfl]
    dsimp only
    rw [if_pos ⟨rfl, Nat.le_of_ble_eq_true rfl, rfl, rfl, Or.inl rfl⟩]
    rfl
  · unfold xPut
    rw [show xFf 12 299 = some (12, 9) from rfl]
    dsimp only
    rw [show (rH e g q c l)[49]? = some (.inr (12, rF g q)) from rfl, show xcl[12]? = some ("TypedDescentModel", fun k => xT12.getD k ("", "", "", false), 144) from rfl]
    dsimp only
    rw [if_pos ⟨rfl, Nat.le_of_ble_eq_true rfl, rfl, rfl, Or.inl rfl⟩]
    rfl
set_option maxRecDepth 100000 in
set_option maxHeartbeats 4000000 in
theorem pf_10 {ini : Bool} {v : Int32} {r : List Value} {e : Nat → x_E} {g : Nat → Int32} {q : Nat → Int64} {c : Nat → Nat → Int32} {l : Nat → Nat → Int64} : xPut xcl ini (xFf 12) 273 (rH e g q c l) (.int v :: .ref 49 :: r) = some (r, rH e (upd g 10 v) q c l) := by
  unfold xPut
  rw [show xFf 12 273 = some (12, 10) from rfl]
  dsimp only
  rw [show (rH e g q c l)[49]? = some (.inr (12, rF g q)) from rfl, show xcl[12]? = some ("TypedDescentModel", fun k => xT12.getD k ("", "", "", false), 144) from rfl]
  dsimp only
  rw [if_pos ⟨rfl, Nat.le_of_ble_eq_true rfl, rfl, rfl, Or.inl rfl⟩]
  rfl
set_option maxRecDepth 100000 in
set_option maxHeartbeats 4000000 in
theorem pf_11 {ini : Bool} {v : Int32} {r : List Value} {e : Nat → x_E} {g : Nat → Int32} {q : Nat → Int64} {c : Nat → Nat → Int32} {l : Nat → Nat → Int64} : xPut xcl ini (xFf 12) 257 (rH e g q c l) (.int v :: .ref 49 :: r) = some (r, rH e (upd g 11 v) q c l) := by
  unfold xPut
  rw [show xFf 12 257 = some (12, 11) from rfl]
  dsimp only
  rw [show (rH e g q c l)[49]? = some (.inr (12, rF g q)) from rfl, show xcl[12]? = some ("TypedDescentModel", fun k => xT12.getD k ("", "", "", false), 144) from rfl]
  dsimp only
  rw [if_pos ⟨rfl, Nat.le_of_ble_eq_true rfl, rfl, rfl, Or.inl rfl⟩]
  rfl
set_option maxRecDepth 100000 in
set_option maxHeartbeats 4000000 in
theorem pf_12 {ini : Bool} {v : Int32} {r : List Value} {e : Nat → x_E} {g : Nat → Int32} {q : Nat → Int64} {c : Nat → Nat → Int32} {l : Nat → Nat → Int64} : xPut xcl ini (xFf 12) 264 (rH e g q c l) (.int v :: .ref 49 :: r) = some (r, rH e (upd g 12 v) q c l) := by
  unfold xPut
  rw [show xFf 12 264 = some (12, 12) from rfl]
  dsimp only
  rw [show (rH e g q c l)[49]? = some (.inr (12, rF g q)) from rfl, show xcl[12]? = some ("TypedDescentModel", fun k => xT12.getD k ("", "", "", false), 144) from rfl]
  dsimp only
  rw [if_pos ⟨rfl, Nat.le_of_ble_eq_true rfl, rfl, rfl, Or.inl rfl⟩]
  rfl
set_option maxRecDepth 100000 in
set_option maxHeartbeats 4000000 in
theorem pf_13 {ini : Bool} {v : Int32} {r : List Value} {e : Nat → x_E} {g : Nat → Int32} {q : Nat → Int64} {c : Nat → Nat → Int32} {l : Nat → Nat → Int64} : xPut xcl ini (xFf 12) 270 (rH e g q c l) (.int v :: .ref 49 :: r) = some (r, rH e (upd g 13 v) q c l) := by
  unfold xPut
  rw [show xFf 12 270 = some (12, 13) from rfl]
  dsimp only
  rw [show (rH e g q c l)[49]? = some (.inr (12, rF g q)) from rfl, show xcl[12]? = some ("TypedDescentModel", fun k => xT12.getD k ("", "", "", false), 144) from rfl]
  dsimp only
  rw [if_pos ⟨rfl, Nat.le_of_ble_eq_true rfl, rfl, rfl, Or.inl rfl⟩]
  rfl
set_option maxRecDepth 100000 in
set_option maxHeartbeats 4000000 in
theorem pf_17 {ini : Bool} {v : Int32} {r : List Value} {e : Nat → x_E} {g : Nat → Int32} {q : Nat → Int64} {c : Nat → Nat → Int32} {l : Nat → Nat → Int64} : xPut xcl ini (xFf 12) 251 (rH e g q c l) (.int v :: .ref 49 :: r) = some (r, rH e (upd g 17 v) q c l) := by
  unfold xPut
  rw [show xFf 12 251 = some (12, 17) from rfl]
  dsimp only
  rw [show (rH e g q c l)[49]? = some (.inr (12, rF g q)) from rfl, show xcl[12]? = some ("TypedDescentModel", fun k => xT12.getD k ("", "", "", false), 144) from rfl]
  dsimp only
  rw [if_pos ⟨rfl, Nat.le_of_ble_eq_true rfl, rfl, rfl, Or.inl rfl⟩]
  rfl
set_option maxRecDepth 100000 in
set_option maxHeartbeats 4000000 in
theorem pf_18 {ini : Bool} {v : Int32} {r : List Value} {e : Nat → x_E} {g : Nat → Int32} {q : Nat → Int64} {c : Nat → Nat → Int32} {l : Nat → Nat → Int64} : xPut xcl ini (xFf 12) 254 (rH e g q c l) (.int v :: .ref 49 :: r) = some (r, rH e (upd g 18 v) q c l) := by
  unfold xPut
  rw [show xFf 12 254 = some (12, 18) from rfl]
  dsimp only
  rw [show (rH e g q c l)[49]? = some (.inr (12, rF g q)) from rfl, show xcl[12]? = some ("TypedDescentModel", fun k => xT12.getD k ("", "", "", false), 144) from rfl]
  dsimp only
  rw [if_pos ⟨rfl, Nat.le_of_ble_eq_true rfl, rfl, rfl, Or.inl rfl⟩]
  rfl
set_option maxRecDepth 100000 in
set_option maxHeartbeats 4000000 in
theorem pf_19 {ini : Bool} {v : Int32} {r : List Value} {e : Nat → x_E} {g : Nat → Int32} {q : Nat → Int64} {c : Nat → Nat → Int32} {l : Nat → Nat → Int64} : xPut xcl ini (xFf 12) 319 (rH e g q c l) (.int v :: .ref 49 :: r) = some (r, rH e (upd g 19 v) q c l) := by
  unfold xPut
  rw [show xFf 12 319 = some (12, 19) from rfl]
  dsimp only
  rw [show (rH e g q c l)[49]? = some (.inr (12, rF g q)) from rfl, show xcl[12]? = some ("TypedDescentModel", fun k => xT12.getD k ("", "", "", false), 144) from rfl]
  dsimp only
  rw [if_pos ⟨rfl, Nat.le_of_ble_eq_true rfl, rfl, rfl, Or.inl rfl⟩]
  rfl
set_option maxRecDepth 100000 in
set_option maxHeartbeats 4000000 in
theorem pf_20 {ini : Bool} {v : Int32} {r : List Value} {e : Nat → x_E} {g : Nat → Int32} {q : Nat → Int64} {c : Nat → Nat → Int32} {l : Nat → Nat → Int64} : xPut xcl ini (xFf 12) 322 (rH e g q c l) (.int v :: .ref 49 :: r) = some (r, rH e (upd g 20 v) q c l) := by
  unfold xPut
  rw [show xFf 12 322 = some (12, 20) from rfl]
  dsimp only
  rw [show (rH e g q c l)[49]? = some (.inr (12, rF g q)) from rfl, show xcl[12]? = some ("TypedDescentModel", fun k => xT12.getD k ("", "", "", false), 144) from rfl]
  dsimp only
  rw [if_pos ⟨rfl, Nat.le_of_ble_eq_true rfl, rfl, rfl, Or.inl rfl⟩]
  rfl
set_option maxRecDepth 100000 in
set_option maxHeartbeats 4000000 in
theorem pf_21 {ini : Bool} {v : Int32} {r : List Value} {e : Nat → x_E} {g : Nat → Int32} {q : Nat → Int64} {c : Nat → Nat → Int32} {l : Nat → Nat → Int64} : xPut xcl ini (xFf 12) 331 (rH e g q c l) (.int v :: .ref 49 :: r) = some (r, rH e (upd g 21 v) q c l) := by
  unfold xPut
  rw [show xFf 12 331 = some (12, 21) from rfl]
  dsimp only
  rw [show (rH e g q c l)[49]? = some (.inr (12, rF g q)) from rfl, show xcl[12]? = some ("TypedDescentModel", fun k => xT12.getD k ("", "", "", false), 144) from rfl]
  dsimp only
  rw [if_pos ⟨rfl, Nat.le_of_ble_eq_true rfl, rfl, rfl, Or.inl rfl⟩]
  rfl
set_option maxRecDepth 100000 in
set_option maxHeartbeats 4000000 in
theorem pf_23 {ini : Bool} {v : Int32} {r : List Value} {e : Nat → x_E} {g : Nat → Int32} {q : Nat → Int64} {c : Nat → Nat → Int32} {l : Nat → Nat → Int64} (hv : v = 0 ∨ v = 1) : xPut xcl ini (xFf 12) 325 (rH e g q c l) (.int v :: .ref 49 :: r) = some (r, rH e (upd g 23 v) q c l) := by
  rcases hv with rfl | rfl
  · unfold xPut
    rw [show xFf 12 325 = some (12, 23) from rfl]
    dsimp only
    rw [show (rH e g q c l)[49]? = some (.inr (12, rF g q)) from rfl, show xcl[12]? = some ("TypedDescentModel", fun k => xT12.getD k ("", "", "", false), 144) from rfl]
    dsimp only
    rw [if_pos ⟨rfl, Nat.le_of_ble_eq_true rfl, rfl, rfl, Or.inl rfl⟩]
    rfl
  · unfold xPut
    rw [show xFf 12 325 = some (12, 23) from rfl]
    dsimp only
    rw [show (rH e g q c l)[49]? = some (.inr (12, rF g q)) from rfl, show xcl[12]? = some ("TypedDescentModel", fun k => xT12.getD k ("", "", "", false), 144) from rfl]
    dsimp only
    rw [if_pos ⟨rfl, Nat.le_of_ble_eq_true rfl, rfl, rfl, Or.inl rfl⟩]
    rfl
set_option maxRecDepth 100000 in
set_option maxHeartbeats 4000000 in
theorem pf_24 {ini : Bool} {v : Int32} {r : List Value} {e : Nat → x_E} {g : Nat → Int32} {q : Nat → Int64} {c : Nat → Nat → Int32} {l : Nat → Nat → Int64} : xPut xcl ini (xFf 12) 353 (rH e g q c l) (.int v :: .ref 49 :: r) = some (r, rH e (upd g 24 v) q c l) := by
  unfold xPut
  rw [show xFf 12 353 = some (12, 24) from rfl]
  dsimp only
  rw [show (rH e g q c l)[49]? = some (.inr (12, rF g q)) from rfl, show xcl[12]? = some ("TypedDescentModel", fun k => xT12.getD k ("", "", "", false), 144) from rfl]
  dsimp only
  rw [if_pos ⟨rfl, Nat.le_of_ble_eq_true rfl, rfl, rfl, Or.inl rfl⟩]
  rfl
set_option maxRecDepth 100000 in
set_option maxHeartbeats 4000000 in
theorem pf_26 {ini : Bool} {v : Int64} {r : List Value} {e : Nat → x_E} {g : Nat → Int32} {q : Nat → Int64} {c : Nat → Nat → Int32} {l : Nat → Nat → Int64} : xPut xcl ini (xFf 12) 362 (rH e g q c l) (.long v :: .ref 49 :: r) = some (r, rH e g (updQ q 26 v) c l) := by
  unfold xPut
  rw [show xFf 12 362 = some (12, 26) from rfl]
  dsimp only
  rw [show (rH e g q c l)[49]? = some (.inr (12, rF g q)) from rfl, show xcl[12]? = some ("TypedDescentModel", fun k => xT12.getD k ("", "", "", false), 144) from rfl]
  dsimp only
  rw [if_pos ⟨rfl, Nat.le_of_ble_eq_true rfl, rfl, rfl, Or.inl rfl⟩]
  rfl
set_option maxRecDepth 100000 in
set_option maxHeartbeats 4000000 in
theorem pf_27 {ini : Bool} {v : Int32} {r : List Value} {e : Nat → x_E} {g : Nat → Int32} {q : Nat → Int64} {c : Nat → Nat → Int32} {l : Nat → Nat → Int64} : xPut xcl ini (xFf 12) 365 (rH e g q c l) (.int v :: .ref 49 :: r) = some (r, rH e (upd g 27 v) q c l) := by
  unfold xPut
  rw [show xFf 12 365 = some (12, 27) from rfl]
  dsimp only
  rw [show (rH e g q c l)[49]? = some (.inr (12, rF g q)) from rfl, show xcl[12]? = some ("TypedDescentModel", fun k => xT12.getD k ("", "", "", false), 144) from rfl]
  dsimp only
  rw [if_pos ⟨rfl, Nat.le_of_ble_eq_true rfl, rfl, rfl, Or.inl rfl⟩]
  rfl
set_option maxRecDepth 100000 in
set_option maxHeartbeats 4000000 in
theorem pf_28 {ini : Bool} {v : Int32} {r : List Value} {e : Nat → x_E} {g : Nat → Int32} {q : Nat → Int64} {c : Nat → Nat → Int32} {l : Nat → Nat → Int64} : xPut xcl ini (xFf 12) 368 (rH e g q c l) (.int v :: .ref 49 :: r) = some (r, rH e (upd g 28 v) q c l) := by
  unfold xPut
  rw [show xFf 12 368 = some (12, 28) from rfl]
  dsimp only
  rw [show (rH e g q c l)[49]? = some (.inr (12, rF g q)) from rfl, show xcl[12]? = some ("TypedDescentModel", fun k => xT12.getD k ("", "", "", false), 144) from rfl]
  dsimp only
  rw [if_pos ⟨rfl, Nat.le_of_ble_eq_true rfl, rfl, rfl, Or.inl rfl⟩]
  rfl
set_option maxRecDepth 100000 in
set_option maxHeartbeats 4000000 in
theorem pf_30 {ini : Bool} {v : Int32} {r : List Value} {e : Nat → x_E} {g : Nat → Int32} {q : Nat → Int64} {c : Nat → Nat → Int32} {l : Nat → Nat → Int64} : xPut xcl ini (xFf 12) 374 (rH e g q c l) (.int v :: .ref 49 :: r) = some (r, rH e (upd g 30 v) q c l) := by
  unfold xPut
  rw [show xFf 12 374 = some (12, 30) from rfl]
  dsimp only
  rw [show (rH e g q c l)[49]? = some (.inr (12, rF g q)) from rfl, show xcl[12]? = some ("TypedDescentModel", fun k => xT12.getD k ("", "", "", false), 144) from rfl]
  dsimp only
  rw [if_pos ⟨rfl, Nat.le_of_ble_eq_true rfl, rfl, rfl, Or.inl rfl⟩]
  rfl
set_option maxRecDepth 100000 in
set_option maxHeartbeats 4000000 in
theorem pf_31 {ini : Bool} {v : Int32} {r : List Value} {e : Nat → x_E} {g : Nat → Int32} {q : Nat → Int64} {c : Nat → Nat → Int32} {l : Nat → Nat → Int64} : xPut xcl ini (xFf 12) 371 (rH e g q c l) (.int v :: .ref 49 :: r) = some (r, rH e (upd g 31 v) q c l) := by
  unfold xPut
  rw [show xFf 12 371 = some (12, 31) from rfl]
  dsimp only
  rw [show (rH e g q c l)[49]? = some (.inr (12, rF g q)) from rfl, show xcl[12]? = some ("TypedDescentModel", fun k => xT12.getD k ("", "", "", false), 144) from rfl]
  dsimp only
  rw [if_pos ⟨rfl, Nat.le_of_ble_eq_true rfl, rfl, rfl, Or.inl rfl⟩]
  rfl
set_option maxRecDepth 100000 in
set_option maxHeartbeats 4000000 in
theorem pf_34 {ini : Bool} {v : Int32} {r : List Value} {e : Nat → x_E} {g : Nat → Int32} {q : Nat → Int64} {c : Nat → Nat → Int32} {l : Nat → Nat → Int64} : xPut xcl ini (xFf 12) 508 (rH e g q c l) (.int v :: .ref 49 :: r) = some (r, rH e (upd g 34 v) q c l) := by
  unfold xPut
  rw [show xFf 12 508 = some (12, 34) from rfl]
  dsimp only
  rw [show (rH e g q c l)[49]? = some (.inr (12, rF g q)) from rfl, show xcl[12]? = some ("TypedDescentModel", fun k => xT12.getD k ("", "", "", false), 144) from rfl]
  dsimp only
  rw [if_pos ⟨rfl, Nat.le_of_ble_eq_true rfl, rfl, rfl, Or.inl rfl⟩]
  rfl
set_option maxRecDepth 100000 in
set_option maxHeartbeats 4000000 in
theorem pf_36 {ini : Bool} {v : Int32} {r : List Value} {e : Nat → x_E} {g : Nat → Int32} {q : Nat → Int64} {c : Nat → Nat → Int32} {l : Nat → Nat → Int64} : xPut xcl ini (xFf 12) 393 (rH e g q c l) (.int v :: .ref 49 :: r) = some (r, rH e (upd g 36 v) q c l) := by
  unfold xPut
  rw [show xFf 12 393 = some (12, 36) from rfl]
  dsimp only
  rw [show (rH e g q c l)[49]? = some (.inr (12, rF g q)) from rfl, show xcl[12]? = some ("TypedDescentModel", fun k => xT12.getD k ("", "", "", false), 144) from rfl]
  dsimp only
  rw [if_pos ⟨rfl, Nat.le_of_ble_eq_true rfl, rfl, rfl, Or.inl rfl⟩]
  rfl
set_option maxRecDepth 100000 in
set_option maxHeartbeats 4000000 in
theorem pf_40 {ini : Bool} {v : Int32} {r : List Value} {e : Nat → x_E} {g : Nat → Int32} {q : Nat → Int64} {c : Nat → Nat → Int32} {l : Nat → Nat → Int64} : xPut xcl ini (xFf 12) 490 (rH e g q c l) (.int v :: .ref 49 :: r) = some (r, rH e (upd g 40 v) q c l) := by
  unfold xPut
  rw [show xFf 12 490 = some (12, 40) from rfl]
  dsimp only
  rw [show (rH e g q c l)[49]? = some (.inr (12, rF g q)) from rfl, show xcl[12]? = some ("TypedDescentModel", fun k => xT12.getD k ("", "", "", false), 144) from rfl]
  dsimp only
  rw [if_pos ⟨rfl, Nat.le_of_ble_eq_true rfl, rfl, rfl, Or.inl rfl⟩]
  rfl
set_option maxRecDepth 100000 in
set_option maxHeartbeats 4000000 in
theorem pf_41 {ini : Bool} {v : Int32} {r : List Value} {e : Nat → x_E} {g : Nat → Int32} {q : Nat → Int64} {c : Nat → Nat → Int32} {l : Nat → Nat → Int64} : xPut xcl ini (xFf 12) 414 (rH e g q c l) (.int v :: .ref 49 :: r) = some (r, rH e (upd g 41 v) q c l) := by
  unfold xPut
  rw [show xFf 12 414 = some (12, 41) from rfl]
  dsimp only
  rw [show (rH e g q c l)[49]? = some (.inr (12, rF g q)) from rfl, show xcl[12]? = some ("TypedDescentModel", fun k => xT12.getD k ("", "", "", false), 144) from rfl]
  dsimp only
  rw [if_pos ⟨rfl, Nat.le_of_ble_eq_true rfl, rfl, rfl, Or.inl rfl⟩]
  rfl
set_option maxRecDepth 100000 in
set_option maxHeartbeats 4000000 in
theorem pf_43 {ini : Bool} {v : Int32} {r : List Value} {e : Nat → x_E} {g : Nat → Int32} {q : Nat → Int64} {c : Nat → Nat → Int32} {l : Nat → Nat → Int64} : xPut xcl ini (xFf 12) 430 (rH e g q c l) (.int v :: .ref 49 :: r) = some (r, rH e (upd g 43 v) q c l) := by
  unfold xPut
  rw [show xFf 12 430 = some (12, 43) from rfl]
  dsimp only
  rw [show (rH e g q c l)[49]? = some (.inr (12, rF g q)) from rfl, show xcl[12]? = some ("TypedDescentModel", fun k => xT12.getD k ("", "", "", false), 144) from rfl]
  dsimp only
  rw [if_pos ⟨rfl, Nat.le_of_ble_eq_true rfl, rfl, rfl, Or.inl rfl⟩]
  rfl
set_option maxRecDepth 100000 in
set_option maxHeartbeats 4000000 in
theorem pf_49 {ini : Bool} {v : Int32} {r : List Value} {e : Nat → x_E} {g : Nat → Int32} {q : Nat → Int64} {c : Nat → Nat → Int32} {l : Nat → Nat → Int64} : xPut xcl ini (xFf 12) 551 (rH e g q c l) (.int v :: .ref 49 :: r) = some (r, rH e (upd g 49 v) q c l) := by
  unfold xPut
  rw [show xFf 12 551 = some (12, 49) from rfl]
  dsimp only
  rw [show (rH e g q c l)[49]? = some (.inr (12, rF g q)) from rfl, show xcl[12]? = some ("TypedDescentModel", fun k => xT12.getD k ("", "", "", false), 144) from rfl]
  dsimp only
  rw [if_pos ⟨rfl, Nat.le_of_ble_eq_true rfl, rfl, rfl, Or.inl rfl⟩]
  rfl
set_option maxRecDepth 100000 in
set_option maxHeartbeats 4000000 in
theorem pf_55 {ini : Bool} {v : Int32} {r : List Value} {e : Nat → x_E} {g : Nat → Int32} {q : Nat → Int64} {c : Nat → Nat → Int32} {l : Nat → Nat → Int64} : xPut xcl ini (xFf 12) 433 (rH e g q c l) (.int v :: .ref 49 :: r) = some (r, rH e (upd g 55 v) q c l) := by
  unfold xPut
  rw [show xFf 12 433 = some (12, 55) from rfl]
  dsimp only
  rw [show (rH e g q c l)[49]? = some (.inr (12, rF g q)) from rfl, show xcl[12]? = some ("TypedDescentModel", fun k => xT12.getD k ("", "", "", false), 144) from rfl]
  dsimp only
  rw [if_pos ⟨rfl, Nat.le_of_ble_eq_true rfl, rfl, rfl, Or.inl rfl⟩]
  rfl
set_option maxRecDepth 100000 in
set_option maxHeartbeats 4000000 in
theorem pf_56 {ini : Bool} {v : Int32} {r : List Value} {e : Nat → x_E} {g : Nat → Int32} {q : Nat → Int64} {c : Nat → Nat → Int32} {l : Nat → Nat → Int64} : xPut xcl ini (xFf 12) 436 (rH e g q c l) (.int v :: .ref 49 :: r) = some (r, rH e (upd g 56 v) q c l) := by
  unfold xPut
  rw [show xFf 12 436 = some (12, 56) from rfl]
  dsimp only
  rw [show (rH e g q c l)[49]? = some (.inr (12, rF g q)) from rfl, show xcl[12]? = some ("TypedDescentModel", fun k => xT12.getD k ("", "", "", false), 144) from rfl]
  dsimp only
  rw [if_pos ⟨rfl, Nat.le_of_ble_eq_true rfl, rfl, rfl, Or.inl rfl⟩]
  rfl
set_option maxRecDepth 100000 in
set_option maxHeartbeats 4000000 in
theorem pf_61 {ini : Bool} {v : Int32} {r : List Value} {e : Nat → x_E} {g : Nat → Int32} {q : Nat → Int64} {c : Nat → Nat → Int32} {l : Nat → Nat → Int64} : xPut xcl ini (xFf 12) 548 (rH e g q c l) (.int v :: .ref 49 :: r) = some (r, rH e (upd g 61 v) q c l) := by
  unfold xPut
  rw [show xFf 12 548 = some (12, 61) from rfl]
  dsimp only
  rw [show (rH e g q c l)[49]? = some (.inr (12, rF g q)) from rfl, show xcl[12]? = some ("TypedDescentModel", fun k => xT12.getD k ("", "", "", false), 144) from rfl]
  dsimp only
  rw [if_pos ⟨rfl, Nat.le_of_ble_eq_true rfl, rfl, rfl, Or.inl rfl⟩]
  rfl
set_option maxRecDepth 100000 in
set_option maxHeartbeats 4000000 in
theorem pf_63 {ini : Bool} {v : Int32} {r : List Value} {e : Nat → x_E} {g : Nat → Int32} {q : Nat → Int64} {c : Nat → Nat → Int32} {l : Nat → Nat → Int64} : xPut xcl ini (xFf 12) 590 (rH e g q c l) (.int v :: .ref 49 :: r) = some (r, rH e (upd g 63 v) q c l) := by
  unfold xPut
  rw [show xFf 12 590 = some (12, 63) from rfl]
  dsimp only
  rw [show (rH e g q c l)[49]? = some (.inr (12, rF g q)) from rfl, show xcl[12]? = some ("TypedDescentModel", fun k => xT12.getD k ("", "", "", false), 144) from rfl]
  dsimp only
  rw [if_pos ⟨rfl, Nat.le_of_ble_eq_true rfl, rfl, rfl, Or.inl rfl⟩]
  rfl
set_option maxRecDepth 100000 in
set_option maxHeartbeats 4000000 in
theorem pf_64 {ini : Bool} {v : Int32} {r : List Value} {e : Nat → x_E} {g : Nat → Int32} {q : Nat → Int64} {c : Nat → Nat → Int32} {l : Nat → Nat → Int64} : xPut xcl ini (xFf 12) 593 (rH e g q c l) (.int v :: .ref 49 :: r) = some (r, rH e (upd g 64 v) q c l) := by
  unfold xPut
  rw [show xFf 12 593 = some (12, 64) from rfl]
  dsimp only
  rw [show (rH e g q c l)[49]? = some (.inr (12, rF g q)) from rfl, show xcl[12]? = some ("TypedDescentModel", fun k => xT12.getD k ("", "", "", false), 144) from rfl]
  dsimp only
  rw [if_pos ⟨rfl, Nat.le_of_ble_eq_true rfl, rfl, rfl, Or.inl rfl⟩]
  rfl
set_option maxRecDepth 100000 in
set_option maxHeartbeats 4000000 in
theorem pf_65 {ini : Bool} {v : Int32} {r : List Value} {e : Nat → x_E} {g : Nat → Int32} {q : Nat → Int64} {c : Nat → Nat → Int32} {l : Nat → Nat → Int64} : xPut xcl ini (xFf 12) 596 (rH e g q c l) (.int v :: .ref 49 :: r) = some (r, rH e (upd g 65 v) q c l) := by
  unfold xPut
  rw [show xFf 12 596 = some (12, 65) from rfl]
  dsimp only
  rw [show (rH e g q c l)[49]? = some (.inr (12, rF g q)) from rfl, show xcl[12]? = some ("TypedDescentModel", fun k => xT12.getD k ("", "", "", false), 144) from rfl]
  dsimp only
  rw [if_pos ⟨rfl, Nat.le_of_ble_eq_true rfl, rfl, rfl, Or.inl rfl⟩]
  rfl
set_option maxRecDepth 100000 in
set_option maxHeartbeats 4000000 in
theorem pf_66 {ini : Bool} {v : Int32} {r : List Value} {e : Nat → x_E} {g : Nat → Int32} {q : Nat → Int64} {c : Nat → Nat → Int32} {l : Nat → Nat → Int64} : xPut xcl ini (xFf 12) 641 (rH e g q c l) (.int v :: .ref 49 :: r) = some (r, rH e (upd g 66 v) q c l) := by
  unfold xPut
  rw [show xFf 12 641 = some (12, 66) from rfl]
  dsimp only
  rw [show (rH e g q c l)[49]? = some (.inr (12, rF g q)) from rfl, show xcl[12]? = some ("TypedDescentModel", fun k => xT12.getD k ("", "", "", false), 144) from rfl]
  dsimp only
  rw [if_pos ⟨rfl, Nat.le_of_ble_eq_true rfl, rfl, rfl, Or.inl rfl⟩]
  rfl
set_option maxRecDepth 100000 in
set_option maxHeartbeats 4000000 in
theorem pf_67 {ini : Bool} {v : Int32} {r : List Value} {e : Nat → x_E} {g : Nat → Int32} {q : Nat → Int64} {c : Nat → Nat → Int32} {l : Nat → Nat → Int64} : xPut xcl ini (xFf 12) 623 (rH e g q c l) (.int v :: .ref 49 :: r) = some (r, rH e (upd g 67 v) q c l) := by
  unfold xPut
  rw [show xFf 12 623 = some (12, 67) from rfl]
  dsimp only
  rw [show (rH e g q c l)[49]? = some (.inr (12, rF g q)) from rfl, show xcl[12]? = some ("TypedDescentModel", fun k => xT12.getD k ("", "", "", false), 144) from rfl]
  dsimp only
  rw [if_pos ⟨rfl, Nat.le_of_ble_eq_true rfl, rfl, rfl, Or.inl rfl⟩]
  rfl
set_option maxRecDepth 100000 in
set_option maxHeartbeats 4000000 in
theorem pf_68 {ini : Bool} {v : Int32} {r : List Value} {e : Nat → x_E} {g : Nat → Int32} {q : Nat → Int64} {c : Nat → Nat → Int32} {l : Nat → Nat → Int64} : xPut xcl ini (xFf 12) 644 (rH e g q c l) (.int v :: .ref 49 :: r) = some (r, rH e (upd g 68 v) q c l) := by
  unfold xPut
  rw [show xFf 12 644 = some (12, 68) from rfl]
  dsimp only
  rw [show (rH e g q c l)[49]? = some (.inr (12, rF g q)) from rfl, show xcl[12]? = some ("TypedDescentModel", fun k => xT12.getD k ("", "", "", false), 144) from rfl]
  dsimp only
  rw [if_pos ⟨rfl, Nat.le_of_ble_eq_true rfl, rfl, rfl, Or.inl rfl⟩]
  rfl
set_option maxRecDepth 100000 in
set_option maxHeartbeats 4000000 in
theorem pf_69 {ini : Bool} {v : Int32} {r : List Value} {e : Nat → x_E} {g : Nat → Int32} {q : Nat → Int64} {c : Nat → Nat → Int32} {l : Nat → Nat → Int64} : xPut xcl ini (xFf 12) 614 (rH e g q c l) (.int v :: .ref 49 :: r) = some (r, rH e (upd g 69 v) q c l) := by
  unfold xPut
  rw [show xFf 12 614 = some (12, 69) from rfl]
  dsimp only
  rw [show (rH e g q c l)[49]? = some (.inr (12, rF g q)) from rfl, show xcl[12]? = some ("TypedDescentModel", fun k => xT12.getD k ("", "", "", false), 144) from rfl]
  dsimp only
  rw [if_pos ⟨rfl, Nat.le_of_ble_eq_true rfl, rfl, rfl, Or.inl rfl⟩]
  rfl
set_option maxRecDepth 100000 in
set_option maxHeartbeats 4000000 in
theorem pf_71 {ini : Bool} {v : Int32} {r : List Value} {e : Nat → x_E} {g : Nat → Int32} {q : Nat → Int64} {c : Nat → Nat → Int32} {l : Nat → Nat → Int64} : xPut xcl ini (xFf 12) 632 (rH e g q c l) (.int v :: .ref 49 :: r) = some (r, rH e (upd g 71 v) q c l) := by
  unfold xPut
  rw [show xFf 12 632 = some (12, 71) from rfl]
  dsimp only
  rw [show (rH e g q c l)[49]? = some (.inr (12, rF g q)) from rfl, show xcl[12]? = some ("TypedDescentModel", fun k => xT12.getD k ("", "", "", false), 144) from rfl]
  dsimp only
  rw [if_pos ⟨rfl, Nat.le_of_ble_eq_true rfl, rfl, rfl, Or.inl rfl⟩]
  rfl
set_option maxRecDepth 100000 in
set_option maxHeartbeats 4000000 in
theorem pf_85 {ini : Bool} {v : Int32} {r : List Value} {e : Nat → x_E} {g : Nat → Int32} {q : Nat → Int64} {c : Nat → Nat → Int32} {l : Nat → Nat → Int64} : xPut xcl ini (xFf 12) 679 (rH e g q c l) (.int v :: .ref 49 :: r) = some (r, rH e (upd g 85 v) q c l) := by
  unfold xPut
  rw [show xFf 12 679 = some (12, 85) from rfl]
  dsimp only
  rw [show (rH e g q c l)[49]? = some (.inr (12, rF g q)) from rfl, show xcl[12]? = some ("TypedDescentModel", fun k => xT12.getD k ("", "", "", false), 144) from rfl]
  dsimp only
  rw [if_pos ⟨rfl, Nat.le_of_ble_eq_true rfl, rfl, rfl, Or.inl rfl⟩]
  rfl
set_option maxRecDepth 100000 in
set_option maxHeartbeats 4000000 in
theorem pf_92 {ini : Bool} {v : Int32} {r : List Value} {e : Nat → x_E} {g : Nat → Int32} {q : Nat → Int64} {c : Nat → Nat → Int32} {l : Nat → Nat → Int64} : xPut xcl ini (xFf 12) 682 (rH e g q c l) (.int v :: .ref 49 :: r) = some (r, rH e (upd g 92 v) q c l) := by
  unfold xPut
  rw [show xFf 12 682 = some (12, 92) from rfl]
  dsimp only
  rw [show (rH e g q c l)[49]? = some (.inr (12, rF g q)) from rfl, show xcl[12]? = some ("TypedDescentModel", fun k => xT12.getD k ("", "", "", false), 144) from rfl]
  dsimp only
  rw [if_pos ⟨rfl, Nat.le_of_ble_eq_true rfl, rfl, rfl, Or.inl rfl⟩]
  rfl
set_option maxRecDepth 100000 in
set_option maxHeartbeats 4000000 in
theorem pf_94 {ini : Bool} {v : Int32} {r : List Value} {e : Nat → x_E} {g : Nat → Int32} {q : Nat → Int64} {c : Nat → Nat → Int32} {l : Nat → Nat → Int64} : xPut xcl ini (xFf 12) 697 (rH e g q c l) (.int v :: .ref 49 :: r) = some (r, rH e (upd g 94 v) q c l) := by
  unfold xPut
  rw [show xFf 12 697 = some (12, 94) from rfl]
  dsimp only
  rw [show (rH e g q c l)[49]? = some (.inr (12, rF g q)) from rfl, show xcl[12]? = some ("TypedDescentModel", fun k => xT12.getD k ("", "", "", false), 144) from rfl]
  dsimp only
  rw [if_pos ⟨rfl, Nat.le_of_ble_eq_true rfl, rfl, rfl, Or.inl rfl⟩]
  rfl
set_option maxRecDepth 100000 in
set_option maxHeartbeats 4000000 in
theorem pf_95 {ini : Bool} {v : Int32} {r : List Value} {e : Nat → x_E} {g : Nat → Int32} {q : Nat → Int64} {c : Nat → Nat → Int32} {l : Nat → Nat → Int64} : xPut xcl ini (xFf 12) 688 (rH e g q c l) (.int v :: .ref 49 :: r) = some (r, rH e (upd g 95 v) q c l) := by
  unfold xPut
  rw [show xFf 12 688 = some (12, 95) from rfl]
  dsimp only
  rw [show (rH e g q c l)[49]? = some (.inr (12, rF g q)) from rfl, show xcl[12]? = some ("TypedDescentModel", fun k => xT12.getD k ("", "", "", false), 144) from rfl]
  dsimp only
  rw [if_pos ⟨rfl, Nat.le_of_ble_eq_true rfl, rfl, rfl, Or.inl rfl⟩]
  rfl
set_option maxRecDepth 100000 in
set_option maxHeartbeats 4000000 in
theorem pf_96 {ini : Bool} {v : Int32} {r : List Value} {e : Nat → x_E} {g : Nat → Int32} {q : Nat → Int64} {c : Nat → Nat → Int32} {l : Nat → Nat → Int64} : xPut xcl ini (xFf 12) 685 (rH e g q c l) (.int v :: .ref 49 :: r) = some (r, rH e (upd g 96 v) q c l) := by
  unfold xPut
  rw [show xFf 12 685 = some (12, 96) from rfl]
  dsimp only
  rw [show (rH e g q c l)[49]? = some (.inr (12, rF g q)) from rfl, show xcl[12]? = some ("TypedDescentModel", fun k => xT12.getD k ("", "", "", false), 144) from rfl]
  dsimp only
  rw [if_pos ⟨rfl, Nat.le_of_ble_eq_true rfl, rfl, rfl, Or.inl rfl⟩]
  rfl
set_option maxRecDepth 100000 in
set_option maxHeartbeats 4000000 in
theorem pf_102 {ini : Bool} {v : Int32} {r : List Value} {e : Nat → x_E} {g : Nat → Int32} {q : Nat → Int64} {c : Nat → Nat → Int32} {l : Nat → Nat → Int64} : xPut xcl ini (xFf 12) 716 (rH e g q c l) (.int v :: .ref 49 :: r) = some (r, rH e (upd g 102 v) q c l) := by
  unfold xPut
  rw [show xFf 12 716 = some (12, 102) from rfl]
  dsimp only
  rw [show (rH e g q c l)[49]? = some (.inr (12, rF g q)) from rfl, show xcl[12]? = some ("TypedDescentModel", fun k => xT12.getD k ("", "", "", false), 144) from rfl]
  dsimp only
  rw [if_pos ⟨rfl, Nat.le_of_ble_eq_true rfl, rfl, rfl, Or.inl rfl⟩]
  rfl
set_option maxRecDepth 100000 in
set_option maxHeartbeats 4000000 in
theorem pf_118 {ini : Bool} {v : Int32} {r : List Value} {e : Nat → x_E} {g : Nat → Int32} {q : Nat → Int64} {c : Nat → Nat → Int32} {l : Nat → Nat → Int64} : xPut xcl ini (xFf 12) 763 (rH e g q c l) (.int v :: .ref 49 :: r) = some (r, rH e (upd g 118 v) q c l) := by
  unfold xPut
  rw [show xFf 12 763 = some (12, 118) from rfl]
  dsimp only
  rw [show (rH e g q c l)[49]? = some (.inr (12, rF g q)) from rfl, show xcl[12]? = some ("TypedDescentModel", fun k => xT12.getD k ("", "", "", false), 144) from rfl]
  dsimp only
  rw [if_pos ⟨rfl, Nat.le_of_ble_eq_true rfl, rfl, rfl, Or.inl rfl⟩]
  rfl
set_option maxRecDepth 100000 in
set_option maxHeartbeats 4000000 in
theorem pf_124 {ini : Bool} {v : Int32} {r : List Value} {e : Nat → x_E} {g : Nat → Int32} {q : Nat → Int64} {c : Nat → Nat → Int32} {l : Nat → Nat → Int64} : xPut xcl ini (xFf 12) 772 (rH e g q c l) (.int v :: .ref 49 :: r) = some (r, rH e (upd g 124 v) q c l) := by
  unfold xPut
  rw [show xFf 12 772 = some (12, 124) from rfl]
  dsimp only
  rw [show (rH e g q c l)[49]? = some (.inr (12, rF g q)) from rfl, show xcl[12]? = some ("TypedDescentModel", fun k => xT12.getD k ("", "", "", false), 144) from rfl]
  dsimp only
  rw [if_pos ⟨rfl, Nat.le_of_ble_eq_true rfl, rfl, rfl, Or.inl rfl⟩]
  rfl
set_option maxRecDepth 100000 in
set_option maxHeartbeats 4000000 in
theorem pf_125 {ini : Bool} {v : Int32} {r : List Value} {e : Nat → x_E} {g : Nat → Int32} {q : Nat → Int64} {c : Nat → Nat → Int32} {l : Nat → Nat → Int64} : xPut xcl ini (xFf 12) 766 (rH e g q c l) (.int v :: .ref 49 :: r) = some (r, rH e (upd g 125 v) q c l) := by
  unfold xPut
  rw [show xFf 12 766 = some (12, 125) from rfl]
  dsimp only
  rw [show (rH e g q c l)[49]? = some (.inr (12, rF g q)) from rfl, show xcl[12]? = some ("TypedDescentModel", fun k => xT12.getD k ("", "", "", false), 144) from rfl]
  dsimp only
  rw [if_pos ⟨rfl, Nat.le_of_ble_eq_true rfl, rfl, rfl, Or.inl rfl⟩]
  rfl
set_option maxRecDepth 100000 in
set_option maxHeartbeats 4000000 in
theorem pf_134 {ini : Bool} {v : Int32} {r : List Value} {e : Nat → x_E} {g : Nat → Int32} {q : Nat → Int64} {c : Nat → Nat → Int32} {l : Nat → Nat → Int64} (hv : v = 0 ∨ v = 1) : xPut xcl ini (xFf 12) 754 (rH e g q c l) (.int v :: .ref 49 :: r) = some (r, rH e (upd g 134 v) q c l) := by
  rcases hv with rfl | rfl
  · unfold xPut
    rw [show xFf 12 754 = some (12, 134) from rfl]
    dsimp only
    rw [show (rH e g q c l)[49]? = some (.inr (12, rF g q)) from rfl, show xcl[12]? = some ("TypedDescentModel", fun k => xT12.getD k ("", "", "", false), 144) from rfl]
    dsimp only
    rw [if_pos ⟨rfl, Nat.le_of_ble_eq_true rfl, rfl, rfl, Or.inl rfl⟩]
    rfl
  · unfold xPut
    rw [show xFf 12 754 = some (12, 134) from rfl]
    dsimp only
    rw [show (rH e g q c l)[49]? = some (.inr (12, rF g q)) from rfl, show xcl[12]? = some ("TypedDescentModel", fun k => xT12.getD k ("", "", "", false), 144) from rfl]
    dsimp only
    rw [if_pos ⟨rfl, Nat.le_of_ble_eq_true rfl, rfl, rfl, Or.inl rfl⟩]
    rfl
set_option maxRecDepth 100000 in
set_option maxHeartbeats 4000000 in
theorem pf_143 {ini : Bool} {v : Int32} {r : List Value} {e : Nat → x_E} {g : Nat → Int32} {q : Nat → Int64} {c : Nat → Nat → Int32} {l : Nat → Nat → Int64} (hv : v = 0 ∨ v = 1) : xPut xcl ini (xFf 12) 878 (rH e g q c l) (.int v :: .ref 49 :: r) = some (r, rH e (upd g 143 v) q c l) := by
  rcases hv with rfl | rfl
  · unfold xPut
    rw [show xFf 12 878 = some (12, 143) from rfl]
    dsimp only
    rw [show (rH e g q c l)[49]? = some (.inr (12, rF g q)) from rfl, show xcl[12]? = some ("TypedDescentModel", fun k => xT12.getD k ("", "", "", false), 144) from rfl]
    dsimp only
    rw [if_pos ⟨rfl, Nat.le_of_ble_eq_true rfl, rfl, rfl, Or.inl rfl⟩]
    rfl
  · unfold xPut
    rw [show xFf 12 878 = some (12, 143) from rfl]
    dsimp only
    rw [show (rH e g q c l)[49]? = some (.inr (12, rF g q)) from rfl, show xcl[12]? = some ("TypedDescentModel", fun k => xT12.getD k ("", "", "", false), 144) from rfl]
    dsimp only
    rw [if_pos ⟨rfl, Nat.le_of_ble_eq_true rfl, rfl, rfl, Or.inl rfl⟩]
    rfl
set_option maxRecDepth 100000 in
set_option maxHeartbeats 4000000 in
theorem ald_51 {v : Int32} {r : List Value} {e : Nat → x_E} {g : Nat → Int32} {q : Nat → Int64} {c : Nat → Nat → Int32} {l : Nat → Nat → Int64} (h : ¬ (v < 0 ∨ 6000 ≤ v.toNatClampNeg)) : xAld 0 (rH e g q c l) (.int v :: .ref 51 :: r) = some (.int (c 51 v.toNatClampNeg) :: r) := by
  unfold xAld
  dsimp only
  rw [show (rH e g q c l)[51]? = some (.inl (0, 6000, .inl (c 51))) from rfl]
  dsimp only
  rw [if_pos ⟨rfl, h⟩]
set_option maxRecDepth 100000 in
set_option maxHeartbeats 4000000 in
theorem ald_56 {v : Int32} {r : List Value} {e : Nat → x_E} {g : Nat → Int32} {q : Nat → Int64} {c : Nat → Nat → Int32} {l : Nat → Nat → Int64} (h : ¬ (v < 0 ∨ 1300 ≤ v.toNatClampNeg)) : xAld 0 (rH e g q c l) (.int v :: .ref 56 :: r) = some (.int (c 56 v.toNatClampNeg) :: r) := by
  unfold xAld
  dsimp only
  rw [show (rH e g q c l)[56]? = some (.inl (0, 1300, .inl (c 56))) from rfl]
  dsimp only
  rw [if_pos ⟨rfl, h⟩]
set_option maxRecDepth 100000 in
set_option maxHeartbeats 4000000 in
theorem ald_81 {v : Int32} {r : List Value} {e : Nat → x_E} {g : Nat → Int32} {q : Nat → Int64} {c : Nat → Nat → Int32} {l : Nat → Nat → Int64} (h : ¬ (v < 0 ∨ 4000 ≤ v.toNatClampNeg)) : xAld 0 (rH e g q c l) (.int v :: .ref 81 :: r) = some (.int (c 81 v.toNatClampNeg) :: r) := by
  unfold xAld
  dsimp only
  rw [show (rH e g q c l)[81]? = some (.inl (0, 4000, .inl (c 81))) from rfl]
  dsimp only
  rw [if_pos ⟨rfl, h⟩]
set_option maxRecDepth 100000 in
set_option maxHeartbeats 4000000 in
theorem ald_110 {v : Int32} {r : List Value} {e : Nat → x_E} {g : Nat → Int32} {q : Nat → Int64} {c : Nat → Nat → Int32} {l : Nat → Nat → Int64} (h : ¬ (v < 0 ∨ 41 ≤ v.toNatClampNeg)) : xAld 0 (rH e g q c l) (.int v :: .ref 110 :: r) = some (.int (c 110 v.toNatClampNeg) :: r) := by
  unfold xAld
  dsimp only
  rw [show (rH e g q c l)[110]? = some (.inl (0, 41, .inl (c 110))) from rfl]
  dsimp only
  rw [if_pos ⟨rfl, h⟩]
set_option maxRecDepth 100000 in
set_option maxHeartbeats 4000000 in
theorem ald_119 {v : Int32} {r : List Value} {e : Nat → x_E} {g : Nat → Int32} {q : Nat → Int64} {c : Nat → Nat → Int32} {l : Nat → Nat → Int64} (h : ¬ (v < 0 ∨ 24000 ≤ v.toNatClampNeg)) : xAld 0 (rH e g q c l) (.int v :: .ref 119 :: r) = some (.int (c 119 v.toNatClampNeg) :: r) := by
  unfold xAld
  dsimp only
  rw [show (rH e g q c l)[119]? = some (.inl (0, 24000, .inl (c 119))) from rfl]
  dsimp only
  rw [if_pos ⟨rfl, h⟩]
set_option maxRecDepth 100000 in
set_option maxHeartbeats 4000000 in
theorem ald_120 {v : Int32} {r : List Value} {e : Nat → x_E} {g : Nat → Int32} {q : Nat → Int64} {c : Nat → Nat → Int32} {l : Nat → Nat → Int64} (h : ¬ (v < 0 ∨ 16 ≤ v.toNatClampNeg)) : xAld 0 (rH e g q c l) (.int v :: .ref 120 :: r) = some (.int (c 120 v.toNatClampNeg) :: r) := by
  unfold xAld
  dsimp only
  rw [show (rH e g q c l)[120]? = some (.inl (0, 16, .inl (c 120))) from rfl]
  dsimp only
  rw [if_pos ⟨rfl, h⟩]
set_option maxRecDepth 100000 in
set_option maxHeartbeats 4000000 in
theorem ald_121 {v : Int32} {r : List Value} {e : Nat → x_E} {g : Nat → Int32} {q : Nat → Int64} {c : Nat → Nat → Int32} {l : Nat → Nat → Int64} (h : ¬ (v < 0 ∨ 20001 ≤ v.toNatClampNeg)) : xAld 0 (rH e g q c l) (.int v :: .ref 121 :: r) = some (.int (c 121 v.toNatClampNeg) :: r) := by
  unfold xAld
  dsimp only
  rw [show (rH e g q c l)[121]? = some (.inl (0, 20001, .inl (c 121))) from rfl]
  dsimp only
  rw [if_pos ⟨rfl, h⟩]
set_option maxRecDepth 100000 in
set_option maxHeartbeats 4000000 in
theorem ast_51 {v x : Int32} {r : List Value} {e : Nat → x_E} {g : Nat → Int32} {q : Nat → Int64} {c : Nat → Nat → Int32} {l : Nat → Nat → Int64} (h : ¬ (v < 0 ∨ 6000 ≤ v.toNatClampNeg)) : xAst 0 (fun x => x) (rH e g q c l) (.int x :: .int v :: .ref 51 :: r) = some (r, rH e g q (updA c 51 (upd (c 51) v.toNatClampNeg x)) l) := by
  unfold xAst
  dsimp only
  rw [show (rH e g q c l)[51]? = some (.inl (0, 6000, .inl (c 51))) from rfl]
  dsimp only
  rw [if_pos ⟨rfl, h⟩]
  rfl
set_option maxRecDepth 100000 in
set_option maxHeartbeats 4000000 in
theorem ast_55 {v x : Int32} {r : List Value} {e : Nat → x_E} {g : Nat → Int32} {q : Nat → Int64} {c : Nat → Nat → Int32} {l : Nat → Nat → Int64} (h : ¬ (v < 0 ∨ 66000 ≤ v.toNatClampNeg)) : xAst 0 (fun x => x) (rH e g q c l) (.int x :: .int v :: .ref 55 :: r) = some (r, rH e g q (updA c 55 (upd (c 55) v.toNatClampNeg x)) l) := by
  unfold xAst
  dsimp only
  rw [show (rH e g q c l)[55]? = some (.inl (0, 66000, .inl (c 55))) from rfl]
  dsimp only
  rw [if_pos ⟨rfl, h⟩]
  rfl
set_option maxRecDepth 100000 in
set_option maxHeartbeats 4000000 in
theorem ast_56 {v x : Int32} {r : List Value} {e : Nat → x_E} {g : Nat → Int32} {q : Nat → Int64} {c : Nat → Nat → Int32} {l : Nat → Nat → Int64} (h : ¬ (v < 0 ∨ 1300 ≤ v.toNatClampNeg)) : xAst 0 (fun x => x) (rH e g q c l) (.int x :: .int v :: .ref 56 :: r) = some (r, rH e g q (updA c 56 (upd (c 56) v.toNatClampNeg x)) l) := by
  unfold xAst
  dsimp only
  rw [show (rH e g q c l)[56]? = some (.inl (0, 1300, .inl (c 56))) from rfl]
  dsimp only
  rw [if_pos ⟨rfl, h⟩]
  rfl
set_option maxRecDepth 100000 in
set_option maxHeartbeats 4000000 in
theorem ast_57 {v x : Int32} {r : List Value} {e : Nat → x_E} {g : Nat → Int32} {q : Nat → Int64} {c : Nat → Nat → Int32} {l : Nat → Nat → Int64} (h : ¬ (v < 0 ∨ 1300 ≤ v.toNatClampNeg)) : xAst 0 (fun x => x) (rH e g q c l) (.int x :: .int v :: .ref 57 :: r) = some (r, rH e g q (updA c 57 (upd (c 57) v.toNatClampNeg x)) l) := by
  unfold xAst
  dsimp only
  rw [show (rH e g q c l)[57]? = some (.inl (0, 1300, .inl (c 57))) from rfl]
  dsimp only
  rw [if_pos ⟨rfl, h⟩]
  rfl
set_option maxRecDepth 100000 in
set_option maxHeartbeats 4000000 in
theorem ast_62 {v x : Int32} {r : List Value} {e : Nat → x_E} {g : Nat → Int32} {q : Nat → Int64} {c : Nat → Nat → Int32} {l : Nat → Nat → Int64} (h : ¬ (v < 0 ∨ 4000 ≤ v.toNatClampNeg)) : xAst 0 (fun x => x) (rH e g q c l) (.int x :: .int v :: .ref 62 :: r) = some (r, rH e g q (updA c 62 (upd (c 62) v.toNatClampNeg x)) l) := by
  unfold xAst
  dsimp only
  rw [show (rH e g q c l)[62]? = some (.inl (0, 4000, .inl (c 62))) from rfl]
  dsimp only
  rw [if_pos ⟨rfl, h⟩]
  rfl
set_option maxRecDepth 100000 in
set_option maxHeartbeats 4000000 in
theorem ast_63 {v x : Int32} {r : List Value} {e : Nat → x_E} {g : Nat → Int32} {q : Nat → Int64} {c : Nat → Nat → Int32} {l : Nat → Nat → Int64} (h : ¬ (v < 0 ∨ 4000 ≤ v.toNatClampNeg)) : xAst 0 (fun x => x) (rH e g q c l) (.int x :: .int v :: .ref 63 :: r) = some (r, rH e g q (updA c 63 (upd (c 63) v.toNatClampNeg x)) l) := by
  unfold xAst
  dsimp only
  rw [show (rH e g q c l)[63]? = some (.inl (0, 4000, .inl (c 63))) from rfl]
  dsimp only
  rw [if_pos ⟨rfl, h⟩]
  rfl
set_option maxRecDepth 100000 in
set_option maxHeartbeats 4000000 in
theorem ast_64 {v x : Int32} {r : List Value} {e : Nat → x_E} {g : Nat → Int32} {q : Nat → Int64} {c : Nat → Nat → Int32} {l : Nat → Nat → Int64} (h : ¬ (v < 0 ∨ 4000 ≤ v.toNatClampNeg)) : xAst 0 (fun x => x) (rH e g q c l) (.int x :: .int v :: .ref 64 :: r) = some (r, rH e g q (updA c 64 (upd (c 64) v.toNatClampNeg x)) l) := by
  unfold xAst
  dsimp only
  rw [show (rH e g q c l)[64]? = some (.inl (0, 4000, .inl (c 64))) from rfl]
  dsimp only
  rw [if_pos ⟨rfl, h⟩]
  rfl
set_option maxRecDepth 100000 in
set_option maxHeartbeats 4000000 in
theorem ast_65 {v x : Int32} {r : List Value} {e : Nat → x_E} {g : Nat → Int32} {q : Nat → Int64} {c : Nat → Nat → Int32} {l : Nat → Nat → Int64} (h : ¬ (v < 0 ∨ 4000 ≤ v.toNatClampNeg)) : xAst 0 (fun x => x) (rH e g q c l) (.int x :: .int v :: .ref 65 :: r) = some (r, rH e g q (updA c 65 (upd (c 65) v.toNatClampNeg x)) l) := by
  unfold xAst
  dsimp only
  rw [show (rH e g q c l)[65]? = some (.inl (0, 4000, .inl (c 65))) from rfl]
  dsimp only
  rw [if_pos ⟨rfl, h⟩]
  rfl
set_option maxRecDepth 100000 in
set_option maxHeartbeats 4000000 in
theorem ast_67 {v x : Int32} {r : List Value} {e : Nat → x_E} {g : Nat → Int32} {q : Nat → Int64} {c : Nat → Nat → Int32} {l : Nat → Nat → Int64} (h : ¬ (v < 0 ∨ 900 ≤ v.toNatClampNeg)) : xAst 0 (fun x => x) (rH e g q c l) (.int x :: .int v :: .ref 67 :: r) = some (r, rH e g q (updA c 67 (upd (c 67) v.toNatClampNeg x)) l) := by
  unfold xAst
  dsimp only
  rw [show (rH e g q c l)[67]? = some (.inl (0, 900, .inl (c 67))) from rfl]
  dsimp only
  rw [if_pos ⟨rfl, h⟩]
  rfl
set_option maxRecDepth 100000 in
set_option maxHeartbeats 4000000 in
theorem ast_68 {v x : Int32} {r : List Value} {e : Nat → x_E} {g : Nat → Int32} {q : Nat → Int64} {c : Nat → Nat → Int32} {l : Nat → Nat → Int64} (h : ¬ (v < 0 ∨ 900 ≤ v.toNatClampNeg)) : xAst 0 (fun x => x) (rH e g q c l) (.int x :: .int v :: .ref 68 :: r) = some (r, rH e g q (updA c 68 (upd (c 68) v.toNatClampNeg x)) l) := by
  unfold xAst
  dsimp only
  rw [show (rH e g q c l)[68]? = some (.inl (0, 900, .inl (c 68))) from rfl]
  dsimp only
  rw [if_pos ⟨rfl, h⟩]
  rfl
set_option maxRecDepth 100000 in
set_option maxHeartbeats 4000000 in
theorem ast_86 {v x : Int32} {r : List Value} {e : Nat → x_E} {g : Nat → Int32} {q : Nat → Int64} {c : Nat → Nat → Int32} {l : Nat → Nat → Int64} (h : ¬ (v < 0 ∨ 66000 ≤ v.toNatClampNeg)) : xAst 0 (fun x => x) (rH e g q c l) (.int x :: .int v :: .ref 86 :: r) = some (r, rH e g q (updA c 86 (upd (c 86) v.toNatClampNeg x)) l) := by
  unfold xAst
  dsimp only
  rw [show (rH e g q c l)[86]? = some (.inl (0, 66000, .inl (c 86))) from rfl]
  dsimp only
  rw [if_pos ⟨rfl, h⟩]
  rfl
set_option maxRecDepth 100000 in
set_option maxHeartbeats 4000000 in
theorem ast_87 {v x : Int32} {r : List Value} {e : Nat → x_E} {g : Nat → Int32} {q : Nat → Int64} {c : Nat → Nat → Int32} {l : Nat → Nat → Int64} (h : ¬ (v < 0 ∨ 66000 ≤ v.toNatClampNeg)) : xAst 0 (fun x => x) (rH e g q c l) (.int x :: .int v :: .ref 87 :: r) = some (r, rH e g q (updA c 87 (upd (c 87) v.toNatClampNeg x)) l) := by
  unfold xAst
  dsimp only
  rw [show (rH e g q c l)[87]? = some (.inl (0, 66000, .inl (c 87))) from rfl]
  dsimp only
  rw [if_pos ⟨rfl, h⟩]
  rfl
set_option maxRecDepth 100000 in
set_option maxHeartbeats 4000000 in
theorem ast_88 {v x : Int32} {r : List Value} {e : Nat → x_E} {g : Nat → Int32} {q : Nat → Int64} {c : Nat → Nat → Int32} {l : Nat → Nat → Int64} (h : ¬ (v < 0 ∨ 66000 ≤ v.toNatClampNeg)) : xAst 0 (fun x => x) (rH e g q c l) (.int x :: .int v :: .ref 88 :: r) = some (r, rH e g q (updA c 88 (upd (c 88) v.toNatClampNeg x)) l) := by
  unfold xAst
  dsimp only
  rw [show (rH e g q c l)[88]? = some (.inl (0, 66000, .inl (c 88))) from rfl]
  dsimp only
  rw [if_pos ⟨rfl, h⟩]
  rfl
set_option maxRecDepth 100000 in
set_option maxHeartbeats 4000000 in
theorem ast_89 {v x : Int32} {r : List Value} {e : Nat → x_E} {g : Nat → Int32} {q : Nat → Int64} {c : Nat → Nat → Int32} {l : Nat → Nat → Int64} (h : ¬ (v < 0 ∨ 66000 ≤ v.toNatClampNeg)) : xAst 0 (fun x => x) (rH e g q c l) (.int x :: .int v :: .ref 89 :: r) = some (r, rH e g q (updA c 89 (upd (c 89) v.toNatClampNeg x)) l) := by
  unfold xAst
  dsimp only
  rw [show (rH e g q c l)[89]? = some (.inl (0, 66000, .inl (c 89))) from rfl]
  dsimp only
  rw [if_pos ⟨rfl, h⟩]
  rfl
set_option maxRecDepth 100000 in
set_option maxHeartbeats 4000000 in
theorem ast_90 {v x : Int32} {r : List Value} {e : Nat → x_E} {g : Nat → Int32} {q : Nat → Int64} {c : Nat → Nat → Int32} {l : Nat → Nat → Int64} (h : ¬ (v < 0 ∨ 66000 ≤ v.toNatClampNeg)) : xAst 0 (fun x => x) (rH e g q c l) (.int x :: .int v :: .ref 90 :: r) = some (r, rH e g q (updA c 90 (upd (c 90) v.toNatClampNeg x)) l) := by
  unfold xAst
  dsimp only
  rw [show (rH e g q c l)[90]? = some (.inl (0, 66000, .inl (c 90))) from rfl]
  dsimp only
  rw [if_pos ⟨rfl, h⟩]
  rfl
set_option maxRecDepth 100000 in
set_option maxHeartbeats 4000000 in
theorem ast_91 {v x : Int32} {r : List Value} {e : Nat → x_E} {g : Nat → Int32} {q : Nat → Int64} {c : Nat → Nat → Int32} {l : Nat → Nat → Int64} (h : ¬ (v < 0 ∨ 66000 ≤ v.toNatClampNeg)) : xAst 0 (fun x => x) (rH e g q c l) (.int x :: .int v :: .ref 91 :: r) = some (r, rH e g q (updA c 91 (upd (c 91) v.toNatClampNeg x)) l) := by
  unfold xAst
  dsimp only
  rw [show (rH e g q c l)[91]? = some (.inl (0, 66000, .inl (c 91))) from rfl]
  dsimp only
  rw [if_pos ⟨rfl, h⟩]
  rfl
