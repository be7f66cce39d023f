def dTL (j : Nat) : List (Nat × Instr × Nat) := match j with
  | 25 => dT25
  | 26 => dT26
  | 27 => dT27
  | 28 => dT28
  | 29 => dT29
  | 30 => dT30
  | 31 => dT31
  | 36 => dT36
  | 57 => dT57
  | 58 => dT58
  | 59 => dT59
  | 60 => dT60
  | 61 => dT61
  | 62 => dT62
  | 63 => dT63
  | 64 => dT64
  | 65 => dT65
  | 66 => dT66
  | 67 => dT67
  | 68 => dT68
  | 69 => dT69
  | 70 => dT70
  | 71 => dT71
  | 72 => dT72
  | 73 => dT73
  | 74 => dT74
  | 75 => dT75
  | 76 => dT76
  | 77 => dT77
  | 78 => dT78
  | 79 => dT79
  | 80 => dT80
  | 81 => dT81
  | 82 => dT82
  | 83 => dT83
  | 84 => dT84
  | 85 => dT85
  | 86 => dT86
  | 87 => dT87
  | 88 => dT88
  | 90 => dT90
  | 104 => dT104
  | 108 => dT108
  | 175 => dT175
  | 176 => dT176
  | 177 => dT177
  | 178 => dT178
  | 179 => dT179
  | 180 => dT180
  | 181 => dT181
  | 182 => dT182
  | 183 => dT183
  | 184 => dT184
  | 185 => dT185
  | 186 => dT186
  | 187 => dT187
  | 188 => dT188
  | 192 => dT192
  | 193 => dT193
  | 250 => dT250
  | 251 => dT251
  | 252 => dT252
  | 254 => dT254
  | 256 => dT256
  | 257 => dT257
  | 258 => dT258
  | 300 => dT300
  | 302 => dT302
  | 304 => dT304
  | 308 => dT308
  | 312 => dT312
  | 313 => dT313
  | 315 => dT315
  | 316 => dT316
  | 317 => dT317
  | 318 => dT318
  | 319 => dT319
  | 320 => dT320
  | 321 => dT321
  | 322 => dT322
  | 323 => dT323
  | 324 => dT324
  | 325 => dT325
  | 326 => dT326
  | 328 => dT328
  | 333 => dT333
  | 334 => dT334
  | 335 => dT335
  | 336 => dT336
  | 337 => dT337
  | 338 => dT338
  | 340 => dT340
  | 341 => dT341
  | 342 => dT342
  | 343 => dT343
  | 344 => dT344
  | 351 => dT351
  | 352 => dT352
  | 353 => dT353
  | 355 => dT355
  | 366 => dT366
  | 372 => dT372
  | 373 => dT373
  | 374 => dT374
  | 375 => dT375
  | 376 => dT376
  | 380 => dT380
  | 390 => dT390
  | 391 => dT391
  | 398 => dT398
  | 399 => dT399
  | 400 => dT400
  | 401 => dT401
  | 443 => dT443
  | 444 => dT444
  | 445 => dT445
  | 460 => dT460
  | 461 => dT461
  | 462 => dT462
  | 463 => dT463
  | 464 => dT464
  | _ => []
def xDT (j pc : Nat) : Option (Instr × Nat) := xlk (dTL j) pc
theorem dTL_ok (j : Nat) : (dTL j).all (dck j) = true := by
  unfold dTL
  split
  · exact dT25_ok
  · exact dT26_ok
  · exact dT27_ok
  · exact dT28_ok
  · exact dT29_ok
  · exact dT30_ok
  · exact dT31_ok
  · exact dT36_ok
  · exact dT57_ok
  · exact dT58_ok
  · exact dT59_ok
  · exact dT60_ok
  · exact dT61_ok
  · exact dT62_ok
  · exact dT63_ok
  · exact dT64_ok
  · exact dT65_ok
  · exact dT66_ok
  · exact dT67_ok
  · exact dT68_ok
  · exact dT69_ok
  · exact dT70_ok
  · exact dT71_ok
  · exact dT72_ok
  · exact dT73_ok
  · exact dT74_ok
  · exact dT75_ok
  · exact dT76_ok
  · exact dT77_ok
  · exact dT78_ok
  · exact dT79_ok
  · exact dT80_ok
  · exact dT81_ok
  · exact dT82_ok
  · exact dT83_ok
  · exact dT84_ok
  · exact dT85_ok
  · exact dT86_ok
  · exact dT87_ok
  · exact dT88_ok
  · exact dT90_ok
  · exact dT104_ok
  · exact dT108_ok
  · exact dT175_ok
  · exact dT176_ok
  · exact dT177_ok
  · exact dT178_ok
  · exact dT179_ok
  · exact dT180_ok
  · exact dT181_ok
  · exact dT182_ok
  · exact dT183_ok
  · exact dT184_ok
  · exact dT185_ok
  · exact dT186_ok
  · exact dT187_ok
  · exact dT188_ok
  · exact dT192_ok
  · exact dT193_ok
  · exact dT250_ok
  · exact dT251_ok
  · exact dT252_ok
  · exact dT254_ok
  · exact dT256_ok
  · exact dT257_ok
  · exact dT258_ok
  · exact dT300_ok
  · exact dT302_ok
  · exact dT304_ok
  · exact dT308_ok
  · exact dT312_ok
  · exact dT313_ok
  · exact dT315_ok
  · exact dT316_ok
  · exact dT317_ok
  · exact dT318_ok
  · exact dT319_ok
  · exact dT320_ok
  · exact dT321_ok
  · exact dT322_ok
  · exact dT323_ok
  · exact dT324_ok
  · exact dT325_ok
  · exact dT326_ok
  · exact dT328_ok
  · exact dT333_ok
  · exact dT334_ok
  · exact dT335_ok
  · exact dT336_ok
  · exact dT337_ok
  · exact dT338_ok
  · exact dT340_ok
  · exact dT341_ok
  · exact dT342_ok
  · exact dT343_ok
  · exact dT344_ok
  · exact dT351_ok
  · exact dT352_ok
  · exact dT353_ok
  · exact dT355_ok
  · exact dT366_ok
  · exact dT372_ok
  · exact dT373_ok
  · exact dT374_ok
  · exact dT375_ok
  · exact dT376_ok
  · exact dT380_ok
  · exact dT390_ok
  · exact dT391_ok
  · exact dT398_ok
  · exact dT399_ok
  · exact dT400_ok
  · exact dT401_ok
  · exact dT443_ok
  · exact dT444_ok
  · exact dT445_ok
  · exact dT460_ok
  · exact dT461_ok
  · exact dT462_ok
  · exact dT463_ok
  · exact dT464_ok
  · rfl
theorem xDT_ok : ∀ j M pc v, zM xZ j = some M → xDT j pc = some v → decode (xb M) pc = .ok v := by
  intro j M pc v hj h
  have h1 := List.all_eq_true.mp (dTL_ok j) _ (xlk_mem h)
  unfold dck at h1
  have hj' : xMf j = some M := hj
  rw [hj'] at h1
  dsimp only at h1
  split at h1
  · rename_i w hw
    rw [hw, of_decide_eq_true h1]
  · cases h1
def xgf (b : Bool) (f d j : Nat) (hp : List x_E) (avs : List Value) : Option (Option Value × List x_E) := frun xZ (xY (xfm b)) xDT f d j 0 (lv_args 0 avs) [] hp 0 0
/-- a call on each of the two: their answers are alike -/
def xbt (b : Bool) (jx jm : Nat) (ax am : List Value) : Bool := match xgf b 3000 20 jx (xh2 b) ax with
  | some (some (.int r), hp) => (match xgf b 3000 20 jm hp am with
    | some (some (.int q), _) => decide (r = q)
    | _ => false)
  | _ => false
