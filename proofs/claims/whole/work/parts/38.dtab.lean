def dTL_0 (j : Nat) : List (Nat × Instr × Nat) := match j with
  | 3 => dT3
  | 4 => dT4
  | 6 => dT6
  | 14 => dT14
  | _ => []
theorem dTL_0_ok (j : Nat) : (dTL_0 j).all (dck j) = true := by
  unfold dTL_0
  split
  · exact dT3_ok
  · exact dT4_ok
  · exact dT6_ok
  · exact dT14_ok
  · rfl
def dTL_1 (j : Nat) : List (Nat × Instr × Nat) := match j with
  | 25 => dT25
  | 26 => dT26
  | 27 => dT27
  | 28 => dT28
  | 29 => dT29
  | 30 => dT30
  | 31 => dT31
  | _ => []
theorem dTL_1_ok (j : Nat) : (dTL_1 j).all (dck j) = true := by
  unfold dTL_1
  split
  · exact dT25_ok
  · exact dT26_ok
  · exact dT27_ok
  · exact dT28_ok
  · exact dT29_ok
  · exact dT30_ok
  · exact dT31_ok
  · rfl
def dTL_2 (j : Nat) : List (Nat × Instr × Nat) := match j with
  | 32 => dT32
  | 33 => dT33
  | 34 => dT34
  | 35 => dT35
  | 36 => dT36
  | 37 => dT37
  | 38 => dT38
  | 39 => dT39
  | 40 => dT40
  | 41 => dT41
  | 42 => dT42
  | 43 => dT43
  | 44 => dT44
  | 45 => dT45
  | 46 => dT46
  | _ => []
theorem dTL_2_ok (j : Nat) : (dTL_2 j).all (dck j) = true := by
  unfold dTL_2
  split
  · exact dT32_ok
  · exact dT33_ok
  · exact dT34_ok
  · exact dT35_ok
  · exact dT36_ok
  · exact dT37_ok
  · exact dT38_ok
  · exact dT39_ok
  · exact dT40_ok
  · exact dT41_ok
  · exact dT42_ok
  · exact dT43_ok
  · exact dT44_ok
  · exact dT45_ok
  · exact dT46_ok
  · rfl
def dTL_3 (j : Nat) : List (Nat × Instr × Nat) := match j with
  | 57 => dT57
  | 58 => dT58
  | 59 => dT59
  | 60 => dT60
  | 61 => dT61
  | 62 => dT62
  | 63 => dT63
  | _ => []
theorem dTL_3_ok (j : Nat) : (dTL_3 j).all (dck j) = true := by
  unfold dTL_3
  split
  · exact dT57_ok
  · exact dT58_ok
  · exact dT59_ok
  · exact dT60_ok
  · exact dT61_ok
  · exact dT62_ok
  · exact dT63_ok
  · rfl
def dTL_4 (j : Nat) : List (Nat × Instr × Nat) := match j with
  | 64 => dT64
  | 65 => dT65
  | 66 => dT66
  | 67 => dT67
  | 68 => dT68
  | 69 => dT69
  | 70 => dT70
  | 71 => dT71
  | 72 => dT72
  | 73 => dT73
  | 74 => dT74
  | 75 => dT75
  | 76 => dT76
  | 77 => dT77
  | 78 => dT78
  | 79 => dT79
  | _ => []
theorem dTL_4_ok (j : Nat) : (dTL_4 j).all (dck j) = true := by
  unfold dTL_4
  split
  · exact dT64_ok
  · exact dT65_ok
  · exact dT66_ok
  · exact dT67_ok
  · exact dT68_ok
  · exact dT69_ok
  · exact dT70_ok
  · exact dT71_ok
  · exact dT72_ok
  · exact dT73_ok
  · exact dT74_ok
  · exact dT75_ok
  · exact dT76_ok
  · exact dT77_ok
  · exact dT78_ok
  · exact dT79_ok
  · rfl
def dTL_5 (j : Nat) : List (Nat × Instr × Nat) := match j with
  | 80 => dT80
  | 81 => dT81
  | 82 => dT82
  | 83 => dT83
  | 84 => dT84
  | 85 => dT85
  | 86 => dT86
  | 87 => dT87
  | 88 => dT88
  | 90 => dT90
  | _ => []
theorem dTL_5_ok (j : Nat) : (dTL_5 j).all (dck j) = true := by
  unfold dTL_5
  split
  · exact dT80_ok
  · exact dT81_ok
  · exact dT82_ok
  · exact dT83_ok
  · exact dT84_ok
  · exact dT85_ok
  · exact dT86_ok
  · exact dT87_ok
  · exact dT88_ok
  · exact dT90_ok
  · rfl
def dTL_6 (j : Nat) : List (Nat × Instr × Nat) := match j with
  | 104 => dT104
  | 108 => dT108
  | _ => []
theorem dTL_6_ok (j : Nat) : (dTL_6 j).all (dck j) = true := by
  unfold dTL_6
  split
  · exact dT104_ok
  · exact dT108_ok
  · rfl
def dTL_10 (j : Nat) : List (Nat × Instr × Nat) := match j with
  | 175 => dT175
  | _ => []
theorem dTL_10_ok (j : Nat) : (dTL_10 j).all (dck j) = true := by
  unfold dTL_10
  split
  · exact dT175_ok
  · rfl
def dTL_11 (j : Nat) : List (Nat × Instr × Nat) := match j with
  | 176 => dT176
  | 177 => dT177
  | 178 => dT178
  | 179 => dT179
  | 180 => dT180
  | 181 => dT181
  | 182 => dT182
  | 183 => dT183
  | 184 => dT184
  | 185 => dT185
  | 186 => dT186
  | 187 => dT187
  | 188 => dT188
  | _ => []
theorem dTL_11_ok (j : Nat) : (dTL_11 j).all (dck j) = true := by
  unfold dTL_11
  split
  · exact dT176_ok
  · exact dT177_ok
  · exact dT178_ok
  · exact dT179_ok
  · exact dT180_ok
  · exact dT181_ok
  · exact dT182_ok
  · exact dT183_ok
  · exact dT184_ok
  · exact dT185_ok
  · exact dT186_ok
  · exact dT187_ok
  · exact dT188_ok
  · rfl
def dTL_12 (j : Nat) : List (Nat × Instr × Nat) := match j with
  | 192 => dT192
  | 193 => dT193
  | _ => []
theorem dTL_12_ok (j : Nat) : (dTL_12 j).all (dck j) = true := by
  unfold dTL_12
  split
  · exact dT192_ok
  · exact dT193_ok
  · rfl
def dTL_15 (j : Nat) : List (Nat × Instr × Nat) := match j with
  | 250 => dT250
  | 251 => dT251
  | 252 => dT252
  | 254 => dT254
  | _ => []
theorem dTL_15_ok (j : Nat) : (dTL_15 j).all (dck j) = true := by
  unfold dTL_15
  split
  · exact dT250_ok
  · exact dT251_ok
  · exact dT252_ok
  · exact dT254_ok
  · rfl
def dTL_16 (j : Nat) : List (Nat × Instr × Nat) := match j with
  | 256 => dT256
  | 257 => dT257
  | 258 => dT258
  | _ => []
theorem dTL_16_ok (j : Nat) : (dTL_16 j).all (dck j) = true := by
  unfold dTL_16
  split
  · exact dT256_ok
  · exact dT257_ok
  · exact dT258_ok
  · rfl
def dTL_18 (j : Nat) : List (Nat × Instr × Nat) := match j with
  | 300 => dT300
  | 302 => dT302
  | _ => []
theorem dTL_18_ok (j : Nat) : (dTL_18 j).all (dck j) = true := by
  unfold dTL_18
  split
  · exact dT300_ok
  · exact dT302_ok
  · rfl
def dTL_19 (j : Nat) : List (Nat × Instr × Nat) := match j with
  | 304 => dT304
  | 308 => dT308
  | 312 => dT312
  | 313 => dT313
  | 315 => dT315
  | 316 => dT316
  | 317 => dT317
  | 318 => dT318
  | 319 => dT319
  | _ => []
theorem dTL_19_ok (j : Nat) : (dTL_19 j).all (dck j) = true := by
  unfold dTL_19
  split
  · exact dT304_ok
  · exact dT308_ok
  · exact dT312_ok
  · exact dT313_ok
  · exact dT315_ok
  · exact dT316_ok
  · exact dT317_ok
  · exact dT318_ok
  · exact dT319_ok
  · rfl
def dTL_20 (j : Nat) : List (Nat × Instr × Nat) := match j with
  | 320 => dT320
  | 321 => dT321
  | 322 => dT322
  | 323 => dT323
  | 324 => dT324
  | 325 => dT325
  | 326 => dT326
  | 327 => dT327
  | 328 => dT328
  | 329 => dT329
  | 330 => dT330
  | 331 => dT331
  | 332 => dT332
  | 333 => dT333
  | 334 => dT334
  | 335 => dT335
  | _ => []
theorem dTL_20_ok (j : Nat) : (dTL_20 j).all (dck j) = true := by
  unfold dTL_20
  split
  · exact dT320_ok
  · exact dT321_ok
  · exact dT322_ok
  · exact dT323_ok
  · exact dT324_ok
  · exact dT325_ok
  · exact dT326_ok
  · exact dT327_ok
  · exact dT328_ok
  · exact dT329_ok
  · exact dT330_ok
  · exact dT331_ok
  · exact dT332_ok
  · exact dT333_ok
  · exact dT334_ok
  · exact dT335_ok
  · rfl
def dTL_21 (j : Nat) : List (Nat × Instr × Nat) := match j with
  | 336 => dT336
  | 337 => dT337
  | 338 => dT338
  | 339 => dT339
  | 340 => dT340
  | 341 => dT341
  | 342 => dT342
  | 343 => dT343
  | 344 => dT344
  | 345 => dT345
  | 346 => dT346
  | 347 => dT347
  | 348 => dT348
  | 349 => dT349
  | 350 => dT350
  | 351 => dT351
  | _ => []
theorem dTL_21_ok (j : Nat) : (dTL_21 j).all (dck j) = true := by
  unfold dTL_21
  split
  · exact dT336_ok
  · exact dT337_ok
  · exact dT338_ok
  · exact dT339_ok
  · exact dT340_ok
  · exact dT341_ok
  · exact dT342_ok
  · exact dT343_ok
  · exact dT344_ok
  · exact dT345_ok
  · exact dT346_ok
  · exact dT347_ok
  · exact dT348_ok
  · exact dT349_ok
  · exact dT350_ok
  · exact dT351_ok
  · rfl
def dTL_22 (j : Nat) : List (Nat × Instr × Nat) := match j with
  | 352 => dT352
  | 353 => dT353
  | 354 => dT354
  | 355 => dT355
  | 356 => dT356
  | 357 => dT357
  | 358 => dT358
  | 359 => dT359
  | 360 => dT360
  | 361 => dT361
  | 362 => dT362
  | 363 => dT363
  | 364 => dT364
  | 365 => dT365
  | 366 => dT366
  | 367 => dT367
  | _ => []
theorem dTL_22_ok (j : Nat) : (dTL_22 j).all (dck j) = true := by
  unfold dTL_22
  split
  · exact dT352_ok
  · exact dT353_ok
  · exact dT354_ok
  · exact dT355_ok
  · exact dT356_ok
  · exact dT357_ok
  · exact dT358_ok
  · exact dT359_ok
  · exact dT360_ok
  · exact dT361_ok
  · exact dT362_ok
  · exact dT363_ok
  · exact dT364_ok
  · exact dT365_ok
  · exact dT366_ok
  · exact dT367_ok
  · rfl
def dTL_23 (j : Nat) : List (Nat × Instr × Nat) := match j with
  | 368 => dT368
  | 369 => dT369
  | 370 => dT370
  | 371 => dT371
  | 372 => dT372
  | 373 => dT373
  | 374 => dT374
  | 375 => dT375
  | 376 => dT376
  | 377 => dT377
  | 378 => dT378
  | 379 => dT379
  | 380 => dT380
  | 381 => dT381
  | 382 => dT382
  | 383 => dT383
  | _ => []
theorem dTL_23_ok (j : Nat) : (dTL_23 j).all (dck j) = true := by
  unfold dTL_23
  split
  · exact dT368_ok
  · exact dT369_ok
  · exact dT370_ok
  · exact dT371_ok
  · exact dT372_ok
  · exact dT373_ok
  · exact dT374_ok
  · exact dT375_ok
  · exact dT376_ok
  · exact dT377_ok
  · exact dT378_ok
  · exact dT379_ok
  · exact dT380_ok
  · exact dT381_ok
  · exact dT382_ok
  · exact dT383_ok
  · rfl
def dTL_24 (j : Nat) : List (Nat × Instr × Nat) := match j with
  | 384 => dT384
  | 385 => dT385
  | 386 => dT386
  | 387 => dT387
  | 388 => dT388
  | 389 => dT389
  | 390 => dT390
  | 391 => dT391
  | 392 => dT392
  | 393 => dT393
  | 394 => dT394
  | 395 => dT395
  | 396 => dT396
  | 397 => dT397
  | 398 => dT398
  | 399 => dT399
  | _ => []
theorem dTL_24_ok (j : Nat) : (dTL_24 j).all (dck j) = true := by
  unfold dTL_24
  split
  · exact dT384_ok
  · exact dT385_ok
  · exact dT386_ok
  · exact dT387_ok
  · exact dT388_ok
  · exact dT389_ok
  · exact dT390_ok
  · exact dT391_ok
  · exact dT392_ok
  · exact dT393_ok
  · exact dT394_ok
  · exact dT395_ok
  · exact dT396_ok
  · exact dT397_ok
  · exact dT398_ok
  · exact dT399_ok
  · rfl
def dTL_25 (j : Nat) : List (Nat × Instr × Nat) := match j with
  | 400 => dT400
  | 401 => dT401
  | 402 => dT402
  | 403 => dT403
  | 404 => dT404
  | 405 => dT405
  | 406 => dT406
  | 407 => dT407
  | 408 => dT408
  | 409 => dT409
  | 410 => dT410
  | 411 => dT411
  | 412 => dT412
  | 413 => dT413
  | 414 => dT414
  | 415 => dT415
  | _ => []
theorem dTL_25_ok (j : Nat) : (dTL_25 j).all (dck j) = true := by
  unfold dTL_25
  split
  · exact dT400_ok
  · exact dT401_ok
  · exact dT402_ok
  · exact dT403_ok
  · exact dT404_ok
  · exact dT405_ok
  · exact dT406_ok
  · exact dT407_ok
  · exact dT408_ok
  · exact dT409_ok
  · exact dT410_ok
  · exact dT411_ok
  · exact dT412_ok
  · exact dT413_ok
  · exact dT414_ok
  · exact dT415_ok
  · rfl
def dTL_26 (j : Nat) : List (Nat × Instr × Nat) := match j with
  | 416 => dT416
  | 417 => dT417
  | 418 => dT418
  | 419 => dT419
  | 420 => dT420
  | 421 => dT421
  | 422 => dT422
  | 423 => dT423
  | 424 => dT424
  | 425 => dT425
  | 426 => dT426
  | 427 => dT427
  | 428 => dT428
  | 429 => dT429
  | 430 => dT430
  | 431 => dT431
  | _ => []
theorem dTL_26_ok (j : Nat) : (dTL_26 j).all (dck j) = true := by
  unfold dTL_26
  split
  · exact dT416_ok
  · exact dT417_ok
  · exact dT418_ok
  · exact dT419_ok
  · exact dT420_ok
  · exact dT421_ok
  · exact dT422_ok
  · exact dT423_ok
  · exact dT424_ok
  · exact dT425_ok
  · exact dT426_ok
  · exact dT427_ok
  · exact dT428_ok
  · exact dT429_ok
  · exact dT430_ok
  · exact dT431_ok
  · rfl
def dTL_27 (j : Nat) : List (Nat × Instr × Nat) := match j with
  | 432 => dT432
  | 433 => dT433
  | 434 => dT434
  | 435 => dT435
  | 436 => dT436
  | 437 => dT437
  | 438 => dT438
  | 439 => dT439
  | 440 => dT440
  | 441 => dT441
  | 442 => dT442
  | 443 => dT443
  | 444 => dT444
  | 445 => dT445
  | 446 => dT446
  | 447 => dT447
  | _ => []
theorem dTL_27_ok (j : Nat) : (dTL_27 j).all (dck j) = true := by
  unfold dTL_27
  split
  · exact dT432_ok
  · exact dT433_ok
  · exact dT434_ok
  · exact dT435_ok
  · exact dT436_ok
  · exact dT437_ok
  · exact dT438_ok
  · exact dT439_ok
  · exact dT440_ok
  · exact dT441_ok
  · exact dT442_ok
  · exact dT443_ok
  · exact dT444_ok
  · exact dT445_ok
  · exact dT446_ok
  · exact dT447_ok
  · rfl
def dTL_28 (j : Nat) : List (Nat × Instr × Nat) := match j with
  | 448 => dT448
  | 449 => dT449
  | 450 => dT450
  | 451 => dT451
  | 452 => dT452
  | 453 => dT453
  | 454 => dT454
  | 455 => dT455
  | 456 => dT456
  | 457 => dT457
  | 458 => dT458
  | 459 => dT459
  | 460 => dT460
  | 461 => dT461
  | 462 => dT462
  | 463 => dT463
  | _ => []
theorem dTL_28_ok (j : Nat) : (dTL_28 j).all (dck j) = true := by
  unfold dTL_28
  split
  · exact dT448_ok
  · exact dT449_ok
  · exact dT450_ok
  · exact dT451_ok
  · exact dT452_ok
  · exact dT453_ok
  · exact dT454_ok
  · exact dT455_ok
  · exact dT456_ok
  · exact dT457_ok
  · exact dT458_ok
  · exact dT459_ok
  · exact dT460_ok
  · exact dT461_ok
  · exact dT462_ok
  · exact dT463_ok
  · rfl
def dTL_29 (j : Nat) : List (Nat × Instr × Nat) := match j with
  | 464 => dT464
  | _ => []
theorem dTL_29_ok (j : Nat) : (dTL_29 j).all (dck j) = true := by
  unfold dTL_29
  split
  · exact dT464_ok
  · rfl
def dTL (j : Nat) : List (Nat × Instr × Nat) := match j / 16 with
  | 0 => dTL_0 j
  | 1 => dTL_1 j
  | 2 => dTL_2 j
  | 3 => dTL_3 j
  | 4 => dTL_4 j
  | 5 => dTL_5 j
  | 6 => dTL_6 j
  | 10 => dTL_10 j
  | 11 => dTL_11 j
  | 12 => dTL_12 j
  | 15 => dTL_15 j
  | 16 => dTL_16 j
  | 18 => dTL_18 j
  | 19 => dTL_19 j
  | 20 => dTL_20 j
  | 21 => dTL_21 j
  | 22 => dTL_22 j
  | 23 => dTL_23 j
  | 24 => dTL_24 j
  | 25 => dTL_25 j
  | 26 => dTL_26 j
  | 27 => dTL_27 j
  | 28 => dTL_28 j
  | 29 => dTL_29 j
  | _ => []
def xDT (j pc : Nat) : Option (Instr × Nat) := xlk (dTL j) pc
theorem dTL_ok (j : Nat) : (dTL j).all (dck j) = true := by
  unfold dTL
  split
  · exact dTL_0_ok j
  · exact dTL_1_ok j
  · exact dTL_2_ok j
  · exact dTL_3_ok j
  · exact dTL_4_ok j
  · exact dTL_5_ok j
  · exact dTL_6_ok j
  · exact dTL_10_ok j
  · exact dTL_11_ok j
  · exact dTL_12_ok j
  · exact dTL_15_ok j
  · exact dTL_16_ok j
  · exact dTL_18_ok j
  · exact dTL_19_ok j
  · exact dTL_20_ok j
  · exact dTL_21_ok j
  · exact dTL_22_ok j
  · exact dTL_23_ok j
  · exact dTL_24_ok j
  · exact dTL_25_ok j
  · exact dTL_26_ok j
  · exact dTL_27_ok j
  · exact dTL_28_ok j
  · exact dTL_29_ok j
  · rfl
theorem xDT_ok : ∀ j M pc v, zM xZ j = some M → xDT j pc = some v → decode (xb M) pc = .ok v := by
  intro j M pc v hj h
  have h1 := List.all_eq_true.mp (dTL_ok j) _ (xlk_mem h)
  unfold dck at h1
  have hj' : xMf j = some M := hj
  rw [hj'] at h1
  dsimp only at h1
  split at h1
  · rename_i w hw
    rw [hw, of_decide_eq_true h1]
  · cases h1
def xgf (b : Bool) (f d j : Nat) (hp : List x_E) (avs : List Value) : Option (Option Value × List x_E) := frun xZ (xY (xfm b)) xDT f d j 0 (lv_args 0 avs) [] hp 0 0
/-- a call on each of the two: their answers are alike -/
def xbt (b : Bool) (jx jm : Nat) (ax am : List Value) : Bool := match xgf b 3000 20 jx (xh2 b) ax with
  | some (some (.int r), hp) => (match xgf b 3000 20 jm hp am with
    | some (some (.int q), _) => decide (r = q)
    | _ => false)
  | _ => false
