theorem mq_315 : ∃ y cb, zM xZ 315 = some (y, cb, 6, some .boolean, 12, 5, 0, 0) := ⟨_, _, rfl⟩
theorem mq_316 : ∃ y cb, zM xZ 316 = some (y, cb, 3, none, 12, 1, 0, 0) := ⟨_, _, rfl⟩
theorem mq_317 : ∃ y cb, zM xZ 317 = some (y, cb, 2, some .int, 12, 1, 0, 0) := ⟨_, _, rfl⟩
theorem mq_318 : ∃ y cb, zM xZ 318 = some (y, cb, 4, none, 12, 2, 0, 0) := ⟨_, _, rfl⟩
theorem mq_319 : ∃ y cb, zM xZ 319 = some (y, cb, 1, none, 12, 0, 0, 0) := ⟨_, _, rfl⟩
theorem mq_320 : ∃ y cb, zM xZ 320 = some (y, cb, 1, none, 12, 0, 0, 0) := ⟨_, _, rfl⟩
theorem mq_321 : ∃ y cb, zM xZ 321 = some (y, cb, 1, none, 12, 0, 0, 0) := ⟨_, _, rfl⟩
theorem mq_322 : ∃ y cb, zM xZ 322 = some (y, cb, 2, none, 12, 0, 0, 0) := ⟨_, _, rfl⟩
theorem mq_323 : ∃ y cb, zM xZ 323 = some (y, cb, 3, none, 12, 2, 0, 0) := ⟨_, _, rfl⟩
theorem mq_324 : ∃ y cb, zM xZ 324 = some (y, cb, 5, some .int, 12, 1, 0, 0) := ⟨_, _, rfl⟩
theorem mq_325 : ∃ y cb, zM xZ 325 = some (y, cb, 2, some .int, 12, 1, 0, 0) := ⟨_, _, rfl⟩
theorem mq_326 : ∃ y cb, zM xZ 326 = some (y, cb, 1, some .boolean, 12, 1, 0, 0) := ⟨_, _, rfl⟩
theorem mq_327 : ∃ y cb, zM xZ 327 = some (y, cb, 2, none, 12, 0, 0, 0) := ⟨_, _, rfl⟩
theorem mq_328 : ∃ y cb, zM xZ 328 = some (y, cb, 1, some .boolean, 12, 1, 0, 0) := ⟨_, _, rfl⟩
theorem mq_329 : ∃ y cb, zM xZ 329 = some (y, cb, 8, some .int, 12, 1, 0, 0) := ⟨_, _, rfl⟩
theorem mq_330 : ∃ y cb, zM xZ 330 = some (y, cb, 2, none, 12, 0, 0, 0) := ⟨_, _, rfl⟩
theorem mq_331 : ∃ y cb, zM xZ 331 = some (y, cb, 4, none, 12, 0, 0, 0) := ⟨_, _, rfl⟩
theorem mq_332 : ∃ y cb, zM xZ 332 = some (y, cb, 4, none, 12, 1, 0, 0) := ⟨_, _, rfl⟩
theorem mq_333 : ∃ y cb, zM xZ 333 = some (y, cb, 1, some .int, 12, 0, 0, 0) := ⟨_, _, rfl⟩
theorem mq_334 : ∃ y cb, zM xZ 334 = some (y, cb, 2, none, 12, 1, 0, 0) := ⟨_, _, rfl⟩
theorem mq_335 : ∃ y cb, zM xZ 335 = some (y, cb, 2, some .int, 12, 1, 0, 0) := ⟨_, _, rfl⟩
theorem mq_336 : ∃ y cb, zM xZ 336 = some (y, cb, 1, some .int, 12, 0, 0, 0) := ⟨_, _, rfl⟩
theorem mq_337 : ∃ y cb, zM xZ 337 = some (y, cb, 1, some .boolean, 12, 0, 0, 0) := ⟨_, _, rfl⟩
theorem mq_338 : ∃ y cb, zM xZ 338 = some (y, cb, 2, some .boolean, 12, 1, 0, 0) := ⟨_, _, rfl⟩
theorem mq_339 : ∃ y cb, zM xZ 339 = some (y, cb, 8, some .int, 12, 0, 0, 0) := ⟨_, _, rfl⟩
theorem mq_340 : ∃ y cb, zM xZ 340 = some (y, cb, 1, none, 12, 0, 0, 0) := ⟨_, _, rfl⟩
theorem mq_341 : ∃ y cb, zM xZ 341 = some (y, cb, 1, none, 12, 0, 0, 0) := ⟨_, _, rfl⟩
theorem mq_342 : ∃ y cb, zM xZ 342 = some (y, cb, 1, none, 12, 0, 0, 0) := ⟨_, _, rfl⟩
theorem mq_343 : ∃ y cb, zM xZ 343 = some (y, cb, 2, none, 12, 1, 0, 0) := ⟨_, _, rfl⟩
theorem mq_344 : ∃ y cb, zM xZ 344 = some (y, cb, 2, some .boolean, 12, 1, 0, 0) := ⟨_, _, rfl⟩
theorem mq_345 : ∃ y cb, zM xZ 345 = some (y, cb, 2, some .int, 12, 0, 0, 0) := ⟨_, _, rfl⟩
theorem mq_346 : ∃ y cb, zM xZ 346 = some (y, cb, 3, none, 12, 0, 0, 0) := ⟨_, _, rfl⟩
theorem mq_347 : ∃ y cb, zM xZ 347 = some (y, cb, 4, none, 12, 0, 0, 0) := ⟨_, _, rfl⟩
theorem mq_348 : ∃ y cb, zM xZ 348 = some (y, cb, 3, none, 12, 0, 0, 0) := ⟨_, _, rfl⟩
theorem mq_349 : ∃ y cb, zM xZ 349 = some (y, cb, 3, none, 12, 2, 0, 0) := ⟨_, _, rfl⟩
theorem mq_350 : ∃ y cb, zM xZ 350 = some (y, cb, 5, none, 12, 3, 0, 0) := ⟨_, _, rfl⟩
theorem mq_351 : ∃ y cb, zM xZ 351 = some (y, cb, 1, none, 12, 0, 0, 0) := ⟨_, _, rfl⟩
theorem mq_352 : ∃ y cb, zM xZ 352 = some (y, cb, 2, some .boolean, 12, 1, 0, 0) := ⟨_, _, rfl⟩
theorem mq_353 : ∃ y cb, zM xZ 353 = some (y, cb, 2, none, 12, 1, 0, 0) := ⟨_, _, rfl⟩
theorem mq_354 : ∃ y cb, zM xZ 354 = some (y, cb, 4, some .int, 12, 1, 0, 0) := ⟨_, _, rfl⟩
theorem mq_355 : ∃ y cb, zM xZ 355 = some (y, cb, 3, some .int, 12, 2, 0, 0) := ⟨_, _, rfl⟩
theorem mq_356 : ∃ y cb, zM xZ 356 = some (y, cb, 5, none, 12, 3, 0, 0) := ⟨_, _, rfl⟩
theorem mq_357 : ∃ y cb, zM xZ 357 = some (y, cb, 8, none, 12, 1, 0, 0) := ⟨_, _, rfl⟩
theorem mq_358 : ∃ y cb, zM xZ 358 = some (y, cb, 6, none, 12, 2, 0, 0) := ⟨_, _, rfl⟩
theorem mq_359 : ∃ y cb, zM xZ 359 = some (y, cb, 2, some .int, 12, 1, 0, 0) := ⟨_, _, rfl⟩
theorem mq_360 : ∃ y cb, zM xZ 360 = some (y, cb, 6, none, 12, 2, 0, 0) := ⟨_, _, rfl⟩
theorem mq_361 : ∃ y cb, zM xZ 361 = some (y, cb, 9, none, 12, 3, 0, 0) := ⟨_, _, rfl⟩
theorem mq_362 : ∃ y cb, zM xZ 362 = some (y, cb, 4, some .int, 12, 3, 0, 0) := ⟨_, _, rfl⟩
theorem mq_363 : ∃ y cb, zM xZ 363 = some (y, cb, 4, some .int, 12, 2, 0, 0) := ⟨_, _, rfl⟩
theorem mq_364 : ∃ y cb, zM xZ 364 = some (y, cb, 3, none, 12, 1, 0, 0) := ⟨_, _, rfl⟩
theorem mq_365 : ∃ y cb, zM xZ 365 = some (y, cb, 14, some .int, 12, 0, 0, 0) := ⟨_, _, rfl⟩
theorem mq_366 : ∃ y cb, zM xZ 366 = some (y, cb, 2, none, 12, 1, 0, 0) := ⟨_, _, rfl⟩
theorem mq_367 : ∃ y cb, zM xZ 367 = some (y, cb, 4, some .boolean, 12, 2, 0, 0) := ⟨_, _, rfl⟩
theorem mq_368 : ∃ y cb, zM xZ 368 = some (y, cb, 5, some .int, 12, 0, 0, 0) := ⟨_, _, rfl⟩
theorem mq_369 : ∃ y cb, zM xZ 369 = some (y, cb, 7, some .int, 12, 2, 0, 0) := ⟨_, _, rfl⟩
theorem mq_370 : ∃ y cb, zM xZ 370 = some (y, cb, 5, some .int, 12, 1, 0, 0) := ⟨_, _, rfl⟩
theorem mq_371 : ∃ y cb, zM xZ 371 = some (y, cb, 6, some .int, 12, 0, 0, 0) := ⟨_, _, rfl⟩
theorem mq_372 : ∃ y cb, zM xZ 372 = some (y, cb, 2, none, 12, 1, 0, 0) := ⟨_, _, rfl⟩
theorem mq_373 : ∃ y cb, zM xZ 373 = some (y, cb, 6, some .int, 12, 0, 0, 0) := ⟨_, _, rfl⟩
theorem mq_374 : ∃ y cb, zM xZ 374 = some (y, cb, 5, some .int, 12, 0, 0, 0) := ⟨_, _, rfl⟩
theorem mq_375 : ∃ y cb, zM xZ 375 = some (y, cb, 4, some .int, 12, 0, 0, 0) := ⟨_, _, rfl⟩
theorem mq_376 : ∃ y cb, zM xZ 376 = some (y, cb, 3, some .int, 12, 0, 0, 0) := ⟨_, _, rfl⟩
theorem mq_377 : ∃ y cb, zM xZ 377 = some (y, cb, 2, some .int, 12, 0, 0, 0) := ⟨_, _, rfl⟩
theorem mq_378 : ∃ y cb, zM xZ 378 = some (y, cb, 3, some .int, 12, 2, 0, 0) := ⟨_, _, rfl⟩
theorem mq_379 : ∃ y cb, zM xZ 379 = some (y, cb, 9, some .int, 12, 0, 0, 0) := ⟨_, _, rfl⟩
theorem mq_380 : ∃ y cb, zM xZ 380 = some (y, cb, 1, some .boolean, 12, 0, 0, 0) := ⟨_, _, rfl⟩
theorem mq_381 : ∃ y cb, zM xZ 381 = some (y, cb, 7, some .int, 12, 0, 0, 0) := ⟨_, _, rfl⟩
theorem mq_382 : ∃ y cb, zM xZ 382 = some (y, cb, 2, some .int, 12, 1, 0, 0) := ⟨_, _, rfl⟩
theorem mq_383 : ∃ y cb, zM xZ 383 = some (y, cb, 5, some .int, 12, 2, 0, 0) := ⟨_, _, rfl⟩
theorem mq_384 : ∃ y cb, zM xZ 384 = some (y, cb, 8, some .int, 12, 0, 0, 0) := ⟨_, _, rfl⟩
theorem mq_385 : ∃ y cb, zM xZ 385 = some (y, cb, 3, some .boolean, 12, 2, 0, 0) := ⟨_, _, rfl⟩
theorem mq_386 : ∃ y cb, zM xZ 386 = some (y, cb, 2, some .boolean, 12, 1, 0, 0) := ⟨_, _, rfl⟩
theorem mq_387 : ∃ y cb, zM xZ 387 = some (y, cb, 5, some .int, 12, 2, 0, 0) := ⟨_, _, rfl⟩
theorem mq_388 : ∃ y cb, zM xZ 388 = some (y, cb, 10, some .int, 12, 3, 0, 0) := ⟨_, _, rfl⟩
theorem mq_389 : ∃ y cb, zM xZ 389 = some (y, cb, 8, some .int, 12, 2, 0, 0) := ⟨_, _, rfl⟩
theorem mq_390 : ∃ y cb, zM xZ 390 = some (y, cb, 1, some .int, 12, 0, 0, 0) := ⟨_, _, rfl⟩
theorem mq_391 : ∃ y cb, zM xZ 391 = some (y, cb, 2, some .int, 12, 1, 0, 0) := ⟨_, _, rfl⟩
theorem mq_392 : ∃ y cb, zM xZ 392 = some (y, cb, 3, none, 12, 1, 0, 0) := ⟨_, _, rfl⟩
theorem mq_393 : ∃ y cb, zM xZ 393 = some (y, cb, 4, none, 12, 3, 0, 0) := ⟨_, _, rfl⟩
theorem mq_394 : ∃ y cb, zM xZ 394 = some (y, cb, 2, none, 12, 1, 0, 0) := ⟨_, _, rfl⟩
theorem mq_395 : ∃ y cb, zM xZ 395 = some (y, cb, 6, none, 12, 3, 0, 0) := ⟨_, _, rfl⟩
theorem mq_396 : ∃ y cb, zM xZ 396 = some (y, cb, 3, none, 12, 1, 0, 0) := ⟨_, _, rfl⟩
theorem mq_397 : ∃ y cb, zM xZ 397 = some (y, cb, 6, none, 12, 3, 0, 0) := ⟨_, _, rfl⟩
theorem mq_398 : ∃ y cb, zM xZ 398 = some (y, cb, 2, some .int, 12, 1, 0, 0) := ⟨_, _, rfl⟩
theorem mq_399 : ∃ y cb, zM xZ 399 = some (y, cb, 5, some .int, 12, 4, 0, 0) := ⟨_, _, rfl⟩
theorem mq_400 : ∃ y cb, zM xZ 400 = some (y, cb, 2, none, 12, 0, 0, 0) := ⟨_, _, rfl⟩
theorem mq_401 : ∃ y cb, zM xZ 401 = some (y, cb, 10, none, 12, 0, 0, 0) := ⟨_, _, rfl⟩
theorem mq_402 : ∃ y cb, zM xZ 402 = some (y, cb, 6, some .int, 12, 3, 0, 0) := ⟨_, _, rfl⟩
theorem mq_403 : ∃ y cb, zM xZ 403 = some (y, cb, 6, some .int, 12, 0, 0, 0) := ⟨_, _, rfl⟩
theorem mq_404 : ∃ y cb, zM xZ 404 = some (y, cb, 5, none, 12, 3, 0, 0) := ⟨_, _, rfl⟩
theorem mq_405 : ∃ y cb, zM xZ 405 = some (y, cb, 13, some .int, 12, 2, 0, 0) := ⟨_, _, rfl⟩
theorem mq_406 : ∃ y cb, zM xZ 406 = some (y, cb, 5, some .int, 12, 0, 0, 0) := ⟨_, _, rfl⟩
theorem mq_407 : ∃ y cb, zM xZ 407 = some (y, cb, 2, some .int, 12, 0, 0, 0) := ⟨_, _, rfl⟩
theorem mq_408 : ∃ y cb, zM xZ 408 = some (y, cb, 7, some .int, 12, 0, 0, 0) := ⟨_, _, rfl⟩
theorem mq_409 : ∃ y cb, zM xZ 409 = some (y, cb, 1, some .boolean, 12, 0, 0, 0) := ⟨_, _, rfl⟩
theorem mq_410 : ∃ y cb, zM xZ 410 = some (y, cb, 6, none, 12, 4, 0, 0) := ⟨_, _, rfl⟩
theorem mq_411 : ∃ y cb, zM xZ 411 = some (y, cb, 4, none, 12, 1, 0, 0) := ⟨_, _, rfl⟩
theorem mq_412 : ∃ y cb, zM xZ 412 = some (y, cb, 4, none, 12, 0, 0, 0) := ⟨_, _, rfl⟩
theorem mq_413 : ∃ y cb, zM xZ 413 = some (y, cb, 5, none, 12, 4, 0, 0) := ⟨_, _, rfl⟩
theorem mq_414 : ∃ y cb, zM xZ 414 = some (y, cb, 4, some .int, 12, 0, 0, 0) := ⟨_, _, rfl⟩
theorem mq_415 : ∃ y cb, zM xZ 415 = some (y, cb, 4, some .int, 12, 0, 0, 0) := ⟨_, _, rfl⟩
theorem mq_416 : ∃ y cb, zM xZ 416 = some (y, cb, 3, some .int, 12, 2, 0, 0) := ⟨_, _, rfl⟩
theorem mq_417 : ∃ y cb, zM xZ 417 = some (y, cb, 9, some .int, 12, 0, 0, 0) := ⟨_, _, rfl⟩
theorem mq_418 : ∃ y cb, zM xZ 418 = some (y, cb, 9, some .int, 12, 3, 0, 0) := ⟨_, _, rfl⟩
theorem mq_419 : ∃ y cb, zM xZ 419 = some (y, cb, 4, some .int, 12, 1, 0, 0) := ⟨_, _, rfl⟩
theorem mq_420 : ∃ y cb, zM xZ 420 = some (y, cb, 9, some .boolean, 12, 2, 0, 0) := ⟨_, _, rfl⟩
theorem mq_421 : ∃ y cb, zM xZ 421 = some (y, cb, 5, some .boolean, 12, 3, 0, 0) := ⟨_, _, rfl⟩
theorem mq_422 : ∃ y cb, zM xZ 422 = some (y, cb, 6, some .int, 12, 2, 0, 0) := ⟨_, _, rfl⟩
theorem mq_423 : ∃ y cb, zM xZ 423 = some (y, cb, 6, none, 12, 2, 0, 0) := ⟨_, _, rfl⟩
theorem mq_424 : ∃ y cb, zM xZ 424 = some (y, cb, 4, some .boolean, 12, 2, 0, 0) := ⟨_, _, rfl⟩
theorem mq_425 : ∃ y cb, zM xZ 425 = some (y, cb, 11, none, 12, 0, 0, 0) := ⟨_, _, rfl⟩
theorem mq_426 : ∃ y cb, zM xZ 426 = some (y, cb, 2, some .int, 12, 0, 0, 0) := ⟨_, _, rfl⟩
theorem mq_427 : ∃ y cb, zM xZ 427 = some (y, cb, 10, none, 12, 1, 0, 0) := ⟨_, _, rfl⟩
theorem mq_428 : ∃ y cb, zM xZ 428 = some (y, cb, 10, none, 12, 2, 0, 0) := ⟨_, _, rfl⟩
theorem mq_429 : ∃ y cb, zM xZ 429 = some (y, cb, 2, some .int, 12, 0, 0, 0) := ⟨_, _, rfl⟩
theorem mq_430 : ∃ y cb, zM xZ 430 = some (y, cb, 7, none, 12, 1, 0, 0) := ⟨_, _, rfl⟩
theorem mq_431 : ∃ y cb, zM xZ 431 = some (y, cb, 3, some .boolean, 12, 2, 0, 0) := ⟨_, _, rfl⟩
theorem mq_432 : ∃ y cb, zM xZ 432 = some (y, cb, 4, none, 12, 0, 0, 0) := ⟨_, _, rfl⟩
theorem mq_433 : ∃ y cb, zM xZ 433 = some (y, cb, 2, none, 12, 1, 0, 0) := ⟨_, _, rfl⟩
theorem mq_434 : ∃ y cb, zM xZ 434 = some (y, cb, 2, none, 12, 1, 0, 0) := ⟨_, _, rfl⟩
theorem mq_435 : ∃ y cb, zM xZ 435 = some (y, cb, 2, none, 12, 1, 0, 0) := ⟨_, _, rfl⟩
theorem mq_436 : ∃ y cb, zM xZ 436 = some (y, cb, 3, none, 12, 1, 0, 0) := ⟨_, _, rfl⟩
theorem mq_437 : ∃ y cb, zM xZ 437 = some (y, cb, 2, none, 12, 1, 0, 0) := ⟨_, _, rfl⟩
theorem mq_438 : ∃ y cb, zM xZ 438 = some (y, cb, 2, none, 12, 1, 0, 0) := ⟨_, _, rfl⟩
theorem mq_439 : ∃ y cb, zM xZ 439 = some (y, cb, 3, none, 12, 1, 0, 0) := ⟨_, _, rfl⟩
theorem mq_440 : ∃ y cb, zM xZ 440 = some (y, cb, 3, none, 12, 2, 0, 0) := ⟨_, _, rfl⟩
theorem mq_441 : ∃ y cb, zM xZ 441 = some (y, cb, 2, none, 12, 1, 0, 0) := ⟨_, _, rfl⟩
theorem mq_442 : ∃ y cb, zM xZ 442 = some (y, cb, 2, none, 12, 1, 0, 0) := ⟨_, _, rfl⟩
theorem mq_443 : ∃ y cb, zM xZ 443 = some (y, cb, 2, some .int, 12, 1, 0, 0) := ⟨_, _, rfl⟩
theorem mq_444 : ∃ y cb, zM xZ 444 = some (y, cb, 2, some .int, 12, 1, 0, 0) := ⟨_, _, rfl⟩
theorem mq_445 : ∃ y cb, zM xZ 445 = some (y, cb, 3, some .int, 12, 2, 0, 0) := ⟨_, _, rfl⟩
theorem mq_446 : ∃ y cb, zM xZ 446 = some (y, cb, 4, some .int, 12, 1, 0, 0) := ⟨_, _, rfl⟩
theorem mq_447 : ∃ y cb, zM xZ 447 = some (y, cb, 4, some .boolean, 12, 1, 0, 0) := ⟨_, _, rfl⟩
theorem mq_448 : ∃ y cb, zM xZ 448 = some (y, cb, 3, some .boolean, 12, 2, 0, 0) := ⟨_, _, rfl⟩
theorem mq_449 : ∃ y cb, zM xZ 449 = some (y, cb, 2, some .boolean, 12, 1, 0, 0) := ⟨_, _, rfl⟩
theorem mq_450 : ∃ y cb, zM xZ 450 = some (y, cb, 2, none, 12, 1, 0, 0) := ⟨_, _, rfl⟩
theorem mq_451 : ∃ y cb, zM xZ 451 = some (y, cb, 2, none, 12, 1, 0, 0) := ⟨_, _, rfl⟩
theorem mq_452 : ∃ y cb, zM xZ 452 = some (y, cb, 4, some .boolean, 12, 1, 0, 0) := ⟨_, _, rfl⟩
theorem mq_453 : ∃ y cb, zM xZ 453 = some (y, cb, 7, some .int, 12, 2, 0, 0) := ⟨_, _, rfl⟩
theorem mq_454 : ∃ y cb, zM xZ 454 = some (y, cb, 7, none, 12, 4, 0, 0) := ⟨_, _, rfl⟩
theorem mq_455 : ∃ y cb, zM xZ 455 = some (y, cb, 3, none, 12, 1, 0, 0) := ⟨_, _, rfl⟩
theorem mq_456 : ∃ y cb, zM xZ 456 = some (y, cb, 2, some .int, 12, 1, 0, 0) := ⟨_, _, rfl⟩
theorem mq_457 : ∃ y cb, zM xZ 457 = some (y, cb, 6, some .int, 12, 1, 0, 0) := ⟨_, _, rfl⟩
theorem mq_458 : ∃ y cb, zM xZ 458 = some (y, cb, 2, some .int, 12, 1, 0, 0) := ⟨_, _, rfl⟩
theorem mq_459 : ∃ y cb, zM xZ 459 = some (y, cb, 3, some .int, 12, 1, 0, 0) := ⟨_, _, rfl⟩
theorem mq_460 : ∃ y cb, zM xZ 460 = some (y, cb, 1, some .int, 12, 0, 0, 0) := ⟨_, _, rfl⟩
theorem mq_461 : ∃ y cb, zM xZ 461 = some (y, cb, 1, some .int, 12, 0, 0, 0) := ⟨_, _, rfl⟩
theorem mq_462 : ∃ y cb, zM xZ 462 = some (y, cb, 2, some .int, 12, 1, 0, 0) := ⟨_, _, rfl⟩
theorem mq_463 : ∃ y cb, zM xZ 463 = some (y, cb, 2, some .int, 12, 1, 0, 0) := ⟨_, _, rfl⟩
theorem mq_464 : ∃ y cb, zM xZ 464 = some (y, cb, 2, some .int, 12, 1, 0, 0) := ⟨_, _, rfl⟩
set_option maxRecDepth 100000 in
set_option maxHeartbeats 4000000 in
theorem pf_3 {ini : Bool} {v : Int32} {r : List Value} {e : Nat → x_E} {g : Nat → Int32} {q : Nat → Int64} {c : Nat → Nat → Int32} {l : Nat → Nat → Int64} : xPut xcl ini (xFf 12) 244 (rH e g q c l) (.int v :: .ref 49 :: r) = some (r, rH e (upd g 3 v) q c l) := by
  unfold xPut
  rw [show xFf 12 244 = some (12, 3) from rfl]
  dsimp only
  rw [show (rH e g q c l)[49]? = some (.inr (12, rF g q)) from rfl, show xcl[12]? = some ("TypedDescentModel", fun k => xT12.getD k ("", "", "", false), 144) from rfl]
  dsimp only
  rw [if_pos ⟨rfl, Nat.le_of_ble_eq_true rfl, rfl, rfl, Or.inl rfl⟩]
  rfl
set_option maxRecDepth 100000 in
set_option maxHeartbeats 4000000 in
theorem pf_4 {ini : Bool} {v : Int32} {r : List Value} {e : Nat → x_E} {g : Nat → Int32} {q : Nat → Int64} {c : Nat → Nat → Int32} {l : Nat → Nat → Int64} : xPut xcl ini (xFf 12) 16 (rH e g q c l) (.int v :: .ref 49 :: r) = some (r, rH e (upd g 4 v) q c l) := by
  unfold xPut
  rw [show xFf 12 16 = some (12, 4) from rfl]
  dsimp only
  rw [show (rH e g q c l)[49]? = some (.inr (12, rF g q)) from rfl, show xcl[12]? = some ("TypedDescentModel", fun k => xT12.getD k ("", "", "", false), 144) from rfl]
  dsimp only
  rw [if_pos ⟨rfl, Nat.le_of_ble_eq_true rfl, rfl, rfl, Or.inl rfl⟩]
  rfl
set_option maxRecDepth 100000 in
set_option maxHeartbeats 4000000 in
theorem pf_5 {ini : Bool} {v : Int32} {r : List Value} {e : Nat → x_E} {g : Nat → Int32} {q : Nat → Int64} {c : Nat → Nat → Int32} {l : Nat → Nat → Int64} : xPut xcl ini (xFf 12) 575 (rH e g q c l) (.int v :: .ref 49 :: r) = some (r, rH e (upd g 5 v) q c l) := by
  unfold xPut
  rw [show xFf 12 575 = some (12, 5) from rfl]
  dsimp only
  rw [show (rH e g q c l)[49]? = some (.inr (12, rF g q)) from rfl, show xcl[12]? = some ("TypedDescentModel", fun k => xT12.getD k ("", "", "", false), 144) from rfl]
  dsimp only
  rw [if_pos ⟨rfl, Nat.le_of_ble_eq_true rfl, rfl, rfl, Or.inl rfl⟩]
  rfl
set_option maxRecDepth 100000 in
set_option maxHeartbeats 4000000 in
theorem pf_9 {ini : Bool} {v : Int32} {r : List Value} {e : Nat → x_E} {g : Nat → Int32} {q : Nat → Int64} {c : Nat → Nat → Int32} {l : Nat → Nat → Int64} (hv : v = 0 ∨ v = 1) : xPut xcl ini (xFf 12) 299 (rH e g q c l) (.int v :: .ref 49 :: r) = some (r, rH e (upd g 9 v) q c l) := by
  rcases hv with rfl | rfl
  · unfold xPut
    rw [show xFf 12 299 = some (12, 9) from rfl]
    dsimp only
    rw [show (rH e g q c l)[49]? = some (.inr (12, rF g q)) from rfl, show xcl[12]? = some ("TypedDescentModel", fun k => xT12.getD k ("", "", "", false), 144) from rfl]
    dsimp only
    rw [if_pos ⟨rfl, Nat.le_of_ble_eq_true rfl, rfl, rfl, Or.inl rfl⟩]
    rfl
  · unfold xPut
    rw [show xFf 12 299 = some (12, 9) from rfl]
    dsimp only
    rw [show (rH e g q c l)[49]? = some (.inr (12, rF g q)) from rfl, show xcl[12]? = some ("TypedDescentModel", fun k => xT12.getD k ("", "", "", false), 144) from rfl]
    dsimp only
    rw [if_pos ⟨rfl, Nat.le_of_ble_eq_true rfl, rfl, rfl, Or.inl rfl⟩]
    rfl
set_option maxRecDepth 100000 in
set_option maxHeartbeats 4000000 in
theorem pf_10 {ini : Bool} {v : Int32} {r : List Value} {e : Nat → x_E} {g : Nat → Int32} {q : Nat → Int64} {c : Nat → Nat → Int32} {l : Nat → Nat → Int64} : xPut xcl ini (xFf 12) 273 (rH e g q c l) (.int v :: .ref 49 :: r) = some (r, rH e (upd g 10 v) q c l) := by
  unfold xPut
  rw [show xFf 12 273 = some (12, 10) from rfl]
  dsimp only
  rw [show (rH e g q c l)[49]? = some (.inr (12, rF g q)) from rfl, show xcl[12]? = some ("TypedDescentModel", fun k => xT12.getD k ("", "", "", false), 144) from rfl]
  dsimp only
  rw [if_pos ⟨rfl, Nat.le_of_ble_eq_true rfl, rfl, rfl, Or.inl rfl⟩]
  rfl
set_option maxRecDepth 100000 in
set_option maxHeartbeats 4000000 in
theorem pf_11 {ini : Bool} {v : Int32} {r : List Value} {e : Nat → x_E} {g : Nat → Int32} {q : Nat → Int64} {c : Nat → Nat → Int32} {l : Nat → Nat → Int64} : xPut xcl ini (xFf 12) 257 (rH e g q c l) (.int v :: .ref 49 :: r) = some (r, rH e (upd g 11 v) q c l) := by
  unfold xPut
  rw [show xFf 12 257 = some (12, 11) from rfl]
  dsimp only
  rw [show (rH e g q c l)[49]? = some (.inr (12, rF g q)) from rfl, show xcl[12]? = some ("TypedDescentModel", fun k => xT12.getD k ("", "", "", false), 144) from rfl]
  dsimp only
  rw [if_pos ⟨rfl, Nat.le_of_ble_eq_true rfl, rfl, rfl, Or.inl rfl⟩]
  rfl
set_option maxRecDepth 100000 in
set_option maxHeartbeats 4000000 in
theorem pf_12 {ini : Bool} {v : Int32} {r : List Value} {e : Nat → x_E} {g : Nat → Int32} {q : Nat → Int64} {c : Nat → Nat → Int32} {l : Nat → Nat → Int64} : xPut xcl ini (xFf 12) 264 (rH e g q c l) (.int v :: .ref 49 :: r) = some (r, rH e (upd g 12 v) q c l) := by
  unfold xPut
  rw [show xFf 12 264 = some (12, 12) from rfl]
  dsimp only
  rw [show (rH e g q c l)[49]? = some (.inr (12, rF g q)) from rfl, show xcl[12]? = some ("TypedDescentModel", fun k => xT12.getD k ("", "", "", false), 144) from rfl]
  dsimp only
  rw [if_pos ⟨rfl, Nat.le_of_ble_eq_true rfl, rfl, rfl, Or.inl rfl⟩]
  rfl
set_option maxRecDepth 100000 in
set_option maxHeartbeats 4000000 in
theorem pf_13 {ini : Bool} {v : Int32} {r : List Value} {e : Nat → x_E} {g : Nat → Int32} {q : Nat → Int64} {c : Nat → Nat → Int32} {l : Nat → Nat → Int64} : xPut xcl ini (xFf 12) 270 (rH e g q c l) (.int v :: .ref 49 :: r) = some (r, rH e (upd g 13 v) q c l) := by
  unfold xPut
  rw [show xFf 12 270 = some (12, 13) from rfl]
  dsimp only
  rw [show (rH e g q c l)[49]? = some (.inr (12, rF g q)) from rfl, show xcl[12]? = some ("TypedDescentModel", fun k => xT12.getD k ("", "", "", false), 144) from rfl]
  dsimp only
  rw [if_pos ⟨rfl, Nat.le_of_ble_eq_true rfl, rfl, rfl, Or.inl rfl⟩]
  rfl
set_option maxRecDepth 100000 in
set_option maxHeartbeats 4000000 in
theorem pf_14 {ini : Bool} {v : Int32} {r : List Value} {e : Nat → x_E} {g : Nat → Int32} {q : Nat → Int64} {c : Nat → Nat → Int32} {l : Nat → Nat → Int64} : xPut xcl ini (xFf 12) 316 (rH e g q c l) (.int v :: .ref 49 :: r) = some (r, rH e (upd g 14 v) q c l) := by
  unfold xPut
  rw [show xFf 12 316 = some (12, 14) from rfl]
  dsimp only
  rw [show (rH e g q c l)[49]? = some (.inr (12, rF g q)) from rfl, show xcl[12]? = some ("TypedDescentModel", fun k => xT12.getD k ("", "", "", false), 144) from rfl]
  dsimp only
  rw [if_pos ⟨rfl, Nat.le_of_ble_eq_true rfl, rfl, rfl, Or.inl rfl⟩]
  rfl
set_option maxRecDepth 100000 in
set_option maxHeartbeats 4000000 in
theorem pf_15 {ini : Bool} {v : Int64} {r : List Value} {e : Nat → x_E} {g : Nat → Int32} {q : Nat → Int64} {c : Nat → Nat → Int32} {l : Nat → Nat → Int64} : xPut xcl ini (xFf 12) 292 (rH e g q c l) (.long v :: .ref 49 :: r) = some (r, rH e g (updQ q 15 v) c l) := by
  unfold xPut
  rw [show xFf 12 292 = some (12, 15) from rfl]
  dsimp only
  rw [show (rH e g q c l)[49]? = some (.inr (12, rF g q)) from rfl, show xcl[12]? = some ("TypedDescentModel", fun k => xT12.getD k ("", "", "", false), 144) from rfl]
  dsimp only
  rw [if_pos ⟨rfl, Nat.le_of_ble_eq_true rfl, rfl, rfl, Or.inl rfl⟩]
  rfl
set_option maxRecDepth 100000 in
set_option maxHeartbeats 4000000 in
theorem pf_16 {ini : Bool} {v : Int32} {r : List Value} {e : Nat → x_E} {g : Nat → Int32} {q : Nat → Int64} {c : Nat → Nat → Int32} {l : Nat → Nat → Int64} : xPut xcl ini (xFf 12) 296 (rH e g q c l) (.int v :: .ref 49 :: r) = some (r, rH e (upd g 16 v) q c l) := by
  unfold xPut
  rw [show xFf 12 296 = some (12, 16) from rfl]
  dsimp only
  rw [show (rH e g q c l)[49]? = some (.inr (12, rF g q)) from rfl, show xcl[12]? = some ("TypedDescentModel", fun k => xT12.getD k ("", "", "", false), 144) from rfl]
  dsimp only
  rw [if_pos ⟨rfl, Nat.le_of_ble_eq_true rfl, rfl, rfl, Or.inl rfl⟩]
  rfl
set_option maxRecDepth 100000 in
set_option maxHeartbeats 4000000 in
theorem pf_17 {ini : Bool} {v : Int32} {r : List Value} {e : Nat → x_E} {g : Nat → Int32} {q : Nat → Int64} {c : Nat → Nat → Int32} {l : Nat → Nat → Int64} : xPut xcl ini (xFf 12) 251 (rH e g q c l) (.int v :: .ref 49 :: r) = some (r, rH e (upd g 17 v) q c l) := by
  unfold xPut
  rw [show xFf 12 251 = some (12, 17) from rfl]
  dsimp only
  rw [show (rH e g q c l)[49]? = some (.inr (12, rF g q)) from rfl, show xcl[12]? = some ("TypedDescentModel", fun k => xT12.getD k ("", "", "", false), 144) from rfl]
  dsimp only
  rw [if_pos ⟨rfl, Nat.le_of_ble_eq_true rfl, rfl, rfl, Or.inl rfl⟩]
  rfl
set_option maxRecDepth 100000 in
set_option maxHeartbeats 4000000 in
theorem pf_18 {ini : Bool} {v : Int32} {r : List Value} {e : Nat → x_E} {g : Nat → Int32} {q : Nat → Int64} {c : Nat → Nat → Int32} {l : Nat → Nat → Int64} : xPut xcl ini (xFf 12) 254 (rH e g q c l) (.int v :: .ref 49 :: r) = some (r, rH e (upd g 18 v) q c l) := by
  unfold xPut
  rw [show xFf 12 254 = some (12, 18) from rfl]
  dsimp only
  rw [show (rH e g q c l)[49]? = some (.inr (12, rF g q)) from rfl, show xcl[12]? = some ("TypedDescentModel", fun k => xT12.getD k ("", "", "", false), 144) from rfl]
  dsimp only
  rw [if_pos ⟨rfl, Nat.le_of_ble_eq_true rfl, rfl, rfl, Or.inl rfl⟩]
  rfl
set_option maxRecDepth 100000 in
set_option maxHeartbeats 4000000 in
theorem pf_19 {ini : Bool} {v : Int32} {r : List Value} {e : Nat → x_E} {g : Nat → Int32} {q : Nat → Int64} {c : Nat → Nat → Int32} {l : Nat → Nat → Int64} : xPut xcl ini (xFf 12) 319 (rH e g q c l) (.int v :: .ref 49 :: r) = some (r, rH e (upd g 19 v) q c l) := by
  unfold xPut
  rw [show xFf 12 319 = some (12, 19) from rfl]
  dsimp only
  rw [show (rH e g q c l)[49]? = some (.inr (12, rF g q)) from rfl, show xcl[12]? = some ("TypedDescentModel", fun k => xT12.getD k ("", "", "", false), 144) from rfl]
  dsimp only
  rw [if_pos ⟨rfl, Nat.le_of_ble_eq_true rfl, rfl, rfl, Or.inl rfl⟩]
  rfl
set_option maxRecDepth 100000 in
set_option maxHeartbeats 4000000 in
theorem pf_20 {ini : Bool} {v : Int32} {r : List Value} {e : Nat → x_E} {g : Nat → Int32} {q : Nat → Int64} {c : Nat → Nat → Int32} {l : Nat → Nat → Int64} : xPut xcl ini (xFf 12) 322 (rH e g q c l) (.int v :: .ref 49 :: r) = some (r, rH e (upd g 20 v) q c l) := by
  unfold xPut
  rw [show xFf 12 322 = some (12, 20) from rfl]
  dsimp only
  rw [show (rH e g q c l)[49]? = some (.inr (12, rF g q)) from rfl, show xcl[12]? = some ("TypedDescentModel", fun k => xT12.getD k ("", "", "", false), 144) from rfl]
  dsimp only
  rw [if_pos ⟨rfl, Nat.le_of_ble_eq_true rfl, rfl, rfl, Or.inl rfl⟩]
  rfl
set_option maxRecDepth 100000 in
set_option maxHeartbeats 4000000 in
theorem pf_21 {ini : Bool} {v : Int32} {r : List Value} {e : Nat → x_E} {g : Nat → Int32} {q : Nat → Int64} {c : Nat → Nat → Int32} {l : Nat → Nat → Int64} : xPut xcl ini (xFf 12) 331 (rH e g q c l) (.int v :: .ref 49 :: r) = some (r, rH e (upd g 21 v) q c l) := by
  unfold xPut
  rw [show xFf 12 331 = some (12, 21) from rfl]
  dsimp only
  rw [show (rH e g q c l)[49]? = some (.inr (12, rF g q)) from rfl, show xcl[12]? = some ("TypedDescentModel", fun k => xT12.getD k ("", "", "", false), 144) from rfl]
  dsimp only
  rw [if_pos ⟨rfl, Nat.le_of_ble_eq_true rfl, rfl, rfl, Or.inl rfl⟩]
  rfl
set_option maxRecDepth 100000 in
set_option maxHeartbeats 4000000 in
theorem pf_22 {ini : Bool} {v : Int32} {r : List Value} {e : Nat → x_E} {g : Nat → Int32} {q : Nat → Int64} {c : Nat → Nat → Int32} {l : Nat → Nat → Int64} : xPut xcl ini (xFf 12) 334 (rH e g q c l) (.int v :: .ref 49 :: r) = some (r, rH e (upd g 22 v) q c l) := by
  unfold xPut
  rw [show xFf 12 334 = some (12, 22) from rfl]
  dsimp only
  rw [show (rH e g q c l)[49]? = some (.inr (12, rF g q)) from rfl, show xcl[12]? = some ("TypedDescentModel", fun k => xT12.getD k ("", "", "", false), 144) from rfl]
  dsimp only
  rw [if_pos ⟨rfl, Nat.le_of_ble_eq_true rfl, rfl, rfl, Or.inl rfl⟩]
  rfl
set_option maxRecDepth 100000 in
set_option maxHeartbeats 4000000 in
theorem pf_23 {ini : Bool} {v : Int32} {r : List Value} {e : Nat → x_E} {g : Nat → Int32} {q : Nat → Int64} {c : Nat → Nat → Int32} {l : Nat → Nat → Int64} (hv : v = 0 ∨ v = 1) : xPut xcl ini (xFf 12) 325 (rH e g q c l) (.int v :: .ref 49 :: r) = some (r, rH e (upd g 23 v) q c l) := by
  rcases hv with rfl | rfl
  · unfold xPut
    rw [show xFf 12 325 = some (12, 23) from rfl]
    dsimp only
    rw [show (rH e g q c l)[49]? = some (.inr (12, rF g q)) from rfl, show xcl[12]? = some ("TypedDescentModel", fun k => xT12.getD k ("", "", "", false), 144) from rfl]
    dsimp only
    rw [if_pos ⟨rfl, Nat.le_of_ble_eq_true rfl, rfl, rfl, Or.inl rfl⟩]
    rfl
  · unfold xPut
    rw [show xFf 12 325 = some (12, 23) from rfl]
    dsimp only
    rw [show (rH e g q c l)[49]? = some (.inr (12, rF g q)) from rfl, show xcl[12]? = some ("TypedDescentModel", fun k => xT12.getD k ("", "", "", false), 144) from rfl]
    dsimp only
    rw [if_pos ⟨rfl, Nat.le_of_ble_eq_true rfl, rfl, rfl, Or.inl rfl⟩]
    rfl
set_option maxRecDepth 100000 in
set_option maxHeartbeats 4000000 in
theorem pf_24 {ini : Bool} {v : Int32} {r : List Value} {e : Nat → x_E} {g : Nat → Int32} {q : Nat → Int64} {c : Nat → Nat → Int32} {l : Nat → Nat → Int64} : xPut xcl ini (xFf 12) 353 (rH e g q c l) (.int v :: .ref 49 :: r) = some (r, rH e (upd g 24 v) q c l) := by
  unfold xPut
  rw [show xFf 12 353 = some (12, 24) from rfl]
  dsimp only
  rw [show (rH e g q c l)[49]? = some (.inr (12, rF g q)) from rfl, show xcl[12]? = some ("TypedDescentModel", fun k => xT12.getD k ("", "", "", false), 144) from rfl]
  dsimp only
  rw [if_pos ⟨rfl, Nat.le_of_ble_eq_true rfl, rfl, rfl, Or.inl rfl⟩]
  rfl
set_option maxRecDepth 100000 in
set_option maxHeartbeats 4000000 in
theorem pf_25 {ini : Bool} {v : Int32} {r : List Value} {e : Nat → x_E} {g : Nat → Int32} {q : Nat → Int64} {c : Nat → Nat → Int32} {l : Nat → Nat → Int64} : xPut xcl ini (xFf 12) 328 (rH e g q c l) (.int v :: .ref 49 :: r) = some (r, rH e (upd g 25 v) q c l) := by
  unfold xPut
  rw [show xFf 12 328 = some (12, 25) from rfl]
  dsimp only
  rw [show (rH e g q c l)[49]? = some (.inr (12, rF g q)) from rfl, show xcl[12]? = some ("TypedDescentModel", fun k => xT12.getD k ("", "", "", false), 144) from rfl]
  dsimp only
  rw [if_pos ⟨rfl, Nat.le_of_ble_eq_true rfl, rfl, rfl, Or.inl rfl⟩]
  rfl
set_option maxRecDepth 100000 in
set_option maxHeartbeats 4000000 in
theorem pf_26 {ini : Bool} {v : Int64} {r : List Value} {e : Nat → x_E} {g : Nat → Int32} {q : Nat → Int64} {c : Nat → Nat → Int32} {l : Nat → Nat → Int64} : xPut xcl ini (xFf 12) 362 (rH e g q c l) (.long v :: .ref 49 :: r) = some (r, rH e g (updQ q 26 v) c l) := by
  unfold xPut
  rw [show xFf 12 362 = some (12, 26) from rfl]
  dsimp only
  rw [show (rH e g q c l)[49]? = some (.inr (12, rF g q)) from rfl, show xcl[12]? = some ("TypedDescentModel", fun k => xT12.getD k ("", "", "", false), 144) from rfl]
  dsimp only
  rw [if_pos ⟨rfl, Nat.le_of_ble_eq_true rfl, rfl, rfl, Or.inl rfl⟩]
  rfl
set_option maxRecDepth 100000 in
set_option maxHeartbeats 4000000 in
theorem pf_27 {ini : Bool} {v : Int32} {r : List Value} {e : Nat → x_E} {g : Nat → Int32} {q : Nat → Int64} {c : Nat → Nat → Int32} {l : Nat → Nat → Int64} : xPut xcl ini (xFf 12) 365 (rH e g q c l) (.int v :: .ref 49 :: r) = some (r, rH e (upd g 27 v) q c l) := by
  unfold xPut
  rw [show xFf 12 365 = some (12, 27) from rfl]
  dsimp only
  rw [show (rH e g q c l)[49]? = some (.inr (12, rF g q)) from rfl, show xcl[12]? = some ("TypedDescentModel", fun k => xT12.getD k ("", "", "", false), 144) from rfl]
  dsimp only
  rw [if_pos ⟨rfl, Nat.le_of_ble_eq_true rfl, rfl, rfl, Or.inl rfl⟩]
  rfl
set_option maxRecDepth 100000 in
set_option maxHeartbeats 4000000 in
theorem pf_28 {ini : Bool} {v : Int32} {r : List Value} {e : Nat → x_E} {g : Nat → Int32} {q : Nat → Int64} {c : Nat → Nat → Int32} {l : Nat → Nat → Int64} : xPut xcl ini (xFf 12) 368 (rH e g q c l) (.int v :: .ref 49 :: r) = some (r, rH e (upd g 28 v) q c l) := by
  unfold xPut
  rw [show xFf 12 368 = some (12, 28) from rfl]
  dsimp only
  rw [show (rH e g q c l)[49]? = some (.inr (12, rF g q)) from rfl, show xcl[12]? = some ("TypedDescentModel", fun k => xT12.getD k ("", "", "", false), 144) from rfl]
  dsimp only
  rw [if_pos ⟨rfl, Nat.le_of_ble_eq_true rfl, rfl, rfl, Or.inl rfl⟩]
  rfl
set_option maxRecDepth 100000 in
set_option maxHeartbeats 4000000 in
theorem pf_30 {ini : Bool} {v : Int32} {r : List Value} {e : Nat → x_E} {g : Nat → Int32} {q : Nat → Int64} {c : Nat → Nat → Int32} {l : Nat → Nat → Int64} : xPut xcl ini (xFf 12) 374 (rH e g q c l) (.int v :: .ref 49 :: r) = some (r, rH e (upd g 30 v) q c l) := by
  unfold xPut
  rw [show xFf 12 374 = some (12, 30) from rfl]
  dsimp only
  rw [show (rH e g q c l)[49]? = some (.inr (12, rF g q)) from rfl, show xcl[12]? = some ("TypedDescentModel", fun k => xT12.getD k ("", "", "", false), 144) from rfl]
  dsimp only
  rw [if_pos ⟨rfl, Nat.le_of_ble_eq_true rfl, rfl, rfl, Or.inl rfl⟩]
  rfl
set_option maxRecDepth 100000 in
set_option maxHeartbeats 4000000 in
theorem pf_31 {ini : Bool} {v : Int32} {r : List Value} {e : Nat → x_E} {g : Nat → Int32} {q : Nat → Int64} {c : Nat → Nat → Int32} {l : Nat → Nat → Int64} : xPut xcl ini (xFf 12) 371 (rH e g q c l) (.int v :: .ref 49 :: r) = some (r, rH e (upd g 31 v) q c l) := by
  unfold xPut
  rw [show xFf 12 371 = some (12, 31) from rfl]
  dsimp only
  rw [show (rH e g q c l)[49]? = some (.inr (12, rF g q)) from rfl, show xcl[12]? = some ("TypedDescentModel", fun k => xT12.getD k ("", "", "", false), 144) from rfl]
  dsimp only
  rw [if_pos ⟨rfl, Nat.le_of_ble_eq_true rfl, rfl, rfl, Or.inl rfl⟩]
  rfl
set_option maxRecDepth 100000 in
set_option maxHeartbeats 4000000 in
theorem pf_34 {ini : Bool} {v : Int32} {r : List Value} {e : Nat → x_E} {g : Nat → Int32} {q : Nat → Int64} {c : Nat → Nat → Int32} {l : Nat → Nat → Int64} : xPut xcl ini (xFf 12) 508 (rH e g q c l) (.int v :: .ref 49 :: r) = some (r, rH e (upd g 34 v) q c l) := by
  unfold xPut
  rw [show xFf 12 508 = some (12, 34) from rfl]
  dsimp only
  rw [show (rH e g q c l)[49]? = some (.inr (12, rF g q)) from rfl, show xcl[12]? = some ("TypedDescentModel", fun k => xT12.getD k ("", "", "", false), 144) from rfl]
  dsimp only
  rw [if_pos ⟨rfl, Nat.le_of_ble_eq_true rfl, rfl, rfl, Or.inl rfl⟩]
  rfl
set_option maxRecDepth 100000 in
set_option maxHeartbeats 4000000 in
theorem pf_36 {ini : Bool} {v : Int32} {r : List Value} {e : Nat → x_E} {g : Nat → Int32} {q : Nat → Int64} {c : Nat → Nat → Int32} {l : Nat → Nat → Int64} : xPut xcl ini (xFf 12) 393 (rH e g q c l) (.int v :: .ref 49 :: r) = some (r, rH e (upd g 36 v) q c l) := by
  unfold xPut
  rw [show xFf 12 393 = some (12, 36) from rfl]
  dsimp only
  rw [show (rH e g q c l)[49]? = some (.inr (12, rF g q)) from rfl, show xcl[12]? = some ("TypedDescentModel", fun k => xT12.getD k ("", "", "", false), 144) from rfl]
  dsimp only
  rw [if_pos ⟨rfl, Nat.le_of_ble_eq_true rfl, rfl, rfl, Or.inl rfl⟩]
  rfl
set_option maxRecDepth 100000 in
set_option maxHeartbeats 4000000 in
theorem pf_40 {ini : Bool} {v : Int32} {r : List Value} {e : Nat → x_E} {g : Nat → Int32} {q : Nat → Int64} {c : Nat → Nat → Int32} {l : Nat → Nat → Int64} : xPut xcl ini (xFf 12) 490 (rH e g q c l) (.int v :: .ref 49 :: r) = some (r, rH e (upd g 40 v) q c l) := by
  unfold xPut
  rw [show xFf 12 490 = some (12, 40) from rfl]
  dsimp only
  rw [show (rH e g q c l)[49]? = some (.inr (12, rF g q)) from rfl, show xcl[12]? = some ("TypedDescentModel", fun k => xT12.getD k ("", "", "", false), 144) from rfl]
  dsimp only
  rw [if_pos ⟨rfl, Nat.le_of_ble_eq_true rfl, rfl, rfl, Or.inl rfl⟩]
  rfl
set_option maxRecDepth 100000 in
set_option maxHeartbeats 4000000 in
theorem pf_41 {ini : Bool} {v : Int32} {r : List Value} {e : Nat → x_E} {g : Nat → Int32} {q : Nat → Int64} {c : Nat → Nat → Int32} {l : Nat → Nat → Int64} : xPut xcl ini (xFf 12) 414 (rH e g q c l) (.int v :: .ref 49 :: r) = some (r, rH e (upd g 41 v) q c l) := by
  unfold xPut
  rw [show xFf 12 414 = some (12, 41) from rfl]
  dsimp only
  rw [show (rH e g q c l)[49]? = some (.inr (12, rF g q)) from rfl, show xcl[12]? = some ("TypedDescentModel", fun k => xT12.getD k ("", "", "", false), 144) from rfl]
  dsimp only
  rw [if_pos ⟨rfl, Nat.le_of_ble_eq_true rfl, rfl, rfl, Or.inl rfl⟩]
  rfl
set_option maxRecDepth 100000 in
set_option maxHeartbeats 4000000 in
theorem pf_42 {ini : Bool} {v : Int32} {r : List Value} {e : Nat → x_E} {g : Nat → Int32} {q : Nat → Int64} {c : Nat → Nat → Int32} {l : Nat → Nat → Int64} (hv : v = 0 ∨ v = 1) : xPut xcl ini (xFf 12) 396 (rH e g q c l) (.int v :: .ref 49 :: r) = some (r, rH e (upd g 42 v) q c l) := by
  rcases hv with rfl | rfl
  · unfold xPut
    rw [show xFf 12 396 = some (12, 42) from rfl]
    dsimp only
    rw [show (rH e g q c l)[49]? = some (.inr (12, rF g q)) from rfl, show xcl[12]? = some ("TypedDescentModel", fun k => xT12.getD k ("", "", "", false), 144) from rfl]
    dsimp only
    rw [if_pos ⟨rfl, Nat.le_of_ble_eq_true rfl, rfl, rfl, Or.inl rfl⟩]
    rfl
  · unfold xPut
    rw [show xFf 12 396 = some (12, 42) from rfl]
    dsimp only
    rw [show (rH e g q c l)[49]? = some (.inr (12, rF g q)) from rfl, show xcl[12]? = some ("TypedDescentModel", fun k => xT12.getD k ("", "", "", false), 144) from rfl]
    dsimp only
    rw [if_pos ⟨rfl, Nat.le_of_ble_eq_true rfl, rfl, rfl, Or.inl rfl⟩]
    rfl
set_option maxRecDepth 100000 in
set_option maxHeartbeats 4000000 in
theorem pf_43 {ini : Bool} {v : Int32} {r : List Value} {e : Nat → x_E} {g : Nat → Int32} {q : Nat → Int64} {c : Nat → Nat → Int32} {l : Nat → Nat → Int64} : xPut xcl ini (xFf 12) 430 (rH e g q c l) (.int v :: .ref 49 :: r) = some (r, rH e (upd g 43 v) q c l) := by
  unfold xPut
  rw [show xFf 12 430 = some (12, 43) from rfl]
  dsimp only
  rw [show (rH e g q c l)[49]? = some (.inr (12, rF g q)) from rfl, show xcl[12]? = some ("TypedDescentModel", fun k => xT12.getD k ("", "", "", false), 144) from rfl]
  dsimp only
  rw [if_pos ⟨rfl, Nat.le_of_ble_eq_true rfl, rfl, rfl, Or.inl rfl⟩]
  rfl
set_option maxRecDepth 100000 in
set_option maxHeartbeats 4000000 in
theorem pf_49 {ini : Bool} {v : Int32} {r : List Value} {e : Nat → x_E} {g : Nat → Int32} {q : Nat → Int64} {c : Nat → Nat → Int32} {l : Nat → Nat → Int64} : xPut xcl ini (xFf 12) 551 (rH e g q c l) (.int v :: .ref 49 :: r) = some (r, rH e (upd g 49 v) q c l) := by
  unfold xPut
  rw [show xFf 12 551 = some (12, 49) from rfl]
  dsimp only
  rw [show (rH e g q c l)[49]? = some (.inr (12, rF g q)) from rfl, show xcl[12]? = some ("TypedDescentModel", fun k => xT12.getD k ("", "", "", false), 144) from rfl]
  dsimp only
  rw [if_pos ⟨rfl, Nat.le_of_ble_eq_true rfl, rfl, rfl, Or.inl rfl⟩]
  rfl
set_option maxRecDepth 100000 in
set_option maxHeartbeats 4000000 in
theorem pf_55 {ini : Bool} {v : Int32} {r : List Value} {e : Nat → x_E} {g : Nat → Int32} {q : Nat → Int64} {c : Nat → Nat → Int32} {l : Nat → Nat → Int64} : xPut xcl ini (xFf 12) 433 (rH e g q c l) (.int v :: .ref 49 :: r) = some (r, rH e (upd g 55 v) q c l) := by
  unfold xPut
  rw [show xFf 12 433 = some (12, 55) from rfl]
  dsimp only
  rw [show (rH e g q c l)[49]? = some (.inr (12, rF g q)) from rfl, show xcl[12]? = some ("TypedDescentModel", fun k => xT12.getD k ("", "", "", false), 144) from rfl]
  dsimp only
  rw [if_pos ⟨rfl, Nat.le_of_ble_eq_true rfl, rfl, rfl, Or.inl rfl⟩]
  rfl
set_option maxRecDepth 100000 in
set_option maxHeartbeats 4000000 in
theorem pf_56 {ini : Bool} {v : Int32} {r : List Value} {e : Nat → x_E} {g : Nat → Int32} {q : Nat → Int64} {c : Nat → Nat → Int32} {l : Nat → Nat → Int64} : xPut xcl ini (xFf 12) 436 (rH e g q c l) (.int v :: .ref 49 :: r) = some (r, rH e (upd g 56 v) q c l) := by
  unfold xPut
  rw [show xFf 12 436 = some (12, 56) from rfl]
  dsimp only
  rw [show (rH e g q c l)[49]? = some (.inr (12, rF g q)) from rfl, show xcl[12]? = some ("TypedDescentModel", fun k => xT12.getD k ("", "", "", false), 144) from rfl]
  dsimp only
  rw [if_pos ⟨rfl, Nat.le_of_ble_eq_true rfl, rfl, rfl, Or.inl rfl⟩]
  rfl
set_option maxRecDepth 100000 in
set_option maxHeartbeats 4000000 in
theorem pf_61 {ini : Bool} {v : Int32} {r : List Value} {e : Nat → x_E} {g : Nat → Int32} {q : Nat → Int64} {c : Nat → Nat → Int32} {l : Nat → Nat → Int64} : xPut xcl ini (xFf 12) 548 (rH e g q c l) (.int v :: .ref 49 :: r) = some (r, rH e (upd g 61 v) q c l) := by
  unfold xPut
  rw [show xFf 12 548 = some (12, 61) from rfl]
  dsimp only
  rw [show (rH e g q c l)[49]? = some (.inr (12, rF g q)) from rfl, show xcl[12]? = some ("TypedDescentModel", fun k => xT12.getD k ("", "", "", false), 144) from rfl]
  dsimp only
  rw [if_pos ⟨rfl, Nat.le_of_ble_eq_true rfl, rfl, rfl, Or.inl rfl⟩]
  rfl
set_option maxRecDepth 100000 in
set_option maxHeartbeats 4000000 in
theorem pf_63 {ini : Bool} {v : Int32} {r : List Value} {e : Nat → x_E} {g : Nat → Int32} {q : Nat → Int64} {c : Nat → Nat → Int32} {l : Nat → Nat → Int64} : xPut xcl ini (xFf 12) 590 (rH e g q c l) (.int v :: .ref 49 :: r) = some (r, rH e (upd g 63 v) q c l) := by
  unfold xPut
  rw [show xFf 12 590 = some (12, 63) from rfl]
  dsimp only
  rw [show (rH e g q c l)[49]? = some (.inr (12, rF g q)) from rfl, show xcl[12]? = some ("TypedDescentModel", fun k => xT12.getD k ("", "", "", false), 144) from rfl]
  dsimp only
  rw [if_pos ⟨rfl, Nat.le_of_ble_eq_true rfl, rfl, rfl, Or.inl rfl⟩]
  rfl
set_option maxRecDepth 100000 in
set_option maxHeartbeats 4000000 in
theorem pf_64 {ini : Bool} {v : Int32} {r : List Value} {e : Nat → x_E} {g : Nat → Int32} {q : Nat → Int64} {c : Nat → Nat → Int32} {l : Nat → Nat → Int64} : xPut xcl ini (xFf 12) 593 (rH e g q c l) (.int v :: .ref 49 :: r) = some (r, rH e (upd g 64 v) q c l) := by
  unfold xPut
  rw [show xFf 12 593 = some (12, 64) from rfl]
  dsimp only
  rw [show (rH e g q c l)[49]? = some (.inr (12, rF g q)) from rfl, show xcl[12]? = some ("TypedDescentModel", fun k => xT12.getD k ("", "", "", false), 144) from rfl]
  dsimp only
  rw [if_pos ⟨rfl, Nat.le_of_ble_eq_true rfl, rfl, rfl, Or.inl rfl⟩]
  rfl
set_option maxRecDepth 100000 in
set_option maxHeartbeats 4000000 in
theorem pf_65 {ini : Bool} {v : Int32} {r : List Value} {e : Nat → x_E} {g : Nat → Int32} {q : Nat → Int64} {c : Nat → Nat → Int32} {l : Nat → Nat → Int64} : xPut xcl ini (xFf 12) 596 (rH e g q c l) (.int v :: .ref 49 :: r) = some (r, rH e (upd g 65 v) q c l) := by
  unfold xPut
  rw [show xFf 12 596 = some (12, 65) from rfl]
  dsimp only
  rw [show (rH e g q c l)[49]? = some (.inr (12, rF g q)) from rfl, show xcl[12]? = some ("TypedDescentModel", fun k => xT12.getD k ("", "", "", false), 144) from rfl]
  dsimp only
  rw [if_pos ⟨rfl, Nat.le_of_ble_eq_true rfl, rfl, rfl, Or.inl rfl⟩]
  rfl
set_option maxRecDepth 100000 in
set_option maxHeartbeats 4000000 in
theorem pf_66 {ini : Bool} {v : Int32} {r : List Value} {e : Nat → x_E} {g : Nat → Int32} {q : Nat → Int64} {c : Nat → Nat → Int32} {l : Nat → Nat → Int64} : xPut xcl ini (xFf 12) 641 (rH e g q c l) (.int v :: .ref 49 :: r) = some (r, rH e (upd g 66 v) q c l) := by
  unfold xPut
  rw [show xFf 12 641 = some (12, 66) from rfl]
  dsimp only
  rw [show (rH e g q c l)[49]? = some (.inr (12, rF g q)) from rfl, show xcl[12]? = some ("TypedDescentModel", fun k => xT12.getD k ("", "", "", false), 144) from rfl]
  dsimp only
  rw [if_pos ⟨rfl, Nat.le_of_ble_eq_true rfl, rfl, rfl, Or.inl rfl⟩]
  rfl
set_option maxRecDepth 100000 in
set_option maxHeartbeats 4000000 in
theorem pf_67 {ini : Bool} {v : Int32} {r : List Value} {e : Nat → x_E} {g : Nat → Int32} {q : Nat → Int64} {c : Nat → Nat → Int32} {l : Nat → Nat → Int64} : xPut xcl ini (xFf 12) 623 (rH e g q c l) (.int v :: .ref 49 :: r) = some (r, rH e (upd g 67 v) q c l) := by
  unfold xPut
  rw [show xFf 12 623 = some (12, 67) from rfl]
  dsimp only
  rw [show (rH e g q c l)[49]? = some (.inr (12, rF g q)) from rfl, show xcl[12]? = some ("TypedDescentModel", fun k => xT12.getD k ("", "", "", false), 144) from rfl]
  dsimp only
  rw [if_pos ⟨rfl, Nat.le_of_ble_eq_true rfl, rfl, rfl, Or.inl rfl⟩]
  rfl
set_option maxRecDepth 100000 in
set_option maxHeartbeats 4000000 in
theorem pf_68 {ini : Bool} {v : Int32} {r : List Value} {e : Nat → x_E} {g : Nat → Int32} {q : Nat → Int64} {c : Nat → Nat → Int32} {l : Nat → Nat → Int64} : xPut xcl ini (xFf 12) 644 (rH e g q c l) (.int v :: .ref 49 :: r) = some (r, rH e (upd g 68 v) q c l) := by
  unfold xPut
  rw [show xFf 12 644 = some (12, 68) from rfl]
  dsimp only
  rw [show (rH e g q c l)[49]? = some (.inr (12, rF g q)) from rfl, show xcl[12]? = some ("TypedDescentModel", fun k => xT12.getD k ("", "", "", false), 144) from rfl]
  dsimp only
  rw [if_pos ⟨rfl, Nat.le_of_ble_eq_true rfl, rfl, rfl, Or.inl rfl⟩]
  rfl
set_option maxRecDepth 100000 in
set_option maxHeartbeats 4000000 in
theorem pf_69 {ini : Bool} {v : Int32} {r : List Value} {e : Nat → x_E} {g : Nat → Int32} {q : Nat → Int64} {c : Nat → Nat → Int32} {l : Nat → Nat → Int64} : xPut xcl ini (xFf 12) 614 (rH e g q c l) (.int v :: .ref 49 :: r) = some (r, rH e (upd g 69 v) q c l) := by
  unfold xPut
  rw [show xFf 12 614 = some (12, 69) from rfl]
  dsimp only
  rw [show (rH e g q c l)[49]? = some (.inr (12, rF g q)) from rfl, show xcl[12]? = some ("TypedDescentModel", fun k => xT12.getD k ("", "", "", false), 144) from rfl]
  dsimp only
  rw [if_pos ⟨rfl, Nat.le_of_ble_eq_true rfl, rfl, rfl, Or.inl rfl⟩]
  rfl
set_option maxRecDepth 100000 in
set_option maxHeartbeats 4000000 in
theorem pf_71 {ini : Bool} {v : Int32} {r : List Value} {e : Nat → x_E} {g : Nat → Int32} {q : Nat → Int64} {c : Nat → Nat → Int32} {l : Nat → Nat → Int64} : xPut xcl ini (xFf 12) 632 (rH e g q c l) (.int v :: .ref 49 :: r) = some (r, rH e (upd g 71 v) q c l) := by
  unfold xPut
  rw [show xFf 12 632 = some (12, 71) from rfl]
  dsimp only
  rw [show (rH e g q c l)[49]? = some (.inr (12, rF g q)) from rfl, show xcl[12]? = some ("TypedDescentModel", fun k => xT12.getD k ("", "", "", false), 144) from rfl]
  dsimp only
  rw [if_pos ⟨rfl, Nat.le_of_ble_eq_true rfl, rfl, rfl, Or.inl rfl⟩]
  rfl
set_option maxRecDepth 100000 in
set_option maxHeartbeats 4000000 in
theorem pf_75 {ini : Bool} {v : Int32} {r : List Value} {e : Nat → x_E} {g : Nat → Int32} {q : Nat → Int64} {c : Nat → Nat → Int32} {l : Nat → Nat → Int64} : xPut xcl ini (xFf 12) 599 (rH e g q c l) (.int v :: .ref 49 :: r) = some (r, rH e (upd g 75 v) q c l) := by
  unfold xPut
  rw [show xFf 12 599 = some (12, 75) from rfl]
  dsimp only
  rw [show (rH e g q c l)[49]? = some (.inr (12, rF g q)) from rfl, show xcl[12]? = some ("TypedDescentModel", fun k => xT12.getD k ("", "", "", false), 144) from rfl]
  dsimp only
  rw [if_pos ⟨rfl, Nat.le_of_ble_eq_true rfl, rfl, rfl, Or.inl rfl⟩]
  rfl
set_option maxRecDepth 100000 in
set_option maxHeartbeats 4000000 in
theorem pf_76 {ini : Bool} {v : Int32} {r : List Value} {e : Nat → x_E} {g : Nat → Int32} {q : Nat → Int64} {c : Nat → Nat → Int32} {l : Nat → Nat → Int64} : xPut xcl ini (xFf 12) 602 (rH e g q c l) (.int v :: .ref 49 :: r) = some (r, rH e (upd g 76 v) q c l) := by
  unfold xPut
  rw [show xFf 12 602 = some (12, 76) from rfl]
  dsimp only
  rw [show (rH e g q c l)[49]? = some (.inr (12, rF g q)) from rfl, show xcl[12]? = some ("TypedDescentModel", fun k => xT12.getD k ("", "", "", false), 144) from rfl]
  dsimp only
  rw [if_pos ⟨rfl, Nat.le_of_ble_eq_true rfl, rfl, rfl, Or.inl rfl⟩]
  rfl
set_option maxRecDepth 100000 in
set_option maxHeartbeats 4000000 in
theorem pf_77 {ini : Bool} {v : Int32} {r : List Value} {e : Nat → x_E} {g : Nat → Int32} {q : Nat → Int64} {c : Nat → Nat → Int32} {l : Nat → Nat → Int64} : xPut xcl ini (xFf 12) 651 (rH e g q c l) (.int v :: .ref 49 :: r) = some (r, rH e (upd g 77 v) q c l) := by
  unfold xPut
  rw [show xFf 12 651 = some (12, 77) from rfl]
  dsimp only
  rw [show (rH e g q c l)[49]? = some (.inr (12, rF g q)) from rfl, show xcl[12]? = some ("TypedDescentModel", fun k => xT12.getD k ("", "", "", false), 144) from rfl]
  dsimp only
  rw [if_pos ⟨rfl, Nat.le_of_ble_eq_true rfl, rfl, rfl, Or.inl rfl⟩]
  rfl
set_option maxRecDepth 100000 in
set_option maxHeartbeats 4000000 in
theorem pf_79 {ini : Bool} {v : Int32} {r : List Value} {e : Nat → x_E} {g : Nat → Int32} {q : Nat → Int64} {c : Nat → Nat → Int32} {l : Nat → Nat → Int64} : xPut xcl ini (xFf 12) 654 (rH e g q c l) (.int v :: .ref 49 :: r) = some (r, rH e (upd g 79 v) q c l) := by
  unfold xPut
  rw [show xFf 12 654 = some (12, 79) from rfl]
  dsimp only
  rw [show (rH e g q c l)[49]? = some (.inr (12, rF g q)) from rfl, show xcl[12]? = some ("TypedDescentModel", fun k => xT12.getD k ("", "", "", false), 144) from rfl]
  dsimp only
  rw [if_pos ⟨rfl, Nat.le_of_ble_eq_true rfl, rfl, rfl, Or.inl rfl⟩]
  rfl
set_option maxRecDepth 100000 in
set_option maxHeartbeats 4000000 in
theorem pf_83 {ini : Bool} {v : Int32} {r : List Value} {e : Nat → x_E} {g : Nat → Int32} {q : Nat → Int64} {c : Nat → Nat → Int32} {l : Nat → Nat → Int64} : xPut xcl ini (xFf 12) 657 (rH e g q c l) (.int v :: .ref 49 :: r) = some (r, rH e (upd g 83 v) q c l) := by
  unfold xPut
  rw [show xFf 12 657 = some (12, 83) from rfl]
  dsimp only
  rw [show (rH e g q c l)[49]? = some (.inr (12, rF g q)) from rfl, show xcl[12]? = some ("TypedDescentModel", fun k => xT12.getD k ("", "", "", false), 144) from rfl]
  dsimp only
  rw [if_pos ⟨rfl, Nat.le_of_ble_eq_true rfl, rfl, rfl, Or.inl rfl⟩]
  rfl
set_option maxRecDepth 100000 in
set_option maxHeartbeats 4000000 in
theorem pf_85 {ini : Bool} {v : Int32} {r : List Value} {e : Nat → x_E} {g : Nat → Int32} {q : Nat → Int64} {c : Nat → Nat → Int32} {l : Nat → Nat → Int64} : xPut xcl ini (xFf 12) 679 (rH e g q c l) (.int v :: .ref 49 :: r) = some (r, rH e (upd g 85 v) q c l) := by
  unfold xPut
  rw [show xFf 12 679 = some (12, 85) from rfl]
  dsimp only
  rw [show (rH e g q c l)[49]? = some (.inr (12, rF g q)) from rfl, show xcl[12]? = some ("TypedDescentModel", fun k => xT12.getD k ("", "", "", false), 144) from rfl]
  dsimp only
  rw [if_pos ⟨rfl, Nat.le_of_ble_eq_true rfl, rfl, rfl, Or.inl rfl⟩]
  rfl
set_option maxRecDepth 100000 in
set_option maxHeartbeats 4000000 in
theorem pf_92 {ini : Bool} {v : Int32} {r : List Value} {e : Nat → x_E} {g : Nat → Int32} {q : Nat → Int64} {c : Nat → Nat → Int32} {l : Nat → Nat → Int64} : xPut xcl ini (xFf 12) 682 (rH e g q c l) (.int v :: .ref 49 :: r) = some (r, rH e (upd g 92 v) q c l) := by
  unfold xPut
  rw [show xFf 12 682 = some (12, 92) from rfl]
  dsimp only
  rw [show (rH e g q c l)[49]? = some (.inr (12, rF g q)) from rfl, show xcl[12]? = some ("TypedDescentModel", fun k => xT12.getD k ("", "", "", false), 144) from rfl]
  dsimp only
  rw [if_pos ⟨rfl, Nat.le_of_ble_eq_true rfl, rfl, rfl, Or.inl rfl⟩]
  rfl
set_option maxRecDepth 100000 in
set_option maxHeartbeats 4000000 in
theorem pf_94 {ini : Bool} {v : Int32} {r : List Value} {e : Nat → x_E} {g : Nat → Int32} {q : Nat → Int64} {c : Nat → Nat → Int32} {l : Nat → Nat → Int64} : xPut xcl ini (xFf 12) 697 (rH e g q c l) (.int v :: .ref 49 :: r) = some (r, rH e (upd g 94 v) q c l) := by
  unfold xPut
  rw [show xFf 12 697 = some (12, 94) from rfl]
  dsimp only
  rw [show (rH e g q c l)[49]? = some (.inr (12, rF g q)) from rfl, show xcl[12]? = some ("TypedDescentModel", fun k => xT12.getD k ("", "", "", false), 144) from rfl]
  dsimp only
  rw [if_pos ⟨rfl, Nat.le_of_ble_eq_true rfl, rfl, rfl, Or.inl rfl⟩]
  rfl
set_option maxRecDepth 100000 in
set_option maxHeartbeats 4000000 in
theorem pf_95 {ini : Bool} {v : Int32} {r : List Value} {e : Nat → x_E} {g : Nat → Int32} {q : Nat → Int64} {c : Nat → Nat → Int32} {l : Nat → Nat → Int64} : xPut xcl ini (xFf 12) 688 (rH e g q c l) (.int v :: .ref 49 :: r) = some (r, rH e (upd g 95 v) q c l) := by
  unfold xPut
  rw [show xFf 12 688 = some (12, 95) from rfl]
  dsimp only
  rw [show (rH e g q c l)[49]? = some (.inr (12, rF g q)) from rfl, show xcl[12]? = some ("TypedDescentModel", fun k => xT12.getD k ("", "", "", false), 144) from rfl]
  dsimp only
  rw [if_pos ⟨rfl, Nat.le_of_ble_eq_true rfl, rfl, rfl, Or.inl rfl⟩]
  rfl
set_option maxRecDepth 100000 in
set_option maxHeartbeats 4000000 in
theorem pf_96 {ini : Bool} {v : Int32} {r : List Value} {e : Nat → x_E} {g : Nat → Int32} {q : Nat → Int64} {c : Nat → Nat → Int32} {l : Nat → Nat → Int64} : xPut xcl ini (xFf 12) 685 (rH e g q c l) (.int v :: .ref 49 :: r) = some (r, rH e (upd g 96 v) q c l) := by
  unfold xPut
  rw [show xFf 12 685 = some (12, 96) from rfl]
  dsimp only
  rw [show (rH e g q c l)[49]? = some (.inr (12, rF g q)) from rfl, show xcl[12]? = some ("TypedDescentModel", fun k => xT12.getD k ("", "", "", false), 144) from rfl]
  dsimp only
  rw [if_pos ⟨rfl, Nat.le_of_ble_eq_true rfl, rfl, rfl, Or.inl rfl⟩]
  rfl
set_option maxRecDepth 100000 in
set_option maxHeartbeats 4000000 in
theorem pf_102 {ini : Bool} {v : Int32} {r : List Value} {e : Nat → x_E} {g : Nat → Int32} {q : Nat → Int64} {c : Nat → Nat → Int32} {l : Nat → Nat → Int64} : xPut xcl ini (xFf 12) 716 (rH e g q c l) (.int v :: .ref 49 :: r) = some (r, rH e (upd g 102 v) q c l) := by
  unfold xPut
  rw [show xFf 12 716 = some (12, 102) from rfl]
  dsimp only
  rw [show (rH e g q c l)[49]? = some (.inr (12, rF g q)) from rfl, show xcl[12]? = some ("TypedDescentModel", fun k => xT12.getD k ("", "", "", false), 144) from rfl]
  dsimp only
  rw [if_pos ⟨rfl, Nat.le_of_ble_eq_true rfl, rfl, rfl, Or.inl rfl⟩]
  rfl
set_option maxRecDepth 100000 in
set_option maxHeartbeats 4000000 in
theorem pf_103 {ini : Bool} {v : Int32} {r : List Value} {e : Nat → x_E} {g : Nat → Int32} {q : Nat → Int64} {c : Nat → Nat → Int32} {l : Nat → Nat → Int64} : xPut xcl ini (xFf 12) 726 (rH e g q c l) (.int v :: .ref 49 :: r) = some (r, rH e (upd g 103 v) q c l) := by
  unfold xPut
  rw [show xFf 12 726 = some (12, 103) from rfl]
  dsimp only
  rw [show (rH e g q c l)[49]? = some (.inr (12, rF g q)) from rfl, show xcl[12]? = some ("TypedDescentModel", fun k => xT12.getD k ("", "", "", false), 144) from rfl]
  dsimp only
  rw [if_pos ⟨rfl, Nat.le_of_ble_eq_true rfl, rfl, rfl, Or.inl rfl⟩]
  rfl
set_option maxRecDepth 100000 in
set_option maxHeartbeats 4000000 in
theorem pf_104 {ini : Bool} {v : Int32} {r : List Value} {e : Nat → x_E} {g : Nat → Int32} {q : Nat → Int64} {c : Nat → Nat → Int32} {l : Nat → Nat → Int64} : xPut xcl ini (xFf 12) 732 (rH e g q c l) (.int v :: .ref 49 :: r) = some (r, rH e (upd g 104 v) q c l) := by
  unfold xPut
  rw [show xFf 12 732 = some (12, 104) from rfl]
  dsimp only
  rw [show (rH e g q c l)[49]? = some (.inr (12, rF g q)) from rfl, show xcl[12]? = some ("TypedDescentModel", fun k => xT12.getD k ("", "", "", false), 144) from rfl]
  dsimp only
  rw [if_pos ⟨rfl, Nat.le_of_ble_eq_true rfl, rfl, rfl, Or.inl rfl⟩]
  rfl
set_option maxRecDepth 100000 in
set_option maxHeartbeats 4000000 in
theorem pf_105 {ini : Bool} {v : Int32} {r : List Value} {e : Nat → x_E} {g : Nat → Int32} {q : Nat → Int64} {c : Nat → Nat → Int32} {l : Nat → Nat → Int64} : xPut xcl ini (xFf 12) 735 (rH e g q c l) (.int v :: .ref 49 :: r) = some (r, rH e (upd g 105 v) q c l) := by
  unfold xPut
  rw [show xFf 12 735 = some (12, 105) from rfl]
  dsimp only
  rw [show (rH e g q c l)[49]? = some (.inr (12, rF g q)) from rfl, show xcl[12]? = some ("TypedDescentModel", fun k => xT12.getD k ("", "", "", false), 144) from rfl]
  dsimp only
  rw [if_pos ⟨rfl, Nat.le_of_ble_eq_true rfl, rfl, rfl, Or.inl rfl⟩]
  rfl
set_option maxRecDepth 100000 in
set_option maxHeartbeats 4000000 in
theorem pf_106 {ini : Bool} {v : Int32} {r : List Value} {e : Nat → x_E} {g : Nat → Int32} {q : Nat → Int64} {c : Nat → Nat → Int32} {l : Nat → Nat → Int64} (hv : v = 0 ∨ v = 1) : xPut xcl ini (xFf 12) 738 (rH e g q c l) (.int v :: .ref 49 :: r) = some (r, rH e (upd g 106 v) q c l) := by
  rcases hv with rfl | rfl
  · unfold xPut
    rw [show xFf 12 738 = some (12, 106) from rfl]
    dsimp only
    rw [show (rH e g q c l)[49]? = some (.inr (12, rF g q)) from rfl, show xcl[12]? = some ("TypedDescentModel", fun k => xT12.getD k ("", "", "", false), 144) from rfl]
    dsimp only
    rw [if_pos ⟨rfl, Nat.le_of_ble_eq_true rfl, rfl, rfl, Or.inl rfl⟩]
    rfl
  · unfold xPut
    rw [show xFf 12 738 = some (12, 106) from rfl]
    dsimp only
    rw [show (rH e g q c l)[49]? = some (.inr (12, rF g q)) from rfl, show xcl[12]? = some ("TypedDescentModel", fun k => xT12.getD k ("", "", "", false), 144) from rfl]
    dsimp only
    rw [if_pos ⟨rfl, Nat.le_of_ble_eq_true rfl, rfl, rfl, Or.inl rfl⟩]
    rfl
set_option maxRecDepth 100000 in
set_option maxHeartbeats 4000000 in
theorem pf_107 {ini : Bool} {v : Int32} {r : List Value} {e : Nat → x_E} {g : Nat → Int32} {q : Nat → Int64} {c : Nat → Nat → Int32} {l : Nat → Nat → Int64} (hv : v = 0 ∨ v = 1) : xPut xcl ini (xFf 12) 729 (rH e g q c l) (.int v :: .ref 49 :: r) = some (r, rH e (upd g 107 v) q c l) := by
  rcases hv with rfl | rfl
  · unfold xPut
    rw [show xFf 12 729 = some (12, 107) from rfl]
    dsimp only
    rw [show (rH e g q c l)[49]? = some (.inr (12, rF g q)) from rfl, show xcl[12]? = some ("TypedDescentModel", fun k => xT12.getD k ("", "", "", false), 144) from rfl]
    dsimp only
    rw [if_pos ⟨rfl, Nat.le_of_ble_eq_true rfl, rfl, rfl, Or.inl rfl⟩]
    rfl
  · unfold xPut
    rw [show xFf 12 729 = some (12, 107) from rfl]
    dsimp only
    rw [show (rH e g q c l)[49]? = some (.inr (12, rF g q)) from rfl, show xcl[12]? = some ("TypedDescentModel", fun k => xT12.getD k ("", "", "", false), 144) from rfl]
    dsimp only
    rw [if_pos ⟨rfl, Nat.le_of_ble_eq_true rfl, rfl, rfl, Or.inl rfl⟩]
    rfl
set_option maxRecDepth 100000 in
set_option maxHeartbeats 4000000 in
theorem pf_110 {ini : Bool} {v : Int32} {r : List Value} {e : Nat → x_E} {g : Nat → Int32} {q : Nat → Int64} {c : Nat → Nat → Int32} {l : Nat → Nat → Int64} : xPut xcl ini (xFf 12) 741 (rH e g q c l) (.int v :: .ref 49 :: r) = some (r, rH e (upd g 110 v) q c l) := by
  unfold xPut
  rw [show xFf 12 741 = some (12, 110) from rfl]
  dsimp only
  rw [show (rH e g q c l)[49]? = some (.inr (12, rF g q)) from rfl, show xcl[12]? = some ("TypedDescentModel", fun k => xT12.getD k ("", "", "", false), 144) from rfl]
  dsimp only
  rw [if_pos ⟨rfl, Nat.le_of_ble_eq_true rfl, rfl, rfl, Or.inl rfl⟩]
  rfl
set_option maxRecDepth 100000 in
set_option maxHeartbeats 4000000 in
theorem pf_118 {ini : Bool} {v : Int32} {r : List Value} {e : Nat → x_E} {g : Nat → Int32} {q : Nat → Int64} {c : Nat → Nat → Int32} {l : Nat → Nat → Int64} : xPut xcl ini (xFf 12) 763 (rH e g q c l) (.int v :: .ref 49 :: r) = some (r, rH e (upd g 118 v) q c l) := by
  unfold xPut
  rw [show xFf 12 763 = some (12, 118) from rfl]
  dsimp only
  rw [show (rH e g q c l)[49]? = some (.inr (12, rF g q)) from rfl, show xcl[12]? = some ("TypedDescentModel", fun k => xT12.getD k ("", "", "", false), 144) from rfl]
  dsimp only
  rw [if_pos ⟨rfl, Nat.le_of_ble_eq_true rfl, rfl, rfl, Or.inl rfl⟩]
  rfl
set_option maxRecDepth 100000 in
set_option maxHeartbeats 4000000 in
theorem pf_124 {ini : Bool} {v : Int32} {r : List Value} {e : Nat → x_E} {g : Nat → Int32} {q : Nat → Int64} {c : Nat → Nat → Int32} {l : Nat → Nat → Int64} : xPut xcl ini (xFf 12) 772 (rH e g q c l) (.int v :: .ref 49 :: r) = some (r, rH e (upd g 124 v) q c l) := by
  unfold xPut
  rw [show xFf 12 772 = some (12, 124) from rfl]
  dsimp only
  rw [show (rH e g q c l)[49]? = some (.inr (12, rF g q)) from rfl, show xcl[12]? = some ("TypedDescentModel", fun k => xT12.getD k ("", "", "", false), 144) from rfl]
  dsimp only
  rw [if_pos ⟨rfl, Nat.le_of_ble_eq_true rfl, rfl, rfl, Or.inl rfl⟩]
  rfl
set_option maxRecDepth 100000 in
set_option maxHeartbeats 4000000 in
theorem pf_125 {ini : Bool} {v : Int32} {r : List Value} {e : Nat → x_E} {g : Nat → Int32} {q : Nat → Int64} {c : Nat → Nat → Int32} {l : Nat → Nat → Int64} : xPut xcl ini (xFf 12) 766 (rH e g q c l) (.int v :: .ref 49 :: r) = some (r, rH e (upd g 125 v) q c l) := by
  unfold xPut
  rw [show xFf 12 766 = some (12, 125) from rfl]
  dsimp only
  rw [show (rH e g q c l)[49]? = some (.inr (12, rF g q)) from rfl, show xcl[12]? = some ("TypedDescentModel", fun k => xT12.getD k ("", "", "", false), 144) from rfl]
  dsimp only
  rw [if_pos ⟨rfl, Nat.le_of_ble_eq_true rfl, rfl, rfl, Or.inl rfl⟩]
  rfl
set_option maxRecDepth 100000 in
set_option maxHeartbeats 4000000 in
theorem pf_134 {ini : Bool} {v : Int32} {r : List Value} {e : Nat → x_E} {g : Nat → Int32} {q : Nat → Int64} {c : Nat → Nat → Int32} {l : Nat → Nat → Int64} (hv : v = 0 ∨ v = 1) : xPut xcl ini (xFf 12) 754 (rH e g q c l) (.int v :: .ref 49 :: r) = some (r, rH e (upd g 134 v) q c l) := by
  rcases hv with rfl | rfl
  · unfold xPut
    rw [show xFf 12 754 = some (12, 134) from rfl]
    dsimp only
    rw [show (rH e g q c l)[49]? = some (.inr (12, rF g q)) from rfl, show xcl[12]? = some ("TypedDescentModel", fun k => xT12.getD k ("", "", "", false), 144) from rfl]
    dsimp only
    rw [if_pos ⟨rfl, Nat.le_of_ble_eq_true rfl, rfl, rfl, Or.inl rfl⟩]
    rfl
  · unfold xPut
    rw [show xFf 12 754 = some (12, 134) from rfl]
    dsimp only
    rw [show (rH e g q c l)[49]? = some (.inr (12, rF g q)) from rfl, show xcl[12]? = some ("TypedDescentModel", fun k => xT12.getD k ("", "", "", false), 144) from rfl]
    dsimp only
    rw [if_pos ⟨rfl, Nat.le_of_ble_eq_true rfl, rfl, rfl, Or.inl rfl⟩]
    rfl
set_option maxRecDepth 100000 in
set_option maxHeartbeats 4000000 in
theorem pf_135 {ini : Bool} {v : Int32} {r : List Value} {e : Nat → x_E} {g : Nat → Int32} {q : Nat → Int64} {c : Nat → Nat → Int32} {l : Nat → Nat → Int64} : xPut xcl ini (xFf 12) 797 (rH e g q c l) (.int v :: .ref 49 :: r) = some (r, rH e (upd g 135 v) q c l) := by
  unfold xPut
  rw [show xFf 12 797 = some (12, 135) from rfl]
  dsimp only
  rw [show (rH e g q c l)[49]? = some (.inr (12, rF g q)) from rfl, show xcl[12]? = some ("TypedDescentModel", fun k => xT12.getD k ("", "", "", false), 144) from rfl]
  dsimp only
  rw [if_pos ⟨rfl, Nat.le_of_ble_eq_true rfl, rfl, rfl, Or.inl rfl⟩]
  rfl
set_option maxRecDepth 100000 in
set_option maxHeartbeats 4000000 in
theorem pf_136 {ini : Bool} {v : Int32} {r : List Value} {e : Nat → x_E} {g : Nat → Int32} {q : Nat → Int64} {c : Nat → Nat → Int32} {l : Nat → Nat → Int64} : xPut xcl ini (xFf 12) 800 (rH e g q c l) (.int v :: .ref 49 :: r) = some (r, rH e (upd g 136 v) q c l) := by
  unfold xPut
  rw [show xFf 12 800 = some (12, 136) from rfl]
  dsimp only
  rw [show (rH e g q c l)[49]? = some (.inr (12, rF g q)) from rfl, show xcl[12]? = some ("TypedDescentModel", fun k => xT12.getD k ("", "", "", false), 144) from rfl]
  dsimp only
  rw [if_pos ⟨rfl, Nat.le_of_ble_eq_true rfl, rfl, rfl, Or.inl rfl⟩]
  rfl
set_option maxRecDepth 100000 in
set_option maxHeartbeats 4000000 in
theorem pf_137 {ini : Bool} {v : Int32} {r : List Value} {e : Nat → x_E} {g : Nat → Int32} {q : Nat → Int64} {c : Nat → Nat → Int32} {l : Nat → Nat → Int64} : xPut xcl ini (xFf 12) 785 (rH e g q c l) (.int v :: .ref 49 :: r) = some (r, rH e (upd g 137 v) q c l) := by
  unfold xPut
  rw [show xFf 12 785 = some (12, 137) from rfl]
  dsimp only
  rw [show (rH e g q c l)[49]? = some (.inr (12, rF g q)) from rfl, show xcl[12]? = some ("TypedDescentModel", fun k => xT12.getD k ("", "", "", false), 144) from rfl]
  dsimp only
  rw [if_pos ⟨rfl, Nat.le_of_ble_eq_true rfl, rfl, rfl, Or.inl rfl⟩]
  rfl
set_option maxRecDepth 100000 in
set_option maxHeartbeats 4000000 in
theorem pf_139 {ini : Bool} {v : Int32} {r : List Value} {e : Nat → x_E} {g : Nat → Int32} {q : Nat → Int64} {c : Nat → Nat → Int32} {l : Nat → Nat → Int64} : xPut xcl ini (xFf 12) 842 (rH e g q c l) (.int v :: .ref 49 :: r) = some (r, rH e (upd g 139 v) q c l) := by
  unfold xPut
  rw [show xFf 12 842 = some (12, 139) from rfl]
  dsimp only
  rw [show (rH e g q c l)[49]? = some (.inr (12, rF g q)) from rfl, show xcl[12]? = some ("TypedDescentModel", fun k => xT12.getD k ("", "", "", false), 144) from rfl]
  dsimp only
  rw [if_pos ⟨rfl, Nat.le_of_ble_eq_true rfl, rfl, rfl, Or.inl rfl⟩]
  rfl
set_option maxRecDepth 100000 in
set_option maxHeartbeats 4000000 in
theorem pf_140 {ini : Bool} {v : Int32} {r : List Value} {e : Nat → x_E} {g : Nat → Int32} {q : Nat → Int64} {c : Nat → Nat → Int32} {l : Nat → Nat → Int64} : xPut xcl ini (xFf 12) 851 (rH e g q c l) (.int v :: .ref 49 :: r) = some (r, rH e (upd g 140 v) q c l) := by
  unfold xPut
  rw [show xFf 12 851 = some (12, 140) from rfl]
  dsimp only
  rw [show (rH e g q c l)[49]? = some (.inr (12, rF g q)) from rfl, show xcl[12]? = some ("TypedDescentModel", fun k => xT12.getD k ("", "", "", false), 144) from rfl]
  dsimp only
  rw [if_pos ⟨rfl, Nat.le_of_ble_eq_true rfl, rfl, rfl, Or.inl rfl⟩]
  rfl
set_option maxRecDepth 100000 in
set_option maxHeartbeats 4000000 in
theorem pf_143 {ini : Bool} {v : Int32} {r : List Value} {e : Nat → x_E} {g : Nat → Int32} {q : Nat → Int64} {c : Nat → Nat → Int32} {l : Nat → Nat → Int64} (hv : v = 0 ∨ v = 1) : xPut xcl ini (xFf 12) 878 (rH e g q c l) (.int v :: .ref 49 :: r) = some (r, rH e (upd g 143 v) q c l) := by
  rcases hv with rfl | rfl
  · unfold xPut
    rw [show xFf 12 878 = some (12, 143) from rfl]
    dsimp only
    rw [show (rH e g q c l)[49]? = some (.inr (12, rF g q)) from rfl, show xcl[12]? = some ("TypedDescentModel", fun k => xT12.getD k ("", "", "", false), 144) from rfl]
    dsimp only
    rw [if_pos ⟨rfl, Nat.le_of_ble_eq_true rfl, rfl, rfl, Or.inl rfl⟩]
    rfl
  · unfold xPut
    rw [show xFf 12 878 = some (12, 143) from rfl]
    dsimp only
    rw [show (rH e g q c l)[49]? = some (.inr (12, rF g q)) from rfl, show xcl[12]? = some ("TypedDescentModel", fun k => xT12.getD k ("", "", "", false), 144) from rfl]
    dsimp only
    rw [if_pos ⟨rfl, Nat.le_of_ble_eq_true rfl, rfl, rfl, Or.inl rfl⟩]
    rfl
set_option maxRecDepth 100000 in
set_option maxHeartbeats 4000000 in
theorem ald_51 {v : Int32} {r : List Value} {e : Nat → x_E} {g : Nat → Int32} {q : Nat → Int64} {c : Nat → Nat → Int32} {l : Nat → Nat → Int64} (h : ¬ (v < 0 ∨ 6000 ≤ v.toNatClampNeg)) : xAld 0 (rH e g q c l) (.int v :: .ref 51 :: r) = some (.int (c 51 v.toNatClampNeg) :: r) := by
  unfold xAld
  dsimp only
  rw [show (rH e g q c l)[51]? = some (.inl (0, 6000, .inl (c 51))) from rfl]
  dsimp only
  rw [if_pos ⟨rfl, h⟩]
set_option maxRecDepth 100000 in
set_option maxHeartbeats 4000000 in
theorem ald_52 {v : Int32} {r : List Value} {e : Nat → x_E} {g : Nat → Int32} {q : Nat → Int64} {c : Nat → Nat → Int32} {l : Nat → Nat → Int64} (h : ¬ (v < 0 ∨ 31 ≤ v.toNatClampNeg)) : xAld 3 (rH e g q c l) (.int v :: .ref 52 :: r) = some (.int (c 52 v.toNatClampNeg) :: r) := by
  unfold xAld
  dsimp only
  rw [show (rH e g q c l)[52]? = some (.inl (3, 31, .inl (c 52))) from rfl]
  dsimp only
  rw [if_pos ⟨rfl, h⟩]
set_option maxRecDepth 100000 in
set_option maxHeartbeats 4000000 in
theorem ald_54 {v : Int32} {r : List Value} {e : Nat → x_E} {g : Nat → Int32} {q : Nat → Int64} {c : Nat → Nat → Int32} {l : Nat → Nat → Int64} (h : ¬ (v < 0 ∨ 18 ≤ v.toNatClampNeg)) : xAld 3 (rH e g q c l) (.int v :: .ref 54 :: r) = some (.int (c 54 v.toNatClampNeg) :: r) := by
  unfold xAld
  dsimp only
  rw [show (rH e g q c l)[54]? = some (.inl (3, 18, .inl (c 54))) from rfl]
  dsimp only
  rw [if_pos ⟨rfl, h⟩]
set_option maxRecDepth 100000 in
set_option maxHeartbeats 4000000 in
theorem ald_55 {v : Int32} {r : List Value} {e : Nat → x_E} {g : Nat → Int32} {q : Nat → Int64} {c : Nat → Nat → Int32} {l : Nat → Nat → Int64} (h : ¬ (v < 0 ∨ 66000 ≤ v.toNatClampNeg)) : xAld 0 (rH e g q c l) (.int v :: .ref 55 :: r) = some (.int (c 55 v.toNatClampNeg) :: r) := by
  unfold xAld
  dsimp only
  rw [show (rH e g q c l)[55]? = some (.inl (0, 66000, .inl (c 55))) from rfl]
  dsimp only
  rw [if_pos ⟨rfl, h⟩]
set_option maxRecDepth 100000 in
set_option maxHeartbeats 4000000 in
theorem ald_56 {v : Int32} {r : List Value} {e : Nat → x_E} {g : Nat → Int32} {q : Nat → Int64} {c : Nat → Nat → Int32} {l : Nat → Nat → Int64} (h : ¬ (v < 0 ∨ 1300 ≤ v.toNatClampNeg)) : xAld 0 (rH e g q c l) (.int v :: .ref 56 :: r) = some (.int (c 56 v.toNatClampNeg) :: r) := by
  unfold xAld
  dsimp only
  rw [show (rH e g q c l)[56]? = some (.inl (0, 1300, .inl (c 56))) from rfl]
  dsimp only
  rw [if_pos ⟨rfl, h⟩]
set_option maxRecDepth 100000 in
set_option maxHeartbeats 4000000 in
theorem ald_57 {v : Int32} {r : List Value} {e : Nat → x_E} {g : Nat → Int32} {q : Nat → Int64} {c : Nat → Nat → Int32} {l : Nat → Nat → Int64} (h : ¬ (v < 0 ∨ 1300 ≤ v.toNatClampNeg)) : xAld 0 (rH e g q c l) (.int v :: .ref 57 :: r) = some (.int (c 57 v.toNatClampNeg) :: r) := by
  unfold xAld
  dsimp only
  rw [show (rH e g q c l)[57]? = some (.inl (0, 1300, .inl (c 57))) from rfl]
  dsimp only
  rw [if_pos ⟨rfl, h⟩]
set_option maxRecDepth 100000 in
set_option maxHeartbeats 4000000 in
theorem ald_58 {v : Int32} {r : List Value} {e : Nat → x_E} {g : Nat → Int32} {q : Nat → Int64} {c : Nat → Nat → Int32} {l : Nat → Nat → Int64} (h : ¬ (v < 0 ∨ 100 ≤ v.toNatClampNeg)) : xAld 0 (rH e g q c l) (.int v :: .ref 58 :: r) = some (.int (c 58 v.toNatClampNeg) :: r) := by
  unfold xAld
  dsimp only
  rw [show (rH e g q c l)[58]? = some (.inl (0, 100, .inl (c 58))) from rfl]
  dsimp only
  rw [if_pos ⟨rfl, h⟩]
set_option maxRecDepth 100000 in
set_option maxHeartbeats 4000000 in
theorem ald_60 {v : Int32} {r : List Value} {e : Nat → x_E} {g : Nat → Int32} {q : Nat → Int64} {c : Nat → Nat → Int32} {l : Nat → Nat → Int64} (h : ¬ (v < 0 ∨ 64 ≤ v.toNatClampNeg)) : xAld 0 (rH e g q c l) (.int v :: .ref 60 :: r) = some (.int (c 60 v.toNatClampNeg) :: r) := by
  unfold xAld
  dsimp only
  rw [show (rH e g q c l)[60]? = some (.inl (0, 64, .inl (c 60))) from rfl]
  dsimp only
  rw [if_pos ⟨rfl, h⟩]
set_option maxRecDepth 100000 in
set_option maxHeartbeats 4000000 in
theorem ald_61 {v : Int32} {r : List Value} {e : Nat → x_E} {g : Nat → Int32} {q : Nat → Int64} {c : Nat → Nat → Int32} {l : Nat → Nat → Int64} (h : ¬ (v < 0 ∨ 64 ≤ v.toNatClampNeg)) : xAld 0 (rH e g q c l) (.int v :: .ref 61 :: r) = some (.int (c 61 v.toNatClampNeg) :: r) := by
  unfold xAld
  dsimp only
  rw [show (rH e g q c l)[61]? = some (.inl (0, 64, .inl (c 61))) from rfl]
  dsimp only
  rw [if_pos ⟨rfl, h⟩]
set_option maxRecDepth 100000 in
set_option maxHeartbeats 4000000 in
theorem ald_62 {v : Int32} {r : List Value} {e : Nat → x_E} {g : Nat → Int32} {q : Nat → Int64} {c : Nat → Nat → Int32} {l : Nat → Nat → Int64} (h : ¬ (v < 0 ∨ 4000 ≤ v.toNatClampNeg)) : xAld 0 (rH e g q c l) (.int v :: .ref 62 :: r) = some (.int (c 62 v.toNatClampNeg) :: r) := by
  unfold xAld
  dsimp only
  rw [show (rH e g q c l)[62]? = some (.inl (0, 4000, .inl (c 62))) from rfl]
  dsimp only
  rw [if_pos ⟨rfl, h⟩]
set_option maxRecDepth 100000 in
set_option maxHeartbeats 4000000 in
theorem ald_63 {v : Int32} {r : List Value} {e : Nat → x_E} {g : Nat → Int32} {q : Nat → Int64} {c : Nat → Nat → Int32} {l : Nat → Nat → Int64} (h : ¬ (v < 0 ∨ 4000 ≤ v.toNatClampNeg)) : xAld 0 (rH e g q c l) (.int v :: .ref 63 :: r) = some (.int (c 63 v.toNatClampNeg) :: r) := by
  unfold xAld
  dsimp only
  rw [show (rH e g q c l)[63]? = some (.inl (0, 4000, .inl (c 63))) from rfl]
  dsimp only
  rw [if_pos ⟨rfl, h⟩]
set_option maxRecDepth 100000 in
set_option maxHeartbeats 4000000 in
theorem ald_64 {v : Int32} {r : List Value} {e : Nat → x_E} {g : Nat → Int32} {q : Nat → Int64} {c : Nat → Nat → Int32} {l : Nat → Nat → Int64} (h : ¬ (v < 0 ∨ 4000 ≤ v.toNatClampNeg)) : xAld 0 (rH e g q c l) (.int v :: .ref 64 :: r) = some (.int (c 64 v.toNatClampNeg) :: r) := by
  unfold xAld
  dsimp only
  rw [show (rH e g q c l)[64]? = some (.inl (0, 4000, .inl (c 64))) from rfl]
  dsimp only
  rw [if_pos ⟨rfl, h⟩]
set_option maxRecDepth 100000 in
set_option maxHeartbeats 4000000 in
theorem ald_65 {v : Int32} {r : List Value} {e : Nat → x_E} {g : Nat → Int32} {q : Nat → Int64} {c : Nat → Nat → Int32} {l : Nat → Nat → Int64} (h : ¬ (v < 0 ∨ 4000 ≤ v.toNatClampNeg)) : xAld 0 (rH e g q c l) (.int v :: .ref 65 :: r) = some (.int (c 65 v.toNatClampNeg) :: r) := by
  unfold xAld
  dsimp only
  rw [show (rH e g q c l)[65]? = some (.inl (0, 4000, .inl (c 65))) from rfl]
  dsimp only
  rw [if_pos ⟨rfl, h⟩]
set_option maxRecDepth 100000 in
set_option maxHeartbeats 4000000 in
theorem ald_67 {v : Int32} {r : List Value} {e : Nat → x_E} {g : Nat → Int32} {q : Nat → Int64} {c : Nat → Nat → Int32} {l : Nat → Nat → Int64} (h : ¬ (v < 0 ∨ 900 ≤ v.toNatClampNeg)) : xAld 0 (rH e g q c l) (.int v :: .ref 67 :: r) = some (.int (c 67 v.toNatClampNeg) :: r) := by
  unfold xAld
  dsimp only
  rw [show (rH e g q c l)[67]? = some (.inl (0, 900, .inl (c 67))) from rfl]
  dsimp only
  rw [if_pos ⟨rfl, h⟩]
set_option maxRecDepth 100000 in
set_option maxHeartbeats 4000000 in
theorem ald_68 {v : Int32} {r : List Value} {e : Nat → x_E} {g : Nat → Int32} {q : Nat → Int64} {c : Nat → Nat → Int32} {l : Nat → Nat → Int64} (h : ¬ (v < 0 ∨ 900 ≤ v.toNatClampNeg)) : xAld 0 (rH e g q c l) (.int v :: .ref 68 :: r) = some (.int (c 68 v.toNatClampNeg) :: r) := by
  unfold xAld
  dsimp only
  rw [show (rH e g q c l)[68]? = some (.inl (0, 900, .inl (c 68))) from rfl]
  dsimp only
  rw [if_pos ⟨rfl, h⟩]
set_option maxRecDepth 100000 in
set_option maxHeartbeats 4000000 in
theorem ald_69 {v : Int32} {r : List Value} {e : Nat → x_E} {g : Nat → Int32} {q : Nat → Int64} {c : Nat → Nat → Int32} {l : Nat → Nat → Int64} (h : ¬ (v < 0 ∨ 900 ≤ v.toNatClampNeg)) : xAld 0 (rH e g q c l) (.int v :: .ref 69 :: r) = some (.int (c 69 v.toNatClampNeg) :: r) := by
  unfold xAld
  dsimp only
  rw [show (rH e g q c l)[69]? = some (.inl (0, 900, .inl (c 69))) from rfl]
  dsimp only
  rw [if_pos ⟨rfl, h⟩]
set_option maxRecDepth 100000 in
set_option maxHeartbeats 4000000 in
theorem ald_71 {v : Int32} {r : List Value} {e : Nat → x_E} {g : Nat → Int32} {q : Nat → Int64} {c : Nat → Nat → Int32} {l : Nat → Nat → Int64} (h : ¬ (v < 0 ∨ 900 ≤ v.toNatClampNeg)) : xAld 4 (rH e g q c l) (.int v :: .ref 71 :: r) = some (.int (c 71 v.toNatClampNeg) :: r) := by
  unfold xAld
  dsimp only
  rw [show (rH e g q c l)[71]? = some (.inl (4, 900, .inl (c 71))) from rfl]
  dsimp only
  rw [if_pos ⟨rfl, h⟩]
set_option maxRecDepth 100000 in
set_option maxHeartbeats 4000000 in
theorem ald_73 {v : Int32} {r : List Value} {e : Nat → x_E} {g : Nat → Int32} {q : Nat → Int64} {c : Nat → Nat → Int32} {l : Nat → Nat → Int64} (h : ¬ (v < 0 ∨ 80 ≤ v.toNatClampNeg)) : xAld 0 (rH e g q c l) (.int v :: .ref 73 :: r) = some (.int (c 73 v.toNatClampNeg) :: r) := by
  unfold xAld
  dsimp only
  rw [show (rH e g q c l)[73]? = some (.inl (0, 80, .inl (c 73))) from rfl]
  dsimp only
  rw [if_pos ⟨rfl, h⟩]
set_option maxRecDepth 100000 in
set_option maxHeartbeats 4000000 in
theorem ald_74 {v : Int32} {r : List Value} {e : Nat → x_E} {g : Nat → Int32} {q : Nat → Int64} {c : Nat → Nat → Int32} {l : Nat → Nat → Int64} (h : ¬ (v < 0 ∨ 80 ≤ v.toNatClampNeg)) : xAld 0 (rH e g q c l) (.int v :: .ref 74 :: r) = some (.int (c 74 v.toNatClampNeg) :: r) := by
  unfold xAld
  dsimp only
  rw [show (rH e g q c l)[74]? = some (.inl (0, 80, .inl (c 74))) from rfl]
  dsimp only
  rw [if_pos ⟨rfl, h⟩]
set_option maxRecDepth 100000 in
set_option maxHeartbeats 4000000 in
theorem ald_75 {v : Int32} {r : List Value} {e : Nat → x_E} {g : Nat → Int32} {q : Nat → Int64} {c : Nat → Nat → Int32} {l : Nat → Nat → Int64} (h : ¬ (v < 0 ∨ 400 ≤ v.toNatClampNeg)) : xAld 0 (rH e g q c l) (.int v :: .ref 75 :: r) = some (.int (c 75 v.toNatClampNeg) :: r) := by
  unfold xAld
  dsimp only
  rw [show (rH e g q c l)[75]? = some (.inl (0, 400, .inl (c 75))) from rfl]
  dsimp only
  rw [if_pos ⟨rfl, h⟩]
set_option maxRecDepth 100000 in
set_option maxHeartbeats 4000000 in
theorem ald_76 {v : Int32} {r : List Value} {e : Nat → x_E} {g : Nat → Int32} {q : Nat → Int64} {c : Nat → Nat → Int32} {l : Nat → Nat → Int64} (h : ¬ (v < 0 ∨ 2000 ≤ v.toNatClampNeg)) : xAld 0 (rH e g q c l) (.int v :: .ref 76 :: r) = some (.int (c 76 v.toNatClampNeg) :: r) := by
  unfold xAld
  dsimp only
  rw [show (rH e g q c l)[76]? = some (.inl (0, 2000, .inl (c 76))) from rfl]
  dsimp only
  rw [if_pos ⟨rfl, h⟩]
set_option maxRecDepth 100000 in
set_option maxHeartbeats 4000000 in
theorem ald_77 {v : Int32} {r : List Value} {e : Nat → x_E} {g : Nat → Int32} {q : Nat → Int64} {c : Nat → Nat → Int32} {l : Nat → Nat → Int64} (h : ¬ (v < 0 ∨ 21000 ≤ v.toNatClampNeg)) : xAld 0 (rH e g q c l) (.int v :: .ref 77 :: r) = some (.int (c 77 v.toNatClampNeg) :: r) := by
  unfold xAld
  dsimp only
  rw [show (rH e g q c l)[77]? = some (.inl (0, 21000, .inl (c 77))) from rfl]
  dsimp only
  rw [if_pos ⟨rfl, h⟩]
set_option maxRecDepth 100000 in
set_option maxHeartbeats 4000000 in
theorem ald_78 {v : Int32} {r : List Value} {e : Nat → x_E} {g : Nat → Int32} {q : Nat → Int64} {c : Nat → Nat → Int32} {l : Nat → Nat → Int64} (h : ¬ (v < 0 ∨ 435200 ≤ v.toNatClampNeg)) : xAld 0 (rH e g q c l) (.int v :: .ref 78 :: r) = some (.int (c 78 v.toNatClampNeg) :: r) := by
  unfold xAld
  dsimp only
  rw [show (rH e g q c l)[78]? = some (.inl (0, 435200, .inl (c 78))) from rfl]
  dsimp only
  rw [if_pos ⟨rfl, h⟩]
set_option maxRecDepth 100000 in
set_option maxHeartbeats 4000000 in
theorem ald_79 {v : Int32} {r : List Value} {e : Nat → x_E} {g : Nat → Int32} {q : Nat → Int64} {c : Nat → Nat → Int32} {l : Nat → Nat → Int64} (h : ¬ (v < 0 ∨ 6800 ≤ v.toNatClampNeg)) : xAld 0 (rH e g q c l) (.int v :: .ref 79 :: r) = some (.int (c 79 v.toNatClampNeg) :: r) := by
  unfold xAld
  dsimp only
  rw [show (rH e g q c l)[79]? = some (.inl (0, 6800, .inl (c 79))) from rfl]
  dsimp only
  rw [if_pos ⟨rfl, h⟩]
set_option maxRecDepth 100000 in
set_option maxHeartbeats 4000000 in
theorem ald_80 {v : Int32} {r : List Value} {e : Nat → x_E} {g : Nat → Int32} {q : Nat → Int64} {c : Nat → Nat → Int32} {l : Nat → Nat → Int64} (h : ¬ (v < 0 ∨ 1500000 ≤ v.toNatClampNeg)) : xAld 0 (rH e g q c l) (.int v :: .ref 80 :: r) = some (.int (c 80 v.toNatClampNeg) :: r) := by
  unfold xAld
  dsimp only
  rw [show (rH e g q c l)[80]? = some (.inl (0, 1500000, .inl (c 80))) from rfl]
  dsimp only
  rw [if_pos ⟨rfl, h⟩]
set_option maxRecDepth 100000 in
set_option maxHeartbeats 4000000 in
theorem ald_81 {v : Int32} {r : List Value} {e : Nat → x_E} {g : Nat → Int32} {q : Nat → Int64} {c : Nat → Nat → Int32} {l : Nat → Nat → Int64} (h : ¬ (v < 0 ∨ 4000 ≤ v.toNatClampNeg)) : xAld 0 (rH e g q c l) (.int v :: .ref 81 :: r) = some (.int (c 81 v.toNatClampNeg) :: r) := by
  unfold xAld
  dsimp only
  rw [show (rH e g q c l)[81]? = some (.inl (0, 4000, .inl (c 81))) from rfl]
  dsimp only
  rw [if_pos ⟨rfl, h⟩]
set_option maxRecDepth 100000 in
set_option maxHeartbeats 4000000 in
theorem ald_82 {v : Int32} {r : List Value} {e : Nat → x_E} {g : Nat → Int32} {q : Nat → Int64} {c : Nat → Nat → Int32} {l : Nat → Nat → Int64} (h : ¬ (v < 0 ∨ 1000 ≤ v.toNatClampNeg)) : xAld 0 (rH e g q c l) (.int v :: .ref 82 :: r) = some (.int (c 82 v.toNatClampNeg) :: r) := by
  unfold xAld
  dsimp only
  rw [show (rH e g q c l)[82]? = some (.inl (0, 1000, .inl (c 82))) from rfl]
  dsimp only
  rw [if_pos ⟨rfl, h⟩]
set_option maxRecDepth 100000 in
set_option maxHeartbeats 4000000 in
theorem ald_83 {v : Int32} {r : List Value} {e : Nat → x_E} {g : Nat → Int32} {q : Nat → Int64} {c : Nat → Nat → Int32} {l : Nat → Nat → Int64} (h : ¬ (v < 0 ∨ 1000 ≤ v.toNatClampNeg)) : xAld 0 (rH e g q c l) (.int v :: .ref 83 :: r) = some (.int (c 83 v.toNatClampNeg) :: r) := by
  unfold xAld
  dsimp only
  rw [show (rH e g q c l)[83]? = some (.inl (0, 1000, .inl (c 83))) from rfl]
  dsimp only
  rw [if_pos ⟨rfl, h⟩]
set_option maxRecDepth 100000 in
set_option maxHeartbeats 4000000 in
theorem ald_84 {v : Int32} {r : List Value} {e : Nat → x_E} {g : Nat → Int32} {q : Nat → Int64} {c : Nat → Nat → Int32} {l : Nat → Nat → Int64} (h : ¬ (v < 0 ∨ 1000 ≤ v.toNatClampNeg)) : xAld 4 (rH e g q c l) (.int v :: .ref 84 :: r) = some (.int (c 84 v.toNatClampNeg) :: r) := by
  unfold xAld
  dsimp only
  rw [show (rH e g q c l)[84]? = some (.inl (4, 1000, .inl (c 84))) from rfl]
  dsimp only
  rw [if_pos ⟨rfl, h⟩]
set_option maxRecDepth 100000 in
set_option maxHeartbeats 4000000 in
theorem ald_85 {v : Int32} {r : List Value} {e : Nat → x_E} {g : Nat → Int32} {q : Nat → Int64} {c : Nat → Nat → Int32} {l : Nat → Nat → Int64} (h : ¬ (v < 0 ∨ 8 ≤ v.toNatClampNeg)) : xAld 0 (rH e g q c l) (.int v :: .ref 85 :: r) = some (.int (c 85 v.toNatClampNeg) :: r) := by
  unfold xAld
  dsimp only
  rw [show (rH e g q c l)[85]? = some (.inl (0, 8, .inl (c 85))) from rfl]
  dsimp only
  rw [if_pos ⟨rfl, h⟩]
set_option maxRecDepth 100000 in
set_option maxHeartbeats 4000000 in
theorem ald_86 {v : Int32} {r : List Value} {e : Nat → x_E} {g : Nat → Int32} {q : Nat → Int64} {c : Nat → Nat → Int32} {l : Nat → Nat → Int64} (h : ¬ (v < 0 ∨ 66000 ≤ v.toNatClampNeg)) : xAld 0 (rH e g q c l) (.int v :: .ref 86 :: r) = some (.int (c 86 v.toNatClampNeg) :: r) := by
  unfold xAld
  dsimp only
  rw [show (rH e g q c l)[86]? = some (.inl (0, 66000, .inl (c 86))) from rfl]
  dsimp only
  rw [if_pos ⟨rfl, h⟩]
set_option maxRecDepth 100000 in
set_option maxHeartbeats 4000000 in
theorem ald_87 {v : Int32} {r : List Value} {e : Nat → x_E} {g : Nat → Int32} {q : Nat → Int64} {c : Nat → Nat → Int32} {l : Nat → Nat → Int64} (h : ¬ (v < 0 ∨ 66000 ≤ v.toNatClampNeg)) : xAld 0 (rH e g q c l) (.int v :: .ref 87 :: r) = some (.int (c 87 v.toNatClampNeg) :: r) := by
  unfold xAld
  dsimp only
  rw [show (rH e g q c l)[87]? = some (.inl (0, 66000, .inl (c 87))) from rfl]
  dsimp only
  rw [if_pos ⟨rfl, h⟩]
set_option maxRecDepth 100000 in
set_option maxHeartbeats 4000000 in
theorem ald_88 {v : Int32} {r : List Value} {e : Nat → x_E} {g : Nat → Int32} {q : Nat → Int64} {c : Nat → Nat → Int32} {l : Nat → Nat → Int64} (h : ¬ (v < 0 ∨ 66000 ≤ v.toNatClampNeg)) : xAld 0 (rH e g q c l) (.int v :: .ref 88 :: r) = some (.int (c 88 v.toNatClampNeg) :: r) := by
  unfold xAld
  dsimp only
  rw [show (rH e g q c l)[88]? = some (.inl (0, 66000, .inl (c 88))) from rfl]
  dsimp only
  rw [if_pos ⟨rfl, h⟩]
set_option maxRecDepth 100000 in
set_option maxHeartbeats 4000000 in
theorem ald_89 {v : Int32} {r : List Value} {e : Nat → x_E} {g : Nat → Int32} {q : Nat → Int64} {c : Nat → Nat → Int32} {l : Nat → Nat → Int64} (h : ¬ (v < 0 ∨ 66000 ≤ v.toNatClampNeg)) : xAld 0 (rH e g q c l) (.int v :: .ref 89 :: r) = some (.int (c 89 v.toNatClampNeg) :: r) := by
  unfold xAld
  dsimp only
  rw [show (rH e g q c l)[89]? = some (.inl (0, 66000, .inl (c 89))) from rfl]
  dsimp only
  rw [if_pos ⟨rfl, h⟩]
set_option maxRecDepth 100000 in
set_option maxHeartbeats 4000000 in
theorem ald_90 {v : Int32} {r : List Value} {e : Nat → x_E} {g : Nat → Int32} {q : Nat → Int64} {c : Nat → Nat → Int32} {l : Nat → Nat → Int64} (h : ¬ (v < 0 ∨ 66000 ≤ v.toNatClampNeg)) : xAld 0 (rH e g q c l) (.int v :: .ref 90 :: r) = some (.int (c 90 v.toNatClampNeg) :: r) := by
  unfold xAld
  dsimp only
  rw [show (rH e g q c l)[90]? = some (.inl (0, 66000, .inl (c 90))) from rfl]
  dsimp only
  rw [if_pos ⟨rfl, h⟩]
set_option maxRecDepth 100000 in
set_option maxHeartbeats 4000000 in
theorem ald_91 {v : Int32} {r : List Value} {e : Nat → x_E} {g : Nat → Int32} {q : Nat → Int64} {c : Nat → Nat → Int32} {l : Nat → Nat → Int64} (h : ¬ (v < 0 ∨ 66000 ≤ v.toNatClampNeg)) : xAld 0 (rH e g q c l) (.int v :: .ref 91 :: r) = some (.int (c 91 v.toNatClampNeg) :: r) := by
  unfold xAld
  dsimp only
  rw [show (rH e g q c l)[91]? = some (.inl (0, 66000, .inl (c 91))) from rfl]
  dsimp only
  rw [if_pos ⟨rfl, h⟩]
set_option maxRecDepth 100000 in
set_option maxHeartbeats 4000000 in
theorem ald_92 {v : Int32} {r : List Value} {e : Nat → x_E} {g : Nat → Int32} {q : Nat → Int64} {c : Nat → Nat → Int32} {l : Nat → Nat → Int64} (h : ¬ (v < 0 ∨ 80000 ≤ v.toNatClampNeg)) : xAld 0 (rH e g q c l) (.int v :: .ref 92 :: r) = some (.int (c 92 v.toNatClampNeg) :: r) := by
  unfold xAld
  dsimp only
  rw [show (rH e g q c l)[92]? = some (.inl (0, 80000, .inl (c 92))) from rfl]
  dsimp only
  rw [if_pos ⟨rfl, h⟩]
set_option maxRecDepth 100000 in
set_option maxHeartbeats 4000000 in
theorem ald_94 {v : Int32} {r : List Value} {e : Nat → x_E} {g : Nat → Int32} {q : Nat → Int64} {c : Nat → Nat → Int32} {l : Nat → Nat → Int64} (h : ¬ (v < 0 ∨ 1400 ≤ v.toNatClampNeg)) : xAld 0 (rH e g q c l) (.int v :: .ref 94 :: r) = some (.int (c 94 v.toNatClampNeg) :: r) := by
  unfold xAld
  dsimp only
  rw [show (rH e g q c l)[94]? = some (.inl (0, 1400, .inl (c 94))) from rfl]
  dsimp only
  rw [if_pos ⟨rfl, h⟩]
set_option maxRecDepth 100000 in
set_option maxHeartbeats 4000000 in
theorem ald_95 {v : Int32} {r : List Value} {e : Nat → x_E} {g : Nat → Int32} {q : Nat → Int64} {c : Nat → Nat → Int32} {l : Nat → Nat → Int64} (h : ¬ (v < 0 ∨ 1400 ≤ v.toNatClampNeg)) : xAld 0 (rH e g q c l) (.int v :: .ref 95 :: r) = some (.int (c 95 v.toNatClampNeg) :: r) := by
  unfold xAld
  dsimp only
  rw [show (rH e g q c l)[95]? = some (.inl (0, 1400, .inl (c 95))) from rfl]
  dsimp only
  rw [if_pos ⟨rfl, h⟩]
set_option maxRecDepth 100000 in
set_option maxHeartbeats 4000000 in
theorem ald_96 {v : Int32} {r : List Value} {e : Nat → x_E} {g : Nat → Int32} {q : Nat → Int64} {c : Nat → Nat → Int32} {l : Nat → Nat → Int64} (h : ¬ (v < 0 ∨ 1400 ≤ v.toNatClampNeg)) : xAld 0 (rH e g q c l) (.int v :: .ref 96 :: r) = some (.int (c 96 v.toNatClampNeg) :: r) := by
  unfold xAld
  dsimp only
  rw [show (rH e g q c l)[96]? = some (.inl (0, 1400, .inl (c 96))) from rfl]
  dsimp only
  rw [if_pos ⟨rfl, h⟩]
set_option maxRecDepth 100000 in
set_option maxHeartbeats 4000000 in
theorem ald_97 {v : Int32} {r : List Value} {e : Nat → x_E} {g : Nat → Int32} {q : Nat → Int64} {c : Nat → Nat → Int32} {l : Nat → Nat → Int64} (h : ¬ (v < 0 ∨ 1400 ≤ v.toNatClampNeg)) : xAld 0 (rH e g q c l) (.int v :: .ref 97 :: r) = some (.int (c 97 v.toNatClampNeg) :: r) := by
  unfold xAld
  dsimp only
  rw [show (rH e g q c l)[97]? = some (.inl (0, 1400, .inl (c 97))) from rfl]
  dsimp only
  rw [if_pos ⟨rfl, h⟩]
set_option maxRecDepth 100000 in
set_option maxHeartbeats 4000000 in
theorem ald_98 {v : Int32} {r : List Value} {e : Nat → x_E} {g : Nat → Int32} {q : Nat → Int64} {c : Nat → Nat → Int32} {l : Nat → Nat → Int64} (h : ¬ (v < 0 ∨ 66000 ≤ v.toNatClampNeg)) : xAld 0 (rH e g q c l) (.int v :: .ref 98 :: r) = some (.int (c 98 v.toNatClampNeg) :: r) := by
  unfold xAld
  dsimp only
  rw [show (rH e g q c l)[98]? = some (.inl (0, 66000, .inl (c 98))) from rfl]
  dsimp only
  rw [if_pos ⟨rfl, h⟩]
set_option maxRecDepth 100000 in
set_option maxHeartbeats 4000000 in
theorem ald_99 {v : Int32} {r : List Value} {e : Nat → x_E} {g : Nat → Int32} {q : Nat → Int64} {c : Nat → Nat → Int32} {l : Nat → Nat → Int64} (h : ¬ (v < 0 ∨ 66000 ≤ v.toNatClampNeg)) : xAld 0 (rH e g q c l) (.int v :: .ref 99 :: r) = some (.int (c 99 v.toNatClampNeg) :: r) := by
  unfold xAld
  dsimp only
  rw [show (rH e g q c l)[99]? = some (.inl (0, 66000, .inl (c 99))) from rfl]
  dsimp only
  rw [if_pos ⟨rfl, h⟩]
set_option maxRecDepth 100000 in
set_option maxHeartbeats 4000000 in
theorem ald_100 {v : Int32} {r : List Value} {e : Nat → x_E} {g : Nat → Int32} {q : Nat → Int64} {c : Nat → Nat → Int32} {l : Nat → Nat → Int64} (h : ¬ (v < 0 ∨ 3000 ≤ v.toNatClampNeg)) : xAld 0 (rH e g q c l) (.int v :: .ref 100 :: r) = some (.int (c 100 v.toNatClampNeg) :: r) := by
  unfold xAld
  dsimp only
  rw [show (rH e g q c l)[100]? = some (.inl (0, 3000, .inl (c 100))) from rfl]
  dsimp only
  rw [if_pos ⟨rfl, h⟩]
set_option maxRecDepth 100000 in
set_option maxHeartbeats 4000000 in
theorem ald_101 {v : Int32} {r : List Value} {e : Nat → x_E} {g : Nat → Int32} {q : Nat → Int64} {c : Nat → Nat → Int32} {l : Nat → Nat → Int64} (h : ¬ (v < 0 ∨ 3000 ≤ v.toNatClampNeg)) : xAld 0 (rH e g q c l) (.int v :: .ref 101 :: r) = some (.int (c 101 v.toNatClampNeg) :: r) := by
  unfold xAld
  dsimp only
  rw [show (rH e g q c l)[101]? = some (.inl (0, 3000, .inl (c 101))) from rfl]
  dsimp only
  rw [if_pos ⟨rfl, h⟩]
set_option maxRecDepth 100000 in
set_option maxHeartbeats 4000000 in
theorem ald_102 {v : Int32} {r : List Value} {e : Nat → x_E} {g : Nat → Int32} {q : Nat → Int64} {c : Nat → Nat → Int32} {l : Nat → Nat → Int64} (h : ¬ (v < 0 ∨ 3000 ≤ v.toNatClampNeg)) : xAld 0 (rH e g q c l) (.int v :: .ref 102 :: r) = some (.int (c 102 v.toNatClampNeg) :: r) := by
  unfold xAld
  dsimp only
  rw [show (rH e g q c l)[102]? = some (.inl (0, 3000, .inl (c 102))) from rfl]
  dsimp only
  rw [if_pos ⟨rfl, h⟩]
set_option maxRecDepth 100000 in
set_option maxHeartbeats 4000000 in
theorem ald_103 {v : Int32} {r : List Value} {e : Nat → x_E} {g : Nat → Int32} {q : Nat → Int64} {c : Nat → Nat → Int32} {l : Nat → Nat → Int64} (h : ¬ (v < 0 ∨ 3000 ≤ v.toNatClampNeg)) : xAld 0 (rH e g q c l) (.int v :: .ref 103 :: r) = some (.int (c 103 v.toNatClampNeg) :: r) := by
  unfold xAld
  dsimp only
  rw [show (rH e g q c l)[103]? = some (.inl (0, 3000, .inl (c 103))) from rfl]
  dsimp only
  rw [if_pos ⟨rfl, h⟩]
set_option maxRecDepth 100000 in
set_option maxHeartbeats 4000000 in
theorem ald_104 {v : Int32} {r : List Value} {e : Nat → x_E} {g : Nat → Int32} {q : Nat → Int64} {c : Nat → Nat → Int32} {l : Nat → Nat → Int64} (h : ¬ (v < 0 ∨ 1400 ≤ v.toNatClampNeg)) : xAld 0 (rH e g q c l) (.int v :: .ref 104 :: r) = some (.int (c 104 v.toNatClampNeg) :: r) := by
  unfold xAld
  dsimp only
  rw [show (rH e g q c l)[104]? = some (.inl (0, 1400, .inl (c 104))) from rfl]
  dsimp only
  rw [if_pos ⟨rfl, h⟩]
set_option maxRecDepth 100000 in
set_option maxHeartbeats 4000000 in
theorem ald_105 {v : Int32} {r : List Value} {e : Nat → x_E} {g : Nat → Int32} {q : Nat → Int64} {c : Nat → Nat → Int32} {l : Nat → Nat → Int64} (h : ¬ (v < 0 ∨ 1400 ≤ v.toNatClampNeg)) : xAld 0 (rH e g q c l) (.int v :: .ref 105 :: r) = some (.int (c 105 v.toNatClampNeg) :: r) := by
  unfold xAld
  dsimp only
  rw [show (rH e g q c l)[105]? = some (.inl (0, 1400, .inl (c 105))) from rfl]
  dsimp only
  rw [if_pos ⟨rfl, h⟩]
set_option maxRecDepth 100000 in
set_option maxHeartbeats 4000000 in
theorem ald_107 {v : Int32} {r : List Value} {e : Nat → x_E} {g : Nat → Int32} {q : Nat → Int64} {c : Nat → Nat → Int32} {l : Nat → Nat → Int64} (h : ¬ (v < 0 ∨ 41 ≤ v.toNatClampNeg)) : xAld 0 (rH e g q c l) (.int v :: .ref 107 :: r) = some (.int (c 107 v.toNatClampNeg) :: r) := by
  unfold xAld
  dsimp only
  rw [show (rH e g q c l)[107]? = some (.inl (0, 41, .inl (c 107))) from rfl]
  dsimp only
  rw [if_pos ⟨rfl, h⟩]
set_option maxRecDepth 100000 in
set_option maxHeartbeats 4000000 in
theorem ald_108 {v : Int32} {r : List Value} {e : Nat → x_E} {g : Nat → Int32} {q : Nat → Int64} {c : Nat → Nat → Int32} {l : Nat → Nat → Int64} (h : ¬ (v < 0 ∨ 41 ≤ v.toNatClampNeg)) : xAld 0 (rH e g q c l) (.int v :: .ref 108 :: r) = some (.int (c 108 v.toNatClampNeg) :: r) := by
  unfold xAld
  dsimp only
  rw [show (rH e g q c l)[108]? = some (.inl (0, 41, .inl (c 108))) from rfl]
  dsimp only
  rw [if_pos ⟨rfl, h⟩]
set_option maxRecDepth 100000 in
set_option maxHeartbeats 4000000 in
theorem ald_109 {v : Int32} {r : List Value} {e : Nat → x_E} {g : Nat → Int32} {q : Nat → Int64} {c : Nat → Nat → Int32} {l : Nat → Nat → Int64} (h : ¬ (v < 0 ∨ 41 ≤ v.toNatClampNeg)) : xAld 0 (rH e g q c l) (.int v :: .ref 109 :: r) = some (.int (c 109 v.toNatClampNeg) :: r) := by
  unfold xAld
  dsimp only
  rw [show (rH e g q c l)[109]? = some (.inl (0, 41, .inl (c 109))) from rfl]
  dsimp only
  rw [if_pos ⟨rfl, h⟩]
set_option maxRecDepth 100000 in
set_option maxHeartbeats 4000000 in
theorem ald_110 {v : Int32} {r : List Value} {e : Nat → x_E} {g : Nat → Int32} {q : Nat → Int64} {c : Nat → Nat → Int32} {l : Nat → Nat → Int64} (h : ¬ (v < 0 ∨ 41 ≤ v.toNatClampNeg)) : xAld 0 (rH e g q c l) (.int v :: .ref 110 :: r) = some (.int (c 110 v.toNatClampNeg) :: r) := by
  unfold xAld
  dsimp only
  rw [show (rH e g q c l)[110]? = some (.inl (0, 41, .inl (c 110))) from rfl]
  dsimp only
  rw [if_pos ⟨rfl, h⟩]
set_option maxRecDepth 100000 in
set_option maxHeartbeats 4000000 in
theorem ald_111 {v : Int32} {r : List Value} {e : Nat → x_E} {g : Nat → Int32} {q : Nat → Int64} {c : Nat → Nat → Int32} {l : Nat → Nat → Int64} (h : ¬ (v < 0 ∨ 700 ≤ v.toNatClampNeg)) : xAld 0 (rH e g q c l) (.int v :: .ref 111 :: r) = some (.int (c 111 v.toNatClampNeg) :: r) := by
  unfold xAld
  dsimp only
  rw [show (rH e g q c l)[111]? = some (.inl (0, 700, .inl (c 111))) from rfl]
  dsimp only
  rw [if_pos ⟨rfl, h⟩]
set_option maxRecDepth 100000 in
set_option maxHeartbeats 4000000 in
theorem ald_112 {v : Int32} {r : List Value} {e : Nat → x_E} {g : Nat → Int32} {q : Nat → Int64} {c : Nat → Nat → Int32} {l : Nat → Nat → Int64} (h : ¬ (v < 0 ∨ 700 ≤ v.toNatClampNeg)) : xAld 0 (rH e g q c l) (.int v :: .ref 112 :: r) = some (.int (c 112 v.toNatClampNeg) :: r) := by
  unfold xAld
  dsimp only
  rw [show (rH e g q c l)[112]? = some (.inl (0, 700, .inl (c 112))) from rfl]
  dsimp only
  rw [if_pos ⟨rfl, h⟩]
set_option maxRecDepth 100000 in
set_option maxHeartbeats 4000000 in
theorem ald_113 {v : Int32} {r : List Value} {e : Nat → x_E} {g : Nat → Int32} {q : Nat → Int64} {c : Nat → Nat → Int32} {l : Nat → Nat → Int64} (h : ¬ (v < 0 ∨ 700 ≤ v.toNatClampNeg)) : xAld 0 (rH e g q c l) (.int v :: .ref 113 :: r) = some (.int (c 113 v.toNatClampNeg) :: r) := by
  unfold xAld
  dsimp only
  rw [show (rH e g q c l)[113]? = some (.inl (0, 700, .inl (c 113))) from rfl]
  dsimp only
  rw [if_pos ⟨rfl, h⟩]
set_option maxRecDepth 100000 in
set_option maxHeartbeats 4000000 in
theorem ald_114 {v : Int32} {r : List Value} {e : Nat → x_E} {g : Nat → Int32} {q : Nat → Int64} {c : Nat → Nat → Int32} {l : Nat → Nat → Int64} (h : ¬ (v < 0 ∨ 700 ≤ v.toNatClampNeg)) : xAld 0 (rH e g q c l) (.int v :: .ref 114 :: r) = some (.int (c 114 v.toNatClampNeg) :: r) := by
  unfold xAld
  dsimp only
  rw [show (rH e g q c l)[114]? = some (.inl (0, 700, .inl (c 114))) from rfl]
  dsimp only
  rw [if_pos ⟨rfl, h⟩]
set_option maxRecDepth 100000 in
set_option maxHeartbeats 4000000 in
theorem ald_115 {v : Int32} {r : List Value} {e : Nat → x_E} {g : Nat → Int32} {q : Nat → Int64} {c : Nat → Nat → Int32} {l : Nat → Nat → Int64} (h : ¬ (v < 0 ∨ 700 ≤ v.toNatClampNeg)) : xAld 0 (rH e g q c l) (.int v :: .ref 115 :: r) = some (.int (c 115 v.toNatClampNeg) :: r) := by
  unfold xAld
  dsimp only
  rw [show (rH e g q c l)[115]? = some (.inl (0, 700, .inl (c 115))) from rfl]
  dsimp only
  rw [if_pos ⟨rfl, h⟩]
set_option maxRecDepth 100000 in
set_option maxHeartbeats 4000000 in
theorem ald_116 {v : Int32} {r : List Value} {e : Nat → x_E} {g : Nat → Int32} {q : Nat → Int64} {c : Nat → Nat → Int32} {l : Nat → Nat → Int64} (h : ¬ (v < 0 ∨ 700 ≤ v.toNatClampNeg)) : xAld 0 (rH e g q c l) (.int v :: .ref 116 :: r) = some (.int (c 116 v.toNatClampNeg) :: r) := by
  unfold xAld
  dsimp only
  rw [show (rH e g q c l)[116]? = some (.inl (0, 700, .inl (c 116))) from rfl]
  dsimp only
  rw [if_pos ⟨rfl, h⟩]
set_option maxRecDepth 100000 in
set_option maxHeartbeats 4000000 in
theorem ald_118 {v : Int32} {r : List Value} {e : Nat → x_E} {g : Nat → Int32} {q : Nat → Int64} {c : Nat → Nat → Int32} {l : Nat → Nat → Int64} (h : ¬ (v < 0 ∨ 16 ≤ v.toNatClampNeg)) : xAld 0 (rH e g q c l) (.int v :: .ref 118 :: r) = some (.int (c 118 v.toNatClampNeg) :: r) := by
  unfold xAld
  dsimp only
  rw [show (rH e g q c l)[118]? = some (.inl (0, 16, .inl (c 118))) from rfl]
  dsimp only
  rw [if_pos ⟨rfl, h⟩]
set_option maxRecDepth 100000 in
set_option maxHeartbeats 4000000 in
theorem ald_119 {v : Int32} {r : List Value} {e : Nat → x_E} {g : Nat → Int32} {q : Nat → Int64} {c : Nat → Nat → Int32} {l : Nat → Nat → Int64} (h : ¬ (v < 0 ∨ 24000 ≤ v.toNatClampNeg)) : xAld 0 (rH e g q c l) (.int v :: .ref 119 :: r) = some (.int (c 119 v.toNatClampNeg) :: r) := by
  unfold xAld
  dsimp only
  rw [show (rH e g q c l)[119]? = some (.inl (0, 24000, .inl (c 119))) from rfl]
  dsimp only
  rw [if_pos ⟨rfl, h⟩]
set_option maxRecDepth 100000 in
set_option maxHeartbeats 4000000 in
theorem ald_120 {v : Int32} {r : List Value} {e : Nat → x_E} {g : Nat → Int32} {q : Nat → Int64} {c : Nat → Nat → Int32} {l : Nat → Nat → Int64} (h : ¬ (v < 0 ∨ 16 ≤ v.toNatClampNeg)) : xAld 0 (rH e g q c l) (.int v :: .ref 120 :: r) = some (.int (c 120 v.toNatClampNeg) :: r) := by
  unfold xAld
  dsimp only
  rw [show (rH e g q c l)[120]? = some (.inl (0, 16, .inl (c 120))) from rfl]
  dsimp only
  rw [if_pos ⟨rfl, h⟩]
set_option maxRecDepth 100000 in
set_option maxHeartbeats 4000000 in
theorem ald_121 {v : Int32} {r : List Value} {e : Nat → x_E} {g : Nat → Int32} {q : Nat → Int64} {c : Nat → Nat → Int32} {l : Nat → Nat → Int64} (h : ¬ (v < 0 ∨ 20001 ≤ v.toNatClampNeg)) : xAld 0 (rH e g q c l) (.int v :: .ref 121 :: r) = some (.int (c 121 v.toNatClampNeg) :: r) := by
  unfold xAld
  dsimp only
  rw [show (rH e g q c l)[121]? = some (.inl (0, 20001, .inl (c 121))) from rfl]
  dsimp only
  rw [if_pos ⟨rfl, h⟩]
set_option maxRecDepth 100000 in
set_option maxHeartbeats 4000000 in
theorem ast_51 {v x : Int32} {r : List Value} {e : Nat → x_E} {g : Nat → Int32} {q : Nat → Int64} {c : Nat → Nat → Int32} {l : Nat → Nat → Int64} (h : ¬ (v < 0 ∨ 6000 ≤ v.toNatClampNeg)) : xAst 0 (fun x => x) (rH e g q c l) (.int x :: .int v :: .ref 51 :: r) = some (r, rH e g q (updA c 51 (upd (c 51) v.toNatClampNeg x)) l) := by
  unfold xAst
  dsimp only
  rw [show (rH e g q c l)[51]? = some (.inl (0, 6000, .inl (c 51))) from rfl]
  dsimp only
  rw [if_pos ⟨rfl, h⟩]
  rfl
set_option maxRecDepth 100000 in
set_option maxHeartbeats 4000000 in
theorem ast_55 {v x : Int32} {r : List Value} {e : Nat → x_E} {g : Nat → Int32} {q : Nat → Int64} {c : Nat → Nat → Int32} {l : Nat → Nat → Int64} (h : ¬ (v < 0 ∨ 66000 ≤ v.toNatClampNeg)) : xAst 0 (fun x => x) (rH e g q c l) (.int x :: .int v :: .ref 55 :: r) = some (r, rH e g q (updA c 55 (upd (c 55) v.toNatClampNeg x)) l) := by
  unfold xAst
  dsimp only
  rw [show (rH e g q c l)[55]? = some (.inl (0, 66000, .inl (c 55))) from rfl]
  dsimp only
  rw [if_pos ⟨rfl, h⟩]
  rfl
set_option maxRecDepth 100000 in
set_option maxHeartbeats 4000000 in
theorem ast_56 {v x : Int32} {r : List Value} {e : Nat → x_E} {g : Nat → Int32} {q : Nat → Int64} {c : Nat → Nat → Int32} {l : Nat → Nat → Int64} (h : ¬ (v < 0 ∨ 1300 ≤ v.toNatClampNeg)) : xAst 0 (fun x => x) (rH e g q c l) (.int x :: .int v :: .ref 56 :: r) = some (r, rH e g q (updA c 56 (upd (c 56) v.toNatClampNeg x)) l) := by
  unfold xAst
  dsimp only
  rw [show (rH e g q c l)[56]? = some (.inl (0, 1300, .inl (c 56))) from rfl]
  dsimp only
  rw [if_pos ⟨rfl, h⟩]
  rfl
set_option maxRecDepth 100000 in
set_option maxHeartbeats 4000000 in
theorem ast_57 {v x : Int32} {r : List Value} {e : Nat → x_E} {g : Nat → Int32} {q : Nat → Int64} {c : Nat → Nat → Int32} {l : Nat → Nat → Int64} (h : ¬ (v < 0 ∨ 1300 ≤ v.toNatClampNeg)) : xAst 0 (fun x => x) (rH e g q c l) (.int x :: .int v :: .ref 57 :: r) = some (r, rH e g q (updA c 57 (upd (c 57) v.toNatClampNeg x)) l) := by
  unfold xAst
  dsimp only
  rw [show (rH e g q c l)[57]? = some (.inl (0, 1300, .inl (c 57))) from rfl]
  dsimp only
  rw [if_pos ⟨rfl, h⟩]
  rfl
set_option maxRecDepth 100000 in
set_option maxHeartbeats 4000000 in
theorem ast_58 {v x : Int32} {r : List Value} {e : Nat → x_E} {g : Nat → Int32} {q : Nat → Int64} {c : Nat → Nat → Int32} {l : Nat → Nat → Int64} (h : ¬ (v < 0 ∨ 100 ≤ v.toNatClampNeg)) : xAst 0 (fun x => x) (rH e g q c l) (.int x :: .int v :: .ref 58 :: r) = some (r, rH e g q (updA c 58 (upd (c 58) v.toNatClampNeg x)) l) := by
  unfold xAst
  dsimp only
  rw [show (rH e g q c l)[58]? = some (.inl (0, 100, .inl (c 58))) from rfl]
  dsimp only
  rw [if_pos ⟨rfl, h⟩]
  rfl
set_option maxRecDepth 100000 in
set_option maxHeartbeats 4000000 in
theorem ast_60 {v x : Int32} {r : List Value} {e : Nat → x_E} {g : Nat → Int32} {q : Nat → Int64} {c : Nat → Nat → Int32} {l : Nat → Nat → Int64} (h : ¬ (v < 0 ∨ 64 ≤ v.toNatClampNeg)) : xAst 0 (fun x => x) (rH e g q c l) (.int x :: .int v :: .ref 60 :: r) = some (r, rH e g q (updA c 60 (upd (c 60) v.toNatClampNeg x)) l) := by
  unfold xAst
  dsimp only
  rw [show (rH e g q c l)[60]? = some (.inl (0, 64, .inl (c 60))) from rfl]
  dsimp only
  rw [if_pos ⟨rfl, h⟩]
  rfl
set_option maxRecDepth 100000 in
set_option maxHeartbeats 4000000 in
theorem ast_61 {v x : Int32} {r : List Value} {e : Nat → x_E} {g : Nat → Int32} {q : Nat → Int64} {c : Nat → Nat → Int32} {l : Nat → Nat → Int64} (h : ¬ (v < 0 ∨ 64 ≤ v.toNatClampNeg)) : xAst 0 (fun x => x) (rH e g q c l) (.int x :: .int v :: .ref 61 :: r) = some (r, rH e g q (updA c 61 (upd (c 61) v.toNatClampNeg x)) l) := by
  unfold xAst
  dsimp only
  rw [show (rH e g q c l)[61]? = some (.inl (0, 64, .inl (c 61))) from rfl]
  dsimp only
  rw [if_pos ⟨rfl, h⟩]
  rfl
set_option maxRecDepth 100000 in
set_option maxHeartbeats 4000000 in
theorem ast_62 {v x : Int32} {r : List Value} {e : Nat → x_E} {g : Nat → Int32} {q : Nat → Int64} {c : Nat → Nat → Int32} {l : Nat → Nat → Int64} (h : ¬ (v < 0 ∨ 4000 ≤ v.toNatClampNeg)) : xAst 0 (fun x => x) (rH e g q c l) (.int x :: .int v :: .ref 62 :: r) = some (r, rH e g q (updA c 62 (upd (c 62) v.toNatClampNeg x)) l) := by
  unfold xAst
  dsimp only
  rw [show (rH e g q c l)[62]? = some (.inl (0, 4000, .inl (c 62))) from rfl]
  dsimp only
  rw [if_pos ⟨rfl, h⟩]
  rfl
set_option maxRecDepth 100000 in
set_option maxHeartbeats 4000000 in
theorem ast_63 {v x : Int32} {r : List Value} {e : Nat → x_E} {g : Nat → Int32} {q : Nat → Int64} {c : Nat → Nat → Int32} {l : Nat → Nat → Int64} (h : ¬ (v < 0 ∨ 4000 ≤ v.toNatClampNeg)) : xAst 0 (fun x => x) (rH e g q c l) (.int x :: .int v :: .ref 63 :: r) = some (r, rH e g q (updA c 63 (upd (c 63) v.toNatClampNeg x)) l) := by
  unfold xAst
  dsimp only
  rw [show (rH e g q c l)[63]? = some (.inl (0, 4000, .inl (c 63))) from rfl]
  dsimp only
  rw [if_pos ⟨rfl, h⟩]
  rfl
set_option maxRecDepth 100000 in
set_option maxHeartbeats 4000000 in
theorem ast_64 {v x : Int32} {r : List Value} {e : Nat → x_E} {g : Nat → Int32} {q : Nat → Int64} {c : Nat → Nat → Int32} {l : Nat → Nat → Int64} (h : ¬ (v < 0 ∨ 4000 ≤ v.toNatClampNeg)) : xAst 0 (fun x => x) (rH e g q c l) (.int x :: .int v :: .ref 64 :: r) = some (r, rH e g q (updA c 64 (upd (c 64) v.toNatClampNeg x)) l) := by
  unfold xAst
  dsimp only
  rw [show (rH e g q c l)[64]? = some (.inl (0, 4000, .inl (c 64))) from rfl]
  dsimp only
  rw [if_pos ⟨rfl, h⟩]
  rfl
set_option maxRecDepth 100000 in
set_option maxHeartbeats 4000000 in
theorem ast_65 {v x : Int32} {r : List Value} {e : Nat → x_E} {g : Nat → Int32} {q : Nat → Int64} {c : Nat → Nat → Int32} {l : Nat → Nat → Int64} (h : ¬ (v < 0 ∨ 4000 ≤ v.toNatClampNeg)) : xAst 0 (fun x => x) (rH e g q c l) (.int x :: .int v :: .ref 65 :: r) = some (r, rH e g q (updA c 65 (upd (c 65) v.toNatClampNeg x)) l) := by
  unfold xAst
  dsimp only
  rw [show (rH e g q c l)[65]? = some (.inl (0, 4000, .inl (c 65))) from rfl]
  dsimp only
  rw [if_pos ⟨rfl, h⟩]
  rfl
set_option maxRecDepth 100000 in
set_option maxHeartbeats 4000000 in
theorem ast_67 {v x : Int32} {r : List Value} {e : Nat → x_E} {g : Nat → Int32} {q : Nat → Int64} {c : Nat → Nat → Int32} {l : Nat → Nat → Int64} (h : ¬ (v < 0 ∨ 900 ≤ v.toNatClampNeg)) : xAst 0 (fun x => x) (rH e g q c l) (.int x :: .int v :: .ref 67 :: r) = some (r, rH e g q (updA c 67 (upd (c 67) v.toNatClampNeg x)) l) := by
  unfold xAst
  dsimp only
  rw [show (rH e g q c l)[67]? = some (.inl (0, 900, .inl (c 67))) from rfl]
  dsimp only
  rw [if_pos ⟨rfl, h⟩]
  rfl
set_option maxRecDepth 100000 in
set_option maxHeartbeats 4000000 in
theorem ast_68 {v x : Int32} {r : List Value} {e : Nat → x_E} {g : Nat → Int32} {q : Nat → Int64} {c : Nat → Nat → Int32} {l : Nat → Nat → Int64} (h : ¬ (v < 0 ∨ 900 ≤ v.toNatClampNeg)) : xAst 0 (fun x => x) (rH e g q c l) (.int x :: .int v :: .ref 68 :: r) = some (r, rH e g q (updA c 68 (upd (c 68) v.toNatClampNeg x)) l) := by
  unfold xAst
  dsimp only
  rw [show (rH e g q c l)[68]? = some (.inl (0, 900, .inl (c 68))) from rfl]
  dsimp only
  rw [if_pos ⟨rfl, h⟩]
  rfl
set_option maxRecDepth 100000 in
set_option maxHeartbeats 4000000 in
theorem ast_69 {v x : Int32} {r : List Value} {e : Nat → x_E} {g : Nat → Int32} {q : Nat → Int64} {c : Nat → Nat → Int32} {l : Nat → Nat → Int64} (h : ¬ (v < 0 ∨ 900 ≤ v.toNatClampNeg)) : xAst 0 (fun x => x) (rH e g q c l) (.int x :: .int v :: .ref 69 :: r) = some (r, rH e g q (updA c 69 (upd (c 69) v.toNatClampNeg x)) l) := by
  unfold xAst
  dsimp only
  rw [show (rH e g q c l)[69]? = some (.inl (0, 900, .inl (c 69))) from rfl]
  dsimp only
  rw [if_pos ⟨rfl, h⟩]
  rfl
set_option maxRecDepth 100000 in
set_option maxHeartbeats 4000000 in
theorem ast_73 {v x : Int32} {r : List Value} {e : Nat → x_E} {g : Nat → Int32} {q : Nat → Int64} {c : Nat → Nat → Int32} {l : Nat → Nat → Int64} (h : ¬ (v < 0 ∨ 80 ≤ v.toNatClampNeg)) : xAst 0 (fun x => x) (rH e g q c l) (.int x :: .int v :: .ref 73 :: r) = some (r, rH e g q (updA c 73 (upd (c 73) v.toNatClampNeg x)) l) := by
  unfold xAst
  dsimp only
  rw [show (rH e g q c l)[73]? = some (.inl (0, 80, .inl (c 73))) from rfl]
  dsimp only
  rw [if_pos ⟨rfl, h⟩]
  rfl
set_option maxRecDepth 100000 in
set_option maxHeartbeats 4000000 in
theorem ast_74 {v x : Int32} {r : List Value} {e : Nat → x_E} {g : Nat → Int32} {q : Nat → Int64} {c : Nat → Nat → Int32} {l : Nat → Nat → Int64} (h : ¬ (v < 0 ∨ 80 ≤ v.toNatClampNeg)) : xAst 0 (fun x => x) (rH e g q c l) (.int x :: .int v :: .ref 74 :: r) = some (r, rH e g q (updA c 74 (upd (c 74) v.toNatClampNeg x)) l) := by
  unfold xAst
  dsimp only
  rw [show (rH e g q c l)[74]? = some (.inl (0, 80, .inl (c 74))) from rfl]
  dsimp only
  rw [if_pos ⟨rfl, h⟩]
  rfl
set_option maxRecDepth 100000 in
set_option maxHeartbeats 4000000 in
theorem ast_75 {v x : Int32} {r : List Value} {e : Nat → x_E} {g : Nat → Int32} {q : Nat → Int64} {c : Nat → Nat → Int32} {l : Nat → Nat → Int64} (h : ¬ (v < 0 ∨ 400 ≤ v.toNatClampNeg)) : xAst 0 (fun x => x) (rH e g q c l) (.int x :: .int v :: .ref 75 :: r) = some (r, rH e g q (updA c 75 (upd (c 75) v.toNatClampNeg x)) l) := by
  unfold xAst
  dsimp only
  rw [show (rH e g q c l)[75]? = some (.inl (0, 400, .inl (c 75))) from rfl]
  dsimp only
  rw [if_pos ⟨rfl, h⟩]
  rfl
set_option maxRecDepth 100000 in
set_option maxHeartbeats 4000000 in
theorem ast_76 {v x : Int32} {r : List Value} {e : Nat → x_E} {g : Nat → Int32} {q : Nat → Int64} {c : Nat → Nat → Int32} {l : Nat → Nat → Int64} (h : ¬ (v < 0 ∨ 2000 ≤ v.toNatClampNeg)) : xAst 0 (fun x => x) (rH e g q c l) (.int x :: .int v :: .ref 76 :: r) = some (r, rH e g q (updA c 76 (upd (c 76) v.toNatClampNeg x)) l) := by
  unfold xAst
  dsimp only
  rw [show (rH e g q c l)[76]? = some (.inl (0, 2000, .inl (c 76))) from rfl]
  dsimp only
  rw [if_pos ⟨rfl, h⟩]
  rfl
set_option maxRecDepth 100000 in
set_option maxHeartbeats 4000000 in
theorem ast_77 {v x : Int32} {r : List Value} {e : Nat → x_E} {g : Nat → Int32} {q : Nat → Int64} {c : Nat → Nat → Int32} {l : Nat → Nat → Int64} (h : ¬ (v < 0 ∨ 21000 ≤ v.toNatClampNeg)) : xAst 0 (fun x => x) (rH e g q c l) (.int x :: .int v :: .ref 77 :: r) = some (r, rH e g q (updA c 77 (upd (c 77) v.toNatClampNeg x)) l) := by
  unfold xAst
  dsimp only
  rw [show (rH e g q c l)[77]? = some (.inl (0, 21000, .inl (c 77))) from rfl]
  dsimp only
  rw [if_pos ⟨rfl, h⟩]
  rfl
set_option maxRecDepth 100000 in
set_option maxHeartbeats 4000000 in
theorem ast_78 {v x : Int32} {r : List Value} {e : Nat → x_E} {g : Nat → Int32} {q : Nat → Int64} {c : Nat → Nat → Int32} {l : Nat → Nat → Int64} (h : ¬ (v < 0 ∨ 435200 ≤ v.toNatClampNeg)) : xAst 0 (fun x => x) (rH e g q c l) (.int x :: .int v :: .ref 78 :: r) = some (r, rH e g q (updA c 78 (upd (c 78) v.toNatClampNeg x)) l) := by
  unfold xAst
  dsimp only
  rw [show (rH e g q c l)[78]? = some (.inl (0, 435200, .inl (c 78))) from rfl]
  dsimp only
  rw [if_pos ⟨rfl, h⟩]
  rfl
set_option maxRecDepth 100000 in
set_option maxHeartbeats 4000000 in
theorem ast_79 {v x : Int32} {r : List Value} {e : Nat → x_E} {g : Nat → Int32} {q : Nat → Int64} {c : Nat → Nat → Int32} {l : Nat → Nat → Int64} (h : ¬ (v < 0 ∨ 6800 ≤ v.toNatClampNeg)) : xAst 0 (fun x => x) (rH e g q c l) (.int x :: .int v :: .ref 79 :: r) = some (r, rH e g q (updA c 79 (upd (c 79) v.toNatClampNeg x)) l) := by
  unfold xAst
  dsimp only
  rw [show (rH e g q c l)[79]? = some (.inl (0, 6800, .inl (c 79))) from rfl]
  dsimp only
  rw [if_pos ⟨rfl, h⟩]
  rfl
set_option maxRecDepth 100000 in
set_option maxHeartbeats 4000000 in
theorem ast_80 {v x : Int32} {r : List Value} {e : Nat → x_E} {g : Nat → Int32} {q : Nat → Int64} {c : Nat → Nat → Int32} {l : Nat → Nat → Int64} (h : ¬ (v < 0 ∨ 1500000 ≤ v.toNatClampNeg)) : xAst 0 (fun x => x) (rH e g q c l) (.int x :: .int v :: .ref 80 :: r) = some (r, rH e g q (updA c 80 (upd (c 80) v.toNatClampNeg x)) l) := by
  unfold xAst
  dsimp only
  rw [show (rH e g q c l)[80]? = some (.inl (0, 1500000, .inl (c 80))) from rfl]
  dsimp only
  rw [if_pos ⟨rfl, h⟩]
  rfl
set_option maxRecDepth 100000 in
set_option maxHeartbeats 4000000 in
theorem ast_81 {v x : Int32} {r : List Value} {e : Nat → x_E} {g : Nat → Int32} {q : Nat → Int64} {c : Nat → Nat → Int32} {l : Nat → Nat → Int64} (h : ¬ (v < 0 ∨ 4000 ≤ v.toNatClampNeg)) : xAst 0 (fun x => x) (rH e g q c l) (.int x :: .int v :: .ref 81 :: r) = some (r, rH e g q (updA c 81 (upd (c 81) v.toNatClampNeg x)) l) := by
  unfold xAst
  dsimp only
  rw [show (rH e g q c l)[81]? = some (.inl (0, 4000, .inl (c 81))) from rfl]
  dsimp only
  rw [if_pos ⟨rfl, h⟩]
  rfl
set_option maxRecDepth 100000 in
set_option maxHeartbeats 4000000 in
theorem ast_82 {v x : Int32} {r : List Value} {e : Nat → x_E} {g : Nat → Int32} {q : Nat → Int64} {c : Nat → Nat → Int32} {l : Nat → Nat → Int64} (h : ¬ (v < 0 ∨ 1000 ≤ v.toNatClampNeg)) : xAst 0 (fun x => x) (rH e g q c l) (.int x :: .int v :: .ref 82 :: r) = some (r, rH e g q (updA c 82 (upd (c 82) v.toNatClampNeg x)) l) := by
  unfold xAst
  dsimp only
  rw [show (rH e g q c l)[82]? = some (.inl (0, 1000, .inl (c 82))) from rfl]
  dsimp only
  rw [if_pos ⟨rfl, h⟩]
  rfl
set_option maxRecDepth 100000 in
set_option maxHeartbeats 4000000 in
theorem ast_83 {v x : Int32} {r : List Value} {e : Nat → x_E} {g : Nat → Int32} {q : Nat → Int64} {c : Nat → Nat → Int32} {l : Nat → Nat → Int64} (h : ¬ (v < 0 ∨ 1000 ≤ v.toNatClampNeg)) : xAst 0 (fun x => x) (rH e g q c l) (.int x :: .int v :: .ref 83 :: r) = some (r, rH e g q (updA c 83 (upd (c 83) v.toNatClampNeg x)) l) := by
  unfold xAst
  dsimp only
  rw [show (rH e g q c l)[83]? = some (.inl (0, 1000, .inl (c 83))) from rfl]
  dsimp only
  rw [if_pos ⟨rfl, h⟩]
  rfl
set_option maxRecDepth 100000 in
set_option maxHeartbeats 4000000 in
theorem ast_85 {v x : Int32} {r : List Value} {e : Nat → x_E} {g : Nat → Int32} {q : Nat → Int64} {c : Nat → Nat → Int32} {l : Nat → Nat → Int64} (h : ¬ (v < 0 ∨ 8 ≤ v.toNatClampNeg)) : xAst 0 (fun x => x) (rH e g q c l) (.int x :: .int v :: .ref 85 :: r) = some (r, rH e g q (updA c 85 (upd (c 85) v.toNatClampNeg x)) l) := by
  unfold xAst
  dsimp only
  rw [show (rH e g q c l)[85]? = some (.inl (0, 8, .inl (c 85))) from rfl]
  dsimp only
  rw [if_pos ⟨rfl, h⟩]
  rfl
set_option maxRecDepth 100000 in
set_option maxHeartbeats 4000000 in
theorem ast_86 {v x : Int32} {r : List Value} {e : Nat → x_E} {g : Nat → Int32} {q : Nat → Int64} {c : Nat → Nat → Int32} {l : Nat → Nat → Int64} (h : ¬ (v < 0 ∨ 66000 ≤ v.toNatClampNeg)) : xAst 0 (fun x => x) (rH e g q c l) (.int x :: .int v :: .ref 86 :: r) = some (r, rH e g q (updA c 86 (upd (c 86) v.toNatClampNeg x)) l) := by
  unfold xAst
  dsimp only
  rw [show (rH e g q c l)[86]? = some (.inl (0, 66000, .inl (c 86))) from rfl]
  dsimp only
  rw [if_pos ⟨rfl, h⟩]
  rfl
set_option maxRecDepth 100000 in
set_option maxHeartbeats 4000000 in
theorem ast_87 {v x : Int32} {r : List Value} {e : Nat → x_E} {g : Nat → Int32} {q : Nat → Int64} {c : Nat → Nat → Int32} {l : Nat → Nat → Int64} (h : ¬ (v < 0 ∨ 66000 ≤ v.toNatClampNeg)) : xAst 0 (fun x => x) (rH e g q c l) (.int x :: .int v :: .ref 87 :: r) = some (r, rH e g q (updA c 87 (upd (c 87) v.toNatClampNeg x)) l) := by
  unfold xAst
  dsimp only
  rw [show (rH e g q c l)[87]? = some (.inl (0, 66000, .inl (c 87))) from rfl]
  dsimp only
  rw [if_pos ⟨rfl, h⟩]
  rfl
set_option maxRecDepth 100000 in
set_option maxHeartbeats 4000000 in
theorem ast_88 {v x : Int32} {r : List Value} {e : Nat → x_E} {g : Nat → Int32} {q : Nat → Int64} {c : Nat → Nat → Int32} {l : Nat → Nat → Int64} (h : ¬ (v < 0 ∨ 66000 ≤ v.toNatClampNeg)) : xAst 0 (fun x => x) (rH e g q c l) (.int x :: .int v :: .ref 88 :: r) = some (r, rH e g q (updA c 88 (upd (c 88) v.toNatClampNeg x)) l) := by
  unfold xAst
  dsimp only
  rw [show (rH e g q c l)[88]? = some (.inl (0, 66000, .inl (c 88))) from rfl]
  dsimp only
  rw [if_pos ⟨rfl, h⟩]
  rfl
set_option maxRecDepth 100000 in
set_option maxHeartbeats 4000000 in
theorem ast_89 {v x : Int32} {r : List Value} {e : Nat → x_E} {g : Nat → Int32} {q : Nat → Int64} {c : Nat → Nat → Int32} {l : Nat → Nat → Int64} (h : ¬ (v < 0 ∨ 66000 ≤ v.toNatClampNeg)) : xAst 0 (fun x => x) (rH e g q c l) (.int x :: .int v :: .ref 89 :: r) = some (r, rH e g q (updA c 89 (upd (c 89) v.toNatClampNeg x)) l) := by
  unfold xAst
  dsimp only
  rw [show (rH e g q c l)[89]? = some (.inl (0, 66000, .inl (c 89))) from rfl]
  dsimp only
  rw [if_pos ⟨rfl, h⟩]
  rfl
set_option maxRecDepth 100000 in
set_option maxHeartbeats 4000000 in
theorem ast_90 {v x : Int32} {r : List Value} {e : Nat → x_E} {g : Nat → Int32} {q : Nat → Int64} {c : Nat → Nat → Int32} {l : Nat → Nat → Int64} (h : ¬ (v < 0 ∨ 66000 ≤ v.toNatClampNeg)) : xAst 0 (fun x => x) (rH e g q c l) (.int x :: .int v :: .ref 90 :: r) = some (r, rH e g q (updA c 90 (upd (c 90) v.toNatClampNeg x)) l) := by
  unfold xAst
  dsimp only
  rw [show (rH e g q c l)[90]? = some (.inl (0, 66000, .inl (c 90))) from rfl]
  dsimp only
  rw [if_pos ⟨rfl, h⟩]
  rfl
set_option maxRecDepth 100000 in
set_option maxHeartbeats 4000000 in
theorem ast_91 {v x : Int32} {r : List Value} {e : Nat → x_E} {g : Nat → Int32} {q : Nat → Int64} {c : Nat → Nat → Int32} {l : Nat → Nat → Int64} (h : ¬ (v < 0 ∨ 66000 ≤ v.toNatClampNeg)) : xAst 0 (fun x => x) (rH e g q c l) (.int x :: .int v :: .ref 91 :: r) = some (r, rH e g q (updA c 91 (upd (c 91) v.toNatClampNeg x)) l) := by
  unfold xAst
  dsimp only
  rw [show (rH e g q c l)[91]? = some (.inl (0, 66000, .inl (c 91))) from rfl]
  dsimp only
  rw [if_pos ⟨rfl, h⟩]
  rfl
set_option maxRecDepth 100000 in
set_option maxHeartbeats 4000000 in
theorem ast_92 {v x : Int32} {r : List Value} {e : Nat → x_E} {g : Nat → Int32} {q : Nat → Int64} {c : Nat → Nat → Int32} {l : Nat → Nat → Int64} (h : ¬ (v < 0 ∨ 80000 ≤ v.toNatClampNeg)) : xAst 0 (fun x => x) (rH e g q c l) (.int x :: .int v :: .ref 92 :: r) = some (r, rH e g q (updA c 92 (upd (c 92) v.toNatClampNeg x)) l) := by
  unfold xAst
  dsimp only
  rw [show (rH e g q c l)[92]? = some (.inl (0, 80000, .inl (c 92))) from rfl]
  dsimp only
  rw [if_pos ⟨rfl, h⟩]
  rfl
set_option maxRecDepth 100000 in
set_option maxHeartbeats 4000000 in
theorem ast_94 {v x : Int32} {r : List Value} {e : Nat → x_E} {g : Nat → Int32} {q : Nat → Int64} {c : Nat → Nat → Int32} {l : Nat → Nat → Int64} (h : ¬ (v < 0 ∨ 1400 ≤ v.toNatClampNeg)) : xAst 0 (fun x => x) (rH e g q c l) (.int x :: .int v :: .ref 94 :: r) = some (r, rH e g q (updA c 94 (upd (c 94) v.toNatClampNeg x)) l) := by
  unfold xAst
  dsimp only
  rw [show (rH e g q c l)[94]? = some (.inl (0, 1400, .inl (c 94))) from rfl]
  dsimp only
  rw [if_pos ⟨rfl, h⟩]
  rfl
set_option maxRecDepth 100000 in
set_option maxHeartbeats 4000000 in
theorem ast_95 {v x : Int32} {r : List Value} {e : Nat → x_E} {g : Nat → Int32} {q : Nat → Int64} {c : Nat → Nat → Int32} {l : Nat → Nat → Int64} (h : ¬ (v < 0 ∨ 1400 ≤ v.toNatClampNeg)) : xAst 0 (fun x => x) (rH e g q c l) (.int x :: .int v :: .ref 95 :: r) = some (r, rH e g q (updA c 95 (upd (c 95) v.toNatClampNeg x)) l) := by
  unfold xAst
  dsimp only
  rw [show (rH e g q c l)[95]? = some (.inl (0, 1400, .inl (c 95))) from rfl]
  dsimp only
  rw [if_pos ⟨rfl, h⟩]
  rfl
set_option maxRecDepth 100000 in
set_option maxHeartbeats 4000000 in
theorem ast_96 {v x : Int32} {r : List Value} {e : Nat → x_E} {g : Nat → Int32} {q : Nat → Int64} {c : Nat → Nat → Int32} {l : Nat → Nat → Int64} (h : ¬ (v < 0 ∨ 1400 ≤ v.toNatClampNeg)) : xAst 0 (fun x => x) (rH e g q c l) (.int x :: .int v :: .ref 96 :: r) = some (r, rH e g q (updA c 96 (upd (c 96) v.toNatClampNeg x)) l) := by
  unfold xAst
  dsimp only
  rw [show (rH e g q c l)[96]? = some (.inl (0, 1400, .inl (c 96))) from rfl]
  dsimp only
  rw [if_pos ⟨rfl, h⟩]
  rfl
set_option maxRecDepth 100000 in
set_option maxHeartbeats 4000000 in
theorem ast_97 {v x : Int32} {r : List Value} {e : Nat → x_E} {g : Nat → Int32} {q : Nat → Int64} {c : Nat → Nat → Int32} {l : Nat → Nat → Int64} (h : ¬ (v < 0 ∨ 1400 ≤ v.toNatClampNeg)) : xAst 0 (fun x => x) (rH e g q c l) (.int x :: .int v :: .ref 97 :: r) = some (r, rH e g q (updA c 97 (upd (c 97) v.toNatClampNeg x)) l) := by
  unfold xAst
  dsimp only
  rw [show (rH e g q c l)[97]? = some (.inl (0, 1400, .inl (c 97))) from rfl]
  dsimp only
  rw [if_pos ⟨rfl, h⟩]
  rfl
set_option maxRecDepth 100000 in
set_option maxHeartbeats 4000000 in
theorem ast_98 {v x : Int32} {r : List Value} {e : Nat → x_E} {g : Nat → Int32} {q : Nat → Int64} {c : Nat → Nat → Int32} {l : Nat → Nat → Int64} (h : ¬ (v < 0 ∨ 66000 ≤ v.toNatClampNeg)) : xAst 0 (fun x => x) (rH e g q c l) (.int x :: .int v :: .ref 98 :: r) = some (r, rH e g q (updA c 98 (upd (c 98) v.toNatClampNeg x)) l) := by
  unfold xAst
  dsimp only
  rw [show (rH e g q c l)[98]? = some (.inl (0, 66000, .inl (c 98))) from rfl]
  dsimp only
  rw [if_pos ⟨rfl, h⟩]
  rfl
set_option maxRecDepth 100000 in
set_option maxHeartbeats 4000000 in
theorem ast_99 {v x : Int32} {r : List Value} {e : Nat → x_E} {g : Nat → Int32} {q : Nat → Int64} {c : Nat → Nat → Int32} {l : Nat → Nat → Int64} (h : ¬ (v < 0 ∨ 66000 ≤ v.toNatClampNeg)) : xAst 0 (fun x => x) (rH e g q c l) (.int x :: .int v :: .ref 99 :: r) = some (r, rH e g q (updA c 99 (upd (c 99) v.toNatClampNeg x)) l) := by
  unfold xAst
  dsimp only
  rw [show (rH e g q c l)[99]? = some (.inl (0, 66000, .inl (c 99))) from rfl]
  dsimp only
  rw [if_pos ⟨rfl, h⟩]
  rfl
set_option maxRecDepth 100000 in
set_option maxHeartbeats 4000000 in
theorem ast_100 {v x : Int32} {r : List Value} {e : Nat → x_E} {g : Nat → Int32} {q : Nat → Int64} {c : Nat → Nat → Int32} {l : Nat → Nat → Int64} (h : ¬ (v < 0 ∨ 3000 ≤ v.toNatClampNeg)) : xAst 0 (fun x => x) (rH e g q c l) (.int x :: .int v :: .ref 100 :: r) = some (r, rH e g q (updA c 100 (upd (c 100) v.toNatClampNeg x)) l) := by
  unfold xAst
  dsimp only
  rw [show (rH e g q c l)[100]? = some (.inl (0, 3000, .inl (c 100))) from rfl]
  dsimp only
  rw [if_pos ⟨rfl, h⟩]
  rfl
set_option maxRecDepth 100000 in
set_option maxHeartbeats 4000000 in
theorem ast_101 {v x : Int32} {r : List Value} {e : Nat → x_E} {g : Nat → Int32} {q : Nat → Int64} {c : Nat → Nat → Int32} {l : Nat → Nat → Int64} (h : ¬ (v < 0 ∨ 3000 ≤ v.toNatClampNeg)) : xAst 0 (fun x => x) (rH e g q c l) (.int x :: .int v :: .ref 101 :: r) = some (r, rH e g q (updA c 101 (upd (c 101) v.toNatClampNeg x)) l) := by
  unfold xAst
  dsimp only
  rw [show (rH e g q c l)[101]? = some (.inl (0, 3000, .inl (c 101))) from rfl]
  dsimp only
  rw [if_pos ⟨rfl, h⟩]
  rfl
set_option maxRecDepth 100000 in
set_option maxHeartbeats 4000000 in
theorem ast_102 {v x : Int32} {r : List Value} {e : Nat → x_E} {g : Nat → Int32} {q : Nat → Int64} {c : Nat → Nat → Int32} {l : Nat → Nat → Int64} (h : ¬ (v < 0 ∨ 3000 ≤ v.toNatClampNeg)) : xAst 0 (fun x => x) (rH e g q c l) (.int x :: .int v :: .ref 102 :: r) = some (r, rH e g q (updA c 102 (upd (c 102) v.toNatClampNeg x)) l) := by
  unfold xAst
  dsimp only
  rw [show (rH e g q c l)[102]? = some (.inl (0, 3000, .inl (c 102))) from rfl]
  dsimp only
  rw [if_pos ⟨rfl, h⟩]
  rfl
set_option maxRecDepth 100000 in
set_option maxHeartbeats 4000000 in
theorem ast_103 {v x : Int32} {r : List Value} {e : Nat → x_E} {g : Nat → Int32} {q : Nat → Int64} {c : Nat → Nat → Int32} {l : Nat → Nat → Int64} (h : ¬ (v < 0 ∨ 3000 ≤ v.toNatClampNeg)) : xAst 0 (fun x => x) (rH e g q c l) (.int x :: .int v :: .ref 103 :: r) = some (r, rH e g q (updA c 103 (upd (c 103) v.toNatClampNeg x)) l) := by
  unfold xAst
  dsimp only
  rw [show (rH e g q c l)[103]? = some (.inl (0, 3000, .inl (c 103))) from rfl]
  dsimp only
  rw [if_pos ⟨rfl, h⟩]
  rfl
set_option maxRecDepth 100000 in
set_option maxHeartbeats 4000000 in
theorem ast_104 {v x : Int32} {r : List Value} {e : Nat → x_E} {g : Nat → Int32} {q : Nat → Int64} {c : Nat → Nat → Int32} {l : Nat → Nat → Int64} (h : ¬ (v < 0 ∨ 1400 ≤ v.toNatClampNeg)) : xAst 0 (fun x => x) (rH e g q c l) (.int x :: .int v :: .ref 104 :: r) = some (r, rH e g q (updA c 104 (upd (c 104) v.toNatClampNeg x)) l) := by
  unfold xAst
  dsimp only
  rw [show (rH e g q c l)[104]? = some (.inl (0, 1400, .inl (c 104))) from rfl]
  dsimp only
  rw [if_pos ⟨rfl, h⟩]
  rfl
set_option maxRecDepth 100000 in
set_option maxHeartbeats 4000000 in
theorem ast_105 {v x : Int32} {r : List Value} {e : Nat → x_E} {g : Nat → Int32} {q : Nat → Int64} {c : Nat → Nat → Int32} {l : Nat → Nat → Int64} (h : ¬ (v < 0 ∨ 1400 ≤ v.toNatClampNeg)) : xAst 0 (fun x => x) (rH e g q c l) (.int x :: .int v :: .ref 105 :: r) = some (r, rH e g q (updA c 105 (upd (c 105) v.toNatClampNeg x)) l) := by
  unfold xAst
  dsimp only
  rw [show (rH e g q c l)[105]? = some (.inl (0, 1400, .inl (c 105))) from rfl]
  dsimp only
  rw [if_pos ⟨rfl, h⟩]
  rfl
set_option maxRecDepth 100000 in
set_option maxHeartbeats 4000000 in
theorem ast_107 {v x : Int32} {r : List Value} {e : Nat → x_E} {g : Nat → Int32} {q : Nat → Int64} {c : Nat → Nat → Int32} {l : Nat → Nat → Int64} (h : ¬ (v < 0 ∨ 41 ≤ v.toNatClampNeg)) : xAst 0 (fun x => x) (rH e g q c l) (.int x :: .int v :: .ref 107 :: r) = some (r, rH e g q (updA c 107 (upd (c 107) v.toNatClampNeg x)) l) := by
  unfold xAst
  dsimp only
  rw [show (rH e g q c l)[107]? = some (.inl (0, 41, .inl (c 107))) from rfl]
  dsimp only
  rw [if_pos ⟨rfl, h⟩]
  rfl
set_option maxRecDepth 100000 in
set_option maxHeartbeats 4000000 in
theorem ast_108 {v x : Int32} {r : List Value} {e : Nat → x_E} {g : Nat → Int32} {q : Nat → Int64} {c : Nat → Nat → Int32} {l : Nat → Nat → Int64} (h : ¬ (v < 0 ∨ 41 ≤ v.toNatClampNeg)) : xAst 0 (fun x => x) (rH e g q c l) (.int x :: .int v :: .ref 108 :: r) = some (r, rH e g q (updA c 108 (upd (c 108) v.toNatClampNeg x)) l) := by
  unfold xAst
  dsimp only
  rw [show (rH e g q c l)[108]? = some (.inl (0, 41, .inl (c 108))) from rfl]
  dsimp only
  rw [if_pos ⟨rfl, h⟩]
  rfl
set_option maxRecDepth 100000 in
set_option maxHeartbeats 4000000 in
theorem ast_109 {v x : Int32} {r : List Value} {e : Nat → x_E} {g : Nat → Int32} {q : Nat → Int64} {c : Nat → Nat → Int32} {l : Nat → Nat → Int64} (h : ¬ (v < 0 ∨ 41 ≤ v.toNatClampNeg)) : xAst 0 (fun x => x) (rH e g q c l) (.int x :: .int v :: .ref 109 :: r) = some (r, rH e g q (updA c 109 (upd (c 109) v.toNatClampNeg x)) l) := by
  unfold xAst
  dsimp only
  rw [show (rH e g q c l)[109]? = some (.inl (0, 41, .inl (c 109))) from rfl]
  dsimp only
  rw [if_pos ⟨rfl, h⟩]
  rfl
set_option maxRecDepth 100000 in
set_option maxHeartbeats 4000000 in
theorem ast_110 {v x : Int32} {r : List Value} {e : Nat → x_E} {g : Nat → Int32} {q : Nat → Int64} {c : Nat → Nat → Int32} {l : Nat → Nat → Int64} (h : ¬ (v < 0 ∨ 41 ≤ v.toNatClampNeg)) : xAst 0 (fun x => x) (rH e g q c l) (.int x :: .int v :: .ref 110 :: r) = some (r, rH e g q (updA c 110 (upd (c 110) v.toNatClampNeg x)) l) := by
  unfold xAst
  dsimp only
  rw [show (rH e g q c l)[110]? = some (.inl (0, 41, .inl (c 110))) from rfl]
  dsimp only
  rw [if_pos ⟨rfl, h⟩]
  rfl
set_option maxRecDepth 100000 in
set_option maxHeartbeats 4000000 in
theorem ast_111 {v x : Int32} {r : List Value} {e : Nat → x_E} {g : Nat → Int32} {q : Nat → Int64} {c : Nat → Nat → Int32} {l : Nat → Nat → Int64} (h : ¬ (v < 0 ∨ 700 ≤ v.toNatClampNeg)) : xAst 0 (fun x => x) (rH e g q c l) (.int x :: .int v :: .ref 111 :: r) = some (r, rH e g q (updA c 111 (upd (c 111) v.toNatClampNeg x)) l) := by
  unfold xAst
  dsimp only
  rw [show (rH e g q c l)[111]? = some (.inl (0, 700, .inl (c 111))) from rfl]
  dsimp only
  rw [if_pos ⟨rfl, h⟩]
  rfl
set_option maxRecDepth 100000 in
set_option maxHeartbeats 4000000 in
theorem ast_112 {v x : Int32} {r : List Value} {e : Nat → x_E} {g : Nat → Int32} {q : Nat → Int64} {c : Nat → Nat → Int32} {l : Nat → Nat → Int64} (h : ¬ (v < 0 ∨ 700 ≤ v.toNatClampNeg)) : xAst 0 (fun x => x) (rH e g q c l) (.int x :: .int v :: .ref 112 :: r) = some (r, rH e g q (updA c 112 (upd (c 112) v.toNatClampNeg x)) l) := by
  unfold xAst
  dsimp only
  rw [show (rH e g q c l)[112]? = some (.inl (0, 700, .inl (c 112))) from rfl]
  dsimp only
  rw [if_pos ⟨rfl, h⟩]
  rfl
set_option maxRecDepth 100000 in
set_option maxHeartbeats 4000000 in
theorem ast_113 {v x : Int32} {r : List Value} {e : Nat → x_E} {g : Nat → Int32} {q : Nat → Int64} {c : Nat → Nat → Int32} {l : Nat → Nat → Int64} (h : ¬ (v < 0 ∨ 700 ≤ v.toNatClampNeg)) : xAst 0 (fun x => x) (rH e g q c l) (.int x :: .int v :: .ref 113 :: r) = some (r, rH e g q (updA c 113 (upd (c 113) v.toNatClampNeg x)) l) := by
  unfold xAst
  dsimp only
  rw [show (rH e g q c l)[113]? = some (.inl (0, 700, .inl (c 113))) from rfl]
  dsimp only
  rw [if_pos ⟨rfl, h⟩]
  rfl
set_option maxRecDepth 100000 in
set_option maxHeartbeats 4000000 in
theorem ast_114 {v x : Int32} {r : List Value} {e : Nat → x_E} {g : Nat → Int32} {q : Nat → Int64} {c : Nat → Nat → Int32} {l : Nat → Nat → Int64} (h : ¬ (v < 0 ∨ 700 ≤ v.toNatClampNeg)) : xAst 0 (fun x => x) (rH e g q c l) (.int x :: .int v :: .ref 114 :: r) = some (r, rH e g q (updA c 114 (upd (c 114) v.toNatClampNeg x)) l) := by
  unfold xAst
  dsimp only
  rw [show (rH e g q c l)[114]? = some (.inl (0, 700, .inl (c 114))) from rfl]
  dsimp only
  rw [if_pos ⟨rfl, h⟩]
  rfl
set_option maxRecDepth 100000 in
set_option maxHeartbeats 4000000 in
theorem ast_115 {v x : Int32} {r : List Value} {e : Nat → x_E} {g : Nat → Int32} {q : Nat → Int64} {c : Nat → Nat → Int32} {l : Nat → Nat → Int64} (h : ¬ (v < 0 ∨ 700 ≤ v.toNatClampNeg)) : xAst 0 (fun x => x) (rH e g q c l) (.int x :: .int v :: .ref 115 :: r) = some (r, rH e g q (updA c 115 (upd (c 115) v.toNatClampNeg x)) l) := by
  unfold xAst
  dsimp only
  rw [show (rH e g q c l)[115]? = some (.inl (0, 700, .inl (c 115))) from rfl]
  dsimp only
  rw [if_pos ⟨rfl, h⟩]
  rfl
set_option maxRecDepth 100000 in
set_option maxHeartbeats 4000000 in
theorem ast_116 {v x : Int32} {r : List Value} {e : Nat → x_E} {g : Nat → Int32} {q : Nat → Int64} {c : Nat → Nat → Int32} {l : Nat → Nat → Int64} (h : ¬ (v < 0 ∨ 700 ≤ v.toNatClampNeg)) : xAst 0 (fun x => x) (rH e g q c l) (.int x :: .int v :: .ref 116 :: r) = some (r, rH e g q (updA c 116 (upd (c 116) v.toNatClampNeg x)) l) := by
  unfold xAst
  dsimp only
  rw [show (rH e g q c l)[116]? = some (.inl (0, 700, .inl (c 116))) from rfl]
  dsimp only
  rw [if_pos ⟨rfl, h⟩]
  rfl
set_option maxRecDepth 100000 in
set_option maxHeartbeats 4000000 in
theorem ast_117 {v x : Int32} {r : List Value} {e : Nat → x_E} {g : Nat → Int32} {q : Nat → Int64} {c : Nat → Nat → Int32} {l : Nat → Nat → Int64} (h : ¬ (v < 0 ∨ 700 ≤ v.toNatClampNeg)) : xAst 0 (fun x => x) (rH e g q c l) (.int x :: .int v :: .ref 117 :: r) = some (r, rH e g q (updA c 117 (upd (c 117) v.toNatClampNeg x)) l) := by
  unfold xAst
  dsimp only
  rw [show (rH e g q c l)[117]? = some (.inl (0, 700, .inl (c 117))) from rfl]
  dsimp only
  rw [if_pos ⟨rfl, h⟩]
  rfl
set_option maxRecDepth 100000 in
set_option maxHeartbeats 4000000 in
theorem ast_118 {v x : Int32} {r : List Value} {e : Nat → x_E} {g : Nat → Int32} {q : Nat → Int64} {c : Nat → Nat → Int32} {l : Nat → Nat → Int64} (h : ¬ (v < 0 ∨ 16 ≤ v.toNatClampNeg)) : xAst 0 (fun x => x) (rH e g q c l) (.int x :: .int v :: .ref 118 :: r) = some (r, rH e g q (updA c 118 (upd (c 118) v.toNatClampNeg x)) l) := by
  unfold xAst
  dsimp only
  rw [show (rH e g q c l)[118]? = some (.inl (0, 16, .inl (c 118))) from rfl]
  dsimp only
  rw [if_pos ⟨rfl, h⟩]
  rfl
set_option maxRecDepth 100000 in
set_option maxHeartbeats 4000000 in
theorem ast_119 {v x : Int32} {r : List Value} {e : Nat → x_E} {g : Nat → Int32} {q : Nat → Int64} {c : Nat → Nat → Int32} {l : Nat → Nat → Int64} (h : ¬ (v < 0 ∨ 24000 ≤ v.toNatClampNeg)) : xAst 0 (fun x => x) (rH e g q c l) (.int x :: .int v :: .ref 119 :: r) = some (r, rH e g q (updA c 119 (upd (c 119) v.toNatClampNeg x)) l) := by
  unfold xAst
  dsimp only
  rw [show (rH e g q c l)[119]? = some (.inl (0, 24000, .inl (c 119))) from rfl]
  dsimp only
  rw [if_pos ⟨rfl, h⟩]
  rfl
set_option maxRecDepth 100000 in
set_option maxHeartbeats 4000000 in
theorem ast_120 {v x : Int32} {r : List Value} {e : Nat → x_E} {g : Nat → Int32} {q : Nat → Int64} {c : Nat → Nat → Int32} {l : Nat → Nat → Int64} (h : ¬ (v < 0 ∨ 16 ≤ v.toNatClampNeg)) : xAst 0 (fun x => x) (rH e g q c l) (.int x :: .int v :: .ref 120 :: r) = some (r, rH e g q (updA c 120 (upd (c 120) v.toNatClampNeg x)) l) := by
  unfold xAst
  dsimp only
  rw [show (rH e g q c l)[120]? = some (.inl (0, 16, .inl (c 120))) from rfl]
  dsimp only
  rw [if_pos ⟨rfl, h⟩]
  rfl
set_option maxRecDepth 100000 in
set_option maxHeartbeats 4000000 in
theorem ast_121 {v x : Int32} {r : List Value} {e : Nat → x_E} {g : Nat → Int32} {q : Nat → Int64} {c : Nat → Nat → Int32} {l : Nat → Nat → Int64} (h : ¬ (v < 0 ∨ 20001 ≤ v.toNatClampNeg)) : xAst 0 (fun x => x) (rH e g q c l) (.int x :: .int v :: .ref 121 :: r) = some (r, rH e g q (updA c 121 (upd (c 121) v.toNatClampNeg x)) l) := by
  unfold xAst
  dsimp only
  rw [show (rH e g q c l)[121]? = some (.inl (0, 20001, .inl (c 121))) from rfl]
  dsimp only
  rw [if_pos ⟨rfl, h⟩]
  rfl
set_option maxRecDepth 100000 in
set_option maxHeartbeats 4000000 in
theorem all_59 {v : Int32} {r : List Value} {e : Nat → x_E} {g : Nat → Int32} {q : Nat → Int64} {c : Nat → Nat → Int32} {l : Nat → Nat → Int64} (h : ¬ (v < 0 ∨ 64 ≤ v.toNatClampNeg)) : xAldL (rH e g q c l) (.int v :: .ref 59 :: r) = some (.long (l 59 v.toNatClampNeg) :: r) := by
  unfold xAldL
  dsimp only
  rw [show (rH e g q c l)[59]? = some (.inl (1, 64, .inr (.inl (l 59)))) from rfl]
  dsimp only
  rw [if_pos ⟨rfl, h⟩]
set_option maxRecDepth 100000 in
set_option maxHeartbeats 4000000 in
theorem all_66 {v : Int32} {r : List Value} {e : Nat → x_E} {g : Nat → Int32} {q : Nat → Int64} {c : Nat → Nat → Int32} {l : Nat → Nat → Int64} (h : ¬ (v < 0 ∨ 4000 ≤ v.toNatClampNeg)) : xAldL (rH e g q c l) (.int v :: .ref 66 :: r) = some (.long (l 66 v.toNatClampNeg) :: r) := by
  unfold xAldL
  dsimp only
  rw [show (rH e g q c l)[66]? = some (.inl (1, 4000, .inr (.inl (l 66)))) from rfl]
  dsimp only
  rw [if_pos ⟨rfl, h⟩]
set_option maxRecDepth 100000 in
set_option maxHeartbeats 4000000 in
theorem all_70 {v : Int32} {r : List Value} {e : Nat → x_E} {g : Nat → Int32} {q : Nat → Int64} {c : Nat → Nat → Int32} {l : Nat → Nat → Int64} (h : ¬ (v < 0 ∨ 900 ≤ v.toNatClampNeg)) : xAldL (rH e g q c l) (.int v :: .ref 70 :: r) = some (.long (l 70 v.toNatClampNeg) :: r) := by
  unfold xAldL
  dsimp only
  rw [show (rH e g q c l)[70]? = some (.inl (1, 900, .inr (.inl (l 70)))) from rfl]
  dsimp only
  rw [if_pos ⟨rfl, h⟩]
set_option maxRecDepth 100000 in
set_option maxHeartbeats 4000000 in
theorem all_72 {v : Int32} {r : List Value} {e : Nat → x_E} {g : Nat → Int32} {q : Nat → Int64} {c : Nat → Nat → Int32} {l : Nat → Nat → Int64} (h : ¬ (v < 0 ∨ 80 ≤ v.toNatClampNeg)) : xAldL (rH e g q c l) (.int v :: .ref 72 :: r) = some (.long (l 72 v.toNatClampNeg) :: r) := by
  unfold xAldL
  dsimp only
  rw [show (rH e g q c l)[72]? = some (.inl (1, 80, .inr (.inl (l 72)))) from rfl]
  dsimp only
  rw [if_pos ⟨rfl, h⟩]
set_option maxRecDepth 100000 in
set_option maxHeartbeats 4000000 in
theorem all_93 {v : Int32} {r : List Value} {e : Nat → x_E} {g : Nat → Int32} {q : Nat → Int64} {c : Nat → Nat → Int32} {l : Nat → Nat → Int64} (h : ¬ (v < 0 ∨ 1400 ≤ v.toNatClampNeg)) : xAldL (rH e g q c l) (.int v :: .ref 93 :: r) = some (.long (l 93 v.toNatClampNeg) :: r) := by
  unfold xAldL
  dsimp only
  rw [show (rH e g q c l)[93]? = some (.inl (1, 1400, .inr (.inl (l 93)))) from rfl]
  dsimp only
  rw [if_pos ⟨rfl, h⟩]
set_option maxRecDepth 100000 in
set_option maxHeartbeats 4000000 in
theorem all_106 {v : Int32} {r : List Value} {e : Nat → x_E} {g : Nat → Int32} {q : Nat → Int64} {c : Nat → Nat → Int32} {l : Nat → Nat → Int64} (h : ¬ (v < 0 ∨ 41 ≤ v.toNatClampNeg)) : xAldL (rH e g q c l) (.int v :: .ref 106 :: r) = some (.long (l 106 v.toNatClampNeg) :: r) := by
  unfold xAldL
  dsimp only
  rw [show (rH e g q c l)[106]? = some (.inl (1, 41, .inr (.inl (l 106)))) from rfl]
  dsimp only
  rw [if_pos ⟨rfl, h⟩]
set_option maxRecDepth 100000 in
set_option maxHeartbeats 4000000 in
theorem asl_59 {v : Int32} {x : Int64} {r : List Value} {e : Nat → x_E} {g : Nat → Int32} {q : Nat → Int64} {c : Nat → Nat → Int32} {l : Nat → Nat → Int64} (h : ¬ (v < 0 ∨ 64 ≤ v.toNatClampNeg)) : xAstL (rH e g q c l) (.long x :: .int v :: .ref 59 :: r) = some (r, rH e g q c (updB l 59 (vp_updL (l 59) v.toNatClampNeg x))) := by
  unfold xAstL
  dsimp only
  rw [show (rH e g q c l)[59]? = some (.inl (1, 64, .inr (.inl (l 59)))) from rfl]
  dsimp only
  rw [if_pos ⟨rfl, h⟩]
  rfl
set_option maxRecDepth 100000 in
set_option maxHeartbeats 4000000 in
theorem asl_66 {v : Int32} {x : Int64} {r : List Value} {e : Nat → x_E} {g : Nat → Int32} {q : Nat → Int64} {c : Nat → Nat → Int32} {l : Nat → Nat → Int64} (h : ¬ (v < 0 ∨ 4000 ≤ v.toNatClampNeg)) : xAstL (rH e g q c l) (.long x :: .int v :: .ref 66 :: r) = some (r, rH e g q c (updB l 66 (vp_updL (l 66) v.toNatClampNeg x))) := by
  unfold xAstL
  dsimp only
  rw [show (rH e g q c l)[66]? = some (.inl (1, 4000, .inr (.inl (l 66)))) from rfl]
  dsimp only
  rw [if_pos ⟨rfl, h⟩]
  rfl
set_option maxRecDepth 100000 in
set_option maxHeartbeats 4000000 in
theorem asl_70 {v : Int32} {x : Int64} {r : List Value} {e : Nat → x_E} {g : Nat → Int32} {q : Nat → Int64} {c : Nat → Nat → Int32} {l : Nat → Nat → Int64} (h : ¬ (v < 0 ∨ 900 ≤ v.toNatClampNeg)) : xAstL (rH e g q c l) (.long x :: .int v :: .ref 70 :: r) = some (r, rH e g q c (updB l 70 (vp_updL (l 70) v.toNatClampNeg x))) := by
  unfold xAstL
  dsimp only
  rw [show (rH e g q c l)[70]? = some (.inl (1, 900, .inr (.inl (l 70)))) from rfl]
  dsimp only
  rw [if_pos ⟨rfl, h⟩]
  rfl
set_option maxRecDepth 100000 in
set_option maxHeartbeats 4000000 in
theorem asl_72 {v : Int32} {x : Int64} {r : List Value} {e : Nat → x_E} {g : Nat → Int32} {q : Nat → Int64} {c : Nat → Nat → Int32} {l : Nat → Nat → Int64} (h : ¬ (v < 0 ∨ 80 ≤ v.toNatClampNeg)) : xAstL (rH e g q c l) (.long x :: .int v :: .ref 72 :: r) = some (r, rH e g q c (updB l 72 (vp_updL (l 72) v.toNatClampNeg x))) := by
  unfold xAstL
  dsimp only
  rw [show (rH e g q c l)[72]? = some (.inl (1, 80, .inr (.inl (l 72)))) from rfl]
  dsimp only
  rw [if_pos ⟨rfl, h⟩]
  rfl
set_option maxRecDepth 100000 in
set_option maxHeartbeats 4000000 in
theorem asl_93 {v : Int32} {x : Int64} {r : List Value} {e : Nat → x_E} {g : Nat → Int32} {q : Nat → Int64} {c : Nat → Nat → Int32} {l : Nat → Nat → Int64} (h : ¬ (v < 0 ∨ 1400 ≤ v.toNatClampNeg)) : xAstL (rH e g q c l) (.long x :: .int v :: .ref 93 :: r) = some (r, rH e g q c (updB l 93 (vp_updL (l 93) v.toNatClampNeg x))) := by
  unfold xAstL
  dsimp only
  rw [show (rH e g q c l)[93]? = some (.inl (1, 1400, .inr (.inl (l 93)))) from rfl]
  dsimp only
  rw [if_pos ⟨rfl, h⟩]
  rfl
set_option maxRecDepth 100000 in
set_option maxHeartbeats 4000000 in
theorem asl_106 {v : Int32} {x : Int64} {r : List Value} {e : Nat → x_E} {g : Nat → Int32} {q : Nat → Int64} {c : Nat → Nat → Int32} {l : Nat → Nat → Int64} (h : ¬ (v < 0 ∨ 41 ≤ v.toNatClampNeg)) : xAstL (rH e g q c l) (.long x :: .int v :: .ref 106 :: r) = some (r, rH e g q c (updB l 106 (vp_updL (l 106) v.toNatClampNeg x))) := by
  unfold xAstL
  dsimp only
  rw [show (rH e g q c l)[106]? = some (.inl (1, 41, .inr (.inl (l 106)))) from rfl]
  dsimp only
  rw [if_pos ⟨rfl, h⟩]
  rfl
set_option maxRecDepth 100000 in
set_option maxHeartbeats 4000000 in
theorem asz_71 {v x : Int32} {r : List Value} {e : Nat → x_E} {g : Nat → Int32} {q : Nat → Int64} {c : Nat → Nat → Int32} {l : Nat → Nat → Int64} (h : ¬ (v < 0 ∨ 900 ≤ v.toNatClampNeg)) : (xAst 2 (vp_nar .byte) (rH e g q c l) (.int x :: .int v :: .ref 71 :: r)).or (xAst 4 (vp_nar .boolean) (rH e g q c l) (.int x :: .int v :: .ref 71 :: r)) = some (r, rH e g q (updA c 71 (upd (c 71) v.toNatClampNeg (vp_nar .boolean x))) l) := by
  rw [show xAst 2 (vp_nar .byte) (rH e g q c l) (.int x :: .int v :: .ref 71 :: r) = none from rfl]
  unfold xAst
  dsimp only
  rw [show (rH e g q c l)[71]? = some (.inl (4, 900, .inl (c 71))) from rfl]
  dsimp only
  rw [if_pos ⟨rfl, h⟩]
  rfl
set_option maxRecDepth 100000 in
set_option maxHeartbeats 4000000 in
theorem asz_84 {v x : Int32} {r : List Value} {e : Nat → x_E} {g : Nat → Int32} {q : Nat → Int64} {c : Nat → Nat → Int32} {l : Nat → Nat → Int64} (h : ¬ (v < 0 ∨ 1000 ≤ v.toNatClampNeg)) : (xAst 2 (vp_nar .byte) (rH e g q c l) (.int x :: .int v :: .ref 84 :: r)).or (xAst 4 (vp_nar .boolean) (rH e g q c l) (.int x :: .int v :: .ref 84 :: r)) = some (r, rH e g q (updA c 84 (upd (c 84) v.toNatClampNeg (vp_nar .boolean x))) l) := by
  rw [show xAst 2 (vp_nar .byte) (rH e g q c l) (.int x :: .int v :: .ref 84 :: r) = none from rfl]
  unfold xAst
  dsimp only
  rw [show (rH e g q c l)[84]? = some (.inl (4, 1000, .inl (c 84))) from rfl]
  dsimp only
  rw [if_pos ⟨rfl, h⟩]
  rfl
