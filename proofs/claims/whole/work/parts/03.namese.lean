theorem dX8_init_331 : decode cX8_init 331 = .ok (.dup, 1) := by decide +kernel
theorem dX8_init_332 : decode cX8_init 332 = .ok (.bipush 54, 2) := by decide +kernel
theorem dX8_init_334 : decode cX8_init 334 = .ok (.bipush 110, 2) := by decide +kernel
theorem dX8_init_336 : decode cX8_init 336 = .ok (.iastore, 1) := by decide +kernel
theorem dX8_init_337 : decode cX8_init 337 = .ok (.dup, 1) := by decide +kernel
theorem dX8_init_338 : decode cX8_init 338 = .ok (.bipush 55, 2) := by decide +kernel
theorem dX8_init_340 : decode cX8_init 340 = .ok (.iconst 0, 1) := by decide +kernel
theorem dX8_init_341 : decode cX8_init 341 = .ok (.iastore, 1) := by decide +kernel
theorem dX8_init_342 : decode cX8_init 342 = .ok (.dup, 1) := by decide +kernel
theorem dX8_init_343 : decode cX8_init 343 = .ok (.bipush 56, 2) := by decide +kernel
theorem dX8_init_345 : decode cX8_init 345 = .ok (.bipush 104, 2) := by decide +kernel
theorem dX8_init_347 : decode cX8_init 347 = .ok (.iastore, 1) := by decide +kernel
theorem dX8_init_348 : decode cX8_init 348 = .ok (.dup, 1) := by decide +kernel
theorem dX8_init_349 : decode cX8_init 349 = .ok (.bipush 57, 2) := by decide +kernel
theorem dX8_init_351 : decode cX8_init 351 = .ok (.bipush 117, 2) := by decide +kernel
theorem dX8_init_353 : decode cX8_init 353 = .ok (.iastore, 1) := by decide +kernel
theorem dX8_init_354 : decode cX8_init 354 = .ok (.dup, 1) := by decide +kernel
theorem dX8_init_355 : decode cX8_init 355 = .ok (.bipush 58, 2) := by decide +kernel
theorem dX8_init_357 : decode cX8_init 357 = .ok (.bipush 109, 2) := by decide +kernel
theorem dX8_init_359 : decode cX8_init 359 = .ok (.iastore, 1) := by decide +kernel
theorem dX8_init_360 : decode cX8_init 360 = .ok (.dup, 1) := by decide +kernel
theorem dX8_init_361 : decode cX8_init 361 = .ok (.bipush 59, 2) := by decide +kernel
theorem dX8_init_363 : decode cX8_init 363 = .ok (.bipush 105, 2) := by decide +kernel
theorem dX8_init_365 : decode cX8_init 365 = .ok (.iastore, 1) := by decide +kernel
theorem dX8_init_366 : decode cX8_init 366 = .ok (.dup, 1) := by decide +kernel
theorem dX8_init_367 : decode cX8_init 367 = .ok (.bipush 60, 2) := by decide +kernel
theorem dX8_init_369 : decode cX8_init 369 = .ok (.bipush 100, 2) := by decide +kernel
theorem dX8_init_371 : decode cX8_init 371 = .ok (.iastore, 1) := by decide +kernel
theorem dX8_init_372 : decode cX8_init 372 = .ok (.dup, 1) := by decide +kernel
theorem dX8_init_373 : decode cX8_init 373 = .ok (.bipush 61, 2) := by decide +kernel
theorem dX8_init_375 : decode cX8_init 375 = .ok (.bipush 105, 2) := by decide +kernel
theorem dX8_init_377 : decode cX8_init 377 = .ok (.iastore, 1) := by decide +kernel
theorem dX8_init_378 : decode cX8_init 378 = .ok (.dup, 1) := by decide +kernel
theorem dX8_init_379 : decode cX8_init 379 = .ok (.bipush 62, 2) := by decide +kernel
theorem dX8_init_381 : decode cX8_init 381 = .ok (.bipush 116, 2) := by decide +kernel
theorem dX8_init_383 : decode cX8_init 383 = .ok (.iastore, 1) := by decide +kernel
theorem dX8_init_384 : decode cX8_init 384 = .ok (.dup, 1) := by decide +kernel
theorem dX8_init_385 : decode cX8_init 385 = .ok (.bipush 63, 2) := by decide +kernel
theorem dX8_init_387 : decode cX8_init 387 = .ok (.bipush 121, 2) := by decide +kernel
theorem dX8_init_389 : decode cX8_init 389 = .ok (.iastore, 1) := by decide +kernel
theorem dX8_init_390 : decode cX8_init 390 = .ok (.dup, 1) := by decide +kernel
theorem dX8_init_391 : decode cX8_init 391 = .ok (.bipush 64, 2) := by decide +kernel
theorem dX8_init_393 : decode cX8_init 393 = .ok (.bipush 109, 2) := by decide +kernel
theorem dX8_init_395 : decode cX8_init 395 = .ok (.iastore, 1) := by decide +kernel
theorem dX8_init_396 : decode cX8_init 396 = .ok (.dup, 1) := by decide +kernel
theorem dX8_init_397 : decode cX8_init 397 = .ok (.bipush 65, 2) := by decide +kernel
theorem dX8_init_399 : decode cX8_init 399 = .ok (.bipush 105, 2) := by decide +kernel
theorem dX8_init_401 : decode cX8_init 401 = .ok (.iastore, 1) := by decide +kernel
theorem dX8_init_402 : decode cX8_init 402 = .ok (.dup, 1) := by decide +kernel
theorem dX8_init_403 : decode cX8_init 403 = .ok (.bipush 66, 2) := by decide +kernel
theorem dX8_init_405 : decode cX8_init 405 = .ok (.bipush 110, 2) := by decide +kernel
theorem dX8_init_407 : decode cX8_init 407 = .ok (.iastore, 1) := by decide +kernel
theorem dX8_init_408 : decode cX8_init 408 = .ok (.dup, 1) := by decide +kernel
theorem dX8_init_409 : decode cX8_init 409 = .ok (.bipush 67, 2) := by decide +kernel
theorem dX8_init_411 : decode cX8_init 411 = .ok (.bipush 117, 2) := by decide +kernel
theorem dX8_init_413 : decode cX8_init 413 = .ok (.iastore, 1) := by decide +kernel
theorem dX8_init_414 : decode cX8_init 414 = .ok (.dup, 1) := by decide +kernel
theorem dX8_init_415 : decode cX8_init 415 = .ok (.bipush 68, 2) := by decide +kernel
theorem dX8_init_417 : decode cX8_init 417 = .ok (.bipush 116, 2) := by decide +kernel
theorem dX8_init_419 : decode cX8_init 419 = .ok (.iastore, 1) := by decide +kernel
theorem dX8_init_420 : decode cX8_init 420 = .ok (.dup, 1) := by decide +kernel
theorem dX8_init_421 : decode cX8_init 421 = .ok (.bipush 69, 2) := by decide +kernel
theorem dX8_init_423 : decode cX8_init 423 = .ok (.bipush 101, 2) := by decide +kernel
theorem dX8_init_425 : decode cX8_init 425 = .ok (.iastore, 1) := by decide +kernel
theorem dX8_init_426 : decode cX8_init 426 = .ok (.dup, 1) := by decide +kernel
theorem dX8_init_427 : decode cX8_init 427 = .ok (.bipush 70, 2) := by decide +kernel
theorem dX8_init_429 : decode cX8_init 429 = .ok (.bipush 115, 2) := by decide +kernel
theorem dX8_init_431 : decode cX8_init 431 = .ok (.iastore, 1) := by decide +kernel
theorem dX8_init_432 : decode cX8_init 432 = .ok (.dup, 1) := by decide +kernel
theorem dX8_init_433 : decode cX8_init 433 = .ok (.bipush 71, 2) := by decide +kernel
theorem dX8_init_435 : decode cX8_init 435 = .ok (.iconst 0, 1) := by decide +kernel
theorem dX8_init_436 : decode cX8_init 436 = .ok (.iastore, 1) := by decide +kernel
theorem dX8_init_437 : decode cX8_init 437 = .ok (.putfield 13, 3) := by decide +kernel
theorem dX8_init_440 : decode cX8_init 440 = .ok (.aload_n 0, 1) := by decide +kernel
theorem dX8_init_441 : decode cX8_init 441 = .ok (.bipush 56, 2) := by decide +kernel
theorem dX8_init_443 : decode cX8_init 443 = .ok (.newarray .int, 2) := by decide +kernel
theorem dX8_init_445 : decode cX8_init 445 = .ok (.putfield 16, 3) := by decide +kernel
theorem dX8_init_448 : decode cX8_init 448 = .ok (.aload_n 0, 1) := by decide +kernel
theorem dX8_init_449 : decode cX8_init 449 = .ok (.bipush 56, 2) := by decide +kernel
theorem dX8_init_451 : decode cX8_init 451 = .ok (.newarray .int, 2) := by decide +kernel
theorem dX8_init_453 : decode cX8_init 453 = .ok (.putfield 19, 3) := by decide +kernel
theorem dX8_init_456 : decode cX8_init 456 = .ok (.aload_n 0, 1) := by decide +kernel
theorem dX8_init_457 : decode cX8_init 457 = .ok (.sipush 560, 3) := by decide +kernel
theorem dX8_init_460 : decode cX8_init 460 = .ok (.newarray .int, 2) := by decide +kernel
theorem dX8_init_462 : decode cX8_init 462 = .ok (.putfield 22, 3) := by decide +kernel
theorem dX8_init_465 : decode cX8_init 465 = .ok (.aload_n 0, 1) := by decide +kernel
theorem dX8_init_466 : decode cX8_init 466 = .ok (.bipush 112, 2) := by decide +kernel
theorem dX8_init_468 : decode cX8_init 468 = .ok (.newarray .int, 2) := by decide +kernel
theorem dX8_init_470 : decode cX8_init 470 = .ok (.putfield 25, 3) := by decide +kernel
theorem dX8_init_473 : decode cX8_init 473 = .ok (.aload_n 0, 1) := by decide +kernel
theorem dX8_init_474 : decode cX8_init 474 = .ok (.sipush 600, 3) := by decide +kernel
theorem dX8_init_477 : decode cX8_init 477 = .ok (.newarray .byte, 2) := by decide +kernel
theorem dX8_init_479 : decode cX8_init 479 = .ok (.putfield 28, 3) := by decide +kernel
theorem dX8_init_482 : decode cX8_init 482 = .ok (.aload_n 0, 1) := by decide +kernel
theorem dX8_init_483 : decode cX8_init 483 = .ok (.bipush 60, 2) := by decide +kernel
theorem dX8_init_485 : decode cX8_init 485 = .ok (.newarray .byte, 2) := by decide +kernel
theorem dX8_init_487 : decode cX8_init 487 = .ok (.putfield 32, 3) := by decide +kernel
theorem dX8_init_490 : decode cX8_init 490 = .ok (.aload_n 0, 1) := by decide +kernel
theorem dX8_init_491 : decode cX8_init 491 = .ok (.iconst (-1), 1) := by decide +kernel
theorem dX8_init_492 : decode cX8_init 492 = .ok (.putfield 35, 3) := by decide +kernel
theorem dX8_init_495 : decode cX8_init 495 = .ok (.aload_n 0, 1) := by decide +kernel
theorem dX8_init_496 : decode cX8_init 496 = .ok (.getfield 16, 3) := by decide +kernel
theorem dX8_init_499 : decode cX8_init 499 = .ok (.iconst 1, 1) := by decide +kernel
theorem dX8_init_500 : decode cX8_init 500 = .ok (.bipush 60, 2) := by decide +kernel
theorem dX8_init_502 : decode cX8_init 502 = .ok (.iastore, 1) := by decide +kernel
theorem dX8_init_503 : decode cX8_init 503 = .ok (.aload_n 0, 1) := by decide +kernel
theorem dX8_init_504 : decode cX8_init 504 = .ok (.getfield 16, 3) := by decide +kernel
theorem dX8_init_507 : decode cX8_init 507 = .ok (.iconst 2, 1) := by decide +kernel
theorem dX8_init_508 : decode cX8_init 508 = .ok (.bipush 20, 2) := by decide +kernel
theorem dX8_init_510 : decode cX8_init 510 = .ok (.iastore, 1) := by decide +kernel
theorem dX8_init_511 : decode cX8_init 511 = .ok (.aload_n 0, 1) := by decide +kernel
theorem dX8_init_512 : decode cX8_init 512 = .ok (.getfield 16, 3) := by decide +kernel
theorem dX8_init_515 : decode cX8_init 515 = .ok (.iconst 3, 1) := by decide +kernel
theorem dX8_init_516 : decode cX8_init 516 = .ok (.iconst 2, 1) := by decide +kernel
theorem dX8_init_517 : decode cX8_init 517 = .ok (.iastore, 1) := by decide +kernel
theorem dX8_init_518 : decode cX8_init 518 = .ok (.aload_n 0, 1) := by decide +kernel
theorem dX8_init_519 : decode cX8_init 519 = .ok (.bipush 10, 2) := by decide +kernel
theorem dX8_init_521 : decode cX8_init 521 = .ok (.invokevirtual 39, 3) := by decide +kernel
theorem dX8_init_524 : decode cX8_init 524 = .ok (.aload_n 0, 1) := by decide +kernel
theorem dX8_init_525 : decode cX8_init 525 = .ok (.iconst 4, 1) := by decide +kernel
theorem dX8_init_526 : decode cX8_init 526 = .ok (.invokevirtual 39, 3) := by decide +kernel
theorem dX8_init_529 : decode cX8_init 529 = .ok (.aload_n 0, 1) := by decide +kernel
theorem dX8_init_530 : decode cX8_init 530 = .ok (.bipush 30, 2) := by decide +kernel
theorem dX8_init_532 : decode cX8_init 532 = .ok (.invokevirtual 43, 3) := by decide +kernel
theorem dX8_init_535 : decode cX8_init 535 = .ok (.aload_n 0, 1) := by decide +kernel
theorem dX8_init_536 : decode cX8_init 536 = .ok (.iconst 3, 1) := by decide +kernel
theorem dX8_init_537 : decode cX8_init 537 = .ok (.invokevirtual 43, 3) := by decide +kernel
theorem dX8_init_540 : decode cX8_init 540 = .ok (.aload_n 0, 1) := by decide +kernel
theorem dX8_init_541 : decode cX8_init 541 = .ok (.getfield 16, 3) := by decide +kernel
theorem dX8_init_544 : decode cX8_init 544 = .ok (.iconst 1, 1) := by decide +kernel
theorem dX8_init_545 : decode cX8_init 545 = .ok (.bipush 50, 2) := by decide +kernel
theorem dX8_init_547 : decode cX8_init 547 = .ok (.iastore, 1) := by decide +kernel
theorem dX8_init_548 : decode cX8_init 548 = .ok (.aload_n 0, 1) := by decide +kernel
theorem dX8_init_549 : decode cX8_init 549 = .ok (.iconst 3, 1) := by decide +kernel
theorem dX8_init_550 : decode cX8_init 550 = .ok (.invokevirtual 46, 3) := by decide +kernel
theorem dX8_init_553 : decode cX8_init 553 = .ok (.istore_n 1, 1) := by decide +kernel
theorem dX8_init_554 : decode cX8_init 554 = .ok (.aload_n 0, 1) := by decide +kernel
theorem dX8_init_555 : decode cX8_init 555 = .ok (.getfield 16, 3) := by decide +kernel
theorem dX8_init_558 : decode cX8_init 558 = .ok (.iconst 1, 1) := by decide +kernel
theorem dX8_init_559 : decode cX8_init 559 = .ok (.invokestatic 50, 3) := by decide +kernel
theorem dX8_init_562 : decode cX8_init 562 = .ok (.bipush 7, 2) := by decide +kernel
theorem dX8_init_564 : decode cX8_init 564 = .ok (.iadd, 1) := by decide +kernel
theorem dX8_init_565 : decode cX8_init 565 = .ok (.iconst 2, 1) := by decide +kernel
theorem dX8_init_566 : decode cX8_init 566 = .ok (.iastore, 1) := by decide +kernel
theorem dX8_init_567 : decode cX8_init 567 = .ok (.aload_n 0, 1) := by decide +kernel
theorem dX8_init_568 : decode cX8_init 568 = .ok (.iconst 2, 1) := by decide +kernel
theorem dX8_init_569 : decode cX8_init 569 = .ok (.invokevirtual 46, 3) := by decide +kernel
theorem dX8_init_572 : decode cX8_init 572 = .ok (.istore_n 1, 1) := by decide +kernel
theorem dX8_init_573 : decode cX8_init 573 = .ok (.return_, 1) := by decide +kernel
theorem dX8_thrown_0 : decode cX8_thrown 0 = .ok (.aload_n 0, 1) := by decide +kernel
theorem dX8_thrown_1 : decode cX8_thrown 1 = .ok (.getfield 53, 3) := by decide +kernel
theorem dX8_thrown_4 : decode cX8_thrown 4 = .ok (.ireturn, 1) := by decide +kernel
theorem dX8_refuse_0 : decode cX8_refuse 0 = .ok (.aload_n 0, 1) := by decide +kernel
theorem dX8_refuse_1 : decode cX8_refuse 1 = .ok (.iload_n 1, 1) := by decide +kernel
theorem dX8_refuse_2 : decode cX8_refuse 2 = .ok (.putfield 53, 3) := by decide +kernel
theorem dX8_refuse_5 : decode cX8_refuse 5 = .ok (.iconst 0, 1) := by decide +kernel
theorem dX8_refuse_6 : decode cX8_refuse 6 = .ok (.ireturn, 1) := by decide +kernel
theorem dX8_told_0 : decode cX8_told 0 = .ok (.aload_n 0, 1) := by decide +kernel
theorem dX8_told_1 : decode cX8_told 1 = .ok (.iconst 0, 1) := by decide +kernel
theorem dX8_told_2 : decode cX8_told 2 = .ok (.putfield 53, 3) := by decide +kernel
theorem dX8_told_5 : decode cX8_told 5 = .ok (.iload_n 1, 1) := by decide +kernel
theorem dX8_told_6 : decode cX8_told 6 = .ok (.ireturn, 1) := by decide +kernel
theorem dX8_says_0 : decode cX8_says 0 = .ok (.aload_n 0, 1) := by decide +kernel
theorem dX8_says_1 : decode cX8_says 1 = .ok (.iconst 0, 1) := by decide +kernel
theorem dX8_says_2 : decode cX8_says 2 = .ok (.putfield 53, 3) := by decide +kernel
theorem dX8_says_5 : decode cX8_says 5 = .ok (.iload_n 1, 1) := by decide +kernel
theorem dX8_says_6 : decode cX8_says 6 = .ok (.ireturn, 1) := by decide +kernel
theorem dX8_refuses_0 : decode cX8_refuses 0 = .ok (.aload_n 0, 1) := by decide +kernel
theorem dX8_refuses_1 : decode cX8_refuses 1 = .ok (.iconst 1, 1) := by decide +kernel
theorem dX8_refuses_2 : decode cX8_refuses 2 = .ok (.putfield 53, 3) := by decide +kernel
theorem dX8_refuses_5 : decode cX8_refuses 5 = .ok (.iconst 0, 1) := by decide +kernel
theorem dX8_refuses_6 : decode cX8_refuses 6 = .ok (.ireturn, 1) := by decide +kernel
theorem dX8_in_0 : decode cX8_in 0 = .ok (.iload_n 0, 1) := by decide +kernel
theorem dX8_in_1 : decode cX8_in 1 = .ok (.iload_n 1, 1) := by decide +kernel
theorem dX8_in_2 : decode cX8_in 2 = .ok (.if_icmp .lt 12, 3) := by decide +kernel
theorem dX8_in_5 : decode cX8_in 5 = .ok (.iload_n 0, 1) := by decide +kernel
theorem dX8_in_6 : decode cX8_in 6 = .ok (.iload_n 2, 1) := by decide +kernel
theorem dX8_in_7 : decode cX8_in 7 = .ok (.if_icmp .gt 7, 3) := by decide +kernel
theorem dX8_in_10 : decode cX8_in 10 = .ok (.iconst 1, 1) := by decide +kernel
theorem dX8_in_11 : decode cX8_in 11 = .ok (.goto 4, 3) := by decide +kernel
theorem dX8_in_14 : decode cX8_in 14 = .ok (.iconst 0, 1) := by decide +kernel
theorem dX8_in_15 : decode cX8_in 15 = .ok (.ireturn, 1) := by decide +kernel
theorem dX8_without_0 : decode cX8_without 0 = .ok (.iload_n 0, 1) := by decide +kernel
theorem dX8_without_1 : decode cX8_without 1 = .ok (.ifCond .ge 6, 3) := by decide +kernel
theorem dX8_without_4 : decode cX8_without 4 = .ok (.iload_n 0, 1) := by decide +kernel
theorem dX8_without_5 : decode cX8_without 5 = .ok (.ineg, 1) := by decide +kernel
theorem dX8_without_6 : decode cX8_without 6 = .ok (.ireturn, 1) := by decide +kernel
theorem dX8_without_7 : decode cX8_without 7 = .ok (.iload_n 0, 1) := by decide +kernel
theorem dX8_without_8 : decode cX8_without 8 = .ok (.ireturn, 1) := by decide +kernel
theorem dX8_i_0 : decode cX8_i 0 = .ok (.bipush 8, 2) := by decide +kernel
theorem dX8_i_2 : decode cX8_i 2 = .ok (.bipush 8, 2) := by decide +kernel
theorem dX8_i_4 : decode cX8_i 4 = .ok (.iload_n 0, 1) := by decide +kernel
theorem dX8_i_5 : decode cX8_i 5 = .ok (.imul, 1) := by decide +kernel
theorem dX8_i_6 : decode cX8_i 6 = .ok (.iadd, 1) := by decide +kernel
theorem dX8_i_7 : decode cX8_i 7 = .ok (.ireturn, 1) := by decide +kernel
set_option maxRecDepth 20000 in
theorem ggX8_is_X8_in : GoodIn wsX8_is wsX8_in := goodIn_r _ [5] (by decide +kernel) (by decide +kernel)
set_option maxRecDepth 20000 in
theorem gX8_is_X8_in : GoodIn wsX8_is (va_wsS RX8 56 yX8_in wsX8_in) := goodIn_app (goodIn_of _ (by decide +kernel)) ggX8_is_X8_in
theorem dX8_is_0 : decode cX8_is 0 = .ok (.iload_n 1, 1) := by decide +kernel
theorem dX8_is_1 : decode cX8_is 1 = .ok (.iconst 0, 1) := by decide +kernel
theorem dX8_is_2 : decode cX8_is 2 = .ok (.aload_n 0, 1) := by decide +kernel
theorem dX8_is_3 : decode cX8_is 3 = .ok (.getfield 16, 3) := by decide +kernel
theorem dX8_is_6 : decode cX8_is 6 = .ok (.iconst 5, 1) := by decide +kernel
theorem dX8_is_7 : decode cX8_is 7 = .ok (.iaload, 1) := by decide +kernel
theorem dX8_is_8 : decode cX8_is 8 = .ok (.iconst 1, 1) := by decide +kernel
theorem dX8_is_9 : decode cX8_is 9 = .ok (.isub, 1) := by decide +kernel
theorem dX8_is_10 : decode cX8_is 10 = .ok (.invokestatic 56, 3) := by decide +kernel
theorem dX8_is_13 : decode cX8_is 13 = .ok (.ireturn, 1) := by decide +kernel
set_option maxRecDepth 20000 in
theorem ggX8_hangs_X8_i : GoodIn wsX8_hangs wsX8_i := goodIn_r _ [5] (by decide +kernel) (by decide +kernel)
set_option maxRecDepth 20000 in
theorem gX8_hangs_X8_i : GoodIn wsX8_hangs (va_wsS RX8 50 yX8_i wsX8_i) := goodIn_app (goodIn_of _ (by decide +kernel)) ggX8_hangs_X8_i
theorem dX8_hangs_0 : decode cX8_hangs 0 = .ok (.aload_n 0, 1) := by decide +kernel
theorem dX8_hangs_1 : decode cX8_hangs 1 = .ok (.getfield 16, 3) := by decide +kernel
theorem dX8_hangs_4 : decode cX8_hangs 4 = .ok (.iconst 5, 1) := by decide +kernel
theorem dX8_hangs_5 : decode cX8_hangs 5 = .ok (.iaload, 1) := by decide +kernel
theorem dX8_hangs_6 : decode cX8_hangs 6 = .ok (.invokestatic 50, 3) := by decide +kernel
theorem dX8_hangs_9 : decode cX8_hangs 9 = .ok (.istore_n 1, 1) := by decide +kernel
theorem dX8_hangs_10 : decode cX8_hangs 10 = .ok (.iconst 0, 1) := by decide +kernel
theorem dX8_hangs_11 : decode cX8_hangs 11 = .ok (.istore_n 2, 1) := by decide +kernel
theorem dX8_hangs_12 : decode cX8_hangs 12 = .ok (.iload_n 2, 1) := by decide +kernel
theorem dX8_hangs_13 : decode cX8_hangs 13 = .ok (.bipush 8, 2) := by decide +kernel
theorem dX8_hangs_15 : decode cX8_hangs 15 = .ok (.if_icmp .ge 18, 3) := by decide +kernel
theorem dX8_hangs_18 : decode cX8_hangs 18 = .ok (.aload_n 0, 1) := by decide +kernel
theorem dX8_hangs_19 : decode cX8_hangs 19 = .ok (.getfield 16, 3) := by decide +kernel
theorem dX8_hangs_22 : decode cX8_hangs 22 = .ok (.iload_n 1, 1) := by decide +kernel
theorem dX8_hangs_23 : decode cX8_hangs 23 = .ok (.iload_n 2, 1) := by decide +kernel
theorem dX8_hangs_24 : decode cX8_hangs 24 = .ok (.iadd, 1) := by decide +kernel
theorem dX8_hangs_25 : decode cX8_hangs 25 = .ok (.iconst 0, 1) := by decide +kernel
theorem dX8_hangs_26 : decode cX8_hangs 26 = .ok (.iastore, 1) := by decide +kernel
theorem dX8_hangs_27 : decode cX8_hangs 27 = .ok (.iinc 2 1, 3) := by decide +kernel
theorem dX8_hangs_30 : decode cX8_hangs 30 = .ok (.goto (-18), 3) := by decide +kernel
theorem dX8_hangs_33 : decode cX8_hangs 33 = .ok (.aload_n 0, 1) := by decide +kernel
theorem dX8_hangs_34 : decode cX8_hangs 34 = .ok (.getfield 16, 3) := by decide +kernel
theorem dX8_hangs_37 : decode cX8_hangs 37 = .ok (.iload_n 1, 1) := by decide +kernel
theorem dX8_hangs_38 : decode cX8_hangs 38 = .ok (.bipush 7, 2) := by decide +kernel
theorem dX8_hangs_40 : decode cX8_hangs 40 = .ok (.iadd, 1) := by decide +kernel
theorem dX8_hangs_41 : decode cX8_hangs 41 = .ok (.iconst (-1), 1) := by decide +kernel
theorem dX8_hangs_42 : decode cX8_hangs 42 = .ok (.iastore, 1) := by decide +kernel
theorem dX8_hangs_43 : decode cX8_hangs 43 = .ok (.aload_n 0, 1) := by decide +kernel
theorem dX8_hangs_44 : decode cX8_hangs 44 = .ok (.getfield 16, 3) := by decide +kernel
theorem dX8_hangs_47 : decode cX8_hangs 47 = .ok (.iconst 5, 1) := by decide +kernel
theorem dX8_hangs_48 : decode cX8_hangs 48 = .ok (.dup2, 1) := by decide +kernel
theorem dX8_hangs_49 : decode cX8_hangs 49 = .ok (.iaload, 1) := by decide +kernel
theorem dX8_hangs_50 : decode cX8_hangs 50 = .ok (.iconst 1, 1) := by decide +kernel
theorem dX8_hangs_51 : decode cX8_hangs 51 = .ok (.iadd, 1) := by decide +kernel
theorem dX8_hangs_52 : decode cX8_hangs 52 = .ok (.iastore, 1) := by decide +kernel
theorem dX8_hangs_53 : decode cX8_hangs 53 = .ok (.return_, 1) := by decide +kernel
set_option maxRecDepth 20000 in
theorem ggX8_hangsHair_X8_hangs : GoodIn wsX8_hangsHair wsX8_hangs := goodIn_r _ [6, 1, 7, 8, 5, 9, 10, 11, 12, 13, 14, 15, 16, 17, 18, 19, 20, 21, 22, 23, 24, 25, 26, 27, 28, 29, 30, 31] (by decide +kernel) (by decide +kernel)
set_option maxRecDepth 20000 in
theorem gX8_hangsHair_X8_hangs : GoodIn wsX8_hangsHair (wsV RX8 60 RX8 yX8_hangs wsX8_hangs) := goodIn_app (goodIn_of _ (by decide +kernel)) ggX8_hangsHair_X8_hangs
set_option maxRecDepth 20000 in
theorem ggX8_hangsHair_X8_i : GoodIn wsX8_hangsHair wsX8_i := goodIn_r _ [9] (by decide +kernel) (by decide +kernel)
set_option maxRecDepth 20000 in
theorem gX8_hangsHair_X8_i : GoodIn wsX8_hangsHair (va_wsS RX8 50 yX8_i wsX8_i) := goodIn_app (goodIn_of _ (by decide +kernel)) ggX8_hangsHair_X8_i
theorem dX8_hangsHair_0 : decode cX8_hangsHair 0 = .ok (.aload_n 0, 1) := by decide +kernel
theorem dX8_hangsHair_1 : decode cX8_hangsHair 1 = .ok (.invokevirtual 60, 3) := by decide +kernel
theorem dX8_hangsHair_4 : decode cX8_hangsHair 4 = .ok (.aload_n 0, 1) := by decide +kernel
theorem dX8_hangsHair_5 : decode cX8_hangsHair 5 = .ok (.getfield 16, 3) := by decide +kernel
theorem dX8_hangsHair_8 : decode cX8_hangsHair 8 = .ok (.iconst 5, 1) := by decide +kernel
theorem dX8_hangsHair_9 : decode cX8_hangsHair 9 = .ok (.iaload, 1) := by decide +kernel
theorem dX8_hangsHair_10 : decode cX8_hangsHair 10 = .ok (.iconst 1, 1) := by decide +kernel
theorem dX8_hangsHair_11 : decode cX8_hangsHair 11 = .ok (.isub, 1) := by decide +kernel
theorem dX8_hangsHair_12 : decode cX8_hangsHair 12 = .ok (.invokestatic 50, 3) := by decide +kernel
theorem dX8_hangsHair_15 : decode cX8_hangsHair 15 = .ok (.istore_n 2, 1) := by decide +kernel
theorem dX8_hangsHair_16 : decode cX8_hangsHair 16 = .ok (.aload_n 0, 1) := by decide +kernel
theorem dX8_hangsHair_17 : decode cX8_hangsHair 17 = .ok (.getfield 16, 3) := by decide +kernel
theorem dX8_hangsHair_20 : decode cX8_hangsHair 20 = .ok (.iload_n 2, 1) := by decide +kernel
theorem dX8_hangsHair_21 : decode cX8_hangsHair 21 = .ok (.iconst 0, 1) := by decide +kernel
theorem dX8_hangsHair_22 : decode cX8_hangsHair 22 = .ok (.iadd, 1) := by decide +kernel
theorem dX8_hangsHair_23 : decode cX8_hangsHair 23 = .ok (.iconst 1, 1) := by decide +kernel
theorem dX8_hangsHair_24 : decode cX8_hangsHair 24 = .ok (.iastore, 1) := by decide +kernel
theorem dX8_hangsHair_25 : decode cX8_hangsHair 25 = .ok (.aload_n 0, 1) := by decide +kernel
theorem dX8_hangsHair_26 : decode cX8_hangsHair 26 = .ok (.getfield 16, 3) := by decide +kernel
theorem dX8_hangsHair_29 : decode cX8_hangsHair 29 = .ok (.iload_n 2, 1) := by decide +kernel
theorem dX8_hangsHair_30 : decode cX8_hangsHair 30 = .ok (.iconst 1, 1) := by decide +kernel
theorem dX8_hangsHair_31 : decode cX8_hangsHair 31 = .ok (.iadd, 1) := by decide +kernel
theorem dX8_hangsHair_32 : decode cX8_hangsHair 32 = .ok (.iload_n 1, 1) := by decide +kernel
theorem dX8_hangsHair_33 : decode cX8_hangsHair 33 = .ok (.iastore, 1) := by decide +kernel
theorem dX8_hangsHair_34 : decode cX8_hangsHair 34 = .ok (.aload_n 0, 1) := by decide +kernel
theorem dX8_hangsHair_35 : decode cX8_hangsHair 35 = .ok (.getfield 16, 3) := by decide +kernel
theorem dX8_hangsHair_38 : decode cX8_hangsHair 38 = .ok (.iload_n 2, 1) := by decide +kernel
theorem dX8_hangsHair_39 : decode cX8_hangsHair 39 = .ok (.iconst 3, 1) := by decide +kernel
theorem dX8_hangsHair_40 : decode cX8_hangsHair 40 = .ok (.iadd, 1) := by decide +kernel
theorem dX8_hangsHair_41 : decode cX8_hangsHair 41 = .ok (.aload_n 0, 1) := by decide +kernel
theorem dX8_hangsHair_42 : decode cX8_hangsHair 42 = .ok (.getfield 16, 3) := by decide +kernel
theorem dX8_hangsHair_45 : decode cX8_hangsHair 45 = .ok (.iconst 1, 1) := by decide +kernel
theorem dX8_hangsHair_46 : decode cX8_hangsHair 46 = .ok (.iaload, 1) := by decide +kernel
theorem dX8_hangsHair_47 : decode cX8_hangsHair 47 = .ok (.iastore, 1) := by decide +kernel
theorem dX8_hangsHair_48 : decode cX8_hangsHair 48 = .ok (.aload_n 0, 1) := by decide +kernel
theorem dX8_hangsHair_49 : decode cX8_hangsHair 49 = .ok (.getfield 16, 3) := by decide +kernel
theorem dX8_hangsHair_52 : decode cX8_hangsHair 52 = .ok (.bipush 6, 2) := by decide +kernel
theorem dX8_hangsHair_54 : decode cX8_hangsHair 54 = .ok (.dup2, 1) := by decide +kernel
theorem dX8_hangsHair_55 : decode cX8_hangsHair 55 = .ok (.iaload, 1) := by decide +kernel
theorem dX8_hangsHair_56 : decode cX8_hangsHair 56 = .ok (.iload_n 1, 1) := by decide +kernel
theorem dX8_hangsHair_57 : decode cX8_hangsHair 57 = .ok (.iadd, 1) := by decide +kernel
theorem dX8_hangsHair_58 : decode cX8_hangsHair 58 = .ok (.iastore, 1) := by decide +kernel
theorem dX8_hangsHair_59 : decode cX8_hangsHair 59 = .ok (.return_, 1) := by decide +kernel
set_option maxRecDepth 20000 in
theorem ggX8_hangsBulb_X8_hangs : GoodIn wsX8_hangsBulb wsX8_hangs := goodIn_r _ [6, 1, 7, 8, 5, 9, 10, 11, 12, 13, 14, 15, 16, 17, 18, 19, 20, 21, 22, 23, 24, 25, 26, 27, 28, 29, 30, 31] (by decide +kernel) (by decide +kernel)
set_option maxRecDepth 20000 in
theorem gX8_hangsBulb_X8_hangs : GoodIn wsX8_hangsBulb (wsV RX8 60 RX8 yX8_hangs wsX8_hangs) := goodIn_app (goodIn_of _ (by decide +kernel)) ggX8_hangsBulb_X8_hangs
set_option maxRecDepth 20000 in
theorem ggX8_hangsBulb_X8_i : GoodIn wsX8_hangsBulb wsX8_i := goodIn_r _ [9] (by decide +kernel) (by decide +kernel)
set_option maxRecDepth 20000 in
theorem gX8_hangsBulb_X8_i : GoodIn wsX8_hangsBulb (va_wsS RX8 50 yX8_i wsX8_i) := goodIn_app (goodIn_of _ (by decide +kernel)) ggX8_hangsBulb_X8_i
theorem dX8_hangsBulb_0 : decode cX8_hangsBulb 0 = .ok (.aload_n 0, 1) := by decide +kernel
theorem dX8_hangsBulb_1 : decode cX8_hangsBulb 1 = .ok (.invokevirtual 60, 3) := by decide +kernel
theorem dX8_hangsBulb_4 : decode cX8_hangsBulb 4 = .ok (.aload_n 0, 1) := by decide +kernel
theorem dX8_hangsBulb_5 : decode cX8_hangsBulb 5 = .ok (.getfield 16, 3) := by decide +kernel
theorem dX8_hangsBulb_8 : decode cX8_hangsBulb 8 = .ok (.aload_n 0, 1) := by decide +kernel
theorem dX8_hangsBulb_9 : decode cX8_hangsBulb 9 = .ok (.getfield 16, 3) := by decide +kernel
theorem dX8_hangsBulb_12 : decode cX8_hangsBulb 12 = .ok (.iconst 5, 1) := by decide +kernel
theorem dX8_hangsBulb_13 : decode cX8_hangsBulb 13 = .ok (.iaload, 1) := by decide +kernel
theorem dX8_hangsBulb_14 : decode cX8_hangsBulb 14 = .ok (.iconst 1, 1) := by decide +kernel
theorem dX8_hangsBulb_15 : decode cX8_hangsBulb 15 = .ok (.isub, 1) := by decide +kernel
theorem dX8_hangsBulb_16 : decode cX8_hangsBulb 16 = .ok (.invokestatic 50, 3) := by decide +kernel
theorem dX8_hangsBulb_19 : decode cX8_hangsBulb 19 = .ok (.iconst 5, 1) := by decide +kernel
theorem dX8_hangsBulb_20 : decode cX8_hangsBulb 20 = .ok (.iadd, 1) := by decide +kernel
theorem dX8_hangsBulb_21 : decode cX8_hangsBulb 21 = .ok (.iload_n 1, 1) := by decide +kernel
theorem dX8_hangsBulb_22 : decode cX8_hangsBulb 22 = .ok (.iastore, 1) := by decide +kernel
theorem dX8_hangsBulb_23 : decode cX8_hangsBulb 23 = .ok (.return_, 1) := by decide +kernel
set_option maxRecDepth 20000 in
theorem ggX8_isOfHair_X8_i : GoodIn wsX8_isOfHair wsX8_i := goodIn_r _ [5] (by decide +kernel) (by decide +kernel)
set_option maxRecDepth 20000 in
theorem gX8_isOfHair_X8_i : GoodIn wsX8_isOfHair (va_wsS RX8 50 yX8_i wsX8_i) := goodIn_app (goodIn_of _ (by decide +kernel)) ggX8_isOfHair_X8_i
theorem dX8_isOfHair_0 : decode cX8_isOfHair 0 = .ok (.aload_n 0, 1) := by decide +kernel
theorem dX8_isOfHair_1 : decode cX8_isOfHair 1 = .ok (.getfield 16, 3) := by decide +kernel
theorem dX8_isOfHair_4 : decode cX8_isOfHair 4 = .ok (.iload_n 1, 1) := by decide +kernel
theorem dX8_isOfHair_5 : decode cX8_isOfHair 5 = .ok (.invokestatic 50, 3) := by decide +kernel
theorem dX8_isOfHair_8 : decode cX8_isOfHair 8 = .ok (.iconst 0, 1) := by decide +kernel
theorem dX8_isOfHair_9 : decode cX8_isOfHair 9 = .ok (.iadd, 1) := by decide +kernel
theorem dX8_isOfHair_10 : decode cX8_isOfHair 10 = .ok (.iaload, 1) := by decide +kernel
theorem dX8_isOfHair_11 : decode cX8_isOfHair 11 = .ok (.iconst 1, 1) := by decide +kernel
theorem dX8_isOfHair_12 : decode cX8_isOfHair 12 = .ok (.if_icmp .ne 7, 3) := by decide +kernel
theorem dX8_isOfHair_15 : decode cX8_isOfHair 15 = .ok (.iconst 1, 1) := by decide +kernel
theorem dX8_isOfHair_16 : decode cX8_isOfHair 16 = .ok (.goto 4, 3) := by decide +kernel
theorem dX8_isOfHair_19 : decode cX8_isOfHair 19 = .ok (.iconst 0, 1) := by decide +kernel
theorem dX8_isOfHair_20 : decode cX8_isOfHair 20 = .ok (.ireturn, 1) := by decide +kernel
set_option maxRecDepth 20000 in
theorem ggX8_isBoxed_X8_i : GoodIn wsX8_isBoxed wsX8_i := goodIn_r _ [5] (by decide +kernel) (by decide +kernel)
set_option maxRecDepth 20000 in
theorem gX8_isBoxed_X8_i : GoodIn wsX8_isBoxed (va_wsS RX8 50 yX8_i wsX8_i) := goodIn_app (goodIn_of _ (by decide +kernel)) ggX8_isBoxed_X8_i
theorem dX8_isBoxed_0 : decode cX8_isBoxed 0 = .ok (.aload_n 0, 1) := by decide +kernel
theorem dX8_isBoxed_1 : decode cX8_isBoxed 1 = .ok (.getfield 16, 3) := by decide +kernel
theorem dX8_isBoxed_4 : decode cX8_isBoxed 4 = .ok (.iload_n 1, 1) := by decide +kernel
theorem dX8_isBoxed_5 : decode cX8_isBoxed 5 = .ok (.invokestatic 50, 3) := by decide +kernel
theorem dX8_isBoxed_8 : decode cX8_isBoxed 8 = .ok (.bipush 7, 2) := by decide +kernel
theorem dX8_isBoxed_10 : decode cX8_isBoxed 10 = .ok (.iadd, 1) := by decide +kernel
theorem dX8_isBoxed_11 : decode cX8_isBoxed 11 = .ok (.iaload, 1) := by decide +kernel
theorem dX8_isBoxed_12 : decode cX8_isBoxed 12 = .ok (.iconst (-1), 1) := by decide +kernel
theorem dX8_isBoxed_13 : decode cX8_isBoxed 13 = .ok (.if_icmp .eq 7, 3) := by decide +kernel
theorem dX8_isBoxed_16 : decode cX8_isBoxed 16 = .ok (.iconst 1, 1) := by decide +kernel
theorem dX8_isBoxed_17 : decode cX8_isBoxed 17 = .ok (.goto 4, 3) := by decide +kernel
theorem dX8_isBoxed_20 : decode cX8_isBoxed 20 = .ok (.iconst 0, 1) := by decide +kernel
theorem dX8_isBoxed_21 : decode cX8_isBoxed 21 = .ok (.ireturn, 1) := by decide +kernel
set_option maxRecDepth 20000 in
theorem ggX8_around_X8_isBoxed : GoodIn wsX8_around wsX8_isBoxed := goodIn_r _ [7, 2, 8, 9, 6, 10, 11, 12, 13, 14, 15, 16, 17, 18, 19, 20, 21, 22, 23, 24, 25, 26, 27, 28, 29, 30, 31, 32] (by decide +kernel) (by decide +kernel)
set_option maxRecDepth 20000 in
theorem gX8_around_X8_isBoxed : GoodIn wsX8_around (wsV RX8 63 RX8 yX8_isBoxed wsX8_isBoxed) := goodIn_app (goodIn_of _ (by decide +kernel)) ggX8_around_X8_isBoxed
set_option maxRecDepth 20000 in
theorem ggX8_around_X8_i : GoodIn wsX8_around wsX8_i := goodIn_r _ [10] (by decide +kernel) (by decide +kernel)
set_option maxRecDepth 20000 in
theorem gX8_around_X8_i : GoodIn wsX8_around (va_wsS RX8 50 yX8_i wsX8_i) := goodIn_app (goodIn_of _ (by decide +kernel)) ggX8_around_X8_i
theorem dX8_around_0 : decode cX8_around 0 = .ok (.aload_n 0, 1) := by decide +kernel
theorem dX8_around_1 : decode cX8_around 1 = .ok (.iload_n 1, 1) := by decide +kernel
theorem dX8_around_2 : decode cX8_around 2 = .ok (.invokevirtual 63, 3) := by decide +kernel
theorem dX8_around_5 : decode cX8_around 5 = .ok (.ifCond .eq 21, 3) := by decide +kernel
theorem dX8_around_8 : decode cX8_around 8 = .ok (.aload_n 0, 1) := by decide +kernel
theorem dX8_around_9 : decode cX8_around 9 = .ok (.getfield 7, 3) := by decide +kernel
theorem dX8_around_12 : decode cX8_around 12 = .ok (.aload_n 0, 1) := by decide +kernel
theorem dX8_around_13 : decode cX8_around 13 = .ok (.getfield 16, 3) := by decide +kernel
theorem dX8_around_16 : decode cX8_around 16 = .ok (.iload_n 1, 1) := by decide +kernel
theorem dX8_around_17 : decode cX8_around 17 = .ok (.invokestatic 50, 3) := by decide +kernel
theorem dX8_around_20 : decode cX8_around 20 = .ok (.bipush 7, 2) := by decide +kernel
theorem dX8_around_22 : decode cX8_around 22 = .ok (.iadd, 1) := by decide +kernel
theorem dX8_around_23 : decode cX8_around 23 = .ok (.iaload, 1) := by decide +kernel
theorem dX8_around_24 : decode cX8_around 24 = .ok (.iaload, 1) := by decide +kernel
theorem dX8_around_25 : decode cX8_around 25 = .ok (.ireturn, 1) := by decide +kernel
theorem dX8_around_26 : decode cX8_around 26 = .ok (.aload_n 0, 1) := by decide +kernel
theorem dX8_around_27 : decode cX8_around 27 = .ok (.getfield 16, 3) := by decide +kernel
theorem dX8_around_30 : decode cX8_around 30 = .ok (.iconst 1, 1) := by decide +kernel
theorem dX8_around_31 : decode cX8_around 31 = .ok (.iaload, 1) := by decide +kernel
theorem dX8_around_32 : decode cX8_around 32 = .ok (.ireturn, 1) := by decide +kernel
set_option maxRecDepth 20000 in
theorem ggX8_depression_X8_i : GoodIn wsX8_depression wsX8_i := goodIn_r _ [5] (by decide +kernel) (by decide +kernel)
set_option maxRecDepth 20000 in
theorem gX8_depression_X8_i : GoodIn wsX8_depression (va_wsS RX8 50 yX8_i wsX8_i) := goodIn_app (goodIn_of _ (by decide +kernel)) ggX8_depression_X8_i
set_option maxRecDepth 20000 in
theorem ggX8_depression_X8_around : GoodIn wsX8_depression wsX8_around := goodIn_r _ [9, 10, 1, 11, 12, 13, 4, 14, 2, 3, 5, 15, 16, 17, 18, 19, 20, 21, 22, 23, 24, 25, 26, 27, 28, 29, 30, 31, 32, 33, 34, 35, 36] (by decide +kernel) (by decide +kernel)
set_option maxRecDepth 20000 in
theorem gX8_depression_X8_around : GoodIn wsX8_depression (wsV RX8 67 RX8 yX8_around wsX8_around) := goodIn_app (goodIn_of _ (by decide +kernel)) ggX8_depression_X8_around
theorem dX8_depression_0 : decode cX8_depression 0 = .ok (.aload_n 0, 1) := by decide +kernel
theorem dX8_depression_1 : decode cX8_depression 1 = .ok (.getfield 16, 3) := by decide +kernel
theorem dX8_depression_4 : decode cX8_depression 4 = .ok (.iload_n 1, 1) := by decide +kernel
theorem dX8_depression_5 : decode cX8_depression 5 = .ok (.invokestatic 50, 3) := by decide +kernel
theorem dX8_depression_8 : decode cX8_depression 8 = .ok (.iconst 5, 1) := by decide +kernel
theorem dX8_depression_9 : decode cX8_depression 9 = .ok (.iadd, 1) := by decide +kernel
theorem dX8_depression_10 : decode cX8_depression 10 = .ok (.iaload, 1) := by decide +kernel
theorem dX8_depression_11 : decode cX8_depression 11 = .ok (.ifCond .ne 5, 3) := by decide +kernel
theorem dX8_depression_14 : decode cX8_depression 14 = .ok (.iconst 0, 1) := by decide +kernel
theorem dX8_depression_15 : decode cX8_depression 15 = .ok (.ireturn, 1) := by decide +kernel
theorem dX8_depression_16 : decode cX8_depression 16 = .ok (.bipush 100, 2) := by decide +kernel
theorem dX8_depression_18 : decode cX8_depression 18 = .ok (.aload_n 0, 1) := by decide +kernel
theorem dX8_depression_19 : decode cX8_depression 19 = .ok (.iload_n 1, 1) := by decide +kernel
theorem dX8_depression_20 : decode cX8_depression 20 = .ok (.invokevirtual 67, 3) := by decide +kernel
theorem dX8_depression_23 : decode cX8_depression 23 = .ok (.isub, 1) := by decide +kernel
theorem dX8_depression_24 : decode cX8_depression 24 = .ok (.aload_n 0, 1) := by decide +kernel
theorem dX8_depression_25 : decode cX8_depression 25 = .ok (.getfield 16, 3) := by decide +kernel
theorem dX8_depression_28 : decode cX8_depression 28 = .ok (.iconst 2, 1) := by decide +kernel
theorem dX8_depression_29 : decode cX8_depression 29 = .ok (.iaload, 1) := by decide +kernel
theorem dX8_depression_30 : decode cX8_depression 30 = .ok (.bipush 10, 2) := by decide +kernel
theorem dX8_depression_32 : decode cX8_depression 32 = .ok (.iadd, 1) := by decide +kernel
theorem dX8_depression_33 : decode cX8_depression 33 = .ok (.imul, 1) := by decide +kernel
theorem dX8_depression_34 : decode cX8_depression 34 = .ok (.bipush 100, 2) := by decide +kernel
theorem dX8_depression_36 : decode cX8_depression 36 = .ok (.idiv, 1) := by decide +kernel
theorem dX8_depression_37 : decode cX8_depression 37 = .ok (.ireturn, 1) := by decide +kernel
set_option maxRecDepth 20000 in
theorem ggX8_raw_X8_isOfHair : GoodIn wsX8_raw wsX8_isOfHair := goodIn_r _ [6, 1, 7, 8, 5, 9, 23, 24, 25, 26, 27, 28, 29, 30, 31, 32, 33, 34, 35, 36, 37, 38, 39, 40, 41, 42, 43, 44] (by decide +kernel) (by decide +kernel)
set_option maxRecDepth 20000 in
theorem gX8_raw_X8_isOfHair : GoodIn wsX8_raw (wsV RX8 70 RX8 yX8_isOfHair wsX8_isOfHair) := goodIn_app (goodIn_of _ (by decide +kernel)) ggX8_raw_X8_isOfHair
set_option maxRecDepth 20000 in
theorem ggX8_raw_X8_i : GoodIn wsX8_raw wsX8_i := goodIn_r _ [9] (by decide +kernel) (by decide +kernel)
set_option maxRecDepth 20000 in
theorem gX8_raw_X8_i : GoodIn wsX8_raw (va_wsS RX8 50 yX8_i wsX8_i) := goodIn_app (goodIn_of _ (by decide +kernel)) ggX8_raw_X8_i
set_option maxRecDepth 20000 in
theorem ggX8_raw_X8_depression : GoodIn wsX8_raw wsX8_depression := goodIn_r _ [13, 1, 7, 8, 5, 9, 14, 15, 16, 17, 18, 19, 20, 21, 22, 23, 24, 25, 26, 27, 28, 29, 30, 31, 32, 33, 34, 35, 36, 37, 38, 39, 40, 41, 42, 43, 44] (by decide +kernel) (by decide +kernel)
set_option maxRecDepth 20000 in
theorem gX8_raw_X8_depression : GoodIn wsX8_raw (wsV RX8 73 RX8 yX8_depression wsX8_depression) := goodIn_app (goodIn_of _ (by decide +kernel)) ggX8_raw_X8_depression
theorem dX8_raw_0 : decode cX8_raw 0 = .ok (.aload_n 0, 1) := by decide +kernel
theorem dX8_raw_1 : decode cX8_raw 1 = .ok (.iload_n 1, 1) := by decide +kernel
theorem dX8_raw_2 : decode cX8_raw 2 = .ok (.invokevirtual 70, 3) := by decide +kernel
theorem dX8_raw_5 : decode cX8_raw 5 = .ok (.ifCond .eq 29, 3) := by decide +kernel
theorem dX8_raw_8 : decode cX8_raw 8 = .ok (.aload_n 0, 1) := by decide +kernel
theorem dX8_raw_9 : decode cX8_raw 9 = .ok (.getfield 16, 3) := by decide +kernel
theorem dX8_raw_12 : decode cX8_raw 12 = .ok (.iload_n 1, 1) := by decide +kernel
theorem dX8_raw_13 : decode cX8_raw 13 = .ok (.invokestatic 50, 3) := by decide +kernel
theorem dX8_raw_16 : decode cX8_raw 16 = .ok (.iconst 3, 1) := by decide +kernel
theorem dX8_raw_17 : decode cX8_raw 17 = .ok (.iadd, 1) := by decide +kernel
theorem dX8_raw_18 : decode cX8_raw 18 = .ok (.iaload, 1) := by decide +kernel
theorem dX8_raw_19 : decode cX8_raw 19 = .ok (.aload_n 0, 1) := by decide +kernel
theorem dX8_raw_20 : decode cX8_raw 20 = .ok (.getfield 16, 3) := by decide +kernel
theorem dX8_raw_23 : decode cX8_raw 23 = .ok (.iload_n 1, 1) := by decide +kernel
theorem dX8_raw_24 : decode cX8_raw 24 = .ok (.invokestatic 50, 3) := by decide +kernel
theorem dX8_raw_27 : decode cX8_raw 27 = .ok (.iconst 4, 1) := by decide +kernel
theorem dX8_raw_28 : decode cX8_raw 28 = .ok (.iadd, 1) := by decide +kernel
theorem dX8_raw_29 : decode cX8_raw 29 = .ok (.iaload, 1) := by decide +kernel
theorem dX8_raw_30 : decode cX8_raw 30 = .ok (.iconst 5, 1) := by decide +kernel
theorem dX8_raw_31 : decode cX8_raw 31 = .ok (.idiv, 1) := by decide +kernel
theorem dX8_raw_32 : decode cX8_raw 32 = .ok (.isub, 1) := by decide +kernel
theorem dX8_raw_33 : decode cX8_raw 33 = .ok (.ireturn, 1) := by decide +kernel
theorem dX8_raw_34 : decode cX8_raw 34 = .ok (.bipush 100, 2) := by decide +kernel
theorem dX8_raw_36 : decode cX8_raw 36 = .ok (.aload_n 0, 1) := by decide +kernel
theorem dX8_raw_37 : decode cX8_raw 37 = .ok (.iload_n 1, 1) := by decide +kernel
theorem dX8_raw_38 : decode cX8_raw 38 = .ok (.invokevirtual 73, 3) := by decide +kernel
theorem dX8_raw_41 : decode cX8_raw 41 = .ok (.bipush 100, 2) := by decide +kernel
theorem dX8_raw_43 : decode cX8_raw 43 = .ok (.imul, 1) := by decide +kernel
theorem dX8_raw_44 : decode cX8_raw 44 = .ok (.aload_n 0, 1) := by decide +kernel
theorem dX8_raw_45 : decode cX8_raw 45 = .ok (.getfield 16, 3) := by decide +kernel
theorem dX8_raw_48 : decode cX8_raw 48 = .ok (.iconst 2, 1) := by decide +kernel
theorem dX8_raw_49 : decode cX8_raw 49 = .ok (.iaload, 1) := by decide +kernel
theorem dX8_raw_50 : decode cX8_raw 50 = .ok (.bipush 10, 2) := by decide +kernel
theorem dX8_raw_52 : decode cX8_raw 52 = .ok (.iadd, 1) := by decide +kernel
theorem dX8_raw_53 : decode cX8_raw 53 = .ok (.idiv, 1) := by decide +kernel
theorem dX8_raw_54 : decode cX8_raw 54 = .ok (.isub, 1) := by decide +kernel
theorem dX8_raw_55 : decode cX8_raw 55 = .ok (.ireturn, 1) := by decide +kernel
set_option maxRecDepth 20000 in
theorem ggX8_reading_X8_raw : GoodIn wsX8_reading wsX8_raw := goodIn_r _ [6, 1, 7, 8, 9, 5, 10, 11, 12, 13, 14, 15, 16, 17, 18, 19, 20, 21, 22, 23, 24, 25, 26, 27, 28, 29, 30, 31, 32, 33, 34, 35, 36, 37, 38, 39, 40, 41, 42, 43, 44, 45, 46, 47, 48] (by decide +kernel) (by decide +kernel)
set_option maxRecDepth 20000 in
theorem gX8_reading_X8_raw : GoodIn wsX8_reading (wsV RX8 76 RX8 yX8_raw wsX8_raw) := goodIn_app (goodIn_of _ (by decide +kernel)) ggX8_reading_X8_raw
set_option maxRecDepth 20000 in
theorem ggX8_reading_X8_i : GoodIn wsX8_reading wsX8_i := goodIn_r _ [13] (by decide +kernel) (by decide +kernel)
set_option maxRecDepth 20000 in
theorem gX8_reading_X8_i : GoodIn wsX8_reading (va_wsS RX8 50 yX8_i wsX8_i) := goodIn_app (goodIn_of _ (by decide +kernel)) ggX8_reading_X8_i
theorem dX8_reading_0 : decode cX8_reading 0 = .ok (.aload_n 0, 1) := by decide +kernel
theorem dX8_reading_1 : decode cX8_reading 1 = .ok (.iload_n 1, 1) := by decide +kernel
theorem dX8_reading_2 : decode cX8_reading 2 = .ok (.invokevirtual 76, 3) := by decide +kernel
theorem dX8_reading_5 : decode cX8_reading 5 = .ok (.aload_n 0, 1) := by decide +kernel
theorem dX8_reading_6 : decode cX8_reading 6 = .ok (.getfield 16, 3) := by decide +kernel
theorem dX8_reading_9 : decode cX8_reading 9 = .ok (.iload_n 1, 1) := by decide +kernel
theorem dX8_reading_10 : decode cX8_reading 10 = .ok (.invokestatic 50, 3) := by decide +kernel
theorem dX8_reading_13 : decode cX8_reading 13 = .ok (.bipush 6, 2) := by decide +kernel
theorem dX8_reading_15 : decode cX8_reading 15 = .ok (.iadd, 1) := by decide +kernel
theorem dX8_reading_16 : decode cX8_reading 16 = .ok (.iaload, 1) := by decide +kernel
theorem dX8_reading_17 : decode cX8_reading 17 = .ok (.iadd, 1) := by decide +kernel
theorem dX8_reading_18 : decode cX8_reading 18 = .ok (.istore_n 2, 1) := by decide +kernel
theorem dX8_reading_19 : decode cX8_reading 19 = .ok (.iload_n 2, 1) := by decide +kernel
theorem dX8_reading_20 : decode cX8_reading 20 = .ok (.ifCond .ge 5, 3) := by decide +kernel
theorem dX8_reading_23 : decode cX8_reading 23 = .ok (.iconst 0, 1) := by decide +kernel
theorem dX8_reading_24 : decode cX8_reading 24 = .ok (.ireturn, 1) := by decide +kernel
theorem dX8_reading_25 : decode cX8_reading 25 = .ok (.iload_n 2, 1) := by decide +kernel
theorem dX8_reading_26 : decode cX8_reading 26 = .ok (.bipush 100, 2) := by decide +kernel
theorem dX8_reading_28 : decode cX8_reading 28 = .ok (.if_icmp .le 6, 3) := by decide +kernel
theorem dX8_reading_31 : decode cX8_reading 31 = .ok (.bipush 100, 2) := by decide +kernel
theorem dX8_reading_33 : decode cX8_reading 33 = .ok (.ireturn, 1) := by decide +kernel
theorem dX8_reading_34 : decode cX8_reading 34 = .ok (.iload_n 2, 1) := by decide +kernel
theorem dX8_reading_35 : decode cX8_reading 35 = .ok (.ireturn, 1) := by decide +kernel
set_option maxRecDepth 20000 in
theorem ggX8_isStill_X8_isOfHair : GoodIn wsX8_isStill wsX8_isOfHair := goodIn_r _ [6, 1, 7, 8, 5, 9, 19, 20, 21, 22, 23, 24, 25, 26, 27, 28, 29, 30, 31, 32, 33, 34, 35, 36, 37, 38, 39, 40] (by decide +kernel) (by decide +kernel)
set_option maxRecDepth 20000 in
theorem gX8_isStill_X8_isOfHair : GoodIn wsX8_isStill (wsV RX8 70 RX8 yX8_isOfHair wsX8_isOfHair) := goodIn_app (goodIn_of _ (by decide +kernel)) ggX8_isStill_X8_isOfHair
set_option maxRecDepth 20000 in
theorem ggX8_isStill_X8_i : GoodIn wsX8_isStill wsX8_i := goodIn_r _ [9] (by decide +kernel) (by decide +kernel)
set_option maxRecDepth 20000 in
theorem gX8_isStill_X8_i : GoodIn wsX8_isStill (va_wsS RX8 50 yX8_i wsX8_i) := goodIn_app (goodIn_of _ (by decide +kernel)) ggX8_isStill_X8_i
set_option maxRecDepth 20000 in
theorem ggX8_isStill_X8_around : GoodIn wsX8_isStill wsX8_around := goodIn_r _ [13, 14, 1, 15, 16, 17, 5, 18, 7, 8, 9, 19, 20, 21, 22, 23, 24, 25, 26, 27, 28, 29, 30, 31, 32, 33, 34, 35, 36, 37, 38, 39, 40] (by decide +kernel) (by decide +kernel)
set_option maxRecDepth 20000 in
theorem gX8_isStill_X8_around : GoodIn wsX8_isStill (wsV RX8 67 RX8 yX8_around wsX8_around) := goodIn_app (goodIn_of _ (by decide +kernel)) ggX8_isStill_X8_around
theorem dX8_isStill_0 : decode cX8_isStill 0 = .ok (.aload_n 0, 1) := by decide +kernel
theorem dX8_isStill_1 : decode cX8_isStill 1 = .ok (.iload_n 1, 1) := by decide +kernel
theorem dX8_isStill_2 : decode cX8_isStill 2 = .ok (.invokevirtual 70, 3) := by decide +kernel
theorem dX8_isStill_5 : decode cX8_isStill 5 = .ok (.ifCond .eq 28, 3) := by decide +kernel
theorem dX8_isStill_8 : decode cX8_isStill 8 = .ok (.aload_n 0, 1) := by decide +kernel
theorem dX8_isStill_9 : decode cX8_isStill 9 = .ok (.getfield 16, 3) := by decide +kernel
theorem dX8_isStill_12 : decode cX8_isStill 12 = .ok (.iload_n 1, 1) := by decide +kernel
theorem dX8_isStill_13 : decode cX8_isStill 13 = .ok (.invokestatic 50, 3) := by decide +kernel
theorem dX8_isStill_16 : decode cX8_isStill 16 = .ok (.iconst 3, 1) := by decide +kernel
theorem dX8_isStill_17 : decode cX8_isStill 17 = .ok (.iadd, 1) := by decide +kernel
theorem dX8_isStill_18 : decode cX8_isStill 18 = .ok (.iaload, 1) := by decide +kernel
theorem dX8_isStill_19 : decode cX8_isStill 19 = .ok (.aload_n 0, 1) := by decide +kernel
theorem dX8_isStill_20 : decode cX8_isStill 20 = .ok (.iload_n 1, 1) := by decide +kernel
theorem dX8_isStill_21 : decode cX8_isStill 21 = .ok (.invokevirtual 67, 3) := by decide +kernel
theorem dX8_isStill_24 : decode cX8_isStill 24 = .ok (.if_icmp .ne 7, 3) := by decide +kernel
theorem dX8_isStill_27 : decode cX8_isStill 27 = .ok (.iconst 1, 1) := by decide +kernel
theorem dX8_isStill_28 : decode cX8_isStill 28 = .ok (.goto 4, 3) := by decide +kernel
theorem dX8_isStill_31 : decode cX8_isStill 31 = .ok (.iconst 0, 1) := by decide +kernel
theorem dX8_isStill_32 : decode cX8_isStill 32 = .ok (.ireturn, 1) := by decide +kernel
theorem dX8_isStill_33 : decode cX8_isStill 33 = .ok (.aload_n 0, 1) := by decide +kernel
theorem dX8_isStill_34 : decode cX8_isStill 34 = .ok (.getfield 16, 3) := by decide +kernel
theorem dX8_isStill_37 : decode cX8_isStill 37 = .ok (.iload_n 1, 1) := by decide +kernel
theorem dX8_isStill_38 : decode cX8_isStill 38 = .ok (.invokestatic 50, 3) := by decide +kernel
theorem dX8_isStill_41 : decode cX8_isStill 41 = .ok (.iconst 5, 1) := by decide +kernel
theorem dX8_isStill_42 : decode cX8_isStill 42 = .ok (.iadd, 1) := by decide +kernel
theorem dX8_isStill_43 : decode cX8_isStill 43 = .ok (.iaload, 1) := by decide +kernel
theorem dX8_isStill_44 : decode cX8_isStill 44 = .ok (.ifCond .ne 7, 3) := by decide +kernel
theorem dX8_isStill_47 : decode cX8_isStill 47 = .ok (.iconst 1, 1) := by decide +kernel
theorem dX8_isStill_48 : decode cX8_isStill 48 = .ok (.goto 4, 3) := by decide +kernel
theorem dX8_isStill_51 : decode cX8_isStill 51 = .ok (.iconst 0, 1) := by decide +kernel
theorem dX8_isStill_52 : decode cX8_isStill 52 = .ok (.ireturn, 1) := by decide +kernel
set_option maxRecDepth 20000 in
theorem ggX8_hasSettled_X8_isOfHair : GoodIn wsX8_hasSettled wsX8_isOfHair := goodIn_r _ [5, 6, 7, 8, 4, 9, 23, 24, 25, 26, 27, 28, 29, 30, 31, 32, 33, 34, 35, 36, 37, 38, 39, 40, 41, 42, 43, 44] (by decide +kernel) (by decide +kernel)
set_option maxRecDepth 20000 in
theorem gX8_hasSettled_X8_isOfHair : GoodIn wsX8_hasSettled (wsV RX8 70 RX8 yX8_isOfHair wsX8_isOfHair) := goodIn_app (goodIn_of _ (by decide +kernel)) ggX8_hasSettled_X8_isOfHair
set_option maxRecDepth 20000 in
theorem ggX8_hasSettled_X8_isStill : GoodIn wsX8_hasSettled wsX8_isStill := goodIn_r _ [13, 6, 1, 2, 3, 4, 5, 7, 8, 9, 14, 15, 16, 17, 18, 19, 20, 21, 22, 23, 24, 25, 26, 27, 28, 29, 30, 31, 32, 33, 34, 35, 36, 37, 38, 39, 40, 41, 42, 43, 44] (by decide +kernel) (by decide +kernel)
set_option maxRecDepth 20000 in
theorem gX8_hasSettled_X8_isStill : GoodIn wsX8_hasSettled (wsV RX8 79 RX8 yX8_isStill wsX8_isStill) := goodIn_app (goodIn_of _ (by decide +kernel)) ggX8_hasSettled_X8_isStill
theorem dX8_hasSettled_0 : decode cX8_hasSettled 0 = .ok (.aload_n 0, 1) := by decide +kernel
theorem dX8_hasSettled_1 : decode cX8_hasSettled 1 = .ok (.iload_n 1, 1) := by decide +kernel
theorem dX8_hasSettled_2 : decode cX8_hasSettled 2 = .ok (.invokevirtual 70, 3) := by decide +kernel
theorem dX8_hasSettled_5 : decode cX8_hasSettled 5 = .ok (.aload_n 0, 1) := by decide +kernel
theorem dX8_hasSettled_6 : decode cX8_hasSettled 6 = .ok (.iload_n 1, 1) := by decide +kernel
theorem dX8_hasSettled_7 : decode cX8_hasSettled 7 = .ok (.invokevirtual 79, 3) := by decide +kernel
theorem dX8_hasSettled_10 : decode cX8_hasSettled 10 = .ok (.if_icmp .ne 7, 3) := by decide +kernel
theorem dX8_hasSettled_13 : decode cX8_hasSettled 13 = .ok (.iconst 1, 1) := by decide +kernel
theorem dX8_hasSettled_14 : decode cX8_hasSettled 14 = .ok (.goto 4, 3) := by decide +kernel
theorem dX8_hasSettled_17 : decode cX8_hasSettled 17 = .ok (.iconst 0, 1) := by decide +kernel
theorem dX8_hasSettled_18 : decode cX8_hasSettled 18 = .ok (.ireturn, 1) := by decide +kernel
set_option maxRecDepth 20000 in
theorem ggX8_flaw_X8_i : GoodIn wsX8_flaw wsX8_i := goodIn_r _ [5] (by decide +kernel) (by decide +kernel)
set_option maxRecDepth 20000 in
theorem gX8_flaw_X8_i : GoodIn wsX8_flaw (va_wsS RX8 50 yX8_i wsX8_i) := goodIn_app (goodIn_of _ (by decide +kernel)) ggX8_flaw_X8_i
set_option maxRecDepth 20000 in
theorem ggX8_flaw_X8_isBoxed : GoodIn wsX8_flaw wsX8_isBoxed := goodIn_r _ [9, 1, 2, 3, 4, 5, 14, 15, 16, 17, 18, 19, 20, 21, 22, 23, 24, 25, 26, 27, 28, 29, 30, 31, 32, 33, 34, 35] (by decide +kernel) (by decide +kernel)
set_option maxRecDepth 20000 in
theorem gX8_flaw_X8_isBoxed : GoodIn wsX8_flaw (wsV RX8 63 RX8 yX8_isBoxed wsX8_isBoxed) := goodIn_app (goodIn_of _ (by decide +kernel)) ggX8_flaw_X8_isBoxed
set_option maxRecDepth 20000 in
theorem ggX8_flaw_X8_isOfHair : GoodIn wsX8_flaw wsX8_isOfHair := goodIn_r _ [13, 1, 2, 3, 4, 5, 14, 15, 16, 17, 18, 19, 20, 21, 22, 23, 24, 25, 26, 27, 28, 29, 30, 31, 32, 33, 34, 35] (by decide +kernel) (by decide +kernel)
set_option maxRecDepth 20000 in
theorem gX8_flaw_X8_isOfHair : GoodIn wsX8_flaw (wsV RX8 70 RX8 yX8_isOfHair wsX8_isOfHair) := goodIn_app (goodIn_of _ (by decide +kernel)) ggX8_flaw_X8_isOfHair
theorem dX8_flaw_0 : decode cX8_flaw 0 = .ok (.iload_n 1, 1) := by decide +kernel
theorem dX8_flaw_1 : decode cX8_flaw 1 = .ok (.invokestatic 50, 3) := by decide +kernel
theorem dX8_flaw_4 : decode cX8_flaw 4 = .ok (.istore_n 2, 1) := by decide +kernel
theorem dX8_flaw_5 : decode cX8_flaw 5 = .ok (.aload_n 0, 1) := by decide +kernel
theorem dX8_flaw_6 : decode cX8_flaw 6 = .ok (.iload_n 1, 1) := by decide +kernel
theorem dX8_flaw_7 : decode cX8_flaw 7 = .ok (.invokevirtual 63, 3) := by decide +kernel
theorem dX8_flaw_10 : decode cX8_flaw 10 = .ok (.ifCond .eq 5, 3) := by decide +kernel
theorem dX8_flaw_13 : decode cX8_flaw 13 = .ok (.iconst 1, 1) := by decide +kernel
theorem dX8_flaw_14 : decode cX8_flaw 14 = .ok (.ireturn, 1) := by decide +kernel
theorem dX8_flaw_15 : decode cX8_flaw 15 = .ok (.aload_n 0, 1) := by decide +kernel
theorem dX8_flaw_16 : decode cX8_flaw 16 = .ok (.iload_n 1, 1) := by decide +kernel
theorem dX8_flaw_17 : decode cX8_flaw 17 = .ok (.invokevirtual 70, 3) := by decide +kernel
theorem dX8_flaw_20 : decode cX8_flaw 20 = .ok (.ifCond .eq 33, 3) := by decide +kernel
theorem dX8_flaw_23 : decode cX8_flaw 23 = .ok (.aload_n 0, 1) := by decide +kernel
theorem dX8_flaw_24 : decode cX8_flaw 24 = .ok (.getfield 16, 3) := by decide +kernel
theorem dX8_flaw_27 : decode cX8_flaw 27 = .ok (.iload_n 2, 1) := by decide +kernel
theorem dX8_flaw_28 : decode cX8_flaw 28 = .ok (.iconst 1, 1) := by decide +kernel
theorem dX8_flaw_29 : decode cX8_flaw 29 = .ok (.iadd, 1) := by decide +kernel
theorem dX8_flaw_30 : decode cX8_flaw 30 = .ok (.iaload, 1) := by decide +kernel
theorem dX8_flaw_31 : decode cX8_flaw 31 = .ok (.ifCond .ne 5, 3) := by decide +kernel
theorem dX8_flaw_34 : decode cX8_flaw 34 = .ok (.iconst 2, 1) := by decide +kernel
theorem dX8_flaw_35 : decode cX8_flaw 35 = .ok (.ireturn, 1) := by decide +kernel
theorem dX8_flaw_36 : decode cX8_flaw 36 = .ok (.aload_n 0, 1) := by decide +kernel
theorem dX8_flaw_37 : decode cX8_flaw 37 = .ok (.getfield 16, 3) := by decide +kernel
theorem dX8_flaw_40 : decode cX8_flaw 40 = .ok (.iload_n 2, 1) := by decide +kernel
theorem dX8_flaw_41 : decode cX8_flaw 41 = .ok (.iconst 4, 1) := by decide +kernel
theorem dX8_flaw_42 : decode cX8_flaw 42 = .ok (.iadd, 1) := by decide +kernel
theorem dX8_flaw_43 : decode cX8_flaw 43 = .ok (.iaload, 1) := by decide +kernel
theorem dX8_flaw_44 : decode cX8_flaw 44 = .ok (.bipush 25, 2) := by decide +kernel
theorem dX8_flaw_46 : decode cX8_flaw 46 = .ok (.if_icmp .le 5, 3) := by decide +kernel
theorem dX8_flaw_49 : decode cX8_flaw 49 = .ok (.iconst 3, 1) := by decide +kernel
theorem dX8_flaw_50 : decode cX8_flaw 50 = .ok (.ireturn, 1) := by decide +kernel
theorem dX8_flaw_51 : decode cX8_flaw 51 = .ok (.iconst 0, 1) := by decide +kernel
theorem dX8_flaw_52 : decode cX8_flaw 52 = .ok (.ireturn, 1) := by decide +kernel
theorem dX8_flaw_53 : decode cX8_flaw 53 = .ok (.aload_n 0, 1) := by decide +kernel
theorem dX8_flaw_54 : decode cX8_flaw 54 = .ok (.getfield 16, 3) := by decide +kernel
theorem dX8_flaw_57 : decode cX8_flaw 57 = .ok (.iload_n 2, 1) := by decide +kernel
theorem dX8_flaw_58 : decode cX8_flaw 58 = .ok (.iconst 5, 1) := by decide +kernel
theorem dX8_flaw_59 : decode cX8_flaw 59 = .ok (.iadd, 1) := by decide +kernel
theorem dX8_flaw_60 : decode cX8_flaw 60 = .ok (.iaload, 1) := by decide +kernel
theorem dX8_flaw_61 : decode cX8_flaw 61 = .ok (.ifCond .ne 5, 3) := by decide +kernel
theorem dX8_flaw_64 : decode cX8_flaw 64 = .ok (.iconst 2, 1) := by decide +kernel
theorem dX8_flaw_65 : decode cX8_flaw 65 = .ok (.ireturn, 1) := by decide +kernel
theorem dX8_flaw_66 : decode cX8_flaw 66 = .ok (.iconst 0, 1) := by decide +kernel
theorem dX8_flaw_67 : decode cX8_flaw 67 = .ok (.ireturn, 1) := by decide +kernel
set_option maxRecDepth 20000 in
theorem ggX8_weight_X8_flaw : GoodIn wsX8_weight wsX8_flaw := goodIn_r _ [6, 1, 7, 8, 5, 9, 10, 11, 12, 13, 14, 15, 16, 17, 18, 19, 20, 21, 22, 23, 24, 25, 26, 27, 28, 29, 30, 31, 32, 33, 34, 35, 36, 37, 38, 39] (by decide +kernel) (by decide +kernel)
set_option maxRecDepth 20000 in
theorem gX8_weight_X8_flaw : GoodIn wsX8_weight (wsV RX8 82 RX8 yX8_flaw wsX8_flaw) := goodIn_app (goodIn_of _ (by decide +kernel)) ggX8_weight_X8_flaw
set_option maxRecDepth 20000 in
theorem ggX8_weight_X8_isOfHair : GoodIn wsX8_weight wsX8_isOfHair := goodIn_r _ [17, 1, 7, 8, 5, 9, 18, 19, 20, 21, 22, 23, 24, 25, 26, 27, 28, 29, 30, 31, 32, 33, 34, 35, 36, 37, 38, 39] (by decide +kernel) (by decide +kernel)
set_option maxRecDepth 20000 in
theorem gX8_weight_X8_isOfHair : GoodIn wsX8_weight (wsV RX8 70 RX8 yX8_isOfHair wsX8_isOfHair) := goodIn_app (goodIn_of _ (by decide +kernel)) ggX8_weight_X8_isOfHair
set_option maxRecDepth 20000 in
theorem ggX8_weight_X8_i : GoodIn wsX8_weight wsX8_i := goodIn_r _ [9] (by decide +kernel) (by decide +kernel)
set_option maxRecDepth 20000 in
theorem gX8_weight_X8_i : GoodIn wsX8_weight (va_wsS RX8 50 yX8_i wsX8_i) := goodIn_app (goodIn_of _ (by decide +kernel)) ggX8_weight_X8_i
theorem dX8_weight_0 : decode cX8_weight 0 = .ok (.aload_n 0, 1) := by decide +kernel
theorem dX8_weight_1 : decode cX8_weight 1 = .ok (.iload_n 1, 1) := by decide +kernel
theorem dX8_weight_2 : decode cX8_weight 2 = .ok (.invokevirtual 82, 3) := by decide +kernel
theorem dX8_weight_5 : decode cX8_weight 5 = .ok (.ifCond .eq 5, 3) := by decide +kernel
theorem dX8_weight_8 : decode cX8_weight 8 = .ok (.iconst 0, 1) := by decide +kernel
theorem dX8_weight_9 : decode cX8_weight 9 = .ok (.ireturn, 1) := by decide +kernel
theorem dX8_weight_10 : decode cX8_weight 10 = .ok (.aload_n 0, 1) := by decide +kernel
theorem dX8_weight_11 : decode cX8_weight 11 = .ok (.iload_n 1, 1) := by decide +kernel
theorem dX8_weight_12 : decode cX8_weight 12 = .ok (.invokevirtual 70, 3) := by decide +kernel
theorem dX8_weight_15 : decode cX8_weight 15 = .ok (.ifCond .eq 15, 3) := by decide +kernel
theorem dX8_weight_18 : decode cX8_weight 18 = .ok (.aload_n 0, 1) := by decide +kernel
theorem dX8_weight_19 : decode cX8_weight 19 = .ok (.getfield 16, 3) := by decide +kernel
theorem dX8_weight_22 : decode cX8_weight 22 = .ok (.iload_n 1, 1) := by decide +kernel
theorem dX8_weight_23 : decode cX8_weight 23 = .ok (.invokestatic 50, 3) := by decide +kernel
theorem dX8_weight_26 : decode cX8_weight 26 = .ok (.iconst 1, 1) := by decide +kernel
theorem dX8_weight_27 : decode cX8_weight 27 = .ok (.iadd, 1) := by decide +kernel
theorem dX8_weight_28 : decode cX8_weight 28 = .ok (.iaload, 1) := by decide +kernel
theorem dX8_weight_29 : decode cX8_weight 29 = .ok (.ireturn, 1) := by decide +kernel
theorem dX8_weight_30 : decode cX8_weight 30 = .ok (.iconst 5, 1) := by decide +kernel
theorem dX8_weight_31 : decode cX8_weight 31 = .ok (.ireturn, 1) := by decide +kernel
set_option maxRecDepth 20000 in
theorem ggX8_hindrance_X8_isBoxed : GoodIn wsX8_hindrance wsX8_isBoxed := goodIn_r _ [5, 6, 7, 8, 4, 9, 27, 28, 29, 30, 31, 32, 33, 34, 35, 36, 37, 38, 39, 40, 41, 42, 43, 44, 45, 46, 47, 48] (by decide +kernel) (by decide +kernel)
set_option maxRecDepth 20000 in
theorem gX8_hindrance_X8_isBoxed : GoodIn wsX8_hindrance (wsV RX8 63 RX8 yX8_isBoxed wsX8_isBoxed) := goodIn_app (goodIn_of _ (by decide +kernel)) ggX8_hindrance_X8_isBoxed
set_option maxRecDepth 20000 in
theorem ggX8_hindrance_X8_hasSettled : GoodIn wsX8_hindrance wsX8_hasSettled := goodIn_r _ [13, 14, 15, 16, 4, 17, 6, 7, 8, 9, 18, 19, 20, 21, 22, 23, 24, 25, 26, 1, 2, 3, 5, 27, 28, 29, 30, 31, 32, 33, 34, 35, 36, 37, 38, 39, 40, 41, 42, 43, 44, 45, 46, 47, 48] (by decide +kernel) (by decide +kernel)
set_option maxRecDepth 20000 in
theorem gX8_hindrance_X8_hasSettled : GoodIn wsX8_hindrance (wsV RX8 85 RX8 yX8_hasSettled wsX8_hasSettled) := goodIn_app (goodIn_of _ (by decide +kernel)) ggX8_hindrance_X8_hasSettled
theorem dX8_hindrance_0 : decode cX8_hindrance 0 = .ok (.aload_n 0, 1) := by decide +kernel
theorem dX8_hindrance_1 : decode cX8_hindrance 1 = .ok (.iload_n 1, 1) := by decide +kernel
theorem dX8_hindrance_2 : decode cX8_hindrance 2 = .ok (.invokevirtual 63, 3) := by decide +kernel
theorem dX8_hindrance_5 : decode cX8_hindrance 5 = .ok (.ifCond .ne 5, 3) := by decide +kernel
theorem dX8_hindrance_8 : decode cX8_hindrance 8 = .ok (.iconst 1, 1) := by decide +kernel
theorem dX8_hindrance_9 : decode cX8_hindrance 9 = .ok (.ireturn, 1) := by decide +kernel
theorem dX8_hindrance_10 : decode cX8_hindrance 10 = .ok (.aload_n 0, 1) := by decide +kernel
theorem dX8_hindrance_11 : decode cX8_hindrance 11 = .ok (.iload_n 1, 1) := by decide +kernel
theorem dX8_hindrance_12 : decode cX8_hindrance 12 = .ok (.invokevirtual 85, 3) := by decide +kernel
theorem dX8_hindrance_15 : decode cX8_hindrance 15 = .ok (.ifCond .ne 5, 3) := by decide +kernel
theorem dX8_hindrance_18 : decode cX8_hindrance 18 = .ok (.iconst 2, 1) := by decide +kernel
theorem dX8_hindrance_19 : decode cX8_hindrance 19 = .ok (.ireturn, 1) := by decide +kernel
theorem dX8_hindrance_20 : decode cX8_hindrance 20 = .ok (.iconst 0, 1) := by decide +kernel
theorem dX8_hindrance_21 : decode cX8_hindrance 21 = .ok (.ireturn, 1) := by decide +kernel
set_option maxRecDepth 20000 in
theorem ggX8_soaks_X8_i : GoodIn wsX8_soaks wsX8_i := goodIn_r _ [5] (by decide +kernel) (by decide +kernel)
set_option maxRecDepth 20000 in
theorem gX8_soaks_X8_i : GoodIn wsX8_soaks (va_wsS RX8 50 yX8_i wsX8_i) := goodIn_app (goodIn_of _ (by decide +kernel)) ggX8_soaks_X8_i
set_option maxRecDepth 20000 in
theorem ggX8_soaks_X8_around : GoodIn wsX8_soaks wsX8_around := goodIn_r _ [9, 10, 1, 11, 12, 13, 4, 14, 2, 3, 5, 15, 16, 17, 18, 19, 20, 21, 22, 23, 24, 25, 26, 27, 28, 29, 30, 31, 32, 33, 34, 35, 36] (by decide +kernel) (by decide +kernel)
set_option maxRecDepth 20000 in
theorem gX8_soaks_X8_around : GoodIn wsX8_soaks (wsV RX8 67 RX8 yX8_around wsX8_around) := goodIn_app (goodIn_of _ (by decide +kernel)) ggX8_soaks_X8_around
theorem dX8_soaks_0 : decode cX8_soaks 0 = .ok (.iload_n 1, 1) := by decide +kernel
theorem dX8_soaks_1 : decode cX8_soaks 1 = .ok (.invokestatic 50, 3) := by decide +kernel
theorem dX8_soaks_4 : decode cX8_soaks 4 = .ok (.istore_n 2, 1) := by decide +kernel
theorem dX8_soaks_5 : decode cX8_soaks 5 = .ok (.iconst 1, 1) := by decide +kernel
theorem dX8_soaks_6 : decode cX8_soaks 6 = .ok (.bipush 20, 2) := by decide +kernel
theorem dX8_soaks_8 : decode cX8_soaks 8 = .ok (.aload_n 0, 1) := by decide +kernel
theorem dX8_soaks_9 : decode cX8_soaks 9 = .ok (.getfield 16, 3) := by decide +kernel
theorem dX8_soaks_12 : decode cX8_soaks 12 = .ok (.iload_n 2, 1) := by decide +kernel
theorem dX8_soaks_13 : decode cX8_soaks 13 = .ok (.iconst 1, 1) := by decide +kernel
theorem dX8_soaks_14 : decode cX8_soaks 14 = .ok (.iadd, 1) := by decide +kernel
theorem dX8_soaks_15 : decode cX8_soaks 15 = .ok (.iaload, 1) := by decide +kernel
theorem dX8_soaks_16 : decode cX8_soaks 16 = .ok (.idiv, 1) := by decide +kernel
theorem dX8_soaks_17 : decode cX8_soaks 17 = .ok (.iadd, 1) := by decide +kernel
theorem dX8_soaks_18 : decode cX8_soaks 18 = .ok (.istore_n 3, 1) := by decide +kernel
theorem dX8_soaks_19 : decode cX8_soaks 19 = .ok (.aload_n 0, 1) := by decide +kernel
theorem dX8_soaks_20 : decode cX8_soaks 20 = .ok (.iload_n 1, 1) := by decide +kernel
theorem dX8_soaks_21 : decode cX8_soaks 21 = .ok (.invokevirtual 67, 3) := by decide +kernel
theorem dX8_soaks_24 : decode cX8_soaks 24 = .ok (.aload_n 0, 1) := by decide +kernel
theorem dX8_soaks_25 : decode cX8_soaks 25 = .ok (.getfield 16, 3) := by decide +kernel
theorem dX8_soaks_28 : decode cX8_soaks 28 = .ok (.iload_n 2, 1) := by decide +kernel
theorem dX8_soaks_29 : decode cX8_soaks 29 = .ok (.iconst 3, 1) := by decide +kernel
theorem dX8_soaks_30 : decode cX8_soaks 30 = .ok (.iadd, 1) := by decide +kernel
theorem dX8_soaks_31 : decode cX8_soaks 31 = .ok (.iaload, 1) := by decide +kernel
theorem dX8_soaks_32 : decode cX8_soaks 32 = .ok (.isub, 1) := by decide +kernel
theorem dX8_soaks_33 : decode cX8_soaks 33 = .ok (.istore 4, 2) := by decide +kernel
theorem dX8_soaks_35 : decode cX8_soaks 35 = .ok (.iload 4, 2) := by decide +kernel
theorem dX8_soaks_37 : decode cX8_soaks 37 = .ok (.iload_n 3, 1) := by decide +kernel
theorem dX8_soaks_38 : decode cX8_soaks 38 = .ok (.if_icmp .le 6, 3) := by decide +kernel
theorem dX8_soaks_41 : decode cX8_soaks 41 = .ok (.iload_n 3, 1) := by decide +kernel
theorem dX8_soaks_42 : decode cX8_soaks 42 = .ok (.istore 4, 2) := by decide +kernel
theorem dX8_soaks_44 : decode cX8_soaks 44 = .ok (.iload 4, 2) := by decide +kernel
theorem dX8_soaks_46 : decode cX8_soaks 46 = .ok (.iload_n 3, 1) := by decide +kernel
theorem dX8_soaks_47 : decode cX8_soaks 47 = .ok (.ineg, 1) := by decide +kernel
theorem dX8_soaks_48 : decode cX8_soaks 48 = .ok (.if_icmp .ge 7, 3) := by decide +kernel
theorem dX8_soaks_51 : decode cX8_soaks 51 = .ok (.iload_n 3, 1) := by decide +kernel
theorem dX8_soaks_52 : decode cX8_soaks 52 = .ok (.ineg, 1) := by decide +kernel
theorem dX8_soaks_53 : decode cX8_soaks 53 = .ok (.istore 4, 2) := by decide +kernel
theorem dX8_soaks_55 : decode cX8_soaks 55 = .ok (.aload_n 0, 1) := by decide +kernel
theorem dX8_soaks_56 : decode cX8_soaks 56 = .ok (.getfield 16, 3) := by decide +kernel
theorem dX8_soaks_59 : decode cX8_soaks 59 = .ok (.iload_n 2, 1) := by decide +kernel
theorem dX8_soaks_60 : decode cX8_soaks 60 = .ok (.iconst 3, 1) := by decide +kernel
theorem dX8_soaks_61 : decode cX8_soaks 61 = .ok (.iadd, 1) := by decide +kernel
theorem dX8_soaks_62 : decode cX8_soaks 62 = .ok (.dup2, 1) := by decide +kernel
theorem dX8_soaks_63 : decode cX8_soaks 63 = .ok (.iaload, 1) := by decide +kernel
theorem dX8_soaks_64 : decode cX8_soaks 64 = .ok (.iload 4, 2) := by decide +kernel
theorem dX8_soaks_66 : decode cX8_soaks 66 = .ok (.iadd, 1) := by decide +kernel
theorem dX8_soaks_67 : decode cX8_soaks 67 = .ok (.iastore, 1) := by decide +kernel
theorem dX8_soaks_68 : decode cX8_soaks 68 = .ok (.return_, 1) := by decide +kernel
set_option maxRecDepth 20000 in
theorem ggX8_ages_X8_i : GoodIn wsX8_ages wsX8_i := goodIn_r _ [5] (by decide +kernel) (by decide +kernel)
set_option maxRecDepth 20000 in
theorem gX8_ages_X8_i : GoodIn wsX8_ages (va_wsS RX8 50 yX8_i wsX8_i) := goodIn_app (goodIn_of _ (by decide +kernel)) ggX8_ages_X8_i
set_option maxRecDepth 20000 in
theorem ggX8_ages_X8_isOfHair : GoodIn wsX8_ages wsX8_isOfHair := goodIn_r _ [9, 1, 2, 3, 4, 5, 23, 24, 25, 26, 27, 28, 29, 30, 31, 32, 33, 34, 35, 36, 37, 38, 39, 40, 41, 42, 43, 44] (by decide +kernel) (by decide +kernel)
set_option maxRecDepth 20000 in
theorem gX8_ages_X8_isOfHair : GoodIn wsX8_ages (wsV RX8 70 RX8 yX8_isOfHair wsX8_isOfHair) := goodIn_app (goodIn_of _ (by decide +kernel)) ggX8_ages_X8_isOfHair
set_option maxRecDepth 20000 in
theorem ggX8_ages_X8_soaks : GoodIn wsX8_ages wsX8_soaks := goodIn_r _ [13, 1, 2, 3, 4, 5, 14, 15, 16, 17, 18, 19, 20, 21, 22, 23, 24, 25, 26, 27, 28, 29, 30, 31, 32, 33, 34, 35, 36, 37, 38, 39, 40, 41, 42, 43, 44] (by decide +kernel) (by decide +kernel)
set_option maxRecDepth 20000 in
theorem gX8_ages_X8_soaks : GoodIn wsX8_ages (wsV RX8 88 RX8 yX8_soaks wsX8_soaks) := goodIn_app (goodIn_of _ (by decide +kernel)) ggX8_ages_X8_soaks
theorem dX8_ages_0 : decode cX8_ages 0 = .ok (.iload_n 1, 1) := by decide +kernel
theorem dX8_ages_1 : decode cX8_ages 1 = .ok (.invokestatic 50, 3) := by decide +kernel
theorem dX8_ages_4 : decode cX8_ages 4 = .ok (.istore_n 2, 1) := by decide +kernel
theorem dX8_ages_5 : decode cX8_ages 5 = .ok (.aload_n 0, 1) := by decide +kernel
theorem dX8_ages_6 : decode cX8_ages 6 = .ok (.iload_n 1, 1) := by decide +kernel
theorem dX8_ages_7 : decode cX8_ages 7 = .ok (.invokevirtual 70, 3) := by decide +kernel
theorem dX8_ages_10 : decode cX8_ages 10 = .ok (.ifCond .eq 22, 3) := by decide +kernel
theorem dX8_ages_13 : decode cX8_ages 13 = .ok (.aload_n 0, 1) := by decide +kernel
theorem dX8_ages_14 : decode cX8_ages 14 = .ok (.getfield 16, 3) := by decide +kernel
theorem dX8_ages_17 : decode cX8_ages 17 = .ok (.iload_n 2, 1) := by decide +kernel
theorem dX8_ages_18 : decode cX8_ages 18 = .ok (.iconst 1, 1) := by decide +kernel
theorem dX8_ages_19 : decode cX8_ages 19 = .ok (.iadd, 1) := by decide +kernel
theorem dX8_ages_20 : decode cX8_ages 20 = .ok (.iaload, 1) := by decide +kernel
theorem dX8_ages_21 : decode cX8_ages 21 = .ok (.ifCond .le 34, 3) := by decide +kernel
theorem dX8_ages_24 : decode cX8_ages 24 = .ok (.aload_n 0, 1) := by decide +kernel
theorem dX8_ages_25 : decode cX8_ages 25 = .ok (.iload_n 1, 1) := by decide +kernel
theorem dX8_ages_26 : decode cX8_ages 26 = .ok (.invokevirtual 88, 3) := by decide +kernel
theorem dX8_ages_29 : decode cX8_ages 29 = .ok (.goto 26, 3) := by decide +kernel
theorem dX8_ages_32 : decode cX8_ages 32 = .ok (.aload_n 0, 1) := by decide +kernel
theorem dX8_ages_33 : decode cX8_ages 33 = .ok (.getfield 16, 3) := by decide +kernel
theorem dX8_ages_36 : decode cX8_ages 36 = .ok (.iload_n 2, 1) := by decide +kernel
theorem dX8_ages_37 : decode cX8_ages 37 = .ok (.iconst 5, 1) := by decide +kernel
theorem dX8_ages_38 : decode cX8_ages 38 = .ok (.iadd, 1) := by decide +kernel
theorem dX8_ages_39 : decode cX8_ages 39 = .ok (.iaload, 1) := by decide +kernel
theorem dX8_ages_40 : decode cX8_ages 40 = .ok (.ifCond .le 15, 3) := by decide +kernel
theorem dX8_ages_43 : decode cX8_ages 43 = .ok (.aload_n 0, 1) := by decide +kernel
theorem dX8_ages_44 : decode cX8_ages 44 = .ok (.getfield 16, 3) := by decide +kernel
theorem dX8_ages_47 : decode cX8_ages 47 = .ok (.iload_n 2, 1) := by decide +kernel
theorem dX8_ages_48 : decode cX8_ages 48 = .ok (.iconst 5, 1) := by decide +kernel
theorem dX8_ages_49 : decode cX8_ages 49 = .ok (.iadd, 1) := by decide +kernel
theorem dX8_ages_50 : decode cX8_ages 50 = .ok (.dup2, 1) := by decide +kernel
theorem dX8_ages_51 : decode cX8_ages 51 = .ok (.iaload, 1) := by decide +kernel
theorem dX8_ages_52 : decode cX8_ages 52 = .ok (.iconst 1, 1) := by decide +kernel
theorem dX8_ages_53 : decode cX8_ages 53 = .ok (.isub, 1) := by decide +kernel
theorem dX8_ages_54 : decode cX8_ages 54 = .ok (.iastore, 1) := by decide +kernel
theorem dX8_ages_55 : decode cX8_ages 55 = .ok (.return_, 1) := by decide +kernel
set_option maxRecDepth 20000 in
theorem ggX8_slackens_X8_isOfHair : GoodIn wsX8_slackens wsX8_isOfHair := goodIn_r _ [6, 1, 7, 8, 5, 9, 10, 11, 12, 13, 14, 15, 16, 17, 18, 19, 20, 21, 22, 23, 24, 25, 26, 27, 28, 29, 30, 31] (by decide +kernel) (by decide +kernel)
set_option maxRecDepth 20000 in
theorem gX8_slackens_X8_isOfHair : GoodIn wsX8_slackens (wsV RX8 70 RX8 yX8_isOfHair wsX8_isOfHair) := goodIn_app (goodIn_of _ (by decide +kernel)) ggX8_slackens_X8_isOfHair
set_option maxRecDepth 20000 in
theorem ggX8_slackens_X8_i : GoodIn wsX8_slackens wsX8_i := goodIn_r _ [9] (by decide +kernel) (by decide +kernel)
set_option maxRecDepth 20000 in
theorem gX8_slackens_X8_i : GoodIn wsX8_slackens (va_wsS RX8 50 yX8_i wsX8_i) := goodIn_app (goodIn_of _ (by decide +kernel)) ggX8_slackens_X8_i
theorem dX8_slackens_0 : decode cX8_slackens 0 = .ok (.aload_n 0, 1) := by decide +kernel
theorem dX8_slackens_1 : decode cX8_slackens 1 = .ok (.iload_n 1, 1) := by decide +kernel
theorem dX8_slackens_2 : decode cX8_slackens 2 = .ok (.invokevirtual 70, 3) := by decide +kernel
theorem dX8_slackens_5 : decode cX8_slackens 5 = .ok (.ifCond .eq 34, 3) := by decide +kernel
theorem dX8_slackens_8 : decode cX8_slackens 8 = .ok (.aload_n 0, 1) := by decide +kernel
theorem dX8_slackens_9 : decode cX8_slackens 9 = .ok (.getfield 16, 3) := by decide +kernel
theorem dX8_slackens_12 : decode cX8_slackens 12 = .ok (.iload_n 1, 1) := by decide +kernel
theorem dX8_slackens_13 : decode cX8_slackens 13 = .ok (.invokestatic 50, 3) := by decide +kernel
theorem dX8_slackens_16 : decode cX8_slackens 16 = .ok (.iconst 4, 1) := by decide +kernel
theorem dX8_slackens_17 : decode cX8_slackens 17 = .ok (.iadd, 1) := by decide +kernel
theorem dX8_slackens_18 : decode cX8_slackens 18 = .ok (.iaload, 1) := by decide +kernel
theorem dX8_slackens_19 : decode cX8_slackens 19 = .ok (.bipush 50, 2) := by decide +kernel
theorem dX8_slackens_21 : decode cX8_slackens 21 = .ok (.if_icmp .ge 18, 3) := by decide +kernel
theorem dX8_slackens_24 : decode cX8_slackens 24 = .ok (.aload_n 0, 1) := by decide +kernel
theorem dX8_slackens_25 : decode cX8_slackens 25 = .ok (.getfield 16, 3) := by decide +kernel
theorem dX8_slackens_28 : decode cX8_slackens 28 = .ok (.iload_n 1, 1) := by decide +kernel
theorem dX8_slackens_29 : decode cX8_slackens 29 = .ok (.invokestatic 50, 3) := by decide +kernel
theorem dX8_slackens_32 : decode cX8_slackens 32 = .ok (.iconst 4, 1) := by decide +kernel
theorem dX8_slackens_33 : decode cX8_slackens 33 = .ok (.iadd, 1) := by decide +kernel
theorem dX8_slackens_34 : decode cX8_slackens 34 = .ok (.dup2, 1) := by decide +kernel
theorem dX8_slackens_35 : decode cX8_slackens 35 = .ok (.iaload, 1) := by decide +kernel
theorem dX8_slackens_36 : decode cX8_slackens 36 = .ok (.iconst 1, 1) := by decide +kernel
theorem dX8_slackens_37 : decode cX8_slackens 37 = .ok (.iadd, 1) := by decide +kernel
theorem dX8_slackens_38 : decode cX8_slackens 38 = .ok (.iastore, 1) := by decide +kernel
theorem dX8_slackens_39 : decode cX8_slackens 39 = .ok (.return_, 1) := by decide +kernel
theorem dX8_brings_0 : decode cX8_brings 0 = .ok (.aload_n 0, 1) := by decide +kernel
theorem dX8_brings_1 : decode cX8_brings 1 = .ok (.getfield 16, 3) := by decide +kernel
theorem dX8_brings_4 : decode cX8_brings 4 = .ok (.iconst 3, 1) := by decide +kernel
theorem dX8_brings_5 : decode cX8_brings 5 = .ok (.iaload, 1) := by decide +kernel
theorem dX8_brings_6 : decode cX8_brings 6 = .ok (.istore_n 1, 1) := by decide +kernel
theorem dX8_brings_7 : decode cX8_brings 7 = .ok (.aload_n 0, 1) := by decide +kernel
theorem dX8_brings_8 : decode cX8_brings 8 = .ok (.getfield 16, 3) := by decide +kernel
theorem dX8_brings_11 : decode cX8_brings 11 = .ok (.iconst 4, 1) := by decide +kernel
theorem dX8_brings_12 : decode cX8_brings 12 = .ok (.iaload, 1) := by decide +kernel
theorem dX8_brings_13 : decode cX8_brings 13 = .ok (.iload_n 1, 1) := by decide +kernel
theorem dX8_brings_14 : decode cX8_brings 14 = .ok (.iadd, 1) := by decide +kernel
theorem dX8_brings_15 : decode cX8_brings 15 = .ok (.bipush 99, 2) := by decide +kernel
theorem dX8_brings_17 : decode cX8_brings 17 = .ok (.if_icmp .le 13, 3) := by decide +kernel
theorem dX8_brings_20 : decode cX8_brings 20 = .ok (.bipush 99, 2) := by decide +kernel
theorem dX8_brings_22 : decode cX8_brings 22 = .ok (.aload_n 0, 1) := by decide +kernel
theorem dX8_brings_23 : decode cX8_brings 23 = .ok (.getfield 16, 3) := by decide +kernel
theorem dX8_brings_26 : decode cX8_brings 26 = .ok (.iconst 4, 1) := by decide +kernel
theorem dX8_brings_27 : decode cX8_brings 27 = .ok (.iaload, 1) := by decide +kernel
theorem dX8_brings_28 : decode cX8_brings 28 = .ok (.isub, 1) := by decide +kernel
theorem dX8_brings_29 : decode cX8_brings 29 = .ok (.istore_n 1, 1) := by decide +kernel
theorem dX8_brings_30 : decode cX8_brings 30 = .ok (.aload_n 0, 1) := by decide +kernel
theorem dX8_brings_31 : decode cX8_brings 31 = .ok (.getfield 16, 3) := by decide +kernel
theorem dX8_brings_34 : decode cX8_brings 34 = .ok (.iconst 4, 1) := by decide +kernel
theorem dX8_brings_35 : decode cX8_brings 35 = .ok (.dup2, 1) := by decide +kernel
theorem dX8_brings_36 : decode cX8_brings 36 = .ok (.iaload, 1) := by decide +kernel
theorem dX8_brings_37 : decode cX8_brings 37 = .ok (.iload_n 1, 1) := by decide +kernel
theorem dX8_brings_38 : decode cX8_brings 38 = .ok (.iadd, 1) := by decide +kernel
theorem dX8_brings_39 : decode cX8_brings 39 = .ok (.iastore, 1) := by decide +kernel
theorem dX8_brings_40 : decode cX8_brings 40 = .ok (.aload_n 0, 1) := by decide +kernel
theorem dX8_brings_41 : decode cX8_brings 41 = .ok (.getfield 16, 3) := by decide +kernel
theorem dX8_brings_44 : decode cX8_brings 44 = .ok (.bipush 7, 2) := by decide +kernel
theorem dX8_brings_46 : decode cX8_brings 46 = .ok (.dup2, 1) := by decide +kernel
theorem dX8_brings_47 : decode cX8_brings 47 = .ok (.iaload, 1) := by decide +kernel
theorem dX8_brings_48 : decode cX8_brings 48 = .ok (.iload_n 1, 1) := by decide +kernel
theorem dX8_brings_49 : decode cX8_brings 49 = .ok (.iadd, 1) := by decide +kernel
theorem dX8_brings_50 : decode cX8_brings 50 = .ok (.iastore, 1) := by decide +kernel
theorem dX8_brings_51 : decode cX8_brings 51 = .ok (.iload_n 1, 1) := by decide +kernel
theorem dX8_brings_52 : decode cX8_brings 52 = .ok (.ireturn, 1) := by decide +kernel
set_option maxRecDepth 20000 in
theorem ggX8_passesMinute_X8_ages : GoodIn wsX8_passesMinute wsX8_ages := goodIn_r _ [6, 1, 7, 8, 5, 9, 10, 11, 12, 13, 14, 15, 16, 17, 18, 19, 20, 21, 22, 23, 24, 25, 26, 35, 36, 37, 38, 39, 40, 41, 42, 43, 44, 45, 46, 47, 48, 49, 50, 51, 52, 53, 54, 55, 56] (by decide +kernel) (by decide +kernel)
set_option maxRecDepth 20000 in
theorem gX8_passesMinute_X8_ages : GoodIn wsX8_passesMinute (wsV RX8 91 RX8 yX8_ages wsX8_ages) := goodIn_app (goodIn_of _ (by decide +kernel)) ggX8_passesMinute_X8_ages
set_option maxRecDepth 20000 in
theorem ggX8_passesMinute_X8_slackens : GoodIn wsX8_passesMinute wsX8_slackens := goodIn_r _ [30, 1, 10, 11, 12, 5, 13, 7, 8, 9, 35, 36, 37, 38, 39, 40, 41, 42, 43, 44, 45, 46, 47, 48, 49, 50, 51, 52, 53, 54, 55, 56] (by decide +kernel) (by decide +kernel)
set_option maxRecDepth 20000 in
theorem gX8_passesMinute_X8_slackens : GoodIn wsX8_passesMinute (wsV RX8 94 RX8 yX8_slackens wsX8_slackens) := goodIn_app (goodIn_of _ (by decide +kernel)) ggX8_passesMinute_X8_slackens
set_option maxRecDepth 20000 in
theorem ggX8_passesMinute_X8_brings : GoodIn wsX8_passesMinute wsX8_brings := goodIn_r _ [34, 1, 35, 36, 37, 38, 39, 40, 41, 42, 43, 44, 45, 46, 47, 48, 49, 50, 51, 52, 53, 54, 55, 56] (by decide +kernel) (by decide +kernel)
set_option maxRecDepth 20000 in
theorem gX8_passesMinute_X8_brings : GoodIn wsX8_passesMinute (wsV RX8 97 RX8 yX8_brings wsX8_brings) := goodIn_app (goodIn_of _ (by decide +kernel)) ggX8_passesMinute_X8_brings
theorem dX8_passesMinute_0 : decode cX8_passesMinute 0 = .ok (.aload_n 0, 1) := by decide +kernel
theorem dX8_passesMinute_1 : decode cX8_passesMinute 1 = .ok (.getfield 16, 3) := by decide +kernel
theorem dX8_passesMinute_4 : decode cX8_passesMinute 4 = .ok (.iconst 0, 1) := by decide +kernel
theorem dX8_passesMinute_5 : decode cX8_passesMinute 5 = .ok (.dup2, 1) := by decide +kernel
theorem dX8_passesMinute_6 : decode cX8_passesMinute 6 = .ok (.iaload, 1) := by decide +kernel
theorem dX8_passesMinute_7 : decode cX8_passesMinute 7 = .ok (.iconst 1, 1) := by decide +kernel
theorem dX8_passesMinute_8 : decode cX8_passesMinute 8 = .ok (.iadd, 1) := by decide +kernel
theorem dX8_passesMinute_9 : decode cX8_passesMinute 9 = .ok (.iastore, 1) := by decide +kernel
theorem dX8_passesMinute_10 : decode cX8_passesMinute 10 = .ok (.iconst 0, 1) := by decide +kernel
theorem dX8_passesMinute_11 : decode cX8_passesMinute 11 = .ok (.istore_n 1, 1) := by decide +kernel
theorem dX8_passesMinute_12 : decode cX8_passesMinute 12 = .ok (.iload_n 1, 1) := by decide +kernel
theorem dX8_passesMinute_13 : decode cX8_passesMinute 13 = .ok (.aload_n 0, 1) := by decide +kernel
theorem dX8_passesMinute_14 : decode cX8_passesMinute 14 = .ok (.getfield 16, 3) := by decide +kernel
theorem dX8_passesMinute_17 : decode cX8_passesMinute 17 = .ok (.iconst 5, 1) := by decide +kernel
theorem dX8_passesMinute_18 : decode cX8_passesMinute 18 = .ok (.iaload, 1) := by decide +kernel
theorem dX8_passesMinute_19 : decode cX8_passesMinute 19 = .ok (.if_icmp .ge 31, 3) := by decide +kernel
theorem dX8_passesMinute_22 : decode cX8_passesMinute 22 = .ok (.aload_n 0, 1) := by decide +kernel
theorem dX8_passesMinute_23 : decode cX8_passesMinute 23 = .ok (.iload_n 1, 1) := by decide +kernel
theorem dX8_passesMinute_24 : decode cX8_passesMinute 24 = .ok (.invokevirtual 91, 3) := by decide +kernel
theorem dX8_passesMinute_27 : decode cX8_passesMinute 27 = .ok (.aload_n 0, 1) := by decide +kernel
theorem dX8_passesMinute_28 : decode cX8_passesMinute 28 = .ok (.getfield 16, 3) := by decide +kernel
theorem dX8_passesMinute_31 : decode cX8_passesMinute 31 = .ok (.iconst 0, 1) := by decide +kernel
theorem dX8_passesMinute_32 : decode cX8_passesMinute 32 = .ok (.iaload, 1) := by decide +kernel
theorem dX8_passesMinute_33 : decode cX8_passesMinute 33 = .ok (.bipush 10, 2) := by decide +kernel
theorem dX8_passesMinute_35 : decode cX8_passesMinute 35 = .ok (.irem, 1) := by decide +kernel
theorem dX8_passesMinute_36 : decode cX8_passesMinute 36 = .ok (.ifCond .ne 8, 3) := by decide +kernel
theorem dX8_passesMinute_39 : decode cX8_passesMinute 39 = .ok (.aload_n 0, 1) := by decide +kernel
theorem dX8_passesMinute_40 : decode cX8_passesMinute 40 = .ok (.iload_n 1, 1) := by decide +kernel
theorem dX8_passesMinute_41 : decode cX8_passesMinute 41 = .ok (.invokevirtual 94, 3) := by decide +kernel
theorem dX8_passesMinute_44 : decode cX8_passesMinute 44 = .ok (.iinc 1 1, 3) := by decide +kernel
theorem dX8_passesMinute_47 : decode cX8_passesMinute 47 = .ok (.goto (-35), 3) := by decide +kernel
theorem dX8_passesMinute_50 : decode cX8_passesMinute 50 = .ok (.aload_n 0, 1) := by decide +kernel
theorem dX8_passesMinute_51 : decode cX8_passesMinute 51 = .ok (.getfield 16, 3) := by decide +kernel
theorem dX8_passesMinute_54 : decode cX8_passesMinute 54 = .ok (.iconst 0, 1) := by decide +kernel
theorem dX8_passesMinute_55 : decode cX8_passesMinute 55 = .ok (.iaload, 1) := by decide +kernel
theorem dX8_passesMinute_56 : decode cX8_passesMinute 56 = .ok (.bipush 60, 2) := by decide +kernel
theorem dX8_passesMinute_58 : decode cX8_passesMinute 58 = .ok (.irem, 1) := by decide +kernel
theorem dX8_passesMinute_59 : decode cX8_passesMinute 59 = .ok (.ifCond .ne 8, 3) := by decide +kernel
theorem dX8_passesMinute_62 : decode cX8_passesMinute 62 = .ok (.aload_n 0, 1) := by decide +kernel
theorem dX8_passesMinute_63 : decode cX8_passesMinute 63 = .ok (.invokevirtual 97, 3) := by decide +kernel
theorem dX8_passesMinute_66 : decode cX8_passesMinute 66 = .ok (.ireturn, 1) := by decide +kernel
theorem dX8_passesMinute_67 : decode cX8_passesMinute 67 = .ok (.iconst 0, 1) := by decide +kernel
theorem dX8_passesMinute_68 : decode cX8_passesMinute 68 = .ok (.ireturn, 1) := by decide +kernel
set_option maxRecDepth 20000 in
theorem ggX8_passes_X8_passesMinute : GoodIn wsX8_passes wsX8_passesMinute := goodIn_r _ [5, 6, 7, 8, 9, 4, 10, 11, 12, 13, 14, 15, 16, 17, 18, 19, 20, 21, 22, 23, 24, 25, 26, 27, 28, 29, 30, 31, 32, 33, 34, 35, 36, 37, 38, 39, 40, 41, 42, 43, 44, 45, 46, 47, 48, 49, 50, 51, 52, 53, 54, 55, 56, 57, 58, 59, 60] (by decide +kernel) (by decide +kernel)
set_option maxRecDepth 20000 in
theorem gX8_passes_X8_passesMinute : GoodIn wsX8_passes (wsV RX8 101 RX8 yX8_passesMinute wsX8_passesMinute) := goodIn_app (goodIn_of _ (by decide +kernel)) ggX8_passes_X8_passesMinute
theorem dX8_passes_0 : decode cX8_passes 0 = .ok (.iconst 0, 1) := by decide +kernel
theorem dX8_passes_1 : decode cX8_passes 1 = .ok (.istore_n 2, 1) := by decide +kernel
theorem dX8_passes_2 : decode cX8_passes 2 = .ok (.iconst 0, 1) := by decide +kernel
theorem dX8_passes_3 : decode cX8_passes 3 = .ok (.istore_n 3, 1) := by decide +kernel
theorem dX8_passes_4 : decode cX8_passes 4 = .ok (.iload_n 3, 1) := by decide +kernel
theorem dX8_passes_5 : decode cX8_passes 5 = .ok (.iload_n 1, 1) := by decide +kernel
theorem dX8_passes_6 : decode cX8_passes 6 = .ok (.if_icmp .ge 16, 3) := by decide +kernel
theorem dX8_passes_9 : decode cX8_passes 9 = .ok (.iload_n 2, 1) := by decide +kernel
theorem dX8_passes_10 : decode cX8_passes 10 = .ok (.aload_n 0, 1) := by decide +kernel
theorem dX8_passes_11 : decode cX8_passes 11 = .ok (.invokevirtual 101, 3) := by decide +kernel
theorem dX8_passes_14 : decode cX8_passes 14 = .ok (.iadd, 1) := by decide +kernel
theorem dX8_passes_15 : decode cX8_passes 15 = .ok (.istore_n 2, 1) := by decide +kernel
theorem dX8_passes_16 : decode cX8_passes 16 = .ok (.iinc 3 1, 3) := by decide +kernel
theorem dX8_passes_19 : decode cX8_passes 19 = .ok (.goto (-15), 3) := by decide +kernel
theorem dX8_passes_22 : decode cX8_passes 22 = .ok (.iload_n 2, 1) := by decide +kernel
theorem dX8_passes_23 : decode cX8_passes 23 = .ok (.ireturn, 1) := by decide +kernel
set_option maxRecDepth 20000 in
theorem ggX8_tightens_X8_i : GoodIn wsX8_tightens wsX8_i := goodIn_r _ [5] (by decide +kernel) (by decide +kernel)
set_option maxRecDepth 20000 in
theorem gX8_tightens_X8_i : GoodIn wsX8_tightens (va_wsS RX8 50 yX8_i wsX8_i) := goodIn_app (goodIn_of _ (by decide +kernel)) ggX8_tightens_X8_i
theorem dX8_tightens_0 : decode cX8_tightens 0 = .ok (.iload_n 1, 1) := by decide +kernel
theorem dX8_tightens_1 : decode cX8_tightens 1 = .ok (.invokestatic 50, 3) := by decide +kernel
theorem dX8_tightens_4 : decode cX8_tightens 4 = .ok (.istore_n 2, 1) := by decide +kernel
theorem dX8_tightens_5 : decode cX8_tightens 5 = .ok (.aload_n 0, 1) := by decide +kernel
theorem dX8_tightens_6 : decode cX8_tightens 6 = .ok (.getfield 16, 3) := by decide +kernel
theorem dX8_tightens_9 : decode cX8_tightens 9 = .ok (.iload_n 2, 1) := by decide +kernel
theorem dX8_tightens_10 : decode cX8_tightens 10 = .ok (.iconst 4, 1) := by decide +kernel
theorem dX8_tightens_11 : decode cX8_tightens 11 = .ok (.iadd, 1) := by decide +kernel
theorem dX8_tightens_12 : decode cX8_tightens 12 = .ok (.iaload, 1) := by decide +kernel
theorem dX8_tightens_13 : decode cX8_tightens 13 = .ok (.istore_n 3, 1) := by decide +kernel
theorem dX8_tightens_14 : decode cX8_tightens 14 = .ok (.aload_n 0, 1) := by decide +kernel
theorem dX8_tightens_15 : decode cX8_tightens 15 = .ok (.getfield 16, 3) := by decide +kernel
theorem dX8_tightens_18 : decode cX8_tightens 18 = .ok (.iload_n 2, 1) := by decide +kernel
theorem dX8_tightens_19 : decode cX8_tightens 19 = .ok (.iconst 4, 1) := by decide +kernel
theorem dX8_tightens_20 : decode cX8_tightens 20 = .ok (.iadd, 1) := by decide +kernel
theorem dX8_tightens_21 : decode cX8_tightens 21 = .ok (.iconst 0, 1) := by decide +kernel
theorem dX8_tightens_22 : decode cX8_tightens 22 = .ok (.iastore, 1) := by decide +kernel
theorem dX8_tightens_23 : decode cX8_tightens 23 = .ok (.aload_n 0, 1) := by decide +kernel
theorem dX8_tightens_24 : decode cX8_tightens 24 = .ok (.getfield 16, 3) := by decide +kernel
theorem dX8_tightens_27 : decode cX8_tightens 27 = .ok (.iload_n 2, 1) := by decide +kernel
theorem dX8_tightens_28 : decode cX8_tightens 28 = .ok (.iconst 3, 1) := by decide +kernel
theorem dX8_tightens_29 : decode cX8_tightens 29 = .ok (.iadd, 1) := by decide +kernel
theorem dX8_tightens_30 : decode cX8_tightens 30 = .ok (.iaload, 1) := by decide +kernel
theorem dX8_tightens_31 : decode cX8_tightens 31 = .ok (.bipush 20, 2) := by decide +kernel
theorem dX8_tightens_33 : decode cX8_tightens 33 = .ok (.if_icmp .ge 27, 3) := by decide +kernel
theorem dX8_tightens_36 : decode cX8_tightens 36 = .ok (.aload_n 0, 1) := by decide +kernel
theorem dX8_tightens_37 : decode cX8_tightens 37 = .ok (.getfield 16, 3) := by decide +kernel
theorem dX8_tightens_40 : decode cX8_tightens 40 = .ok (.iload_n 2, 1) := by decide +kernel
theorem dX8_tightens_41 : decode cX8_tightens 41 = .ok (.iconst 1, 1) := by decide +kernel
theorem dX8_tightens_42 : decode cX8_tightens 42 = .ok (.iadd, 1) := by decide +kernel
theorem dX8_tightens_43 : decode cX8_tightens 43 = .ok (.dup2, 1) := by decide +kernel
theorem dX8_tightens_44 : decode cX8_tightens 44 = .ok (.iaload, 1) := by decide +kernel
theorem dX8_tightens_45 : decode cX8_tightens 45 = .ok (.iconst 1, 1) := by decide +kernel
theorem dX8_tightens_46 : decode cX8_tightens 46 = .ok (.isub, 1) := by decide +kernel
theorem dX8_tightens_47 : decode cX8_tightens 47 = .ok (.iastore, 1) := by decide +kernel
theorem dX8_tightens_48 : decode cX8_tightens 48 = .ok (.aload_n 0, 1) := by decide +kernel
theorem dX8_tightens_49 : decode cX8_tightens 49 = .ok (.getfield 16, 3) := by decide +kernel
theorem dX8_tightens_52 : decode cX8_tightens 52 = .ok (.iload_n 2, 1) := by decide +kernel
theorem dX8_tightens_53 : decode cX8_tightens 53 = .ok (.iconst 2, 1) := by decide +kernel
theorem dX8_tightens_54 : decode cX8_tightens 54 = .ok (.iadd, 1) := by decide +kernel
theorem dX8_tightens_55 : decode cX8_tightens 55 = .ok (.dup2, 1) := by decide +kernel
theorem dX8_tightens_56 : decode cX8_tightens 56 = .ok (.iaload, 1) := by decide +kernel
theorem dX8_tightens_57 : decode cX8_tightens 57 = .ok (.iconst 1, 1) := by decide +kernel
theorem dX8_tightens_58 : decode cX8_tightens 58 = .ok (.iadd, 1) := by decide +kernel
theorem dX8_tightens_59 : decode cX8_tightens 59 = .ok (.iastore, 1) := by decide +kernel
theorem dX8_tightens_60 : decode cX8_tightens 60 = .ok (.iload_n 3, 1) := by decide +kernel
theorem dX8_tightens_61 : decode cX8_tightens 61 = .ok (.ireturn, 1) := by decide +kernel
set_option maxRecDepth 20000 in
theorem ggX8_moistens_X8_i : GoodIn wsX8_moistens wsX8_i := goodIn_r _ [5] (by decide +kernel) (by decide +kernel)
set_option maxRecDepth 20000 in
theorem gX8_moistens_X8_i : GoodIn wsX8_moistens (va_wsS RX8 50 yX8_i wsX8_i) := goodIn_app (goodIn_of _ (by decide +kernel)) ggX8_moistens_X8_i
theorem dX8_moistens_0 : decode cX8_moistens 0 = .ok (.aload_n 0, 1) := by decide +kernel
theorem dX8_moistens_1 : decode cX8_moistens 1 = .ok (.getfield 16, 3) := by decide +kernel
theorem dX8_moistens_4 : decode cX8_moistens 4 = .ok (.iload_n 1, 1) := by decide +kernel
theorem dX8_moistens_5 : decode cX8_moistens 5 = .ok (.invokestatic 50, 3) := by decide +kernel
theorem dX8_moistens_8 : decode cX8_moistens 8 = .ok (.iconst 5, 1) := by decide +kernel
theorem dX8_moistens_9 : decode cX8_moistens 9 = .ok (.iadd, 1) := by decide +kernel
theorem dX8_moistens_10 : decode cX8_moistens 10 = .ok (.iaload, 1) := by decide +kernel
theorem dX8_moistens_11 : decode cX8_moistens 11 = .ok (.istore_n 2, 1) := by decide +kernel
theorem dX8_moistens_12 : decode cX8_moistens 12 = .ok (.aload_n 0, 1) := by decide +kernel
theorem dX8_moistens_13 : decode cX8_moistens 13 = .ok (.getfield 16, 3) := by decide +kernel
theorem dX8_moistens_16 : decode cX8_moistens 16 = .ok (.iload_n 1, 1) := by decide +kernel
theorem dX8_moistens_17 : decode cX8_moistens 17 = .ok (.invokestatic 50, 3) := by decide +kernel
theorem dX8_moistens_20 : decode cX8_moistens 20 = .ok (.iconst 5, 1) := by decide +kernel
theorem dX8_moistens_21 : decode cX8_moistens 21 = .ok (.iadd, 1) := by decide +kernel
theorem dX8_moistens_22 : decode cX8_moistens 22 = .ok (.bipush 60, 2) := by decide +kernel
theorem dX8_moistens_24 : decode cX8_moistens 24 = .ok (.iastore, 1) := by decide +kernel
theorem dX8_moistens_25 : decode cX8_moistens 25 = .ok (.iload_n 2, 1) := by decide +kernel
theorem dX8_moistens_26 : decode cX8_moistens 26 = .ok (.ireturn, 1) := by decide +kernel
theorem dX8_forgetsOldest_0 : decode cX8_forgetsOldest 0 = .ok (.bipush 56, 2) := by decide +kernel
theorem dX8_forgetsOldest_2 : decode cX8_forgetsOldest 2 = .ok (.istore_n 1, 1) := by decide +kernel
theorem dX8_forgetsOldest_3 : decode cX8_forgetsOldest 3 = .ok (.iload_n 1, 1) := by decide +kernel
theorem dX8_forgetsOldest_4 : decode cX8_forgetsOldest 4 = .ok (.sipush 560, 3) := by decide +kernel
theorem dX8_forgetsOldest_7 : decode cX8_forgetsOldest 7 = .ok (.if_icmp .ge 24, 3) := by decide +kernel
theorem dX8_forgetsOldest_10 : decode cX8_forgetsOldest 10 = .ok (.aload_n 0, 1) := by decide +kernel
theorem dX8_forgetsOldest_11 : decode cX8_forgetsOldest 11 = .ok (.getfield 22, 3) := by decide +kernel
theorem dX8_forgetsOldest_14 : decode cX8_forgetsOldest 14 = .ok (.iload_n 1, 1) := by decide +kernel
theorem dX8_forgetsOldest_15 : decode cX8_forgetsOldest 15 = .ok (.bipush 56, 2) := by decide +kernel
theorem dX8_forgetsOldest_17 : decode cX8_forgetsOldest 17 = .ok (.isub, 1) := by decide +kernel
theorem dX8_forgetsOldest_18 : decode cX8_forgetsOldest 18 = .ok (.aload_n 0, 1) := by decide +kernel
theorem dX8_forgetsOldest_19 : decode cX8_forgetsOldest 19 = .ok (.getfield 22, 3) := by decide +kernel
theorem dX8_forgetsOldest_22 : decode cX8_forgetsOldest 22 = .ok (.iload_n 1, 1) := by decide +kernel
theorem dX8_forgetsOldest_23 : decode cX8_forgetsOldest 23 = .ok (.iaload, 1) := by decide +kernel
theorem dX8_forgetsOldest_24 : decode cX8_forgetsOldest 24 = .ok (.iastore, 1) := by decide +kernel
theorem dX8_forgetsOldest_25 : decode cX8_forgetsOldest 25 = .ok (.iinc 1 1, 3) := by decide +kernel
theorem dX8_forgetsOldest_28 : decode cX8_forgetsOldest 28 = .ok (.goto (-25), 3) := by decide +kernel
theorem dX8_forgetsOldest_31 : decode cX8_forgetsOldest 31 = .ok (.aload_n 0, 1) := by decide +kernel
theorem dX8_forgetsOldest_32 : decode cX8_forgetsOldest 32 = .ok (.dup, 1) := by decide +kernel
theorem dX8_forgetsOldest_33 : decode cX8_forgetsOldest 33 = .ok (.getfield 104, 3) := by decide +kernel
theorem dX8_forgetsOldest_36 : decode cX8_forgetsOldest 36 = .ok (.iconst 1, 1) := by decide +kernel
theorem dX8_forgetsOldest_37 : decode cX8_forgetsOldest 37 = .ok (.isub, 1) := by decide +kernel
theorem dX8_forgetsOldest_38 : decode cX8_forgetsOldest 38 = .ok (.putfield 104, 3) := by decide +kernel
theorem dX8_forgetsOldest_41 : decode cX8_forgetsOldest 41 = .ok (.return_, 1) := by decide +kernel
set_option maxRecDepth 20000 in
theorem ggX8_remembers_X8_forgetsOldest : GoodIn wsX8_remembers wsX8_forgetsOldest := goodIn_r _ [8, 2, 1, 9, 10, 11, 12, 13, 14, 15, 16, 17, 18, 19, 20, 21, 22, 23, 24, 25, 26, 27, 28, 29, 30] (by decide +kernel) (by decide +kernel)
set_option maxRecDepth 20000 in
theorem gX8_remembers_X8_forgetsOldest : GoodIn wsX8_remembers (wsV RX8 107 RX8 yX8_forgetsOldest wsX8_forgetsOldest) := goodIn_app (goodIn_of _ (by decide +kernel)) ggX8_remembers_X8_forgetsOldest
theorem dX8_remembers_0 : decode cX8_remembers 0 = .ok (.aload_n 0, 1) := by decide +kernel
theorem dX8_remembers_1 : decode cX8_remembers 1 = .ok (.getfield 104, 3) := by decide +kernel
theorem dX8_remembers_4 : decode cX8_remembers 4 = .ok (.bipush 10, 2) := by decide +kernel
theorem dX8_remembers_6 : decode cX8_remembers 6 = .ok (.if_icmp .ne 7, 3) := by decide +kernel
theorem dX8_remembers_9 : decode cX8_remembers 9 = .ok (.aload_n 0, 1) := by decide +kernel
theorem dX8_remembers_10 : decode cX8_remembers 10 = .ok (.invokevirtual 107, 3) := by decide +kernel
theorem dX8_remembers_13 : decode cX8_remembers 13 = .ok (.iconst 0, 1) := by decide +kernel
theorem dX8_remembers_14 : decode cX8_remembers 14 = .ok (.istore_n 1, 1) := by decide +kernel
theorem dX8_remembers_15 : decode cX8_remembers 15 = .ok (.iload_n 1, 1) := by decide +kernel
theorem dX8_remembers_16 : decode cX8_remembers 16 = .ok (.bipush 56, 2) := by decide +kernel
theorem dX8_remembers_18 : decode cX8_remembers 18 = .ok (.if_icmp .ge 29, 3) := by decide +kernel
theorem dX8_remembers_21 : decode cX8_remembers 21 = .ok (.aload_n 0, 1) := by decide +kernel
theorem dX8_remembers_22 : decode cX8_remembers 22 = .ok (.getfield 22, 3) := by decide +kernel
theorem dX8_remembers_25 : decode cX8_remembers 25 = .ok (.aload_n 0, 1) := by decide +kernel
theorem dX8_remembers_26 : decode cX8_remembers 26 = .ok (.getfield 104, 3) := by decide +kernel
theorem dX8_remembers_29 : decode cX8_remembers 29 = .ok (.bipush 56, 2) := by decide +kernel
theorem dX8_remembers_31 : decode cX8_remembers 31 = .ok (.imul, 1) := by decide +kernel
theorem dX8_remembers_32 : decode cX8_remembers 32 = .ok (.iload_n 1, 1) := by decide +kernel
theorem dX8_remembers_33 : decode cX8_remembers 33 = .ok (.iadd, 1) := by decide +kernel
theorem dX8_remembers_34 : decode cX8_remembers 34 = .ok (.aload_n 0, 1) := by decide +kernel
theorem dX8_remembers_35 : decode cX8_remembers 35 = .ok (.getfield 16, 3) := by decide +kernel
theorem dX8_remembers_38 : decode cX8_remembers 38 = .ok (.iload_n 1, 1) := by decide +kernel
theorem dX8_remembers_39 : decode cX8_remembers 39 = .ok (.iaload, 1) := by decide +kernel
theorem dX8_remembers_40 : decode cX8_remembers 40 = .ok (.iastore, 1) := by decide +kernel
theorem dX8_remembers_41 : decode cX8_remembers 41 = .ok (.iinc 1 1, 3) := by decide +kernel
theorem dX8_remembers_44 : decode cX8_remembers 44 = .ok (.goto (-29), 3) := by decide +kernel
theorem dX8_remembers_47 : decode cX8_remembers 47 = .ok (.aload_n 0, 1) := by decide +kernel
theorem dX8_remembers_48 : decode cX8_remembers 48 = .ok (.dup, 1) := by decide +kernel
theorem dX8_remembers_49 : decode cX8_remembers 49 = .ok (.getfield 104, 3) := by decide +kernel
theorem dX8_remembers_52 : decode cX8_remembers 52 = .ok (.iconst 1, 1) := by decide +kernel
theorem dX8_remembers_53 : decode cX8_remembers 53 = .ok (.iadd, 1) := by decide +kernel
theorem dX8_remembers_54 : decode cX8_remembers 54 = .ok (.putfield 104, 3) := by decide +kernel
theorem dX8_remembers_57 : decode cX8_remembers 57 = .ok (.return_, 1) := by decide +kernel
theorem dX8_putsAside_0 : decode cX8_putsAside 0 = .ok (.iconst 0, 1) := by decide +kernel
theorem dX8_putsAside_1 : decode cX8_putsAside 1 = .ok (.istore_n 1, 1) := by decide +kernel
theorem dX8_putsAside_2 : decode cX8_putsAside 2 = .ok (.iload_n 1, 1) := by decide +kernel
theorem dX8_putsAside_3 : decode cX8_putsAside 3 = .ok (.bipush 56, 2) := by decide +kernel
theorem dX8_putsAside_5 : decode cX8_putsAside 5 = .ok (.if_icmp .ge 21, 3) := by decide +kernel
theorem dX8_putsAside_8 : decode cX8_putsAside 8 = .ok (.aload_n 0, 1) := by decide +kernel
theorem dX8_putsAside_9 : decode cX8_putsAside 9 = .ok (.getfield 19, 3) := by decide +kernel
theorem dX8_putsAside_12 : decode cX8_putsAside 12 = .ok (.iload_n 1, 1) := by decide +kernel
theorem dX8_putsAside_13 : decode cX8_putsAside 13 = .ok (.aload_n 0, 1) := by decide +kernel
theorem dX8_putsAside_14 : decode cX8_putsAside 14 = .ok (.getfield 16, 3) := by decide +kernel
theorem dX8_putsAside_17 : decode cX8_putsAside 17 = .ok (.iload_n 1, 1) := by decide +kernel
theorem dX8_putsAside_18 : decode cX8_putsAside 18 = .ok (.iaload, 1) := by decide +kernel
theorem dX8_putsAside_19 : decode cX8_putsAside 19 = .ok (.iastore, 1) := by decide +kernel
theorem dX8_putsAside_20 : decode cX8_putsAside 20 = .ok (.iinc 1 1, 3) := by decide +kernel
theorem dX8_putsAside_23 : decode cX8_putsAside 23 = .ok (.goto (-21), 3) := by decide +kernel
theorem dX8_putsAside_26 : decode cX8_putsAside 26 = .ok (.return_, 1) := by decide +kernel
theorem dX8_putsBack_0 : decode cX8_putsBack 0 = .ok (.iconst 0, 1) := by decide +kernel
theorem dX8_putsBack_1 : decode cX8_putsBack 1 = .ok (.istore_n 1, 1) := by decide +kernel
theorem dX8_putsBack_2 : decode cX8_putsBack 2 = .ok (.iload_n 1, 1) := by decide +kernel
theorem dX8_putsBack_3 : decode cX8_putsBack 3 = .ok (.bipush 56, 2) := by decide +kernel
theorem dX8_putsBack_5 : decode cX8_putsBack 5 = .ok (.if_icmp .ge 21, 3) := by decide +kernel
theorem dX8_putsBack_8 : decode cX8_putsBack 8 = .ok (.aload_n 0, 1) := by decide +kernel
theorem dX8_putsBack_9 : decode cX8_putsBack 9 = .ok (.getfield 16, 3) := by decide +kernel
theorem dX8_putsBack_12 : decode cX8_putsBack 12 = .ok (.iload_n 1, 1) := by decide +kernel
theorem dX8_putsBack_13 : decode cX8_putsBack 13 = .ok (.aload_n 0, 1) := by decide +kernel
theorem dX8_putsBack_14 : decode cX8_putsBack 14 = .ok (.getfield 19, 3) := by decide +kernel
theorem dX8_putsBack_17 : decode cX8_putsBack 17 = .ok (.iload_n 1, 1) := by decide +kernel
theorem dX8_putsBack_18 : decode cX8_putsBack 18 = .ok (.iaload, 1) := by decide +kernel
theorem dX8_putsBack_19 : decode cX8_putsBack 19 = .ok (.iastore, 1) := by decide +kernel
theorem dX8_putsBack_20 : decode cX8_putsBack 20 = .ok (.iinc 1 1, 3) := by decide +kernel
theorem dX8_putsBack_23 : decode cX8_putsBack 23 = .ok (.goto (-21), 3) := by decide +kernel
theorem dX8_putsBack_26 : decode cX8_putsBack 26 = .ok (.return_, 1) := by decide +kernel
theorem dX8_isLetter_0 : decode cX8_isLetter 0 = .ok (.iload_n 0, 1) := by decide +kernel
theorem dX8_isLetter_1 : decode cX8_isLetter 1 = .ok (.bipush 97, 2) := by decide +kernel
theorem dX8_isLetter_3 : decode cX8_isLetter 3 = .ok (.if_icmp .lt 13, 3) := by decide +kernel
theorem dX8_isLetter_6 : decode cX8_isLetter 6 = .ok (.iload_n 0, 1) := by decide +kernel
theorem dX8_isLetter_7 : decode cX8_isLetter 7 = .ok (.bipush 122, 2) := by decide +kernel
theorem dX8_isLetter_9 : decode cX8_isLetter 9 = .ok (.if_icmp .gt 7, 3) := by decide +kernel
theorem dX8_isLetter_12 : decode cX8_isLetter 12 = .ok (.iconst 1, 1) := by decide +kernel
theorem dX8_isLetter_13 : decode cX8_isLetter 13 = .ok (.goto 4, 3) := by decide +kernel
theorem dX8_isLetter_16 : decode cX8_isLetter 16 = .ok (.iconst 0, 1) := by decide +kernel
theorem dX8_isLetter_17 : decode cX8_isLetter 17 = .ok (.ireturn, 1) := by decide +kernel
theorem dX8_isDigit_0 : decode cX8_isDigit 0 = .ok (.iload_n 0, 1) := by decide +kernel
theorem dX8_isDigit_1 : decode cX8_isDigit 1 = .ok (.bipush 48, 2) := by decide +kernel
theorem dX8_isDigit_3 : decode cX8_isDigit 3 = .ok (.if_icmp .lt 13, 3) := by decide +kernel
theorem dX8_isDigit_6 : decode cX8_isDigit 6 = .ok (.iload_n 0, 1) := by decide +kernel
theorem dX8_isDigit_7 : decode cX8_isDigit 7 = .ok (.bipush 57, 2) := by decide +kernel
theorem dX8_isDigit_9 : decode cX8_isDigit 9 = .ok (.if_icmp .gt 7, 3) := by decide +kernel
theorem dX8_isDigit_12 : decode cX8_isDigit 12 = .ok (.iconst 1, 1) := by decide +kernel
theorem dX8_isDigit_13 : decode cX8_isDigit 13 = .ok (.goto 4, 3) := by decide +kernel
theorem dX8_isDigit_16 : decode cX8_isDigit 16 = .ok (.iconst 0, 1) := by decide +kernel
theorem dX8_isDigit_17 : decode cX8_isDigit 17 = .ok (.ireturn, 1) := by decide +kernel
set_option maxRecDepth 20000 in
theorem ggX8_next_X8_isLetter : GoodIn wsX8_next wsX8_isLetter := goodIn_r _ [9] (by decide +kernel) (by decide +kernel)
set_option maxRecDepth 20000 in
theorem gX8_next_X8_isLetter : GoodIn wsX8_next (va_wsS RX8 122 yX8_isLetter wsX8_isLetter) := goodIn_app (goodIn_of _ (by decide +kernel)) ggX8_next_X8_isLetter
set_option maxRecDepth 20000 in
theorem ggX8_next_X8_scansWord : GoodIn wsX8_next wsX8_scansWord := goodIn_r _ [13, 2, 4, 5, 1, 6, 7, 8, 9, 22, 23, 24, 25, 26, 27, 28, 29, 30, 31, 32, 33, 34, 35, 36, 37, 38, 39, 40, 41, 42, 43] (by decide +kernel) (by decide +kernel)
set_option maxRecDepth 20000 in
theorem gX8_next_X8_scansWord : GoodIn wsX8_next (wsV RX8 125 RX8 yX8_scansWord wsX8_scansWord) := goodIn_app (goodIn_of _ (by decide +kernel)) ggX8_next_X8_scansWord
set_option maxRecDepth 20000 in
theorem ggX8_next_X8_isDigit : GoodIn wsX8_next wsX8_isDigit := goodIn_r _ [16] (by decide +kernel) (by decide +kernel)
set_option maxRecDepth 20000 in
theorem gX8_next_X8_isDigit : GoodIn wsX8_next (va_wsS RX8 129 yX8_isDigit wsX8_isDigit) := goodIn_app (goodIn_of _ (by decide +kernel)) ggX8_next_X8_isDigit
set_option maxRecDepth 20000 in
theorem ggX8_next_X8_scansNumber : GoodIn wsX8_next wsX8_scansNumber := goodIn_r _ [20, 21, 2, 4, 5, 3, 1, 14, 15, 8, 16, 22, 23, 24, 25, 26, 27, 28, 29, 30, 31, 32, 33, 34, 35, 36, 37, 38, 39, 40, 41, 42, 43] (by decide +kernel) (by decide +kernel)
set_option maxRecDepth 20000 in
theorem gX8_next_X8_scansNumber : GoodIn wsX8_next (wsV RX8 132 RX8 yX8_scansNumber wsX8_scansNumber) := goodIn_app (goodIn_of _ (by decide +kernel)) ggX8_next_X8_scansNumber
theorem dX8_next_0 : decode cX8_next 0 = .ok (.aload_n 0, 1) := by decide +kernel
theorem dX8_next_1 : decode cX8_next 1 = .ok (.getfield 110, 3) := by decide +kernel
theorem dX8_next_4 : decode cX8_next 4 = .ok (.iconst 1, 1) := by decide +kernel
theorem dX8_next_5 : decode cX8_next 5 = .ok (.if_icmp .eq 11, 3) := by decide +kernel
theorem dX8_next_8 : decode cX8_next 8 = .ok (.aload_n 0, 1) := by decide +kernel
theorem dX8_next_9 : decode cX8_next 9 = .ok (.getfield 110, 3) := by decide +kernel
theorem dX8_next_12 : decode cX8_next 12 = .ok (.iconst 2, 1) := by decide +kernel
theorem dX8_next_13 : decode cX8_next 13 = .ok (.if_icmp .ne 7, 3) := by decide +kernel
theorem dX8_next_16 : decode cX8_next 16 = .ok (.iconst 1, 1) := by decide +kernel
theorem dX8_next_17 : decode cX8_next 17 = .ok (.goto 4, 3) := by decide +kernel
theorem dX8_next_20 : decode cX8_next 20 = .ok (.iconst 0, 1) := by decide +kernel
theorem dX8_next_21 : decode cX8_next 21 = .ok (.istore_n 1, 1) := by decide +kernel
theorem dX8_next_22 : decode cX8_next 22 = .ok (.aload_n 0, 1) := by decide +kernel
theorem dX8_next_23 : decode cX8_next 23 = .ok (.aload_n 0, 1) := by decide +kernel
theorem dX8_next_24 : decode cX8_next 24 = .ok (.getfield 113, 3) := by decide +kernel
theorem dX8_next_27 : decode cX8_next 27 = .ok (.putfield 116, 3) := by decide +kernel
theorem dX8_next_30 : decode cX8_next 30 = .ok (.aload_n 0, 1) := by decide +kernel
theorem dX8_next_31 : decode cX8_next 31 = .ok (.getfield 116, 3) := by decide +kernel
theorem dX8_next_34 : decode cX8_next 34 = .ok (.aload_n 0, 1) := by decide +kernel
theorem dX8_next_35 : decode cX8_next 35 = .ok (.getfield 119, 3) := by decide +kernel
theorem dX8_next_38 : decode cX8_next 38 = .ok (.if_icmp .ge 44, 3) := by decide +kernel
theorem dX8_next_41 : decode cX8_next 41 = .ok (.aload_n 0, 1) := by decide +kernel
theorem dX8_next_42 : decode cX8_next 42 = .ok (.getfield 28, 3) := by decide +kernel
theorem dX8_next_45 : decode cX8_next 45 = .ok (.aload_n 0, 1) := by decide +kernel
theorem dX8_next_46 : decode cX8_next 46 = .ok (.getfield 116, 3) := by decide +kernel
theorem dX8_next_49 : decode cX8_next 49 = .ok (.baload, 1) := by decide +kernel
theorem dX8_next_50 : decode cX8_next 50 = .ok (.bipush 32, 2) := by decide +kernel
theorem dX8_next_52 : decode cX8_next 52 = .ok (.if_icmp .eq 17, 3) := by decide +kernel
theorem dX8_next_55 : decode cX8_next 55 = .ok (.aload_n 0, 1) := by decide +kernel
theorem dX8_next_56 : decode cX8_next 56 = .ok (.getfield 28, 3) := by decide +kernel
theorem dX8_next_59 : decode cX8_next 59 = .ok (.aload_n 0, 1) := by decide +kernel
theorem dX8_next_60 : decode cX8_next 60 = .ok (.getfield 116, 3) := by decide +kernel
theorem dX8_next_63 : decode cX8_next 63 = .ok (.baload, 1) := by decide +kernel
theorem dX8_next_64 : decode cX8_next 64 = .ok (.bipush 10, 2) := by decide +kernel
theorem dX8_next_66 : decode cX8_next 66 = .ok (.if_icmp .ne 16, 3) := by decide +kernel
theorem dX8_next_69 : decode cX8_next 69 = .ok (.aload_n 0, 1) := by decide +kernel
theorem dX8_next_70 : decode cX8_next 70 = .ok (.dup, 1) := by decide +kernel
theorem dX8_next_71 : decode cX8_next 71 = .ok (.getfield 116, 3) := by decide +kernel
theorem dX8_next_74 : decode cX8_next 74 = .ok (.iconst 1, 1) := by decide +kernel
theorem dX8_next_75 : decode cX8_next 75 = .ok (.iadd, 1) := by decide +kernel
theorem dX8_next_76 : decode cX8_next 76 = .ok (.putfield 116, 3) := by decide +kernel
theorem dX8_next_79 : decode cX8_next 79 = .ok (.goto (-49), 3) := by decide +kernel
theorem dX8_next_82 : decode cX8_next 82 = .ok (.iload_n 1, 1) := by decide +kernel
theorem dX8_next_83 : decode cX8_next 83 = .ok (.ifCond .eq 18, 3) := by decide +kernel
theorem dX8_next_86 : decode cX8_next 86 = .ok (.aload_n 0, 1) := by decide +kernel
theorem dX8_next_87 : decode cX8_next 87 = .ok (.getfield 116, 3) := by decide +kernel
theorem dX8_next_90 : decode cX8_next 90 = .ok (.aload_n 0, 1) := by decide +kernel
theorem dX8_next_91 : decode cX8_next 91 = .ok (.getfield 113, 3) := by decide +kernel
theorem dX8_next_94 : decode cX8_next 94 = .ok (.if_icmp .ne 7, 3) := by decide +kernel
theorem dX8_next_97 : decode cX8_next 97 = .ok (.iconst 1, 1) := by decide +kernel
theorem dX8_next_98 : decode cX8_next 98 = .ok (.goto 4, 3) := by decide +kernel
theorem dX8_next_101 : decode cX8_next 101 = .ok (.iconst 0, 1) := by decide +kernel
theorem dX8_next_102 : decode cX8_next 102 = .ok (.istore_n 2, 1) := by decide +kernel
theorem dX8_next_103 : decode cX8_next 103 = .ok (.aload_n 0, 1) := by decide +kernel
theorem dX8_next_104 : decode cX8_next 104 = .ok (.aload_n 0, 1) := by decide +kernel
theorem dX8_next_105 : decode cX8_next 105 = .ok (.getfield 116, 3) := by decide +kernel
theorem dX8_next_108 : decode cX8_next 108 = .ok (.putfield 113, 3) := by decide +kernel
theorem dX8_next_111 : decode cX8_next 111 = .ok (.aload_n 0, 1) := by decide +kernel
theorem dX8_next_112 : decode cX8_next 112 = .ok (.getfield 116, 3) := by decide +kernel
theorem dX8_next_115 : decode cX8_next 115 = .ok (.aload_n 0, 1) := by decide +kernel
theorem dX8_next_116 : decode cX8_next 116 = .ok (.getfield 119, 3) := by decide +kernel
theorem dX8_next_119 : decode cX8_next 119 = .ok (.if_icmp .ne 11, 3) := by decide +kernel
theorem dX8_next_122 : decode cX8_next 122 = .ok (.aload_n 0, 1) := by decide +kernel
theorem dX8_next_123 : decode cX8_next 123 = .ok (.iconst 0, 1) := by decide +kernel
theorem dX8_next_124 : decode cX8_next 124 = .ok (.putfield 110, 3) := by decide +kernel
theorem dX8_next_127 : decode cX8_next 127 = .ok (.goto 82, 3) := by decide +kernel
theorem dX8_next_130 : decode cX8_next 130 = .ok (.aload_n 0, 1) := by decide +kernel
theorem dX8_next_131 : decode cX8_next 131 = .ok (.getfield 28, 3) := by decide +kernel
theorem dX8_next_134 : decode cX8_next 134 = .ok (.aload_n 0, 1) := by decide +kernel
theorem dX8_next_135 : decode cX8_next 135 = .ok (.getfield 116, 3) := by decide +kernel
theorem dX8_next_138 : decode cX8_next 138 = .ok (.baload, 1) := by decide +kernel
theorem dX8_next_139 : decode cX8_next 139 = .ok (.invokestatic 122, 3) := by decide +kernel
theorem dX8_next_142 : decode cX8_next 142 = .ok (.ifCond .eq 11, 3) := by decide +kernel
theorem dX8_next_145 : decode cX8_next 145 = .ok (.aload_n 0, 1) := by decide +kernel
theorem dX8_next_146 : decode cX8_next 146 = .ok (.iload_n 2, 1) := by decide +kernel
theorem dX8_next_147 : decode cX8_next 147 = .ok (.invokevirtual 125, 3) := by decide +kernel
theorem dX8_next_150 : decode cX8_next 150 = .ok (.goto 59, 3) := by decide +kernel
theorem dX8_next_153 : decode cX8_next 153 = .ok (.aload_n 0, 1) := by decide +kernel
theorem dX8_next_154 : decode cX8_next 154 = .ok (.getfield 28, 3) := by decide +kernel
theorem dX8_next_157 : decode cX8_next 157 = .ok (.aload_n 0, 1) := by decide +kernel
theorem dX8_next_158 : decode cX8_next 158 = .ok (.getfield 116, 3) := by decide +kernel
theorem dX8_next_161 : decode cX8_next 161 = .ok (.baload, 1) := by decide +kernel
theorem dX8_next_162 : decode cX8_next 162 = .ok (.invokestatic 129, 3) := by decide +kernel
theorem dX8_next_165 : decode cX8_next 165 = .ok (.ifCond .eq 11, 3) := by decide +kernel
theorem dX8_next_168 : decode cX8_next 168 = .ok (.aload_n 0, 1) := by decide +kernel
theorem dX8_next_169 : decode cX8_next 169 = .ok (.iload_n 2, 1) := by decide +kernel
theorem dX8_next_170 : decode cX8_next 170 = .ok (.invokevirtual 132, 3) := by decide +kernel
theorem dX8_next_173 : decode cX8_next 173 = .ok (.goto 36, 3) := by decide +kernel
theorem dX8_next_176 : decode cX8_next 176 = .ok (.aload_n 0, 1) := by decide +kernel
theorem dX8_next_177 : decode cX8_next 177 = .ok (.aload_n 0, 1) := by decide +kernel
theorem dX8_next_178 : decode cX8_next 178 = .ok (.getfield 116, 3) := by decide +kernel
theorem dX8_next_181 : decode cX8_next 181 = .ok (.iconst 1, 1) := by decide +kernel
theorem dX8_next_182 : decode cX8_next 182 = .ok (.iadd, 1) := by decide +kernel
theorem dX8_next_183 : decode cX8_next 183 = .ok (.putfield 113, 3) := by decide +kernel
theorem dX8_next_186 : decode cX8_next 186 = .ok (.aload_n 0, 1) := by decide +kernel
theorem dX8_next_187 : decode cX8_next 187 = .ok (.aload_n 0, 1) := by decide +kernel
theorem dX8_next_188 : decode cX8_next 188 = .ok (.getfield 28, 3) := by decide +kernel
theorem dX8_next_191 : decode cX8_next 191 = .ok (.aload_n 0, 1) := by decide +kernel
theorem dX8_next_192 : decode cX8_next 192 = .ok (.getfield 116, 3) := by decide +kernel
theorem dX8_next_195 : decode cX8_next 195 = .ok (.baload, 1) := by decide +kernel
theorem dX8_next_196 : decode cX8_next 196 = .ok (.bipush 59, 2) := by decide +kernel
theorem dX8_next_198 : decode cX8_next 198 = .ok (.if_icmp .ne 7, 3) := by decide +kernel
theorem dX8_next_201 : decode cX8_next 201 = .ok (.iconst 3, 1) := by decide +kernel
theorem dX8_next_202 : decode cX8_next 202 = .ok (.goto 4, 3) := by decide +kernel
theorem dX8_next_205 : decode cX8_next 205 = .ok (.iconst 4, 1) := by decide +kernel
theorem dX8_next_206 : decode cX8_next 206 = .ok (.putfield 110, 3) := by decide +kernel
theorem dX8_next_209 : decode cX8_next 209 = .ok (.return_, 1) := by decide +kernel
set_option maxRecDepth 20000 in
theorem ggX8_scansWord_X8_isLetter : GoodIn wsX8_scansWord wsX8_isLetter := goodIn_r _ [8] (by decide +kernel) (by decide +kernel)
set_option maxRecDepth 20000 in
theorem gX8_scansWord_X8_isLetter : GoodIn wsX8_scansWord (va_wsS RX8 122 yX8_isLetter wsX8_isLetter) := goodIn_app (goodIn_of _ (by decide +kernel)) ggX8_scansWord_X8_isLetter
theorem dX8_scansWord_0 : decode cX8_scansWord 0 = .ok (.aload_n 0, 1) := by decide +kernel
theorem dX8_scansWord_1 : decode cX8_scansWord 1 = .ok (.getfield 113, 3) := by decide +kernel
theorem dX8_scansWord_4 : decode cX8_scansWord 4 = .ok (.aload_n 0, 1) := by decide +kernel
theorem dX8_scansWord_5 : decode cX8_scansWord 5 = .ok (.getfield 119, 3) := by decide +kernel
theorem dX8_scansWord_8 : decode cX8_scansWord 8 = .ok (.if_icmp .ge 31, 3) := by decide +kernel
theorem dX8_scansWord_11 : decode cX8_scansWord 11 = .ok (.aload_n 0, 1) := by decide +kernel
theorem dX8_scansWord_12 : decode cX8_scansWord 12 = .ok (.getfield 28, 3) := by decide +kernel
theorem dX8_scansWord_15 : decode cX8_scansWord 15 = .ok (.aload_n 0, 1) := by decide +kernel
theorem dX8_scansWord_16 : decode cX8_scansWord 16 = .ok (.getfield 113, 3) := by decide +kernel
theorem dX8_scansWord_19 : decode cX8_scansWord 19 = .ok (.baload, 1) := by decide +kernel
theorem dX8_scansWord_20 : decode cX8_scansWord 20 = .ok (.invokestatic 122, 3) := by decide +kernel
theorem dX8_scansWord_23 : decode cX8_scansWord 23 = .ok (.ifCond .eq 16, 3) := by decide +kernel
theorem dX8_scansWord_26 : decode cX8_scansWord 26 = .ok (.aload_n 0, 1) := by decide +kernel
theorem dX8_scansWord_27 : decode cX8_scansWord 27 = .ok (.dup, 1) := by decide +kernel
theorem dX8_scansWord_28 : decode cX8_scansWord 28 = .ok (.getfield 113, 3) := by decide +kernel
