theorem dL_law_0 : decode cL_law 0 = .ok (.new 8, 3) := by decide +kernel
theorem dL_law_3 : decode cL_law 3 = .ok (.dup, 1) := by decide +kernel
theorem dL_law_4 : decode cL_law 4 = .ok (.invokespecial 190, 3) := by decide +kernel
theorem dL_law_7 : decode cL_law 7 = .ok (.astore_n 1, 1) := by decide +kernel
theorem dL_law_8 : decode cL_law 8 = .ok (.new 191, 3) := by decide +kernel
theorem dL_law_11 : decode cL_law 11 = .ok (.dup, 1) := by decide +kernel
theorem dL_law_12 : decode cL_law 12 = .ok (.invokespecial 193, 3) := by decide +kernel
theorem dL_law_15 : decode cL_law 15 = .ok (.astore_n 2, 1) := by decide +kernel
theorem dL_law_16 : decode cL_law 16 = .ok (.iconst 1, 1) := by decide +kernel
theorem dL_law_17 : decode cL_law 17 = .ok (.newarray .long, 2) := by decide +kernel
theorem dL_law_19 : decode cL_law 19 = .ok (.astore_n 3, 1) := by decide +kernel
theorem dL_law_20 : decode cL_law 20 = .ok (.iconst 1, 1) := by decide +kernel
theorem dL_law_21 : decode cL_law 21 = .ok (.newarray .double, 2) := by decide +kernel
theorem dL_law_23 : decode cL_law 23 = .ok (.astore 4, 2) := by decide +kernel
theorem dL_law_25 : decode cL_law 25 = .ok (.iconst 0, 1) := by decide +kernel
theorem dL_law_26 : decode cL_law 26 = .ok (.istore 5, 2) := by decide +kernel
theorem dL_law_28 : decode cL_law 28 = .ok (.iload 5, 2) := by decide +kernel
theorem dL_law_30 : decode cL_law 30 = .ok (.aload_n 0, 1) := by decide +kernel
theorem dL_law_31 : decode cL_law 31 = .ok (.arraylength, 1) := by decide +kernel
theorem dL_law_32 : decode cL_law 32 = .ok (.bipush 6, 2) := by decide +kernel
theorem dL_law_34 : decode cL_law 34 = .ok (.isub, 1) := by decide +kernel
theorem dL_law_35 : decode cL_law 35 = .ok (.if_icmp .gt 4098, 3) := by decide +kernel
theorem dL_law_38 : decode cL_law 38 = .ok (.aload_n 0, 1) := by decide +kernel
theorem dL_law_39 : decode cL_law 39 = .ok (.iload 5, 2) := by decide +kernel
theorem dL_law_41 : decode cL_law 41 = .ok (.iaload, 1) := by decide +kernel
theorem dL_law_42 : decode cL_law 42 = .ok (.bipush 63, 2) := by decide +kernel
theorem dL_law_44 : decode cL_law 44 = .ok (.iand, 1) := by decide +kernel
theorem dL_law_45 : decode cL_law 45 = .ok (.tableswitch 4082 0 63 #[271, 344, 369, 382, 395, 408, 464, 532, 600, 668, 736, 804, 860, 916, 972, 1049, 1105, 1189, 1244, 1299, 1354, 1432, 1509, 1565, 1633, 1701, 1757, 1825, 1916, 1984, 2040, 2131, 2211, 2279, 2359, 2439, 2507, 2574, 2641, 2709, 2777, 2845, 2901, 2969, 3037, 3117, 3173, 3229, 3242, 3310, 3378, 3446, 3523, 3579, 3635, 3703, 3782, 3838, 3918, 3931, 3987, 4012, 4025, 4038], 271) := by decide +kernel
theorem dL_law_316 : decode cL_law 316 = .ok (.aload_n 1, 1) := by decide +kernel
theorem dL_law_317 : decode cL_law 317 = .ok (.aload_n 0, 1) := by decide +kernel
theorem dL_law_318 : decode cL_law 318 = .ok (.iload 5, 2) := by decide +kernel
theorem dL_law_320 : decode cL_law 320 = .ok (.iconst 1, 1) := by decide +kernel
theorem dL_law_321 : decode cL_law 321 = .ok (.iadd, 1) := by decide +kernel
theorem dL_law_322 : decode cL_law 322 = .ok (.iaload, 1) := by decide +kernel
theorem dL_law_323 : decode cL_law 323 = .ok (.aload_n 0, 1) := by decide +kernel
theorem dL_law_324 : decode cL_law 324 = .ok (.iload 5, 2) := by decide +kernel
theorem dL_law_326 : decode cL_law 326 = .ok (.iconst 2, 1) := by decide +kernel
theorem dL_law_327 : decode cL_law 327 = .ok (.iadd, 1) := by decide +kernel
theorem dL_law_328 : decode cL_law 328 = .ok (.iaload, 1) := by decide +kernel
theorem dL_law_329 : decode cL_law 329 = .ok (.aload_n 0, 1) := by decide +kernel
theorem dL_law_330 : decode cL_law 330 = .ok (.iload 5, 2) := by decide +kernel
theorem dL_law_332 : decode cL_law 332 = .ok (.iconst 3, 1) := by decide +kernel
theorem dL_law_333 : decode cL_law 333 = .ok (.iadd, 1) := by decide +kernel
theorem dL_law_334 : decode cL_law 334 = .ok (.iaload, 1) := by decide +kernel
theorem dL_law_335 : decode cL_law 335 = .ok (.aload_n 0, 1) := by decide +kernel
theorem dL_law_336 : decode cL_law 336 = .ok (.iload 5, 2) := by decide +kernel
theorem dL_law_338 : decode cL_law 338 = .ok (.iconst 4, 1) := by decide +kernel
theorem dL_law_339 : decode cL_law 339 = .ok (.iadd, 1) := by decide +kernel
theorem dL_law_340 : decode cL_law 340 = .ok (.iaload, 1) := by decide +kernel
theorem dL_law_341 : decode cL_law 341 = .ok (.aload_n 0, 1) := by decide +kernel
theorem dL_law_342 : decode cL_law 342 = .ok (.iload 5, 2) := by decide +kernel
theorem dL_law_344 : decode cL_law 344 = .ok (.iconst 5, 1) := by decide +kernel
theorem dL_law_345 : decode cL_law 345 = .ok (.iadd, 1) := by decide +kernel
theorem dL_law_346 : decode cL_law 346 = .ok (.iaload, 1) := by decide +kernel
theorem dL_law_347 : decode cL_law 347 = .ok (.invokevirtual 194, 3) := by decide +kernel
theorem dL_law_350 : decode cL_law 350 = .ok (.aload_n 2, 1) := by decide +kernel
theorem dL_law_351 : decode cL_law 351 = .ok (.aload_n 0, 1) := by decide +kernel
theorem dL_law_352 : decode cL_law 352 = .ok (.iload 5, 2) := by decide +kernel
theorem dL_law_354 : decode cL_law 354 = .ok (.iconst 1, 1) := by decide +kernel
theorem dL_law_355 : decode cL_law 355 = .ok (.iadd, 1) := by decide +kernel
theorem dL_law_356 : decode cL_law 356 = .ok (.iaload, 1) := by decide +kernel
theorem dL_law_357 : decode cL_law 357 = .ok (.aload_n 0, 1) := by decide +kernel
theorem dL_law_358 : decode cL_law 358 = .ok (.iload 5, 2) := by decide +kernel
theorem dL_law_360 : decode cL_law 360 = .ok (.iconst 2, 1) := by decide +kernel
theorem dL_law_361 : decode cL_law 361 = .ok (.iadd, 1) := by decide +kernel
theorem dL_law_362 : decode cL_law 362 = .ok (.iaload, 1) := by decide +kernel
theorem dL_law_363 : decode cL_law 363 = .ok (.aload_n 0, 1) := by decide +kernel
theorem dL_law_364 : decode cL_law 364 = .ok (.iload 5, 2) := by decide +kernel
theorem dL_law_366 : decode cL_law 366 = .ok (.iconst 3, 1) := by decide +kernel
theorem dL_law_367 : decode cL_law 367 = .ok (.iadd, 1) := by decide +kernel
theorem dL_law_368 : decode cL_law 368 = .ok (.iaload, 1) := by decide +kernel
theorem dL_law_369 : decode cL_law 369 = .ok (.aload_n 0, 1) := by decide +kernel
theorem dL_law_370 : decode cL_law 370 = .ok (.iload 5, 2) := by decide +kernel
theorem dL_law_372 : decode cL_law 372 = .ok (.iconst 4, 1) := by decide +kernel
theorem dL_law_373 : decode cL_law 373 = .ok (.iadd, 1) := by decide +kernel
theorem dL_law_374 : decode cL_law 374 = .ok (.iaload, 1) := by decide +kernel
theorem dL_law_375 : decode cL_law 375 = .ok (.aload_n 0, 1) := by decide +kernel
theorem dL_law_376 : decode cL_law 376 = .ok (.iload 5, 2) := by decide +kernel
theorem dL_law_378 : decode cL_law 378 = .ok (.iconst 5, 1) := by decide +kernel
theorem dL_law_379 : decode cL_law 379 = .ok (.iadd, 1) := by decide +kernel
theorem dL_law_380 : decode cL_law 380 = .ok (.iaload, 1) := by decide +kernel
theorem dL_law_381 : decode cL_law 381 = .ok (.invokevirtual 198, 3) := by decide +kernel
theorem dL_law_384 : decode cL_law 384 = .ok (.if_icmp .eq 3743, 3) := by decide +kernel
theorem dL_law_387 : decode cL_law 387 = .ok (.iconst 0, 1) := by decide +kernel
theorem dL_law_388 : decode cL_law 388 = .ok (.ireturn, 1) := by decide +kernel
theorem dL_law_389 : decode cL_law 389 = .ok (.aload_n 1, 1) := by decide +kernel
theorem dL_law_390 : decode cL_law 390 = .ok (.aload_n 0, 1) := by decide +kernel
theorem dL_law_391 : decode cL_law 391 = .ok (.iload 5, 2) := by decide +kernel
theorem dL_law_393 : decode cL_law 393 = .ok (.iconst 1, 1) := by decide +kernel
theorem dL_law_394 : decode cL_law 394 = .ok (.iadd, 1) := by decide +kernel
theorem dL_law_395 : decode cL_law 395 = .ok (.iaload, 1) := by decide +kernel
theorem dL_law_396 : decode cL_law 396 = .ok (.invokevirtual 199, 3) := by decide +kernel
theorem dL_law_399 : decode cL_law 399 = .ok (.aload_n 2, 1) := by decide +kernel
theorem dL_law_400 : decode cL_law 400 = .ok (.aload_n 0, 1) := by decide +kernel
theorem dL_law_401 : decode cL_law 401 = .ok (.iload 5, 2) := by decide +kernel
theorem dL_law_403 : decode cL_law 403 = .ok (.iconst 1, 1) := by decide +kernel
theorem dL_law_404 : decode cL_law 404 = .ok (.iadd, 1) := by decide +kernel
theorem dL_law_405 : decode cL_law 405 = .ok (.iaload, 1) := by decide +kernel
theorem dL_law_406 : decode cL_law 406 = .ok (.invokevirtual 203, 3) := by decide +kernel
theorem dL_law_409 : decode cL_law 409 = .ok (.if_icmp .eq 3718, 3) := by decide +kernel
theorem dL_law_412 : decode cL_law 412 = .ok (.iconst 0, 1) := by decide +kernel
theorem dL_law_413 : decode cL_law 413 = .ok (.ireturn, 1) := by decide +kernel
theorem dL_law_414 : decode cL_law 414 = .ok (.aload_n 1, 1) := by decide +kernel
theorem dL_law_415 : decode cL_law 415 = .ok (.invokevirtual 204, 3) := by decide +kernel
theorem dL_law_418 : decode cL_law 418 = .ok (.aload_n 2, 1) := by decide +kernel
theorem dL_law_419 : decode cL_law 419 = .ok (.invokevirtual 207, 3) := by decide +kernel
theorem dL_law_422 : decode cL_law 422 = .ok (.if_icmp .eq 3705, 3) := by decide +kernel
theorem dL_law_425 : decode cL_law 425 = .ok (.iconst 0, 1) := by decide +kernel
theorem dL_law_426 : decode cL_law 426 = .ok (.ireturn, 1) := by decide +kernel
theorem dL_law_427 : decode cL_law 427 = .ok (.aload_n 1, 1) := by decide +kernel
theorem dL_law_428 : decode cL_law 428 = .ok (.invokevirtual 208, 3) := by decide +kernel
theorem dL_law_431 : decode cL_law 431 = .ok (.aload_n 2, 1) := by decide +kernel
theorem dL_law_432 : decode cL_law 432 = .ok (.invokevirtual 211, 3) := by decide +kernel
theorem dL_law_435 : decode cL_law 435 = .ok (.if_icmp .eq 3692, 3) := by decide +kernel
theorem dL_law_438 : decode cL_law 438 = .ok (.iconst 0, 1) := by decide +kernel
theorem dL_law_439 : decode cL_law 439 = .ok (.ireturn, 1) := by decide +kernel
theorem dL_law_440 : decode cL_law 440 = .ok (.aload_n 1, 1) := by decide +kernel
theorem dL_law_441 : decode cL_law 441 = .ok (.invokevirtual 212, 3) := by decide +kernel
theorem dL_law_444 : decode cL_law 444 = .ok (.aload_n 2, 1) := by decide +kernel
theorem dL_law_445 : decode cL_law 445 = .ok (.invokevirtual 215, 3) := by decide +kernel
theorem dL_law_448 : decode cL_law 448 = .ok (.if_icmp .eq 3679, 3) := by decide +kernel
theorem dL_law_451 : decode cL_law 451 = .ok (.iconst 0, 1) := by decide +kernel
theorem dL_law_452 : decode cL_law 452 = .ok (.ireturn, 1) := by decide +kernel
theorem dL_law_453 : decode cL_law 453 = .ok (.aload_n 1, 1) := by decide +kernel
theorem dL_law_454 : decode cL_law 454 = .ok (.aload_n 0, 1) := by decide +kernel
theorem dL_law_455 : decode cL_law 455 = .ok (.iload 5, 2) := by decide +kernel
theorem dL_law_457 : decode cL_law 457 = .ok (.iconst 1, 1) := by decide +kernel
theorem dL_law_458 : decode cL_law 458 = .ok (.iadd, 1) := by decide +kernel
theorem dL_law_459 : decode cL_law 459 = .ok (.iaload, 1) := by decide +kernel
theorem dL_law_460 : decode cL_law 460 = .ok (.aload_n 3, 1) := by decide +kernel
theorem dL_law_461 : decode cL_law 461 = .ok (.invokestatic 216, 3) := by decide +kernel
theorem dL_law_464 : decode cL_law 464 = .ok (.istore 6, 2) := by decide +kernel
theorem dL_law_466 : decode cL_law 466 = .ok (.aload_n 2, 1) := by decide +kernel
theorem dL_law_467 : decode cL_law 467 = .ok (.aload_n 0, 1) := by decide +kernel
theorem dL_law_468 : decode cL_law 468 = .ok (.iload 5, 2) := by decide +kernel
theorem dL_law_470 : decode cL_law 470 = .ok (.iconst 1, 1) := by decide +kernel
theorem dL_law_471 : decode cL_law 471 = .ok (.iadd, 1) := by decide +kernel
theorem dL_law_472 : decode cL_law 472 = .ok (.iaload, 1) := by decide +kernel
theorem dL_law_473 : decode cL_law 473 = .ok (.invokevirtual 221, 3) := by decide +kernel
theorem dL_law_476 : decode cL_law 476 = .ok (.istore 7, 2) := by decide +kernel
theorem dL_law_478 : decode cL_law 478 = .ok (.aload_n 2, 1) := by decide +kernel
theorem dL_law_479 : decode cL_law 479 = .ok (.invokevirtual 222, 3) := by decide +kernel
theorem dL_law_482 : decode cL_law 482 = .ok (.iload 6, 2) := by decide +kernel
theorem dL_law_484 : decode cL_law 484 = .ok (.if_icmp .eq 5, 3) := by decide +kernel
theorem dL_law_487 : decode cL_law 487 = .ok (.iconst 0, 1) := by decide +kernel
theorem dL_law_488 : decode cL_law 488 = .ok (.ireturn, 1) := by decide +kernel
theorem dL_law_489 : decode cL_law 489 = .ok (.iload 6, 2) := by decide +kernel
theorem dL_law_491 : decode cL_law 491 = .ok (.ifCond .ne 15, 3) := by decide +kernel
theorem dL_law_494 : decode cL_law 494 = .ok (.aload_n 3, 1) := by decide +kernel
theorem dL_law_495 : decode cL_law 495 = .ok (.iconst 0, 1) := by decide +kernel
theorem dL_law_496 : decode cL_law 496 = .ok (.laload, 1) := by decide +kernel
theorem dL_law_497 : decode cL_law 497 = .ok (.iload 7, 2) := by decide +kernel
theorem dL_law_499 : decode cL_law 499 = .ok (.i2l, 1) := by decide +kernel
theorem dL_law_500 : decode cL_law 500 = .ok (.lcmp, 1) := by decide +kernel
theorem dL_law_501 : decode cL_law 501 = .ok (.ifCond .eq 5, 3) := by decide +kernel
theorem dL_law_504 : decode cL_law 504 = .ok (.iconst 0, 1) := by decide +kernel
theorem dL_law_505 : decode cL_law 505 = .ok (.ireturn, 1) := by decide +kernel
theorem dL_law_506 : decode cL_law 506 = .ok (.goto 3621, 3) := by decide +kernel
theorem dL_law_509 : decode cL_law 509 = .ok (.aload_n 1, 1) := by decide +kernel
theorem dL_law_510 : decode cL_law 510 = .ok (.aload_n 0, 1) := by decide +kernel
theorem dL_law_511 : decode cL_law 511 = .ok (.iload 5, 2) := by decide +kernel
theorem dL_law_513 : decode cL_law 513 = .ok (.iconst 1, 1) := by decide +kernel
theorem dL_law_514 : decode cL_law 514 = .ok (.iadd, 1) := by decide +kernel
theorem dL_law_515 : decode cL_law 515 = .ok (.iaload, 1) := by decide +kernel
theorem dL_law_516 : decode cL_law 516 = .ok (.aload_n 0, 1) := by decide +kernel
theorem dL_law_517 : decode cL_law 517 = .ok (.iload 5, 2) := by decide +kernel
theorem dL_law_519 : decode cL_law 519 = .ok (.iconst 2, 1) := by decide +kernel
theorem dL_law_520 : decode cL_law 520 = .ok (.iadd, 1) := by decide +kernel
theorem dL_law_521 : decode cL_law 521 = .ok (.iaload, 1) := by decide +kernel
theorem dL_law_522 : decode cL_law 522 = .ok (.aload_n 3, 1) := by decide +kernel
theorem dL_law_523 : decode cL_law 523 = .ok (.invokestatic 225, 3) := by decide +kernel
theorem dL_law_526 : decode cL_law 526 = .ok (.istore 6, 2) := by decide +kernel
theorem dL_law_528 : decode cL_law 528 = .ok (.aload_n 2, 1) := by decide +kernel
theorem dL_law_529 : decode cL_law 529 = .ok (.aload_n 0, 1) := by decide +kernel
theorem dL_law_530 : decode cL_law 530 = .ok (.iload 5, 2) := by decide +kernel
theorem dL_law_532 : decode cL_law 532 = .ok (.iconst 1, 1) := by decide +kernel
theorem dL_law_533 : decode cL_law 533 = .ok (.iadd, 1) := by decide +kernel
theorem dL_law_534 : decode cL_law 534 = .ok (.iaload, 1) := by decide +kernel
theorem dL_law_535 : decode cL_law 535 = .ok (.aload_n 0, 1) := by decide +kernel
theorem dL_law_536 : decode cL_law 536 = .ok (.iload 5, 2) := by decide +kernel
theorem dL_law_538 : decode cL_law 538 = .ok (.iconst 2, 1) := by decide +kernel
theorem dL_law_539 : decode cL_law 539 = .ok (.iadd, 1) := by decide +kernel
theorem dL_law_540 : decode cL_law 540 = .ok (.iaload, 1) := by decide +kernel
theorem dL_law_541 : decode cL_law 541 = .ok (.invokevirtual 228, 3) := by decide +kernel
theorem dL_law_544 : decode cL_law 544 = .ok (.istore 7, 2) := by decide +kernel
theorem dL_law_546 : decode cL_law 546 = .ok (.aload_n 2, 1) := by decide +kernel
theorem dL_law_547 : decode cL_law 547 = .ok (.invokevirtual 222, 3) := by decide +kernel
theorem dL_law_550 : decode cL_law 550 = .ok (.iload 6, 2) := by decide +kernel
theorem dL_law_552 : decode cL_law 552 = .ok (.if_icmp .eq 5, 3) := by decide +kernel
theorem dL_law_555 : decode cL_law 555 = .ok (.iconst 0, 1) := by decide +kernel
theorem dL_law_556 : decode cL_law 556 = .ok (.ireturn, 1) := by decide +kernel
theorem dL_law_557 : decode cL_law 557 = .ok (.iload 6, 2) := by decide +kernel
theorem dL_law_559 : decode cL_law 559 = .ok (.ifCond .ne 15, 3) := by decide +kernel
theorem dL_law_562 : decode cL_law 562 = .ok (.aload_n 3, 1) := by decide +kernel
theorem dL_law_563 : decode cL_law 563 = .ok (.iconst 0, 1) := by decide +kernel
theorem dL_law_564 : decode cL_law 564 = .ok (.laload, 1) := by decide +kernel
theorem dL_law_565 : decode cL_law 565 = .ok (.iload 7, 2) := by decide +kernel
theorem dL_law_567 : decode cL_law 567 = .ok (.i2l, 1) := by decide +kernel
theorem dL_law_568 : decode cL_law 568 = .ok (.lcmp, 1) := by decide +kernel
theorem dL_law_569 : decode cL_law 569 = .ok (.ifCond .eq 5, 3) := by decide +kernel
theorem dL_law_572 : decode cL_law 572 = .ok (.iconst 0, 1) := by decide +kernel
theorem dL_law_573 : decode cL_law 573 = .ok (.ireturn, 1) := by decide +kernel
theorem dL_law_574 : decode cL_law 574 = .ok (.goto 3553, 3) := by decide +kernel
theorem dL_law_577 : decode cL_law 577 = .ok (.aload_n 1, 1) := by decide +kernel
theorem dL_law_578 : decode cL_law 578 = .ok (.aload_n 0, 1) := by decide +kernel
theorem dL_law_579 : decode cL_law 579 = .ok (.iload 5, 2) := by decide +kernel
theorem dL_law_581 : decode cL_law 581 = .ok (.iconst 1, 1) := by decide +kernel
theorem dL_law_582 : decode cL_law 582 = .ok (.iadd, 1) := by decide +kernel
theorem dL_law_583 : decode cL_law 583 = .ok (.iaload, 1) := by decide +kernel
theorem dL_law_584 : decode cL_law 584 = .ok (.aload_n 0, 1) := by decide +kernel
theorem dL_law_585 : decode cL_law 585 = .ok (.iload 5, 2) := by decide +kernel
theorem dL_law_587 : decode cL_law 587 = .ok (.iconst 2, 1) := by decide +kernel
theorem dL_law_588 : decode cL_law 588 = .ok (.iadd, 1) := by decide +kernel
theorem dL_law_589 : decode cL_law 589 = .ok (.iaload, 1) := by decide +kernel
theorem dL_law_590 : decode cL_law 590 = .ok (.aload_n 3, 1) := by decide +kernel
theorem dL_law_591 : decode cL_law 591 = .ok (.invokestatic 229, 3) := by decide +kernel
theorem dL_law_594 : decode cL_law 594 = .ok (.istore 6, 2) := by decide +kernel
theorem dL_law_596 : decode cL_law 596 = .ok (.aload_n 2, 1) := by decide +kernel
theorem dL_law_597 : decode cL_law 597 = .ok (.aload_n 0, 1) := by decide +kernel
theorem dL_law_598 : decode cL_law 598 = .ok (.iload 5, 2) := by decide +kernel
theorem dL_law_600 : decode cL_law 600 = .ok (.iconst 1, 1) := by decide +kernel
theorem dL_law_601 : decode cL_law 601 = .ok (.iadd, 1) := by decide +kernel
theorem dL_law_602 : decode cL_law 602 = .ok (.iaload, 1) := by decide +kernel
theorem dL_law_603 : decode cL_law 603 = .ok (.aload_n 0, 1) := by decide +kernel
theorem dL_law_604 : decode cL_law 604 = .ok (.iload 5, 2) := by decide +kernel
theorem dL_law_606 : decode cL_law 606 = .ok (.iconst 2, 1) := by decide +kernel
theorem dL_law_607 : decode cL_law 607 = .ok (.iadd, 1) := by decide +kernel
theorem dL_law_608 : decode cL_law 608 = .ok (.iaload, 1) := by decide +kernel
theorem dL_law_609 : decode cL_law 609 = .ok (.invokevirtual 231, 3) := by decide +kernel
theorem dL_law_612 : decode cL_law 612 = .ok (.istore 7, 2) := by decide +kernel
theorem dL_law_614 : decode cL_law 614 = .ok (.aload_n 2, 1) := by decide +kernel
theorem dL_law_615 : decode cL_law 615 = .ok (.invokevirtual 222, 3) := by decide +kernel
theorem dL_law_618 : decode cL_law 618 = .ok (.iload 6, 2) := by decide +kernel
theorem dL_law_620 : decode cL_law 620 = .ok (.if_icmp .eq 5, 3) := by decide +kernel
theorem dL_law_623 : decode cL_law 623 = .ok (.iconst 0, 1) := by decide +kernel
theorem dL_law_624 : decode cL_law 624 = .ok (.ireturn, 1) := by decide +kernel
theorem dL_law_625 : decode cL_law 625 = .ok (.iload 6, 2) := by decide +kernel
theorem dL_law_627 : decode cL_law 627 = .ok (.ifCond .ne 15, 3) := by decide +kernel
theorem dL_law_630 : decode cL_law 630 = .ok (.aload_n 3, 1) := by decide +kernel
theorem dL_law_631 : decode cL_law 631 = .ok (.iconst 0, 1) := by decide +kernel
theorem dL_law_632 : decode cL_law 632 = .ok (.laload, 1) := by decide +kernel
theorem dL_law_633 : decode cL_law 633 = .ok (.iload 7, 2) := by decide +kernel
theorem dL_law_635 : decode cL_law 635 = .ok (.i2l, 1) := by decide +kernel
theorem dL_law_636 : decode cL_law 636 = .ok (.lcmp, 1) := by decide +kernel
theorem dL_law_637 : decode cL_law 637 = .ok (.ifCond .eq 5, 3) := by decide +kernel
theorem dL_law_640 : decode cL_law 640 = .ok (.iconst 0, 1) := by decide +kernel
theorem dL_law_641 : decode cL_law 641 = .ok (.ireturn, 1) := by decide +kernel
theorem dL_law_642 : decode cL_law 642 = .ok (.goto 3485, 3) := by decide +kernel
theorem dL_law_645 : decode cL_law 645 = .ok (.aload_n 1, 1) := by decide +kernel
theorem dL_law_646 : decode cL_law 646 = .ok (.aload_n 0, 1) := by decide +kernel
theorem dL_law_647 : decode cL_law 647 = .ok (.iload 5, 2) := by decide +kernel
theorem dL_law_649 : decode cL_law 649 = .ok (.iconst 1, 1) := by decide +kernel
theorem dL_law_650 : decode cL_law 650 = .ok (.iadd, 1) := by decide +kernel
theorem dL_law_651 : decode cL_law 651 = .ok (.iaload, 1) := by decide +kernel
theorem dL_law_652 : decode cL_law 652 = .ok (.aload_n 0, 1) := by decide +kernel
theorem dL_law_653 : decode cL_law 653 = .ok (.iload 5, 2) := by decide +kernel
theorem dL_law_655 : decode cL_law 655 = .ok (.iconst 2, 1) := by decide +kernel
theorem dL_law_656 : decode cL_law 656 = .ok (.iadd, 1) := by decide +kernel
theorem dL_law_657 : decode cL_law 657 = .ok (.iaload, 1) := by decide +kernel
theorem dL_law_658 : decode cL_law 658 = .ok (.aload_n 3, 1) := by decide +kernel
theorem dL_law_659 : decode cL_law 659 = .ok (.invokestatic 232, 3) := by decide +kernel
theorem dL_law_662 : decode cL_law 662 = .ok (.istore 6, 2) := by decide +kernel
theorem dL_law_664 : decode cL_law 664 = .ok (.aload_n 2, 1) := by decide +kernel
theorem dL_law_665 : decode cL_law 665 = .ok (.aload_n 0, 1) := by decide +kernel
theorem dL_law_666 : decode cL_law 666 = .ok (.iload 5, 2) := by decide +kernel
theorem dL_law_668 : decode cL_law 668 = .ok (.iconst 1, 1) := by decide +kernel
theorem dL_law_669 : decode cL_law 669 = .ok (.iadd, 1) := by decide +kernel
theorem dL_law_670 : decode cL_law 670 = .ok (.iaload, 1) := by decide +kernel
theorem dL_law_671 : decode cL_law 671 = .ok (.aload_n 0, 1) := by decide +kernel
theorem dL_law_672 : decode cL_law 672 = .ok (.iload 5, 2) := by decide +kernel
theorem dL_law_674 : decode cL_law 674 = .ok (.iconst 2, 1) := by decide +kernel
theorem dL_law_675 : decode cL_law 675 = .ok (.iadd, 1) := by decide +kernel
theorem dL_law_676 : decode cL_law 676 = .ok (.iaload, 1) := by decide +kernel
theorem dL_law_677 : decode cL_law 677 = .ok (.invokevirtual 234, 3) := by decide +kernel
theorem dL_law_680 : decode cL_law 680 = .ok (.istore 7, 2) := by decide +kernel
theorem dL_law_682 : decode cL_law 682 = .ok (.aload_n 2, 1) := by decide +kernel
theorem dL_law_683 : decode cL_law 683 = .ok (.invokevirtual 222, 3) := by decide +kernel
theorem dL_law_686 : decode cL_law 686 = .ok (.iload 6, 2) := by decide +kernel
theorem dL_law_688 : decode cL_law 688 = .ok (.if_icmp .eq 5, 3) := by decide +kernel
theorem dL_law_691 : decode cL_law 691 = .ok (.iconst 0, 1) := by decide +kernel
theorem dL_law_692 : decode cL_law 692 = .ok (.ireturn, 1) := by decide +kernel
theorem dL_law_693 : decode cL_law 693 = .ok (.iload 6, 2) := by decide +kernel
theorem dL_law_695 : decode cL_law 695 = .ok (.ifCond .ne 15, 3) := by decide +kernel
theorem dL_law_698 : decode cL_law 698 = .ok (.aload_n 3, 1) := by decide +kernel
theorem dL_law_699 : decode cL_law 699 = .ok (.iconst 0, 1) := by decide +kernel
theorem dL_law_700 : decode cL_law 700 = .ok (.laload, 1) := by decide +kernel
theorem dL_law_701 : decode cL_law 701 = .ok (.iload 7, 2) := by decide +kernel
theorem dL_law_703 : decode cL_law 703 = .ok (.i2l, 1) := by decide +kernel
theorem dL_law_704 : decode cL_law 704 = .ok (.lcmp, 1) := by decide +kernel
theorem dL_law_705 : decode cL_law 705 = .ok (.ifCond .eq 5, 3) := by decide +kernel
theorem dL_law_708 : decode cL_law 708 = .ok (.iconst 0, 1) := by decide +kernel
theorem dL_law_709 : decode cL_law 709 = .ok (.ireturn, 1) := by decide +kernel
theorem dL_law_710 : decode cL_law 710 = .ok (.goto 3417, 3) := by decide +kernel
theorem dL_law_713 : decode cL_law 713 = .ok (.aload_n 1, 1) := by decide +kernel
theorem dL_law_714 : decode cL_law 714 = .ok (.aload_n 0, 1) := by decide +kernel
theorem dL_law_715 : decode cL_law 715 = .ok (.iload 5, 2) := by decide +kernel
theorem dL_law_717 : decode cL_law 717 = .ok (.iconst 1, 1) := by decide +kernel
theorem dL_law_718 : decode cL_law 718 = .ok (.iadd, 1) := by decide +kernel
theorem dL_law_719 : decode cL_law 719 = .ok (.iaload, 1) := by decide +kernel
theorem dL_law_720 : decode cL_law 720 = .ok (.aload_n 0, 1) := by decide +kernel
theorem dL_law_721 : decode cL_law 721 = .ok (.iload 5, 2) := by decide +kernel
theorem dL_law_723 : decode cL_law 723 = .ok (.iconst 2, 1) := by decide +kernel
theorem dL_law_724 : decode cL_law 724 = .ok (.iadd, 1) := by decide +kernel
theorem dL_law_725 : decode cL_law 725 = .ok (.iaload, 1) := by decide +kernel
theorem dL_law_726 : decode cL_law 726 = .ok (.aload_n 3, 1) := by decide +kernel
theorem dL_law_727 : decode cL_law 727 = .ok (.invokestatic 235, 3) := by decide +kernel
theorem dL_law_730 : decode cL_law 730 = .ok (.istore 6, 2) := by decide +kernel
theorem dL_law_732 : decode cL_law 732 = .ok (.aload_n 2, 1) := by decide +kernel
theorem dL_law_733 : decode cL_law 733 = .ok (.aload_n 0, 1) := by decide +kernel
theorem dL_law_734 : decode cL_law 734 = .ok (.iload 5, 2) := by decide +kernel
theorem dL_law_736 : decode cL_law 736 = .ok (.iconst 1, 1) := by decide +kernel
theorem dL_law_737 : decode cL_law 737 = .ok (.iadd, 1) := by decide +kernel
theorem dL_law_738 : decode cL_law 738 = .ok (.iaload, 1) := by decide +kernel
theorem dL_law_739 : decode cL_law 739 = .ok (.aload_n 0, 1) := by decide +kernel
theorem dL_law_740 : decode cL_law 740 = .ok (.iload 5, 2) := by decide +kernel
theorem dL_law_742 : decode cL_law 742 = .ok (.iconst 2, 1) := by decide +kernel
theorem dL_law_743 : decode cL_law 743 = .ok (.iadd, 1) := by decide +kernel
theorem dL_law_744 : decode cL_law 744 = .ok (.iaload, 1) := by decide +kernel
theorem dL_law_745 : decode cL_law 745 = .ok (.invokevirtual 237, 3) := by decide +kernel
theorem dL_law_748 : decode cL_law 748 = .ok (.istore 7, 2) := by decide +kernel
theorem dL_law_750 : decode cL_law 750 = .ok (.aload_n 2, 1) := by decide +kernel
theorem dL_law_751 : decode cL_law 751 = .ok (.invokevirtual 222, 3) := by decide +kernel
theorem dL_law_754 : decode cL_law 754 = .ok (.iload 6, 2) := by decide +kernel
theorem dL_law_756 : decode cL_law 756 = .ok (.if_icmp .eq 5, 3) := by decide +kernel
theorem dL_law_759 : decode cL_law 759 = .ok (.iconst 0, 1) := by decide +kernel
theorem dL_law_760 : decode cL_law 760 = .ok (.ireturn, 1) := by decide +kernel
theorem dL_law_761 : decode cL_law 761 = .ok (.iload 6, 2) := by decide +kernel
theorem dL_law_763 : decode cL_law 763 = .ok (.ifCond .ne 15, 3) := by decide +kernel
theorem dL_law_766 : decode cL_law 766 = .ok (.aload_n 3, 1) := by decide +kernel
theorem dL_law_767 : decode cL_law 767 = .ok (.iconst 0, 1) := by decide +kernel
theorem dL_law_768 : decode cL_law 768 = .ok (.laload, 1) := by decide +kernel
theorem dL_law_769 : decode cL_law 769 = .ok (.iload 7, 2) := by decide +kernel
theorem dL_law_771 : decode cL_law 771 = .ok (.i2l, 1) := by decide +kernel
theorem dL_law_772 : decode cL_law 772 = .ok (.lcmp, 1) := by decide +kernel
theorem dL_law_773 : decode cL_law 773 = .ok (.ifCond .eq 5, 3) := by decide +kernel
theorem dL_law_776 : decode cL_law 776 = .ok (.iconst 0, 1) := by decide +kernel
theorem dL_law_777 : decode cL_law 777 = .ok (.ireturn, 1) := by decide +kernel
theorem dL_law_778 : decode cL_law 778 = .ok (.goto 3349, 3) := by decide +kernel
theorem dL_law_781 : decode cL_law 781 = .ok (.aload_n 1, 1) := by decide +kernel
theorem dL_law_782 : decode cL_law 782 = .ok (.aload_n 0, 1) := by decide +kernel
theorem dL_law_783 : decode cL_law 783 = .ok (.iload 5, 2) := by decide +kernel
theorem dL_law_785 : decode cL_law 785 = .ok (.iconst 1, 1) := by decide +kernel
theorem dL_law_786 : decode cL_law 786 = .ok (.iadd, 1) := by decide +kernel
theorem dL_law_787 : decode cL_law 787 = .ok (.iaload, 1) := by decide +kernel
theorem dL_law_788 : decode cL_law 788 = .ok (.aload_n 0, 1) := by decide +kernel
theorem dL_law_789 : decode cL_law 789 = .ok (.iload 5, 2) := by decide +kernel
theorem dL_law_791 : decode cL_law 791 = .ok (.iconst 2, 1) := by decide +kernel
theorem dL_law_792 : decode cL_law 792 = .ok (.iadd, 1) := by decide +kernel
theorem dL_law_793 : decode cL_law 793 = .ok (.iaload, 1) := by decide +kernel
theorem dL_law_794 : decode cL_law 794 = .ok (.aload_n 3, 1) := by decide +kernel
theorem dL_law_795 : decode cL_law 795 = .ok (.invokestatic 238, 3) := by decide +kernel
theorem dL_law_798 : decode cL_law 798 = .ok (.istore 6, 2) := by decide +kernel
theorem dL_law_800 : decode cL_law 800 = .ok (.aload_n 2, 1) := by decide +kernel
theorem dL_law_801 : decode cL_law 801 = .ok (.aload_n 0, 1) := by decide +kernel
theorem dL_law_802 : decode cL_law 802 = .ok (.iload 5, 2) := by decide +kernel
theorem dL_law_804 : decode cL_law 804 = .ok (.iconst 1, 1) := by decide +kernel
theorem dL_law_805 : decode cL_law 805 = .ok (.iadd, 1) := by decide +kernel
theorem dL_law_806 : decode cL_law 806 = .ok (.iaload, 1) := by decide +kernel
theorem dL_law_807 : decode cL_law 807 = .ok (.aload_n 0, 1) := by decide +kernel
theorem dL_law_808 : decode cL_law 808 = .ok (.iload 5, 2) := by decide +kernel
theorem dL_law_810 : decode cL_law 810 = .ok (.iconst 2, 1) := by decide +kernel
theorem dL_law_811 : decode cL_law 811 = .ok (.iadd, 1) := by decide +kernel
theorem dL_law_812 : decode cL_law 812 = .ok (.iaload, 1) := by decide +kernel
theorem dL_law_813 : decode cL_law 813 = .ok (.invokevirtual 240, 3) := by decide +kernel
theorem dL_law_816 : decode cL_law 816 = .ok (.istore 7, 2) := by decide +kernel
theorem dL_law_818 : decode cL_law 818 = .ok (.aload_n 2, 1) := by decide +kernel
theorem dL_law_819 : decode cL_law 819 = .ok (.invokevirtual 222, 3) := by decide +kernel
theorem dL_law_822 : decode cL_law 822 = .ok (.iload 6, 2) := by decide +kernel
theorem dL_law_824 : decode cL_law 824 = .ok (.if_icmp .eq 5, 3) := by decide +kernel
theorem dL_law_827 : decode cL_law 827 = .ok (.iconst 0, 1) := by decide +kernel
theorem dL_law_828 : decode cL_law 828 = .ok (.ireturn, 1) := by decide +kernel
theorem dL_law_829 : decode cL_law 829 = .ok (.iload 6, 2) := by decide +kernel
theorem dL_law_831 : decode cL_law 831 = .ok (.ifCond .ne 15, 3) := by decide +kernel
theorem dL_law_834 : decode cL_law 834 = .ok (.aload_n 3, 1) := by decide +kernel
theorem dL_law_835 : decode cL_law 835 = .ok (.iconst 0, 1) := by decide +kernel
theorem dL_law_836 : decode cL_law 836 = .ok (.laload, 1) := by decide +kernel
theorem dL_law_837 : decode cL_law 837 = .ok (.iload 7, 2) := by decide +kernel
theorem dL_law_839 : decode cL_law 839 = .ok (.i2l, 1) := by decide +kernel
theorem dL_law_840 : decode cL_law 840 = .ok (.lcmp, 1) := by decide +kernel
theorem dL_law_841 : decode cL_law 841 = .ok (.ifCond .eq 5, 3) := by decide +kernel
theorem dL_law_844 : decode cL_law 844 = .ok (.iconst 0, 1) := by decide +kernel
theorem dL_law_845 : decode cL_law 845 = .ok (.ireturn, 1) := by decide +kernel
theorem dL_law_846 : decode cL_law 846 = .ok (.goto 3281, 3) := by decide +kernel
theorem dL_law_849 : decode cL_law 849 = .ok (.aload_n 1, 1) := by decide +kernel
theorem dL_law_850 : decode cL_law 850 = .ok (.aload_n 0, 1) := by decide +kernel
theorem dL_law_851 : decode cL_law 851 = .ok (.iload 5, 2) := by decide +kernel
theorem dL_law_853 : decode cL_law 853 = .ok (.iconst 1, 1) := by decide +kernel
theorem dL_law_854 : decode cL_law 854 = .ok (.iadd, 1) := by decide +kernel
theorem dL_law_855 : decode cL_law 855 = .ok (.iaload, 1) := by decide +kernel
theorem dL_law_856 : decode cL_law 856 = .ok (.aload_n 3, 1) := by decide +kernel
theorem dL_law_857 : decode cL_law 857 = .ok (.invokestatic 241, 3) := by decide +kernel
theorem dL_law_860 : decode cL_law 860 = .ok (.istore 6, 2) := by decide +kernel
theorem dL_law_862 : decode cL_law 862 = .ok (.aload_n 2, 1) := by decide +kernel
theorem dL_law_863 : decode cL_law 863 = .ok (.aload_n 0, 1) := by decide +kernel
theorem dL_law_864 : decode cL_law 864 = .ok (.iload 5, 2) := by decide +kernel
theorem dL_law_866 : decode cL_law 866 = .ok (.iconst 1, 1) := by decide +kernel
theorem dL_law_867 : decode cL_law 867 = .ok (.iadd, 1) := by decide +kernel
theorem dL_law_868 : decode cL_law 868 = .ok (.iaload, 1) := by decide +kernel
theorem dL_law_869 : decode cL_law 869 = .ok (.invokevirtual 243, 3) := by decide +kernel
theorem dL_law_872 : decode cL_law 872 = .ok (.istore 7, 2) := by decide +kernel
theorem dL_law_874 : decode cL_law 874 = .ok (.aload_n 2, 1) := by decide +kernel
theorem dL_law_875 : decode cL_law 875 = .ok (.invokevirtual 222, 3) := by decide +kernel
theorem dL_law_878 : decode cL_law 878 = .ok (.iload 6, 2) := by decide +kernel
theorem dL_law_880 : decode cL_law 880 = .ok (.if_icmp .eq 5, 3) := by decide +kernel
theorem dL_law_883 : decode cL_law 883 = .ok (.iconst 0, 1) := by decide +kernel
theorem dL_law_884 : decode cL_law 884 = .ok (.ireturn, 1) := by decide +kernel
theorem dL_law_885 : decode cL_law 885 = .ok (.iload 6, 2) := by decide +kernel
theorem dL_law_887 : decode cL_law 887 = .ok (.ifCond .ne 15, 3) := by decide +kernel
theorem dL_law_890 : decode cL_law 890 = .ok (.aload_n 3, 1) := by decide +kernel
theorem dL_law_891 : decode cL_law 891 = .ok (.iconst 0, 1) := by decide +kernel
theorem dL_law_892 : decode cL_law 892 = .ok (.laload, 1) := by decide +kernel
theorem dL_law_893 : decode cL_law 893 = .ok (.iload 7, 2) := by decide +kernel
theorem dL_law_895 : decode cL_law 895 = .ok (.i2l, 1) := by decide +kernel
theorem dL_law_896 : decode cL_law 896 = .ok (.lcmp, 1) := by decide +kernel
theorem dL_law_897 : decode cL_law 897 = .ok (.ifCond .eq 5, 3) := by decide +kernel
theorem dL_law_900 : decode cL_law 900 = .ok (.iconst 0, 1) := by decide +kernel
theorem dL_law_901 : decode cL_law 901 = .ok (.ireturn, 1) := by decide +kernel
theorem dL_law_902 : decode cL_law 902 = .ok (.goto 3225, 3) := by decide +kernel
theorem dL_law_905 : decode cL_law 905 = .ok (.aload_n 1, 1) := by decide +kernel
theorem dL_law_906 : decode cL_law 906 = .ok (.aload_n 0, 1) := by decide +kernel
theorem dL_law_907 : decode cL_law 907 = .ok (.iload 5, 2) := by decide +kernel
theorem dL_law_909 : decode cL_law 909 = .ok (.iconst 1, 1) := by decide +kernel
theorem dL_law_910 : decode cL_law 910 = .ok (.iadd, 1) := by decide +kernel
theorem dL_law_911 : decode cL_law 911 = .ok (.iaload, 1) := by decide +kernel
theorem dL_law_912 : decode cL_law 912 = .ok (.aload_n 3, 1) := by decide +kernel
theorem dL_law_913 : decode cL_law 913 = .ok (.invokestatic 244, 3) := by decide +kernel
theorem dL_law_916 : decode cL_law 916 = .ok (.istore 6, 2) := by decide +kernel
theorem dL_law_918 : decode cL_law 918 = .ok (.aload_n 2, 1) := by decide +kernel
theorem dL_law_919 : decode cL_law 919 = .ok (.aload_n 0, 1) := by decide +kernel
theorem dL_law_920 : decode cL_law 920 = .ok (.iload 5, 2) := by decide +kernel
theorem dL_law_922 : decode cL_law 922 = .ok (.iconst 1, 1) := by decide +kernel
theorem dL_law_923 : decode cL_law 923 = .ok (.iadd, 1) := by decide +kernel
theorem dL_law_924 : decode cL_law 924 = .ok (.iaload, 1) := by decide +kernel
theorem dL_law_925 : decode cL_law 925 = .ok (.invokevirtual 246, 3) := by decide +kernel
theorem dL_law_928 : decode cL_law 928 = .ok (.istore 7, 2) := by decide +kernel
theorem dL_law_930 : decode cL_law 930 = .ok (.aload_n 2, 1) := by decide +kernel
theorem dL_law_931 : decode cL_law 931 = .ok (.invokevirtual 222, 3) := by decide +kernel
theorem dL_law_934 : decode cL_law 934 = .ok (.iload 6, 2) := by decide +kernel
theorem dL_law_936 : decode cL_law 936 = .ok (.if_icmp .eq 5, 3) := by decide +kernel
theorem dL_law_939 : decode cL_law 939 = .ok (.iconst 0, 1) := by decide +kernel
theorem dL_law_940 : decode cL_law 940 = .ok (.ireturn, 1) := by decide +kernel
theorem dL_law_941 : decode cL_law 941 = .ok (.iload 6, 2) := by decide +kernel
theorem dL_law_943 : decode cL_law 943 = .ok (.ifCond .ne 15, 3) := by decide +kernel
theorem dL_law_946 : decode cL_law 946 = .ok (.aload_n 3, 1) := by decide +kernel
theorem dL_law_947 : decode cL_law 947 = .ok (.iconst 0, 1) := by decide +kernel
theorem dL_law_948 : decode cL_law 948 = .ok (.laload, 1) := by decide +kernel
theorem dL_law_949 : decode cL_law 949 = .ok (.iload 7, 2) := by decide +kernel
theorem dL_law_951 : decode cL_law 951 = .ok (.i2l, 1) := by decide +kernel
theorem dL_law_952 : decode cL_law 952 = .ok (.lcmp, 1) := by decide +kernel
theorem dL_law_953 : decode cL_law 953 = .ok (.ifCond .eq 5, 3) := by decide +kernel
theorem dL_law_956 : decode cL_law 956 = .ok (.iconst 0, 1) := by decide +kernel
theorem dL_law_957 : decode cL_law 957 = .ok (.ireturn, 1) := by decide +kernel
theorem dL_law_958 : decode cL_law 958 = .ok (.goto 3169, 3) := by decide +kernel
theorem dL_law_961 : decode cL_law 961 = .ok (.aload_n 1, 1) := by decide +kernel
theorem dL_law_962 : decode cL_law 962 = .ok (.aload_n 0, 1) := by decide +kernel
theorem dL_law_963 : decode cL_law 963 = .ok (.iload 5, 2) := by decide +kernel
theorem dL_law_965 : decode cL_law 965 = .ok (.iconst 1, 1) := by decide +kernel
theorem dL_law_966 : decode cL_law 966 = .ok (.iadd, 1) := by decide +kernel
theorem dL_law_967 : decode cL_law 967 = .ok (.iaload, 1) := by decide +kernel
theorem dL_law_968 : decode cL_law 968 = .ok (.aload_n 3, 1) := by decide +kernel
theorem dL_law_969 : decode cL_law 969 = .ok (.invokestatic 247, 3) := by decide +kernel
theorem dL_law_972 : decode cL_law 972 = .ok (.istore 6, 2) := by decide +kernel
theorem dL_law_974 : decode cL_law 974 = .ok (.aload_n 2, 1) := by decide +kernel
theorem dL_law_975 : decode cL_law 975 = .ok (.aload_n 0, 1) := by decide +kernel
theorem dL_law_976 : decode cL_law 976 = .ok (.iload 5, 2) := by decide +kernel
theorem dL_law_978 : decode cL_law 978 = .ok (.iconst 1, 1) := by decide +kernel
theorem dL_law_979 : decode cL_law 979 = .ok (.iadd, 1) := by decide +kernel
theorem dL_law_980 : decode cL_law 980 = .ok (.iaload, 1) := by decide +kernel
theorem dL_law_981 : decode cL_law 981 = .ok (.invokevirtual 249, 3) := by decide +kernel
theorem dL_law_984 : decode cL_law 984 = .ok (.istore 7, 2) := by decide +kernel
theorem dL_law_986 : decode cL_law 986 = .ok (.aload_n 2, 1) := by decide +kernel
theorem dL_law_987 : decode cL_law 987 = .ok (.invokevirtual 222, 3) := by decide +kernel
theorem dL_law_990 : decode cL_law 990 = .ok (.iload 6, 2) := by decide +kernel
theorem dL_law_992 : decode cL_law 992 = .ok (.if_icmp .eq 5, 3) := by decide +kernel
theorem dL_law_995 : decode cL_law 995 = .ok (.iconst 0, 1) := by decide +kernel
theorem dL_law_996 : decode cL_law 996 = .ok (.ireturn, 1) := by decide +kernel
theorem dL_law_997 : decode cL_law 997 = .ok (.iload 6, 2) := by decide +kernel
theorem dL_law_999 : decode cL_law 999 = .ok (.ifCond .ne 15, 3) := by decide +kernel
theorem dL_law_1002 : decode cL_law 1002 = .ok (.aload_n 3, 1) := by decide +kernel
theorem dL_law_1003 : decode cL_law 1003 = .ok (.iconst 0, 1) := by decide +kernel
theorem dL_law_1004 : decode cL_law 1004 = .ok (.laload, 1) := by decide +kernel
theorem dL_law_1005 : decode cL_law 1005 = .ok (.iload 7, 2) := by decide +kernel
theorem dL_law_1007 : decode cL_law 1007 = .ok (.i2l, 1) := by decide +kernel
theorem dL_law_1008 : decode cL_law 1008 = .ok (.lcmp, 1) := by decide +kernel
theorem dL_law_1009 : decode cL_law 1009 = .ok (.ifCond .eq 5, 3) := by decide +kernel
theorem dL_law_1012 : decode cL_law 1012 = .ok (.iconst 0, 1) := by decide +kernel
theorem dL_law_1013 : decode cL_law 1013 = .ok (.ireturn, 1) := by decide +kernel
theorem dL_law_1014 : decode cL_law 1014 = .ok (.goto 3113, 3) := by decide +kernel
theorem dL_law_1017 : decode cL_law 1017 = .ok (.aload_n 1, 1) := by decide +kernel
theorem dL_law_1018 : decode cL_law 1018 = .ok (.aload_n 0, 1) := by decide +kernel
theorem dL_law_1019 : decode cL_law 1019 = .ok (.iload 5, 2) := by decide +kernel
theorem dL_law_1021 : decode cL_law 1021 = .ok (.iconst 1, 1) := by decide +kernel
theorem dL_law_1022 : decode cL_law 1022 = .ok (.iadd, 1) := by decide +kernel
theorem dL_law_1023 : decode cL_law 1023 = .ok (.iaload, 1) := by decide +kernel
theorem dL_law_1024 : decode cL_law 1024 = .ok (.aload 4, 2) := by decide +kernel
theorem dL_law_1026 : decode cL_law 1026 = .ok (.invokestatic 250, 3) := by decide +kernel
theorem dL_law_1029 : decode cL_law 1029 = .ok (.istore 6, 2) := by decide +kernel
theorem dL_law_1031 : decode cL_law 1031 = .ok (.aload_n 2, 1) := by decide +kernel
theorem dL_law_1032 : decode cL_law 1032 = .ok (.aload_n 0, 1) := by decide +kernel
theorem dL_law_1033 : decode cL_law 1033 = .ok (.iload 5, 2) := by decide +kernel
theorem dL_law_1035 : decode cL_law 1035 = .ok (.iconst 1, 1) := by decide +kernel
theorem dL_law_1036 : decode cL_law 1036 = .ok (.iadd, 1) := by decide +kernel
theorem dL_law_1037 : decode cL_law 1037 = .ok (.iaload, 1) := by decide +kernel
theorem dL_law_1038 : decode cL_law 1038 = .ok (.invokevirtual 253, 3) := by decide +kernel
theorem dL_law_1041 : decode cL_law 1041 = .ok (.dstore 7, 2) := by decide +kernel
theorem dL_law_1043 : decode cL_law 1043 = .ok (.aload_n 2, 1) := by decide +kernel
theorem dL_law_1044 : decode cL_law 1044 = .ok (.invokevirtual 222, 3) := by decide +kernel
theorem dL_law_1047 : decode cL_law 1047 = .ok (.iload 6, 2) := by decide +kernel
theorem dL_law_1049 : decode cL_law 1049 = .ok (.if_icmp .eq 5, 3) := by decide +kernel
theorem dL_law_1052 : decode cL_law 1052 = .ok (.iconst 0, 1) := by decide +kernel
theorem dL_law_1053 : decode cL_law 1053 = .ok (.ireturn, 1) := by decide +kernel
theorem dL_law_1054 : decode cL_law 1054 = .ok (.iload 6, 2) := by decide +kernel
theorem dL_law_1056 : decode cL_law 1056 = .ok (.ifCond .ne 35, 3) := by decide +kernel
theorem dL_law_1059 : decode cL_law 1059 = .ok (.aload 4, 2) := by decide +kernel
theorem dL_law_1061 : decode cL_law 1061 = .ok (.iconst 0, 1) := by decide +kernel
theorem dL_law_1062 : decode cL_law 1062 = .ok (.daload, 1) := by decide +kernel
theorem dL_law_1063 : decode cL_law 1063 = .ok (.dload 7, 2) := by decide +kernel
theorem dL_law_1065 : decode cL_law 1065 = .ok (.dcmp .l, 1) := by decide +kernel
theorem dL_law_1066 : decode cL_law 1066 = .ok (.ifCond .eq 25, 3) := by decide +kernel
theorem dL_law_1069 : decode cL_law 1069 = .ok (.aload 4, 2) := by decide +kernel
theorem dL_law_1071 : decode cL_law 1071 = .ok (.iconst 0, 1) := by decide +kernel
theorem dL_law_1072 : decode cL_law 1072 = .ok (.daload, 1) := by decide +kernel
theorem dL_law_1073 : decode cL_law 1073 = .ok (.aload 4, 2) := by decide +kernel
theorem dL_law_1075 : decode cL_law 1075 = .ok (.iconst 0, 1) := by decide +kernel
theorem dL_law_1076 : decode cL_law 1076 = .ok (.daload, 1) := by decide +kernel
theorem dL_law_1077 : decode cL_law 1077 = .ok (.dcmp .l, 1) := by decide +kernel
theorem dL_law_1078 : decode cL_law 1078 = .ok (.ifCond .eq 11, 3) := by decide +kernel
theorem dL_law_1081 : decode cL_law 1081 = .ok (.dload 7, 2) := by decide +kernel
theorem dL_law_1083 : decode cL_law 1083 = .ok (.dload 7, 2) := by decide +kernel
theorem dL_law_1085 : decode cL_law 1085 = .ok (.dcmp .l, 1) := by decide +kernel
theorem dL_law_1086 : decode cL_law 1086 = .ok (.ifCond .ne 5, 3) := by decide +kernel
theorem dL_law_1089 : decode cL_law 1089 = .ok (.iconst 0, 1) := by decide +kernel
theorem dL_law_1090 : decode cL_law 1090 = .ok (.ireturn, 1) := by decide +kernel
theorem dL_law_1091 : decode cL_law 1091 = .ok (.goto 3036, 3) := by decide +kernel
theorem dL_law_1094 : decode cL_law 1094 = .ok (.aload_n 1, 1) := by decide +kernel
theorem dL_law_1095 : decode cL_law 1095 = .ok (.aload_n 0, 1) := by decide +kernel
theorem dL_law_1096 : decode cL_law 1096 = .ok (.iload 5, 2) := by decide +kernel
theorem dL_law_1098 : decode cL_law 1098 = .ok (.iconst 1, 1) := by decide +kernel
theorem dL_law_1099 : decode cL_law 1099 = .ok (.iadd, 1) := by decide +kernel
theorem dL_law_1100 : decode cL_law 1100 = .ok (.iaload, 1) := by decide +kernel
theorem dL_law_1101 : decode cL_law 1101 = .ok (.aload_n 3, 1) := by decide +kernel
theorem dL_law_1102 : decode cL_law 1102 = .ok (.invokestatic 254, 3) := by decide +kernel
theorem dL_law_1105 : decode cL_law 1105 = .ok (.istore 6, 2) := by decide +kernel
theorem dL_law_1107 : decode cL_law 1107 = .ok (.aload_n 2, 1) := by decide +kernel
theorem dL_law_1108 : decode cL_law 1108 = .ok (.aload_n 0, 1) := by decide +kernel
theorem dL_law_1109 : decode cL_law 1109 = .ok (.iload 5, 2) := by decide +kernel
theorem dL_law_1111 : decode cL_law 1111 = .ok (.iconst 1, 1) := by decide +kernel
theorem dL_law_1112 : decode cL_law 1112 = .ok (.iadd, 1) := by decide +kernel
theorem dL_law_1113 : decode cL_law 1113 = .ok (.iaload, 1) := by decide +kernel
theorem dL_law_1114 : decode cL_law 1114 = .ok (.invokevirtual 256, 3) := by decide +kernel
theorem dL_law_1117 : decode cL_law 1117 = .ok (.istore 7, 2) := by decide +kernel
theorem dL_law_1119 : decode cL_law 1119 = .ok (.aload_n 2, 1) := by decide +kernel
theorem dL_law_1120 : decode cL_law 1120 = .ok (.invokevirtual 222, 3) := by decide +kernel
theorem dL_law_1123 : decode cL_law 1123 = .ok (.iload 6, 2) := by decide +kernel
theorem dL_law_1125 : decode cL_law 1125 = .ok (.if_icmp .eq 5, 3) := by decide +kernel
theorem dL_law_1128 : decode cL_law 1128 = .ok (.iconst 0, 1) := by decide +kernel
theorem dL_law_1129 : decode cL_law 1129 = .ok (.ireturn, 1) := by decide +kernel
theorem dL_law_1130 : decode cL_law 1130 = .ok (.iload 6, 2) := by decide +kernel
theorem dL_law_1132 : decode cL_law 1132 = .ok (.ifCond .ne 15, 3) := by decide +kernel
theorem dL_law_1135 : decode cL_law 1135 = .ok (.aload_n 3, 1) := by decide +kernel
theorem dL_law_1136 : decode cL_law 1136 = .ok (.iconst 0, 1) := by decide +kernel
theorem dL_law_1137 : decode cL_law 1137 = .ok (.laload, 1) := by decide +kernel
theorem dL_law_1138 : decode cL_law 1138 = .ok (.iload 7, 2) := by decide +kernel
theorem dL_law_1140 : decode cL_law 1140 = .ok (.i2l, 1) := by decide +kernel
theorem dL_law_1141 : decode cL_law 1141 = .ok (.lcmp, 1) := by decide +kernel
theorem dL_law_1142 : decode cL_law 1142 = .ok (.ifCond .eq 5, 3) := by decide +kernel
theorem dL_law_1145 : decode cL_law 1145 = .ok (.iconst 0, 1) := by decide +kernel
theorem dL_law_1146 : decode cL_law 1146 = .ok (.ireturn, 1) := by decide +kernel
theorem dL_law_1147 : decode cL_law 1147 = .ok (.goto 2980, 3) := by decide +kernel
theorem dL_law_1150 : decode cL_law 1150 = .ok (.aload_n 1, 1) := by decide +kernel
theorem dL_law_1151 : decode cL_law 1151 = .ok (.aload_n 0, 1) := by decide +kernel
theorem dL_law_1152 : decode cL_law 1152 = .ok (.iload 5, 2) := by decide +kernel
theorem dL_law_1154 : decode cL_law 1154 = .ok (.iconst 1, 1) := by decide +kernel
theorem dL_law_1155 : decode cL_law 1155 = .ok (.iadd, 1) := by decide +kernel
theorem dL_law_1156 : decode cL_law 1156 = .ok (.iaload, 1) := by decide +kernel
theorem dL_law_1157 : decode cL_law 1157 = .ok (.aload_n 0, 1) := by decide +kernel
theorem dL_law_1158 : decode cL_law 1158 = .ok (.iload 5, 2) := by decide +kernel
theorem dL_law_1160 : decode cL_law 1160 = .ok (.iconst 2, 1) := by decide +kernel
theorem dL_law_1161 : decode cL_law 1161 = .ok (.iadd, 1) := by decide +kernel
theorem dL_law_1162 : decode cL_law 1162 = .ok (.iaload, 1) := by decide +kernel
theorem dL_law_1163 : decode cL_law 1163 = .ok (.ifCond .eq 7, 3) := by decide +kernel
theorem dL_law_1166 : decode cL_law 1166 = .ok (.iconst 1, 1) := by decide +kernel
theorem dL_law_1167 : decode cL_law 1167 = .ok (.goto 4, 3) := by decide +kernel
theorem dL_law_1170 : decode cL_law 1170 = .ok (.iconst 0, 1) := by decide +kernel
theorem dL_law_1171 : decode cL_law 1171 = .ok (.aload_n 3, 1) := by decide +kernel
theorem dL_law_1172 : decode cL_law 1172 = .ok (.invokestatic 257, 3) := by decide +kernel
theorem dL_law_1175 : decode cL_law 1175 = .ok (.istore 6, 2) := by decide +kernel
theorem dL_law_1177 : decode cL_law 1177 = .ok (.aload_n 2, 1) := by decide +kernel
theorem dL_law_1178 : decode cL_law 1178 = .ok (.aload_n 0, 1) := by decide +kernel
theorem dL_law_1179 : decode cL_law 1179 = .ok (.iload 5, 2) := by decide +kernel
theorem dL_law_1181 : decode cL_law 1181 = .ok (.iconst 1, 1) := by decide +kernel
theorem dL_law_1182 : decode cL_law 1182 = .ok (.iadd, 1) := by decide +kernel
theorem dL_law_1183 : decode cL_law 1183 = .ok (.iaload, 1) := by decide +kernel
theorem dL_law_1184 : decode cL_law 1184 = .ok (.aload_n 0, 1) := by decide +kernel
theorem dL_law_1185 : decode cL_law 1185 = .ok (.iload 5, 2) := by decide +kernel
theorem dL_law_1187 : decode cL_law 1187 = .ok (.iconst 2, 1) := by decide +kernel
theorem dL_law_1188 : decode cL_law 1188 = .ok (.iadd, 1) := by decide +kernel
theorem dL_law_1189 : decode cL_law 1189 = .ok (.iaload, 1) := by decide +kernel
theorem dL_law_1190 : decode cL_law 1190 = .ok (.ifCond .eq 7, 3) := by decide +kernel
theorem dL_law_1193 : decode cL_law 1193 = .ok (.iconst 1, 1) := by decide +kernel
theorem dL_law_1194 : decode cL_law 1194 = .ok (.goto 4, 3) := by decide +kernel
theorem dL_law_1197 : decode cL_law 1197 = .ok (.iconst 0, 1) := by decide +kernel
theorem dL_law_1198 : decode cL_law 1198 = .ok (.invokevirtual 260, 3) := by decide +kernel
theorem dL_law_1201 : decode cL_law 1201 = .ok (.istore 7, 2) := by decide +kernel
theorem dL_law_1203 : decode cL_law 1203 = .ok (.aload_n 2, 1) := by decide +kernel
theorem dL_law_1204 : decode cL_law 1204 = .ok (.invokevirtual 222, 3) := by decide +kernel
theorem dL_law_1207 : decode cL_law 1207 = .ok (.iload 6, 2) := by decide +kernel
theorem dL_law_1209 : decode cL_law 1209 = .ok (.if_icmp .eq 5, 3) := by decide +kernel
theorem dL_law_1212 : decode cL_law 1212 = .ok (.iconst 0, 1) := by decide +kernel
theorem dL_law_1213 : decode cL_law 1213 = .ok (.ireturn, 1) := by decide +kernel
theorem dL_law_1214 : decode cL_law 1214 = .ok (.iload 6, 2) := by decide +kernel
theorem dL_law_1216 : decode cL_law 1216 = .ok (.ifCond .ne 15, 3) := by decide +kernel
theorem dL_law_1219 : decode cL_law 1219 = .ok (.aload_n 3, 1) := by decide +kernel
theorem dL_law_1220 : decode cL_law 1220 = .ok (.iconst 0, 1) := by decide +kernel
theorem dL_law_1221 : decode cL_law 1221 = .ok (.laload, 1) := by decide +kernel
theorem dL_law_1222 : decode cL_law 1222 = .ok (.iload 7, 2) := by decide +kernel
theorem dL_law_1224 : decode cL_law 1224 = .ok (.i2l, 1) := by decide +kernel
theorem dL_law_1225 : decode cL_law 1225 = .ok (.lcmp, 1) := by decide +kernel
theorem dL_law_1226 : decode cL_law 1226 = .ok (.ifCond .eq 5, 3) := by decide +kernel
theorem dL_law_1229 : decode cL_law 1229 = .ok (.iconst 0, 1) := by decide +kernel
theorem dL_law_1230 : decode cL_law 1230 = .ok (.ireturn, 1) := by decide +kernel
theorem dL_law_1231 : decode cL_law 1231 = .ok (.goto 2896, 3) := by decide +kernel
theorem dL_law_1234 : decode cL_law 1234 = .ok (.aload_n 1, 1) := by decide +kernel
theorem dL_law_1235 : decode cL_law 1235 = .ok (.aload_n 0, 1) := by decide +kernel
theorem dL_law_1236 : decode cL_law 1236 = .ok (.iload 5, 2) := by decide +kernel
theorem dL_law_1238 : decode cL_law 1238 = .ok (.iconst 1, 1) := by decide +kernel
theorem dL_law_1239 : decode cL_law 1239 = .ok (.iadd, 1) := by decide +kernel
theorem dL_law_1240 : decode cL_law 1240 = .ok (.iaload, 1) := by decide +kernel
theorem dL_law_1241 : decode cL_law 1241 = .ok (.aload_n 3, 1) := by decide +kernel
theorem dL_law_1242 : decode cL_law 1242 = .ok (.invokestatic 261, 3) := by decide +kernel
theorem dL_law_1245 : decode cL_law 1245 = .ok (.istore 6, 2) := by decide +kernel
theorem dL_law_1247 : decode cL_law 1247 = .ok (.aload_n 2, 1) := by decide +kernel
theorem dL_law_1248 : decode cL_law 1248 = .ok (.aload_n 0, 1) := by decide +kernel
theorem dL_law_1249 : decode cL_law 1249 = .ok (.iload 5, 2) := by decide +kernel
theorem dL_law_1251 : decode cL_law 1251 = .ok (.iconst 1, 1) := by decide +kernel
theorem dL_law_1252 : decode cL_law 1252 = .ok (.iadd, 1) := by decide +kernel
theorem dL_law_1253 : decode cL_law 1253 = .ok (.iaload, 1) := by decide +kernel
theorem dL_law_1254 : decode cL_law 1254 = .ok (.invokevirtual 263, 3) := by decide +kernel
theorem dL_law_1257 : decode cL_law 1257 = .ok (.lstore 7, 2) := by decide +kernel
theorem dL_law_1259 : decode cL_law 1259 = .ok (.aload_n 2, 1) := by decide +kernel
theorem dL_law_1260 : decode cL_law 1260 = .ok (.invokevirtual 222, 3) := by decide +kernel
theorem dL_law_1263 : decode cL_law 1263 = .ok (.iload 6, 2) := by decide +kernel
theorem dL_law_1265 : decode cL_law 1265 = .ok (.if_icmp .eq 5, 3) := by decide +kernel
theorem dL_law_1268 : decode cL_law 1268 = .ok (.iconst 0, 1) := by decide +kernel
theorem dL_law_1269 : decode cL_law 1269 = .ok (.ireturn, 1) := by decide +kernel
theorem dL_law_1270 : decode cL_law 1270 = .ok (.iload 6, 2) := by decide +kernel
theorem dL_law_1272 : decode cL_law 1272 = .ok (.ifCond .ne 14, 3) := by decide +kernel
theorem dL_law_1275 : decode cL_law 1275 = .ok (.aload_n 3, 1) := by decide +kernel
theorem dL_law_1276 : decode cL_law 1276 = .ok (.iconst 0, 1) := by decide +kernel
theorem dL_law_1277 : decode cL_law 1277 = .ok (.laload, 1) := by decide +kernel
theorem dL_law_1278 : decode cL_law 1278 = .ok (.lload 7, 2) := by decide +kernel
theorem dL_law_1280 : decode cL_law 1280 = .ok (.lcmp, 1) := by decide +kernel
theorem dL_law_1281 : decode cL_law 1281 = .ok (.ifCond .eq 5, 3) := by decide +kernel
theorem dL_law_1284 : decode cL_law 1284 = .ok (.iconst 0, 1) := by decide +kernel
theorem dL_law_1285 : decode cL_law 1285 = .ok (.ireturn, 1) := by decide +kernel
theorem dL_law_1286 : decode cL_law 1286 = .ok (.goto 2841, 3) := by decide +kernel
theorem dL_law_1289 : decode cL_law 1289 = .ok (.aload_n 1, 1) := by decide +kernel
theorem dL_law_1290 : decode cL_law 1290 = .ok (.aload_n 0, 1) := by decide +kernel
theorem dL_law_1291 : decode cL_law 1291 = .ok (.iload 5, 2) := by decide +kernel
theorem dL_law_1293 : decode cL_law 1293 = .ok (.iconst 1, 1) := by decide +kernel
theorem dL_law_1294 : decode cL_law 1294 = .ok (.iadd, 1) := by decide +kernel
theorem dL_law_1295 : decode cL_law 1295 = .ok (.iaload, 1) := by decide +kernel
theorem dL_law_1296 : decode cL_law 1296 = .ok (.aload_n 3, 1) := by decide +kernel
theorem dL_law_1297 : decode cL_law 1297 = .ok (.invokestatic 264, 3) := by decide +kernel
theorem dL_law_1300 : decode cL_law 1300 = .ok (.istore 6, 2) := by decide +kernel
theorem dL_law_1302 : decode cL_law 1302 = .ok (.aload_n 2, 1) := by decide +kernel
theorem dL_law_1303 : decode cL_law 1303 = .ok (.aload_n 0, 1) := by decide +kernel
theorem dL_law_1304 : decode cL_law 1304 = .ok (.iload 5, 2) := by decide +kernel
theorem dL_law_1306 : decode cL_law 1306 = .ok (.iconst 1, 1) := by decide +kernel
theorem dL_law_1307 : decode cL_law 1307 = .ok (.iadd, 1) := by decide +kernel
theorem dL_law_1308 : decode cL_law 1308 = .ok (.iaload, 1) := by decide +kernel
theorem dL_law_1309 : decode cL_law 1309 = .ok (.invokevirtual 266, 3) := by decide +kernel
theorem dL_law_1312 : decode cL_law 1312 = .ok (.lstore 7, 2) := by decide +kernel
theorem dL_law_1314 : decode cL_law 1314 = .ok (.aload_n 2, 1) := by decide +kernel
theorem dL_law_1315 : decode cL_law 1315 = .ok (.invokevirtual 222, 3) := by decide +kernel
theorem dL_law_1318 : decode cL_law 1318 = .ok (.iload 6, 2) := by decide +kernel
theorem dL_law_1320 : decode cL_law 1320 = .ok (.if_icmp .eq 5, 3) := by decide +kernel
theorem dL_law_1323 : decode cL_law 1323 = .ok (.iconst 0, 1) := by decide +kernel
theorem dL_law_1324 : decode cL_law 1324 = .ok (.ireturn, 1) := by decide +kernel
theorem dL_law_1325 : decode cL_law 1325 = .ok (.iload 6, 2) := by decide +kernel
theorem dL_law_1327 : decode cL_law 1327 = .ok (.ifCond .ne 14, 3) := by decide +kernel
theorem dL_law_1330 : decode cL_law 1330 = .ok (.aload_n 3, 1) := by decide +kernel
theorem dL_law_1331 : decode cL_law 1331 = .ok (.iconst 0, 1) := by decide +kernel
theorem dL_law_1332 : decode cL_law 1332 = .ok (.laload, 1) := by decide +kernel
theorem dL_law_1333 : decode cL_law 1333 = .ok (.lload 7, 2) := by decide +kernel
theorem dL_law_1335 : decode cL_law 1335 = .ok (.lcmp, 1) := by decide +kernel
theorem dL_law_1336 : decode cL_law 1336 = .ok (.ifCond .eq 5, 3) := by decide +kernel
theorem dL_law_1339 : decode cL_law 1339 = .ok (.iconst 0, 1) := by decide +kernel
theorem dL_law_1340 : decode cL_law 1340 = .ok (.ireturn, 1) := by decide +kernel
theorem dL_law_1341 : decode cL_law 1341 = .ok (.goto 2786, 3) := by decide +kernel
theorem dL_law_1344 : decode cL_law 1344 = .ok (.aload_n 1, 1) := by decide +kernel
theorem dL_law_1345 : decode cL_law 1345 = .ok (.aload_n 0, 1) := by decide +kernel
theorem dL_law_1346 : decode cL_law 1346 = .ok (.iload 5, 2) := by decide +kernel
theorem dL_law_1348 : decode cL_law 1348 = .ok (.iconst 1, 1) := by decide +kernel
theorem dL_law_1349 : decode cL_law 1349 = .ok (.iadd, 1) := by decide +kernel
theorem dL_law_1350 : decode cL_law 1350 = .ok (.iaload, 1) := by decide +kernel
theorem dL_law_1351 : decode cL_law 1351 = .ok (.aload_n 3, 1) := by decide +kernel
theorem dL_law_1352 : decode cL_law 1352 = .ok (.invokestatic 267, 3) := by decide +kernel
theorem dL_law_1355 : decode cL_law 1355 = .ok (.istore 6, 2) := by decide +kernel
theorem dL_law_1357 : decode cL_law 1357 = .ok (.aload_n 2, 1) := by decide +kernel
theorem dL_law_1358 : decode cL_law 1358 = .ok (.aload_n 0, 1) := by decide +kernel
theorem dL_law_1359 : decode cL_law 1359 = .ok (.iload 5, 2) := by decide +kernel
theorem dL_law_1361 : decode cL_law 1361 = .ok (.iconst 1, 1) := by decide +kernel
theorem dL_law_1362 : decode cL_law 1362 = .ok (.iadd, 1) := by decide +kernel
theorem dL_law_1363 : decode cL_law 1363 = .ok (.iaload, 1) := by decide +kernel
theorem dL_law_1364 : decode cL_law 1364 = .ok (.invokevirtual 269, 3) := by decide +kernel
theorem dL_law_1367 : decode cL_law 1367 = .ok (.lstore 7, 2) := by decide +kernel
theorem dL_law_1369 : decode cL_law 1369 = .ok (.aload_n 2, 1) := by decide +kernel
theorem dL_law_1370 : decode cL_law 1370 = .ok (.invokevirtual 222, 3) := by decide +kernel
theorem dL_law_1373 : decode cL_law 1373 = .ok (.iload 6, 2) := by decide +kernel
theorem dL_law_1375 : decode cL_law 1375 = .ok (.if_icmp .eq 5, 3) := by decide +kernel
theorem dL_law_1378 : decode cL_law 1378 = .ok (.iconst 0, 1) := by decide +kernel
theorem dL_law_1379 : decode cL_law 1379 = .ok (.ireturn, 1) := by decide +kernel
theorem dL_law_1380 : decode cL_law 1380 = .ok (.iload 6, 2) := by decide +kernel
theorem dL_law_1382 : decode cL_law 1382 = .ok (.ifCond .ne 14, 3) := by decide +kernel
theorem dL_law_1385 : decode cL_law 1385 = .ok (.aload_n 3, 1) := by decide +kernel
theorem dL_law_1386 : decode cL_law 1386 = .ok (.iconst 0, 1) := by decide +kernel
theorem dL_law_1387 : decode cL_law 1387 = .ok (.laload, 1) := by decide +kernel
theorem dL_law_1388 : decode cL_law 1388 = .ok (.lload 7, 2) := by decide +kernel
theorem dL_law_1390 : decode cL_law 1390 = .ok (.lcmp, 1) := by decide +kernel
theorem dL_law_1391 : decode cL_law 1391 = .ok (.ifCond .eq 5, 3) := by decide +kernel
theorem dL_law_1394 : decode cL_law 1394 = .ok (.iconst 0, 1) := by decide +kernel
theorem dL_law_1395 : decode cL_law 1395 = .ok (.ireturn, 1) := by decide +kernel
theorem dL_law_1396 : decode cL_law 1396 = .ok (.goto 2731, 3) := by decide +kernel
theorem dL_law_1399 : decode cL_law 1399 = .ok (.aload_n 1, 1) := by decide +kernel
theorem dL_law_1400 : decode cL_law 1400 = .ok (.aload_n 0, 1) := by decide +kernel
theorem dL_law_1401 : decode cL_law 1401 = .ok (.iload 5, 2) := by decide +kernel
theorem dL_law_1403 : decode cL_law 1403 = .ok (.iconst 1, 1) := by decide +kernel
theorem dL_law_1404 : decode cL_law 1404 = .ok (.iadd, 1) := by decide +kernel
theorem dL_law_1405 : decode cL_law 1405 = .ok (.iaload, 1) := by decide +kernel
theorem dL_law_1406 : decode cL_law 1406 = .ok (.aload 4, 2) := by decide +kernel
theorem dL_law_1408 : decode cL_law 1408 = .ok (.invokestatic 270, 3) := by decide +kernel
theorem dL_law_1411 : decode cL_law 1411 = .ok (.istore 6, 2) := by decide +kernel
theorem dL_law_1413 : decode cL_law 1413 = .ok (.aload_n 2, 1) := by decide +kernel
theorem dL_law_1414 : decode cL_law 1414 = .ok (.aload_n 0, 1) := by decide +kernel
theorem dL_law_1415 : decode cL_law 1415 = .ok (.iload 5, 2) := by decide +kernel
theorem dL_law_1417 : decode cL_law 1417 = .ok (.iconst 1, 1) := by decide +kernel
theorem dL_law_1418 : decode cL_law 1418 = .ok (.iadd, 1) := by decide +kernel
theorem dL_law_1419 : decode cL_law 1419 = .ok (.iaload, 1) := by decide +kernel
theorem dL_law_1420 : decode cL_law 1420 = .ok (.invokevirtual 272, 3) := by decide +kernel
theorem dL_law_1423 : decode cL_law 1423 = .ok (.fstore 7, 2) := by decide +kernel
theorem dL_law_1425 : decode cL_law 1425 = .ok (.aload_n 2, 1) := by decide +kernel
theorem dL_law_1426 : decode cL_law 1426 = .ok (.invokevirtual 222, 3) := by decide +kernel
theorem dL_law_1429 : decode cL_law 1429 = .ok (.iload 6, 2) := by decide +kernel
theorem dL_law_1431 : decode cL_law 1431 = .ok (.if_icmp .eq 5, 3) := by decide +kernel
theorem dL_law_1434 : decode cL_law 1434 = .ok (.iconst 0, 1) := by decide +kernel
theorem dL_law_1435 : decode cL_law 1435 = .ok (.ireturn, 1) := by decide +kernel
theorem dL_law_1436 : decode cL_law 1436 = .ok (.iload 6, 2) := by decide +kernel
theorem dL_law_1438 : decode cL_law 1438 = .ok (.ifCond .ne 36, 3) := by decide +kernel
theorem dL_law_1441 : decode cL_law 1441 = .ok (.aload 4, 2) := by decide +kernel
theorem dL_law_1443 : decode cL_law 1443 = .ok (.iconst 0, 1) := by decide +kernel
theorem dL_law_1444 : decode cL_law 1444 = .ok (.daload, 1) := by decide +kernel
theorem dL_law_1445 : decode cL_law 1445 = .ok (.fload 7, 2) := by decide +kernel
theorem dL_law_1447 : decode cL_law 1447 = .ok (.f2d, 1) := by decide +kernel
theorem dL_law_1448 : decode cL_law 1448 = .ok (.dcmp .l, 1) := by decide +kernel
theorem dL_law_1449 : decode cL_law 1449 = .ok (.ifCond .eq 25, 3) := by decide +kernel
theorem dL_law_1452 : decode cL_law 1452 = .ok (.aload 4, 2) := by decide +kernel
theorem dL_law_1454 : decode cL_law 1454 = .ok (.iconst 0, 1) := by decide +kernel
theorem dL_law_1455 : decode cL_law 1455 = .ok (.daload, 1) := by decide +kernel
theorem dL_law_1456 : decode cL_law 1456 = .ok (.aload 4, 2) := by decide +kernel
theorem dL_law_1458 : decode cL_law 1458 = .ok (.iconst 0, 1) := by decide +kernel
theorem dL_law_1459 : decode cL_law 1459 = .ok (.daload, 1) := by decide +kernel
theorem dL_law_1460 : decode cL_law 1460 = .ok (.dcmp .l, 1) := by decide +kernel
theorem dL_law_1461 : decode cL_law 1461 = .ok (.ifCond .eq 11, 3) := by decide +kernel
theorem dL_law_1464 : decode cL_law 1464 = .ok (.fload 7, 2) := by decide +kernel
theorem dL_law_1466 : decode cL_law 1466 = .ok (.fload 7, 2) := by decide +kernel
theorem dL_law_1468 : decode cL_law 1468 = .ok (.fcmp .l, 1) := by decide +kernel
theorem dL_law_1469 : decode cL_law 1469 = .ok (.ifCond .ne 5, 3) := by decide +kernel
theorem dL_law_1472 : decode cL_law 1472 = .ok (.iconst 0, 1) := by decide +kernel
theorem dL_law_1473 : decode cL_law 1473 = .ok (.ireturn, 1) := by decide +kernel
theorem dL_law_1474 : decode cL_law 1474 = .ok (.goto 2653, 3) := by decide +kernel
theorem dL_law_1477 : decode cL_law 1477 = .ok (.aload_n 1, 1) := by decide +kernel
theorem dL_law_1478 : decode cL_law 1478 = .ok (.aload_n 0, 1) := by decide +kernel
theorem dL_law_1479 : decode cL_law 1479 = .ok (.iload 5, 2) := by decide +kernel
theorem dL_law_1481 : decode cL_law 1481 = .ok (.iconst 1, 1) := by decide +kernel
theorem dL_law_1482 : decode cL_law 1482 = .ok (.iadd, 1) := by decide +kernel
theorem dL_law_1483 : decode cL_law 1483 = .ok (.iaload, 1) := by decide +kernel
theorem dL_law_1484 : decode cL_law 1484 = .ok (.aload 4, 2) := by decide +kernel
theorem dL_law_1486 : decode cL_law 1486 = .ok (.invokestatic 273, 3) := by decide +kernel
theorem dL_law_1489 : decode cL_law 1489 = .ok (.istore 6, 2) := by decide +kernel
theorem dL_law_1491 : decode cL_law 1491 = .ok (.aload_n 2, 1) := by decide +kernel
theorem dL_law_1492 : decode cL_law 1492 = .ok (.aload_n 0, 1) := by decide +kernel
theorem dL_law_1493 : decode cL_law 1493 = .ok (.iload 5, 2) := by decide +kernel
theorem dL_law_1495 : decode cL_law 1495 = .ok (.iconst 1, 1) := by decide +kernel
theorem dL_law_1496 : decode cL_law 1496 = .ok (.iadd, 1) := by decide +kernel
theorem dL_law_1497 : decode cL_law 1497 = .ok (.iaload, 1) := by decide +kernel
theorem dL_law_1498 : decode cL_law 1498 = .ok (.invokevirtual 275, 3) := by decide +kernel
theorem dL_law_1501 : decode cL_law 1501 = .ok (.dstore 7, 2) := by decide +kernel
theorem dL_law_1503 : decode cL_law 1503 = .ok (.aload_n 2, 1) := by decide +kernel
theorem dL_law_1504 : decode cL_law 1504 = .ok (.invokevirtual 222, 3) := by decide +kernel
theorem dL_law_1507 : decode cL_law 1507 = .ok (.iload 6, 2) := by decide +kernel
theorem dL_law_1509 : decode cL_law 1509 = .ok (.if_icmp .eq 5, 3) := by decide +kernel
theorem dL_law_1512 : decode cL_law 1512 = .ok (.iconst 0, 1) := by decide +kernel
theorem dL_law_1513 : decode cL_law 1513 = .ok (.ireturn, 1) := by decide +kernel
theorem dL_law_1514 : decode cL_law 1514 = .ok (.iload 6, 2) := by decide +kernel
theorem dL_law_1516 : decode cL_law 1516 = .ok (.ifCond .ne 35, 3) := by decide +kernel
theorem dL_law_1519 : decode cL_law 1519 = .ok (.aload 4, 2) := by decide +kernel
theorem dL_law_1521 : decode cL_law 1521 = .ok (.iconst 0, 1) := by decide +kernel
theorem dL_law_1522 : decode cL_law 1522 = .ok (.daload, 1) := by decide +kernel
theorem dL_law_1523 : decode cL_law 1523 = .ok (.dload 7, 2) := by decide +kernel
theorem dL_law_1525 : decode cL_law 1525 = .ok (.dcmp .l, 1) := by decide +kernel
theorem dL_law_1526 : decode cL_law 1526 = .ok (.ifCond .eq 25, 3) := by decide +kernel
theorem dL_law_1529 : decode cL_law 1529 = .ok (.aload 4, 2) := by decide +kernel
theorem dL_law_1531 : decode cL_law 1531 = .ok (.iconst 0, 1) := by decide +kernel
theorem dL_law_1532 : decode cL_law 1532 = .ok (.daload, 1) := by decide +kernel
theorem dL_law_1533 : decode cL_law 1533 = .ok (.aload 4, 2) := by decide +kernel
theorem dL_law_1535 : decode cL_law 1535 = .ok (.iconst 0, 1) := by decide +kernel
theorem dL_law_1536 : decode cL_law 1536 = .ok (.daload, 1) := by decide +kernel
theorem dL_law_1537 : decode cL_law 1537 = .ok (.dcmp .l, 1) := by decide +kernel
theorem dL_law_1538 : decode cL_law 1538 = .ok (.ifCond .eq 11, 3) := by decide +kernel
theorem dL_law_1541 : decode cL_law 1541 = .ok (.dload 7, 2) := by decide +kernel
theorem dL_law_1543 : decode cL_law 1543 = .ok (.dload 7, 2) := by decide +kernel
theorem dL_law_1545 : decode cL_law 1545 = .ok (.dcmp .l, 1) := by decide +kernel
theorem dL_law_1546 : decode cL_law 1546 = .ok (.ifCond .ne 5, 3) := by decide +kernel
theorem dL_law_1549 : decode cL_law 1549 = .ok (.iconst 0, 1) := by decide +kernel
theorem dL_law_1550 : decode cL_law 1550 = .ok (.ireturn, 1) := by decide +kernel
theorem dL_law_1551 : decode cL_law 1551 = .ok (.goto 2576, 3) := by decide +kernel
theorem dL_law_1554 : decode cL_law 1554 = .ok (.aload_n 1, 1) := by decide +kernel
theorem dL_law_1555 : decode cL_law 1555 = .ok (.aload_n 0, 1) := by decide +kernel
theorem dL_law_1556 : decode cL_law 1556 = .ok (.iload 5, 2) := by decide +kernel
theorem dL_law_1558 : decode cL_law 1558 = .ok (.iconst 1, 1) := by decide +kernel
theorem dL_law_1559 : decode cL_law 1559 = .ok (.iadd, 1) := by decide +kernel
theorem dL_law_1560 : decode cL_law 1560 = .ok (.iaload, 1) := by decide +kernel
theorem dL_law_1561 : decode cL_law 1561 = .ok (.aload_n 3, 1) := by decide +kernel
theorem dL_law_1562 : decode cL_law 1562 = .ok (.invokestatic 276, 3) := by decide +kernel
theorem dL_law_1565 : decode cL_law 1565 = .ok (.istore 6, 2) := by decide +kernel
theorem dL_law_1567 : decode cL_law 1567 = .ok (.aload_n 2, 1) := by decide +kernel
theorem dL_law_1568 : decode cL_law 1568 = .ok (.aload_n 0, 1) := by decide +kernel
theorem dL_law_1569 : decode cL_law 1569 = .ok (.iload 5, 2) := by decide +kernel
theorem dL_law_1571 : decode cL_law 1571 = .ok (.iconst 1, 1) := by decide +kernel
theorem dL_law_1572 : decode cL_law 1572 = .ok (.iadd, 1) := by decide +kernel
theorem dL_law_1573 : decode cL_law 1573 = .ok (.iaload, 1) := by decide +kernel
theorem dL_law_1574 : decode cL_law 1574 = .ok (.invokevirtual 278, 3) := by decide +kernel
theorem dL_law_1577 : decode cL_law 1577 = .ok (.istore 7, 2) := by decide +kernel
theorem dL_law_1579 : decode cL_law 1579 = .ok (.aload_n 2, 1) := by decide +kernel
theorem dL_law_1580 : decode cL_law 1580 = .ok (.invokevirtual 222, 3) := by decide +kernel
theorem dL_law_1583 : decode cL_law 1583 = .ok (.iload 6, 2) := by decide +kernel
theorem dL_law_1585 : decode cL_law 1585 = .ok (.if_icmp .eq 5, 3) := by decide +kernel
theorem dL_law_1588 : decode cL_law 1588 = .ok (.iconst 0, 1) := by decide +kernel
theorem dL_law_1589 : decode cL_law 1589 = .ok (.ireturn, 1) := by decide +kernel
theorem dL_law_1590 : decode cL_law 1590 = .ok (.iload 6, 2) := by decide +kernel
theorem dL_law_1592 : decode cL_law 1592 = .ok (.ifCond .ne 15, 3) := by decide +kernel
theorem dL_law_1595 : decode cL_law 1595 = .ok (.aload_n 3, 1) := by decide +kernel
theorem dL_law_1596 : decode cL_law 1596 = .ok (.iconst 0, 1) := by decide +kernel
theorem dL_law_1597 : decode cL_law 1597 = .ok (.laload, 1) := by decide +kernel
theorem dL_law_1598 : decode cL_law 1598 = .ok (.iload 7, 2) := by decide +kernel
theorem dL_law_1600 : decode cL_law 1600 = .ok (.i2l, 1) := by decide +kernel
theorem dL_law_1601 : decode cL_law 1601 = .ok (.lcmp, 1) := by decide +kernel
theorem dL_law_1602 : decode cL_law 1602 = .ok (.ifCond .eq 5, 3) := by decide +kernel
theorem dL_law_1605 : decode cL_law 1605 = .ok (.iconst 0, 1) := by decide +kernel
theorem dL_law_1606 : decode cL_law 1606 = .ok (.ireturn, 1) := by decide +kernel
theorem dL_law_1607 : decode cL_law 1607 = .ok (.goto 2520, 3) := by decide +kernel
theorem dL_law_1610 : decode cL_law 1610 = .ok (.aload_n 1, 1) := by decide +kernel
theorem dL_law_1611 : decode cL_law 1611 = .ok (.aload_n 0, 1) := by decide +kernel
theorem dL_law_1612 : decode cL_law 1612 = .ok (.iload 5, 2) := by decide +kernel
theorem dL_law_1614 : decode cL_law 1614 = .ok (.iconst 1, 1) := by decide +kernel
theorem dL_law_1615 : decode cL_law 1615 = .ok (.iadd, 1) := by decide +kernel
theorem dL_law_1616 : decode cL_law 1616 = .ok (.iaload, 1) := by decide +kernel
theorem dL_law_1617 : decode cL_law 1617 = .ok (.aload_n 0, 1) := by decide +kernel
theorem dL_law_1618 : decode cL_law 1618 = .ok (.iload 5, 2) := by decide +kernel
theorem dL_law_1620 : decode cL_law 1620 = .ok (.iconst 2, 1) := by decide +kernel
theorem dL_law_1621 : decode cL_law 1621 = .ok (.iadd, 1) := by decide +kernel
theorem dL_law_1622 : decode cL_law 1622 = .ok (.iaload, 1) := by decide +kernel
theorem dL_law_1623 : decode cL_law 1623 = .ok (.aload_n 3, 1) := by decide +kernel
theorem dL_law_1624 : decode cL_law 1624 = .ok (.invokestatic 279, 3) := by decide +kernel
theorem dL_law_1627 : decode cL_law 1627 = .ok (.istore 6, 2) := by decide +kernel
theorem dL_law_1629 : decode cL_law 1629 = .ok (.aload_n 2, 1) := by decide +kernel
theorem dL_law_1630 : decode cL_law 1630 = .ok (.aload_n 0, 1) := by decide +kernel
theorem dL_law_1631 : decode cL_law 1631 = .ok (.iload 5, 2) := by decide +kernel
theorem dL_law_1633 : decode cL_law 1633 = .ok (.iconst 1, 1) := by decide +kernel
theorem dL_law_1634 : decode cL_law 1634 = .ok (.iadd, 1) := by decide +kernel
theorem dL_law_1635 : decode cL_law 1635 = .ok (.iaload, 1) := by decide +kernel
theorem dL_law_1636 : decode cL_law 1636 = .ok (.aload_n 0, 1) := by decide +kernel
theorem dL_law_1637 : decode cL_law 1637 = .ok (.iload 5, 2) := by decide +kernel
theorem dL_law_1639 : decode cL_law 1639 = .ok (.iconst 2, 1) := by decide +kernel
theorem dL_law_1640 : decode cL_law 1640 = .ok (.iadd, 1) := by decide +kernel
theorem dL_law_1641 : decode cL_law 1641 = .ok (.iaload, 1) := by decide +kernel
theorem dL_law_1642 : decode cL_law 1642 = .ok (.invokevirtual 281, 3) := by decide +kernel
theorem dL_law_1645 : decode cL_law 1645 = .ok (.istore 7, 2) := by decide +kernel
theorem dL_law_1647 : decode cL_law 1647 = .ok (.aload_n 2, 1) := by decide +kernel
theorem dL_law_1648 : decode cL_law 1648 = .ok (.invokevirtual 222, 3) := by decide +kernel
theorem dL_law_1651 : decode cL_law 1651 = .ok (.iload 6, 2) := by decide +kernel
theorem dL_law_1653 : decode cL_law 1653 = .ok (.if_icmp .eq 5, 3) := by decide +kernel
theorem dL_law_1656 : decode cL_law 1656 = .ok (.iconst 0, 1) := by decide +kernel
theorem dL_law_1657 : decode cL_law 1657 = .ok (.ireturn, 1) := by decide +kernel
theorem dL_law_1658 : decode cL_law 1658 = .ok (.iload 6, 2) := by decide +kernel
theorem dL_law_1660 : decode cL_law 1660 = .ok (.ifCond .ne 15, 3) := by decide +kernel
theorem dL_law_1663 : decode cL_law 1663 = .ok (.aload_n 3, 1) := by decide +kernel
theorem dL_law_1664 : decode cL_law 1664 = .ok (.iconst 0, 1) := by decide +kernel
theorem dL_law_1665 : decode cL_law 1665 = .ok (.laload, 1) := by decide +kernel
theorem dL_law_1666 : decode cL_law 1666 = .ok (.iload 7, 2) := by decide +kernel
theorem dL_law_1668 : decode cL_law 1668 = .ok (.i2l, 1) := by decide +kernel
theorem dL_law_1669 : decode cL_law 1669 = .ok (.lcmp, 1) := by decide +kernel
theorem dL_law_1670 : decode cL_law 1670 = .ok (.ifCond .eq 5, 3) := by decide +kernel
theorem dL_law_1673 : decode cL_law 1673 = .ok (.iconst 0, 1) := by decide +kernel
theorem dL_law_1674 : decode cL_law 1674 = .ok (.ireturn, 1) := by decide +kernel
theorem dL_law_1675 : decode cL_law 1675 = .ok (.goto 2452, 3) := by decide +kernel
theorem dL_law_1678 : decode cL_law 1678 = .ok (.aload_n 1, 1) := by decide +kernel
theorem dL_law_1679 : decode cL_law 1679 = .ok (.aload_n 0, 1) := by decide +kernel
theorem dL_law_1680 : decode cL_law 1680 = .ok (.iload 5, 2) := by decide +kernel
theorem dL_law_1682 : decode cL_law 1682 = .ok (.iconst 1, 1) := by decide +kernel
theorem dL_law_1683 : decode cL_law 1683 = .ok (.iadd, 1) := by decide +kernel
theorem dL_law_1684 : decode cL_law 1684 = .ok (.iaload, 1) := by decide +kernel
theorem dL_law_1685 : decode cL_law 1685 = .ok (.aload_n 0, 1) := by decide +kernel
theorem dL_law_1686 : decode cL_law 1686 = .ok (.iload 5, 2) := by decide +kernel
theorem dL_law_1688 : decode cL_law 1688 = .ok (.iconst 2, 1) := by decide +kernel
theorem dL_law_1689 : decode cL_law 1689 = .ok (.iadd, 1) := by decide +kernel
theorem dL_law_1690 : decode cL_law 1690 = .ok (.iaload, 1) := by decide +kernel
theorem dL_law_1691 : decode cL_law 1691 = .ok (.aload_n 3, 1) := by decide +kernel
theorem dL_law_1692 : decode cL_law 1692 = .ok (.invokestatic 282, 3) := by decide +kernel
theorem dL_law_1695 : decode cL_law 1695 = .ok (.istore 6, 2) := by decide +kernel
theorem dL_law_1697 : decode cL_law 1697 = .ok (.aload_n 2, 1) := by decide +kernel
theorem dL_law_1698 : decode cL_law 1698 = .ok (.aload_n 0, 1) := by decide +kernel
theorem dL_law_1699 : decode cL_law 1699 = .ok (.iload 5, 2) := by decide +kernel
theorem dL_law_1701 : decode cL_law 1701 = .ok (.iconst 1, 1) := by decide +kernel
theorem dL_law_1702 : decode cL_law 1702 = .ok (.iadd, 1) := by decide +kernel
theorem dL_law_1703 : decode cL_law 1703 = .ok (.iaload, 1) := by decide +kernel
theorem dL_law_1704 : decode cL_law 1704 = .ok (.aload_n 0, 1) := by decide +kernel
theorem dL_law_1705 : decode cL_law 1705 = .ok (.iload 5, 2) := by decide +kernel
theorem dL_law_1707 : decode cL_law 1707 = .ok (.iconst 2, 1) := by decide +kernel
theorem dL_law_1708 : decode cL_law 1708 = .ok (.iadd, 1) := by decide +kernel
theorem dL_law_1709 : decode cL_law 1709 = .ok (.iaload, 1) := by decide +kernel
theorem dL_law_1710 : decode cL_law 1710 = .ok (.invokevirtual 284, 3) := by decide +kernel
theorem dL_law_1713 : decode cL_law 1713 = .ok (.istore 7, 2) := by decide +kernel
theorem dL_law_1715 : decode cL_law 1715 = .ok (.aload_n 2, 1) := by decide +kernel
theorem dL_law_1716 : decode cL_law 1716 = .ok (.invokevirtual 222, 3) := by decide +kernel
theorem dL_law_1719 : decode cL_law 1719 = .ok (.iload 6, 2) := by decide +kernel
theorem dL_law_1721 : decode cL_law 1721 = .ok (.if_icmp .eq 5, 3) := by decide +kernel
theorem dL_law_1724 : decode cL_law 1724 = .ok (.iconst 0, 1) := by decide +kernel
theorem dL_law_1725 : decode cL_law 1725 = .ok (.ireturn, 1) := by decide +kernel
theorem dL_law_1726 : decode cL_law 1726 = .ok (.iload 6, 2) := by decide +kernel
theorem dL_law_1728 : decode cL_law 1728 = .ok (.ifCond .ne 15, 3) := by decide +kernel
theorem dL_law_1731 : decode cL_law 1731 = .ok (.aload_n 3, 1) := by decide +kernel
theorem dL_law_1732 : decode cL_law 1732 = .ok (.iconst 0, 1) := by decide +kernel
theorem dL_law_1733 : decode cL_law 1733 = .ok (.laload, 1) := by decide +kernel
theorem dL_law_1734 : decode cL_law 1734 = .ok (.iload 7, 2) := by decide +kernel
theorem dL_law_1736 : decode cL_law 1736 = .ok (.i2l, 1) := by decide +kernel
theorem dL_law_1737 : decode cL_law 1737 = .ok (.lcmp, 1) := by decide +kernel
theorem dL_law_1738 : decode cL_law 1738 = .ok (.ifCond .eq 5, 3) := by decide +kernel
theorem dL_law_1741 : decode cL_law 1741 = .ok (.iconst 0, 1) := by decide +kernel
theorem dL_law_1742 : decode cL_law 1742 = .ok (.ireturn, 1) := by decide +kernel
theorem dL_law_1743 : decode cL_law 1743 = .ok (.goto 2384, 3) := by decide +kernel
theorem dL_law_1746 : decode cL_law 1746 = .ok (.aload_n 1, 1) := by decide +kernel
theorem dL_law_1747 : decode cL_law 1747 = .ok (.aload_n 0, 1) := by decide +kernel
theorem dL_law_1748 : decode cL_law 1748 = .ok (.iload 5, 2) := by decide +kernel
theorem dL_law_1750 : decode cL_law 1750 = .ok (.iconst 1, 1) := by decide +kernel
theorem dL_law_1751 : decode cL_law 1751 = .ok (.iadd, 1) := by decide +kernel
theorem dL_law_1752 : decode cL_law 1752 = .ok (.iaload, 1) := by decide +kernel
theorem dL_law_1753 : decode cL_law 1753 = .ok (.aload_n 3, 1) := by decide +kernel
theorem dL_law_1754 : decode cL_law 1754 = .ok (.invokestatic 285, 3) := by decide +kernel
theorem dL_law_1757 : decode cL_law 1757 = .ok (.istore 6, 2) := by decide +kernel
theorem dL_law_1759 : decode cL_law 1759 = .ok (.aload_n 2, 1) := by decide +kernel
theorem dL_law_1760 : decode cL_law 1760 = .ok (.aload_n 0, 1) := by decide +kernel
theorem dL_law_1761 : decode cL_law 1761 = .ok (.iload 5, 2) := by decide +kernel
theorem dL_law_1763 : decode cL_law 1763 = .ok (.iconst 1, 1) := by decide +kernel
theorem dL_law_1764 : decode cL_law 1764 = .ok (.iadd, 1) := by decide +kernel
theorem dL_law_1765 : decode cL_law 1765 = .ok (.iaload, 1) := by decide +kernel
theorem dL_law_1766 : decode cL_law 1766 = .ok (.invokevirtual 287, 3) := by decide +kernel
theorem dL_law_1769 : decode cL_law 1769 = .ok (.istore 7, 2) := by decide +kernel
theorem dL_law_1771 : decode cL_law 1771 = .ok (.aload_n 2, 1) := by decide +kernel
theorem dL_law_1772 : decode cL_law 1772 = .ok (.invokevirtual 222, 3) := by decide +kernel
theorem dL_law_1775 : decode cL_law 1775 = .ok (.iload 6, 2) := by decide +kernel
theorem dL_law_1777 : decode cL_law 1777 = .ok (.if_icmp .eq 5, 3) := by decide +kernel
theorem dL_law_1780 : decode cL_law 1780 = .ok (.iconst 0, 1) := by decide +kernel
theorem dL_law_1781 : decode cL_law 1781 = .ok (.ireturn, 1) := by decide +kernel
theorem dL_law_1782 : decode cL_law 1782 = .ok (.iload 6, 2) := by decide +kernel
theorem dL_law_1784 : decode cL_law 1784 = .ok (.ifCond .ne 15, 3) := by decide +kernel
theorem dL_law_1787 : decode cL_law 1787 = .ok (.aload_n 3, 1) := by decide +kernel
theorem dL_law_1788 : decode cL_law 1788 = .ok (.iconst 0, 1) := by decide +kernel
theorem dL_law_1789 : decode cL_law 1789 = .ok (.laload, 1) := by decide +kernel
theorem dL_law_1790 : decode cL_law 1790 = .ok (.iload 7, 2) := by decide +kernel
theorem dL_law_1792 : decode cL_law 1792 = .ok (.i2l, 1) := by decide +kernel
theorem dL_law_1793 : decode cL_law 1793 = .ok (.lcmp, 1) := by decide +kernel
theorem dL_law_1794 : decode cL_law 1794 = .ok (.ifCond .eq 5, 3) := by decide +kernel
theorem dL_law_1797 : decode cL_law 1797 = .ok (.iconst 0, 1) := by decide +kernel
theorem dL_law_1798 : decode cL_law 1798 = .ok (.ireturn, 1) := by decide +kernel
theorem dL_law_1799 : decode cL_law 1799 = .ok (.goto 2328, 3) := by decide +kernel
theorem dL_law_1802 : decode cL_law 1802 = .ok (.aload_n 1, 1) := by decide +kernel
theorem dL_law_1803 : decode cL_law 1803 = .ok (.aload_n 0, 1) := by decide +kernel
theorem dL_law_1804 : decode cL_law 1804 = .ok (.iload 5, 2) := by decide +kernel
theorem dL_law_1806 : decode cL_law 1806 = .ok (.iconst 1, 1) := by decide +kernel
theorem dL_law_1807 : decode cL_law 1807 = .ok (.iadd, 1) := by decide +kernel
theorem dL_law_1808 : decode cL_law 1808 = .ok (.iaload, 1) := by decide +kernel
theorem dL_law_1809 : decode cL_law 1809 = .ok (.aload_n 0, 1) := by decide +kernel
theorem dL_law_1810 : decode cL_law 1810 = .ok (.iload 5, 2) := by decide +kernel
theorem dL_law_1812 : decode cL_law 1812 = .ok (.iconst 2, 1) := by decide +kernel
theorem dL_law_1813 : decode cL_law 1813 = .ok (.iadd, 1) := by decide +kernel
theorem dL_law_1814 : decode cL_law 1814 = .ok (.iaload, 1) := by decide +kernel
theorem dL_law_1815 : decode cL_law 1815 = .ok (.aload_n 3, 1) := by decide +kernel
theorem dL_law_1816 : decode cL_law 1816 = .ok (.invokestatic 288, 3) := by decide +kernel
theorem dL_law_1819 : decode cL_law 1819 = .ok (.istore 6, 2) := by decide +kernel
theorem dL_law_1821 : decode cL_law 1821 = .ok (.aload_n 2, 1) := by decide +kernel
theorem dL_law_1822 : decode cL_law 1822 = .ok (.aload_n 0, 1) := by decide +kernel
theorem dL_law_1823 : decode cL_law 1823 = .ok (.iload 5, 2) := by decide +kernel
theorem dL_law_1825 : decode cL_law 1825 = .ok (.iconst 1, 1) := by decide +kernel
theorem dL_law_1826 : decode cL_law 1826 = .ok (.iadd, 1) := by decide +kernel
theorem dL_law_1827 : decode cL_law 1827 = .ok (.iaload, 1) := by decide +kernel
theorem dL_law_1828 : decode cL_law 1828 = .ok (.aload_n 0, 1) := by decide +kernel
theorem dL_law_1829 : decode cL_law 1829 = .ok (.iload 5, 2) := by decide +kernel
theorem dL_law_1831 : decode cL_law 1831 = .ok (.iconst 2, 1) := by decide +kernel
theorem dL_law_1832 : decode cL_law 1832 = .ok (.iadd, 1) := by decide +kernel
theorem dL_law_1833 : decode cL_law 1833 = .ok (.iaload, 1) := by decide +kernel
theorem dL_law_1834 : decode cL_law 1834 = .ok (.invokevirtual 290, 3) := by decide +kernel
theorem dL_law_1837 : decode cL_law 1837 = .ok (.istore 7, 2) := by decide +kernel
theorem dL_law_1839 : decode cL_law 1839 = .ok (.aload_n 2, 1) := by decide +kernel
theorem dL_law_1840 : decode cL_law 1840 = .ok (.invokevirtual 222, 3) := by decide +kernel
theorem dL_law_1843 : decode cL_law 1843 = .ok (.iload 6, 2) := by decide +kernel
theorem dL_law_1845 : decode cL_law 1845 = .ok (.if_icmp .eq 5, 3) := by decide +kernel
theorem dL_law_1848 : decode cL_law 1848 = .ok (.iconst 0, 1) := by decide +kernel
theorem dL_law_1849 : decode cL_law 1849 = .ok (.ireturn, 1) := by decide +kernel
theorem dL_law_1850 : decode cL_law 1850 = .ok (.iload 6, 2) := by decide +kernel
theorem dL_law_1852 : decode cL_law 1852 = .ok (.ifCond .ne 15, 3) := by decide +kernel
theorem dL_law_1855 : decode cL_law 1855 = .ok (.aload_n 3, 1) := by decide +kernel
theorem dL_law_1856 : decode cL_law 1856 = .ok (.iconst 0, 1) := by decide +kernel
theorem dL_law_1857 : decode cL_law 1857 = .ok (.laload, 1) := by decide +kernel
theorem dL_law_1858 : decode cL_law 1858 = .ok (.iload 7, 2) := by decide +kernel
theorem dL_law_1860 : decode cL_law 1860 = .ok (.i2l, 1) := by decide +kernel
theorem dL_law_1861 : decode cL_law 1861 = .ok (.lcmp, 1) := by decide +kernel
theorem dL_law_1862 : decode cL_law 1862 = .ok (.ifCond .eq 5, 3) := by decide +kernel
theorem dL_law_1865 : decode cL_law 1865 = .ok (.iconst 0, 1) := by decide +kernel
theorem dL_law_1866 : decode cL_law 1866 = .ok (.ireturn, 1) := by decide +kernel
theorem dL_law_1867 : decode cL_law 1867 = .ok (.goto 2260, 3) := by decide +kernel
theorem dL_law_1870 : decode cL_law 1870 = .ok (.aload_n 1, 1) := by decide +kernel
theorem dL_law_1871 : decode cL_law 1871 = .ok (.aload_n 0, 1) := by decide +kernel
theorem dL_law_1872 : decode cL_law 1872 = .ok (.iload 5, 2) := by decide +kernel
theorem dL_law_1874 : decode cL_law 1874 = .ok (.iconst 1, 1) := by decide +kernel
theorem dL_law_1875 : decode cL_law 1875 = .ok (.iadd, 1) := by decide +kernel
theorem dL_law_1876 : decode cL_law 1876 = .ok (.iaload, 1) := by decide +kernel
theorem dL_law_1877 : decode cL_law 1877 = .ok (.aload_n 0, 1) := by decide +kernel
theorem dL_law_1878 : decode cL_law 1878 = .ok (.iload 5, 2) := by decide +kernel
theorem dL_law_1880 : decode cL_law 1880 = .ok (.iconst 2, 1) := by decide +kernel
theorem dL_law_1881 : decode cL_law 1881 = .ok (.iadd, 1) := by decide +kernel
theorem dL_law_1882 : decode cL_law 1882 = .ok (.iaload, 1) := by decide +kernel
theorem dL_law_1883 : decode cL_law 1883 = .ok (.ifCond .eq 7, 3) := by decide +kernel
theorem dL_law_1886 : decode cL_law 1886 = .ok (.iconst 1, 1) := by decide +kernel
theorem dL_law_1887 : decode cL_law 1887 = .ok (.goto 4, 3) := by decide +kernel
theorem dL_law_1890 : decode cL_law 1890 = .ok (.iconst 0, 1) := by decide +kernel
theorem dL_law_1891 : decode cL_law 1891 = .ok (.aload_n 3, 1) := by decide +kernel
theorem dL_law_1892 : decode cL_law 1892 = .ok (.invokestatic 291, 3) := by decide +kernel
theorem dL_law_1895 : decode cL_law 1895 = .ok (.istore 6, 2) := by decide +kernel
theorem dL_law_1897 : decode cL_law 1897 = .ok (.aload_n 2, 1) := by decide +kernel
theorem dL_law_1898 : decode cL_law 1898 = .ok (.aload_n 0, 1) := by decide +kernel
theorem dL_law_1899 : decode cL_law 1899 = .ok (.iload 5, 2) := by decide +kernel
theorem dL_law_1901 : decode cL_law 1901 = .ok (.iconst 1, 1) := by decide +kernel
theorem dL_law_1902 : decode cL_law 1902 = .ok (.iadd, 1) := by decide +kernel
theorem dL_law_1903 : decode cL_law 1903 = .ok (.iaload, 1) := by decide +kernel
theorem dL_law_1904 : decode cL_law 1904 = .ok (.aload_n 0, 1) := by decide +kernel
theorem dL_law_1905 : decode cL_law 1905 = .ok (.iload 5, 2) := by decide +kernel
theorem dL_law_1907 : decode cL_law 1907 = .ok (.iconst 2, 1) := by decide +kernel
theorem dL_law_1908 : decode cL_law 1908 = .ok (.iadd, 1) := by decide +kernel
theorem dL_law_1909 : decode cL_law 1909 = .ok (.iaload, 1) := by decide +kernel
theorem dL_law_1910 : decode cL_law 1910 = .ok (.ifCond .eq 7, 3) := by decide +kernel
theorem dL_law_1913 : decode cL_law 1913 = .ok (.iconst 1, 1) := by decide +kernel
theorem dL_law_1914 : decode cL_law 1914 = .ok (.goto 4, 3) := by decide +kernel
theorem dL_law_1917 : decode cL_law 1917 = .ok (.iconst 0, 1) := by decide +kernel
theorem dL_law_1918 : decode cL_law 1918 = .ok (.invokevirtual 293, 3) := by decide +kernel
theorem dL_law_1921 : decode cL_law 1921 = .ok (.istore 7, 2) := by decide +kernel
theorem dL_law_1923 : decode cL_law 1923 = .ok (.aload_n 2, 1) := by decide +kernel
theorem dL_law_1924 : decode cL_law 1924 = .ok (.invokevirtual 222, 3) := by decide +kernel
theorem dL_law_1927 : decode cL_law 1927 = .ok (.iload 6, 2) := by decide +kernel
theorem dL_law_1929 : decode cL_law 1929 = .ok (.if_icmp .eq 5, 3) := by decide +kernel
theorem dL_law_1932 : decode cL_law 1932 = .ok (.iconst 0, 1) := by decide +kernel
theorem dL_law_1933 : decode cL_law 1933 = .ok (.ireturn, 1) := by decide +kernel
theorem dL_law_1934 : decode cL_law 1934 = .ok (.iload 6, 2) := by decide +kernel
theorem dL_law_1936 : decode cL_law 1936 = .ok (.ifCond .ne 22, 3) := by decide +kernel
theorem dL_law_1939 : decode cL_law 1939 = .ok (.aload_n 3, 1) := by decide +kernel
theorem dL_law_1940 : decode cL_law 1940 = .ok (.iconst 0, 1) := by decide +kernel
theorem dL_law_1941 : decode cL_law 1941 = .ok (.laload, 1) := by decide +kernel
theorem dL_law_1942 : decode cL_law 1942 = .ok (.iload 7, 2) := by decide +kernel
theorem dL_law_1944 : decode cL_law 1944 = .ok (.ifCond .eq 7, 3) := by decide +kernel
theorem dL_law_1947 : decode cL_law 1947 = .ok (.lconst 1, 1) := by decide +kernel
theorem dL_law_1948 : decode cL_law 1948 = .ok (.goto 4, 3) := by decide +kernel
theorem dL_law_1951 : decode cL_law 1951 = .ok (.lconst 0, 1) := by decide +kernel
theorem dL_law_1952 : decode cL_law 1952 = .ok (.lcmp, 1) := by decide +kernel
theorem dL_law_1953 : decode cL_law 1953 = .ok (.ifCond .eq 5, 3) := by decide +kernel
theorem dL_law_1956 : decode cL_law 1956 = .ok (.iconst 0, 1) := by decide +kernel
theorem dL_law_1957 : decode cL_law 1957 = .ok (.ireturn, 1) := by decide +kernel
theorem dL_law_1958 : decode cL_law 1958 = .ok (.goto 2169, 3) := by decide +kernel
theorem dL_law_1961 : decode cL_law 1961 = .ok (.aload_n 1, 1) := by decide +kernel
theorem dL_law_1962 : decode cL_law 1962 = .ok (.aload_n 0, 1) := by decide +kernel
theorem dL_law_1963 : decode cL_law 1963 = .ok (.iload 5, 2) := by decide +kernel
theorem dL_law_1965 : decode cL_law 1965 = .ok (.iconst 1, 1) := by decide +kernel
theorem dL_law_1966 : decode cL_law 1966 = .ok (.iadd, 1) := by decide +kernel
theorem dL_law_1967 : decode cL_law 1967 = .ok (.iaload, 1) := by decide +kernel
theorem dL_law_1968 : decode cL_law 1968 = .ok (.aload_n 0, 1) := by decide +kernel
theorem dL_law_1969 : decode cL_law 1969 = .ok (.iload 5, 2) := by decide +kernel
theorem dL_law_1971 : decode cL_law 1971 = .ok (.iconst 2, 1) := by decide +kernel
theorem dL_law_1972 : decode cL_law 1972 = .ok (.iadd, 1) := by decide +kernel
theorem dL_law_1973 : decode cL_law 1973 = .ok (.iaload, 1) := by decide +kernel
theorem dL_law_1974 : decode cL_law 1974 = .ok (.aload_n 3, 1) := by decide +kernel
theorem dL_law_1975 : decode cL_law 1975 = .ok (.invokestatic 294, 3) := by decide +kernel
theorem dL_law_1978 : decode cL_law 1978 = .ok (.istore 6, 2) := by decide +kernel
theorem dL_law_1980 : decode cL_law 1980 = .ok (.aload_n 2, 1) := by decide +kernel
theorem dL_law_1981 : decode cL_law 1981 = .ok (.aload_n 0, 1) := by decide +kernel
theorem dL_law_1982 : decode cL_law 1982 = .ok (.iload 5, 2) := by decide +kernel
theorem dL_law_1984 : decode cL_law 1984 = .ok (.iconst 1, 1) := by decide +kernel
theorem dL_law_1985 : decode cL_law 1985 = .ok (.iadd, 1) := by decide +kernel
theorem dL_law_1986 : decode cL_law 1986 = .ok (.iaload, 1) := by decide +kernel
theorem dL_law_1987 : decode cL_law 1987 = .ok (.aload_n 0, 1) := by decide +kernel
theorem dL_law_1988 : decode cL_law 1988 = .ok (.iload 5, 2) := by decide +kernel
theorem dL_law_1990 : decode cL_law 1990 = .ok (.iconst 2, 1) := by decide +kernel
theorem dL_law_1991 : decode cL_law 1991 = .ok (.iadd, 1) := by decide +kernel
theorem dL_law_1992 : decode cL_law 1992 = .ok (.iaload, 1) := by decide +kernel
theorem dL_law_1993 : decode cL_law 1993 = .ok (.invokevirtual 296, 3) := by decide +kernel
theorem dL_law_1996 : decode cL_law 1996 = .ok (.istore 7, 2) := by decide +kernel
theorem dL_law_1998 : decode cL_law 1998 = .ok (.aload_n 2, 1) := by decide +kernel
theorem dL_law_1999 : decode cL_law 1999 = .ok (.invokevirtual 222, 3) := by decide +kernel
theorem dL_law_2002 : decode cL_law 2002 = .ok (.iload 6, 2) := by decide +kernel
theorem dL_law_2004 : decode cL_law 2004 = .ok (.if_icmp .eq 5, 3) := by decide +kernel
theorem dL_law_2007 : decode cL_law 2007 = .ok (.iconst 0, 1) := by decide +kernel
theorem dL_law_2008 : decode cL_law 2008 = .ok (.ireturn, 1) := by decide +kernel
theorem dL_law_2009 : decode cL_law 2009 = .ok (.iload 6, 2) := by decide +kernel
theorem dL_law_2011 : decode cL_law 2011 = .ok (.ifCond .ne 15, 3) := by decide +kernel
theorem dL_law_2014 : decode cL_law 2014 = .ok (.aload_n 3, 1) := by decide +kernel
theorem dL_law_2015 : decode cL_law 2015 = .ok (.iconst 0, 1) := by decide +kernel
theorem dL_law_2016 : decode cL_law 2016 = .ok (.laload, 1) := by decide +kernel
theorem dL_law_2017 : decode cL_law 2017 = .ok (.iload 7, 2) := by decide +kernel
theorem dL_law_2019 : decode cL_law 2019 = .ok (.i2l, 1) := by decide +kernel
theorem dL_law_2020 : decode cL_law 2020 = .ok (.lcmp, 1) := by decide +kernel
theorem dL_law_2021 : decode cL_law 2021 = .ok (.ifCond .eq 5, 3) := by decide +kernel
theorem dL_law_2024 : decode cL_law 2024 = .ok (.iconst 0, 1) := by decide +kernel
theorem dL_law_2025 : decode cL_law 2025 = .ok (.ireturn, 1) := by decide +kernel
theorem dL_law_2026 : decode cL_law 2026 = .ok (.goto 2101, 3) := by decide +kernel
theorem dL_law_2029 : decode cL_law 2029 = .ok (.aload_n 1, 1) := by decide +kernel
theorem dL_law_2030 : decode cL_law 2030 = .ok (.aload_n 0, 1) := by decide +kernel
theorem dL_law_2031 : decode cL_law 2031 = .ok (.iload 5, 2) := by decide +kernel
theorem dL_law_2033 : decode cL_law 2033 = .ok (.iconst 1, 1) := by decide +kernel
theorem dL_law_2034 : decode cL_law 2034 = .ok (.iadd, 1) := by decide +kernel
theorem dL_law_2035 : decode cL_law 2035 = .ok (.iaload, 1) := by decide +kernel
theorem dL_law_2036 : decode cL_law 2036 = .ok (.aload_n 3, 1) := by decide +kernel
theorem dL_law_2037 : decode cL_law 2037 = .ok (.invokestatic 297, 3) := by decide +kernel
theorem dL_law_2040 : decode cL_law 2040 = .ok (.istore 6, 2) := by decide +kernel
theorem dL_law_2042 : decode cL_law 2042 = .ok (.aload_n 2, 1) := by decide +kernel
theorem dL_law_2043 : decode cL_law 2043 = .ok (.aload_n 0, 1) := by decide +kernel
theorem dL_law_2044 : decode cL_law 2044 = .ok (.iload 5, 2) := by decide +kernel
theorem dL_law_2046 : decode cL_law 2046 = .ok (.iconst 1, 1) := by decide +kernel
theorem dL_law_2047 : decode cL_law 2047 = .ok (.iadd, 1) := by decide +kernel
theorem dL_law_2048 : decode cL_law 2048 = .ok (.iaload, 1) := by decide +kernel
theorem dL_law_2049 : decode cL_law 2049 = .ok (.invokevirtual 299, 3) := by decide +kernel
theorem dL_law_2052 : decode cL_law 2052 = .ok (.istore 7, 2) := by decide +kernel
theorem dL_law_2054 : decode cL_law 2054 = .ok (.aload_n 2, 1) := by decide +kernel
theorem dL_law_2055 : decode cL_law 2055 = .ok (.invokevirtual 222, 3) := by decide +kernel
theorem dL_law_2058 : decode cL_law 2058 = .ok (.iload 6, 2) := by decide +kernel
theorem dL_law_2060 : decode cL_law 2060 = .ok (.if_icmp .eq 5, 3) := by decide +kernel
theorem dL_law_2063 : decode cL_law 2063 = .ok (.iconst 0, 1) := by decide +kernel
theorem dL_law_2064 : decode cL_law 2064 = .ok (.ireturn, 1) := by decide +kernel
theorem dL_law_2065 : decode cL_law 2065 = .ok (.iload 6, 2) := by decide +kernel
theorem dL_law_2067 : decode cL_law 2067 = .ok (.ifCond .ne 15, 3) := by decide +kernel
theorem dL_law_2070 : decode cL_law 2070 = .ok (.aload_n 3, 1) := by decide +kernel
theorem dL_law_2071 : decode cL_law 2071 = .ok (.iconst 0, 1) := by decide +kernel
theorem dL_law_2072 : decode cL_law 2072 = .ok (.laload, 1) := by decide +kernel
theorem dL_law_2073 : decode cL_law 2073 = .ok (.iload 7, 2) := by decide +kernel
theorem dL_law_2075 : decode cL_law 2075 = .ok (.i2l, 1) := by decide +kernel
theorem dL_law_2076 : decode cL_law 2076 = .ok (.lcmp, 1) := by decide +kernel
theorem dL_law_2077 : decode cL_law 2077 = .ok (.ifCond .eq 5, 3) := by decide +kernel
theorem dL_law_2080 : decode cL_law 2080 = .ok (.iconst 0, 1) := by decide +kernel
theorem dL_law_2081 : decode cL_law 2081 = .ok (.ireturn, 1) := by decide +kernel
theorem dL_law_2082 : decode cL_law 2082 = .ok (.goto 2045, 3) := by decide +kernel
theorem dL_law_2085 : decode cL_law 2085 = .ok (.aload_n 1, 1) := by decide +kernel
theorem dL_law_2086 : decode cL_law 2086 = .ok (.aload_n 0, 1) := by decide +kernel
theorem dL_law_2087 : decode cL_law 2087 = .ok (.iload 5, 2) := by decide +kernel
theorem dL_law_2089 : decode cL_law 2089 = .ok (.iconst 1, 1) := by decide +kernel
theorem dL_law_2090 : decode cL_law 2090 = .ok (.iadd, 1) := by decide +kernel
theorem dL_law_2091 : decode cL_law 2091 = .ok (.iaload, 1) := by decide +kernel
theorem dL_law_2092 : decode cL_law 2092 = .ok (.aload_n 0, 1) := by decide +kernel
theorem dL_law_2093 : decode cL_law 2093 = .ok (.iload 5, 2) := by decide +kernel
theorem dL_law_2095 : decode cL_law 2095 = .ok (.iconst 2, 1) := by decide +kernel
theorem dL_law_2096 : decode cL_law 2096 = .ok (.iadd, 1) := by decide +kernel
theorem dL_law_2097 : decode cL_law 2097 = .ok (.iaload, 1) := by decide +kernel
theorem dL_law_2098 : decode cL_law 2098 = .ok (.ifCond .eq 7, 3) := by decide +kernel
theorem dL_law_2101 : decode cL_law 2101 = .ok (.iconst 1, 1) := by decide +kernel
theorem dL_law_2102 : decode cL_law 2102 = .ok (.goto 4, 3) := by decide +kernel
theorem dL_law_2105 : decode cL_law 2105 = .ok (.iconst 0, 1) := by decide +kernel
theorem dL_law_2106 : decode cL_law 2106 = .ok (.aload_n 3, 1) := by decide +kernel
theorem dL_law_2107 : decode cL_law 2107 = .ok (.invokestatic 300, 3) := by decide +kernel
theorem dL_law_2110 : decode cL_law 2110 = .ok (.istore 6, 2) := by decide +kernel
theorem dL_law_2112 : decode cL_law 2112 = .ok (.aload_n 2, 1) := by decide +kernel
theorem dL_law_2113 : decode cL_law 2113 = .ok (.aload_n 0, 1) := by decide +kernel
theorem dL_law_2114 : decode cL_law 2114 = .ok (.iload 5, 2) := by decide +kernel
theorem dL_law_2116 : decode cL_law 2116 = .ok (.iconst 1, 1) := by decide +kernel
theorem dL_law_2117 : decode cL_law 2117 = .ok (.iadd, 1) := by decide +kernel
theorem dL_law_2118 : decode cL_law 2118 = .ok (.iaload, 1) := by decide +kernel
theorem dL_law_2119 : decode cL_law 2119 = .ok (.aload_n 0, 1) := by decide +kernel
theorem dL_law_2120 : decode cL_law 2120 = .ok (.iload 5, 2) := by decide +kernel
theorem dL_law_2122 : decode cL_law 2122 = .ok (.iconst 2, 1) := by decide +kernel
theorem dL_law_2123 : decode cL_law 2123 = .ok (.iadd, 1) := by decide +kernel
theorem dL_law_2124 : decode cL_law 2124 = .ok (.iaload, 1) := by decide +kernel
theorem dL_law_2125 : decode cL_law 2125 = .ok (.ifCond .eq 7, 3) := by decide +kernel
theorem dL_law_2128 : decode cL_law 2128 = .ok (.iconst 1, 1) := by decide +kernel
theorem dL_law_2129 : decode cL_law 2129 = .ok (.goto 4, 3) := by decide +kernel
theorem dL_law_2132 : decode cL_law 2132 = .ok (.iconst 0, 1) := by decide +kernel
theorem dL_law_2133 : decode cL_law 2133 = .ok (.invokevirtual 302, 3) := by decide +kernel
theorem dL_law_2136 : decode cL_law 2136 = .ok (.istore 7, 2) := by decide +kernel
theorem dL_law_2138 : decode cL_law 2138 = .ok (.aload_n 2, 1) := by decide +kernel
theorem dL_law_2139 : decode cL_law 2139 = .ok (.invokevirtual 222, 3) := by decide +kernel
theorem dL_law_2142 : decode cL_law 2142 = .ok (.iload 6, 2) := by decide +kernel
theorem dL_law_2144 : decode cL_law 2144 = .ok (.if_icmp .eq 5, 3) := by decide +kernel
theorem dL_law_2147 : decode cL_law 2147 = .ok (.iconst 0, 1) := by decide +kernel
theorem dL_law_2148 : decode cL_law 2148 = .ok (.ireturn, 1) := by decide +kernel
theorem dL_law_2149 : decode cL_law 2149 = .ok (.iload 6, 2) := by decide +kernel
theorem dL_law_2151 : decode cL_law 2151 = .ok (.ifCond .ne 22, 3) := by decide +kernel
theorem dL_law_2154 : decode cL_law 2154 = .ok (.aload_n 3, 1) := by decide +kernel
theorem dL_law_2155 : decode cL_law 2155 = .ok (.iconst 0, 1) := by decide +kernel
theorem dL_law_2156 : decode cL_law 2156 = .ok (.laload, 1) := by decide +kernel
theorem dL_law_2157 : decode cL_law 2157 = .ok (.iload 7, 2) := by decide +kernel
theorem dL_law_2159 : decode cL_law 2159 = .ok (.ifCond .eq 7, 3) := by decide +kernel
theorem dL_law_2162 : decode cL_law 2162 = .ok (.lconst 1, 1) := by decide +kernel
theorem dL_law_2163 : decode cL_law 2163 = .ok (.goto 4, 3) := by decide +kernel
theorem dL_law_2166 : decode cL_law 2166 = .ok (.lconst 0, 1) := by decide +kernel
theorem dL_law_2167 : decode cL_law 2167 = .ok (.lcmp, 1) := by decide +kernel
theorem dL_law_2168 : decode cL_law 2168 = .ok (.ifCond .eq 5, 3) := by decide +kernel
theorem dL_law_2171 : decode cL_law 2171 = .ok (.iconst 0, 1) := by decide +kernel
theorem dL_law_2172 : decode cL_law 2172 = .ok (.ireturn, 1) := by decide +kernel
theorem dL_law_2173 : decode cL_law 2173 = .ok (.goto 1954, 3) := by decide +kernel
theorem dL_law_2176 : decode cL_law 2176 = .ok (.aload_n 1, 1) := by decide +kernel
theorem dL_law_2177 : decode cL_law 2177 = .ok (.aload_n 0, 1) := by decide +kernel
theorem dL_law_2178 : decode cL_law 2178 = .ok (.iload 5, 2) := by decide +kernel
theorem dL_law_2180 : decode cL_law 2180 = .ok (.iconst 1, 1) := by decide +kernel
theorem dL_law_2181 : decode cL_law 2181 = .ok (.iadd, 1) := by decide +kernel
theorem dL_law_2182 : decode cL_law 2182 = .ok (.iaload, 1) := by decide +kernel
theorem dL_law_2183 : decode cL_law 2183 = .ok (.aload_n 0, 1) := by decide +kernel
theorem dL_law_2184 : decode cL_law 2184 = .ok (.iload 5, 2) := by decide +kernel
theorem dL_law_2186 : decode cL_law 2186 = .ok (.iconst 2, 1) := by decide +kernel
theorem dL_law_2187 : decode cL_law 2187 = .ok (.iadd, 1) := by decide +kernel
theorem dL_law_2188 : decode cL_law 2188 = .ok (.iaload, 1) := by decide +kernel
theorem dL_law_2189 : decode cL_law 2189 = .ok (.aload_n 0, 1) := by decide +kernel
theorem dL_law_2190 : decode cL_law 2190 = .ok (.iload 5, 2) := by decide +kernel
theorem dL_law_2192 : decode cL_law 2192 = .ok (.iconst 3, 1) := by decide +kernel
theorem dL_law_2193 : decode cL_law 2193 = .ok (.iadd, 1) := by decide +kernel
theorem dL_law_2194 : decode cL_law 2194 = .ok (.iaload, 1) := by decide +kernel
theorem dL_law_2195 : decode cL_law 2195 = .ok (.aload_n 3, 1) := by decide +kernel
theorem dL_law_2196 : decode cL_law 2196 = .ok (.invokestatic 303, 3) := by decide +kernel
theorem dL_law_2199 : decode cL_law 2199 = .ok (.istore 6, 2) := by decide +kernel
theorem dL_law_2201 : decode cL_law 2201 = .ok (.aload_n 2, 1) := by decide +kernel
theorem dL_law_2202 : decode cL_law 2202 = .ok (.aload_n 0, 1) := by decide +kernel
theorem dL_law_2203 : decode cL_law 2203 = .ok (.iload 5, 2) := by decide +kernel
theorem dL_law_2205 : decode cL_law 2205 = .ok (.iconst 1, 1) := by decide +kernel
theorem dL_law_2206 : decode cL_law 2206 = .ok (.iadd, 1) := by decide +kernel
theorem dL_law_2207 : decode cL_law 2207 = .ok (.iaload, 1) := by decide +kernel
theorem dL_law_2208 : decode cL_law 2208 = .ok (.aload_n 0, 1) := by decide +kernel
theorem dL_law_2209 : decode cL_law 2209 = .ok (.iload 5, 2) := by decide +kernel
theorem dL_law_2211 : decode cL_law 2211 = .ok (.iconst 2, 1) := by decide +kernel
theorem dL_law_2212 : decode cL_law 2212 = .ok (.iadd, 1) := by decide +kernel
theorem dL_law_2213 : decode cL_law 2213 = .ok (.iaload, 1) := by decide +kernel
theorem dL_law_2214 : decode cL_law 2214 = .ok (.aload_n 0, 1) := by decide +kernel
theorem dL_law_2215 : decode cL_law 2215 = .ok (.iload 5, 2) := by decide +kernel
theorem dL_law_2217 : decode cL_law 2217 = .ok (.iconst 3, 1) := by decide +kernel
theorem dL_law_2218 : decode cL_law 2218 = .ok (.iadd, 1) := by decide +kernel
theorem dL_law_2219 : decode cL_law 2219 = .ok (.iaload, 1) := by decide +kernel
theorem dL_law_2220 : decode cL_law 2220 = .ok (.invokevirtual 306, 3) := by decide +kernel
theorem dL_law_2223 : decode cL_law 2223 = .ok (.istore 7, 2) := by decide +kernel
theorem dL_law_2225 : decode cL_law 2225 = .ok (.aload_n 2, 1) := by decide +kernel
theorem dL_law_2226 : decode cL_law 2226 = .ok (.invokevirtual 222, 3) := by decide +kernel
theorem dL_law_2229 : decode cL_law 2229 = .ok (.iload 6, 2) := by decide +kernel
theorem dL_law_2231 : decode cL_law 2231 = .ok (.if_icmp .eq 5, 3) := by decide +kernel
theorem dL_law_2234 : decode cL_law 2234 = .ok (.iconst 0, 1) := by decide +kernel
theorem dL_law_2235 : decode cL_law 2235 = .ok (.ireturn, 1) := by decide +kernel
theorem dL_law_2236 : decode cL_law 2236 = .ok (.iload 6, 2) := by decide +kernel
theorem dL_law_2238 : decode cL_law 2238 = .ok (.ifCond .ne 15, 3) := by decide +kernel
theorem dL_law_2241 : decode cL_law 2241 = .ok (.aload_n 3, 1) := by decide +kernel
theorem dL_law_2242 : decode cL_law 2242 = .ok (.iconst 0, 1) := by decide +kernel
theorem dL_law_2243 : decode cL_law 2243 = .ok (.laload, 1) := by decide +kernel
theorem dL_law_2244 : decode cL_law 2244 = .ok (.iload 7, 2) := by decide +kernel
theorem dL_law_2246 : decode cL_law 2246 = .ok (.i2l, 1) := by decide +kernel
theorem dL_law_2247 : decode cL_law 2247 = .ok (.lcmp, 1) := by decide +kernel
theorem dL_law_2248 : decode cL_law 2248 = .ok (.ifCond .eq 5, 3) := by decide +kernel
theorem dL_law_2251 : decode cL_law 2251 = .ok (.iconst 0, 1) := by decide +kernel
theorem dL_law_2252 : decode cL_law 2252 = .ok (.ireturn, 1) := by decide +kernel
theorem dL_law_2253 : decode cL_law 2253 = .ok (.goto 1874, 3) := by decide +kernel
theorem dL_law_2256 : decode cL_law 2256 = .ok (.aload_n 1, 1) := by decide +kernel
theorem dL_law_2257 : decode cL_law 2257 = .ok (.aload_n 0, 1) := by decide +kernel
theorem dL_law_2258 : decode cL_law 2258 = .ok (.iload 5, 2) := by decide +kernel
theorem dL_law_2260 : decode cL_law 2260 = .ok (.iconst 1, 1) := by decide +kernel
theorem dL_law_2261 : decode cL_law 2261 = .ok (.iadd, 1) := by decide +kernel
theorem dL_law_2262 : decode cL_law 2262 = .ok (.iaload, 1) := by decide +kernel
theorem dL_law_2263 : decode cL_law 2263 = .ok (.aload_n 0, 1) := by decide +kernel
theorem dL_law_2264 : decode cL_law 2264 = .ok (.iload 5, 2) := by decide +kernel
theorem dL_law_2266 : decode cL_law 2266 = .ok (.iconst 2, 1) := by decide +kernel
theorem dL_law_2267 : decode cL_law 2267 = .ok (.iadd, 1) := by decide +kernel
theorem dL_law_2268 : decode cL_law 2268 = .ok (.iaload, 1) := by decide +kernel
theorem dL_law_2269 : decode cL_law 2269 = .ok (.aload_n 3, 1) := by decide +kernel
theorem dL_law_2270 : decode cL_law 2270 = .ok (.invokestatic 307, 3) := by decide +kernel
theorem dL_law_2273 : decode cL_law 2273 = .ok (.istore 6, 2) := by decide +kernel
theorem dL_law_2275 : decode cL_law 2275 = .ok (.aload_n 2, 1) := by decide +kernel
theorem dL_law_2276 : decode cL_law 2276 = .ok (.aload_n 0, 1) := by decide +kernel
theorem dL_law_2277 : decode cL_law 2277 = .ok (.iload 5, 2) := by decide +kernel
theorem dL_law_2279 : decode cL_law 2279 = .ok (.iconst 1, 1) := by decide +kernel
theorem dL_law_2280 : decode cL_law 2280 = .ok (.iadd, 1) := by decide +kernel
theorem dL_law_2281 : decode cL_law 2281 = .ok (.iaload, 1) := by decide +kernel
theorem dL_law_2282 : decode cL_law 2282 = .ok (.aload_n 0, 1) := by decide +kernel
theorem dL_law_2283 : decode cL_law 2283 = .ok (.iload 5, 2) := by decide +kernel
theorem dL_law_2285 : decode cL_law 2285 = .ok (.iconst 2, 1) := by decide +kernel
theorem dL_law_2286 : decode cL_law 2286 = .ok (.iadd, 1) := by decide +kernel
theorem dL_law_2287 : decode cL_law 2287 = .ok (.iaload, 1) := by decide +kernel
theorem dL_law_2288 : decode cL_law 2288 = .ok (.invokevirtual 309, 3) := by decide +kernel
theorem dL_law_2291 : decode cL_law 2291 = .ok (.istore 7, 2) := by decide +kernel
theorem dL_law_2293 : decode cL_law 2293 = .ok (.aload_n 2, 1) := by decide +kernel
theorem dL_law_2294 : decode cL_law 2294 = .ok (.invokevirtual 222, 3) := by decide +kernel
theorem dL_law_2297 : decode cL_law 2297 = .ok (.iload 6, 2) := by decide +kernel
theorem dL_law_2299 : decode cL_law 2299 = .ok (.if_icmp .eq 5, 3) := by decide +kernel
theorem dL_law_2302 : decode cL_law 2302 = .ok (.iconst 0, 1) := by decide +kernel
theorem dL_law_2303 : decode cL_law 2303 = .ok (.ireturn, 1) := by decide +kernel
theorem dL_law_2304 : decode cL_law 2304 = .ok (.iload 6, 2) := by decide +kernel
theorem dL_law_2306 : decode cL_law 2306 = .ok (.ifCond .ne 15, 3) := by decide +kernel
theorem dL_law_2309 : decode cL_law 2309 = .ok (.aload_n 3, 1) := by decide +kernel
theorem dL_law_2310 : decode cL_law 2310 = .ok (.iconst 0, 1) := by decide +kernel
theorem dL_law_2311 : decode cL_law 2311 = .ok (.laload, 1) := by decide +kernel
theorem dL_law_2312 : decode cL_law 2312 = .ok (.iload 7, 2) := by decide +kernel
theorem dL_law_2314 : decode cL_law 2314 = .ok (.i2l, 1) := by decide +kernel
theorem dL_law_2315 : decode cL_law 2315 = .ok (.lcmp, 1) := by decide +kernel
theorem dL_law_2316 : decode cL_law 2316 = .ok (.ifCond .eq 5, 3) := by decide +kernel
theorem dL_law_2319 : decode cL_law 2319 = .ok (.iconst 0, 1) := by decide +kernel
theorem dL_law_2320 : decode cL_law 2320 = .ok (.ireturn, 1) := by decide +kernel
theorem dL_law_2321 : decode cL_law 2321 = .ok (.goto 1806, 3) := by decide +kernel
theorem dL_law_2324 : decode cL_law 2324 = .ok (.aload_n 1, 1) := by decide +kernel
theorem dL_law_2325 : decode cL_law 2325 = .ok (.aload_n 0, 1) := by decide +kernel
theorem dL_law_2326 : decode cL_law 2326 = .ok (.iload 5, 2) := by decide +kernel
theorem dL_law_2328 : decode cL_law 2328 = .ok (.iconst 1, 1) := by decide +kernel
theorem dL_law_2329 : decode cL_law 2329 = .ok (.iadd, 1) := by decide +kernel
theorem dL_law_2330 : decode cL_law 2330 = .ok (.iaload, 1) := by decide +kernel
theorem dL_law_2331 : decode cL_law 2331 = .ok (.aload_n 0, 1) := by decide +kernel
theorem dL_law_2332 : decode cL_law 2332 = .ok (.iload 5, 2) := by decide +kernel
theorem dL_law_2334 : decode cL_law 2334 = .ok (.iconst 2, 1) := by decide +kernel
theorem dL_law_2335 : decode cL_law 2335 = .ok (.iadd, 1) := by decide +kernel
theorem dL_law_2336 : decode cL_law 2336 = .ok (.iaload, 1) := by decide +kernel
theorem dL_law_2337 : decode cL_law 2337 = .ok (.aload_n 0, 1) := by decide +kernel
theorem dL_law_2338 : decode cL_law 2338 = .ok (.iload 5, 2) := by decide +kernel
theorem dL_law_2340 : decode cL_law 2340 = .ok (.iconst 3, 1) := by decide +kernel
theorem dL_law_2341 : decode cL_law 2341 = .ok (.iadd, 1) := by decide +kernel
theorem dL_law_2342 : decode cL_law 2342 = .ok (.iaload, 1) := by decide +kernel
theorem dL_law_2343 : decode cL_law 2343 = .ok (.aload_n 3, 1) := by decide +kernel
theorem dL_law_2344 : decode cL_law 2344 = .ok (.invokestatic 310, 3) := by decide +kernel
theorem dL_law_2347 : decode cL_law 2347 = .ok (.istore 6, 2) := by decide +kernel
theorem dL_law_2349 : decode cL_law 2349 = .ok (.aload_n 2, 1) := by decide +kernel
theorem dL_law_2350 : decode cL_law 2350 = .ok (.aload_n 0, 1) := by decide +kernel
theorem dL_law_2351 : decode cL_law 2351 = .ok (.iload 5, 2) := by decide +kernel
theorem dL_law_2353 : decode cL_law 2353 = .ok (.iconst 1, 1) := by decide +kernel
theorem dL_law_2354 : decode cL_law 2354 = .ok (.iadd, 1) := by decide +kernel
theorem dL_law_2355 : decode cL_law 2355 = .ok (.iaload, 1) := by decide +kernel
theorem dL_law_2356 : decode cL_law 2356 = .ok (.aload_n 0, 1) := by decide +kernel
theorem dL_law_2357 : decode cL_law 2357 = .ok (.iload 5, 2) := by decide +kernel
theorem dL_law_2359 : decode cL_law 2359 = .ok (.iconst 2, 1) := by decide +kernel
theorem dL_law_2360 : decode cL_law 2360 = .ok (.iadd, 1) := by decide +kernel
theorem dL_law_2361 : decode cL_law 2361 = .ok (.iaload, 1) := by decide +kernel
theorem dL_law_2362 : decode cL_law 2362 = .ok (.aload_n 0, 1) := by decide +kernel
theorem dL_law_2363 : decode cL_law 2363 = .ok (.iload 5, 2) := by decide +kernel
theorem dL_law_2365 : decode cL_law 2365 = .ok (.iconst 3, 1) := by decide +kernel
theorem dL_law_2366 : decode cL_law 2366 = .ok (.iadd, 1) := by decide +kernel
theorem dL_law_2367 : decode cL_law 2367 = .ok (.iaload, 1) := by decide +kernel
theorem dL_law_2368 : decode cL_law 2368 = .ok (.invokevirtual 312, 3) := by decide +kernel
theorem dL_law_2371 : decode cL_law 2371 = .ok (.istore 7, 2) := by decide +kernel
theorem dL_law_2373 : decode cL_law 2373 = .ok (.aload_n 2, 1) := by decide +kernel
theorem dL_law_2374 : decode cL_law 2374 = .ok (.invokevirtual 222, 3) := by decide +kernel
theorem dL_law_2377 : decode cL_law 2377 = .ok (.iload 6, 2) := by decide +kernel
theorem dL_law_2379 : decode cL_law 2379 = .ok (.if_icmp .eq 5, 3) := by decide +kernel
theorem dL_law_2382 : decode cL_law 2382 = .ok (.iconst 0, 1) := by decide +kernel
theorem dL_law_2383 : decode cL_law 2383 = .ok (.ireturn, 1) := by decide +kernel
theorem dL_law_2384 : decode cL_law 2384 = .ok (.iload 6, 2) := by decide +kernel
theorem dL_law_2386 : decode cL_law 2386 = .ok (.ifCond .ne 15, 3) := by decide +kernel
theorem dL_law_2389 : decode cL_law 2389 = .ok (.aload_n 3, 1) := by decide +kernel
theorem dL_law_2390 : decode cL_law 2390 = .ok (.iconst 0, 1) := by decide +kernel
theorem dL_law_2391 : decode cL_law 2391 = .ok (.laload, 1) := by decide +kernel
theorem dL_law_2392 : decode cL_law 2392 = .ok (.iload 7, 2) := by decide +kernel
theorem dL_law_2394 : decode cL_law 2394 = .ok (.i2l, 1) := by decide +kernel
theorem dL_law_2395 : decode cL_law 2395 = .ok (.lcmp, 1) := by decide +kernel
theorem dL_law_2396 : decode cL_law 2396 = .ok (.ifCond .eq 5, 3) := by decide +kernel
theorem dL_law_2399 : decode cL_law 2399 = .ok (.iconst 0, 1) := by decide +kernel
theorem dL_law_2400 : decode cL_law 2400 = .ok (.ireturn, 1) := by decide +kernel
theorem dL_law_2401 : decode cL_law 2401 = .ok (.goto 1726, 3) := by decide +kernel
theorem dL_law_2404 : decode cL_law 2404 = .ok (.aload_n 1, 1) := by decide +kernel
theorem dL_law_2405 : decode cL_law 2405 = .ok (.aload_n 0, 1) := by decide +kernel
theorem dL_law_2406 : decode cL_law 2406 = .ok (.iload 5, 2) := by decide +kernel
theorem dL_law_2408 : decode cL_law 2408 = .ok (.iconst 1, 1) := by decide +kernel
theorem dL_law_2409 : decode cL_law 2409 = .ok (.iadd, 1) := by decide +kernel
theorem dL_law_2410 : decode cL_law 2410 = .ok (.iaload, 1) := by decide +kernel
theorem dL_law_2411 : decode cL_law 2411 = .ok (.aload_n 0, 1) := by decide +kernel
theorem dL_law_2412 : decode cL_law 2412 = .ok (.iload 5, 2) := by decide +kernel
theorem dL_law_2414 : decode cL_law 2414 = .ok (.iconst 2, 1) := by decide +kernel
theorem dL_law_2415 : decode cL_law 2415 = .ok (.iadd, 1) := by decide +kernel
theorem dL_law_2416 : decode cL_law 2416 = .ok (.iaload, 1) := by decide +kernel
theorem dL_law_2417 : decode cL_law 2417 = .ok (.aload_n 0, 1) := by decide +kernel
theorem dL_law_2418 : decode cL_law 2418 = .ok (.iload 5, 2) := by decide +kernel
theorem dL_law_2420 : decode cL_law 2420 = .ok (.iconst 3, 1) := by decide +kernel
theorem dL_law_2421 : decode cL_law 2421 = .ok (.iadd, 1) := by decide +kernel
theorem dL_law_2422 : decode cL_law 2422 = .ok (.iaload, 1) := by decide +kernel
theorem dL_law_2423 : decode cL_law 2423 = .ok (.aload_n 3, 1) := by decide +kernel
theorem dL_law_2424 : decode cL_law 2424 = .ok (.invokestatic 313, 3) := by decide +kernel
theorem dL_law_2427 : decode cL_law 2427 = .ok (.istore 6, 2) := by decide +kernel
theorem dL_law_2429 : decode cL_law 2429 = .ok (.aload_n 2, 1) := by decide +kernel
theorem dL_law_2430 : decode cL_law 2430 = .ok (.aload_n 0, 1) := by decide +kernel
theorem dL_law_2431 : decode cL_law 2431 = .ok (.iload 5, 2) := by decide +kernel
theorem dL_law_2433 : decode cL_law 2433 = .ok (.iconst 1, 1) := by decide +kernel
theorem dL_law_2434 : decode cL_law 2434 = .ok (.iadd, 1) := by decide +kernel
theorem dL_law_2435 : decode cL_law 2435 = .ok (.iaload, 1) := by decide +kernel
theorem dL_law_2436 : decode cL_law 2436 = .ok (.aload_n 0, 1) := by decide +kernel
theorem dL_law_2437 : decode cL_law 2437 = .ok (.iload 5, 2) := by decide +kernel
theorem dL_law_2439 : decode cL_law 2439 = .ok (.iconst 2, 1) := by decide +kernel
theorem dL_law_2440 : decode cL_law 2440 = .ok (.iadd, 1) := by decide +kernel
theorem dL_law_2441 : decode cL_law 2441 = .ok (.iaload, 1) := by decide +kernel
theorem dL_law_2442 : decode cL_law 2442 = .ok (.aload_n 0, 1) := by decide +kernel
theorem dL_law_2443 : decode cL_law 2443 = .ok (.iload 5, 2) := by decide +kernel
theorem dL_law_2445 : decode cL_law 2445 = .ok (.iconst 3, 1) := by decide +kernel
theorem dL_law_2446 : decode cL_law 2446 = .ok (.iadd, 1) := by decide +kernel
theorem dL_law_2447 : decode cL_law 2447 = .ok (.iaload, 1) := by decide +kernel
theorem dL_law_2448 : decode cL_law 2448 = .ok (.invokevirtual 315, 3) := by decide +kernel
theorem dL_law_2451 : decode cL_law 2451 = .ok (.istore 7, 2) := by decide +kernel
theorem dL_law_2453 : decode cL_law 2453 = .ok (.aload_n 2, 1) := by decide +kernel
theorem dL_law_2454 : decode cL_law 2454 = .ok (.invokevirtual 222, 3) := by decide +kernel
theorem dL_law_2457 : decode cL_law 2457 = .ok (.iload 6, 2) := by decide +kernel
theorem dL_law_2459 : decode cL_law 2459 = .ok (.if_icmp .eq 5, 3) := by decide +kernel
theorem dL_law_2462 : decode cL_law 2462 = .ok (.iconst 0, 1) := by decide +kernel
theorem dL_law_2463 : decode cL_law 2463 = .ok (.ireturn, 1) := by decide +kernel
theorem dL_law_2464 : decode cL_law 2464 = .ok (.iload 6, 2) := by decide +kernel
theorem dL_law_2466 : decode cL_law 2466 = .ok (.ifCond .ne 15, 3) := by decide +kernel
theorem dL_law_2469 : decode cL_law 2469 = .ok (.aload_n 3, 1) := by decide +kernel
theorem dL_law_2470 : decode cL_law 2470 = .ok (.iconst 0, 1) := by decide +kernel
theorem dL_law_2471 : decode cL_law 2471 = .ok (.laload, 1) := by decide +kernel
theorem dL_law_2472 : decode cL_law 2472 = .ok (.iload 7, 2) := by decide +kernel
theorem dL_law_2474 : decode cL_law 2474 = .ok (.i2l, 1) := by decide +kernel
theorem dL_law_2475 : decode cL_law 2475 = .ok (.lcmp, 1) := by decide +kernel
theorem dL_law_2476 : decode cL_law 2476 = .ok (.ifCond .eq 5, 3) := by decide +kernel
theorem dL_law_2479 : decode cL_law 2479 = .ok (.iconst 0, 1) := by decide +kernel
theorem dL_law_2480 : decode cL_law 2480 = .ok (.ireturn, 1) := by decide +kernel
theorem dL_law_2481 : decode cL_law 2481 = .ok (.goto 1646, 3) := by decide +kernel
theorem dL_law_2484 : decode cL_law 2484 = .ok (.aload_n 1, 1) := by decide +kernel
theorem dL_law_2485 : decode cL_law 2485 = .ok (.aload_n 0, 1) := by decide +kernel
theorem dL_law_2486 : decode cL_law 2486 = .ok (.iload 5, 2) := by decide +kernel
theorem dL_law_2488 : decode cL_law 2488 = .ok (.iconst 1, 1) := by decide +kernel
theorem dL_law_2489 : decode cL_law 2489 = .ok (.iadd, 1) := by decide +kernel
theorem dL_law_2490 : decode cL_law 2490 = .ok (.iaload, 1) := by decide +kernel
theorem dL_law_2491 : decode cL_law 2491 = .ok (.aload_n 0, 1) := by decide +kernel
theorem dL_law_2492 : decode cL_law 2492 = .ok (.iload 5, 2) := by decide +kernel
theorem dL_law_2494 : decode cL_law 2494 = .ok (.iconst 2, 1) := by decide +kernel
theorem dL_law_2495 : decode cL_law 2495 = .ok (.iadd, 1) := by decide +kernel
theorem dL_law_2496 : decode cL_law 2496 = .ok (.iaload, 1) := by decide +kernel
theorem dL_law_2497 : decode cL_law 2497 = .ok (.aload_n 3, 1) := by decide +kernel
theorem dL_law_2498 : decode cL_law 2498 = .ok (.invokestatic 316, 3) := by decide +kernel
theorem dL_law_2501 : decode cL_law 2501 = .ok (.istore 6, 2) := by decide +kernel
theorem dL_law_2503 : decode cL_law 2503 = .ok (.aload_n 2, 1) := by decide +kernel
theorem dL_law_2504 : decode cL_law 2504 = .ok (.aload_n 0, 1) := by decide +kernel
theorem dL_law_2505 : decode cL_law 2505 = .ok (.iload 5, 2) := by decide +kernel
theorem dL_law_2507 : decode cL_law 2507 = .ok (.iconst 1, 1) := by decide +kernel
theorem dL_law_2508 : decode cL_law 2508 = .ok (.iadd, 1) := by decide +kernel
theorem dL_law_2509 : decode cL_law 2509 = .ok (.iaload, 1) := by decide +kernel
theorem dL_law_2510 : decode cL_law 2510 = .ok (.aload_n 0, 1) := by decide +kernel
theorem dL_law_2511 : decode cL_law 2511 = .ok (.iload 5, 2) := by decide +kernel
theorem dL_law_2513 : decode cL_law 2513 = .ok (.iconst 2, 1) := by decide +kernel
theorem dL_law_2514 : decode cL_law 2514 = .ok (.iadd, 1) := by decide +kernel
theorem dL_law_2515 : decode cL_law 2515 = .ok (.iaload, 1) := by decide +kernel
theorem dL_law_2516 : decode cL_law 2516 = .ok (.invokevirtual 318, 3) := by decide +kernel
theorem dL_law_2519 : decode cL_law 2519 = .ok (.istore 7, 2) := by decide +kernel
theorem dL_law_2521 : decode cL_law 2521 = .ok (.aload_n 2, 1) := by decide +kernel
theorem dL_law_2522 : decode cL_law 2522 = .ok (.invokevirtual 222, 3) := by decide +kernel
theorem dL_law_2525 : decode cL_law 2525 = .ok (.iload 6, 2) := by decide +kernel
theorem dL_law_2527 : decode cL_law 2527 = .ok (.if_icmp .eq 5, 3) := by decide +kernel
theorem dL_law_2530 : decode cL_law 2530 = .ok (.iconst 0, 1) := by decide +kernel
theorem dL_law_2531 : decode cL_law 2531 = .ok (.ireturn, 1) := by decide +kernel
theorem dL_law_2532 : decode cL_law 2532 = .ok (.iload 6, 2) := by decide +kernel
theorem dL_law_2534 : decode cL_law 2534 = .ok (.ifCond .ne 15, 3) := by decide +kernel
theorem dL_law_2537 : decode cL_law 2537 = .ok (.aload_n 3, 1) := by decide +kernel
theorem dL_law_2538 : decode cL_law 2538 = .ok (.iconst 0, 1) := by decide +kernel
theorem dL_law_2539 : decode cL_law 2539 = .ok (.laload, 1) := by decide +kernel
theorem dL_law_2540 : decode cL_law 2540 = .ok (.iload 7, 2) := by decide +kernel
theorem dL_law_2542 : decode cL_law 2542 = .ok (.i2l, 1) := by decide +kernel
theorem dL_law_2543 : decode cL_law 2543 = .ok (.lcmp, 1) := by decide +kernel
theorem dL_law_2544 : decode cL_law 2544 = .ok (.ifCond .eq 5, 3) := by decide +kernel
theorem dL_law_2547 : decode cL_law 2547 = .ok (.iconst 0, 1) := by decide +kernel
theorem dL_law_2548 : decode cL_law 2548 = .ok (.ireturn, 1) := by decide +kernel
theorem dL_law_2549 : decode cL_law 2549 = .ok (.goto 1578, 3) := by decide +kernel
theorem dL_law_2552 : decode cL_law 2552 = .ok (.aload_n 1, 1) := by decide +kernel
theorem dL_law_2553 : decode cL_law 2553 = .ok (.aload_n 0, 1) := by decide +kernel
theorem dL_law_2554 : decode cL_law 2554 = .ok (.iload 5, 2) := by decide +kernel
theorem dL_law_2556 : decode cL_law 2556 = .ok (.iconst 1, 1) := by decide +kernel
theorem dL_law_2557 : decode cL_law 2557 = .ok (.iadd, 1) := by decide +kernel
theorem dL_law_2558 : decode cL_law 2558 = .ok (.iaload, 1) := by decide +kernel
theorem dL_law_2559 : decode cL_law 2559 = .ok (.aload_n 0, 1) := by decide +kernel
theorem dL_law_2560 : decode cL_law 2560 = .ok (.iload 5, 2) := by decide +kernel
theorem dL_law_2562 : decode cL_law 2562 = .ok (.iconst 2, 1) := by decide +kernel
theorem dL_law_2563 : decode cL_law 2563 = .ok (.iadd, 1) := by decide +kernel
theorem dL_law_2564 : decode cL_law 2564 = .ok (.iaload, 1) := by decide +kernel
theorem dL_law_2565 : decode cL_law 2565 = .ok (.aload_n 3, 1) := by decide +kernel
theorem dL_law_2566 : decode cL_law 2566 = .ok (.invokestatic 319, 3) := by decide +kernel
theorem dL_law_2569 : decode cL_law 2569 = .ok (.istore 6, 2) := by decide +kernel
theorem dL_law_2571 : decode cL_law 2571 = .ok (.aload_n 2, 1) := by decide +kernel
theorem dL_law_2572 : decode cL_law 2572 = .ok (.aload_n 0, 1) := by decide +kernel
theorem dL_law_2573 : decode cL_law 2573 = .ok (.iload 5, 2) := by decide +kernel
theorem dL_law_2575 : decode cL_law 2575 = .ok (.iconst 1, 1) := by decide +kernel
theorem dL_law_2576 : decode cL_law 2576 = .ok (.iadd, 1) := by decide +kernel
theorem dL_law_2577 : decode cL_law 2577 = .ok (.iaload, 1) := by decide +kernel
theorem dL_law_2578 : decode cL_law 2578 = .ok (.aload_n 0, 1) := by decide +kernel
theorem dL_law_2579 : decode cL_law 2579 = .ok (.iload 5, 2) := by decide +kernel
theorem dL_law_2581 : decode cL_law 2581 = .ok (.iconst 2, 1) := by decide +kernel
theorem dL_law_2582 : decode cL_law 2582 = .ok (.iadd, 1) := by decide +kernel
theorem dL_law_2583 : decode cL_law 2583 = .ok (.iaload, 1) := by decide +kernel
theorem dL_law_2584 : decode cL_law 2584 = .ok (.invokevirtual 321, 3) := by decide +kernel
theorem dL_law_2587 : decode cL_law 2587 = .ok (.lstore 7, 2) := by decide +kernel
theorem dL_law_2589 : decode cL_law 2589 = .ok (.aload_n 2, 1) := by decide +kernel
theorem dL_law_2590 : decode cL_law 2590 = .ok (.invokevirtual 222, 3) := by decide +kernel
theorem dL_law_2593 : decode cL_law 2593 = .ok (.iload 6, 2) := by decide +kernel
theorem dL_law_2595 : decode cL_law 2595 = .ok (.if_icmp .eq 5, 3) := by decide +kernel
theorem dL_law_2598 : decode cL_law 2598 = .ok (.iconst 0, 1) := by decide +kernel
theorem dL_law_2599 : decode cL_law 2599 = .ok (.ireturn, 1) := by decide +kernel
theorem dL_law_2600 : decode cL_law 2600 = .ok (.iload 6, 2) := by decide +kernel
theorem dL_law_2602 : decode cL_law 2602 = .ok (.ifCond .ne 14, 3) := by decide +kernel
theorem dL_law_2605 : decode cL_law 2605 = .ok (.aload_n 3, 1) := by decide +kernel
theorem dL_law_2606 : decode cL_law 2606 = .ok (.iconst 0, 1) := by decide +kernel
theorem dL_law_2607 : decode cL_law 2607 = .ok (.laload, 1) := by decide +kernel
theorem dL_law_2608 : decode cL_law 2608 = .ok (.lload 7, 2) := by decide +kernel
theorem dL_law_2610 : decode cL_law 2610 = .ok (.lcmp, 1) := by decide +kernel
theorem dL_law_2611 : decode cL_law 2611 = .ok (.ifCond .eq 5, 3) := by decide +kernel
theorem dL_law_2614 : decode cL_law 2614 = .ok (.iconst 0, 1) := by decide +kernel
theorem dL_law_2615 : decode cL_law 2615 = .ok (.ireturn, 1) := by decide +kernel
theorem dL_law_2616 : decode cL_law 2616 = .ok (.goto 1511, 3) := by decide +kernel
theorem dL_law_2619 : decode cL_law 2619 = .ok (.aload_n 1, 1) := by decide +kernel
theorem dL_law_2620 : decode cL_law 2620 = .ok (.aload_n 0, 1) := by decide +kernel
theorem dL_law_2621 : decode cL_law 2621 = .ok (.iload 5, 2) := by decide +kernel
theorem dL_law_2623 : decode cL_law 2623 = .ok (.iconst 1, 1) := by decide +kernel
theorem dL_law_2624 : decode cL_law 2624 = .ok (.iadd, 1) := by decide +kernel
theorem dL_law_2625 : decode cL_law 2625 = .ok (.iaload, 1) := by decide +kernel
theorem dL_law_2626 : decode cL_law 2626 = .ok (.aload_n 0, 1) := by decide +kernel
theorem dL_law_2627 : decode cL_law 2627 = .ok (.iload 5, 2) := by decide +kernel
theorem dL_law_2629 : decode cL_law 2629 = .ok (.iconst 2, 1) := by decide +kernel
theorem dL_law_2630 : decode cL_law 2630 = .ok (.iadd, 1) := by decide +kernel
theorem dL_law_2631 : decode cL_law 2631 = .ok (.iaload, 1) := by decide +kernel
theorem dL_law_2632 : decode cL_law 2632 = .ok (.aload_n 3, 1) := by decide +kernel
theorem dL_law_2633 : decode cL_law 2633 = .ok (.invokestatic 322, 3) := by decide +kernel
theorem dL_law_2636 : decode cL_law 2636 = .ok (.istore 6, 2) := by decide +kernel
theorem dL_law_2638 : decode cL_law 2638 = .ok (.aload_n 2, 1) := by decide +kernel
theorem dL_law_2639 : decode cL_law 2639 = .ok (.aload_n 0, 1) := by decide +kernel
theorem dL_law_2640 : decode cL_law 2640 = .ok (.iload 5, 2) := by decide +kernel
theorem dL_law_2642 : decode cL_law 2642 = .ok (.iconst 1, 1) := by decide +kernel
theorem dL_law_2643 : decode cL_law 2643 = .ok (.iadd, 1) := by decide +kernel
theorem dL_law_2644 : decode cL_law 2644 = .ok (.iaload, 1) := by decide +kernel
theorem dL_law_2645 : decode cL_law 2645 = .ok (.aload_n 0, 1) := by decide +kernel
theorem dL_law_2646 : decode cL_law 2646 = .ok (.iload 5, 2) := by decide +kernel
theorem dL_law_2648 : decode cL_law 2648 = .ok (.iconst 2, 1) := by decide +kernel
theorem dL_law_2649 : decode cL_law 2649 = .ok (.iadd, 1) := by decide +kernel
theorem dL_law_2650 : decode cL_law 2650 = .ok (.iaload, 1) := by decide +kernel
theorem dL_law_2651 : decode cL_law 2651 = .ok (.invokevirtual 324, 3) := by decide +kernel
theorem dL_law_2654 : decode cL_law 2654 = .ok (.lstore 7, 2) := by decide +kernel
theorem dL_law_2656 : decode cL_law 2656 = .ok (.aload_n 2, 1) := by decide +kernel
theorem dL_law_2657 : decode cL_law 2657 = .ok (.invokevirtual 222, 3) := by decide +kernel
theorem dL_law_2660 : decode cL_law 2660 = .ok (.iload 6, 2) := by decide +kernel
theorem dL_law_2662 : decode cL_law 2662 = .ok (.if_icmp .eq 5, 3) := by decide +kernel
theorem dL_law_2665 : decode cL_law 2665 = .ok (.iconst 0, 1) := by decide +kernel
theorem dL_law_2666 : decode cL_law 2666 = .ok (.ireturn, 1) := by decide +kernel
theorem dL_law_2667 : decode cL_law 2667 = .ok (.iload 6, 2) := by decide +kernel
theorem dL_law_2669 : decode cL_law 2669 = .ok (.ifCond .ne 14, 3) := by decide +kernel
theorem dL_law_2672 : decode cL_law 2672 = .ok (.aload_n 3, 1) := by decide +kernel
theorem dL_law_2673 : decode cL_law 2673 = .ok (.iconst 0, 1) := by decide +kernel
theorem dL_law_2674 : decode cL_law 2674 = .ok (.laload, 1) := by decide +kernel
theorem dL_law_2675 : decode cL_law 2675 = .ok (.lload 7, 2) := by decide +kernel
theorem dL_law_2677 : decode cL_law 2677 = .ok (.lcmp, 1) := by decide +kernel
theorem dL_law_2678 : decode cL_law 2678 = .ok (.ifCond .eq 5, 3) := by decide +kernel
theorem dL_law_2681 : decode cL_law 2681 = .ok (.iconst 0, 1) := by decide +kernel
theorem dL_law_2682 : decode cL_law 2682 = .ok (.ireturn, 1) := by decide +kernel
theorem dL_law_2683 : decode cL_law 2683 = .ok (.goto 1444, 3) := by decide +kernel
theorem dL_law_2686 : decode cL_law 2686 = .ok (.aload_n 1, 1) := by decide +kernel
theorem dL_law_2687 : decode cL_law 2687 = .ok (.aload_n 0, 1) := by decide +kernel
theorem dL_law_2688 : decode cL_law 2688 = .ok (.iload 5, 2) := by decide +kernel
theorem dL_law_2690 : decode cL_law 2690 = .ok (.iconst 1, 1) := by decide +kernel
theorem dL_law_2691 : decode cL_law 2691 = .ok (.iadd, 1) := by decide +kernel
theorem dL_law_2692 : decode cL_law 2692 = .ok (.iaload, 1) := by decide +kernel
theorem dL_law_2693 : decode cL_law 2693 = .ok (.aload_n 0, 1) := by decide +kernel
theorem dL_law_2694 : decode cL_law 2694 = .ok (.iload 5, 2) := by decide +kernel
theorem dL_law_2696 : decode cL_law 2696 = .ok (.iconst 2, 1) := by decide +kernel
theorem dL_law_2697 : decode cL_law 2697 = .ok (.iadd, 1) := by decide +kernel
theorem dL_law_2698 : decode cL_law 2698 = .ok (.iaload, 1) := by decide +kernel
theorem dL_law_2699 : decode cL_law 2699 = .ok (.aload_n 3, 1) := by decide +kernel
theorem dL_law_2700 : decode cL_law 2700 = .ok (.invokestatic 325, 3) := by decide +kernel
theorem dL_law_2703 : decode cL_law 2703 = .ok (.istore 6, 2) := by decide +kernel
theorem dL_law_2705 : decode cL_law 2705 = .ok (.aload_n 2, 1) := by decide +kernel
theorem dL_law_2706 : decode cL_law 2706 = .ok (.aload_n 0, 1) := by decide +kernel
theorem dL_law_2707 : decode cL_law 2707 = .ok (.iload 5, 2) := by decide +kernel
theorem dL_law_2709 : decode cL_law 2709 = .ok (.iconst 1, 1) := by decide +kernel
theorem dL_law_2710 : decode cL_law 2710 = .ok (.iadd, 1) := by decide +kernel
theorem dL_law_2711 : decode cL_law 2711 = .ok (.iaload, 1) := by decide +kernel
theorem dL_law_2712 : decode cL_law 2712 = .ok (.aload_n 0, 1) := by decide +kernel
theorem dL_law_2713 : decode cL_law 2713 = .ok (.iload 5, 2) := by decide +kernel
theorem dL_law_2715 : decode cL_law 2715 = .ok (.iconst 2, 1) := by decide +kernel
theorem dL_law_2716 : decode cL_law 2716 = .ok (.iadd, 1) := by decide +kernel
theorem dL_law_2717 : decode cL_law 2717 = .ok (.iaload, 1) := by decide +kernel
theorem dL_law_2718 : decode cL_law 2718 = .ok (.invokevirtual 327, 3) := by decide +kernel
theorem dL_law_2721 : decode cL_law 2721 = .ok (.istore 7, 2) := by decide +kernel
theorem dL_law_2723 : decode cL_law 2723 = .ok (.aload_n 2, 1) := by decide +kernel
theorem dL_law_2724 : decode cL_law 2724 = .ok (.invokevirtual 222, 3) := by decide +kernel
theorem dL_law_2727 : decode cL_law 2727 = .ok (.iload 6, 2) := by decide +kernel
theorem dL_law_2729 : decode cL_law 2729 = .ok (.if_icmp .eq 5, 3) := by decide +kernel
theorem dL_law_2732 : decode cL_law 2732 = .ok (.iconst 0, 1) := by decide +kernel
theorem dL_law_2733 : decode cL_law 2733 = .ok (.ireturn, 1) := by decide +kernel
theorem dL_law_2734 : decode cL_law 2734 = .ok (.iload 6, 2) := by decide +kernel
theorem dL_law_2736 : decode cL_law 2736 = .ok (.ifCond .ne 15, 3) := by decide +kernel
theorem dL_law_2739 : decode cL_law 2739 = .ok (.aload_n 3, 1) := by decide +kernel
theorem dL_law_2740 : decode cL_law 2740 = .ok (.iconst 0, 1) := by decide +kernel
theorem dL_law_2741 : decode cL_law 2741 = .ok (.laload, 1) := by decide +kernel
theorem dL_law_2742 : decode cL_law 2742 = .ok (.iload 7, 2) := by decide +kernel
theorem dL_law_2744 : decode cL_law 2744 = .ok (.i2l, 1) := by decide +kernel
theorem dL_law_2745 : decode cL_law 2745 = .ok (.lcmp, 1) := by decide +kernel
theorem dL_law_2746 : decode cL_law 2746 = .ok (.ifCond .eq 5, 3) := by decide +kernel
theorem dL_law_2749 : decode cL_law 2749 = .ok (.iconst 0, 1) := by decide +kernel
theorem dL_law_2750 : decode cL_law 2750 = .ok (.ireturn, 1) := by decide +kernel
theorem dL_law_2751 : decode cL_law 2751 = .ok (.goto 1376, 3) := by decide +kernel
theorem dL_law_2754 : decode cL_law 2754 = .ok (.aload_n 1, 1) := by decide +kernel
theorem dL_law_2755 : decode cL_law 2755 = .ok (.aload_n 0, 1) := by decide +kernel
theorem dL_law_2756 : decode cL_law 2756 = .ok (.iload 5, 2) := by decide +kernel
theorem dL_law_2758 : decode cL_law 2758 = .ok (.iconst 1, 1) := by decide +kernel
theorem dL_law_2759 : decode cL_law 2759 = .ok (.iadd, 1) := by decide +kernel
theorem dL_law_2760 : decode cL_law 2760 = .ok (.iaload, 1) := by decide +kernel
theorem dL_law_2761 : decode cL_law 2761 = .ok (.aload_n 0, 1) := by decide +kernel
theorem dL_law_2762 : decode cL_law 2762 = .ok (.iload 5, 2) := by decide +kernel
theorem dL_law_2764 : decode cL_law 2764 = .ok (.iconst 2, 1) := by decide +kernel
theorem dL_law_2765 : decode cL_law 2765 = .ok (.iadd, 1) := by decide +kernel
theorem dL_law_2766 : decode cL_law 2766 = .ok (.iaload, 1) := by decide +kernel
theorem dL_law_2767 : decode cL_law 2767 = .ok (.aload_n 3, 1) := by decide +kernel
theorem dL_law_2768 : decode cL_law 2768 = .ok (.invokestatic 328, 3) := by decide +kernel
theorem dL_law_2771 : decode cL_law 2771 = .ok (.istore 6, 2) := by decide +kernel
theorem dL_law_2773 : decode cL_law 2773 = .ok (.aload_n 2, 1) := by decide +kernel
theorem dL_law_2774 : decode cL_law 2774 = .ok (.aload_n 0, 1) := by decide +kernel
theorem dL_law_2775 : decode cL_law 2775 = .ok (.iload 5, 2) := by decide +kernel
theorem dL_law_2777 : decode cL_law 2777 = .ok (.iconst 1, 1) := by decide +kernel
theorem dL_law_2778 : decode cL_law 2778 = .ok (.iadd, 1) := by decide +kernel
theorem dL_law_2779 : decode cL_law 2779 = .ok (.iaload, 1) := by decide +kernel
theorem dL_law_2780 : decode cL_law 2780 = .ok (.aload_n 0, 1) := by decide +kernel
theorem dL_law_2781 : decode cL_law 2781 = .ok (.iload 5, 2) := by decide +kernel
theorem dL_law_2783 : decode cL_law 2783 = .ok (.iconst 2, 1) := by decide +kernel
theorem dL_law_2784 : decode cL_law 2784 = .ok (.iadd, 1) := by decide +kernel
theorem dL_law_2785 : decode cL_law 2785 = .ok (.iaload, 1) := by decide +kernel
theorem dL_law_2786 : decode cL_law 2786 = .ok (.invokevirtual 330, 3) := by decide +kernel
theorem dL_law_2789 : decode cL_law 2789 = .ok (.istore 7, 2) := by decide +kernel
theorem dL_law_2791 : decode cL_law 2791 = .ok (.aload_n 2, 1) := by decide +kernel
theorem dL_law_2792 : decode cL_law 2792 = .ok (.invokevirtual 222, 3) := by decide +kernel
theorem dL_law_2795 : decode cL_law 2795 = .ok (.iload 6, 2) := by decide +kernel
theorem dL_law_2797 : decode cL_law 2797 = .ok (.if_icmp .eq 5, 3) := by decide +kernel
theorem dL_law_2800 : decode cL_law 2800 = .ok (.iconst 0, 1) := by decide +kernel
theorem dL_law_2801 : decode cL_law 2801 = .ok (.ireturn, 1) := by decide +kernel
theorem dL_law_2802 : decode cL_law 2802 = .ok (.iload 6, 2) := by decide +kernel
theorem dL_law_2804 : decode cL_law 2804 = .ok (.ifCond .ne 15, 3) := by decide +kernel
theorem dL_law_2807 : decode cL_law 2807 = .ok (.aload_n 3, 1) := by decide +kernel
theorem dL_law_2808 : decode cL_law 2808 = .ok (.iconst 0, 1) := by decide +kernel
theorem dL_law_2809 : decode cL_law 2809 = .ok (.laload, 1) := by decide +kernel
theorem dL_law_2810 : decode cL_law 2810 = .ok (.iload 7, 2) := by decide +kernel
theorem dL_law_2812 : decode cL_law 2812 = .ok (.i2l, 1) := by decide +kernel
theorem dL_law_2813 : decode cL_law 2813 = .ok (.lcmp, 1) := by decide +kernel
theorem dL_law_2814 : decode cL_law 2814 = .ok (.ifCond .eq 5, 3) := by decide +kernel
theorem dL_law_2817 : decode cL_law 2817 = .ok (.iconst 0, 1) := by decide +kernel
theorem dL_law_2818 : decode cL_law 2818 = .ok (.ireturn, 1) := by decide +kernel
theorem dL_law_2819 : decode cL_law 2819 = .ok (.goto 1308, 3) := by decide +kernel
theorem dL_law_2822 : decode cL_law 2822 = .ok (.aload_n 1, 1) := by decide +kernel
theorem dL_law_2823 : decode cL_law 2823 = .ok (.aload_n 0, 1) := by decide +kernel
theorem dL_law_2824 : decode cL_law 2824 = .ok (.iload 5, 2) := by decide +kernel
theorem dL_law_2826 : decode cL_law 2826 = .ok (.iconst 1, 1) := by decide +kernel
theorem dL_law_2827 : decode cL_law 2827 = .ok (.iadd, 1) := by decide +kernel
theorem dL_law_2828 : decode cL_law 2828 = .ok (.iaload, 1) := by decide +kernel
theorem dL_law_2829 : decode cL_law 2829 = .ok (.aload_n 0, 1) := by decide +kernel
theorem dL_law_2830 : decode cL_law 2830 = .ok (.iload 5, 2) := by decide +kernel
theorem dL_law_2832 : decode cL_law 2832 = .ok (.iconst 2, 1) := by decide +kernel
theorem dL_law_2833 : decode cL_law 2833 = .ok (.iadd, 1) := by decide +kernel
theorem dL_law_2834 : decode cL_law 2834 = .ok (.iaload, 1) := by decide +kernel
theorem dL_law_2835 : decode cL_law 2835 = .ok (.aload_n 3, 1) := by decide +kernel
theorem dL_law_2836 : decode cL_law 2836 = .ok (.invokestatic 331, 3) := by decide +kernel
theorem dL_law_2839 : decode cL_law 2839 = .ok (.istore 6, 2) := by decide +kernel
theorem dL_law_2841 : decode cL_law 2841 = .ok (.aload_n 2, 1) := by decide +kernel
theorem dL_law_2842 : decode cL_law 2842 = .ok (.aload_n 0, 1) := by decide +kernel
theorem dL_law_2843 : decode cL_law 2843 = .ok (.iload 5, 2) := by decide +kernel
theorem dL_law_2845 : decode cL_law 2845 = .ok (.iconst 1, 1) := by decide +kernel
theorem dL_law_2846 : decode cL_law 2846 = .ok (.iadd, 1) := by decide +kernel
theorem dL_law_2847 : decode cL_law 2847 = .ok (.iaload, 1) := by decide +kernel
theorem dL_law_2848 : decode cL_law 2848 = .ok (.aload_n 0, 1) := by decide +kernel
theorem dL_law_2849 : decode cL_law 2849 = .ok (.iload 5, 2) := by decide +kernel
theorem dL_law_2851 : decode cL_law 2851 = .ok (.iconst 2, 1) := by decide +kernel
theorem dL_law_2852 : decode cL_law 2852 = .ok (.iadd, 1) := by decide +kernel
theorem dL_law_2853 : decode cL_law 2853 = .ok (.iaload, 1) := by decide +kernel
theorem dL_law_2854 : decode cL_law 2854 = .ok (.invokevirtual 333, 3) := by decide +kernel
theorem dL_law_2857 : decode cL_law 2857 = .ok (.istore 7, 2) := by decide +kernel
theorem dL_law_2859 : decode cL_law 2859 = .ok (.aload_n 2, 1) := by decide +kernel
theorem dL_law_2860 : decode cL_law 2860 = .ok (.invokevirtual 222, 3) := by decide +kernel
theorem dL_law_2863 : decode cL_law 2863 = .ok (.iload 6, 2) := by decide +kernel
theorem dL_law_2865 : decode cL_law 2865 = .ok (.if_icmp .eq 5, 3) := by decide +kernel
theorem dL_law_2868 : decode cL_law 2868 = .ok (.iconst 0, 1) := by decide +kernel
theorem dL_law_2869 : decode cL_law 2869 = .ok (.ireturn, 1) := by decide +kernel
theorem dL_law_2870 : decode cL_law 2870 = .ok (.iload 6, 2) := by decide +kernel
theorem dL_law_2872 : decode cL_law 2872 = .ok (.ifCond .ne 15, 3) := by decide +kernel
theorem dL_law_2875 : decode cL_law 2875 = .ok (.aload_n 3, 1) := by decide +kernel
theorem dL_law_2876 : decode cL_law 2876 = .ok (.iconst 0, 1) := by decide +kernel
theorem dL_law_2877 : decode cL_law 2877 = .ok (.laload, 1) := by decide +kernel
theorem dL_law_2878 : decode cL_law 2878 = .ok (.iload 7, 2) := by decide +kernel
theorem dL_law_2880 : decode cL_law 2880 = .ok (.i2l, 1) := by decide +kernel
theorem dL_law_2881 : decode cL_law 2881 = .ok (.lcmp, 1) := by decide +kernel
theorem dL_law_2882 : decode cL_law 2882 = .ok (.ifCond .eq 5, 3) := by decide +kernel
theorem dL_law_2885 : decode cL_law 2885 = .ok (.iconst 0, 1) := by decide +kernel
theorem dL_law_2886 : decode cL_law 2886 = .ok (.ireturn, 1) := by decide +kernel
theorem dL_law_2887 : decode cL_law 2887 = .ok (.goto 1240, 3) := by decide +kernel
theorem dL_law_2890 : decode cL_law 2890 = .ok (.aload_n 1, 1) := by decide +kernel
theorem dL_law_2891 : decode cL_law 2891 = .ok (.aload_n 0, 1) := by decide +kernel
theorem dL_law_2892 : decode cL_law 2892 = .ok (.iload 5, 2) := by decide +kernel
theorem dL_law_2894 : decode cL_law 2894 = .ok (.iconst 1, 1) := by decide +kernel
theorem dL_law_2895 : decode cL_law 2895 = .ok (.iadd, 1) := by decide +kernel
theorem dL_law_2896 : decode cL_law 2896 = .ok (.iaload, 1) := by decide +kernel
theorem dL_law_2897 : decode cL_law 2897 = .ok (.aload_n 3, 1) := by decide +kernel
theorem dL_law_2898 : decode cL_law 2898 = .ok (.invokestatic 334, 3) := by decide +kernel
theorem dL_law_2901 : decode cL_law 2901 = .ok (.istore 6, 2) := by decide +kernel
theorem dL_law_2903 : decode cL_law 2903 = .ok (.aload_n 2, 1) := by decide +kernel
theorem dL_law_2904 : decode cL_law 2904 = .ok (.aload_n 0, 1) := by decide +kernel
theorem dL_law_2905 : decode cL_law 2905 = .ok (.iload 5, 2) := by decide +kernel
theorem dL_law_2907 : decode cL_law 2907 = .ok (.iconst 1, 1) := by decide +kernel
theorem dL_law_2908 : decode cL_law 2908 = .ok (.iadd, 1) := by decide +kernel
theorem dL_law_2909 : decode cL_law 2909 = .ok (.iaload, 1) := by decide +kernel
theorem dL_law_2910 : decode cL_law 2910 = .ok (.invokevirtual 336, 3) := by decide +kernel
theorem dL_law_2913 : decode cL_law 2913 = .ok (.istore 7, 2) := by decide +kernel
theorem dL_law_2915 : decode cL_law 2915 = .ok (.aload_n 2, 1) := by decide +kernel
theorem dL_law_2916 : decode cL_law 2916 = .ok (.invokevirtual 222, 3) := by decide +kernel
theorem dL_law_2919 : decode cL_law 2919 = .ok (.iload 6, 2) := by decide +kernel
theorem dL_law_2921 : decode cL_law 2921 = .ok (.if_icmp .eq 5, 3) := by decide +kernel
theorem dL_law_2924 : decode cL_law 2924 = .ok (.iconst 0, 1) := by decide +kernel
theorem dL_law_2925 : decode cL_law 2925 = .ok (.ireturn, 1) := by decide +kernel
theorem dL_law_2926 : decode cL_law 2926 = .ok (.iload 6, 2) := by decide +kernel
theorem dL_law_2928 : decode cL_law 2928 = .ok (.ifCond .ne 15, 3) := by decide +kernel
theorem dL_law_2931 : decode cL_law 2931 = .ok (.aload_n 3, 1) := by decide +kernel
theorem dL_law_2932 : decode cL_law 2932 = .ok (.iconst 0, 1) := by decide +kernel
theorem dL_law_2933 : decode cL_law 2933 = .ok (.laload, 1) := by decide +kernel
theorem dL_law_2934 : decode cL_law 2934 = .ok (.iload 7, 2) := by decide +kernel
theorem dL_law_2936 : decode cL_law 2936 = .ok (.i2l, 1) := by decide +kernel
theorem dL_law_2937 : decode cL_law 2937 = .ok (.lcmp, 1) := by decide +kernel
theorem dL_law_2938 : decode cL_law 2938 = .ok (.ifCond .eq 5, 3) := by decide +kernel
theorem dL_law_2941 : decode cL_law 2941 = .ok (.iconst 0, 1) := by decide +kernel
theorem dL_law_2942 : decode cL_law 2942 = .ok (.ireturn, 1) := by decide +kernel
theorem dL_law_2943 : decode cL_law 2943 = .ok (.goto 1184, 3) := by decide +kernel
theorem dL_law_2946 : decode cL_law 2946 = .ok (.aload_n 1, 1) := by decide +kernel
theorem dL_law_2947 : decode cL_law 2947 = .ok (.aload_n 0, 1) := by decide +kernel
theorem dL_law_2948 : decode cL_law 2948 = .ok (.iload 5, 2) := by decide +kernel
theorem dL_law_2950 : decode cL_law 2950 = .ok (.iconst 1, 1) := by decide +kernel
theorem dL_law_2951 : decode cL_law 2951 = .ok (.iadd, 1) := by decide +kernel
theorem dL_law_2952 : decode cL_law 2952 = .ok (.iaload, 1) := by decide +kernel
theorem dL_law_2953 : decode cL_law 2953 = .ok (.aload_n 0, 1) := by decide +kernel
theorem dL_law_2954 : decode cL_law 2954 = .ok (.iload 5, 2) := by decide +kernel
theorem dL_law_2956 : decode cL_law 2956 = .ok (.iconst 2, 1) := by decide +kernel
theorem dL_law_2957 : decode cL_law 2957 = .ok (.iadd, 1) := by decide +kernel
theorem dL_law_2958 : decode cL_law 2958 = .ok (.iaload, 1) := by decide +kernel
theorem dL_law_2959 : decode cL_law 2959 = .ok (.aload_n 3, 1) := by decide +kernel
theorem dL_law_2960 : decode cL_law 2960 = .ok (.invokestatic 337, 3) := by decide +kernel
theorem dL_law_2963 : decode cL_law 2963 = .ok (.istore 6, 2) := by decide +kernel
theorem dL_law_2965 : decode cL_law 2965 = .ok (.aload_n 2, 1) := by decide +kernel
theorem dL_law_2966 : decode cL_law 2966 = .ok (.aload_n 0, 1) := by decide +kernel
theorem dL_law_2967 : decode cL_law 2967 = .ok (.iload 5, 2) := by decide +kernel
theorem dL_law_2969 : decode cL_law 2969 = .ok (.iconst 1, 1) := by decide +kernel
theorem dL_law_2970 : decode cL_law 2970 = .ok (.iadd, 1) := by decide +kernel
theorem dL_law_2971 : decode cL_law 2971 = .ok (.iaload, 1) := by decide +kernel
theorem dL_law_2972 : decode cL_law 2972 = .ok (.aload_n 0, 1) := by decide +kernel
theorem dL_law_2973 : decode cL_law 2973 = .ok (.iload 5, 2) := by decide +kernel
theorem dL_law_2975 : decode cL_law 2975 = .ok (.iconst 2, 1) := by decide +kernel
theorem dL_law_2976 : decode cL_law 2976 = .ok (.iadd, 1) := by decide +kernel
theorem dL_law_2977 : decode cL_law 2977 = .ok (.iaload, 1) := by decide +kernel
theorem dL_law_2978 : decode cL_law 2978 = .ok (.invokevirtual 339, 3) := by decide +kernel
theorem dL_law_2981 : decode cL_law 2981 = .ok (.istore 7, 2) := by decide +kernel
theorem dL_law_2983 : decode cL_law 2983 = .ok (.aload_n 2, 1) := by decide +kernel
theorem dL_law_2984 : decode cL_law 2984 = .ok (.invokevirtual 222, 3) := by decide +kernel
theorem dL_law_2987 : decode cL_law 2987 = .ok (.iload 6, 2) := by decide +kernel
theorem dL_law_2989 : decode cL_law 2989 = .ok (.if_icmp .eq 5, 3) := by decide +kernel
theorem dL_law_2992 : decode cL_law 2992 = .ok (.iconst 0, 1) := by decide +kernel
theorem dL_law_2993 : decode cL_law 2993 = .ok (.ireturn, 1) := by decide +kernel
theorem dL_law_2994 : decode cL_law 2994 = .ok (.iload 6, 2) := by decide +kernel
theorem dL_law_2996 : decode cL_law 2996 = .ok (.ifCond .ne 15, 3) := by decide +kernel
theorem dL_law_2999 : decode cL_law 2999 = .ok (.aload_n 3, 1) := by decide +kernel
theorem dL_law_3000 : decode cL_law 3000 = .ok (.iconst 0, 1) := by decide +kernel
theorem dL_law_3001 : decode cL_law 3001 = .ok (.laload, 1) := by decide +kernel
theorem dL_law_3002 : decode cL_law 3002 = .ok (.iload 7, 2) := by decide +kernel
theorem dL_law_3004 : decode cL_law 3004 = .ok (.i2l, 1) := by decide +kernel
theorem dL_law_3005 : decode cL_law 3005 = .ok (.lcmp, 1) := by decide +kernel
theorem dL_law_3006 : decode cL_law 3006 = .ok (.ifCond .eq 5, 3) := by decide +kernel
theorem dL_law_3009 : decode cL_law 3009 = .ok (.iconst 0, 1) := by decide +kernel
theorem dL_law_3010 : decode cL_law 3010 = .ok (.ireturn, 1) := by decide +kernel
theorem dL_law_3011 : decode cL_law 3011 = .ok (.goto 1116, 3) := by decide +kernel
theorem dL_law_3014 : decode cL_law 3014 = .ok (.aload_n 1, 1) := by decide +kernel
theorem dL_law_3015 : decode cL_law 3015 = .ok (.aload_n 0, 1) := by decide +kernel
theorem dL_law_3016 : decode cL_law 3016 = .ok (.iload 5, 2) := by decide +kernel
theorem dL_law_3018 : decode cL_law 3018 = .ok (.iconst 1, 1) := by decide +kernel
theorem dL_law_3019 : decode cL_law 3019 = .ok (.iadd, 1) := by decide +kernel
theorem dL_law_3020 : decode cL_law 3020 = .ok (.iaload, 1) := by decide +kernel
theorem dL_law_3021 : decode cL_law 3021 = .ok (.aload_n 0, 1) := by decide +kernel
theorem dL_law_3022 : decode cL_law 3022 = .ok (.iload 5, 2) := by decide +kernel
theorem dL_law_3024 : decode cL_law 3024 = .ok (.iconst 2, 1) := by decide +kernel
theorem dL_law_3025 : decode cL_law 3025 = .ok (.iadd, 1) := by decide +kernel
theorem dL_law_3026 : decode cL_law 3026 = .ok (.iaload, 1) := by decide +kernel
theorem dL_law_3027 : decode cL_law 3027 = .ok (.aload_n 3, 1) := by decide +kernel
theorem dL_law_3028 : decode cL_law 3028 = .ok (.invokestatic 340, 3) := by decide +kernel
theorem dL_law_3031 : decode cL_law 3031 = .ok (.istore 6, 2) := by decide +kernel
theorem dL_law_3033 : decode cL_law 3033 = .ok (.aload_n 2, 1) := by decide +kernel
theorem dL_law_3034 : decode cL_law 3034 = .ok (.aload_n 0, 1) := by decide +kernel
theorem dL_law_3035 : decode cL_law 3035 = .ok (.iload 5, 2) := by decide +kernel
theorem dL_law_3037 : decode cL_law 3037 = .ok (.iconst 1, 1) := by decide +kernel
theorem dL_law_3038 : decode cL_law 3038 = .ok (.iadd, 1) := by decide +kernel
theorem dL_law_3039 : decode cL_law 3039 = .ok (.iaload, 1) := by decide +kernel
theorem dL_law_3040 : decode cL_law 3040 = .ok (.aload_n 0, 1) := by decide +kernel
theorem dL_law_3041 : decode cL_law 3041 = .ok (.iload 5, 2) := by decide +kernel
theorem dL_law_3043 : decode cL_law 3043 = .ok (.iconst 2, 1) := by decide +kernel
theorem dL_law_3044 : decode cL_law 3044 = .ok (.iadd, 1) := by decide +kernel
theorem dL_law_3045 : decode cL_law 3045 = .ok (.iaload, 1) := by decide +kernel
theorem dL_law_3046 : decode cL_law 3046 = .ok (.invokevirtual 342, 3) := by decide +kernel
theorem dL_law_3049 : decode cL_law 3049 = .ok (.istore 7, 2) := by decide +kernel
theorem dL_law_3051 : decode cL_law 3051 = .ok (.aload_n 2, 1) := by decide +kernel
theorem dL_law_3052 : decode cL_law 3052 = .ok (.invokevirtual 222, 3) := by decide +kernel
theorem dL_law_3055 : decode cL_law 3055 = .ok (.iload 6, 2) := by decide +kernel
theorem dL_law_3057 : decode cL_law 3057 = .ok (.if_icmp .eq 5, 3) := by decide +kernel
theorem dL_law_3060 : decode cL_law 3060 = .ok (.iconst 0, 1) := by decide +kernel
theorem dL_law_3061 : decode cL_law 3061 = .ok (.ireturn, 1) := by decide +kernel
theorem dL_law_3062 : decode cL_law 3062 = .ok (.iload 6, 2) := by decide +kernel
theorem dL_law_3064 : decode cL_law 3064 = .ok (.ifCond .ne 15, 3) := by decide +kernel
theorem dL_law_3067 : decode cL_law 3067 = .ok (.aload_n 3, 1) := by decide +kernel
theorem dL_law_3068 : decode cL_law 3068 = .ok (.iconst 0, 1) := by decide +kernel
theorem dL_law_3069 : decode cL_law 3069 = .ok (.laload, 1) := by decide +kernel
theorem dL_law_3070 : decode cL_law 3070 = .ok (.iload 7, 2) := by decide +kernel
theorem dL_law_3072 : decode cL_law 3072 = .ok (.i2l, 1) := by decide +kernel
theorem dL_law_3073 : decode cL_law 3073 = .ok (.lcmp, 1) := by decide +kernel
theorem dL_law_3074 : decode cL_law 3074 = .ok (.ifCond .eq 5, 3) := by decide +kernel
theorem dL_law_3077 : decode cL_law 3077 = .ok (.iconst 0, 1) := by decide +kernel
theorem dL_law_3078 : decode cL_law 3078 = .ok (.ireturn, 1) := by decide +kernel
theorem dL_law_3079 : decode cL_law 3079 = .ok (.goto 1048, 3) := by decide +kernel
theorem dL_law_3082 : decode cL_law 3082 = .ok (.aload_n 1, 1) := by decide +kernel
theorem dL_law_3083 : decode cL_law 3083 = .ok (.aload_n 0, 1) := by decide +kernel
theorem dL_law_3084 : decode cL_law 3084 = .ok (.iload 5, 2) := by decide +kernel
theorem dL_law_3086 : decode cL_law 3086 = .ok (.iconst 1, 1) := by decide +kernel
theorem dL_law_3087 : decode cL_law 3087 = .ok (.iadd, 1) := by decide +kernel
theorem dL_law_3088 : decode cL_law 3088 = .ok (.iaload, 1) := by decide +kernel
theorem dL_law_3089 : decode cL_law 3089 = .ok (.aload_n 0, 1) := by decide +kernel
theorem dL_law_3090 : decode cL_law 3090 = .ok (.iload 5, 2) := by decide +kernel
theorem dL_law_3092 : decode cL_law 3092 = .ok (.iconst 2, 1) := by decide +kernel
theorem dL_law_3093 : decode cL_law 3093 = .ok (.iadd, 1) := by decide +kernel
theorem dL_law_3094 : decode cL_law 3094 = .ok (.iaload, 1) := by decide +kernel
theorem dL_law_3095 : decode cL_law 3095 = .ok (.aload_n 0, 1) := by decide +kernel
theorem dL_law_3096 : decode cL_law 3096 = .ok (.iload 5, 2) := by decide +kernel
theorem dL_law_3098 : decode cL_law 3098 = .ok (.iconst 3, 1) := by decide +kernel
theorem dL_law_3099 : decode cL_law 3099 = .ok (.iadd, 1) := by decide +kernel
theorem dL_law_3100 : decode cL_law 3100 = .ok (.iaload, 1) := by decide +kernel
theorem dL_law_3101 : decode cL_law 3101 = .ok (.aload_n 3, 1) := by decide +kernel
theorem dL_law_3102 : decode cL_law 3102 = .ok (.invokestatic 343, 3) := by decide +kernel
theorem dL_law_3105 : decode cL_law 3105 = .ok (.istore 6, 2) := by decide +kernel
theorem dL_law_3107 : decode cL_law 3107 = .ok (.aload_n 2, 1) := by decide +kernel
theorem dL_law_3108 : decode cL_law 3108 = .ok (.aload_n 0, 1) := by decide +kernel
theorem dL_law_3109 : decode cL_law 3109 = .ok (.iload 5, 2) := by decide +kernel
theorem dL_law_3111 : decode cL_law 3111 = .ok (.iconst 1, 1) := by decide +kernel
theorem dL_law_3112 : decode cL_law 3112 = .ok (.iadd, 1) := by decide +kernel
theorem dL_law_3113 : decode cL_law 3113 = .ok (.iaload, 1) := by decide +kernel
theorem dL_law_3114 : decode cL_law 3114 = .ok (.aload_n 0, 1) := by decide +kernel
theorem dL_law_3115 : decode cL_law 3115 = .ok (.iload 5, 2) := by decide +kernel
theorem dL_law_3117 : decode cL_law 3117 = .ok (.iconst 2, 1) := by decide +kernel
theorem dL_law_3118 : decode cL_law 3118 = .ok (.iadd, 1) := by decide +kernel
theorem dL_law_3119 : decode cL_law 3119 = .ok (.iaload, 1) := by decide +kernel
theorem dL_law_3120 : decode cL_law 3120 = .ok (.aload_n 0, 1) := by decide +kernel
theorem dL_law_3121 : decode cL_law 3121 = .ok (.iload 5, 2) := by decide +kernel
theorem dL_law_3123 : decode cL_law 3123 = .ok (.iconst 3, 1) := by decide +kernel
theorem dL_law_3124 : decode cL_law 3124 = .ok (.iadd, 1) := by decide +kernel
theorem dL_law_3125 : decode cL_law 3125 = .ok (.iaload, 1) := by decide +kernel
theorem dL_law_3126 : decode cL_law 3126 = .ok (.invokevirtual 345, 3) := by decide +kernel
theorem dL_law_3129 : decode cL_law 3129 = .ok (.istore 7, 2) := by decide +kernel
theorem dL_law_3131 : decode cL_law 3131 = .ok (.aload_n 2, 1) := by decide +kernel
theorem dL_law_3132 : decode cL_law 3132 = .ok (.invokevirtual 222, 3) := by decide +kernel
theorem dL_law_3135 : decode cL_law 3135 = .ok (.iload 6, 2) := by decide +kernel
theorem dL_law_3137 : decode cL_law 3137 = .ok (.if_icmp .eq 5, 3) := by decide +kernel
theorem dL_law_3140 : decode cL_law 3140 = .ok (.iconst 0, 1) := by decide +kernel
theorem dL_law_3141 : decode cL_law 3141 = .ok (.ireturn, 1) := by decide +kernel
theorem dL_law_3142 : decode cL_law 3142 = .ok (.iload 6, 2) := by decide +kernel
theorem dL_law_3144 : decode cL_law 3144 = .ok (.ifCond .ne 15, 3) := by decide +kernel
theorem dL_law_3147 : decode cL_law 3147 = .ok (.aload_n 3, 1) := by decide +kernel
theorem dL_law_3148 : decode cL_law 3148 = .ok (.iconst 0, 1) := by decide +kernel
theorem dL_law_3149 : decode cL_law 3149 = .ok (.laload, 1) := by decide +kernel
theorem dL_law_3150 : decode cL_law 3150 = .ok (.iload 7, 2) := by decide +kernel
theorem dL_law_3152 : decode cL_law 3152 = .ok (.i2l, 1) := by decide +kernel
theorem dL_law_3153 : decode cL_law 3153 = .ok (.lcmp, 1) := by decide +kernel
theorem dL_law_3154 : decode cL_law 3154 = .ok (.ifCond .eq 5, 3) := by decide +kernel
theorem dL_law_3157 : decode cL_law 3157 = .ok (.iconst 0, 1) := by decide +kernel
theorem dL_law_3158 : decode cL_law 3158 = .ok (.ireturn, 1) := by decide +kernel
theorem dL_law_3159 : decode cL_law 3159 = .ok (.goto 968, 3) := by decide +kernel
theorem dL_law_3162 : decode cL_law 3162 = .ok (.aload_n 1, 1) := by decide +kernel
theorem dL_law_3163 : decode cL_law 3163 = .ok (.aload_n 0, 1) := by decide +kernel
theorem dL_law_3164 : decode cL_law 3164 = .ok (.iload 5, 2) := by decide +kernel
theorem dL_law_3166 : decode cL_law 3166 = .ok (.iconst 1, 1) := by decide +kernel
theorem dL_law_3167 : decode cL_law 3167 = .ok (.iadd, 1) := by decide +kernel
theorem dL_law_3168 : decode cL_law 3168 = .ok (.iaload, 1) := by decide +kernel
theorem dL_law_3169 : decode cL_law 3169 = .ok (.aload_n 3, 1) := by decide +kernel
theorem dL_law_3170 : decode cL_law 3170 = .ok (.invokestatic 346, 3) := by decide +kernel
theorem dL_law_3173 : decode cL_law 3173 = .ok (.istore 6, 2) := by decide +kernel
theorem dL_law_3175 : decode cL_law 3175 = .ok (.aload_n 2, 1) := by decide +kernel
theorem dL_law_3176 : decode cL_law 3176 = .ok (.aload_n 0, 1) := by decide +kernel
theorem dL_law_3177 : decode cL_law 3177 = .ok (.iload 5, 2) := by decide +kernel
theorem dL_law_3179 : decode cL_law 3179 = .ok (.iconst 1, 1) := by decide +kernel
theorem dL_law_3180 : decode cL_law 3180 = .ok (.iadd, 1) := by decide +kernel
theorem dL_law_3181 : decode cL_law 3181 = .ok (.iaload, 1) := by decide +kernel
theorem dL_law_3182 : decode cL_law 3182 = .ok (.invokevirtual 348, 3) := by decide +kernel
theorem dL_law_3185 : decode cL_law 3185 = .ok (.istore 7, 2) := by decide +kernel
theorem dL_law_3187 : decode cL_law 3187 = .ok (.aload_n 2, 1) := by decide +kernel
theorem dL_law_3188 : decode cL_law 3188 = .ok (.invokevirtual 222, 3) := by decide +kernel
theorem dL_law_3191 : decode cL_law 3191 = .ok (.iload 6, 2) := by decide +kernel
theorem dL_law_3193 : decode cL_law 3193 = .ok (.if_icmp .eq 5, 3) := by decide +kernel
theorem dL_law_3196 : decode cL_law 3196 = .ok (.iconst 0, 1) := by decide +kernel
theorem dL_law_3197 : decode cL_law 3197 = .ok (.ireturn, 1) := by decide +kernel
theorem dL_law_3198 : decode cL_law 3198 = .ok (.iload 6, 2) := by decide +kernel
theorem dL_law_3200 : decode cL_law 3200 = .ok (.ifCond .ne 15, 3) := by decide +kernel
theorem dL_law_3203 : decode cL_law 3203 = .ok (.aload_n 3, 1) := by decide +kernel
theorem dL_law_3204 : decode cL_law 3204 = .ok (.iconst 0, 1) := by decide +kernel
theorem dL_law_3205 : decode cL_law 3205 = .ok (.laload, 1) := by decide +kernel
theorem dL_law_3206 : decode cL_law 3206 = .ok (.iload 7, 2) := by decide +kernel
theorem dL_law_3208 : decode cL_law 3208 = .ok (.i2l, 1) := by decide +kernel
theorem dL_law_3209 : decode cL_law 3209 = .ok (.lcmp, 1) := by decide +kernel
theorem dL_law_3210 : decode cL_law 3210 = .ok (.ifCond .eq 5, 3) := by decide +kernel
theorem dL_law_3213 : decode cL_law 3213 = .ok (.iconst 0, 1) := by decide +kernel
theorem dL_law_3214 : decode cL_law 3214 = .ok (.ireturn, 1) := by decide +kernel
theorem dL_law_3215 : decode cL_law 3215 = .ok (.goto 912, 3) := by decide +kernel
theorem dL_law_3218 : decode cL_law 3218 = .ok (.aload_n 1, 1) := by decide +kernel
theorem dL_law_3219 : decode cL_law 3219 = .ok (.aload_n 0, 1) := by decide +kernel
theorem dL_law_3220 : decode cL_law 3220 = .ok (.iload 5, 2) := by decide +kernel
theorem dL_law_3222 : decode cL_law 3222 = .ok (.iconst 1, 1) := by decide +kernel
theorem dL_law_3223 : decode cL_law 3223 = .ok (.iadd, 1) := by decide +kernel
theorem dL_law_3224 : decode cL_law 3224 = .ok (.iaload, 1) := by decide +kernel
theorem dL_law_3225 : decode cL_law 3225 = .ok (.aload_n 3, 1) := by decide +kernel
theorem dL_law_3226 : decode cL_law 3226 = .ok (.invokestatic 349, 3) := by decide +kernel
theorem dL_law_3229 : decode cL_law 3229 = .ok (.istore 6, 2) := by decide +kernel
theorem dL_law_3231 : decode cL_law 3231 = .ok (.aload_n 2, 1) := by decide +kernel
theorem dL_law_3232 : decode cL_law 3232 = .ok (.aload_n 0, 1) := by decide +kernel
theorem dL_law_3233 : decode cL_law 3233 = .ok (.iload 5, 2) := by decide +kernel
theorem dL_law_3235 : decode cL_law 3235 = .ok (.iconst 1, 1) := by decide +kernel
theorem dL_law_3236 : decode cL_law 3236 = .ok (.iadd, 1) := by decide +kernel
theorem dL_law_3237 : decode cL_law 3237 = .ok (.iaload, 1) := by decide +kernel
theorem dL_law_3238 : decode cL_law 3238 = .ok (.invokevirtual 351, 3) := by decide +kernel
theorem dL_law_3241 : decode cL_law 3241 = .ok (.istore 7, 2) := by decide +kernel
theorem dL_law_3243 : decode cL_law 3243 = .ok (.aload_n 2, 1) := by decide +kernel
theorem dL_law_3244 : decode cL_law 3244 = .ok (.invokevirtual 222, 3) := by decide +kernel
theorem dL_law_3247 : decode cL_law 3247 = .ok (.iload 6, 2) := by decide +kernel
theorem dL_law_3249 : decode cL_law 3249 = .ok (.if_icmp .eq 5, 3) := by decide +kernel
theorem dL_law_3252 : decode cL_law 3252 = .ok (.iconst 0, 1) := by decide +kernel
theorem dL_law_3253 : decode cL_law 3253 = .ok (.ireturn, 1) := by decide +kernel
theorem dL_law_3254 : decode cL_law 3254 = .ok (.iload 6, 2) := by decide +kernel
theorem dL_law_3256 : decode cL_law 3256 = .ok (.ifCond .ne 15, 3) := by decide +kernel
theorem dL_law_3259 : decode cL_law 3259 = .ok (.aload_n 3, 1) := by decide +kernel
theorem dL_law_3260 : decode cL_law 3260 = .ok (.iconst 0, 1) := by decide +kernel
theorem dL_law_3261 : decode cL_law 3261 = .ok (.laload, 1) := by decide +kernel
theorem dL_law_3262 : decode cL_law 3262 = .ok (.iload 7, 2) := by decide +kernel
theorem dL_law_3264 : decode cL_law 3264 = .ok (.i2l, 1) := by decide +kernel
theorem dL_law_3265 : decode cL_law 3265 = .ok (.lcmp, 1) := by decide +kernel
theorem dL_law_3266 : decode cL_law 3266 = .ok (.ifCond .eq 5, 3) := by decide +kernel
theorem dL_law_3269 : decode cL_law 3269 = .ok (.iconst 0, 1) := by decide +kernel
theorem dL_law_3270 : decode cL_law 3270 = .ok (.ireturn, 1) := by decide +kernel
theorem dL_law_3271 : decode cL_law 3271 = .ok (.goto 856, 3) := by decide +kernel
theorem dL_law_3274 : decode cL_law 3274 = .ok (.aload_n 1, 1) := by decide +kernel
theorem dL_law_3275 : decode cL_law 3275 = .ok (.invokevirtual 352, 3) := by decide +kernel
theorem dL_law_3278 : decode cL_law 3278 = .ok (.aload_n 2, 1) := by decide +kernel
theorem dL_law_3279 : decode cL_law 3279 = .ok (.invokevirtual 355, 3) := by decide +kernel
theorem dL_law_3282 : decode cL_law 3282 = .ok (.if_icmp .eq 845, 3) := by decide +kernel
theorem dL_law_3285 : decode cL_law 3285 = .ok (.iconst 0, 1) := by decide +kernel
theorem dL_law_3286 : decode cL_law 3286 = .ok (.ireturn, 1) := by decide +kernel
theorem dL_law_3287 : decode cL_law 3287 = .ok (.aload_n 1, 1) := by decide +kernel
theorem dL_law_3288 : decode cL_law 3288 = .ok (.aload_n 0, 1) := by decide +kernel
theorem dL_law_3289 : decode cL_law 3289 = .ok (.iload 5, 2) := by decide +kernel
theorem dL_law_3291 : decode cL_law 3291 = .ok (.iconst 1, 1) := by decide +kernel
theorem dL_law_3292 : decode cL_law 3292 = .ok (.iadd, 1) := by decide +kernel
theorem dL_law_3293 : decode cL_law 3293 = .ok (.iaload, 1) := by decide +kernel
theorem dL_law_3294 : decode cL_law 3294 = .ok (.aload_n 0, 1) := by decide +kernel
theorem dL_law_3295 : decode cL_law 3295 = .ok (.iload 5, 2) := by decide +kernel
theorem dL_law_3297 : decode cL_law 3297 = .ok (.iconst 2, 1) := by decide +kernel
theorem dL_law_3298 : decode cL_law 3298 = .ok (.iadd, 1) := by decide +kernel
theorem dL_law_3299 : decode cL_law 3299 = .ok (.iaload, 1) := by decide +kernel
theorem dL_law_3300 : decode cL_law 3300 = .ok (.aload_n 3, 1) := by decide +kernel
theorem dL_law_3301 : decode cL_law 3301 = .ok (.invokestatic 356, 3) := by decide +kernel
theorem dL_law_3304 : decode cL_law 3304 = .ok (.istore 6, 2) := by decide +kernel
theorem dL_law_3306 : decode cL_law 3306 = .ok (.aload_n 2, 1) := by decide +kernel
theorem dL_law_3307 : decode cL_law 3307 = .ok (.aload_n 0, 1) := by decide +kernel
theorem dL_law_3308 : decode cL_law 3308 = .ok (.iload 5, 2) := by decide +kernel
theorem dL_law_3310 : decode cL_law 3310 = .ok (.iconst 1, 1) := by decide +kernel
theorem dL_law_3311 : decode cL_law 3311 = .ok (.iadd, 1) := by decide +kernel
theorem dL_law_3312 : decode cL_law 3312 = .ok (.iaload, 1) := by decide +kernel
theorem dL_law_3313 : decode cL_law 3313 = .ok (.aload_n 0, 1) := by decide +kernel
theorem dL_law_3314 : decode cL_law 3314 = .ok (.iload 5, 2) := by decide +kernel
theorem dL_law_3316 : decode cL_law 3316 = .ok (.iconst 2, 1) := by decide +kernel
theorem dL_law_3317 : decode cL_law 3317 = .ok (.iadd, 1) := by decide +kernel
theorem dL_law_3318 : decode cL_law 3318 = .ok (.iaload, 1) := by decide +kernel
theorem dL_law_3319 : decode cL_law 3319 = .ok (.invokevirtual 358, 3) := by decide +kernel
theorem dL_law_3322 : decode cL_law 3322 = .ok (.istore 7, 2) := by decide +kernel
theorem dL_law_3324 : decode cL_law 3324 = .ok (.aload_n 2, 1) := by decide +kernel
theorem dL_law_3325 : decode cL_law 3325 = .ok (.invokevirtual 222, 3) := by decide +kernel
theorem dL_law_3328 : decode cL_law 3328 = .ok (.iload 6, 2) := by decide +kernel
theorem dL_law_3330 : decode cL_law 3330 = .ok (.if_icmp .eq 5, 3) := by decide +kernel
theorem dL_law_3333 : decode cL_law 3333 = .ok (.iconst 0, 1) := by decide +kernel
theorem dL_law_3334 : decode cL_law 3334 = .ok (.ireturn, 1) := by decide +kernel
theorem dL_law_3335 : decode cL_law 3335 = .ok (.iload 6, 2) := by decide +kernel
theorem dL_law_3337 : decode cL_law 3337 = .ok (.ifCond .ne 15, 3) := by decide +kernel
theorem dL_law_3340 : decode cL_law 3340 = .ok (.aload_n 3, 1) := by decide +kernel
theorem dL_law_3341 : decode cL_law 3341 = .ok (.iconst 0, 1) := by decide +kernel
theorem dL_law_3342 : decode cL_law 3342 = .ok (.laload, 1) := by decide +kernel
theorem dL_law_3343 : decode cL_law 3343 = .ok (.iload 7, 2) := by decide +kernel
theorem dL_law_3345 : decode cL_law 3345 = .ok (.i2l, 1) := by decide +kernel
theorem dL_law_3346 : decode cL_law 3346 = .ok (.lcmp, 1) := by decide +kernel
theorem dL_law_3347 : decode cL_law 3347 = .ok (.ifCond .eq 5, 3) := by decide +kernel
theorem dL_law_3350 : decode cL_law 3350 = .ok (.iconst 0, 1) := by decide +kernel
theorem dL_law_3351 : decode cL_law 3351 = .ok (.ireturn, 1) := by decide +kernel
theorem dL_law_3352 : decode cL_law 3352 = .ok (.goto 775, 3) := by decide +kernel
theorem dL_law_3355 : decode cL_law 3355 = .ok (.aload_n 1, 1) := by decide +kernel
theorem dL_law_3356 : decode cL_law 3356 = .ok (.aload_n 0, 1) := by decide +kernel
theorem dL_law_3357 : decode cL_law 3357 = .ok (.iload 5, 2) := by decide +kernel
theorem dL_law_3359 : decode cL_law 3359 = .ok (.iconst 1, 1) := by decide +kernel
theorem dL_law_3360 : decode cL_law 3360 = .ok (.iadd, 1) := by decide +kernel
theorem dL_law_3361 : decode cL_law 3361 = .ok (.iaload, 1) := by decide +kernel
theorem dL_law_3362 : decode cL_law 3362 = .ok (.aload_n 0, 1) := by decide +kernel
theorem dL_law_3363 : decode cL_law 3363 = .ok (.iload 5, 2) := by decide +kernel
theorem dL_law_3365 : decode cL_law 3365 = .ok (.iconst 2, 1) := by decide +kernel
theorem dL_law_3366 : decode cL_law 3366 = .ok (.iadd, 1) := by decide +kernel
theorem dL_law_3367 : decode cL_law 3367 = .ok (.iaload, 1) := by decide +kernel
theorem dL_law_3368 : decode cL_law 3368 = .ok (.aload_n 3, 1) := by decide +kernel
theorem dL_law_3369 : decode cL_law 3369 = .ok (.invokestatic 359, 3) := by decide +kernel
theorem dL_law_3372 : decode cL_law 3372 = .ok (.istore 6, 2) := by decide +kernel
theorem dL_law_3374 : decode cL_law 3374 = .ok (.aload_n 2, 1) := by decide +kernel
theorem dL_law_3375 : decode cL_law 3375 = .ok (.aload_n 0, 1) := by decide +kernel
theorem dL_law_3376 : decode cL_law 3376 = .ok (.iload 5, 2) := by decide +kernel
theorem dL_law_3378 : decode cL_law 3378 = .ok (.iconst 1, 1) := by decide +kernel
theorem dL_law_3379 : decode cL_law 3379 = .ok (.iadd, 1) := by decide +kernel
theorem dL_law_3380 : decode cL_law 3380 = .ok (.iaload, 1) := by decide +kernel
theorem dL_law_3381 : decode cL_law 3381 = .ok (.aload_n 0, 1) := by decide +kernel
theorem dL_law_3382 : decode cL_law 3382 = .ok (.iload 5, 2) := by decide +kernel
theorem dL_law_3384 : decode cL_law 3384 = .ok (.iconst 2, 1) := by decide +kernel
theorem dL_law_3385 : decode cL_law 3385 = .ok (.iadd, 1) := by decide +kernel
theorem dL_law_3386 : decode cL_law 3386 = .ok (.iaload, 1) := by decide +kernel
theorem dL_law_3387 : decode cL_law 3387 = .ok (.invokevirtual 361, 3) := by decide +kernel
theorem dL_law_3390 : decode cL_law 3390 = .ok (.istore 7, 2) := by decide +kernel
theorem dL_law_3392 : decode cL_law 3392 = .ok (.aload_n 2, 1) := by decide +kernel
theorem dL_law_3393 : decode cL_law 3393 = .ok (.invokevirtual 222, 3) := by decide +kernel
theorem dL_law_3396 : decode cL_law 3396 = .ok (.iload 6, 2) := by decide +kernel
theorem dL_law_3398 : decode cL_law 3398 = .ok (.if_icmp .eq 5, 3) := by decide +kernel
theorem dL_law_3401 : decode cL_law 3401 = .ok (.iconst 0, 1) := by decide +kernel
theorem dL_law_3402 : decode cL_law 3402 = .ok (.ireturn, 1) := by decide +kernel
theorem dL_law_3403 : decode cL_law 3403 = .ok (.iload 6, 2) := by decide +kernel
theorem dL_law_3405 : decode cL_law 3405 = .ok (.ifCond .ne 15, 3) := by decide +kernel
theorem dL_law_3408 : decode cL_law 3408 = .ok (.aload_n 3, 1) := by decide +kernel
theorem dL_law_3409 : decode cL_law 3409 = .ok (.iconst 0, 1) := by decide +kernel
theorem dL_law_3410 : decode cL_law 3410 = .ok (.laload, 1) := by decide +kernel
theorem dL_law_3411 : decode cL_law 3411 = .ok (.iload 7, 2) := by decide +kernel
theorem dL_law_3413 : decode cL_law 3413 = .ok (.i2l, 1) := by decide +kernel
theorem dL_law_3414 : decode cL_law 3414 = .ok (.lcmp, 1) := by decide +kernel
theorem dL_law_3415 : decode cL_law 3415 = .ok (.ifCond .eq 5, 3) := by decide +kernel
theorem dL_law_3418 : decode cL_law 3418 = .ok (.iconst 0, 1) := by decide +kernel
theorem dL_law_3419 : decode cL_law 3419 = .ok (.ireturn, 1) := by decide +kernel
theorem dL_law_3420 : decode cL_law 3420 = .ok (.goto 707, 3) := by decide +kernel
theorem dL_law_3423 : decode cL_law 3423 = .ok (.aload_n 1, 1) := by decide +kernel
theorem dL_law_3424 : decode cL_law 3424 = .ok (.aload_n 0, 1) := by decide +kernel
theorem dL_law_3425 : decode cL_law 3425 = .ok (.iload 5, 2) := by decide +kernel
theorem dL_law_3427 : decode cL_law 3427 = .ok (.iconst 1, 1) := by decide +kernel
theorem dL_law_3428 : decode cL_law 3428 = .ok (.iadd, 1) := by decide +kernel
theorem dL_law_3429 : decode cL_law 3429 = .ok (.iaload, 1) := by decide +kernel
theorem dL_law_3430 : decode cL_law 3430 = .ok (.aload_n 0, 1) := by decide +kernel
theorem dL_law_3431 : decode cL_law 3431 = .ok (.iload 5, 2) := by decide +kernel
theorem dL_law_3433 : decode cL_law 3433 = .ok (.iconst 2, 1) := by decide +kernel
theorem dL_law_3434 : decode cL_law 3434 = .ok (.iadd, 1) := by decide +kernel
theorem dL_law_3435 : decode cL_law 3435 = .ok (.iaload, 1) := by decide +kernel
theorem dL_law_3436 : decode cL_law 3436 = .ok (.aload_n 3, 1) := by decide +kernel
theorem dL_law_3437 : decode cL_law 3437 = .ok (.invokestatic 362, 3) := by decide +kernel
theorem dL_law_3440 : decode cL_law 3440 = .ok (.istore 6, 2) := by decide +kernel
theorem dL_law_3442 : decode cL_law 3442 = .ok (.aload_n 2, 1) := by decide +kernel
theorem dL_law_3443 : decode cL_law 3443 = .ok (.aload_n 0, 1) := by decide +kernel
theorem dL_law_3444 : decode cL_law 3444 = .ok (.iload 5, 2) := by decide +kernel
theorem dL_law_3446 : decode cL_law 3446 = .ok (.iconst 1, 1) := by decide +kernel
theorem dL_law_3447 : decode cL_law 3447 = .ok (.iadd, 1) := by decide +kernel
theorem dL_law_3448 : decode cL_law 3448 = .ok (.iaload, 1) := by decide +kernel
theorem dL_law_3449 : decode cL_law 3449 = .ok (.aload_n 0, 1) := by decide +kernel
theorem dL_law_3450 : decode cL_law 3450 = .ok (.iload 5, 2) := by decide +kernel
theorem dL_law_3452 : decode cL_law 3452 = .ok (.iconst 2, 1) := by decide +kernel
theorem dL_law_3453 : decode cL_law 3453 = .ok (.iadd, 1) := by decide +kernel
theorem dL_law_3454 : decode cL_law 3454 = .ok (.iaload, 1) := by decide +kernel
theorem dL_law_3455 : decode cL_law 3455 = .ok (.invokevirtual 364, 3) := by decide +kernel
theorem dL_law_3458 : decode cL_law 3458 = .ok (.istore 7, 2) := by decide +kernel
theorem dL_law_3460 : decode cL_law 3460 = .ok (.aload_n 2, 1) := by decide +kernel
theorem dL_law_3461 : decode cL_law 3461 = .ok (.invokevirtual 222, 3) := by decide +kernel
theorem dL_law_3464 : decode cL_law 3464 = .ok (.iload 6, 2) := by decide +kernel
theorem dL_law_3466 : decode cL_law 3466 = .ok (.if_icmp .eq 5, 3) := by decide +kernel
theorem dL_law_3469 : decode cL_law 3469 = .ok (.iconst 0, 1) := by decide +kernel
theorem dL_law_3470 : decode cL_law 3470 = .ok (.ireturn, 1) := by decide +kernel
theorem dL_law_3471 : decode cL_law 3471 = .ok (.iload 6, 2) := by decide +kernel
theorem dL_law_3473 : decode cL_law 3473 = .ok (.ifCond .ne 15, 3) := by decide +kernel
theorem dL_law_3476 : decode cL_law 3476 = .ok (.aload_n 3, 1) := by decide +kernel
theorem dL_law_3477 : decode cL_law 3477 = .ok (.iconst 0, 1) := by decide +kernel
theorem dL_law_3478 : decode cL_law 3478 = .ok (.laload, 1) := by decide +kernel
theorem dL_law_3479 : decode cL_law 3479 = .ok (.iload 7, 2) := by decide +kernel
theorem dL_law_3481 : decode cL_law 3481 = .ok (.i2l, 1) := by decide +kernel
theorem dL_law_3482 : decode cL_law 3482 = .ok (.lcmp, 1) := by decide +kernel
theorem dL_law_3483 : decode cL_law 3483 = .ok (.ifCond .eq 5, 3) := by decide +kernel
theorem dL_law_3486 : decode cL_law 3486 = .ok (.iconst 0, 1) := by decide +kernel
theorem dL_law_3487 : decode cL_law 3487 = .ok (.ireturn, 1) := by decide +kernel
theorem dL_law_3488 : decode cL_law 3488 = .ok (.goto 639, 3) := by decide +kernel
theorem dL_law_3491 : decode cL_law 3491 = .ok (.aload_n 1, 1) := by decide +kernel
theorem dL_law_3492 : decode cL_law 3492 = .ok (.aload_n 0, 1) := by decide +kernel
theorem dL_law_3493 : decode cL_law 3493 = .ok (.iload 5, 2) := by decide +kernel
theorem dL_law_3495 : decode cL_law 3495 = .ok (.iconst 1, 1) := by decide +kernel
theorem dL_law_3496 : decode cL_law 3496 = .ok (.iadd, 1) := by decide +kernel
theorem dL_law_3497 : decode cL_law 3497 = .ok (.iaload, 1) := by decide +kernel
theorem dL_law_3498 : decode cL_law 3498 = .ok (.aload 4, 2) := by decide +kernel
theorem dL_law_3500 : decode cL_law 3500 = .ok (.invokestatic 365, 3) := by decide +kernel
theorem dL_law_3503 : decode cL_law 3503 = .ok (.istore 6, 2) := by decide +kernel
theorem dL_law_3505 : decode cL_law 3505 = .ok (.aload_n 2, 1) := by decide +kernel
theorem dL_law_3506 : decode cL_law 3506 = .ok (.aload_n 0, 1) := by decide +kernel
theorem dL_law_3507 : decode cL_law 3507 = .ok (.iload 5, 2) := by decide +kernel
theorem dL_law_3509 : decode cL_law 3509 = .ok (.iconst 1, 1) := by decide +kernel
theorem dL_law_3510 : decode cL_law 3510 = .ok (.iadd, 1) := by decide +kernel
theorem dL_law_3511 : decode cL_law 3511 = .ok (.iaload, 1) := by decide +kernel
theorem dL_law_3512 : decode cL_law 3512 = .ok (.invokevirtual 367, 3) := by decide +kernel
theorem dL_law_3515 : decode cL_law 3515 = .ok (.dstore 7, 2) := by decide +kernel
theorem dL_law_3517 : decode cL_law 3517 = .ok (.aload_n 2, 1) := by decide +kernel
theorem dL_law_3518 : decode cL_law 3518 = .ok (.invokevirtual 222, 3) := by decide +kernel
theorem dL_law_3521 : decode cL_law 3521 = .ok (.iload 6, 2) := by decide +kernel
theorem dL_law_3523 : decode cL_law 3523 = .ok (.if_icmp .eq 5, 3) := by decide +kernel
theorem dL_law_3526 : decode cL_law 3526 = .ok (.iconst 0, 1) := by decide +kernel
theorem dL_law_3527 : decode cL_law 3527 = .ok (.ireturn, 1) := by decide +kernel
theorem dL_law_3528 : decode cL_law 3528 = .ok (.iload 6, 2) := by decide +kernel
theorem dL_law_3530 : decode cL_law 3530 = .ok (.ifCond .ne 35, 3) := by decide +kernel
theorem dL_law_3533 : decode cL_law 3533 = .ok (.aload 4, 2) := by decide +kernel
theorem dL_law_3535 : decode cL_law 3535 = .ok (.iconst 0, 1) := by decide +kernel
theorem dL_law_3536 : decode cL_law 3536 = .ok (.daload, 1) := by decide +kernel
theorem dL_law_3537 : decode cL_law 3537 = .ok (.dload 7, 2) := by decide +kernel
theorem dL_law_3539 : decode cL_law 3539 = .ok (.dcmp .l, 1) := by decide +kernel
theorem dL_law_3540 : decode cL_law 3540 = .ok (.ifCond .eq 25, 3) := by decide +kernel
theorem dL_law_3543 : decode cL_law 3543 = .ok (.aload 4, 2) := by decide +kernel
theorem dL_law_3545 : decode cL_law 3545 = .ok (.iconst 0, 1) := by decide +kernel
theorem dL_law_3546 : decode cL_law 3546 = .ok (.daload, 1) := by decide +kernel
theorem dL_law_3547 : decode cL_law 3547 = .ok (.aload 4, 2) := by decide +kernel
theorem dL_law_3549 : decode cL_law 3549 = .ok (.iconst 0, 1) := by decide +kernel
theorem dL_law_3550 : decode cL_law 3550 = .ok (.daload, 1) := by decide +kernel
theorem dL_law_3551 : decode cL_law 3551 = .ok (.dcmp .l, 1) := by decide +kernel
theorem dL_law_3552 : decode cL_law 3552 = .ok (.ifCond .eq 11, 3) := by decide +kernel
theorem dL_law_3555 : decode cL_law 3555 = .ok (.dload 7, 2) := by decide +kernel
theorem dL_law_3557 : decode cL_law 3557 = .ok (.dload 7, 2) := by decide +kernel
theorem dL_law_3559 : decode cL_law 3559 = .ok (.dcmp .l, 1) := by decide +kernel
theorem dL_law_3560 : decode cL_law 3560 = .ok (.ifCond .ne 5, 3) := by decide +kernel
theorem dL_law_3563 : decode cL_law 3563 = .ok (.iconst 0, 1) := by decide +kernel
theorem dL_law_3564 : decode cL_law 3564 = .ok (.ireturn, 1) := by decide +kernel
theorem dL_law_3565 : decode cL_law 3565 = .ok (.goto 562, 3) := by decide +kernel
theorem dL_law_3568 : decode cL_law 3568 = .ok (.aload_n 1, 1) := by decide +kernel
theorem dL_law_3569 : decode cL_law 3569 = .ok (.aload_n 0, 1) := by decide +kernel
theorem dL_law_3570 : decode cL_law 3570 = .ok (.iload 5, 2) := by decide +kernel
theorem dL_law_3572 : decode cL_law 3572 = .ok (.iconst 1, 1) := by decide +kernel
theorem dL_law_3573 : decode cL_law 3573 = .ok (.iadd, 1) := by decide +kernel
theorem dL_law_3574 : decode cL_law 3574 = .ok (.iaload, 1) := by decide +kernel
theorem dL_law_3575 : decode cL_law 3575 = .ok (.aload_n 3, 1) := by decide +kernel
theorem dL_law_3576 : decode cL_law 3576 = .ok (.invokestatic 368, 3) := by decide +kernel
theorem dL_law_3579 : decode cL_law 3579 = .ok (.istore 6, 2) := by decide +kernel
theorem dL_law_3581 : decode cL_law 3581 = .ok (.aload_n 2, 1) := by decide +kernel
theorem dL_law_3582 : decode cL_law 3582 = .ok (.aload_n 0, 1) := by decide +kernel
theorem dL_law_3583 : decode cL_law 3583 = .ok (.iload 5, 2) := by decide +kernel
theorem dL_law_3585 : decode cL_law 3585 = .ok (.iconst 1, 1) := by decide +kernel
theorem dL_law_3586 : decode cL_law 3586 = .ok (.iadd, 1) := by decide +kernel
theorem dL_law_3587 : decode cL_law 3587 = .ok (.iaload, 1) := by decide +kernel
theorem dL_law_3588 : decode cL_law 3588 = .ok (.invokevirtual 370, 3) := by decide +kernel
theorem dL_law_3591 : decode cL_law 3591 = .ok (.istore 7, 2) := by decide +kernel
theorem dL_law_3593 : decode cL_law 3593 = .ok (.aload_n 2, 1) := by decide +kernel
theorem dL_law_3594 : decode cL_law 3594 = .ok (.invokevirtual 222, 3) := by decide +kernel
theorem dL_law_3597 : decode cL_law 3597 = .ok (.iload 6, 2) := by decide +kernel
theorem dL_law_3599 : decode cL_law 3599 = .ok (.if_icmp .eq 5, 3) := by decide +kernel
theorem dL_law_3602 : decode cL_law 3602 = .ok (.iconst 0, 1) := by decide +kernel
theorem dL_law_3603 : decode cL_law 3603 = .ok (.ireturn, 1) := by decide +kernel
theorem dL_law_3604 : decode cL_law 3604 = .ok (.iload 6, 2) := by decide +kernel
theorem dL_law_3606 : decode cL_law 3606 = .ok (.ifCond .ne 15, 3) := by decide +kernel
theorem dL_law_3609 : decode cL_law 3609 = .ok (.aload_n 3, 1) := by decide +kernel
theorem dL_law_3610 : decode cL_law 3610 = .ok (.iconst 0, 1) := by decide +kernel
theorem dL_law_3611 : decode cL_law 3611 = .ok (.laload, 1) := by decide +kernel
theorem dL_law_3612 : decode cL_law 3612 = .ok (.iload 7, 2) := by decide +kernel
theorem dL_law_3614 : decode cL_law 3614 = .ok (.i2l, 1) := by decide +kernel
theorem dL_law_3615 : decode cL_law 3615 = .ok (.lcmp, 1) := by decide +kernel
theorem dL_law_3616 : decode cL_law 3616 = .ok (.ifCond .eq 5, 3) := by decide +kernel
theorem dL_law_3619 : decode cL_law 3619 = .ok (.iconst 0, 1) := by decide +kernel
theorem dL_law_3620 : decode cL_law 3620 = .ok (.ireturn, 1) := by decide +kernel
theorem dL_law_3621 : decode cL_law 3621 = .ok (.goto 506, 3) := by decide +kernel
theorem dL_law_3624 : decode cL_law 3624 = .ok (.aload_n 1, 1) := by decide +kernel
theorem dL_law_3625 : decode cL_law 3625 = .ok (.aload_n 0, 1) := by decide +kernel
theorem dL_law_3626 : decode cL_law 3626 = .ok (.iload 5, 2) := by decide +kernel
theorem dL_law_3628 : decode cL_law 3628 = .ok (.iconst 1, 1) := by decide +kernel
theorem dL_law_3629 : decode cL_law 3629 = .ok (.iadd, 1) := by decide +kernel
theorem dL_law_3630 : decode cL_law 3630 = .ok (.iaload, 1) := by decide +kernel
theorem dL_law_3631 : decode cL_law 3631 = .ok (.aload_n 3, 1) := by decide +kernel
theorem dL_law_3632 : decode cL_law 3632 = .ok (.invokestatic 371, 3) := by decide +kernel
theorem dL_law_3635 : decode cL_law 3635 = .ok (.istore 6, 2) := by decide +kernel
theorem dL_law_3637 : decode cL_law 3637 = .ok (.aload_n 2, 1) := by decide +kernel
theorem dL_law_3638 : decode cL_law 3638 = .ok (.aload_n 0, 1) := by decide +kernel
theorem dL_law_3639 : decode cL_law 3639 = .ok (.iload 5, 2) := by decide +kernel
theorem dL_law_3641 : decode cL_law 3641 = .ok (.iconst 1, 1) := by decide +kernel
theorem dL_law_3642 : decode cL_law 3642 = .ok (.iadd, 1) := by decide +kernel
theorem dL_law_3643 : decode cL_law 3643 = .ok (.iaload, 1) := by decide +kernel
theorem dL_law_3644 : decode cL_law 3644 = .ok (.invokevirtual 373, 3) := by decide +kernel
theorem dL_law_3647 : decode cL_law 3647 = .ok (.istore 7, 2) := by decide +kernel
theorem dL_law_3649 : decode cL_law 3649 = .ok (.aload_n 2, 1) := by decide +kernel
theorem dL_law_3650 : decode cL_law 3650 = .ok (.invokevirtual 222, 3) := by decide +kernel
theorem dL_law_3653 : decode cL_law 3653 = .ok (.iload 6, 2) := by decide +kernel
theorem dL_law_3655 : decode cL_law 3655 = .ok (.if_icmp .eq 5, 3) := by decide +kernel
theorem dL_law_3658 : decode cL_law 3658 = .ok (.iconst 0, 1) := by decide +kernel
theorem dL_law_3659 : decode cL_law 3659 = .ok (.ireturn, 1) := by decide +kernel
theorem dL_law_3660 : decode cL_law 3660 = .ok (.iload 6, 2) := by decide +kernel
theorem dL_law_3662 : decode cL_law 3662 = .ok (.ifCond .ne 15, 3) := by decide +kernel
theorem dL_law_3665 : decode cL_law 3665 = .ok (.aload_n 3, 1) := by decide +kernel
theorem dL_law_3666 : decode cL_law 3666 = .ok (.iconst 0, 1) := by decide +kernel
theorem dL_law_3667 : decode cL_law 3667 = .ok (.laload, 1) := by decide +kernel
theorem dL_law_3668 : decode cL_law 3668 = .ok (.iload 7, 2) := by decide +kernel
theorem dL_law_3670 : decode cL_law 3670 = .ok (.i2l, 1) := by decide +kernel
theorem dL_law_3671 : decode cL_law 3671 = .ok (.lcmp, 1) := by decide +kernel
theorem dL_law_3672 : decode cL_law 3672 = .ok (.ifCond .eq 5, 3) := by decide +kernel
theorem dL_law_3675 : decode cL_law 3675 = .ok (.iconst 0, 1) := by decide +kernel
theorem dL_law_3676 : decode cL_law 3676 = .ok (.ireturn, 1) := by decide +kernel
theorem dL_law_3677 : decode cL_law 3677 = .ok (.goto 450, 3) := by decide +kernel
theorem dL_law_3680 : decode cL_law 3680 = .ok (.aload_n 1, 1) := by decide +kernel
theorem dL_law_3681 : decode cL_law 3681 = .ok (.aload_n 0, 1) := by decide +kernel
theorem dL_law_3682 : decode cL_law 3682 = .ok (.iload 5, 2) := by decide +kernel
theorem dL_law_3684 : decode cL_law 3684 = .ok (.iconst 1, 1) := by decide +kernel
theorem dL_law_3685 : decode cL_law 3685 = .ok (.iadd, 1) := by decide +kernel
theorem dL_law_3686 : decode cL_law 3686 = .ok (.iaload, 1) := by decide +kernel
theorem dL_law_3687 : decode cL_law 3687 = .ok (.aload_n 0, 1) := by decide +kernel
theorem dL_law_3688 : decode cL_law 3688 = .ok (.iload 5, 2) := by decide +kernel
theorem dL_law_3690 : decode cL_law 3690 = .ok (.iconst 2, 1) := by decide +kernel
theorem dL_law_3691 : decode cL_law 3691 = .ok (.iadd, 1) := by decide +kernel
theorem dL_law_3692 : decode cL_law 3692 = .ok (.iaload, 1) := by decide +kernel
theorem dL_law_3693 : decode cL_law 3693 = .ok (.aload_n 3, 1) := by decide +kernel
theorem dL_law_3694 : decode cL_law 3694 = .ok (.invokestatic 374, 3) := by decide +kernel
theorem dL_law_3697 : decode cL_law 3697 = .ok (.istore 6, 2) := by decide +kernel
theorem dL_law_3699 : decode cL_law 3699 = .ok (.aload_n 2, 1) := by decide +kernel
theorem dL_law_3700 : decode cL_law 3700 = .ok (.aload_n 0, 1) := by decide +kernel
theorem dL_law_3701 : decode cL_law 3701 = .ok (.iload 5, 2) := by decide +kernel
theorem dL_law_3703 : decode cL_law 3703 = .ok (.iconst 1, 1) := by decide +kernel
theorem dL_law_3704 : decode cL_law 3704 = .ok (.iadd, 1) := by decide +kernel
theorem dL_law_3705 : decode cL_law 3705 = .ok (.iaload, 1) := by decide +kernel
theorem dL_law_3706 : decode cL_law 3706 = .ok (.aload_n 0, 1) := by decide +kernel
theorem dL_law_3707 : decode cL_law 3707 = .ok (.iload 5, 2) := by decide +kernel
theorem dL_law_3709 : decode cL_law 3709 = .ok (.iconst 2, 1) := by decide +kernel
theorem dL_law_3710 : decode cL_law 3710 = .ok (.iadd, 1) := by decide +kernel
theorem dL_law_3711 : decode cL_law 3711 = .ok (.iaload, 1) := by decide +kernel
theorem dL_law_3712 : decode cL_law 3712 = .ok (.invokevirtual 376, 3) := by decide +kernel
theorem dL_law_3715 : decode cL_law 3715 = .ok (.istore 7, 2) := by decide +kernel
theorem dL_law_3717 : decode cL_law 3717 = .ok (.aload_n 2, 1) := by decide +kernel
theorem dL_law_3718 : decode cL_law 3718 = .ok (.invokevirtual 222, 3) := by decide +kernel
theorem dL_law_3721 : decode cL_law 3721 = .ok (.iload 6, 2) := by decide +kernel
theorem dL_law_3723 : decode cL_law 3723 = .ok (.if_icmp .eq 5, 3) := by decide +kernel
theorem dL_law_3726 : decode cL_law 3726 = .ok (.iconst 0, 1) := by decide +kernel
theorem dL_law_3727 : decode cL_law 3727 = .ok (.ireturn, 1) := by decide +kernel
theorem dL_law_3728 : decode cL_law 3728 = .ok (.iload 6, 2) := by decide +kernel
theorem dL_law_3730 : decode cL_law 3730 = .ok (.ifCond .ne 15, 3) := by decide +kernel
theorem dL_law_3733 : decode cL_law 3733 = .ok (.aload_n 3, 1) := by decide +kernel
theorem dL_law_3734 : decode cL_law 3734 = .ok (.iconst 0, 1) := by decide +kernel
theorem dL_law_3735 : decode cL_law 3735 = .ok (.laload, 1) := by decide +kernel
theorem dL_law_3736 : decode cL_law 3736 = .ok (.iload 7, 2) := by decide +kernel
theorem dL_law_3738 : decode cL_law 3738 = .ok (.i2l, 1) := by decide +kernel
theorem dL_law_3739 : decode cL_law 3739 = .ok (.lcmp, 1) := by decide +kernel
theorem dL_law_3740 : decode cL_law 3740 = .ok (.ifCond .eq 5, 3) := by decide +kernel
theorem dL_law_3743 : decode cL_law 3743 = .ok (.iconst 0, 1) := by decide +kernel
theorem dL_law_3744 : decode cL_law 3744 = .ok (.ireturn, 1) := by decide +kernel
theorem dL_law_3745 : decode cL_law 3745 = .ok (.goto 382, 3) := by decide +kernel
theorem dL_law_3748 : decode cL_law 3748 = .ok (.aload_n 1, 1) := by decide +kernel
theorem dL_law_3749 : decode cL_law 3749 = .ok (.aload_n 0, 1) := by decide +kernel
theorem dL_law_3750 : decode cL_law 3750 = .ok (.iload 5, 2) := by decide +kernel
theorem dL_law_3752 : decode cL_law 3752 = .ok (.iconst 1, 1) := by decide +kernel
theorem dL_law_3753 : decode cL_law 3753 = .ok (.iadd, 1) := by decide +kernel
theorem dL_law_3754 : decode cL_law 3754 = .ok (.iaload, 1) := by decide +kernel
theorem dL_law_3755 : decode cL_law 3755 = .ok (.aload_n 0, 1) := by decide +kernel
theorem dL_law_3756 : decode cL_law 3756 = .ok (.iload 5, 2) := by decide +kernel
theorem dL_law_3758 : decode cL_law 3758 = .ok (.iconst 2, 1) := by decide +kernel
theorem dL_law_3759 : decode cL_law 3759 = .ok (.iadd, 1) := by decide +kernel
theorem dL_law_3760 : decode cL_law 3760 = .ok (.iaload, 1) := by decide +kernel
theorem dL_law_3761 : decode cL_law 3761 = .ok (.aload_n 0, 1) := by decide +kernel
theorem dL_law_3762 : decode cL_law 3762 = .ok (.iload 5, 2) := by decide +kernel
theorem dL_law_3764 : decode cL_law 3764 = .ok (.iconst 3, 1) := by decide +kernel
theorem dL_law_3765 : decode cL_law 3765 = .ok (.iadd, 1) := by decide +kernel
theorem dL_law_3766 : decode cL_law 3766 = .ok (.iaload, 1) := by decide +kernel
theorem dL_law_3767 : decode cL_law 3767 = .ok (.aload_n 3, 1) := by decide +kernel
theorem dL_law_3768 : decode cL_law 3768 = .ok (.invokestatic 377, 3) := by decide +kernel
theorem dL_law_3771 : decode cL_law 3771 = .ok (.istore 6, 2) := by decide +kernel
theorem dL_law_3773 : decode cL_law 3773 = .ok (.aload_n 2, 1) := by decide +kernel
theorem dL_law_3774 : decode cL_law 3774 = .ok (.aload_n 0, 1) := by decide +kernel
theorem dL_law_3775 : decode cL_law 3775 = .ok (.iload 5, 2) := by decide +kernel
theorem dL_law_3777 : decode cL_law 3777 = .ok (.iconst 1, 1) := by decide +kernel
theorem dL_law_3778 : decode cL_law 3778 = .ok (.iadd, 1) := by decide +kernel
theorem dL_law_3779 : decode cL_law 3779 = .ok (.iaload, 1) := by decide +kernel
theorem dL_law_3780 : decode cL_law 3780 = .ok (.aload_n 0, 1) := by decide +kernel
theorem dL_law_3781 : decode cL_law 3781 = .ok (.iload 5, 2) := by decide +kernel
theorem dL_law_3783 : decode cL_law 3783 = .ok (.iconst 2, 1) := by decide +kernel
theorem dL_law_3784 : decode cL_law 3784 = .ok (.iadd, 1) := by decide +kernel
theorem dL_law_3785 : decode cL_law 3785 = .ok (.iaload, 1) := by decide +kernel
theorem dL_law_3786 : decode cL_law 3786 = .ok (.aload_n 0, 1) := by decide +kernel
theorem dL_law_3787 : decode cL_law 3787 = .ok (.iload 5, 2) := by decide +kernel
theorem dL_law_3789 : decode cL_law 3789 = .ok (.iconst 3, 1) := by decide +kernel
theorem dL_law_3790 : decode cL_law 3790 = .ok (.iadd, 1) := by decide +kernel
theorem dL_law_3791 : decode cL_law 3791 = .ok (.iaload, 1) := by decide +kernel
theorem dL_law_3792 : decode cL_law 3792 = .ok (.invokevirtual 379, 3) := by decide +kernel
theorem dL_law_3795 : decode cL_law 3795 = .ok (.lstore 7, 2) := by decide +kernel
theorem dL_law_3797 : decode cL_law 3797 = .ok (.aload_n 2, 1) := by decide +kernel
theorem dL_law_3798 : decode cL_law 3798 = .ok (.invokevirtual 222, 3) := by decide +kernel
theorem dL_law_3801 : decode cL_law 3801 = .ok (.iload 6, 2) := by decide +kernel
theorem dL_law_3803 : decode cL_law 3803 = .ok (.if_icmp .eq 5, 3) := by decide +kernel
theorem dL_law_3806 : decode cL_law 3806 = .ok (.iconst 0, 1) := by decide +kernel
theorem dL_law_3807 : decode cL_law 3807 = .ok (.ireturn, 1) := by decide +kernel
theorem dL_law_3808 : decode cL_law 3808 = .ok (.iload 6, 2) := by decide +kernel
theorem dL_law_3810 : decode cL_law 3810 = .ok (.ifCond .ne 14, 3) := by decide +kernel
theorem dL_law_3813 : decode cL_law 3813 = .ok (.aload_n 3, 1) := by decide +kernel
theorem dL_law_3814 : decode cL_law 3814 = .ok (.iconst 0, 1) := by decide +kernel
theorem dL_law_3815 : decode cL_law 3815 = .ok (.laload, 1) := by decide +kernel
theorem dL_law_3816 : decode cL_law 3816 = .ok (.lload 7, 2) := by decide +kernel
theorem dL_law_3818 : decode cL_law 3818 = .ok (.lcmp, 1) := by decide +kernel
theorem dL_law_3819 : decode cL_law 3819 = .ok (.ifCond .eq 5, 3) := by decide +kernel
theorem dL_law_3822 : decode cL_law 3822 = .ok (.iconst 0, 1) := by decide +kernel
theorem dL_law_3823 : decode cL_law 3823 = .ok (.ireturn, 1) := by decide +kernel
theorem dL_law_3824 : decode cL_law 3824 = .ok (.goto 303, 3) := by decide +kernel
theorem dL_law_3827 : decode cL_law 3827 = .ok (.aload_n 1, 1) := by decide +kernel
theorem dL_law_3828 : decode cL_law 3828 = .ok (.aload_n 0, 1) := by decide +kernel
theorem dL_law_3829 : decode cL_law 3829 = .ok (.iload 5, 2) := by decide +kernel
theorem dL_law_3831 : decode cL_law 3831 = .ok (.iconst 1, 1) := by decide +kernel
theorem dL_law_3832 : decode cL_law 3832 = .ok (.iadd, 1) := by decide +kernel
theorem dL_law_3833 : decode cL_law 3833 = .ok (.iaload, 1) := by decide +kernel
theorem dL_law_3834 : decode cL_law 3834 = .ok (.aload_n 3, 1) := by decide +kernel
theorem dL_law_3835 : decode cL_law 3835 = .ok (.invokestatic 380, 3) := by decide +kernel
theorem dL_law_3838 : decode cL_law 3838 = .ok (.istore 6, 2) := by decide +kernel
theorem dL_law_3840 : decode cL_law 3840 = .ok (.aload_n 2, 1) := by decide +kernel
theorem dL_law_3841 : decode cL_law 3841 = .ok (.aload_n 0, 1) := by decide +kernel
theorem dL_law_3842 : decode cL_law 3842 = .ok (.iload 5, 2) := by decide +kernel
theorem dL_law_3844 : decode cL_law 3844 = .ok (.iconst 1, 1) := by decide +kernel
theorem dL_law_3845 : decode cL_law 3845 = .ok (.iadd, 1) := by decide +kernel
theorem dL_law_3846 : decode cL_law 3846 = .ok (.iaload, 1) := by decide +kernel
theorem dL_law_3847 : decode cL_law 3847 = .ok (.invokevirtual 382, 3) := by decide +kernel
theorem dL_law_3850 : decode cL_law 3850 = .ok (.istore 7, 2) := by decide +kernel
theorem dL_law_3852 : decode cL_law 3852 = .ok (.aload_n 2, 1) := by decide +kernel
theorem dL_law_3853 : decode cL_law 3853 = .ok (.invokevirtual 222, 3) := by decide +kernel
theorem dL_law_3856 : decode cL_law 3856 = .ok (.iload 6, 2) := by decide +kernel
theorem dL_law_3858 : decode cL_law 3858 = .ok (.if_icmp .eq 5, 3) := by decide +kernel
theorem dL_law_3861 : decode cL_law 3861 = .ok (.iconst 0, 1) := by decide +kernel
theorem dL_law_3862 : decode cL_law 3862 = .ok (.ireturn, 1) := by decide +kernel
theorem dL_law_3863 : decode cL_law 3863 = .ok (.iload 6, 2) := by decide +kernel
theorem dL_law_3865 : decode cL_law 3865 = .ok (.ifCond .ne 15, 3) := by decide +kernel
theorem dL_law_3868 : decode cL_law 3868 = .ok (.aload_n 3, 1) := by decide +kernel
theorem dL_law_3869 : decode cL_law 3869 = .ok (.iconst 0, 1) := by decide +kernel
theorem dL_law_3870 : decode cL_law 3870 = .ok (.laload, 1) := by decide +kernel
theorem dL_law_3871 : decode cL_law 3871 = .ok (.iload 7, 2) := by decide +kernel
theorem dL_law_3873 : decode cL_law 3873 = .ok (.i2l, 1) := by decide +kernel
theorem dL_law_3874 : decode cL_law 3874 = .ok (.lcmp, 1) := by decide +kernel
theorem dL_law_3875 : decode cL_law 3875 = .ok (.ifCond .eq 5, 3) := by decide +kernel
theorem dL_law_3878 : decode cL_law 3878 = .ok (.iconst 0, 1) := by decide +kernel
theorem dL_law_3879 : decode cL_law 3879 = .ok (.ireturn, 1) := by decide +kernel
theorem dL_law_3880 : decode cL_law 3880 = .ok (.goto 247, 3) := by decide +kernel
theorem dL_law_3883 : decode cL_law 3883 = .ok (.aload_n 1, 1) := by decide +kernel
theorem dL_law_3884 : decode cL_law 3884 = .ok (.aload_n 0, 1) := by decide +kernel
theorem dL_law_3885 : decode cL_law 3885 = .ok (.iload 5, 2) := by decide +kernel
theorem dL_law_3887 : decode cL_law 3887 = .ok (.iconst 1, 1) := by decide +kernel
theorem dL_law_3888 : decode cL_law 3888 = .ok (.iadd, 1) := by decide +kernel
theorem dL_law_3889 : decode cL_law 3889 = .ok (.iaload, 1) := by decide +kernel
theorem dL_law_3890 : decode cL_law 3890 = .ok (.aload_n 0, 1) := by decide +kernel
theorem dL_law_3891 : decode cL_law 3891 = .ok (.iload 5, 2) := by decide +kernel
theorem dL_law_3893 : decode cL_law 3893 = .ok (.iconst 2, 1) := by decide +kernel
theorem dL_law_3894 : decode cL_law 3894 = .ok (.iadd, 1) := by decide +kernel
theorem dL_law_3895 : decode cL_law 3895 = .ok (.iaload, 1) := by decide +kernel
theorem dL_law_3896 : decode cL_law 3896 = .ok (.aload_n 0, 1) := by decide +kernel
theorem dL_law_3897 : decode cL_law 3897 = .ok (.iload 5, 2) := by decide +kernel
theorem dL_law_3899 : decode cL_law 3899 = .ok (.iconst 3, 1) := by decide +kernel
theorem dL_law_3900 : decode cL_law 3900 = .ok (.iadd, 1) := by decide +kernel
theorem dL_law_3901 : decode cL_law 3901 = .ok (.iaload, 1) := by decide +kernel
theorem dL_law_3902 : decode cL_law 3902 = .ok (.aload_n 3, 1) := by decide +kernel
theorem dL_law_3903 : decode cL_law 3903 = .ok (.invokestatic 383, 3) := by decide +kernel
theorem dL_law_3906 : decode cL_law 3906 = .ok (.istore 6, 2) := by decide +kernel
theorem dL_law_3908 : decode cL_law 3908 = .ok (.aload_n 2, 1) := by decide +kernel
theorem dL_law_3909 : decode cL_law 3909 = .ok (.aload_n 0, 1) := by decide +kernel
theorem dL_law_3910 : decode cL_law 3910 = .ok (.iload 5, 2) := by decide +kernel
theorem dL_law_3912 : decode cL_law 3912 = .ok (.iconst 1, 1) := by decide +kernel
theorem dL_law_3913 : decode cL_law 3913 = .ok (.iadd, 1) := by decide +kernel
theorem dL_law_3914 : decode cL_law 3914 = .ok (.iaload, 1) := by decide +kernel
theorem dL_law_3915 : decode cL_law 3915 = .ok (.aload_n 0, 1) := by decide +kernel
theorem dL_law_3916 : decode cL_law 3916 = .ok (.iload 5, 2) := by decide +kernel
theorem dL_law_3918 : decode cL_law 3918 = .ok (.iconst 2, 1) := by decide +kernel
theorem dL_law_3919 : decode cL_law 3919 = .ok (.iadd, 1) := by decide +kernel
theorem dL_law_3920 : decode cL_law 3920 = .ok (.iaload, 1) := by decide +kernel
theorem dL_law_3921 : decode cL_law 3921 = .ok (.aload_n 0, 1) := by decide +kernel
theorem dL_law_3922 : decode cL_law 3922 = .ok (.iload 5, 2) := by decide +kernel
theorem dL_law_3924 : decode cL_law 3924 = .ok (.iconst 3, 1) := by decide +kernel
theorem dL_law_3925 : decode cL_law 3925 = .ok (.iadd, 1) := by decide +kernel
theorem dL_law_3926 : decode cL_law 3926 = .ok (.iaload, 1) := by decide +kernel
theorem dL_law_3927 : decode cL_law 3927 = .ok (.invokevirtual 385, 3) := by decide +kernel
theorem dL_law_3930 : decode cL_law 3930 = .ok (.istore 7, 2) := by decide +kernel
theorem dL_law_3932 : decode cL_law 3932 = .ok (.aload_n 2, 1) := by decide +kernel
theorem dL_law_3933 : decode cL_law 3933 = .ok (.invokevirtual 222, 3) := by decide +kernel
theorem dL_law_3936 : decode cL_law 3936 = .ok (.iload 6, 2) := by decide +kernel
theorem dL_law_3938 : decode cL_law 3938 = .ok (.if_icmp .eq 5, 3) := by decide +kernel
theorem dL_law_3941 : decode cL_law 3941 = .ok (.iconst 0, 1) := by decide +kernel
theorem dL_law_3942 : decode cL_law 3942 = .ok (.ireturn, 1) := by decide +kernel
theorem dL_law_3943 : decode cL_law 3943 = .ok (.iload 6, 2) := by decide +kernel
theorem dL_law_3945 : decode cL_law 3945 = .ok (.ifCond .ne 15, 3) := by decide +kernel
theorem dL_law_3948 : decode cL_law 3948 = .ok (.aload_n 3, 1) := by decide +kernel
theorem dL_law_3949 : decode cL_law 3949 = .ok (.iconst 0, 1) := by decide +kernel
theorem dL_law_3950 : decode cL_law 3950 = .ok (.laload, 1) := by decide +kernel
theorem dL_law_3951 : decode cL_law 3951 = .ok (.iload 7, 2) := by decide +kernel
theorem dL_law_3953 : decode cL_law 3953 = .ok (.i2l, 1) := by decide +kernel
theorem dL_law_3954 : decode cL_law 3954 = .ok (.lcmp, 1) := by decide +kernel
theorem dL_law_3955 : decode cL_law 3955 = .ok (.ifCond .eq 5, 3) := by decide +kernel
theorem dL_law_3958 : decode cL_law 3958 = .ok (.iconst 0, 1) := by decide +kernel
theorem dL_law_3959 : decode cL_law 3959 = .ok (.ireturn, 1) := by decide +kernel
theorem dL_law_3960 : decode cL_law 3960 = .ok (.goto 167, 3) := by decide +kernel
theorem dL_law_3963 : decode cL_law 3963 = .ok (.aload_n 1, 1) := by decide +kernel
theorem dL_law_3964 : decode cL_law 3964 = .ok (.invokevirtual 386, 3) := by decide +kernel
theorem dL_law_3967 : decode cL_law 3967 = .ok (.aload_n 2, 1) := by decide +kernel
theorem dL_law_3968 : decode cL_law 3968 = .ok (.invokevirtual 389, 3) := by decide +kernel
theorem dL_law_3971 : decode cL_law 3971 = .ok (.if_icmp .eq 156, 3) := by decide +kernel
theorem dL_law_3974 : decode cL_law 3974 = .ok (.iconst 0, 1) := by decide +kernel
theorem dL_law_3975 : decode cL_law 3975 = .ok (.ireturn, 1) := by decide +kernel
theorem dL_law_3976 : decode cL_law 3976 = .ok (.aload_n 1, 1) := by decide +kernel
theorem dL_law_3977 : decode cL_law 3977 = .ok (.aload_n 0, 1) := by decide +kernel
theorem dL_law_3978 : decode cL_law 3978 = .ok (.iload 5, 2) := by decide +kernel
theorem dL_law_3980 : decode cL_law 3980 = .ok (.iconst 1, 1) := by decide +kernel
theorem dL_law_3981 : decode cL_law 3981 = .ok (.iadd, 1) := by decide +kernel
theorem dL_law_3982 : decode cL_law 3982 = .ok (.iaload, 1) := by decide +kernel
theorem dL_law_3983 : decode cL_law 3983 = .ok (.aload_n 3, 1) := by decide +kernel
theorem dL_law_3984 : decode cL_law 3984 = .ok (.invokestatic 390, 3) := by decide +kernel
theorem dL_law_3987 : decode cL_law 3987 = .ok (.istore 6, 2) := by decide +kernel
theorem dL_law_3989 : decode cL_law 3989 = .ok (.aload_n 2, 1) := by decide +kernel
theorem dL_law_3990 : decode cL_law 3990 = .ok (.aload_n 0, 1) := by decide +kernel
theorem dL_law_3991 : decode cL_law 3991 = .ok (.iload 5, 2) := by decide +kernel
theorem dL_law_3993 : decode cL_law 3993 = .ok (.iconst 1, 1) := by decide +kernel
theorem dL_law_3994 : decode cL_law 3994 = .ok (.iadd, 1) := by decide +kernel
theorem dL_law_3995 : decode cL_law 3995 = .ok (.iaload, 1) := by decide +kernel
theorem dL_law_3996 : decode cL_law 3996 = .ok (.invokevirtual 392, 3) := by decide +kernel
theorem dL_law_3999 : decode cL_law 3999 = .ok (.istore 7, 2) := by decide +kernel
theorem dL_law_4001 : decode cL_law 4001 = .ok (.aload_n 2, 1) := by decide +kernel
theorem dL_law_4002 : decode cL_law 4002 = .ok (.invokevirtual 222, 3) := by decide +kernel
theorem dL_law_4005 : decode cL_law 4005 = .ok (.iload 6, 2) := by decide +kernel
theorem dL_law_4007 : decode cL_law 4007 = .ok (.if_icmp .eq 5, 3) := by decide +kernel
theorem dL_law_4010 : decode cL_law 4010 = .ok (.iconst 0, 1) := by decide +kernel
theorem dL_law_4011 : decode cL_law 4011 = .ok (.ireturn, 1) := by decide +kernel
theorem dL_law_4012 : decode cL_law 4012 = .ok (.iload 6, 2) := by decide +kernel
theorem dL_law_4014 : decode cL_law 4014 = .ok (.ifCond .ne 15, 3) := by decide +kernel
theorem dL_law_4017 : decode cL_law 4017 = .ok (.aload_n 3, 1) := by decide +kernel
theorem dL_law_4018 : decode cL_law 4018 = .ok (.iconst 0, 1) := by decide +kernel
theorem dL_law_4019 : decode cL_law 4019 = .ok (.laload, 1) := by decide +kernel
theorem dL_law_4020 : decode cL_law 4020 = .ok (.iload 7, 2) := by decide +kernel
theorem dL_law_4022 : decode cL_law 4022 = .ok (.i2l, 1) := by decide +kernel
theorem dL_law_4023 : decode cL_law 4023 = .ok (.lcmp, 1) := by decide +kernel
theorem dL_law_4024 : decode cL_law 4024 = .ok (.ifCond .eq 5, 3) := by decide +kernel
theorem dL_law_4027 : decode cL_law 4027 = .ok (.iconst 0, 1) := by decide +kernel
theorem dL_law_4028 : decode cL_law 4028 = .ok (.ireturn, 1) := by decide +kernel
theorem dL_law_4029 : decode cL_law 4029 = .ok (.goto 98, 3) := by decide +kernel
theorem dL_law_4032 : decode cL_law 4032 = .ok (.aload_n 1, 1) := by decide +kernel
theorem dL_law_4033 : decode cL_law 4033 = .ok (.aload_n 0, 1) := by decide +kernel
theorem dL_law_4034 : decode cL_law 4034 = .ok (.iload 5, 2) := by decide +kernel
theorem dL_law_4036 : decode cL_law 4036 = .ok (.iconst 1, 1) := by decide +kernel
theorem dL_law_4037 : decode cL_law 4037 = .ok (.iadd, 1) := by decide +kernel
theorem dL_law_4038 : decode cL_law 4038 = .ok (.iaload, 1) := by decide +kernel
theorem dL_law_4039 : decode cL_law 4039 = .ok (.invokevirtual 393, 3) := by decide +kernel
theorem dL_law_4042 : decode cL_law 4042 = .ok (.aload_n 2, 1) := by decide +kernel
theorem dL_law_4043 : decode cL_law 4043 = .ok (.aload_n 0, 1) := by decide +kernel
theorem dL_law_4044 : decode cL_law 4044 = .ok (.iload 5, 2) := by decide +kernel
theorem dL_law_4046 : decode cL_law 4046 = .ok (.iconst 1, 1) := by decide +kernel
theorem dL_law_4047 : decode cL_law 4047 = .ok (.iadd, 1) := by decide +kernel
theorem dL_law_4048 : decode cL_law 4048 = .ok (.iaload, 1) := by decide +kernel
theorem dL_law_4049 : decode cL_law 4049 = .ok (.invokevirtual 396, 3) := by decide +kernel
theorem dL_law_4052 : decode cL_law 4052 = .ok (.if_icmp .eq 75, 3) := by decide +kernel
theorem dL_law_4055 : decode cL_law 4055 = .ok (.iconst 0, 1) := by decide +kernel
theorem dL_law_4056 : decode cL_law 4056 = .ok (.ireturn, 1) := by decide +kernel
theorem dL_law_4057 : decode cL_law 4057 = .ok (.aload_n 1, 1) := by decide +kernel
theorem dL_law_4058 : decode cL_law 4058 = .ok (.invokevirtual 397, 3) := by decide +kernel
theorem dL_law_4061 : decode cL_law 4061 = .ok (.aload_n 2, 1) := by decide +kernel
theorem dL_law_4062 : decode cL_law 4062 = .ok (.invokevirtual 400, 3) := by decide +kernel
theorem dL_law_4065 : decode cL_law 4065 = .ok (.if_icmp .eq 62, 3) := by decide +kernel
theorem dL_law_4068 : decode cL_law 4068 = .ok (.iconst 0, 1) := by decide +kernel
theorem dL_law_4069 : decode cL_law 4069 = .ok (.ireturn, 1) := by decide +kernel
theorem dL_law_4070 : decode cL_law 4070 = .ok (.aload_n 1, 1) := by decide +kernel
theorem dL_law_4071 : decode cL_law 4071 = .ok (.invokevirtual 401, 3) := by decide +kernel
theorem dL_law_4074 : decode cL_law 4074 = .ok (.aload_n 2, 1) := by decide +kernel
theorem dL_law_4075 : decode cL_law 4075 = .ok (.invokevirtual 404, 3) := by decide +kernel
theorem dL_law_4078 : decode cL_law 4078 = .ok (.if_icmp .eq 49, 3) := by decide +kernel
theorem dL_law_4081 : decode cL_law 4081 = .ok (.iconst 0, 1) := by decide +kernel
theorem dL_law_4082 : decode cL_law 4082 = .ok (.ireturn, 1) := by decide +kernel
theorem dL_law_4083 : decode cL_law 4083 = .ok (.aload_n 1, 1) := by decide +kernel
theorem dL_law_4084 : decode cL_law 4084 = .ok (.aload_n 3, 1) := by decide +kernel
theorem dL_law_4085 : decode cL_law 4085 = .ok (.invokestatic 405, 3) := by decide +kernel
theorem dL_law_4088 : decode cL_law 4088 = .ok (.istore 6, 2) := by decide +kernel
theorem dL_law_4090 : decode cL_law 4090 = .ok (.aload_n 2, 1) := by decide +kernel
theorem dL_law_4091 : decode cL_law 4091 = .ok (.invokevirtual 408, 3) := by decide +kernel
theorem dL_law_4094 : decode cL_law 4094 = .ok (.istore 7, 2) := by decide +kernel
theorem dL_law_4096 : decode cL_law 4096 = .ok (.aload_n 2, 1) := by decide +kernel
theorem dL_law_4097 : decode cL_law 4097 = .ok (.invokevirtual 222, 3) := by decide +kernel
theorem dL_law_4100 : decode cL_law 4100 = .ok (.iload 6, 2) := by decide +kernel
theorem dL_law_4102 : decode cL_law 4102 = .ok (.if_icmp .eq 5, 3) := by decide +kernel
theorem dL_law_4105 : decode cL_law 4105 = .ok (.iconst 0, 1) := by decide +kernel
theorem dL_law_4106 : decode cL_law 4106 = .ok (.ireturn, 1) := by decide +kernel
theorem dL_law_4107 : decode cL_law 4107 = .ok (.iload 6, 2) := by decide +kernel
theorem dL_law_4109 : decode cL_law 4109 = .ok (.ifCond .ne 15, 3) := by decide +kernel
theorem dL_law_4112 : decode cL_law 4112 = .ok (.aload_n 3, 1) := by decide +kernel
theorem dL_law_4113 : decode cL_law 4113 = .ok (.iconst 0, 1) := by decide +kernel
theorem dL_law_4114 : decode cL_law 4114 = .ok (.laload, 1) := by decide +kernel
theorem dL_law_4115 : decode cL_law 4115 = .ok (.iload 7, 2) := by decide +kernel
theorem dL_law_4117 : decode cL_law 4117 = .ok (.i2l, 1) := by decide +kernel
theorem dL_law_4118 : decode cL_law 4118 = .ok (.lcmp, 1) := by decide +kernel
theorem dL_law_4119 : decode cL_law 4119 = .ok (.ifCond .eq 5, 3) := by decide +kernel
theorem dL_law_4122 : decode cL_law 4122 = .ok (.iconst 0, 1) := by decide +kernel
theorem dL_law_4123 : decode cL_law 4123 = .ok (.ireturn, 1) := by decide +kernel
theorem dL_law_4124 : decode cL_law 4124 = .ok (.goto 3, 3) := by decide +kernel
theorem dL_law_4127 : decode cL_law 4127 = .ok (.iinc 5 6, 3) := by decide +kernel
theorem dL_law_4130 : decode cL_law 4130 = .ok (.goto (-4102), 3) := by decide +kernel
theorem dL_law_4133 : decode cL_law 4133 = .ok (.iconst 1, 1) := by decide +kernel
theorem dL_law_4134 : decode cL_law 4134 = .ok (.ireturn, 1) := by decide +kernel
