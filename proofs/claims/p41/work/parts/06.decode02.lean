theorem dX6_readNumber_37 : decode cX6_readNumber 37 = .ok (.iadd, 1) := by decide +kernel
theorem dX6_readNumber_38 : decode cX6_readNumber 38 = .ok (.bipush 48, 2) := by decide +kernel
theorem dX6_readNumber_40 : decode cX6_readNumber 40 = .ok (.isub, 1) := by decide +kernel
theorem dX6_readNumber_41 : decode cX6_readNumber 41 = .ok (.istore_n 1, 1) := by decide +kernel
theorem dX6_readNumber_42 : decode cX6_readNumber 42 = .ok (.aload_n 0, 1) := by decide +kernel
theorem dX6_readNumber_43 : decode cX6_readNumber 43 = .ok (.dup, 1) := by decide +kernel
theorem dX6_readNumber_44 : decode cX6_readNumber 44 = .ok (.getfield 43, 3) := by decide +kernel
theorem dX6_readNumber_47 : decode cX6_readNumber 47 = .ok (.iconst 1, 1) := by decide +kernel
theorem dX6_readNumber_48 : decode cX6_readNumber 48 = .ok (.iadd, 1) := by decide +kernel
theorem dX6_readNumber_49 : decode cX6_readNumber 49 = .ok (.putfield 43, 3) := by decide +kernel
theorem dX6_readNumber_52 : decode cX6_readNumber 52 = .ok (.iinc 2 1, 3) := by decide +kernel
theorem dX6_readNumber_55 : decode cX6_readNumber 55 = .ok (.goto (-51), 3) := by decide +kernel
theorem dX6_readNumber_58 : decode cX6_readNumber 58 = .ok (.iload_n 1, 1) := by decide +kernel
theorem dX6_readNumber_59 : decode cX6_readNumber 59 = .ok (.ireturn, 1) := by decide +kernel
theorem dX6_readFrom_0 : decode cX6_readFrom 0 = .ok (.aload_n 0, 1) := by decide +kernel
theorem dX6_readFrom_1 : decode cX6_readFrom 1 = .ok (.invokevirtual 93, 3) := by decide +kernel
theorem dX6_readFrom_4 : decode cX6_readFrom 4 = .ok (.istore_n 3, 1) := by decide +kernel
theorem dX6_readFrom_5 : decode cX6_readFrom 5 = .ok (.iload_n 3, 1) := by decide +kernel
theorem dX6_readFrom_6 : decode cX6_readFrom 6 = .ok (.iload_n 1, 1) := by decide +kernel
theorem dX6_readFrom_7 : decode cX6_readFrom 7 = .ok (.if_icmp .lt 8, 3) := by decide +kernel
theorem dX6_readFrom_10 : decode cX6_readFrom 10 = .ok (.iload_n 3, 1) := by decide +kernel
theorem dX6_readFrom_11 : decode cX6_readFrom 11 = .ok (.iload_n 2, 1) := by decide +kernel
theorem dX6_readFrom_12 : decode cX6_readFrom 12 = .ok (.if_icmp .le 5, 3) := by decide +kernel
theorem dX6_readFrom_15 : decode cX6_readFrom 15 = .ok (.iconst (-1), 1) := by decide +kernel
theorem dX6_readFrom_16 : decode cX6_readFrom 16 = .ok (.ireturn, 1) := by decide +kernel
theorem dX6_readFrom_17 : decode cX6_readFrom 17 = .ok (.aload_n 0, 1) := by decide +kernel
theorem dX6_readFrom_18 : decode cX6_readFrom 18 = .ok (.dup, 1) := by decide +kernel
theorem dX6_readFrom_19 : decode cX6_readFrom 19 = .ok (.getfield 43, 3) := by decide +kernel
theorem dX6_readFrom_22 : decode cX6_readFrom 22 = .ok (.iconst 1, 1) := by decide +kernel
theorem dX6_readFrom_23 : decode cX6_readFrom 23 = .ok (.iadd, 1) := by decide +kernel
theorem dX6_readFrom_24 : decode cX6_readFrom 24 = .ok (.putfield 43, 3) := by decide +kernel
theorem dX6_readFrom_27 : decode cX6_readFrom 27 = .ok (.iload_n 3, 1) := by decide +kernel
theorem dX6_readFrom_28 : decode cX6_readFrom 28 = .ok (.iload_n 1, 1) := by decide +kernel
theorem dX6_readFrom_29 : decode cX6_readFrom 29 = .ok (.isub, 1) := by decide +kernel
theorem dX6_readFrom_30 : decode cX6_readFrom 30 = .ok (.ireturn, 1) := by decide +kernel
theorem dX6_readAct_0 : decode cX6_readAct 0 = .ok (.aload_n 0, 1) := by decide +kernel
theorem dX6_readAct_1 : decode cX6_readAct 1 = .ok (.invokevirtual 93, 3) := by decide +kernel
theorem dX6_readAct_4 : decode cX6_readAct 4 = .ok (.istore_n 3, 1) := by decide +kernel
theorem dX6_readAct_5 : decode cX6_readAct 5 = .ok (.aload_n 1, 1) := by decide +kernel
theorem dX6_readAct_6 : decode cX6_readAct 6 = .ok (.iload_n 3, 1) := by decide +kernel
theorem dX6_readAct_7 : decode cX6_readAct 7 = .ok (.putfield 69, 3) := by decide +kernel
theorem dX6_readAct_10 : decode cX6_readAct 10 = .ok (.iload_n 2, 1) := by decide +kernel
theorem dX6_readAct_11 : decode cX6_readAct 11 = .ok (.ifCond .eq 17, 3) := by decide +kernel
theorem dX6_readAct_14 : decode cX6_readAct 14 = .ok (.aload_n 1, 1) := by decide +kernel
theorem dX6_readAct_15 : decode cX6_readAct 15 = .ok (.invokevirtual 65, 3) := by decide +kernel
theorem dX6_readAct_18 : decode cX6_readAct 18 = .ok (.ifCond .ne 23, 3) := by decide +kernel
theorem dX6_readAct_21 : decode cX6_readAct 21 = .ok (.aload_n 1, 1) := by decide +kernel
theorem dX6_readAct_22 : decode cX6_readAct 22 = .ok (.invokevirtual 134, 3) := by decide +kernel
theorem dX6_readAct_25 : decode cX6_readAct 25 = .ok (.ifCond .ne 16, 3) := by decide +kernel
theorem dX6_readAct_28 : decode cX6_readAct 28 = .ok (.iload_n 3, 1) := by decide +kernel
theorem dX6_readAct_29 : decode cX6_readAct 29 = .ok (.bipush 58, 2) := by decide +kernel
theorem dX6_readAct_31 : decode cX6_readAct 31 = .ok (.if_icmp .ne 12, 3) := by decide +kernel
theorem dX6_readAct_34 : decode cX6_readAct 34 = .ok (.aload_n 1, 1) := by decide +kernel
theorem dX6_readAct_35 : decode cX6_readAct 35 = .ok (.getfield 90, 3) := by decide +kernel
theorem dX6_readAct_38 : decode cX6_readAct 38 = .ok (.ifCond .eq 5, 3) := by decide +kernel
theorem dX6_readAct_41 : decode cX6_readAct 41 = .ok (.iconst 0, 1) := by decide +kernel
theorem dX6_readAct_42 : decode cX6_readAct 42 = .ok (.ireturn, 1) := by decide +kernel
theorem dX6_readAct_43 : decode cX6_readAct 43 = .ok (.iload_n 3, 1) := by decide +kernel
theorem dX6_readAct_44 : decode cX6_readAct 44 = .ok (.tableswitch 521 58 123 #[431, 521, 308, 296, 308, 521, 521, 521, 521, 521, 521, 521, 521, 505, 296, 521, 521, 521, 521, 521, 296, 308, 521, 521, 521, 521, 431, 521, 521, 521, 521, 521, 521, 521, 521, 521, 521, 521, 521, 280, 431, 280, 296, 296, 521, 505, 296, 280, 296, 359, 296, 340, 296, 308, 296, 296, 395, 473, 340, 296, 308, 395, 521, 521, 489, 296], 280) := by decide +kernel
theorem dX6_readAct_324 : decode cX6_readAct 324 = .ok (.aload_n 0, 1) := by decide +kernel
theorem dX6_readAct_325 : decode cX6_readAct 325 = .ok (.dup, 1) := by decide +kernel
theorem dX6_readAct_326 : decode cX6_readAct 326 = .ok (.getfield 43, 3) := by decide +kernel
theorem dX6_readAct_329 : decode cX6_readAct 329 = .ok (.iconst 1, 1) := by decide +kernel
theorem dX6_readAct_330 : decode cX6_readAct 330 = .ok (.iadd, 1) := by decide +kernel
theorem dX6_readAct_331 : decode cX6_readAct 331 = .ok (.putfield 43, 3) := by decide +kernel
theorem dX6_readAct_334 : decode cX6_readAct 334 = .ok (.aload_n 0, 1) := by decide +kernel
theorem dX6_readAct_335 : decode cX6_readAct 335 = .ok (.aload_n 1, 1) := by decide +kernel
theorem dX6_readAct_336 : decode cX6_readAct 336 = .ok (.invokevirtual 137, 3) := by decide +kernel
theorem dX6_readAct_339 : decode cX6_readAct 339 = .ok (.ireturn, 1) := by decide +kernel
theorem dX6_readAct_340 : decode cX6_readAct 340 = .ok (.aload_n 0, 1) := by decide +kernel
theorem dX6_readAct_341 : decode cX6_readAct 341 = .ok (.dup, 1) := by decide +kernel
theorem dX6_readAct_342 : decode cX6_readAct 342 = .ok (.getfield 43, 3) := by decide +kernel
theorem dX6_readAct_345 : decode cX6_readAct 345 = .ok (.iconst 1, 1) := by decide +kernel
theorem dX6_readAct_346 : decode cX6_readAct 346 = .ok (.iadd, 1) := by decide +kernel
theorem dX6_readAct_347 : decode cX6_readAct 347 = .ok (.putfield 43, 3) := by decide +kernel
theorem dX6_readAct_350 : decode cX6_readAct 350 = .ok (.iconst 1, 1) := by decide +kernel
theorem dX6_readAct_351 : decode cX6_readAct 351 = .ok (.ireturn, 1) := by decide +kernel
theorem dX6_readAct_352 : decode cX6_readAct 352 = .ok (.aload_n 0, 1) := by decide +kernel
theorem dX6_readAct_353 : decode cX6_readAct 353 = .ok (.dup, 1) := by decide +kernel
theorem dX6_readAct_354 : decode cX6_readAct 354 = .ok (.getfield 43, 3) := by decide +kernel
theorem dX6_readAct_357 : decode cX6_readAct 357 = .ok (.iconst 1, 1) := by decide +kernel
theorem dX6_readAct_358 : decode cX6_readAct 358 = .ok (.iadd, 1) := by decide +kernel
theorem dX6_readAct_359 : decode cX6_readAct 359 = .ok (.putfield 43, 3) := by decide +kernel
theorem dX6_readAct_362 : decode cX6_readAct 362 = .ok (.aload_n 1, 1) := by decide +kernel
theorem dX6_readAct_363 : decode cX6_readAct 363 = .ok (.aload_n 0, 1) := by decide +kernel
theorem dX6_readAct_364 : decode cX6_readAct 364 = .ok (.invokevirtual 115, 3) := by decide +kernel
theorem dX6_readAct_367 : decode cX6_readAct 367 = .ok (.putfield 140, 3) := by decide +kernel
theorem dX6_readAct_370 : decode cX6_readAct 370 = .ok (.aload_n 1, 1) := by decide +kernel
theorem dX6_readAct_371 : decode cX6_readAct 371 = .ok (.getfield 140, 3) := by decide +kernel
theorem dX6_readAct_374 : decode cX6_readAct 374 = .ok (.iconst (-1), 1) := by decide +kernel
theorem dX6_readAct_375 : decode cX6_readAct 375 = .ok (.if_icmp .eq 7, 3) := by decide +kernel
theorem dX6_readAct_378 : decode cX6_readAct 378 = .ok (.iconst 1, 1) := by decide +kernel
theorem dX6_readAct_379 : decode cX6_readAct 379 = .ok (.goto 4, 3) := by decide +kernel
theorem dX6_readAct_382 : decode cX6_readAct 382 = .ok (.iconst 0, 1) := by decide +kernel
theorem dX6_readAct_383 : decode cX6_readAct 383 = .ok (.ireturn, 1) := by decide +kernel
theorem dX6_readAct_384 : decode cX6_readAct 384 = .ok (.aload_n 0, 1) := by decide +kernel
theorem dX6_readAct_385 : decode cX6_readAct 385 = .ok (.dup, 1) := by decide +kernel
theorem dX6_readAct_386 : decode cX6_readAct 386 = .ok (.getfield 43, 3) := by decide +kernel
theorem dX6_readAct_389 : decode cX6_readAct 389 = .ok (.iconst 1, 1) := by decide +kernel
theorem dX6_readAct_390 : decode cX6_readAct 390 = .ok (.iadd, 1) := by decide +kernel
theorem dX6_readAct_391 : decode cX6_readAct 391 = .ok (.putfield 43, 3) := by decide +kernel
theorem dX6_readAct_394 : decode cX6_readAct 394 = .ok (.aload_n 0, 1) := by decide +kernel
theorem dX6_readAct_395 : decode cX6_readAct 395 = .ok (.aload_n 1, 1) := by decide +kernel
theorem dX6_readAct_396 : decode cX6_readAct 396 = .ok (.getfield 143, 3) := by decide +kernel
theorem dX6_readAct_399 : decode cX6_readAct 399 = .ok (.invokevirtual 103, 3) := by decide +kernel
theorem dX6_readAct_402 : decode cX6_readAct 402 = .ok (.ireturn, 1) := by decide +kernel
theorem dX6_readAct_403 : decode cX6_readAct 403 = .ok (.aload_n 0, 1) := by decide +kernel
theorem dX6_readAct_404 : decode cX6_readAct 404 = .ok (.dup, 1) := by decide +kernel
theorem dX6_readAct_405 : decode cX6_readAct 405 = .ok (.getfield 43, 3) := by decide +kernel
theorem dX6_readAct_408 : decode cX6_readAct 408 = .ok (.iconst 1, 1) := by decide +kernel
theorem dX6_readAct_409 : decode cX6_readAct 409 = .ok (.iadd, 1) := by decide +kernel
theorem dX6_readAct_410 : decode cX6_readAct 410 = .ok (.putfield 43, 3) := by decide +kernel
theorem dX6_readAct_413 : decode cX6_readAct 413 = .ok (.aload_n 1, 1) := by decide +kernel
theorem dX6_readAct_414 : decode cX6_readAct 414 = .ok (.aload_n 0, 1) := by decide +kernel
theorem dX6_readAct_415 : decode cX6_readAct 415 = .ok (.bipush 97, 2) := by decide +kernel
theorem dX6_readAct_417 : decode cX6_readAct 417 = .ok (.bipush 101, 2) := by decide +kernel
theorem dX6_readAct_419 : decode cX6_readAct 419 = .ok (.invokevirtual 121, 3) := by decide +kernel
theorem dX6_readAct_422 : decode cX6_readAct 422 = .ok (.putfield 140, 3) := by decide +kernel
theorem dX6_readAct_425 : decode cX6_readAct 425 = .ok (.aload_n 1, 1) := by decide +kernel
theorem dX6_readAct_426 : decode cX6_readAct 426 = .ok (.getfield 140, 3) := by decide +kernel
theorem dX6_readAct_429 : decode cX6_readAct 429 = .ok (.iconst (-1), 1) := by decide +kernel
theorem dX6_readAct_430 : decode cX6_readAct 430 = .ok (.if_icmp .eq 7, 3) := by decide +kernel
theorem dX6_readAct_433 : decode cX6_readAct 433 = .ok (.iconst 1, 1) := by decide +kernel
theorem dX6_readAct_434 : decode cX6_readAct 434 = .ok (.goto 4, 3) := by decide +kernel
theorem dX6_readAct_437 : decode cX6_readAct 437 = .ok (.iconst 0, 1) := by decide +kernel
theorem dX6_readAct_438 : decode cX6_readAct 438 = .ok (.ireturn, 1) := by decide +kernel
theorem dX6_readAct_439 : decode cX6_readAct 439 = .ok (.aload_n 0, 1) := by decide +kernel
theorem dX6_readAct_440 : decode cX6_readAct 440 = .ok (.dup, 1) := by decide +kernel
theorem dX6_readAct_441 : decode cX6_readAct 441 = .ok (.getfield 43, 3) := by decide +kernel
theorem dX6_readAct_444 : decode cX6_readAct 444 = .ok (.iconst 1, 1) := by decide +kernel
theorem dX6_readAct_445 : decode cX6_readAct 445 = .ok (.iadd, 1) := by decide +kernel
theorem dX6_readAct_446 : decode cX6_readAct 446 = .ok (.putfield 43, 3) := by decide +kernel
theorem dX6_readAct_449 : decode cX6_readAct 449 = .ok (.aload_n 1, 1) := by decide +kernel
theorem dX6_readAct_450 : decode cX6_readAct 450 = .ok (.aload_n 0, 1) := by decide +kernel
theorem dX6_readAct_451 : decode cX6_readAct 451 = .ok (.bipush 48, 2) := by decide +kernel
theorem dX6_readAct_453 : decode cX6_readAct 453 = .ok (.bipush 51, 2) := by decide +kernel
theorem dX6_readAct_455 : decode cX6_readAct 455 = .ok (.invokevirtual 121, 3) := by decide +kernel
theorem dX6_readAct_458 : decode cX6_readAct 458 = .ok (.putfield 140, 3) := by decide +kernel
theorem dX6_readAct_461 : decode cX6_readAct 461 = .ok (.aload_n 1, 1) := by decide +kernel
theorem dX6_readAct_462 : decode cX6_readAct 462 = .ok (.getfield 140, 3) := by decide +kernel
theorem dX6_readAct_465 : decode cX6_readAct 465 = .ok (.iconst (-1), 1) := by decide +kernel
theorem dX6_readAct_466 : decode cX6_readAct 466 = .ok (.if_icmp .eq 7, 3) := by decide +kernel
theorem dX6_readAct_469 : decode cX6_readAct 469 = .ok (.iconst 1, 1) := by decide +kernel
theorem dX6_readAct_470 : decode cX6_readAct 470 = .ok (.goto 4, 3) := by decide +kernel
theorem dX6_readAct_473 : decode cX6_readAct 473 = .ok (.iconst 0, 1) := by decide +kernel
theorem dX6_readAct_474 : decode cX6_readAct 474 = .ok (.ireturn, 1) := by decide +kernel
theorem dX6_readAct_475 : decode cX6_readAct 475 = .ok (.aload_n 0, 1) := by decide +kernel
theorem dX6_readAct_476 : decode cX6_readAct 476 = .ok (.dup, 1) := by decide +kernel
theorem dX6_readAct_477 : decode cX6_readAct 477 = .ok (.getfield 43, 3) := by decide +kernel
theorem dX6_readAct_480 : decode cX6_readAct 480 = .ok (.iconst 1, 1) := by decide +kernel
theorem dX6_readAct_481 : decode cX6_readAct 481 = .ok (.iadd, 1) := by decide +kernel
theorem dX6_readAct_482 : decode cX6_readAct 482 = .ok (.putfield 43, 3) := by decide +kernel
theorem dX6_readAct_485 : decode cX6_readAct 485 = .ok (.aload_n 1, 1) := by decide +kernel
theorem dX6_readAct_486 : decode cX6_readAct 486 = .ok (.aload_n 0, 1) := by decide +kernel
theorem dX6_readAct_487 : decode cX6_readAct 487 = .ok (.bipush 65, 2) := by decide +kernel
theorem dX6_readAct_489 : decode cX6_readAct 489 = .ok (.bipush 90, 2) := by decide +kernel
theorem dX6_readAct_491 : decode cX6_readAct 491 = .ok (.invokevirtual 121, 3) := by decide +kernel
theorem dX6_readAct_494 : decode cX6_readAct 494 = .ok (.putfield 140, 3) := by decide +kernel
theorem dX6_readAct_497 : decode cX6_readAct 497 = .ok (.aload_n 1, 1) := by decide +kernel
theorem dX6_readAct_498 : decode cX6_readAct 498 = .ok (.getfield 140, 3) := by decide +kernel
theorem dX6_readAct_501 : decode cX6_readAct 501 = .ok (.iconst (-1), 1) := by decide +kernel
theorem dX6_readAct_502 : decode cX6_readAct 502 = .ok (.if_icmp .ne 9, 3) := by decide +kernel
theorem dX6_readAct_505 : decode cX6_readAct 505 = .ok (.iload_n 3, 1) := by decide +kernel
theorem dX6_readAct_506 : decode cX6_readAct 506 = .ok (.bipush 58, 2) := by decide +kernel
theorem dX6_readAct_508 : decode cX6_readAct 508 = .ok (.if_icmp .eq 7, 3) := by decide +kernel
theorem dX6_readAct_511 : decode cX6_readAct 511 = .ok (.iconst 1, 1) := by decide +kernel
theorem dX6_readAct_512 : decode cX6_readAct 512 = .ok (.goto 4, 3) := by decide +kernel
theorem dX6_readAct_515 : decode cX6_readAct 515 = .ok (.iconst 0, 1) := by decide +kernel
theorem dX6_readAct_516 : decode cX6_readAct 516 = .ok (.ireturn, 1) := by decide +kernel
theorem dX6_readAct_517 : decode cX6_readAct 517 = .ok (.aload_n 0, 1) := by decide +kernel
theorem dX6_readAct_518 : decode cX6_readAct 518 = .ok (.dup, 1) := by decide +kernel
theorem dX6_readAct_519 : decode cX6_readAct 519 = .ok (.getfield 43, 3) := by decide +kernel
theorem dX6_readAct_522 : decode cX6_readAct 522 = .ok (.iconst 1, 1) := by decide +kernel
theorem dX6_readAct_523 : decode cX6_readAct 523 = .ok (.iadd, 1) := by decide +kernel
theorem dX6_readAct_524 : decode cX6_readAct 524 = .ok (.putfield 43, 3) := by decide +kernel
theorem dX6_readAct_527 : decode cX6_readAct 527 = .ok (.aload_n 0, 1) := by decide +kernel
theorem dX6_readAct_528 : decode cX6_readAct 528 = .ok (.aload_n 1, 1) := by decide +kernel
theorem dX6_readAct_529 : decode cX6_readAct 529 = .ok (.invokevirtual 146, 3) := by decide +kernel
theorem dX6_readAct_532 : decode cX6_readAct 532 = .ok (.ireturn, 1) := by decide +kernel
theorem dX6_readAct_533 : decode cX6_readAct 533 = .ok (.aload_n 0, 1) := by decide +kernel
theorem dX6_readAct_534 : decode cX6_readAct 534 = .ok (.dup, 1) := by decide +kernel
theorem dX6_readAct_535 : decode cX6_readAct 535 = .ok (.getfield 43, 3) := by decide +kernel
theorem dX6_readAct_538 : decode cX6_readAct 538 = .ok (.iconst 1, 1) := by decide +kernel
theorem dX6_readAct_539 : decode cX6_readAct 539 = .ok (.iadd, 1) := by decide +kernel
theorem dX6_readAct_540 : decode cX6_readAct 540 = .ok (.putfield 43, 3) := by decide +kernel
theorem dX6_readAct_543 : decode cX6_readAct 543 = .ok (.aload_n 0, 1) := by decide +kernel
theorem dX6_readAct_544 : decode cX6_readAct 544 = .ok (.aload_n 1, 1) := by decide +kernel
theorem dX6_readAct_545 : decode cX6_readAct 545 = .ok (.invokevirtual 149, 3) := by decide +kernel
theorem dX6_readAct_548 : decode cX6_readAct 548 = .ok (.ireturn, 1) := by decide +kernel
theorem dX6_readAct_549 : decode cX6_readAct 549 = .ok (.aload_n 0, 1) := by decide +kernel
theorem dX6_readAct_550 : decode cX6_readAct 550 = .ok (.dup, 1) := by decide +kernel
theorem dX6_readAct_551 : decode cX6_readAct 551 = .ok (.getfield 43, 3) := by decide +kernel
theorem dX6_readAct_554 : decode cX6_readAct 554 = .ok (.iconst 1, 1) := by decide +kernel
theorem dX6_readAct_555 : decode cX6_readAct 555 = .ok (.iadd, 1) := by decide +kernel
theorem dX6_readAct_556 : decode cX6_readAct 556 = .ok (.putfield 43, 3) := by decide +kernel
theorem dX6_readAct_559 : decode cX6_readAct 559 = .ok (.aload_n 0, 1) := by decide +kernel
theorem dX6_readAct_560 : decode cX6_readAct 560 = .ok (.aload_n 1, 1) := by decide +kernel
theorem dX6_readAct_561 : decode cX6_readAct 561 = .ok (.invokevirtual 152, 3) := by decide +kernel
theorem dX6_readAct_564 : decode cX6_readAct 564 = .ok (.ireturn, 1) := by decide +kernel
theorem dX6_readAct_565 : decode cX6_readAct 565 = .ok (.iconst 0, 1) := by decide +kernel
theorem dX6_readAct_566 : decode cX6_readAct 566 = .ok (.ireturn, 1) := by decide +kernel
theorem dX6_readRows_0 : decode cX6_readRows 0 = .ok (.aload_n 1, 1) := by decide +kernel
theorem dX6_readRows_1 : decode cX6_readRows 1 = .ok (.aload_n 0, 1) := by decide +kernel
theorem dX6_readRows_2 : decode cX6_readRows 2 = .ok (.getfield 43, 3) := by decide +kernel
theorem dX6_readRows_5 : decode cX6_readRows 5 = .ok (.putfield 155, 3) := by decide +kernel
theorem dX6_readRows_8 : decode cX6_readRows 8 = .ok (.iconst 0, 1) := by decide +kernel
theorem dX6_readRows_9 : decode cX6_readRows 9 = .ok (.istore_n 2, 1) := by decide +kernel
theorem dX6_readRows_10 : decode cX6_readRows 10 = .ok (.iconst 0, 1) := by decide +kernel
theorem dX6_readRows_11 : decode cX6_readRows 11 = .ok (.istore_n 3, 1) := by decide +kernel
theorem dX6_readRows_12 : decode cX6_readRows 12 = .ok (.iload_n 3, 1) := by decide +kernel
theorem dX6_readRows_13 : decode cX6_readRows 13 = .ok (.bipush 60, 2) := by decide +kernel
theorem dX6_readRows_15 : decode cX6_readRows 15 = .ok (.if_icmp .gt 83, 3) := by decide +kernel
theorem dX6_readRows_18 : decode cX6_readRows 18 = .ok (.aload_n 0, 1) := by decide +kernel
theorem dX6_readRows_19 : decode cX6_readRows 19 = .ok (.invokevirtual 93, 3) := by decide +kernel
theorem dX6_readRows_22 : decode cX6_readRows 22 = .ok (.istore 4, 2) := by decide +kernel
theorem dX6_readRows_24 : decode cX6_readRows 24 = .ok (.iload 4, 2) := by decide +kernel
theorem dX6_readRows_26 : decode cX6_readRows 26 = .ok (.bipush 124, 2) := by decide +kernel
theorem dX6_readRows_28 : decode cX6_readRows 28 = .ok (.if_icmp .ne 7, 3) := by decide +kernel
theorem dX6_readRows_31 : decode cX6_readRows 31 = .ok (.iconst 1, 1) := by decide +kernel
theorem dX6_readRows_32 : decode cX6_readRows 32 = .ok (.goto 4, 3) := by decide +kernel
theorem dX6_readRows_35 : decode cX6_readRows 35 = .ok (.iconst 0, 1) := by decide +kernel
theorem dX6_readRows_36 : decode cX6_readRows 36 = .ok (.istore 5, 2) := by decide +kernel
theorem dX6_readRows_38 : decode cX6_readRows 38 = .ok (.iload 5, 2) := by decide +kernel
theorem dX6_readRows_40 : decode cX6_readRows 40 = .ok (.ifCond .ne 16, 3) := by decide +kernel
theorem dX6_readRows_43 : decode cX6_readRows 43 = .ok (.iload 4, 2) := by decide +kernel
theorem dX6_readRows_45 : decode cX6_readRows 45 = .ok (.invokestatic 158, 3) := by decide +kernel
theorem dX6_readRows_48 : decode cX6_readRows 48 = .ok (.lconst 0, 1) := by decide +kernel
theorem dX6_readRows_49 : decode cX6_readRows 49 = .ok (.lcmp, 1) := by decide +kernel
theorem dX6_readRows_50 : decode cX6_readRows 50 = .ok (.ifCond .ne 6, 3) := by decide +kernel
theorem dX6_readRows_53 : decode cX6_readRows 53 = .ok (.goto 45, 3) := by decide +kernel
theorem dX6_readRows_56 : decode cX6_readRows 56 = .ok (.iload 5, 2) := by decide +kernel
theorem dX6_readRows_58 : decode cX6_readRows 58 = .ok (.ifCond .ne 11, 3) := by decide +kernel
theorem dX6_readRows_61 : decode cX6_readRows 61 = .ok (.iload_n 2, 1) := by decide +kernel
theorem dX6_readRows_62 : decode cX6_readRows 62 = .ok (.bipush 30, 2) := by decide +kernel
theorem dX6_readRows_64 : decode cX6_readRows 64 = .ok (.if_icmp .lt 5, 3) := by decide +kernel
theorem dX6_readRows_67 : decode cX6_readRows 67 = .ok (.iconst 0, 1) := by decide +kernel
theorem dX6_readRows_68 : decode cX6_readRows 68 = .ok (.ireturn, 1) := by decide +kernel
theorem dX6_readRows_69 : decode cX6_readRows 69 = .ok (.iload 5, 2) := by decide +kernel
theorem dX6_readRows_71 : decode cX6_readRows 71 = .ok (.ifCond .eq 7, 3) := by decide +kernel
theorem dX6_readRows_74 : decode cX6_readRows 74 = .ok (.iconst 0, 1) := by decide +kernel
theorem dX6_readRows_75 : decode cX6_readRows 75 = .ok (.goto 6, 3) := by decide +kernel
theorem dX6_readRows_78 : decode cX6_readRows 78 = .ok (.iload_n 2, 1) := by decide +kernel
theorem dX6_readRows_79 : decode cX6_readRows 79 = .ok (.iconst 1, 1) := by decide +kernel
theorem dX6_readRows_80 : decode cX6_readRows 80 = .ok (.iadd, 1) := by decide +kernel
theorem dX6_readRows_81 : decode cX6_readRows 81 = .ok (.istore_n 2, 1) := by decide +kernel
theorem dX6_readRows_82 : decode cX6_readRows 82 = .ok (.aload_n 0, 1) := by decide +kernel
theorem dX6_readRows_83 : decode cX6_readRows 83 = .ok (.dup, 1) := by decide +kernel
theorem dX6_readRows_84 : decode cX6_readRows 84 = .ok (.getfield 43, 3) := by decide +kernel
theorem dX6_readRows_87 : decode cX6_readRows 87 = .ok (.iconst 1, 1) := by decide +kernel
theorem dX6_readRows_88 : decode cX6_readRows 88 = .ok (.iadd, 1) := by decide +kernel
theorem dX6_readRows_89 : decode cX6_readRows 89 = .ok (.putfield 43, 3) := by decide +kernel
theorem dX6_readRows_92 : decode cX6_readRows 92 = .ok (.iinc 3 1, 3) := by decide +kernel
theorem dX6_readRows_95 : decode cX6_readRows 95 = .ok (.goto (-83), 3) := by decide +kernel
theorem dX6_readRows_98 : decode cX6_readRows 98 = .ok (.aload_n 1, 1) := by decide +kernel
theorem dX6_readRows_99 : decode cX6_readRows 99 = .ok (.aload_n 0, 1) := by decide +kernel
theorem dX6_readRows_100 : decode cX6_readRows 100 = .ok (.getfield 43, 3) := by decide +kernel
theorem dX6_readRows_103 : decode cX6_readRows 103 = .ok (.putfield 162, 3) := by decide +kernel
theorem dX6_readRows_106 : decode cX6_readRows 106 = .ok (.iconst 1, 1) := by decide +kernel
theorem dX6_readRows_107 : decode cX6_readRows 107 = .ok (.ireturn, 1) := by decide +kernel
theorem dX6_readPatternOf_0 : decode cX6_readPatternOf 0 = .ok (.aload_n 0, 1) := by decide +kernel
theorem dX6_readPatternOf_1 : decode cX6_readPatternOf 1 = .ok (.bipush 47, 2) := by decide +kernel
theorem dX6_readPatternOf_3 : decode cX6_readPatternOf 3 = .ok (.invokevirtual 72, 3) := by decide +kernel
theorem dX6_readPatternOf_6 : decode cX6_readPatternOf 6 = .ok (.ifCond .ne 5, 3) := by decide +kernel
theorem dX6_readPatternOf_9 : decode cX6_readPatternOf 9 = .ok (.iconst 0, 1) := by decide +kernel
theorem dX6_readPatternOf_10 : decode cX6_readPatternOf 10 = .ok (.ireturn, 1) := by decide +kernel
theorem dX6_readPatternOf_11 : decode cX6_readPatternOf 11 = .ok (.aload_n 1, 1) := by decide +kernel
theorem dX6_readPatternOf_12 : decode cX6_readPatternOf 12 = .ok (.aload_n 0, 1) := by decide +kernel
theorem dX6_readPatternOf_13 : decode cX6_readPatternOf 13 = .ok (.invokevirtual 53, 3) := by decide +kernel
theorem dX6_readPatternOf_16 : decode cX6_readPatternOf 16 = .ok (.putfield 165, 3) := by decide +kernel
theorem dX6_readPatternOf_19 : decode cX6_readPatternOf 19 = .ok (.aload_n 1, 1) := by decide +kernel
theorem dX6_readPatternOf_20 : decode cX6_readPatternOf 20 = .ok (.getfield 165, 3) := by decide +kernel
theorem dX6_readPatternOf_23 : decode cX6_readPatternOf 23 = .ok (.iconst (-1), 1) := by decide +kernel
theorem dX6_readPatternOf_24 : decode cX6_readPatternOf 24 = .ok (.if_icmp .eq 16, 3) := by decide +kernel
theorem dX6_readPatternOf_27 : decode cX6_readPatternOf 27 = .ok (.aload_n 0, 1) := by decide +kernel
theorem dX6_readPatternOf_28 : decode cX6_readPatternOf 28 = .ok (.bipush 47, 2) := by decide +kernel
theorem dX6_readPatternOf_30 : decode cX6_readPatternOf 30 = .ok (.invokevirtual 72, 3) := by decide +kernel
theorem dX6_readPatternOf_33 : decode cX6_readPatternOf 33 = .ok (.ifCond .eq 7, 3) := by decide +kernel
theorem dX6_readPatternOf_36 : decode cX6_readPatternOf 36 = .ok (.iconst 1, 1) := by decide +kernel
theorem dX6_readPatternOf_37 : decode cX6_readPatternOf 37 = .ok (.goto 4, 3) := by decide +kernel
theorem dX6_readPatternOf_40 : decode cX6_readPatternOf 40 = .ok (.iconst 0, 1) := by decide +kernel
theorem dX6_readPatternOf_41 : decode cX6_readPatternOf 41 = .ok (.ireturn, 1) := by decide +kernel
theorem dX6_readReplace_0 : decode cX6_readReplace 0 = .ok (.aload_n 0, 1) := by decide +kernel
theorem dX6_readReplace_1 : decode cX6_readReplace 1 = .ok (.bipush 47, 2) := by decide +kernel
theorem dX6_readReplace_3 : decode cX6_readReplace 3 = .ok (.invokevirtual 72, 3) := by decide +kernel
theorem dX6_readReplace_6 : decode cX6_readReplace 6 = .ok (.ifCond .ne 5, 3) := by decide +kernel
theorem dX6_readReplace_9 : decode cX6_readReplace 9 = .ok (.iconst 0, 1) := by decide +kernel
theorem dX6_readReplace_10 : decode cX6_readReplace 10 = .ok (.ireturn, 1) := by decide +kernel
theorem dX6_readReplace_11 : decode cX6_readReplace 11 = .ok (.aload_n 1, 1) := by decide +kernel
theorem dX6_readReplace_12 : decode cX6_readReplace 12 = .ok (.aload_n 0, 1) := by decide +kernel
theorem dX6_readReplace_13 : decode cX6_readReplace 13 = .ok (.invokevirtual 53, 3) := by decide +kernel
theorem dX6_readReplace_16 : decode cX6_readReplace 16 = .ok (.putfield 165, 3) := by decide +kernel
theorem dX6_readReplace_19 : decode cX6_readReplace 19 = .ok (.aload_n 1, 1) := by decide +kernel
theorem dX6_readReplace_20 : decode cX6_readReplace 20 = .ok (.getfield 165, 3) := by decide +kernel
theorem dX6_readReplace_23 : decode cX6_readReplace 23 = .ok (.iconst (-1), 1) := by decide +kernel
theorem dX6_readReplace_24 : decode cX6_readReplace 24 = .ok (.if_icmp .eq 12, 3) := by decide +kernel
theorem dX6_readReplace_27 : decode cX6_readReplace 27 = .ok (.aload_n 0, 1) := by decide +kernel
theorem dX6_readReplace_28 : decode cX6_readReplace 28 = .ok (.bipush 47, 2) := by decide +kernel
theorem dX6_readReplace_30 : decode cX6_readReplace 30 = .ok (.invokevirtual 72, 3) := by decide +kernel
theorem dX6_readReplace_33 : decode cX6_readReplace 33 = .ok (.ifCond .ne 5, 3) := by decide +kernel
theorem dX6_readReplace_36 : decode cX6_readReplace 36 = .ok (.iconst 0, 1) := by decide +kernel
theorem dX6_readReplace_37 : decode cX6_readReplace 37 = .ok (.ireturn, 1) := by decide +kernel
theorem dX6_readReplace_38 : decode cX6_readReplace 38 = .ok (.aload_n 1, 1) := by decide +kernel
theorem dX6_readReplace_39 : decode cX6_readReplace 39 = .ok (.aload_n 0, 1) := by decide +kernel
theorem dX6_readReplace_40 : decode cX6_readReplace 40 = .ok (.getfield 43, 3) := by decide +kernel
theorem dX6_readReplace_43 : decode cX6_readReplace 43 = .ok (.putfield 155, 3) := by decide +kernel
theorem dX6_readReplace_46 : decode cX6_readReplace 46 = .ok (.iconst 0, 1) := by decide +kernel
theorem dX6_readReplace_47 : decode cX6_readReplace 47 = .ok (.istore_n 2, 1) := by decide +kernel
theorem dX6_readReplace_48 : decode cX6_readReplace 48 = .ok (.iload_n 2, 1) := by decide +kernel
theorem dX6_readReplace_49 : decode cX6_readReplace 49 = .ok (.bipush 60, 2) := by decide +kernel
theorem dX6_readReplace_51 : decode cX6_readReplace 51 = .ok (.if_icmp .gt 81, 3) := by decide +kernel
theorem dX6_readReplace_54 : decode cX6_readReplace 54 = .ok (.aload_n 0, 1) := by decide +kernel
theorem dX6_readReplace_55 : decode cX6_readReplace 55 = .ok (.invokevirtual 93, 3) := by decide +kernel
theorem dX6_readReplace_58 : decode cX6_readReplace 58 = .ok (.istore_n 3, 1) := by decide +kernel
theorem dX6_readReplace_59 : decode cX6_readReplace 59 = .ok (.iload_n 3, 1) := by decide +kernel
theorem dX6_readReplace_60 : decode cX6_readReplace 60 = .ok (.bipush 92, 2) := by decide +kernel
theorem dX6_readReplace_62 : decode cX6_readReplace 62 = .ok (.if_icmp .ne 39, 3) := by decide +kernel
theorem dX6_readReplace_65 : decode cX6_readReplace 65 = .ok (.aload_n 0, 1) := by decide +kernel
theorem dX6_readReplace_66 : decode cX6_readReplace 66 = .ok (.getfield 168, 3) := by decide +kernel
theorem dX6_readReplace_69 : decode cX6_readReplace 69 = .ok (.ifCond .le 32, 3) := by decide +kernel
theorem dX6_readReplace_72 : decode cX6_readReplace 72 = .ok (.aload_n 0, 1) := by decide +kernel
theorem dX6_readReplace_73 : decode cX6_readReplace 73 = .ok (.dup, 1) := by decide +kernel
theorem dX6_readReplace_74 : decode cX6_readReplace 74 = .ok (.getfield 43, 3) := by decide +kernel
theorem dX6_readReplace_77 : decode cX6_readReplace 77 = .ok (.iconst 1, 1) := by decide +kernel
theorem dX6_readReplace_78 : decode cX6_readReplace 78 = .ok (.iadd, 1) := by decide +kernel
theorem dX6_readReplace_79 : decode cX6_readReplace 79 = .ok (.putfield 43, 3) := by decide +kernel
theorem dX6_readReplace_82 : decode cX6_readReplace 82 = .ok (.aload_n 0, 1) := by decide +kernel
theorem dX6_readReplace_83 : decode cX6_readReplace 83 = .ok (.bipush 49, 2) := by decide +kernel
theorem dX6_readReplace_85 : decode cX6_readReplace 85 = .ok (.bipush 48, 2) := by decide +kernel
theorem dX6_readReplace_87 : decode cX6_readReplace 87 = .ok (.aload_n 0, 1) := by decide +kernel
theorem dX6_readReplace_88 : decode cX6_readReplace 88 = .ok (.getfield 168, 3) := by decide +kernel
theorem dX6_readReplace_91 : decode cX6_readReplace 91 = .ok (.iadd, 1) := by decide +kernel
theorem dX6_readReplace_92 : decode cX6_readReplace 92 = .ok (.invokevirtual 121, 3) := by decide +kernel
theorem dX6_readReplace_95 : decode cX6_readReplace 95 = .ok (.iconst (-1), 1) := by decide +kernel
theorem dX6_readReplace_96 : decode cX6_readReplace 96 = .ok (.if_icmp .ne 30, 3) := by decide +kernel
theorem dX6_readReplace_99 : decode cX6_readReplace 99 = .ok (.iconst 0, 1) := by decide +kernel
theorem dX6_readReplace_100 : decode cX6_readReplace 100 = .ok (.ireturn, 1) := by decide +kernel
theorem dX6_readReplace_101 : decode cX6_readReplace 101 = .ok (.iload_n 3, 1) := by decide +kernel
theorem dX6_readReplace_102 : decode cX6_readReplace 102 = .ok (.bipush 38, 2) := by decide +kernel
theorem dX6_readReplace_104 : decode cX6_readReplace 104 = .ok (.if_icmp .eq 12, 3) := by decide +kernel
theorem dX6_readReplace_107 : decode cX6_readReplace 107 = .ok (.iload_n 3, 1) := by decide +kernel
theorem dX6_readReplace_108 : decode cX6_readReplace 108 = .ok (.invokestatic 158, 3) := by decide +kernel
theorem dX6_readReplace_111 : decode cX6_readReplace 111 = .ok (.lconst 0, 1) := by decide +kernel
theorem dX6_readReplace_112 : decode cX6_readReplace 112 = .ok (.lcmp, 1) := by decide +kernel
theorem dX6_readReplace_113 : decode cX6_readReplace 113 = .ok (.ifCond .eq 19, 3) := by decide +kernel
theorem dX6_readReplace_116 : decode cX6_readReplace 116 = .ok (.aload_n 0, 1) := by decide +kernel
theorem dX6_readReplace_117 : decode cX6_readReplace 117 = .ok (.dup, 1) := by decide +kernel
theorem dX6_readReplace_118 : decode cX6_readReplace 118 = .ok (.getfield 43, 3) := by decide +kernel
theorem dX6_readReplace_121 : decode cX6_readReplace 121 = .ok (.iconst 1, 1) := by decide +kernel
theorem dX6_readReplace_122 : decode cX6_readReplace 122 = .ok (.iadd, 1) := by decide +kernel
theorem dX6_readReplace_123 : decode cX6_readReplace 123 = .ok (.putfield 43, 3) := by decide +kernel
theorem dX6_readReplace_126 : decode cX6_readReplace 126 = .ok (.iinc 2 1, 3) := by decide +kernel
theorem dX6_readReplace_129 : decode cX6_readReplace 129 = .ok (.goto (-81), 3) := by decide +kernel
theorem dX6_readReplace_132 : decode cX6_readReplace 132 = .ok (.aload_n 1, 1) := by decide +kernel
theorem dX6_readReplace_133 : decode cX6_readReplace 133 = .ok (.aload_n 0, 1) := by decide +kernel
theorem dX6_readReplace_134 : decode cX6_readReplace 134 = .ok (.getfield 43, 3) := by decide +kernel
theorem dX6_readReplace_137 : decode cX6_readReplace 137 = .ok (.putfield 162, 3) := by decide +kernel
theorem dX6_readReplace_140 : decode cX6_readReplace 140 = .ok (.aload_n 0, 1) := by decide +kernel
theorem dX6_readReplace_141 : decode cX6_readReplace 141 = .ok (.bipush 47, 2) := by decide +kernel
theorem dX6_readReplace_143 : decode cX6_readReplace 143 = .ok (.invokevirtual 72, 3) := by decide +kernel
theorem dX6_readReplace_146 : decode cX6_readReplace 146 = .ok (.ifCond .ne 5, 3) := by decide +kernel
theorem dX6_readReplace_149 : decode cX6_readReplace 149 = .ok (.iconst 0, 1) := by decide +kernel
theorem dX6_readReplace_150 : decode cX6_readReplace 150 = .ok (.ireturn, 1) := by decide +kernel
theorem dX6_readReplace_151 : decode cX6_readReplace 151 = .ok (.aload_n 1, 1) := by decide +kernel
theorem dX6_readReplace_152 : decode cX6_readReplace 152 = .ok (.aload_n 0, 1) := by decide +kernel
theorem dX6_readReplace_153 : decode cX6_readReplace 153 = .ok (.bipush 103, 2) := by decide +kernel
theorem dX6_readReplace_155 : decode cX6_readReplace 155 = .ok (.invokevirtual 72, 3) := by decide +kernel
theorem dX6_readReplace_158 : decode cX6_readReplace 158 = .ok (.ifCond .eq 7, 3) := by decide +kernel
theorem dX6_readReplace_161 : decode cX6_readReplace 161 = .ok (.iconst 0, 1) := by decide +kernel
theorem dX6_readReplace_162 : decode cX6_readReplace 162 = .ok (.goto 7, 3) := by decide +kernel
theorem dX6_readReplace_165 : decode cX6_readReplace 165 = .ok (.aload_n 0, 1) := by decide +kernel
theorem dX6_readReplace_166 : decode cX6_readReplace 166 = .ok (.invokevirtual 171, 3) := by decide +kernel
theorem dX6_readReplace_169 : decode cX6_readReplace 169 = .ok (.putfield 140, 3) := by decide +kernel
theorem dX6_readReplace_172 : decode cX6_readReplace 172 = .ok (.iconst 1, 1) := by decide +kernel
theorem dX6_readReplace_173 : decode cX6_readReplace 173 = .ok (.ireturn, 1) := by decide +kernel
theorem dX6_readFindNumber_0 : decode cX6_readFindNumber 0 = .ok (.aload_n 0, 1) := by decide +kernel
theorem dX6_readFindNumber_1 : decode cX6_readFindNumber 1 = .ok (.bipush 49, 2) := by decide +kernel
theorem dX6_readFindNumber_3 : decode cX6_readFindNumber 3 = .ok (.bipush 57, 2) := by decide +kernel
theorem dX6_readFindNumber_5 : decode cX6_readFindNumber 5 = .ok (.invokevirtual 121, 3) := by decide +kernel
theorem dX6_readFindNumber_8 : decode cX6_readFindNumber 8 = .ok (.istore_n 1, 1) := by decide +kernel
theorem dX6_readFindNumber_9 : decode cX6_readFindNumber 9 = .ok (.iload_n 1, 1) := by decide +kernel
theorem dX6_readFindNumber_10 : decode cX6_readFindNumber 10 = .ok (.iconst (-1), 1) := by decide +kernel
theorem dX6_readFindNumber_11 : decode cX6_readFindNumber 11 = .ok (.if_icmp .ne 7, 3) := by decide +kernel
theorem dX6_readFindNumber_14 : decode cX6_readFindNumber 14 = .ok (.iconst 1, 1) := by decide +kernel
theorem dX6_readFindNumber_15 : decode cX6_readFindNumber 15 = .ok (.goto 6, 3) := by decide +kernel
theorem dX6_readFindNumber_18 : decode cX6_readFindNumber 18 = .ok (.iload_n 1, 1) := by decide +kernel
theorem dX6_readFindNumber_19 : decode cX6_readFindNumber 19 = .ok (.iconst 1, 1) := by decide +kernel
theorem dX6_readFindNumber_20 : decode cX6_readFindNumber 20 = .ok (.iadd, 1) := by decide +kernel
theorem dX6_readFindNumber_21 : decode cX6_readFindNumber 21 = .ok (.ireturn, 1) := by decide +kernel
theorem dX6_readTurn_0 : decode cX6_readTurn 0 = .ok (.aload_n 0, 1) := by decide +kernel
theorem dX6_readTurn_1 : decode cX6_readTurn 1 = .ok (.bipush 47, 2) := by decide +kernel
theorem dX6_readTurn_3 : decode cX6_readTurn 3 = .ok (.invokevirtual 72, 3) := by decide +kernel
theorem dX6_readTurn_6 : decode cX6_readTurn 6 = .ok (.ifCond .ne 5, 3) := by decide +kernel
theorem dX6_readTurn_9 : decode cX6_readTurn 9 = .ok (.iconst 0, 1) := by decide +kernel
theorem dX6_readTurn_10 : decode cX6_readTurn 10 = .ok (.ireturn, 1) := by decide +kernel
theorem dX6_readTurn_11 : decode cX6_readTurn 11 = .ok (.aload_n 1, 1) := by decide +kernel
theorem dX6_readTurn_12 : decode cX6_readTurn 12 = .ok (.aload_n 0, 1) := by decide +kernel
theorem dX6_readTurn_13 : decode cX6_readTurn 13 = .ok (.getfield 43, 3) := by decide +kernel
theorem dX6_readTurn_16 : decode cX6_readTurn 16 = .ok (.putfield 155, 3) := by decide +kernel
theorem dX6_readTurn_19 : decode cX6_readTurn 19 = .ok (.iconst 0, 1) := by decide +kernel
theorem dX6_readTurn_20 : decode cX6_readTurn 20 = .ok (.istore_n 2, 1) := by decide +kernel
theorem dX6_readTurn_21 : decode cX6_readTurn 21 = .ok (.iload_n 2, 1) := by decide +kernel
theorem dX6_readTurn_22 : decode cX6_readTurn 22 = .ok (.bipush 60, 2) := by decide +kernel
theorem dX6_readTurn_24 : decode cX6_readTurn 24 = .ok (.if_icmp .gt 31, 3) := by decide +kernel
theorem dX6_readTurn_27 : decode cX6_readTurn 27 = .ok (.aload_n 0, 1) := by decide +kernel
theorem dX6_readTurn_28 : decode cX6_readTurn 28 = .ok (.invokevirtual 93, 3) := by decide +kernel
theorem dX6_readTurn_31 : decode cX6_readTurn 31 = .ok (.invokestatic 158, 3) := by decide +kernel
theorem dX6_readTurn_34 : decode cX6_readTurn 34 = .ok (.lconst 0, 1) := by decide +kernel
theorem dX6_readTurn_35 : decode cX6_readTurn 35 = .ok (.lcmp, 1) := by decide +kernel
theorem dX6_readTurn_36 : decode cX6_readTurn 36 = .ok (.ifCond .eq 19, 3) := by decide +kernel
theorem dX6_readTurn_39 : decode cX6_readTurn 39 = .ok (.aload_n 0, 1) := by decide +kernel
theorem dX6_readTurn_40 : decode cX6_readTurn 40 = .ok (.dup, 1) := by decide +kernel
theorem dX6_readTurn_41 : decode cX6_readTurn 41 = .ok (.getfield 43, 3) := by decide +kernel
theorem dX6_readTurn_44 : decode cX6_readTurn 44 = .ok (.iconst 1, 1) := by decide +kernel
theorem dX6_readTurn_45 : decode cX6_readTurn 45 = .ok (.iadd, 1) := by decide +kernel
theorem dX6_readTurn_46 : decode cX6_readTurn 46 = .ok (.putfield 43, 3) := by decide +kernel
theorem dX6_readTurn_49 : decode cX6_readTurn 49 = .ok (.iinc 2 1, 3) := by decide +kernel
theorem dX6_readTurn_52 : decode cX6_readTurn 52 = .ok (.goto (-31), 3) := by decide +kernel
theorem dX6_readTurn_55 : decode cX6_readTurn 55 = .ok (.aload_n 1, 1) := by decide +kernel
theorem dX6_readTurn_56 : decode cX6_readTurn 56 = .ok (.aload_n 0, 1) := by decide +kernel
theorem dX6_readTurn_57 : decode cX6_readTurn 57 = .ok (.getfield 43, 3) := by decide +kernel
theorem dX6_readTurn_60 : decode cX6_readTurn 60 = .ok (.aload_n 1, 1) := by decide +kernel
theorem dX6_readTurn_61 : decode cX6_readTurn 61 = .ok (.getfield 155, 3) := by decide +kernel
theorem dX6_readTurn_64 : decode cX6_readTurn 64 = .ok (.isub, 1) := by decide +kernel
theorem dX6_readTurn_65 : decode cX6_readTurn 65 = .ok (.putfield 140, 3) := by decide +kernel
theorem dX6_readTurn_68 : decode cX6_readTurn 68 = .ok (.aload_n 1, 1) := by decide +kernel
theorem dX6_readTurn_69 : decode cX6_readTurn 69 = .ok (.getfield 140, 3) := by decide +kernel
theorem dX6_readTurn_72 : decode cX6_readTurn 72 = .ok (.ifCond .eq 12, 3) := by decide +kernel
theorem dX6_readTurn_75 : decode cX6_readTurn 75 = .ok (.aload_n 0, 1) := by decide +kernel
theorem dX6_readTurn_76 : decode cX6_readTurn 76 = .ok (.bipush 47, 2) := by decide +kernel
theorem dX6_readTurn_78 : decode cX6_readTurn 78 = .ok (.invokevirtual 72, 3) := by decide +kernel
theorem dX6_readTurn_81 : decode cX6_readTurn 81 = .ok (.ifCond .ne 5, 3) := by decide +kernel
theorem dX6_readTurn_84 : decode cX6_readTurn 84 = .ok (.iconst 0, 1) := by decide +kernel
theorem dX6_readTurn_85 : decode cX6_readTurn 85 = .ok (.ireturn, 1) := by decide +kernel
theorem dX6_readTurn_86 : decode cX6_readTurn 86 = .ok (.aload_n 1, 1) := by decide +kernel
theorem dX6_readTurn_87 : decode cX6_readTurn 87 = .ok (.aload_n 0, 1) := by decide +kernel
theorem dX6_readTurn_88 : decode cX6_readTurn 88 = .ok (.getfield 43, 3) := by decide +kernel
theorem dX6_readTurn_91 : decode cX6_readTurn 91 = .ok (.putfield 162, 3) := by decide +kernel
theorem dX6_readTurn_94 : decode cX6_readTurn 94 = .ok (.iconst 0, 1) := by decide +kernel
theorem dX6_readTurn_95 : decode cX6_readTurn 95 = .ok (.istore_n 2, 1) := by decide +kernel
theorem dX6_readTurn_96 : decode cX6_readTurn 96 = .ok (.iload_n 2, 1) := by decide +kernel
theorem dX6_readTurn_97 : decode cX6_readTurn 97 = .ok (.aload_n 1, 1) := by decide +kernel
theorem dX6_readTurn_98 : decode cX6_readTurn 98 = .ok (.getfield 140, 3) := by decide +kernel
theorem dX6_readTurn_101 : decode cX6_readTurn 101 = .ok (.if_icmp .ge 33, 3) := by decide +kernel
theorem dX6_readTurn_104 : decode cX6_readTurn 104 = .ok (.aload_n 0, 1) := by decide +kernel
theorem dX6_readTurn_105 : decode cX6_readTurn 105 = .ok (.invokevirtual 93, 3) := by decide +kernel
theorem dX6_readTurn_108 : decode cX6_readTurn 108 = .ok (.invokestatic 158, 3) := by decide +kernel
theorem dX6_readTurn_111 : decode cX6_readTurn 111 = .ok (.lconst 0, 1) := by decide +kernel
theorem dX6_readTurn_112 : decode cX6_readTurn 112 = .ok (.lcmp, 1) := by decide +kernel
theorem dX6_readTurn_113 : decode cX6_readTurn 113 = .ok (.ifCond .ne 5, 3) := by decide +kernel
theorem dX6_readTurn_116 : decode cX6_readTurn 116 = .ok (.iconst 0, 1) := by decide +kernel
theorem dX6_readTurn_117 : decode cX6_readTurn 117 = .ok (.ireturn, 1) := by decide +kernel
theorem dX6_readTurn_118 : decode cX6_readTurn 118 = .ok (.aload_n 0, 1) := by decide +kernel
theorem dX6_readTurn_119 : decode cX6_readTurn 119 = .ok (.dup, 1) := by decide +kernel
theorem dX6_readTurn_120 : decode cX6_readTurn 120 = .ok (.getfield 43, 3) := by decide +kernel
theorem dX6_readTurn_123 : decode cX6_readTurn 123 = .ok (.iconst 1, 1) := by decide +kernel
theorem dX6_readTurn_124 : decode cX6_readTurn 124 = .ok (.iadd, 1) := by decide +kernel
theorem dX6_readTurn_125 : decode cX6_readTurn 125 = .ok (.putfield 43, 3) := by decide +kernel
theorem dX6_readTurn_128 : decode cX6_readTurn 128 = .ok (.iinc 2 1, 3) := by decide +kernel
theorem dX6_readTurn_131 : decode cX6_readTurn 131 = .ok (.goto (-35), 3) := by decide +kernel
theorem dX6_readTurn_134 : decode cX6_readTurn 134 = .ok (.aload_n 0, 1) := by decide +kernel
theorem dX6_readTurn_135 : decode cX6_readTurn 135 = .ok (.bipush 47, 2) := by decide +kernel
theorem dX6_readTurn_137 : decode cX6_readTurn 137 = .ok (.invokevirtual 72, 3) := by decide +kernel
theorem dX6_readTurn_140 : decode cX6_readTurn 140 = .ok (.ireturn, 1) := by decide +kernel
theorem dX6_readPattern_0 : decode cX6_readPattern 0 = .ok (.aload_n 0, 1) := by decide +kernel
theorem dX6_readPattern_1 : decode cX6_readPattern 1 = .ok (.getfield 43, 3) := by decide +kernel
theorem dX6_readPattern_4 : decode cX6_readPattern 4 = .ok (.istore_n 1, 1) := by decide +kernel
theorem dX6_readPattern_5 : decode cX6_readPattern 5 = .ok (.aload_n 0, 1) := by decide +kernel
theorem dX6_readPattern_6 : decode cX6_readPattern 6 = .ok (.getfield 46, 3) := by decide +kernel
theorem dX6_readPattern_9 : decode cX6_readPattern 9 = .ok (.istore_n 2, 1) := by decide +kernel
theorem dX6_readPattern_10 : decode cX6_readPattern 10 = .ok (.iconst 0, 1) := by decide +kernel
theorem dX6_readPattern_11 : decode cX6_readPattern 11 = .ok (.istore_n 3, 1) := by decide +kernel
theorem dX6_readPattern_12 : decode cX6_readPattern 12 = .ok (.iconst 0, 1) := by decide +kernel
theorem dX6_readPattern_13 : decode cX6_readPattern 13 = .ok (.istore 4, 2) := by decide +kernel
theorem dX6_readPattern_15 : decode cX6_readPattern 15 = .ok (.iconst 0, 1) := by decide +kernel
theorem dX6_readPattern_16 : decode cX6_readPattern 16 = .ok (.istore 5, 2) := by decide +kernel
theorem dX6_readPattern_18 : decode cX6_readPattern 18 = .ok (.aload_n 0, 1) := by decide +kernel
theorem dX6_readPattern_19 : decode cX6_readPattern 19 = .ok (.iconst 0, 1) := by decide +kernel
theorem dX6_readPattern_20 : decode cX6_readPattern 20 = .ok (.putfield 174, 3) := by decide +kernel
theorem dX6_readPattern_23 : decode cX6_readPattern 23 = .ok (.aload_n 0, 1) := by decide +kernel
theorem dX6_readPattern_24 : decode cX6_readPattern 24 = .ok (.iconst 0, 1) := by decide +kernel
theorem dX6_readPattern_25 : decode cX6_readPattern 25 = .ok (.putfield 168, 3) := by decide +kernel
theorem dX6_readPattern_28 : decode cX6_readPattern 28 = .ok (.aload_n 0, 1) := by decide +kernel
theorem dX6_readPattern_29 : decode cX6_readPattern 29 = .ok (.bipush 94, 2) := by decide +kernel
theorem dX6_readPattern_31 : decode cX6_readPattern 31 = .ok (.invokevirtual 72, 3) := by decide +kernel
theorem dX6_readPattern_34 : decode cX6_readPattern 34 = .ok (.ifCond .eq 9, 3) := by decide +kernel
theorem dX6_readPattern_37 : decode cX6_readPattern 37 = .ok (.aload_n 0, 1) := by decide +kernel
theorem dX6_readPattern_38 : decode cX6_readPattern 38 = .ok (.iconst 5, 1) := by decide +kernel
theorem dX6_readPattern_39 : decode cX6_readPattern 39 = .ok (.lconst 0, 1) := by decide +kernel
theorem dX6_readPattern_40 : decode cX6_readPattern 40 = .ok (.invokevirtual 177, 3) := by decide +kernel
theorem dX6_readPattern_43 : decode cX6_readPattern 43 = .ok (.iconst 0, 1) := by decide +kernel
theorem dX6_readPattern_44 : decode cX6_readPattern 44 = .ok (.istore 6, 2) := by decide +kernel
theorem dX6_readPattern_46 : decode cX6_readPattern 46 = .ok (.iload 6, 2) := by decide +kernel
theorem dX6_readPattern_48 : decode cX6_readPattern 48 = .ok (.bipush 60, 2) := by decide +kernel
theorem dX6_readPattern_50 : decode cX6_readPattern 50 = .ok (.if_icmp .gt 237, 3) := by decide +kernel
theorem dX6_readPattern_53 : decode cX6_readPattern 53 = .ok (.aload_n 0, 1) := by decide +kernel
theorem dX6_readPattern_54 : decode cX6_readPattern 54 = .ok (.invokevirtual 93, 3) := by decide +kernel
theorem dX6_readPattern_57 : decode cX6_readPattern 57 = .ok (.istore 7, 2) := by decide +kernel
theorem dX6_readPattern_59 : decode cX6_readPattern 59 = .ok (.iload 5, 2) := by decide +kernel
theorem dX6_readPattern_61 : decode cX6_readPattern 61 = .ok (.ifCond .eq 36, 3) := by decide +kernel
theorem dX6_readPattern_64 : decode cX6_readPattern 64 = .ok (.iload 7, 2) := by decide +kernel
theorem dX6_readPattern_66 : decode cX6_readPattern 66 = .ok (.bipush 41, 2) := by decide +kernel
theorem dX6_readPattern_68 : decode cX6_readPattern 68 = .ok (.if_icmp .ne 29, 3) := by decide +kernel
theorem dX6_readPattern_71 : decode cX6_readPattern 71 = .ok (.aload_n 0, 1) := by decide +kernel
theorem dX6_readPattern_72 : decode cX6_readPattern 72 = .ok (.dup, 1) := by decide +kernel
theorem dX6_readPattern_73 : decode cX6_readPattern 73 = .ok (.getfield 43, 3) := by decide +kernel
theorem dX6_readPattern_76 : decode cX6_readPattern 76 = .ok (.iconst 1, 1) := by decide +kernel
theorem dX6_readPattern_77 : decode cX6_readPattern 77 = .ok (.iadd, 1) := by decide +kernel
theorem dX6_readPattern_78 : decode cX6_readPattern 78 = .ok (.putfield 43, 3) := by decide +kernel
theorem dX6_readPattern_81 : decode cX6_readPattern 81 = .ok (.iconst 0, 1) := by decide +kernel
theorem dX6_readPattern_82 : decode cX6_readPattern 82 = .ok (.istore 5, 2) := by decide +kernel
theorem dX6_readPattern_84 : decode cX6_readPattern 84 = .ok (.aload_n 0, 1) := by decide +kernel
theorem dX6_readPattern_85 : decode cX6_readPattern 85 = .ok (.iconst 3, 1) := by decide +kernel
theorem dX6_readPattern_86 : decode cX6_readPattern 86 = .ok (.aload_n 0, 1) := by decide +kernel
theorem dX6_readPattern_87 : decode cX6_readPattern 87 = .ok (.getfield 168, 3) := by decide +kernel
theorem dX6_readPattern_90 : decode cX6_readPattern 90 = .ok (.i2l, 1) := by decide +kernel
theorem dX6_readPattern_91 : decode cX6_readPattern 91 = .ok (.invokevirtual 177, 3) := by decide +kernel
theorem dX6_readPattern_94 : decode cX6_readPattern 94 = .ok (.goto 187, 3) := by decide +kernel
theorem dX6_readPattern_97 : decode cX6_readPattern 97 = .ok (.iload 5, 2) := by decide +kernel
theorem dX6_readPattern_99 : decode cX6_readPattern 99 = .ok (.ifCond .eq 8, 3) := by decide +kernel
theorem dX6_readPattern_102 : decode cX6_readPattern 102 = .ok (.iload 4, 2) := by decide +kernel
theorem dX6_readPattern_104 : decode cX6_readPattern 104 = .ok (.goto 4, 3) := by decide +kernel
theorem dX6_readPattern_107 : decode cX6_readPattern 107 = .ok (.iload_n 3, 1) := by decide +kernel
theorem dX6_readPattern_108 : decode cX6_readPattern 108 = .ok (.bipush 12, 2) := by decide +kernel
theorem dX6_readPattern_110 : decode cX6_readPattern 110 = .ok (.if_icmp .lt 6, 3) := by decide +kernel
theorem dX6_readPattern_113 : decode cX6_readPattern 113 = .ok (.goto 174, 3) := by decide +kernel
theorem dX6_readPattern_116 : decode cX6_readPattern 116 = .ok (.iload 5, 2) := by decide +kernel
theorem dX6_readPattern_118 : decode cX6_readPattern 118 = .ok (.ifCond .ne 60, 3) := by decide +kernel
theorem dX6_readPattern_121 : decode cX6_readPattern 121 = .ok (.iload 7, 2) := by decide +kernel
theorem dX6_readPattern_123 : decode cX6_readPattern 123 = .ok (.bipush 40, 2) := by decide +kernel
theorem dX6_readPattern_125 : decode cX6_readPattern 125 = .ok (.if_icmp .ne 53, 3) := by decide +kernel
theorem dX6_readPattern_128 : decode cX6_readPattern 128 = .ok (.aload_n 0, 1) := by decide +kernel
theorem dX6_readPattern_129 : decode cX6_readPattern 129 = .ok (.getfield 168, 3) := by decide +kernel
theorem dX6_readPattern_132 : decode cX6_readPattern 132 = .ok (.iconst 2, 1) := by decide +kernel
theorem dX6_readPattern_133 : decode cX6_readPattern 133 = .ok (.if_icmp .ge 45, 3) := by decide +kernel
theorem dX6_readPattern_136 : decode cX6_readPattern 136 = .ok (.aload_n 0, 1) := by decide +kernel
theorem dX6_readPattern_137 : decode cX6_readPattern 137 = .ok (.dup, 1) := by decide +kernel
theorem dX6_readPattern_138 : decode cX6_readPattern 138 = .ok (.getfield 43, 3) := by decide +kernel
theorem dX6_readPattern_141 : decode cX6_readPattern 141 = .ok (.iconst 1, 1) := by decide +kernel
theorem dX6_readPattern_142 : decode cX6_readPattern 142 = .ok (.iadd, 1) := by decide +kernel
theorem dX6_readPattern_143 : decode cX6_readPattern 143 = .ok (.putfield 43, 3) := by decide +kernel
theorem dX6_readPattern_146 : decode cX6_readPattern 146 = .ok (.iconst 1, 1) := by decide +kernel
theorem dX6_readPattern_147 : decode cX6_readPattern 147 = .ok (.istore 5, 2) := by decide +kernel
theorem dX6_readPattern_149 : decode cX6_readPattern 149 = .ok (.aload_n 0, 1) := by decide +kernel
theorem dX6_readPattern_150 : decode cX6_readPattern 150 = .ok (.dup, 1) := by decide +kernel
theorem dX6_readPattern_151 : decode cX6_readPattern 151 = .ok (.getfield 168, 3) := by decide +kernel
theorem dX6_readPattern_154 : decode cX6_readPattern 154 = .ok (.iconst 1, 1) := by decide +kernel
theorem dX6_readPattern_155 : decode cX6_readPattern 155 = .ok (.iadd, 1) := by decide +kernel
theorem dX6_readPattern_156 : decode cX6_readPattern 156 = .ok (.putfield 168, 3) := by decide +kernel
theorem dX6_readPattern_159 : decode cX6_readPattern 159 = .ok (.iinc 3 1, 3) := by decide +kernel
theorem dX6_readPattern_162 : decode cX6_readPattern 162 = .ok (.iconst 0, 1) := by decide +kernel
theorem dX6_readPattern_163 : decode cX6_readPattern 163 = .ok (.istore 4, 2) := by decide +kernel
theorem dX6_readPattern_165 : decode cX6_readPattern 165 = .ok (.aload_n 0, 1) := by decide +kernel
theorem dX6_readPattern_166 : decode cX6_readPattern 166 = .ok (.iconst 2, 1) := by decide +kernel
theorem dX6_readPattern_167 : decode cX6_readPattern 167 = .ok (.aload_n 0, 1) := by decide +kernel
theorem dX6_readPattern_168 : decode cX6_readPattern 168 = .ok (.getfield 168, 3) := by decide +kernel
theorem dX6_readPattern_171 : decode cX6_readPattern 171 = .ok (.i2l, 1) := by decide +kernel
theorem dX6_readPattern_172 : decode cX6_readPattern 172 = .ok (.invokevirtual 177, 3) := by decide +kernel
theorem dX6_readPattern_175 : decode cX6_readPattern 175 = .ok (.goto 106, 3) := by decide +kernel
theorem dX6_readPattern_178 : decode cX6_readPattern 178 = .ok (.iload 5, 2) := by decide +kernel
theorem dX6_readPattern_180 : decode cX6_readPattern 180 = .ok (.ifCond .ne 66, 3) := by decide +kernel
theorem dX6_readPattern_183 : decode cX6_readPattern 183 = .ok (.iload 7, 2) := by decide +kernel
theorem dX6_readPattern_185 : decode cX6_readPattern 185 = .ok (.bipush 92, 2) := by decide +kernel
theorem dX6_readPattern_187 : decode cX6_readPattern 187 = .ok (.if_icmp .ne 59, 3) := by decide +kernel
theorem dX6_readPattern_190 : decode cX6_readPattern 190 = .ok (.aload_n 0, 1) := by decide +kernel
theorem dX6_readPattern_191 : decode cX6_readPattern 191 = .ok (.getfield 168, 3) := by decide +kernel
theorem dX6_readPattern_194 : decode cX6_readPattern 194 = .ok (.ifCond .le 52, 3) := by decide +kernel
theorem dX6_readPattern_197 : decode cX6_readPattern 197 = .ok (.aload_n 0, 1) := by decide +kernel
theorem dX6_readPattern_198 : decode cX6_readPattern 198 = .ok (.dup, 1) := by decide +kernel
theorem dX6_readPattern_199 : decode cX6_readPattern 199 = .ok (.getfield 43, 3) := by decide +kernel
theorem dX6_readPattern_202 : decode cX6_readPattern 202 = .ok (.iconst 1, 1) := by decide +kernel
theorem dX6_readPattern_203 : decode cX6_readPattern 203 = .ok (.iadd, 1) := by decide +kernel
theorem dX6_readPattern_204 : decode cX6_readPattern 204 = .ok (.putfield 43, 3) := by decide +kernel
theorem dX6_readPattern_207 : decode cX6_readPattern 207 = .ok (.iinc 3 1, 3) := by decide +kernel
theorem dX6_readPattern_210 : decode cX6_readPattern 210 = .ok (.aload_n 0, 1) := by decide +kernel
theorem dX6_readPattern_211 : decode cX6_readPattern 211 = .ok (.bipush 49, 2) := by decide +kernel
theorem dX6_readPattern_213 : decode cX6_readPattern 213 = .ok (.bipush 48, 2) := by decide +kernel
theorem dX6_readPattern_215 : decode cX6_readPattern 215 = .ok (.aload_n 0, 1) := by decide +kernel
theorem dX6_readPattern_216 : decode cX6_readPattern 216 = .ok (.getfield 168, 3) := by decide +kernel
theorem dX6_readPattern_219 : decode cX6_readPattern 219 = .ok (.iadd, 1) := by decide +kernel
theorem dX6_readPattern_220 : decode cX6_readPattern 220 = .ok (.invokevirtual 121, 3) := by decide +kernel
theorem dX6_readPattern_223 : decode cX6_readPattern 223 = .ok (.istore 8, 2) := by decide +kernel
theorem dX6_readPattern_225 : decode cX6_readPattern 225 = .ok (.iload 8, 2) := by decide +kernel
theorem dX6_readPattern_227 : decode cX6_readPattern 227 = .ok (.iconst (-1), 1) := by decide +kernel
theorem dX6_readPattern_228 : decode cX6_readPattern 228 = .ok (.if_icmp .ne 5, 3) := by decide +kernel
theorem dX6_readPattern_231 : decode cX6_readPattern 231 = .ok (.iconst (-1), 1) := by decide +kernel
theorem dX6_readPattern_232 : decode cX6_readPattern 232 = .ok (.ireturn, 1) := by decide +kernel
theorem dX6_readPattern_233 : decode cX6_readPattern 233 = .ok (.aload_n 0, 1) := by decide +kernel
theorem dX6_readPattern_234 : decode cX6_readPattern 234 = .ok (.iconst 4, 1) := by decide +kernel
theorem dX6_readPattern_235 : decode cX6_readPattern 235 = .ok (.iload 8, 2) := by decide +kernel
theorem dX6_readPattern_237 : decode cX6_readPattern 237 = .ok (.iconst 1, 1) := by decide +kernel
theorem dX6_readPattern_238 : decode cX6_readPattern 238 = .ok (.iadd, 1) := by decide +kernel
theorem dX6_readPattern_239 : decode cX6_readPattern 239 = .ok (.i2l, 1) := by decide +kernel
theorem dX6_readPattern_240 : decode cX6_readPattern 240 = .ok (.invokevirtual 177, 3) := by decide +kernel
theorem dX6_readPattern_243 : decode cX6_readPattern 243 = .ok (.goto 38, 3) := by decide +kernel
theorem dX6_readPattern_246 : decode cX6_readPattern 246 = .ok (.aload_n 0, 1) := by decide +kernel
theorem dX6_readPattern_247 : decode cX6_readPattern 247 = .ok (.iload 7, 2) := by decide +kernel
theorem dX6_readPattern_249 : decode cX6_readPattern 249 = .ok (.invokevirtual 181, 3) := by decide +kernel
theorem dX6_readPattern_252 : decode cX6_readPattern 252 = .ok (.ifCond .ne 6, 3) := by decide +kernel
theorem dX6_readPattern_255 : decode cX6_readPattern 255 = .ok (.goto 32, 3) := by decide +kernel
theorem dX6_readPattern_258 : decode cX6_readPattern 258 = .ok (.aload_n 0, 1) := by decide +kernel
theorem dX6_readPattern_259 : decode cX6_readPattern 259 = .ok (.invokevirtual 184, 3) := by decide +kernel
theorem dX6_readPattern_262 : decode cX6_readPattern 262 = .ok (.ifCond .ne 5, 3) := by decide +kernel
theorem dX6_readPattern_265 : decode cX6_readPattern 265 = .ok (.iconst (-1), 1) := by decide +kernel
theorem dX6_readPattern_266 : decode cX6_readPattern 266 = .ok (.ireturn, 1) := by decide +kernel
theorem dX6_readPattern_267 : decode cX6_readPattern 267 = .ok (.iload 5, 2) := by decide +kernel
theorem dX6_readPattern_269 : decode cX6_readPattern 269 = .ok (.ifCond .eq 9, 3) := by decide +kernel
theorem dX6_readPattern_272 : decode cX6_readPattern 272 = .ok (.iinc 4 1, 3) := by decide +kernel
theorem dX6_readPattern_275 : decode cX6_readPattern 275 = .ok (.goto 6, 3) := by decide +kernel
theorem dX6_readPattern_278 : decode cX6_readPattern 278 = .ok (.iinc 3 1, 3) := by decide +kernel
theorem dX6_readPattern_281 : decode cX6_readPattern 281 = .ok (.iinc 6 1, 3) := by decide +kernel
theorem dX6_readPattern_284 : decode cX6_readPattern 284 = .ok (.goto (-238), 3) := by decide +kernel
theorem dX6_readPattern_287 : decode cX6_readPattern 287 = .ok (.iload 5, 2) := by decide +kernel
theorem dX6_readPattern_289 : decode cX6_readPattern 289 = .ok (.ifCond .eq 5, 3) := by decide +kernel
theorem dX6_readPattern_292 : decode cX6_readPattern 292 = .ok (.iconst (-1), 1) := by decide +kernel
theorem dX6_readPattern_293 : decode cX6_readPattern 293 = .ok (.ireturn, 1) := by decide +kernel
theorem dX6_readPattern_294 : decode cX6_readPattern 294 = .ok (.aload_n 0, 1) := by decide +kernel
theorem dX6_readPattern_295 : decode cX6_readPattern 295 = .ok (.bipush 36, 2) := by decide +kernel
theorem dX6_readPattern_297 : decode cX6_readPattern 297 = .ok (.invokevirtual 72, 3) := by decide +kernel
theorem dX6_readPattern_300 : decode cX6_readPattern 300 = .ok (.ifCond .eq 10, 3) := by decide +kernel
theorem dX6_readPattern_303 : decode cX6_readPattern 303 = .ok (.aload_n 0, 1) := by decide +kernel
theorem dX6_readPattern_304 : decode cX6_readPattern 304 = .ok (.bipush 6, 2) := by decide +kernel
theorem dX6_readPattern_306 : decode cX6_readPattern 306 = .ok (.lconst 0, 1) := by decide +kernel
theorem dX6_readPattern_307 : decode cX6_readPattern 307 = .ok (.invokevirtual 177, 3) := by decide +kernel
theorem dX6_readPattern_310 : decode cX6_readPattern 310 = .ok (.aload_n 0, 1) := by decide +kernel
theorem dX6_readPattern_311 : decode cX6_readPattern 311 = .ok (.getfield 43, 3) := by decide +kernel
theorem dX6_readPattern_314 : decode cX6_readPattern 314 = .ok (.iload_n 1, 1) := by decide +kernel
theorem dX6_readPattern_315 : decode cX6_readPattern 315 = .ok (.if_icmp .ne 5, 3) := by decide +kernel
theorem dX6_readPattern_318 : decode cX6_readPattern 318 = .ok (.iconst (-1), 1) := by decide +kernel
theorem dX6_readPattern_319 : decode cX6_readPattern 319 = .ok (.ireturn, 1) := by decide +kernel
theorem dX6_readPattern_320 : decode cX6_readPattern 320 = .ok (.aload_n 0, 1) := by decide +kernel
theorem dX6_readPattern_321 : decode cX6_readPattern 321 = .ok (.bipush 7, 2) := by decide +kernel
theorem dX6_readPattern_323 : decode cX6_readPattern 323 = .ok (.lconst 0, 1) := by decide +kernel
theorem dX6_readPattern_324 : decode cX6_readPattern 324 = .ok (.invokevirtual 177, 3) := by decide +kernel
theorem dX6_readPattern_327 : decode cX6_readPattern 327 = .ok (.iload_n 2, 1) := by decide +kernel
theorem dX6_readPattern_328 : decode cX6_readPattern 328 = .ok (.ireturn, 1) := by decide +kernel
theorem dX6_beginsPlain_0 : decode cX6_beginsPlain 0 = .ok (.iload_n 1, 1) := by decide +kernel
theorem dX6_beginsPlain_1 : decode cX6_beginsPlain 1 = .ok (.bipush 46, 2) := by decide +kernel
theorem dX6_beginsPlain_3 : decode cX6_beginsPlain 3 = .ok (.if_icmp .eq 32, 3) := by decide +kernel
theorem dX6_beginsPlain_6 : decode cX6_beginsPlain 6 = .ok (.iload_n 1, 1) := by decide +kernel
theorem dX6_beginsPlain_7 : decode cX6_beginsPlain 7 = .ok (.bipush 91, 2) := by decide +kernel
theorem dX6_beginsPlain_9 : decode cX6_beginsPlain 9 = .ok (.if_icmp .eq 26, 3) := by decide +kernel
theorem dX6_beginsPlain_12 : decode cX6_beginsPlain 12 = .ok (.iload_n 1, 1) := by decide +kernel
theorem dX6_beginsPlain_13 : decode cX6_beginsPlain 13 = .ok (.bipush 42, 2) := by decide +kernel
theorem dX6_beginsPlain_15 : decode cX6_beginsPlain 15 = .ok (.if_icmp .ne 11, 3) := by decide +kernel
theorem dX6_beginsPlain_18 : decode cX6_beginsPlain 18 = .ok (.aload_n 0, 1) := by decide +kernel
theorem dX6_beginsPlain_19 : decode cX6_beginsPlain 19 = .ok (.getfield 174, 3) := by decide +kernel
theorem dX6_beginsPlain_22 : decode cX6_beginsPlain 22 = .ok (.iconst 2, 1) := by decide +kernel
theorem dX6_beginsPlain_23 : decode cX6_beginsPlain 23 = .ok (.if_icmp .lt 12, 3) := by decide +kernel
theorem dX6_beginsPlain_26 : decode cX6_beginsPlain 26 = .ok (.iload_n 1, 1) := by decide +kernel
theorem dX6_beginsPlain_27 : decode cX6_beginsPlain 27 = .ok (.invokestatic 158, 3) := by decide +kernel
theorem dX6_beginsPlain_30 : decode cX6_beginsPlain 30 = .ok (.lconst 0, 1) := by decide +kernel
theorem dX6_beginsPlain_31 : decode cX6_beginsPlain 31 = .ok (.lcmp, 1) := by decide +kernel
theorem dX6_beginsPlain_32 : decode cX6_beginsPlain 32 = .ok (.ifCond .eq 7, 3) := by decide +kernel
theorem dX6_beginsPlain_35 : decode cX6_beginsPlain 35 = .ok (.iconst 1, 1) := by decide +kernel
theorem dX6_beginsPlain_36 : decode cX6_beginsPlain 36 = .ok (.goto 4, 3) := by decide +kernel
theorem dX6_beginsPlain_39 : decode cX6_beginsPlain 39 = .ok (.iconst 0, 1) := by decide +kernel
theorem dX6_beginsPlain_40 : decode cX6_beginsPlain 40 = .ok (.ireturn, 1) := by decide +kernel
theorem dX6_readPlain_0 : decode cX6_readPlain 0 = .ok (.aload_n 0, 1) := by decide +kernel
theorem dX6_readPlain_1 : decode cX6_readPlain 1 = .ok (.invokevirtual 93, 3) := by decide +kernel
theorem dX6_readPlain_4 : decode cX6_readPlain 4 = .ok (.istore_n 1, 1) := by decide +kernel
theorem dX6_readPlain_5 : decode cX6_readPlain 5 = .ok (.aload_n 0, 1) := by decide +kernel
theorem dX6_readPlain_6 : decode cX6_readPlain 6 = .ok (.dup, 1) := by decide +kernel
theorem dX6_readPlain_7 : decode cX6_readPlain 7 = .ok (.getfield 43, 3) := by decide +kernel
theorem dX6_readPlain_10 : decode cX6_readPlain 10 = .ok (.iconst 1, 1) := by decide +kernel
theorem dX6_readPlain_11 : decode cX6_readPlain 11 = .ok (.iadd, 1) := by decide +kernel
theorem dX6_readPlain_12 : decode cX6_readPlain 12 = .ok (.putfield 43, 3) := by decide +kernel
theorem dX6_readPlain_15 : decode cX6_readPlain 15 = .ok (.iload_n 1, 1) := by decide +kernel
theorem dX6_readPlain_16 : decode cX6_readPlain 16 = .ok (.bipush 42, 2) := by decide +kernel
theorem dX6_readPlain_18 : decode cX6_readPlain 18 = .ok (.if_icmp .ne 21, 3) := by decide +kernel
theorem dX6_readPlain_21 : decode cX6_readPlain 21 = .ok (.aload_n 0, 1) := by decide +kernel
theorem dX6_readPlain_22 : decode cX6_readPlain 22 = .ok (.dup, 1) := by decide +kernel
theorem dX6_readPlain_23 : decode cX6_readPlain 23 = .ok (.getfield 174, 3) := by decide +kernel
theorem dX6_readPlain_26 : decode cX6_readPlain 26 = .ok (.iconst 1, 1) := by decide +kernel
theorem dX6_readPlain_27 : decode cX6_readPlain 27 = .ok (.iadd, 1) := by decide +kernel
theorem dX6_readPlain_28 : decode cX6_readPlain 28 = .ok (.putfield 174, 3) := by decide +kernel
theorem dX6_readPlain_31 : decode cX6_readPlain 31 = .ok (.aload_n 0, 1) := by decide +kernel
theorem dX6_readPlain_32 : decode cX6_readPlain 32 = .ok (.iconst 1, 1) := by decide +kernel
theorem dX6_readPlain_33 : decode cX6_readPlain 33 = .ok (.lconst 0, 1) := by decide +kernel
theorem dX6_readPlain_34 : decode cX6_readPlain 34 = .ok (.invokevirtual 177, 3) := by decide +kernel
theorem dX6_readPlain_37 : decode cX6_readPlain 37 = .ok (.iconst 1, 1) := by decide +kernel
theorem dX6_readPlain_38 : decode cX6_readPlain 38 = .ok (.ireturn, 1) := by decide +kernel
theorem dX6_readPlain_39 : decode cX6_readPlain 39 = .ok (.iload_n 1, 1) := by decide +kernel
theorem dX6_readPlain_40 : decode cX6_readPlain 40 = .ok (.bipush 91, 2) := by decide +kernel
theorem dX6_readPlain_42 : decode cX6_readPlain 42 = .ok (.if_icmp .eq 26, 3) := by decide +kernel
theorem dX6_readPlain_45 : decode cX6_readPlain 45 = .ok (.aload_n 0, 1) := by decide +kernel
theorem dX6_readPlain_46 : decode cX6_readPlain 46 = .ok (.iconst 0, 1) := by decide +kernel
theorem dX6_readPlain_47 : decode cX6_readPlain 47 = .ok (.iload_n 1, 1) := by decide +kernel
theorem dX6_readPlain_48 : decode cX6_readPlain 48 = .ok (.bipush 46, 2) := by decide +kernel
theorem dX6_readPlain_50 : decode cX6_readPlain 50 = .ok (.if_icmp .ne 9, 3) := by decide +kernel
theorem dX6_readPlain_53 : decode cX6_readPlain 53 = .ok (.ldc2_w 187, 3) := by decide +kernel
theorem dX6_readPlain_56 : decode cX6_readPlain 56 = .ok (.goto 7, 3) := by decide +kernel
theorem dX6_readPlain_59 : decode cX6_readPlain 59 = .ok (.iload_n 1, 1) := by decide +kernel
theorem dX6_readPlain_60 : decode cX6_readPlain 60 = .ok (.invokestatic 158, 3) := by decide +kernel
theorem dX6_readPlain_63 : decode cX6_readPlain 63 = .ok (.invokevirtual 177, 3) := by decide +kernel
theorem dX6_readPlain_66 : decode cX6_readPlain 66 = .ok (.iconst 1, 1) := by decide +kernel
theorem dX6_readPlain_67 : decode cX6_readPlain 67 = .ok (.ireturn, 1) := by decide +kernel
theorem dX6_readPlain_68 : decode cX6_readPlain 68 = .ok (.aload_n 0, 1) := by decide +kernel
theorem dX6_readPlain_69 : decode cX6_readPlain 69 = .ok (.bipush 94, 2) := by decide +kernel
theorem dX6_readPlain_71 : decode cX6_readPlain 71 = .ok (.invokevirtual 72, 3) := by decide +kernel
theorem dX6_readPlain_74 : decode cX6_readPlain 74 = .ok (.istore_n 2, 1) := by decide +kernel
theorem dX6_readPlain_75 : decode cX6_readPlain 75 = .ok (.lconst 0, 1) := by decide +kernel
theorem dX6_readPlain_76 : decode cX6_readPlain 76 = .ok (.lstore_n 3, 1) := by decide +kernel
theorem dX6_readPlain_77 : decode cX6_readPlain 77 = .ok (.iconst 0, 1) := by decide +kernel
theorem dX6_readPlain_78 : decode cX6_readPlain 78 = .ok (.istore 5, 2) := by decide +kernel
theorem dX6_readPlain_80 : decode cX6_readPlain 80 = .ok (.iload 5, 2) := by decide +kernel
theorem dX6_readPlain_82 : decode cX6_readPlain 82 = .ok (.bipush 60, 2) := by decide +kernel
theorem dX6_readPlain_84 : decode cX6_readPlain 84 = .ok (.if_icmp .gt 41, 3) := by decide +kernel
theorem dX6_readPlain_87 : decode cX6_readPlain 87 = .ok (.aload_n 0, 1) := by decide +kernel
theorem dX6_readPlain_88 : decode cX6_readPlain 88 = .ok (.invokevirtual 93, 3) := by decide +kernel
theorem dX6_readPlain_91 : decode cX6_readPlain 91 = .ok (.invokestatic 158, 3) := by decide +kernel
theorem dX6_readPlain_94 : decode cX6_readPlain 94 = .ok (.lconst 0, 1) := by decide +kernel
theorem dX6_readPlain_95 : decode cX6_readPlain 95 = .ok (.lcmp, 1) := by decide +kernel
theorem dX6_readPlain_96 : decode cX6_readPlain 96 = .ok (.ifCond .eq 29, 3) := by decide +kernel
theorem dX6_readPlain_99 : decode cX6_readPlain 99 = .ok (.lload_n 3, 1) := by decide +kernel
theorem dX6_readPlain_100 : decode cX6_readPlain 100 = .ok (.aload_n 0, 1) := by decide +kernel
theorem dX6_readPlain_101 : decode cX6_readPlain 101 = .ok (.invokevirtual 93, 3) := by decide +kernel
theorem dX6_readPlain_104 : decode cX6_readPlain 104 = .ok (.invokestatic 158, 3) := by decide +kernel
theorem dX6_readPlain_107 : decode cX6_readPlain 107 = .ok (.lor, 1) := by decide +kernel
theorem dX6_readPlain_108 : decode cX6_readPlain 108 = .ok (.lstore_n 3, 1) := by decide +kernel
theorem dX6_readPlain_109 : decode cX6_readPlain 109 = .ok (.aload_n 0, 1) := by decide +kernel
theorem dX6_readPlain_110 : decode cX6_readPlain 110 = .ok (.dup, 1) := by decide +kernel
theorem dX6_readPlain_111 : decode cX6_readPlain 111 = .ok (.getfield 43, 3) := by decide +kernel
theorem dX6_readPlain_114 : decode cX6_readPlain 114 = .ok (.iconst 1, 1) := by decide +kernel
theorem dX6_readPlain_115 : decode cX6_readPlain 115 = .ok (.iadd, 1) := by decide +kernel
theorem dX6_readPlain_116 : decode cX6_readPlain 116 = .ok (.putfield 43, 3) := by decide +kernel
theorem dX6_readPlain_119 : decode cX6_readPlain 119 = .ok (.iinc 5 1, 3) := by decide +kernel
theorem dX6_readPlain_122 : decode cX6_readPlain 122 = .ok (.goto (-42), 3) := by decide +kernel
theorem dX6_readPlain_125 : decode cX6_readPlain 125 = .ok (.lload_n 3, 1) := by decide +kernel
theorem dX6_readPlain_126 : decode cX6_readPlain 126 = .ok (.lconst 0, 1) := by decide +kernel
theorem dX6_readPlain_127 : decode cX6_readPlain 127 = .ok (.lcmp, 1) := by decide +kernel
theorem dX6_readPlain_128 : decode cX6_readPlain 128 = .ok (.ifCond .eq 12, 3) := by decide +kernel
theorem dX6_readPlain_131 : decode cX6_readPlain 131 = .ok (.aload_n 0, 1) := by decide +kernel
theorem dX6_readPlain_132 : decode cX6_readPlain 132 = .ok (.bipush 93, 2) := by decide +kernel
theorem dX6_readPlain_134 : decode cX6_readPlain 134 = .ok (.invokevirtual 72, 3) := by decide +kernel
theorem dX6_readPlain_137 : decode cX6_readPlain 137 = .ok (.ifCond .ne 5, 3) := by decide +kernel
theorem dX6_readPlain_140 : decode cX6_readPlain 140 = .ok (.iconst 0, 1) := by decide +kernel
theorem dX6_readPlain_141 : decode cX6_readPlain 141 = .ok (.ireturn, 1) := by decide +kernel
theorem dX6_readPlain_142 : decode cX6_readPlain 142 = .ok (.aload_n 0, 1) := by decide +kernel
theorem dX6_readPlain_143 : decode cX6_readPlain 143 = .ok (.iconst 0, 1) := by decide +kernel
theorem dX6_readPlain_144 : decode cX6_readPlain 144 = .ok (.iload_n 2, 1) := by decide +kernel
theorem dX6_readPlain_145 : decode cX6_readPlain 145 = .ok (.ifCond .eq 15, 3) := by decide +kernel
theorem dX6_readPlain_148 : decode cX6_readPlain 148 = .ok (.ldc2_w 187, 3) := by decide +kernel
theorem dX6_readPlain_151 : decode cX6_readPlain 151 = .ok (.lload_n 3, 1) := by decide +kernel
theorem dX6_readPlain_152 : decode cX6_readPlain 152 = .ok (.ldc2_w 189, 3) := by decide +kernel
theorem dX6_readPlain_155 : decode cX6_readPlain 155 = .ok (.lxor, 1) := by decide +kernel
theorem dX6_readPlain_156 : decode cX6_readPlain 156 = .ok (.land, 1) := by decide +kernel
theorem dX6_readPlain_157 : decode cX6_readPlain 157 = .ok (.goto 4, 3) := by decide +kernel
theorem dX6_readPlain_160 : decode cX6_readPlain 160 = .ok (.lload_n 3, 1) := by decide +kernel
theorem dX6_readPlain_161 : decode cX6_readPlain 161 = .ok (.invokevirtual 177, 3) := by decide +kernel
theorem dX6_readPlain_164 : decode cX6_readPlain 164 = .ok (.iconst 1, 1) := by decide +kernel
theorem dX6_readPlain_165 : decode cX6_readPlain 165 = .ok (.ireturn, 1) := by decide +kernel
theorem dX6_addElement_0 : decode cX6_addElement 0 = .ok (.aload_n 0, 1) := by decide +kernel
theorem dX6_addElement_1 : decode cX6_addElement 1 = .ok (.getfield 46, 3) := by decide +kernel
theorem dX6_addElement_4 : decode cX6_addElement 4 = .ok (.ifCond .lt 57, 3) := by decide +kernel
theorem dX6_addElement_7 : decode cX6_addElement 7 = .ok (.aload_n 0, 1) := by decide +kernel
theorem dX6_addElement_8 : decode cX6_addElement 8 = .ok (.getfield 46, 3) := by decide +kernel
theorem dX6_addElement_11 : decode cX6_addElement 11 = .ok (.aload_n 0, 1) := by decide +kernel
theorem dX6_addElement_12 : decode cX6_addElement 12 = .ok (.getfield 18, 3) := by decide +kernel
theorem dX6_addElement_15 : decode cX6_addElement 15 = .ok (.arraylength, 1) := by decide +kernel
theorem dX6_addElement_16 : decode cX6_addElement 16 = .ok (.if_icmp .ge 45, 3) := by decide +kernel
theorem dX6_addElement_19 : decode cX6_addElement 19 = .ok (.aload_n 0, 1) := by decide +kernel
theorem dX6_addElement_20 : decode cX6_addElement 20 = .ok (.getfield 46, 3) := by decide +kernel
theorem dX6_addElement_23 : decode cX6_addElement 23 = .ok (.aload_n 0, 1) := by decide +kernel
theorem dX6_addElement_24 : decode cX6_addElement 24 = .ok (.getfield 22, 3) := by decide +kernel
theorem dX6_addElement_27 : decode cX6_addElement 27 = .ok (.arraylength, 1) := by decide +kernel
theorem dX6_addElement_28 : decode cX6_addElement 28 = .ok (.if_icmp .ge 33, 3) := by decide +kernel
theorem dX6_addElement_31 : decode cX6_addElement 31 = .ok (.aload_n 0, 1) := by decide +kernel
theorem dX6_addElement_32 : decode cX6_addElement 32 = .ok (.getfield 18, 3) := by decide +kernel
theorem dX6_addElement_35 : decode cX6_addElement 35 = .ok (.aload_n 0, 1) := by decide +kernel
theorem dX6_addElement_36 : decode cX6_addElement 36 = .ok (.getfield 46, 3) := by decide +kernel
theorem dX6_addElement_39 : decode cX6_addElement 39 = .ok (.iload_n 1, 1) := by decide +kernel
theorem dX6_addElement_40 : decode cX6_addElement 40 = .ok (.iastore, 1) := by decide +kernel
theorem dX6_addElement_41 : decode cX6_addElement 41 = .ok (.aload_n 0, 1) := by decide +kernel
theorem dX6_addElement_42 : decode cX6_addElement 42 = .ok (.getfield 22, 3) := by decide +kernel
theorem dX6_addElement_45 : decode cX6_addElement 45 = .ok (.aload_n 0, 1) := by decide +kernel
theorem dX6_addElement_46 : decode cX6_addElement 46 = .ok (.getfield 46, 3) := by decide +kernel
theorem dX6_addElement_49 : decode cX6_addElement 49 = .ok (.lload_n 2, 1) := by decide +kernel
theorem dX6_addElement_50 : decode cX6_addElement 50 = .ok (.lastore, 1) := by decide +kernel
theorem dX6_addElement_51 : decode cX6_addElement 51 = .ok (.aload_n 0, 1) := by decide +kernel
theorem dX6_addElement_52 : decode cX6_addElement 52 = .ok (.dup, 1) := by decide +kernel
theorem dX6_addElement_53 : decode cX6_addElement 53 = .ok (.getfield 46, 3) := by decide +kernel
theorem dX6_addElement_56 : decode cX6_addElement 56 = .ok (.iconst 1, 1) := by decide +kernel
theorem dX6_addElement_57 : decode cX6_addElement 57 = .ok (.iadd, 1) := by decide +kernel
theorem dX6_addElement_58 : decode cX6_addElement 58 = .ok (.putfield 46, 3) := by decide +kernel
theorem dX6_addElement_61 : decode cX6_addElement 61 = .ok (.return_, 1) := by decide +kernel
theorem dX6_placeBehind_0 : decode cX6_placeBehind 0 = .ok (.iconst 0, 1) := by decide +kernel
theorem dX6_placeBehind_1 : decode cX6_placeBehind 1 = .ok (.istore_n 2, 1) := by decide +kernel
theorem dX6_placeBehind_2 : decode cX6_placeBehind 2 = .ok (.iload_n 2, 1) := by decide +kernel
theorem dX6_placeBehind_3 : decode cX6_placeBehind 3 = .ok (.aload_n 0, 1) := by decide +kernel
theorem dX6_placeBehind_4 : decode cX6_placeBehind 4 = .ok (.getfield 30, 3) := by decide +kernel
theorem dX6_placeBehind_7 : decode cX6_placeBehind 7 = .ok (.if_icmp .ge 40, 3) := by decide +kernel
theorem dX6_placeBehind_10 : decode cX6_placeBehind 10 = .ok (.aload_n 0, 1) := by decide +kernel
theorem dX6_placeBehind_11 : decode cX6_placeBehind 11 = .ok (.iload_n 2, 1) := by decide +kernel
theorem dX6_placeBehind_12 : decode cX6_placeBehind 12 = .ok (.invokevirtual 61, 3) := by decide +kernel
theorem dX6_placeBehind_15 : decode cX6_placeBehind 15 = .ok (.astore_n 3, 1) := by decide +kernel
theorem dX6_placeBehind_16 : decode cX6_placeBehind 16 = .ok (.aload_n 3, 1) := by decide +kernel
theorem dX6_placeBehind_17 : decode cX6_placeBehind 17 = .ok (.ifnull 24, 3) := by decide +kernel
theorem dX6_placeBehind_20 : decode cX6_placeBehind 20 = .ok (.aload_n 3, 1) := by decide +kernel
theorem dX6_placeBehind_21 : decode cX6_placeBehind 21 = .ok (.getfield 69, 3) := by decide +kernel
theorem dX6_placeBehind_24 : decode cX6_placeBehind 24 = .ok (.bipush 58, 2) := by decide +kernel
theorem dX6_placeBehind_26 : decode cX6_placeBehind 26 = .ok (.if_icmp .ne 15, 3) := by decide +kernel
theorem dX6_placeBehind_29 : decode cX6_placeBehind 29 = .ok (.aload_n 3, 1) := by decide +kernel
theorem dX6_placeBehind_30 : decode cX6_placeBehind 30 = .ok (.getfield 140, 3) := by decide +kernel
theorem dX6_placeBehind_33 : decode cX6_placeBehind 33 = .ok (.iload_n 1, 1) := by decide +kernel
theorem dX6_placeBehind_34 : decode cX6_placeBehind 34 = .ok (.if_icmp .ne 7, 3) := by decide +kernel
theorem dX6_placeBehind_37 : decode cX6_placeBehind 37 = .ok (.iload_n 2, 1) := by decide +kernel
theorem dX6_placeBehind_38 : decode cX6_placeBehind 38 = .ok (.iconst 1, 1) := by decide +kernel
theorem dX6_placeBehind_39 : decode cX6_placeBehind 39 = .ok (.iadd, 1) := by decide +kernel
theorem dX6_placeBehind_40 : decode cX6_placeBehind 40 = .ok (.ireturn, 1) := by decide +kernel
theorem dX6_placeBehind_41 : decode cX6_placeBehind 41 = .ok (.iinc 2 1, 3) := by decide +kernel
theorem dX6_placeBehind_44 : decode cX6_placeBehind 44 = .ok (.goto (-42), 3) := by decide +kernel
theorem dX6_placeBehind_47 : decode cX6_placeBehind 47 = .ok (.iconst (-1), 1) := by decide +kernel
theorem dX6_placeBehind_48 : decode cX6_placeBehind 48 = .ok (.ireturn, 1) := by decide +kernel
theorem dX6_rowsOf_0 : decode cX6_rowsOf 0 = .ok (.aload_n 2, 1) := by decide +kernel
theorem dX6_rowsOf_1 : decode cX6_rowsOf 1 = .ok (.iconst 0, 1) := by decide +kernel
theorem dX6_rowsOf_2 : decode cX6_rowsOf 2 = .ok (.invokevirtual 191, 3) := by decide +kernel
theorem dX6_rowsOf_5 : decode cX6_rowsOf 5 = .ok (.aload_n 1, 1) := by decide +kernel
theorem dX6_rowsOf_6 : decode cX6_rowsOf 6 = .ok (.getfield 155, 3) := by decide +kernel
theorem dX6_rowsOf_9 : decode cX6_rowsOf 9 = .ok (.istore_n 3, 1) := by decide +kernel
theorem dX6_rowsOf_10 : decode cX6_rowsOf 10 = .ok (.aload_n 1, 1) := by decide +kernel
theorem dX6_rowsOf_11 : decode cX6_rowsOf 11 = .ok (.getfield 155, 3) := by decide +kernel
theorem dX6_rowsOf_14 : decode cX6_rowsOf 14 = .ok (.istore 4, 2) := by decide +kernel
theorem dX6_rowsOf_16 : decode cX6_rowsOf 16 = .ok (.iload 4, 2) := by decide +kernel
theorem dX6_rowsOf_18 : decode cX6_rowsOf 18 = .ok (.aload_n 1, 1) := by decide +kernel
theorem dX6_rowsOf_19 : decode cX6_rowsOf 19 = .ok (.getfield 162, 3) := by decide +kernel
theorem dX6_rowsOf_22 : decode cX6_rowsOf 22 = .ok (.if_icmp .gt 55, 3) := by decide +kernel
theorem dX6_rowsOf_25 : decode cX6_rowsOf 25 = .ok (.iload 4, 2) := by decide +kernel
theorem dX6_rowsOf_27 : decode cX6_rowsOf 27 = .ok (.bipush 60, 2) := by decide +kernel
theorem dX6_rowsOf_29 : decode cX6_rowsOf 29 = .ok (.if_icmp .gt 48, 3) := by decide +kernel
theorem dX6_rowsOf_32 : decode cX6_rowsOf 32 = .ok (.iload 4, 2) := by decide +kernel
theorem dX6_rowsOf_34 : decode cX6_rowsOf 34 = .ok (.aload_n 1, 1) := by decide +kernel
theorem dX6_rowsOf_35 : decode cX6_rowsOf 35 = .ok (.getfield 162, 3) := by decide +kernel
theorem dX6_rowsOf_38 : decode cX6_rowsOf 38 = .ok (.if_icmp .eq 14, 3) := by decide +kernel
theorem dX6_rowsOf_41 : decode cX6_rowsOf 41 = .ok (.aload_n 0, 1) := by decide +kernel
theorem dX6_rowsOf_42 : decode cX6_rowsOf 42 = .ok (.iload 4, 2) := by decide +kernel
theorem dX6_rowsOf_44 : decode cX6_rowsOf 44 = .ok (.invokevirtual 197, 3) := by decide +kernel
theorem dX6_rowsOf_47 : decode cX6_rowsOf 47 = .ok (.bipush 124, 2) := by decide +kernel
theorem dX6_rowsOf_49 : decode cX6_rowsOf 49 = .ok (.if_icmp .ne 22, 3) := by decide +kernel
theorem dX6_rowsOf_52 : decode cX6_rowsOf 52 = .ok (.aload_n 2, 1) := by decide +kernel
theorem dX6_rowsOf_53 : decode cX6_rowsOf 53 = .ok (.aload_n 0, 1) := by decide +kernel
theorem dX6_rowsOf_54 : decode cX6_rowsOf 54 = .ok (.getfield 26, 3) := by decide +kernel
theorem dX6_rowsOf_57 : decode cX6_rowsOf 57 = .ok (.iload_n 3, 1) := by decide +kernel
theorem dX6_rowsOf_58 : decode cX6_rowsOf 58 = .ok (.iload 4, 2) := by decide +kernel
theorem dX6_rowsOf_60 : decode cX6_rowsOf 60 = .ok (.iload_n 3, 1) := by decide +kernel
theorem dX6_rowsOf_61 : decode cX6_rowsOf 61 = .ok (.isub, 1) := by decide +kernel
theorem dX6_rowsOf_62 : decode cX6_rowsOf 62 = .ok (.invokevirtual 201, 3) := by decide +kernel
theorem dX6_rowsOf_65 : decode cX6_rowsOf 65 = .ok (.pop, 1) := by decide +kernel
theorem dX6_rowsOf_66 : decode cX6_rowsOf 66 = .ok (.iload 4, 2) := by decide +kernel
theorem dX6_rowsOf_68 : decode cX6_rowsOf 68 = .ok (.iconst 1, 1) := by decide +kernel
theorem dX6_rowsOf_69 : decode cX6_rowsOf 69 = .ok (.iadd, 1) := by decide +kernel
theorem dX6_rowsOf_70 : decode cX6_rowsOf 70 = .ok (.istore_n 3, 1) := by decide +kernel
theorem dX6_rowsOf_71 : decode cX6_rowsOf 71 = .ok (.iinc 4 1, 3) := by decide +kernel
theorem dX6_rowsOf_74 : decode cX6_rowsOf 74 = .ok (.goto (-58), 3) := by decide +kernel
theorem dX6_rowsOf_77 : decode cX6_rowsOf 77 = .ok (.return_, 1) := by decide +kernel
theorem dX7_init_0 : decode cX7_init 0 = .ok (.aload_n 0, 1) := by decide +kernel
theorem dX7_init_1 : decode cX7_init 1 = .ok (.invokespecial 3, 3) := by decide +kernel
theorem dX7_init_4 : decode cX7_init 4 = .ok (.iload_n 1, 1) := by decide +kernel
theorem dX7_init_5 : decode cX7_init 5 = .ok (.iconst 0, 1) := by decide +kernel
theorem dX7_init_6 : decode cX7_init 6 = .ok (.invokestatic 9, 3) := by decide +kernel
theorem dX7_init_9 : decode cX7_init 9 = .ok (.istore_n 2, 1) := by decide +kernel
theorem dX7_init_10 : decode cX7_init 10 = .ok (.aload_n 0, 1) := by decide +kernel
theorem dX7_init_11 : decode cX7_init 11 = .ok (.iload_n 2, 1) := by decide +kernel
theorem dX7_init_12 : decode cX7_init 12 = .ok (.newarray .int, 2) := by decide +kernel
theorem dX7_init_14 : decode cX7_init 14 = .ok (.putfield 15, 3) := by decide +kernel
theorem dX7_init_17 : decode cX7_init 17 = .ok (.aload_n 0, 1) := by decide +kernel
theorem dX7_init_18 : decode cX7_init 18 = .ok (.iload_n 2, 1) := by decide +kernel
theorem dX7_init_19 : decode cX7_init 19 = .ok (.bipush 30, 2) := by decide +kernel
theorem dX7_init_21 : decode cX7_init 21 = .ok (.imul, 1) := by decide +kernel
theorem dX7_init_22 : decode cX7_init 22 = .ok (.newarray .byte, 2) := by decide +kernel
theorem dX7_init_24 : decode cX7_init 24 = .ok (.putfield 21, 3) := by decide +kernel
theorem dX7_init_27 : decode cX7_init 27 = .ok (.return_, 1) := by decide +kernel
theorem dX7_has_0 : decode cX7_has 0 = .ok (.iload_n 1, 1) := by decide +kernel
theorem dX7_has_1 : decode cX7_has 1 = .ok (.iconst 1, 1) := by decide +kernel
theorem dX7_has_2 : decode cX7_has 2 = .ok (.if_icmp .lt 24, 3) := by decide +kernel
theorem dX7_has_5 : decode cX7_has 5 = .ok (.iload_n 1, 1) := by decide +kernel
theorem dX7_has_6 : decode cX7_has 6 = .ok (.aload_n 0, 1) := by decide +kernel
theorem dX7_has_7 : decode cX7_has 7 = .ok (.getfield 25, 3) := by decide +kernel
theorem dX7_has_10 : decode cX7_has 10 = .ok (.if_icmp .gt 16, 3) := by decide +kernel
theorem dX7_has_13 : decode cX7_has 13 = .ok (.iload_n 1, 1) := by decide +kernel
theorem dX7_has_14 : decode cX7_has 14 = .ok (.aload_n 0, 1) := by decide +kernel
theorem dX7_has_15 : decode cX7_has 15 = .ok (.getfield 15, 3) := by decide +kernel
theorem dX7_has_18 : decode cX7_has 18 = .ok (.arraylength, 1) := by decide +kernel
theorem dX7_has_19 : decode cX7_has 19 = .ok (.if_icmp .gt 7, 3) := by decide +kernel
theorem dX7_has_22 : decode cX7_has 22 = .ok (.iconst 1, 1) := by decide +kernel
theorem dX7_has_23 : decode cX7_has 23 = .ok (.goto 4, 3) := by decide +kernel
theorem dX7_has_26 : decode cX7_has 26 = .ok (.iconst 0, 1) := by decide +kernel
theorem dX7_has_27 : decode cX7_has 27 = .ok (.ireturn, 1) := by decide +kernel
theorem dX7_lengthOf_0 : decode cX7_lengthOf 0 = .ok (.iload_n 1, 1) := by decide +kernel
theorem dX7_lengthOf_1 : decode cX7_lengthOf 1 = .ok (.iconst 1, 1) := by decide +kernel
theorem dX7_lengthOf_2 : decode cX7_lengthOf 2 = .ok (.if_icmp .lt 31, 3) := by decide +kernel
theorem dX7_lengthOf_5 : decode cX7_lengthOf 5 = .ok (.iload_n 1, 1) := by decide +kernel
theorem dX7_lengthOf_6 : decode cX7_lengthOf 6 = .ok (.aload_n 0, 1) := by decide +kernel
theorem dX7_lengthOf_7 : decode cX7_lengthOf 7 = .ok (.getfield 25, 3) := by decide +kernel
theorem dX7_lengthOf_10 : decode cX7_lengthOf 10 = .ok (.if_icmp .gt 23, 3) := by decide +kernel
theorem dX7_lengthOf_13 : decode cX7_lengthOf 13 = .ok (.iload_n 1, 1) := by decide +kernel
theorem dX7_lengthOf_14 : decode cX7_lengthOf 14 = .ok (.aload_n 0, 1) := by decide +kernel
theorem dX7_lengthOf_15 : decode cX7_lengthOf 15 = .ok (.getfield 15, 3) := by decide +kernel
theorem dX7_lengthOf_18 : decode cX7_lengthOf 18 = .ok (.arraylength, 1) := by decide +kernel
theorem dX7_lengthOf_19 : decode cX7_lengthOf 19 = .ok (.if_icmp .gt 14, 3) := by decide +kernel
theorem dX7_lengthOf_22 : decode cX7_lengthOf 22 = .ok (.aload_n 0, 1) := by decide +kernel
theorem dX7_lengthOf_23 : decode cX7_lengthOf 23 = .ok (.getfield 15, 3) := by decide +kernel
theorem dX7_lengthOf_26 : decode cX7_lengthOf 26 = .ok (.iload_n 1, 1) := by decide +kernel
theorem dX7_lengthOf_27 : decode cX7_lengthOf 27 = .ok (.iconst 1, 1) := by decide +kernel
theorem dX7_lengthOf_28 : decode cX7_lengthOf 28 = .ok (.isub, 1) := by decide +kernel
theorem dX7_lengthOf_29 : decode cX7_lengthOf 29 = .ok (.iaload, 1) := by decide +kernel
theorem dX7_lengthOf_30 : decode cX7_lengthOf 30 = .ok (.goto 4, 3) := by decide +kernel
theorem dX7_lengthOf_33 : decode cX7_lengthOf 33 = .ok (.iconst (-1), 1) := by decide +kernel
theorem dX7_lengthOf_34 : decode cX7_lengthOf 34 = .ok (.ireturn, 1) := by decide +kernel
theorem dX7_signAt_0 : decode cX7_signAt 0 = .ok (.iload_n 1, 1) := by decide +kernel
theorem dX7_signAt_1 : decode cX7_signAt 1 = .ok (.iconst 1, 1) := by decide +kernel
theorem dX7_signAt_2 : decode cX7_signAt 2 = .ok (.if_icmp .lt 20, 3) := by decide +kernel
theorem dX7_signAt_5 : decode cX7_signAt 5 = .ok (.iload_n 1, 1) := by decide +kernel
theorem dX7_signAt_6 : decode cX7_signAt 6 = .ok (.aload_n 0, 1) := by decide +kernel
theorem dX7_signAt_7 : decode cX7_signAt 7 = .ok (.getfield 25, 3) := by decide +kernel
theorem dX7_signAt_10 : decode cX7_signAt 10 = .ok (.if_icmp .gt 12, 3) := by decide +kernel
theorem dX7_signAt_13 : decode cX7_signAt 13 = .ok (.iload_n 1, 1) := by decide +kernel
theorem dX7_signAt_14 : decode cX7_signAt 14 = .ok (.aload_n 0, 1) := by decide +kernel
theorem dX7_signAt_15 : decode cX7_signAt 15 = .ok (.getfield 15, 3) := by decide +kernel
theorem dX7_signAt_18 : decode cX7_signAt 18 = .ok (.arraylength, 1) := by decide +kernel
theorem dX7_signAt_19 : decode cX7_signAt 19 = .ok (.if_icmp .le 5, 3) := by decide +kernel
theorem dX7_signAt_22 : decode cX7_signAt 22 = .ok (.iconst (-1), 1) := by decide +kernel
theorem dX7_signAt_23 : decode cX7_signAt 23 = .ok (.ireturn, 1) := by decide +kernel
theorem dX7_signAt_24 : decode cX7_signAt 24 = .ok (.iload_n 2, 1) := by decide +kernel
theorem dX7_signAt_25 : decode cX7_signAt 25 = .ok (.ifCond .lt 21, 3) := by decide +kernel
theorem dX7_signAt_28 : decode cX7_signAt 28 = .ok (.iload_n 2, 1) := by decide +kernel
theorem dX7_signAt_29 : decode cX7_signAt 29 = .ok (.aload_n 0, 1) := by decide +kernel
theorem dX7_signAt_30 : decode cX7_signAt 30 = .ok (.getfield 15, 3) := by decide +kernel
theorem dX7_signAt_33 : decode cX7_signAt 33 = .ok (.iload_n 1, 1) := by decide +kernel
theorem dX7_signAt_34 : decode cX7_signAt 34 = .ok (.iconst 1, 1) := by decide +kernel
theorem dX7_signAt_35 : decode cX7_signAt 35 = .ok (.isub, 1) := by decide +kernel
theorem dX7_signAt_36 : decode cX7_signAt 36 = .ok (.iaload, 1) := by decide +kernel
theorem dX7_signAt_37 : decode cX7_signAt 37 = .ok (.if_icmp .ge 9, 3) := by decide +kernel
theorem dX7_signAt_40 : decode cX7_signAt 40 = .ok (.iload_n 2, 1) := by decide +kernel
theorem dX7_signAt_41 : decode cX7_signAt 41 = .ok (.bipush 30, 2) := by decide +kernel
theorem dX7_signAt_43 : decode cX7_signAt 43 = .ok (.if_icmp .lt 5, 3) := by decide +kernel
theorem dX7_signAt_46 : decode cX7_signAt 46 = .ok (.iconst (-1), 1) := by decide +kernel
theorem dX7_signAt_47 : decode cX7_signAt 47 = .ok (.ireturn, 1) := by decide +kernel
theorem dX7_signAt_48 : decode cX7_signAt 48 = .ok (.aload_n 0, 1) := by decide +kernel
theorem dX7_signAt_49 : decode cX7_signAt 49 = .ok (.getfield 21, 3) := by decide +kernel
theorem dX7_signAt_52 : decode cX7_signAt 52 = .ok (.iload_n 1, 1) := by decide +kernel
theorem dX7_signAt_53 : decode cX7_signAt 53 = .ok (.iconst 1, 1) := by decide +kernel
theorem dX7_signAt_54 : decode cX7_signAt 54 = .ok (.isub, 1) := by decide +kernel
theorem dX7_signAt_55 : decode cX7_signAt 55 = .ok (.bipush 30, 2) := by decide +kernel
theorem dX7_signAt_57 : decode cX7_signAt 57 = .ok (.imul, 1) := by decide +kernel
theorem dX7_signAt_58 : decode cX7_signAt 58 = .ok (.iload_n 2, 1) := by decide +kernel
theorem dX7_signAt_59 : decode cX7_signAt 59 = .ok (.iadd, 1) := by decide +kernel
theorem dX7_signAt_60 : decode cX7_signAt 60 = .ok (.baload, 1) := by decide +kernel
theorem dX7_signAt_61 : decode cX7_signAt 61 = .ok (.ireturn, 1) := by decide +kernel
theorem dX7_shrink_0 : decode cX7_shrink 0 = .ok (.iload_n 1, 1) := by decide +kernel
theorem dX7_shrink_1 : decode cX7_shrink 1 = .ok (.ifCond .lt 16, 3) := by decide +kernel
theorem dX7_shrink_4 : decode cX7_shrink 4 = .ok (.iload_n 1, 1) := by decide +kernel
theorem dX7_shrink_5 : decode cX7_shrink 5 = .ok (.aload_n 0, 1) := by decide +kernel
theorem dX7_shrink_6 : decode cX7_shrink 6 = .ok (.getfield 25, 3) := by decide +kernel
theorem dX7_shrink_9 : decode cX7_shrink 9 = .ok (.if_icmp .ge 8, 3) := by decide +kernel
theorem dX7_shrink_12 : decode cX7_shrink 12 = .ok (.aload_n 0, 1) := by decide +kernel
theorem dX7_shrink_13 : decode cX7_shrink 13 = .ok (.iload_n 1, 1) := by decide +kernel
theorem dX7_shrink_14 : decode cX7_shrink 14 = .ok (.putfield 25, 3) := by decide +kernel
theorem dX7_shrink_17 : decode cX7_shrink 17 = .ok (.return_, 1) := by decide +kernel
theorem dX7_copy_0 : decode cX7_copy 0 = .ok (.aload_n 1, 1) := by decide +kernel
theorem dX7_copy_1 : decode cX7_copy 1 = .ok (.getfield 25, 3) := by decide +kernel
theorem dX7_copy_4 : decode cX7_copy 4 = .ok (.aload_n 0, 1) := by decide +kernel
theorem dX7_copy_5 : decode cX7_copy 5 = .ok (.getfield 15, 3) := by decide +kernel
theorem dX7_copy_8 : decode cX7_copy 8 = .ok (.arraylength, 1) := by decide +kernel
theorem dX7_copy_9 : decode cX7_copy 9 = .ok (.aload_n 1, 1) := by decide +kernel
theorem dX7_copy_10 : decode cX7_copy 10 = .ok (.getfield 15, 3) := by decide +kernel
theorem dX7_copy_13 : decode cX7_copy 13 = .ok (.arraylength, 1) := by decide +kernel
theorem dX7_copy_14 : decode cX7_copy 14 = .ok (.invokestatic 29, 3) := by decide +kernel
theorem dX7_copy_17 : decode cX7_copy 17 = .ok (.invokestatic 29, 3) := by decide +kernel
theorem dX7_copy_20 : decode cX7_copy 20 = .ok (.istore_n 2, 1) := by decide +kernel
theorem dX7_copy_21 : decode cX7_copy 21 = .ok (.iload_n 2, 1) := by decide +kernel
theorem dX7_copy_22 : decode cX7_copy 22 = .ok (.ifCond .ge 4, 3) := by decide +kernel
theorem dX7_copy_25 : decode cX7_copy 25 = .ok (.return_, 1) := by decide +kernel
theorem dX7_copy_26 : decode cX7_copy 26 = .ok (.aload_n 1, 1) := by decide +kernel
theorem dX7_copy_27 : decode cX7_copy 27 = .ok (.getfield 15, 3) := by decide +kernel
theorem dX7_copy_30 : decode cX7_copy 30 = .ok (.iconst 0, 1) := by decide +kernel
theorem dX7_copy_31 : decode cX7_copy 31 = .ok (.aload_n 0, 1) := by decide +kernel
theorem dX7_copy_32 : decode cX7_copy 32 = .ok (.getfield 15, 3) := by decide +kernel
theorem dX7_copy_35 : decode cX7_copy 35 = .ok (.iconst 0, 1) := by decide +kernel
theorem dX7_copy_36 : decode cX7_copy 36 = .ok (.iload_n 2, 1) := by decide +kernel
theorem dX7_copy_37 : decode cX7_copy 37 = .ok (.invokestatic 32, 3) := by decide +kernel
theorem dX7_copy_40 : decode cX7_copy 40 = .ok (.aload_n 1, 1) := by decide +kernel
theorem dX7_copy_41 : decode cX7_copy 41 = .ok (.getfield 21, 3) := by decide +kernel
theorem dX7_copy_44 : decode cX7_copy 44 = .ok (.iconst 0, 1) := by decide +kernel
theorem dX7_copy_45 : decode cX7_copy 45 = .ok (.aload_n 0, 1) := by decide +kernel
theorem dX7_copy_46 : decode cX7_copy 46 = .ok (.getfield 21, 3) := by decide +kernel
theorem dX7_copy_49 : decode cX7_copy 49 = .ok (.iconst 0, 1) := by decide +kernel
theorem dX7_copy_50 : decode cX7_copy 50 = .ok (.iload_n 2, 1) := by decide +kernel
theorem dX7_copy_51 : decode cX7_copy 51 = .ok (.bipush 30, 2) := by decide +kernel
theorem dX7_copy_53 : decode cX7_copy 53 = .ok (.imul, 1) := by decide +kernel
theorem dX7_copy_54 : decode cX7_copy 54 = .ok (.invokestatic 32, 3) := by decide +kernel
theorem dX7_copy_57 : decode cX7_copy 57 = .ok (.aload_n 0, 1) := by decide +kernel
theorem dX7_copy_58 : decode cX7_copy 58 = .ok (.iload_n 2, 1) := by decide +kernel
theorem dX7_copy_59 : decode cX7_copy 59 = .ok (.putfield 25, 3) := by decide +kernel
theorem dX7_copy_62 : decode cX7_copy 62 = .ok (.return_, 1) := by decide +kernel
theorem dX7_open_0 : decode cX7_open 0 = .ok (.iload_n 1, 1) := by decide +kernel
theorem dX7_open_1 : decode cX7_open 1 = .ok (.iconst 1, 1) := by decide +kernel
theorem dX7_open_2 : decode cX7_open 2 = .ok (.if_icmp .lt 31, 3) := by decide +kernel
theorem dX7_open_5 : decode cX7_open 5 = .ok (.iload_n 1, 1) := by decide +kernel
theorem dX7_open_6 : decode cX7_open 6 = .ok (.aload_n 0, 1) := by decide +kernel
theorem dX7_open_7 : decode cX7_open 7 = .ok (.getfield 25, 3) := by decide +kernel
theorem dX7_open_10 : decode cX7_open 10 = .ok (.iconst 1, 1) := by decide +kernel
theorem dX7_open_11 : decode cX7_open 11 = .ok (.iadd, 1) := by decide +kernel
theorem dX7_open_12 : decode cX7_open 12 = .ok (.if_icmp .gt 21, 3) := by decide +kernel
theorem dX7_open_15 : decode cX7_open 15 = .ok (.iload_n 2, 1) := by decide +kernel
theorem dX7_open_16 : decode cX7_open 16 = .ok (.ifCond .lt 17, 3) := by decide +kernel
theorem dX7_open_19 : decode cX7_open 19 = .ok (.iload_n 2, 1) := by decide +kernel
theorem dX7_open_20 : decode cX7_open 20 = .ok (.aload_n 0, 1) := by decide +kernel
theorem dX7_open_21 : decode cX7_open 21 = .ok (.getfield 15, 3) := by decide +kernel
theorem dX7_open_24 : decode cX7_open 24 = .ok (.arraylength, 1) := by decide +kernel
theorem dX7_open_25 : decode cX7_open 25 = .ok (.aload_n 0, 1) := by decide +kernel
theorem dX7_open_26 : decode cX7_open 26 = .ok (.getfield 25, 3) := by decide +kernel
theorem dX7_open_29 : decode cX7_open 29 = .ok (.isub, 1) := by decide +kernel
theorem dX7_open_30 : decode cX7_open 30 = .ok (.if_icmp .le 5, 3) := by decide +kernel
theorem dX7_open_33 : decode cX7_open 33 = .ok (.iconst 0, 1) := by decide +kernel
theorem dX7_open_34 : decode cX7_open 34 = .ok (.ireturn, 1) := by decide +kernel
theorem dX7_open_35 : decode cX7_open 35 = .ok (.aload_n 0, 1) := by decide +kernel
theorem dX7_open_36 : decode cX7_open 36 = .ok (.getfield 25, 3) := by decide +kernel
theorem dX7_open_39 : decode cX7_open 39 = .ok (.iload_n 1, 1) := by decide +kernel
theorem dX7_open_40 : decode cX7_open 40 = .ok (.isub, 1) := by decide +kernel
theorem dX7_open_41 : decode cX7_open 41 = .ok (.iconst 1, 1) := by decide +kernel
theorem dX7_open_42 : decode cX7_open 42 = .ok (.iadd, 1) := by decide +kernel
theorem dX7_open_43 : decode cX7_open 43 = .ok (.istore_n 3, 1) := by decide +kernel
theorem dX7_open_44 : decode cX7_open 44 = .ok (.aload_n 0, 1) := by decide +kernel
theorem dX7_open_45 : decode cX7_open 45 = .ok (.getfield 15, 3) := by decide +kernel
theorem dX7_open_48 : decode cX7_open 48 = .ok (.iload_n 1, 1) := by decide +kernel
theorem dX7_open_49 : decode cX7_open 49 = .ok (.iconst 1, 1) := by decide +kernel
theorem dX7_open_50 : decode cX7_open 50 = .ok (.isub, 1) := by decide +kernel
theorem dX7_open_51 : decode cX7_open 51 = .ok (.aload_n 0, 1) := by decide +kernel
theorem dX7_open_52 : decode cX7_open 52 = .ok (.getfield 15, 3) := by decide +kernel
theorem dX7_open_55 : decode cX7_open 55 = .ok (.iload_n 1, 1) := by decide +kernel
theorem dX7_open_56 : decode cX7_open 56 = .ok (.iconst 1, 1) := by decide +kernel
theorem dX7_open_57 : decode cX7_open 57 = .ok (.isub, 1) := by decide +kernel
theorem dX7_open_58 : decode cX7_open 58 = .ok (.iload_n 2, 1) := by decide +kernel
theorem dX7_open_59 : decode cX7_open 59 = .ok (.iadd, 1) := by decide +kernel
theorem dX7_open_60 : decode cX7_open 60 = .ok (.iload_n 3, 1) := by decide +kernel
theorem dX7_open_61 : decode cX7_open 61 = .ok (.invokestatic 32, 3) := by decide +kernel
theorem dX7_open_64 : decode cX7_open 64 = .ok (.aload_n 0, 1) := by decide +kernel
theorem dX7_open_65 : decode cX7_open 65 = .ok (.getfield 21, 3) := by decide +kernel
theorem dX7_open_68 : decode cX7_open 68 = .ok (.iload_n 1, 1) := by decide +kernel
theorem dX7_open_69 : decode cX7_open 69 = .ok (.iconst 1, 1) := by decide +kernel
theorem dX7_open_70 : decode cX7_open 70 = .ok (.isub, 1) := by decide +kernel
theorem dX7_open_71 : decode cX7_open 71 = .ok (.bipush 30, 2) := by decide +kernel
theorem dX7_open_73 : decode cX7_open 73 = .ok (.imul, 1) := by decide +kernel
theorem dX7_open_74 : decode cX7_open 74 = .ok (.aload_n 0, 1) := by decide +kernel
theorem dX7_open_75 : decode cX7_open 75 = .ok (.getfield 21, 3) := by decide +kernel
theorem dX7_open_78 : decode cX7_open 78 = .ok (.iload_n 1, 1) := by decide +kernel
theorem dX7_open_79 : decode cX7_open 79 = .ok (.iconst 1, 1) := by decide +kernel
theorem dX7_open_80 : decode cX7_open 80 = .ok (.isub, 1) := by decide +kernel
theorem dX7_open_81 : decode cX7_open 81 = .ok (.iload_n 2, 1) := by decide +kernel
theorem dX7_open_82 : decode cX7_open 82 = .ok (.iadd, 1) := by decide +kernel
theorem dX7_open_83 : decode cX7_open 83 = .ok (.bipush 30, 2) := by decide +kernel
theorem dX7_open_85 : decode cX7_open 85 = .ok (.imul, 1) := by decide +kernel
theorem dX7_open_86 : decode cX7_open 86 = .ok (.iload_n 3, 1) := by decide +kernel
theorem dX7_open_87 : decode cX7_open 87 = .ok (.bipush 30, 2) := by decide +kernel
theorem dX7_open_89 : decode cX7_open 89 = .ok (.imul, 1) := by decide +kernel
theorem dX7_open_90 : decode cX7_open 90 = .ok (.invokestatic 32, 3) := by decide +kernel
theorem dX7_open_93 : decode cX7_open 93 = .ok (.iload_n 1, 1) := by decide +kernel
theorem dX7_open_94 : decode cX7_open 94 = .ok (.istore 4, 2) := by decide +kernel
theorem dX7_open_96 : decode cX7_open 96 = .ok (.iload 4, 2) := by decide +kernel
theorem dX7_open_98 : decode cX7_open 98 = .ok (.iload_n 1, 1) := by decide +kernel
theorem dX7_open_99 : decode cX7_open 99 = .ok (.iload_n 2, 1) := by decide +kernel
theorem dX7_open_100 : decode cX7_open 100 = .ok (.iadd, 1) := by decide +kernel
theorem dX7_open_101 : decode cX7_open 101 = .ok (.if_icmp .ge 19, 3) := by decide +kernel
theorem dX7_open_104 : decode cX7_open 104 = .ok (.aload_n 0, 1) := by decide +kernel
theorem dX7_open_105 : decode cX7_open 105 = .ok (.getfield 15, 3) := by decide +kernel
theorem dX7_open_108 : decode cX7_open 108 = .ok (.iload 4, 2) := by decide +kernel
theorem dX7_open_110 : decode cX7_open 110 = .ok (.iconst 1, 1) := by decide +kernel
theorem dX7_open_111 : decode cX7_open 111 = .ok (.isub, 1) := by decide +kernel
theorem dX7_open_112 : decode cX7_open 112 = .ok (.iconst 0, 1) := by decide +kernel
theorem dX7_open_113 : decode cX7_open 113 = .ok (.iastore, 1) := by decide +kernel
theorem dX7_open_114 : decode cX7_open 114 = .ok (.iinc 4 1, 3) := by decide +kernel
theorem dX7_open_117 : decode cX7_open 117 = .ok (.goto (-21), 3) := by decide +kernel
theorem dX7_open_120 : decode cX7_open 120 = .ok (.aload_n 0, 1) := by decide +kernel
theorem dX7_open_121 : decode cX7_open 121 = .ok (.dup, 1) := by decide +kernel
theorem dX7_open_122 : decode cX7_open 122 = .ok (.getfield 25, 3) := by decide +kernel
theorem dX7_open_125 : decode cX7_open 125 = .ok (.iload_n 2, 1) := by decide +kernel
theorem dX7_open_126 : decode cX7_open 126 = .ok (.iadd, 1) := by decide +kernel
theorem dX7_open_127 : decode cX7_open 127 = .ok (.putfield 25, 3) := by decide +kernel
theorem dX7_open_130 : decode cX7_open 130 = .ok (.iconst 1, 1) := by decide +kernel
theorem dX7_open_131 : decode cX7_open 131 = .ok (.ireturn, 1) := by decide +kernel
theorem dX7_close_0 : decode cX7_close 0 = .ok (.iload_n 1, 1) := by decide +kernel
theorem dX7_close_1 : decode cX7_close 1 = .ok (.iconst 1, 1) := by decide +kernel
theorem dX7_close_2 : decode cX7_close 2 = .ok (.if_icmp .lt 31, 3) := by decide +kernel
theorem dX7_close_5 : decode cX7_close 5 = .ok (.iload_n 2, 1) := by decide +kernel
theorem dX7_close_6 : decode cX7_close 6 = .ok (.ifCond .lt 27, 3) := by decide +kernel
theorem dX7_close_9 : decode cX7_close 9 = .ok (.iload_n 2, 1) := by decide +kernel
theorem dX7_close_10 : decode cX7_close 10 = .ok (.aload_n 0, 1) := by decide +kernel
theorem dX7_close_11 : decode cX7_close 11 = .ok (.getfield 25, 3) := by decide +kernel
theorem dX7_close_14 : decode cX7_close 14 = .ok (.iload_n 1, 1) := by decide +kernel
theorem dX7_close_15 : decode cX7_close 15 = .ok (.isub, 1) := by decide +kernel
theorem dX7_close_16 : decode cX7_close 16 = .ok (.iconst 1, 1) := by decide +kernel
theorem dX7_close_17 : decode cX7_close 17 = .ok (.iadd, 1) := by decide +kernel
theorem dX7_close_18 : decode cX7_close 18 = .ok (.if_icmp .gt 15, 3) := by decide +kernel
theorem dX7_close_21 : decode cX7_close 21 = .ok (.aload_n 0, 1) := by decide +kernel
theorem dX7_close_22 : decode cX7_close 22 = .ok (.getfield 25, 3) := by decide +kernel
theorem dX7_close_25 : decode cX7_close 25 = .ok (.aload_n 0, 1) := by decide +kernel
theorem dX7_close_26 : decode cX7_close 26 = .ok (.getfield 15, 3) := by decide +kernel
theorem dX7_close_29 : decode cX7_close 29 = .ok (.arraylength, 1) := by decide +kernel
theorem dX7_close_30 : decode cX7_close 30 = .ok (.if_icmp .le 4, 3) := by decide +kernel
theorem dX7_close_33 : decode cX7_close 33 = .ok (.return_, 1) := by decide +kernel
theorem dX7_close_34 : decode cX7_close 34 = .ok (.aload_n 0, 1) := by decide +kernel
theorem dX7_close_35 : decode cX7_close 35 = .ok (.getfield 25, 3) := by decide +kernel
theorem dX7_close_38 : decode cX7_close 38 = .ok (.iload_n 1, 1) := by decide +kernel
theorem dX7_close_39 : decode cX7_close 39 = .ok (.isub, 1) := by decide +kernel
theorem dX7_close_40 : decode cX7_close 40 = .ok (.iconst 1, 1) := by decide +kernel
theorem dX7_close_41 : decode cX7_close 41 = .ok (.iadd, 1) := by decide +kernel
theorem dX7_close_42 : decode cX7_close 42 = .ok (.iload_n 2, 1) := by decide +kernel
theorem dX7_close_43 : decode cX7_close 43 = .ok (.isub, 1) := by decide +kernel
theorem dX7_close_44 : decode cX7_close 44 = .ok (.istore_n 3, 1) := by decide +kernel
theorem dX7_close_45 : decode cX7_close 45 = .ok (.aload_n 0, 1) := by decide +kernel
theorem dX7_close_46 : decode cX7_close 46 = .ok (.getfield 15, 3) := by decide +kernel
theorem dX7_close_49 : decode cX7_close 49 = .ok (.iload_n 1, 1) := by decide +kernel
theorem dX7_close_50 : decode cX7_close 50 = .ok (.iconst 1, 1) := by decide +kernel
theorem dX7_close_51 : decode cX7_close 51 = .ok (.isub, 1) := by decide +kernel
theorem dX7_close_52 : decode cX7_close 52 = .ok (.iload_n 2, 1) := by decide +kernel
theorem dX7_close_53 : decode cX7_close 53 = .ok (.iadd, 1) := by decide +kernel
theorem dX7_close_54 : decode cX7_close 54 = .ok (.aload_n 0, 1) := by decide +kernel
theorem dX7_close_55 : decode cX7_close 55 = .ok (.getfield 15, 3) := by decide +kernel
theorem dX7_close_58 : decode cX7_close 58 = .ok (.iload_n 1, 1) := by decide +kernel
theorem dX7_close_59 : decode cX7_close 59 = .ok (.iconst 1, 1) := by decide +kernel
theorem dX7_close_60 : decode cX7_close 60 = .ok (.isub, 1) := by decide +kernel
theorem dX7_close_61 : decode cX7_close 61 = .ok (.iload_n 3, 1) := by decide +kernel
theorem dX7_close_62 : decode cX7_close 62 = .ok (.invokestatic 32, 3) := by decide +kernel
theorem dX7_close_65 : decode cX7_close 65 = .ok (.aload_n 0, 1) := by decide +kernel
theorem dX7_close_66 : decode cX7_close 66 = .ok (.getfield 21, 3) := by decide +kernel
theorem dX7_close_69 : decode cX7_close 69 = .ok (.iload_n 1, 1) := by decide +kernel
theorem dX7_close_70 : decode cX7_close 70 = .ok (.iconst 1, 1) := by decide +kernel
theorem dX7_close_71 : decode cX7_close 71 = .ok (.isub, 1) := by decide +kernel
theorem dX7_close_72 : decode cX7_close 72 = .ok (.iload_n 2, 1) := by decide +kernel
theorem dX7_close_73 : decode cX7_close 73 = .ok (.iadd, 1) := by decide +kernel
theorem dX7_close_74 : decode cX7_close 74 = .ok (.bipush 30, 2) := by decide +kernel
theorem dX7_close_76 : decode cX7_close 76 = .ok (.imul, 1) := by decide +kernel
theorem dX7_close_77 : decode cX7_close 77 = .ok (.aload_n 0, 1) := by decide +kernel
theorem dX7_close_78 : decode cX7_close 78 = .ok (.getfield 21, 3) := by decide +kernel
theorem dX7_close_81 : decode cX7_close 81 = .ok (.iload_n 1, 1) := by decide +kernel
theorem dX7_close_82 : decode cX7_close 82 = .ok (.iconst 1, 1) := by decide +kernel
theorem dX7_close_83 : decode cX7_close 83 = .ok (.isub, 1) := by decide +kernel
theorem dX7_close_84 : decode cX7_close 84 = .ok (.bipush 30, 2) := by decide +kernel
theorem dX7_close_86 : decode cX7_close 86 = .ok (.imul, 1) := by decide +kernel
theorem dX7_close_87 : decode cX7_close 87 = .ok (.iload_n 3, 1) := by decide +kernel
theorem dX7_close_88 : decode cX7_close 88 = .ok (.bipush 30, 2) := by decide +kernel
theorem dX7_close_90 : decode cX7_close 90 = .ok (.imul, 1) := by decide +kernel
theorem dX7_close_91 : decode cX7_close 91 = .ok (.invokestatic 32, 3) := by decide +kernel
theorem dX7_close_94 : decode cX7_close 94 = .ok (.aload_n 0, 1) := by decide +kernel
theorem dX7_close_95 : decode cX7_close 95 = .ok (.dup, 1) := by decide +kernel
theorem dX7_close_96 : decode cX7_close 96 = .ok (.getfield 25, 3) := by decide +kernel
theorem dX7_close_99 : decode cX7_close 99 = .ok (.iload_n 2, 1) := by decide +kernel
theorem dX7_close_100 : decode cX7_close 100 = .ok (.isub, 1) := by decide +kernel
theorem dX7_close_101 : decode cX7_close 101 = .ok (.putfield 25, 3) := by decide +kernel
theorem dX7_close_104 : decode cX7_close 104 = .ok (.return_, 1) := by decide +kernel
theorem dX7_write_0 : decode cX7_write 0 = .ok (.iload_n 1, 1) := by decide +kernel
theorem dX7_write_1 : decode cX7_write 1 = .ok (.iconst 1, 1) := by decide +kernel
theorem dX7_write_2 : decode cX7_write 2 = .ok (.if_icmp .lt 20, 3) := by decide +kernel
theorem dX7_write_5 : decode cX7_write 5 = .ok (.iload_n 1, 1) := by decide +kernel
theorem dX7_write_6 : decode cX7_write 6 = .ok (.aload_n 0, 1) := by decide +kernel
theorem dX7_write_7 : decode cX7_write 7 = .ok (.getfield 25, 3) := by decide +kernel
theorem dX7_write_10 : decode cX7_write 10 = .ok (.if_icmp .gt 12, 3) := by decide +kernel
theorem dX7_write_13 : decode cX7_write 13 = .ok (.iload_n 1, 1) := by decide +kernel
theorem dX7_write_14 : decode cX7_write 14 = .ok (.aload_n 0, 1) := by decide +kernel
theorem dX7_write_15 : decode cX7_write 15 = .ok (.getfield 15, 3) := by decide +kernel
theorem dX7_write_18 : decode cX7_write 18 = .ok (.arraylength, 1) := by decide +kernel
theorem dX7_write_19 : decode cX7_write 19 = .ok (.if_icmp .le 4, 3) := by decide +kernel
theorem dX7_write_22 : decode cX7_write 22 = .ok (.return_, 1) := by decide +kernel
theorem dX7_write_23 : decode cX7_write 23 = .ok (.iload 4, 2) := by decide +kernel
theorem dX7_write_25 : decode cX7_write 25 = .ok (.ifCond .lt 23, 3) := by decide +kernel
theorem dX7_write_28 : decode cX7_write 28 = .ok (.iload 4, 2) := by decide +kernel
theorem dX7_write_30 : decode cX7_write 30 = .ok (.bipush 30, 2) := by decide +kernel
theorem dX7_write_32 : decode cX7_write 32 = .ok (.if_icmp .gt 16, 3) := by decide +kernel
theorem dX7_write_35 : decode cX7_write 35 = .ok (.iload_n 3, 1) := by decide +kernel
theorem dX7_write_36 : decode cX7_write 36 = .ok (.ifCond .lt 12, 3) := by decide +kernel
theorem dX7_write_39 : decode cX7_write 39 = .ok (.iload_n 3, 1) := by decide +kernel
theorem dX7_write_40 : decode cX7_write 40 = .ok (.aload_n 2, 1) := by decide +kernel
theorem dX7_write_41 : decode cX7_write 41 = .ok (.arraylength, 1) := by decide +kernel
theorem dX7_write_42 : decode cX7_write 42 = .ok (.iload 4, 2) := by decide +kernel
theorem dX7_write_44 : decode cX7_write 44 = .ok (.isub, 1) := by decide +kernel
theorem dX7_write_45 : decode cX7_write 45 = .ok (.if_icmp .le 4, 3) := by decide +kernel
theorem dX7_write_48 : decode cX7_write 48 = .ok (.return_, 1) := by decide +kernel
theorem dX7_write_49 : decode cX7_write 49 = .ok (.aload_n 2, 1) := by decide +kernel
theorem dX7_write_50 : decode cX7_write 50 = .ok (.iload_n 3, 1) := by decide +kernel
theorem dX7_write_51 : decode cX7_write 51 = .ok (.aload_n 0, 1) := by decide +kernel
theorem dX7_write_52 : decode cX7_write 52 = .ok (.getfield 21, 3) := by decide +kernel
theorem dX7_write_55 : decode cX7_write 55 = .ok (.iload_n 1, 1) := by decide +kernel
theorem dX7_write_56 : decode cX7_write 56 = .ok (.iconst 1, 1) := by decide +kernel
theorem dX7_write_57 : decode cX7_write 57 = .ok (.isub, 1) := by decide +kernel
theorem dX7_write_58 : decode cX7_write 58 = .ok (.bipush 30, 2) := by decide +kernel
theorem dX7_write_60 : decode cX7_write 60 = .ok (.imul, 1) := by decide +kernel
theorem dX7_write_61 : decode cX7_write 61 = .ok (.iload 4, 2) := by decide +kernel
theorem dX7_write_63 : decode cX7_write 63 = .ok (.invokestatic 32, 3) := by decide +kernel
theorem dX7_write_66 : decode cX7_write 66 = .ok (.aload_n 0, 1) := by decide +kernel
theorem dX7_write_67 : decode cX7_write 67 = .ok (.getfield 15, 3) := by decide +kernel
theorem dX7_write_70 : decode cX7_write 70 = .ok (.iload_n 1, 1) := by decide +kernel
theorem dX7_write_71 : decode cX7_write 71 = .ok (.iconst 1, 1) := by decide +kernel
theorem dX7_write_72 : decode cX7_write 72 = .ok (.isub, 1) := by decide +kernel
theorem dX7_write_73 : decode cX7_write 73 = .ok (.iload 4, 2) := by decide +kernel
theorem dX7_write_75 : decode cX7_write 75 = .ok (.iastore, 1) := by decide +kernel
theorem dX7_write_76 : decode cX7_write 76 = .ok (.return_, 1) := by decide +kernel
theorem dX7_add_0 : decode cX7_add 0 = .ok (.aload_n 0, 1) := by decide +kernel
theorem dX7_add_1 : decode cX7_add 1 = .ok (.getfield 25, 3) := by decide +kernel
theorem dX7_add_4 : decode cX7_add 4 = .ok (.ifCond .lt 15, 3) := by decide +kernel
theorem dX7_add_7 : decode cX7_add 7 = .ok (.aload_n 0, 1) := by decide +kernel
theorem dX7_add_8 : decode cX7_add 8 = .ok (.getfield 25, 3) := by decide +kernel
theorem dX7_add_11 : decode cX7_add 11 = .ok (.aload_n 0, 1) := by decide +kernel
theorem dX7_add_12 : decode cX7_add 12 = .ok (.getfield 15, 3) := by decide +kernel
theorem dX7_add_15 : decode cX7_add 15 = .ok (.arraylength, 1) := by decide +kernel
theorem dX7_add_16 : decode cX7_add 16 = .ok (.if_icmp .lt 5, 3) := by decide +kernel
theorem dX7_add_19 : decode cX7_add 19 = .ok (.iconst 0, 1) := by decide +kernel
theorem dX7_add_20 : decode cX7_add 20 = .ok (.ireturn, 1) := by decide +kernel
theorem dX7_add_21 : decode cX7_add 21 = .ok (.iload_n 3, 1) := by decide +kernel
theorem dX7_add_22 : decode cX7_add 22 = .ok (.ifCond .lt 21, 3) := by decide +kernel
theorem dX7_add_25 : decode cX7_add 25 = .ok (.iload_n 3, 1) := by decide +kernel
theorem dX7_add_26 : decode cX7_add 26 = .ok (.bipush 30, 2) := by decide +kernel
theorem dX7_add_28 : decode cX7_add 28 = .ok (.if_icmp .gt 15, 3) := by decide +kernel
theorem dX7_add_31 : decode cX7_add 31 = .ok (.iload_n 2, 1) := by decide +kernel
theorem dX7_add_32 : decode cX7_add 32 = .ok (.ifCond .lt 11, 3) := by decide +kernel
theorem dX7_add_35 : decode cX7_add 35 = .ok (.iload_n 2, 1) := by decide +kernel
theorem dX7_add_36 : decode cX7_add 36 = .ok (.aload_n 1, 1) := by decide +kernel
theorem dX7_add_37 : decode cX7_add 37 = .ok (.arraylength, 1) := by decide +kernel
theorem dX7_add_38 : decode cX7_add 38 = .ok (.iload_n 3, 1) := by decide +kernel
theorem dX7_add_39 : decode cX7_add 39 = .ok (.isub, 1) := by decide +kernel
theorem dX7_add_40 : decode cX7_add 40 = .ok (.if_icmp .le 5, 3) := by decide +kernel
theorem dX7_add_43 : decode cX7_add 43 = .ok (.iconst 0, 1) := by decide +kernel
theorem dX7_add_44 : decode cX7_add 44 = .ok (.ireturn, 1) := by decide +kernel
theorem dX7_add_45 : decode cX7_add 45 = .ok (.aload_n 1, 1) := by decide +kernel
theorem dX7_add_46 : decode cX7_add 46 = .ok (.iload_n 2, 1) := by decide +kernel
theorem dX7_add_47 : decode cX7_add 47 = .ok (.aload_n 0, 1) := by decide +kernel
theorem dX7_add_48 : decode cX7_add 48 = .ok (.getfield 21, 3) := by decide +kernel
theorem dX7_add_51 : decode cX7_add 51 = .ok (.aload_n 0, 1) := by decide +kernel
theorem dX7_add_52 : decode cX7_add 52 = .ok (.getfield 25, 3) := by decide +kernel
theorem dX7_add_55 : decode cX7_add 55 = .ok (.bipush 30, 2) := by decide +kernel
theorem dX7_add_57 : decode cX7_add 57 = .ok (.imul, 1) := by decide +kernel
theorem dX7_add_58 : decode cX7_add 58 = .ok (.iload_n 3, 1) := by decide +kernel
theorem dX7_add_59 : decode cX7_add 59 = .ok (.invokestatic 32, 3) := by decide +kernel
theorem dX7_add_62 : decode cX7_add 62 = .ok (.aload_n 0, 1) := by decide +kernel
theorem dX7_add_63 : decode cX7_add 63 = .ok (.getfield 15, 3) := by decide +kernel
theorem dX7_add_66 : decode cX7_add 66 = .ok (.aload_n 0, 1) := by decide +kernel
theorem dX7_add_67 : decode cX7_add 67 = .ok (.getfield 25, 3) := by decide +kernel
theorem dX7_add_70 : decode cX7_add 70 = .ok (.iload_n 3, 1) := by decide +kernel
theorem dX7_add_71 : decode cX7_add 71 = .ok (.iastore, 1) := by decide +kernel
theorem dX7_add_72 : decode cX7_add 72 = .ok (.aload_n 0, 1) := by decide +kernel
theorem dX7_add_73 : decode cX7_add 73 = .ok (.dup, 1) := by decide +kernel
theorem dX7_add_74 : decode cX7_add 74 = .ok (.getfield 25, 3) := by decide +kernel
theorem dX7_add_77 : decode cX7_add 77 = .ok (.iconst 1, 1) := by decide +kernel
theorem dX7_add_78 : decode cX7_add 78 = .ok (.iadd, 1) := by decide +kernel
theorem dX7_add_79 : decode cX7_add 79 = .ok (.putfield 25, 3) := by decide +kernel
theorem dX7_add_82 : decode cX7_add 82 = .ok (.iconst 1, 1) := by decide +kernel
theorem dX7_add_83 : decode cX7_add 83 = .ok (.ireturn, 1) := by decide +kernel
theorem dX7_addRow_0 : decode cX7_addRow 0 = .ok (.aload_n 1, 1) := by decide +kernel
theorem dX7_addRow_1 : decode cX7_addRow 1 = .ok (.iload_n 2, 1) := by decide +kernel
theorem dX7_addRow_2 : decode cX7_addRow 2 = .ok (.invokevirtual 38, 3) := by decide +kernel
theorem dX7_addRow_5 : decode cX7_addRow 5 = .ok (.ifCond .eq 29, 3) := by decide +kernel
theorem dX7_addRow_8 : decode cX7_addRow 8 = .ok (.aload_n 0, 1) := by decide +kernel
theorem dX7_addRow_9 : decode cX7_addRow 9 = .ok (.aload_n 1, 1) := by decide +kernel
theorem dX7_addRow_10 : decode cX7_addRow 10 = .ok (.getfield 21, 3) := by decide +kernel
theorem dX7_addRow_13 : decode cX7_addRow 13 = .ok (.iload_n 2, 1) := by decide +kernel
theorem dX7_addRow_14 : decode cX7_addRow 14 = .ok (.iconst 1, 1) := by decide +kernel
theorem dX7_addRow_15 : decode cX7_addRow 15 = .ok (.isub, 1) := by decide +kernel
theorem dX7_addRow_16 : decode cX7_addRow 16 = .ok (.bipush 30, 2) := by decide +kernel
theorem dX7_addRow_18 : decode cX7_addRow 18 = .ok (.imul, 1) := by decide +kernel
theorem dX7_addRow_19 : decode cX7_addRow 19 = .ok (.aload_n 1, 1) := by decide +kernel
theorem dX7_addRow_20 : decode cX7_addRow 20 = .ok (.iload_n 2, 1) := by decide +kernel
theorem dX7_addRow_21 : decode cX7_addRow 21 = .ok (.invokevirtual 42, 3) := by decide +kernel
theorem dX7_addRow_24 : decode cX7_addRow 24 = .ok (.invokevirtual 46, 3) := by decide +kernel
theorem dX7_addRow_27 : decode cX7_addRow 27 = .ok (.ifCond .eq 7, 3) := by decide +kernel
theorem dX7_addRow_30 : decode cX7_addRow 30 = .ok (.iconst 1, 1) := by decide +kernel
theorem dX7_addRow_31 : decode cX7_addRow 31 = .ok (.goto 4, 3) := by decide +kernel
theorem dX7_addRow_34 : decode cX7_addRow 34 = .ok (.iconst 0, 1) := by decide +kernel
theorem dX7_addRow_35 : decode cX7_addRow 35 = .ok (.ireturn, 1) := by decide +kernel
theorem dX7_take_0 : decode cX7_take 0 = .ok (.aload_n 2, 1) := by decide +kernel
theorem dX7_take_1 : decode cX7_take 1 = .ok (.iload_n 3, 1) := by decide +kernel
theorem dX7_take_2 : decode cX7_take 2 = .ok (.invokevirtual 38, 3) := by decide +kernel
theorem dX7_take_5 : decode cX7_take 5 = .ok (.ifCond .eq 23, 3) := by decide +kernel
theorem dX7_take_8 : decode cX7_take 8 = .ok (.aload_n 0, 1) := by decide +kernel
theorem dX7_take_9 : decode cX7_take 9 = .ok (.iload_n 1, 1) := by decide +kernel
theorem dX7_take_10 : decode cX7_take 10 = .ok (.aload_n 2, 1) := by decide +kernel
theorem dX7_take_11 : decode cX7_take 11 = .ok (.getfield 21, 3) := by decide +kernel
theorem dX7_take_14 : decode cX7_take 14 = .ok (.iload_n 3, 1) := by decide +kernel
theorem dX7_take_15 : decode cX7_take 15 = .ok (.iconst 1, 1) := by decide +kernel
theorem dX7_take_16 : decode cX7_take 16 = .ok (.isub, 1) := by decide +kernel
theorem dX7_take_17 : decode cX7_take 17 = .ok (.bipush 30, 2) := by decide +kernel
theorem dX7_take_19 : decode cX7_take 19 = .ok (.imul, 1) := by decide +kernel
theorem dX7_take_20 : decode cX7_take 20 = .ok (.aload_n 2, 1) := by decide +kernel
theorem dX7_take_21 : decode cX7_take 21 = .ok (.iload_n 3, 1) := by decide +kernel
theorem dX7_take_22 : decode cX7_take 22 = .ok (.invokevirtual 42, 3) := by decide +kernel
theorem dX7_take_25 : decode cX7_take 25 = .ok (.invokevirtual 50, 3) := by decide +kernel
theorem dX7_take_28 : decode cX7_take 28 = .ok (.return_, 1) := by decide +kernel
theorem dX7_extend_0 : decode cX7_extend 0 = .ok (.aload_n 2, 1) := by decide +kernel
theorem dX7_extend_1 : decode cX7_extend 1 = .ok (.iload_n 3, 1) := by decide +kernel
theorem dX7_extend_2 : decode cX7_extend 2 = .ok (.invokevirtual 42, 3) := by decide +kernel
theorem dX7_extend_5 : decode cX7_extend 5 = .ok (.istore 4, 2) := by decide +kernel
theorem dX7_extend_7 : decode cX7_extend 7 = .ok (.aload_n 0, 1) := by decide +kernel
theorem dX7_extend_8 : decode cX7_extend 8 = .ok (.iload_n 1, 1) := by decide +kernel
theorem dX7_extend_9 : decode cX7_extend 9 = .ok (.invokevirtual 38, 3) := by decide +kernel
theorem dX7_extend_12 : decode cX7_extend 12 = .ok (.ifCond .eq 24, 3) := by decide +kernel
theorem dX7_extend_15 : decode cX7_extend 15 = .ok (.iload 4, 2) := by decide +kernel
theorem dX7_extend_17 : decode cX7_extend 17 = .ok (.ifCond .lt 19, 3) := by decide +kernel
theorem dX7_extend_20 : decode cX7_extend 20 = .ok (.aload_n 0, 1) := by decide +kernel
theorem dX7_extend_21 : decode cX7_extend 21 = .ok (.getfield 15, 3) := by decide +kernel
theorem dX7_extend_24 : decode cX7_extend 24 = .ok (.iload_n 1, 1) := by decide +kernel
theorem dX7_extend_25 : decode cX7_extend 25 = .ok (.iconst 1, 1) := by decide +kernel
theorem dX7_extend_26 : decode cX7_extend 26 = .ok (.isub, 1) := by decide +kernel
