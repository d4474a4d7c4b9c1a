theorem d_L_law_398 : decode b_L_law 398 = .ok (.ifCond .ne 22, 3) := by decide +kernel
theorem d_L_law_401 : decode b_L_law 401 = .ok (.aload_n 3, 1) := by decide +kernel
theorem d_L_law_402 : decode b_L_law 402 = .ok (.iconst 0, 1) := by decide +kernel
theorem d_L_law_403 : decode b_L_law 403 = .ok (.laload, 1) := by decide +kernel
theorem d_L_law_404 : decode b_L_law 404 = .ok (.iload 6, 2) := by decide +kernel
theorem d_L_law_406 : decode b_L_law 406 = .ok (.ifCond .eq 7, 3) := by decide +kernel
theorem d_L_law_409 : decode b_L_law 409 = .ok (.lconst 1, 1) := by decide +kernel
theorem d_L_law_410 : decode b_L_law 410 = .ok (.goto 4, 3) := by decide +kernel
theorem d_L_law_413 : decode b_L_law 413 = .ok (.lconst 0, 1) := by decide +kernel
theorem d_L_law_414 : decode b_L_law 414 = .ok (.lcmp, 1) := by decide +kernel
theorem d_L_law_415 : decode b_L_law 415 = .ok (.ifCond .eq 5, 3) := by decide +kernel
theorem d_L_law_418 : decode b_L_law 418 = .ok (.iconst 0, 1) := by decide +kernel
theorem d_L_law_419 : decode b_L_law 419 = .ok (.ireturn, 1) := by decide +kernel
theorem d_L_law_420 : decode b_L_law 420 = .ok (.goto 819, 3) := by decide +kernel
theorem d_L_law_423 : decode b_L_law 423 = .ok (.aload_n 1, 1) := by decide +kernel
theorem d_L_law_424 : decode b_L_law 424 = .ok (.aload_n 0, 1) := by decide +kernel
theorem d_L_law_425 : decode b_L_law 425 = .ok (.iload 4, 2) := by decide +kernel
theorem d_L_law_427 : decode b_L_law 427 = .ok (.iconst 1, 1) := by decide +kernel
theorem d_L_law_428 : decode b_L_law 428 = .ok (.iadd, 1) := by decide +kernel
theorem d_L_law_429 : decode b_L_law 429 = .ok (.iaload, 1) := by decide +kernel
theorem d_L_law_430 : decode b_L_law 430 = .ok (.aload_n 0, 1) := by decide +kernel
theorem d_L_law_431 : decode b_L_law 431 = .ok (.iload 4, 2) := by decide +kernel
theorem d_L_law_433 : decode b_L_law 433 = .ok (.iconst 2, 1) := by decide +kernel
theorem d_L_law_434 : decode b_L_law 434 = .ok (.iadd, 1) := by decide +kernel
theorem d_L_law_435 : decode b_L_law 435 = .ok (.iaload, 1) := by decide +kernel
theorem d_L_law_436 : decode b_L_law 436 = .ok (.ifCond .eq 7, 3) := by decide +kernel
theorem d_L_law_439 : decode b_L_law 439 = .ok (.iconst 1, 1) := by decide +kernel
theorem d_L_law_440 : decode b_L_law 440 = .ok (.goto 4, 3) := by decide +kernel
theorem d_L_law_443 : decode b_L_law 443 = .ok (.iconst 0, 1) := by decide +kernel
theorem d_L_law_444 : decode b_L_law 444 = .ok (.aload_n 3, 1) := by decide +kernel
theorem d_L_law_445 : decode b_L_law 445 = .ok (.invokestatic 87, 3) := by decide +kernel
theorem d_L_law_448 : decode b_L_law 448 = .ok (.istore 5, 2) := by decide +kernel
theorem d_L_law_450 : decode b_L_law 450 = .ok (.aload_n 2, 1) := by decide +kernel
theorem d_L_law_451 : decode b_L_law 451 = .ok (.aload_n 0, 1) := by decide +kernel
theorem d_L_law_452 : decode b_L_law 452 = .ok (.iload 4, 2) := by decide +kernel
theorem d_L_law_454 : decode b_L_law 454 = .ok (.iconst 1, 1) := by decide +kernel
theorem d_L_law_455 : decode b_L_law 455 = .ok (.iadd, 1) := by decide +kernel
theorem d_L_law_456 : decode b_L_law 456 = .ok (.iaload, 1) := by decide +kernel
theorem d_L_law_457 : decode b_L_law 457 = .ok (.aload_n 0, 1) := by decide +kernel
theorem d_L_law_458 : decode b_L_law 458 = .ok (.iload 4, 2) := by decide +kernel
theorem d_L_law_460 : decode b_L_law 460 = .ok (.iconst 2, 1) := by decide +kernel
theorem d_L_law_461 : decode b_L_law 461 = .ok (.iadd, 1) := by decide +kernel
theorem d_L_law_462 : decode b_L_law 462 = .ok (.iaload, 1) := by decide +kernel
theorem d_L_law_463 : decode b_L_law 463 = .ok (.ifCond .eq 7, 3) := by decide +kernel
theorem d_L_law_466 : decode b_L_law 466 = .ok (.iconst 1, 1) := by decide +kernel
theorem d_L_law_467 : decode b_L_law 467 = .ok (.goto 4, 3) := by decide +kernel
theorem d_L_law_470 : decode b_L_law 470 = .ok (.iconst 0, 1) := by decide +kernel
theorem d_L_law_471 : decode b_L_law 471 = .ok (.invokevirtual 89, 3) := by decide +kernel
theorem d_L_law_474 : decode b_L_law 474 = .ok (.istore 6, 2) := by decide +kernel
theorem d_L_law_476 : decode b_L_law 476 = .ok (.aload_n 2, 1) := by decide +kernel
theorem d_L_law_477 : decode b_L_law 477 = .ok (.invokevirtual 72, 3) := by decide +kernel
theorem d_L_law_480 : decode b_L_law 480 = .ok (.iload 5, 2) := by decide +kernel
theorem d_L_law_482 : decode b_L_law 482 = .ok (.if_icmp .eq 5, 3) := by decide +kernel
theorem d_L_law_485 : decode b_L_law 485 = .ok (.iconst 0, 1) := by decide +kernel
theorem d_L_law_486 : decode b_L_law 486 = .ok (.ireturn, 1) := by decide +kernel
theorem d_L_law_487 : decode b_L_law 487 = .ok (.iload 5, 2) := by decide +kernel
theorem d_L_law_489 : decode b_L_law 489 = .ok (.ifCond .ne 15, 3) := by decide +kernel
theorem d_L_law_492 : decode b_L_law 492 = .ok (.aload_n 3, 1) := by decide +kernel
theorem d_L_law_493 : decode b_L_law 493 = .ok (.iconst 0, 1) := by decide +kernel
theorem d_L_law_494 : decode b_L_law 494 = .ok (.laload, 1) := by decide +kernel
theorem d_L_law_495 : decode b_L_law 495 = .ok (.iload 6, 2) := by decide +kernel
theorem d_L_law_497 : decode b_L_law 497 = .ok (.i2l, 1) := by decide +kernel
theorem d_L_law_498 : decode b_L_law 498 = .ok (.lcmp, 1) := by decide +kernel
theorem d_L_law_499 : decode b_L_law 499 = .ok (.ifCond .eq 5, 3) := by decide +kernel
theorem d_L_law_502 : decode b_L_law 502 = .ok (.iconst 0, 1) := by decide +kernel
theorem d_L_law_503 : decode b_L_law 503 = .ok (.ireturn, 1) := by decide +kernel
theorem d_L_law_504 : decode b_L_law 504 = .ok (.goto 735, 3) := by decide +kernel
theorem d_L_law_507 : decode b_L_law 507 = .ok (.aload_n 1, 1) := by decide +kernel
theorem d_L_law_508 : decode b_L_law 508 = .ok (.aload_n 0, 1) := by decide +kernel
theorem d_L_law_509 : decode b_L_law 509 = .ok (.iload 4, 2) := by decide +kernel
theorem d_L_law_511 : decode b_L_law 511 = .ok (.iconst 1, 1) := by decide +kernel
theorem d_L_law_512 : decode b_L_law 512 = .ok (.iadd, 1) := by decide +kernel
theorem d_L_law_513 : decode b_L_law 513 = .ok (.iaload, 1) := by decide +kernel
theorem d_L_law_514 : decode b_L_law 514 = .ok (.aload_n 0, 1) := by decide +kernel
theorem d_L_law_515 : decode b_L_law 515 = .ok (.iload 4, 2) := by decide +kernel
theorem d_L_law_517 : decode b_L_law 517 = .ok (.iconst 2, 1) := by decide +kernel
theorem d_L_law_518 : decode b_L_law 518 = .ok (.iadd, 1) := by decide +kernel
theorem d_L_law_519 : decode b_L_law 519 = .ok (.iaload, 1) := by decide +kernel
theorem d_L_law_520 : decode b_L_law 520 = .ok (.aload_n 0, 1) := by decide +kernel
theorem d_L_law_521 : decode b_L_law 521 = .ok (.iload 4, 2) := by decide +kernel
theorem d_L_law_523 : decode b_L_law 523 = .ok (.iconst 3, 1) := by decide +kernel
theorem d_L_law_524 : decode b_L_law 524 = .ok (.iadd, 1) := by decide +kernel
theorem d_L_law_525 : decode b_L_law 525 = .ok (.iaload, 1) := by decide +kernel
theorem d_L_law_526 : decode b_L_law 526 = .ok (.ifCond .eq 7, 3) := by decide +kernel
theorem d_L_law_529 : decode b_L_law 529 = .ok (.iconst 1, 1) := by decide +kernel
theorem d_L_law_530 : decode b_L_law 530 = .ok (.goto 4, 3) := by decide +kernel
theorem d_L_law_533 : decode b_L_law 533 = .ok (.iconst 0, 1) := by decide +kernel
theorem d_L_law_534 : decode b_L_law 534 = .ok (.aload_n 3, 1) := by decide +kernel
theorem d_L_law_535 : decode b_L_law 535 = .ok (.invokestatic 90, 3) := by decide +kernel
theorem d_L_law_538 : decode b_L_law 538 = .ok (.istore 5, 2) := by decide +kernel
theorem d_L_law_540 : decode b_L_law 540 = .ok (.aload_n 2, 1) := by decide +kernel
theorem d_L_law_541 : decode b_L_law 541 = .ok (.aload_n 0, 1) := by decide +kernel
theorem d_L_law_542 : decode b_L_law 542 = .ok (.iload 4, 2) := by decide +kernel
theorem d_L_law_544 : decode b_L_law 544 = .ok (.iconst 1, 1) := by decide +kernel
theorem d_L_law_545 : decode b_L_law 545 = .ok (.iadd, 1) := by decide +kernel
theorem d_L_law_546 : decode b_L_law 546 = .ok (.iaload, 1) := by decide +kernel
theorem d_L_law_547 : decode b_L_law 547 = .ok (.aload_n 0, 1) := by decide +kernel
theorem d_L_law_548 : decode b_L_law 548 = .ok (.iload 4, 2) := by decide +kernel
theorem d_L_law_550 : decode b_L_law 550 = .ok (.iconst 2, 1) := by decide +kernel
theorem d_L_law_551 : decode b_L_law 551 = .ok (.iadd, 1) := by decide +kernel
