theorem dX2_isSame_476 : decode cX2_isSame 476 = .ok (.iconst 5, 1) := by decide +kernel
theorem dX2_isSame_477 : decode cX2_isSame 477 = .ok (.aload_n 0, 1) := by decide +kernel
theorem dX2_isSame_478 : decode cX2_isSame 478 = .ok (.invokevirtual 114, 3) := by decide +kernel
theorem dX2_isSame_481 : decode cX2_isSame 481 = .ok (.iastore, 1) := by decide +kernel
theorem dX2_isSame_482 : decode cX2_isSame 482 = .ok (.dup, 1) := by decide +kernel
theorem dX2_isSame_483 : decode cX2_isSame 483 = .ok (.bipush 6, 2) := by decide +kernel
theorem dX2_isSame_485 : decode cX2_isSame 485 = .ok (.aload_n 0, 1) := by decide +kernel
theorem dX2_isSame_486 : decode cX2_isSame 486 = .ok (.getfield 22, 3) := by decide +kernel
theorem dX2_isSame_489 : decode cX2_isSame 489 = .ok (.iastore, 1) := by decide +kernel
theorem dX2_isSame_490 : decode cX2_isSame 490 = .ok (.astore 5, 2) := by decide +kernel
theorem dX2_isSame_492 : decode cX2_isSame 492 = .ok (.iconst 0, 1) := by decide +kernel
theorem dX2_isSame_493 : decode cX2_isSame 493 = .ok (.istore 6, 2) := by decide +kernel
theorem dX2_isSame_495 : decode cX2_isSame 495 = .ok (.iload 6, 2) := by decide +kernel
theorem dX2_isSame_497 : decode cX2_isSame 497 = .ok (.bipush 7, 2) := by decide +kernel
theorem dX2_isSame_499 : decode cX2_isSame 499 = .ok (.if_icmp .ge 25, 3) := by decide +kernel
theorem dX2_isSame_502 : decode cX2_isSame 502 = .ok (.aload_n 1, 1) := by decide +kernel
theorem dX2_isSame_503 : decode cX2_isSame 503 = .ok (.iload 6, 2) := by decide +kernel
theorem dX2_isSame_505 : decode cX2_isSame 505 = .ok (.invokevirtual 118, 3) := by decide +kernel
theorem dX2_isSame_508 : decode cX2_isSame 508 = .ok (.aload 5, 2) := by decide +kernel
theorem dX2_isSame_510 : decode cX2_isSame 510 = .ok (.iload 6, 2) := by decide +kernel
theorem dX2_isSame_512 : decode cX2_isSame 512 = .ok (.iaload, 1) := by decide +kernel
theorem dX2_isSame_513 : decode cX2_isSame 513 = .ok (.if_icmp .eq 5, 3) := by decide +kernel
theorem dX2_isSame_516 : decode cX2_isSame 516 = .ok (.iconst 0, 1) := by decide +kernel
theorem dX2_isSame_517 : decode cX2_isSame 517 = .ok (.ireturn, 1) := by decide +kernel
theorem dX2_isSame_518 : decode cX2_isSame 518 = .ok (.iinc 6 1, 3) := by decide +kernel
theorem dX2_isSame_521 : decode cX2_isSame 521 = .ok (.goto (-26), 3) := by decide +kernel
theorem dX2_isSame_524 : decode cX2_isSame 524 = .ok (.aload_n 1, 1) := by decide +kernel
theorem dX2_isSame_525 : decode cX2_isSame 525 = .ok (.invokevirtual 121, 3) := by decide +kernel
theorem dX2_isSame_528 : decode cX2_isSame 528 = .ok (.iload_n 3, 1) := by decide +kernel
theorem dX2_isSame_529 : decode cX2_isSame 529 = .ok (.i2d, 1) := by decide +kernel
theorem dX2_isSame_530 : decode cX2_isSame 530 = .ok (.iload_n 2, 1) := by decide +kernel
theorem dX2_isSame_531 : decode cX2_isSame 531 = .ok (.i2d, 1) := by decide +kernel
theorem dX2_isSame_532 : decode cX2_isSame 532 = .ok (.ddiv, 1) := by decide +kernel
theorem dX2_isSame_533 : decode cX2_isSame 533 = .ok (.dcmp .l, 1) := by decide +kernel
theorem dX2_isSame_534 : decode cX2_isSame 534 = .ok (.ifCond .ne 7, 3) := by decide +kernel
theorem dX2_isSame_537 : decode cX2_isSame 537 = .ok (.iconst 1, 1) := by decide +kernel
theorem dX2_isSame_538 : decode cX2_isSame 538 = .ok (.goto 4, 3) := by decide +kernel
theorem dX2_isSame_541 : decode cX2_isSame 541 = .ok (.iconst 0, 1) := by decide +kernel
theorem dX2_isSame_542 : decode cX2_isSame 542 = .ok (.ireturn, 1) := by decide +kernel
