theorem dL_act_402 : decode cL_act 402 = .ok (.invokestatic 18, 3) := by decide +kernel
theorem dL_act_405 : decode cL_act 405 = .ok (.ifCond .le 5, 3) := by decide +kernel
theorem dL_act_408 : decode cL_act 408 = .ok (.iconst 1, 1) := by decide +kernel
theorem dL_act_409 : decode cL_act 409 = .ok (.ireturn, 1) := by decide +kernel
theorem dL_act_410 : decode cL_act 410 = .ok (.aload_n 0, 1) := by decide +kernel
theorem dL_act_411 : decode cL_act 411 = .ok (.invokevirtual 55, 3) := by decide +kernel
theorem dL_act_414 : decode cL_act 414 = .ok (.aload_n 1, 1) := by decide +kernel
theorem dL_act_415 : decode cL_act 415 = .ok (.invokevirtual 59, 3) := by decide +kernel
theorem dL_act_418 : decode cL_act 418 = .ok (.if_icmp .ne 7, 3) := by decide +kernel
theorem dL_act_421 : decode cL_act 421 = .ok (.iconst 1, 1) := by decide +kernel
theorem dL_act_422 : decode cL_act 422 = .ok (.goto 4, 3) := by decide +kernel
theorem dL_act_425 : decode cL_act 425 = .ok (.iconst 0, 1) := by decide +kernel
theorem dL_act_426 : decode cL_act 426 = .ok (.ireturn, 1) := by decide +kernel
theorem dL_act_427 : decode cL_act 427 = .ok (.iload_n 2, 1) := by decide +kernel
theorem dL_act_428 : decode cL_act 428 = .ok (.bipush 7, 2) := by decide +kernel
theorem dL_act_430 : decode cL_act 430 = .ok (.ishr, 1) := by decide +kernel
theorem dL_act_431 : decode cL_act 431 = .ok (.iconst 2, 1) := by decide +kernel
theorem dL_act_432 : decode cL_act 432 = .ok (.invokestatic 18, 3) := by decide +kernel
theorem dL_act_435 : decode cL_act 435 = .ok (.ifCond .ne 7, 3) := by decide +kernel
theorem dL_act_438 : decode cL_act 438 = .ok (.iconst 1, 1) := by decide +kernel
theorem dL_act_439 : decode cL_act 439 = .ok (.goto 4, 3) := by decide +kernel
theorem dL_act_442 : decode cL_act 442 = .ok (.iconst 5, 1) := by decide +kernel
theorem dL_act_443 : decode cL_act 443 = .ok (.istore 11, 2) := by decide +kernel
theorem dL_act_445 : decode cL_act 445 = .ok (.iload 11, 2) := by decide +kernel
theorem dL_act_447 : decode cL_act 447 = .ok (.iload_n 2, 1) := by decide +kernel
theorem dL_act_448 : decode cL_act 448 = .ok (.iconst 1, 1) := by decide +kernel
theorem dL_act_449 : decode cL_act 449 = .ok (.ishr, 1) := by decide +kernel
theorem dL_act_450 : decode cL_act 450 = .ok (.bipush 30, 2) := by decide +kernel
theorem dL_act_452 : decode cL_act 452 = .ok (.iload 11, 2) := by decide +kernel
theorem dL_act_454 : decode cL_act 454 = .ok (.idiv, 1) := by decide +kernel
theorem dL_act_455 : decode cL_act 455 = .ok (.iconst 1, 1) := by decide +kernel
theorem dL_act_456 : decode cL_act 456 = .ok (.iadd, 1) := by decide +kernel
theorem dL_act_457 : decode cL_act 457 = .ok (.invokestatic 18, 3) := by decide +kernel
theorem dL_act_460 : decode cL_act 460 = .ok (.imul, 1) := by decide +kernel
theorem dL_act_461 : decode cL_act 461 = .ok (.istore 12, 2) := by decide +kernel
theorem dL_act_463 : decode cL_act 463 = .ok (.iload 11, 2) := by decide +kernel
theorem dL_act_465 : decode cL_act 465 = .ok (.iload_n 2, 1) := by decide +kernel
theorem dL_act_466 : decode cL_act 466 = .ok (.iconst 5, 1) := by decide +kernel
theorem dL_act_467 : decode cL_act 467 = .ok (.ishr, 1) := by decide +kernel
theorem dL_act_468 : decode cL_act 468 = .ok (.bipush 30, 2) := by decide +kernel
theorem dL_act_470 : decode cL_act 470 = .ok (.iload 11, 2) := by decide +kernel
theorem dL_act_472 : decode cL_act 472 = .ok (.idiv, 1) := by decide +kernel
theorem dL_act_473 : decode cL_act 473 = .ok (.iconst 1, 1) := by decide +kernel
theorem dL_act_474 : decode cL_act 474 = .ok (.iadd, 1) := by decide +kernel
theorem dL_act_475 : decode cL_act 475 = .ok (.invokestatic 18, 3) := by decide +kernel
theorem dL_act_478 : decode cL_act 478 = .ok (.imul, 1) := by decide +kernel
theorem dL_act_479 : decode cL_act 479 = .ok (.istore 13, 2) := by decide +kernel
theorem dL_act_481 : decode cL_act 481 = .ok (.iload_n 3, 1) := by decide +kernel
theorem dL_act_482 : decode cL_act 482 = .ok (.bipush 13, 2) := by decide +kernel
theorem dL_act_484 : decode cL_act 484 = .ok (.if_icmp .ge 14, 3) := by decide +kernel
theorem dL_act_487 : decode cL_act 487 = .ok (.aload_n 1, 1) := by decide +kernel
theorem dL_act_488 : decode cL_act 488 = .ok (.iload 12, 2) := by decide +kernel
theorem dL_act_490 : decode cL_act 490 = .ok (.iload 13, 2) := by decide +kernel
theorem dL_act_492 : decode cL_act 492 = .ok (.invokevirtual 60, 3) := by decide +kernel
theorem dL_act_495 : decode cL_act 495 = .ok (.ifCond .lt 5, 3) := by decide +kernel
theorem dL_act_498 : decode cL_act 498 = .ok (.iconst 1, 1) := by decide +kernel
theorem dL_act_499 : decode cL_act 499 = .ok (.ireturn, 1) := by decide +kernel
theorem dL_act_500 : decode cL_act 500 = .ok (.aload_n 1, 1) := by decide +kernel
theorem dL_act_501 : decode cL_act 501 = .ok (.iload 12, 2) := by decide +kernel
theorem dL_act_503 : decode cL_act 503 = .ok (.iload 13, 2) := by decide +kernel
theorem dL_act_505 : decode cL_act 505 = .ok (.iload_n 2, 1) := by decide +kernel
theorem dL_act_506 : decode cL_act 506 = .ok (.iconst 3, 1) := by decide +kernel
theorem dL_act_507 : decode cL_act 507 = .ok (.ishr, 1) := by decide +kernel
theorem dL_act_508 : decode cL_act 508 = .ok (.bipush 100, 2) := by decide +kernel
theorem dL_act_510 : decode cL_act 510 = .ok (.invokestatic 18, 3) := by decide +kernel
theorem dL_act_513 : decode cL_act 513 = .ok (.invokevirtual 63, 3) := by decide +kernel
theorem dL_act_516 : decode cL_act 516 = .ok (.aload_n 0, 1) := by decide +kernel
theorem dL_act_517 : decode cL_act 517 = .ok (.iload 12, 2) := by decide +kernel
theorem dL_act_519 : decode cL_act 519 = .ok (.iload 13, 2) := by decide +kernel
theorem dL_act_521 : decode cL_act 521 = .ok (.iload_n 2, 1) := by decide +kernel
