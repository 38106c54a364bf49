theorem dX2_isSame_361 : decode cX2_isSame 361 = .ok (.iconst 0, 1) := by decide +kernel
theorem dX2_isSame_362 : decode cX2_isSame 362 = .ok (.istore 5, 2) := by decide +kernel
theorem dX2_isSame_364 : decode cX2_isSame 364 = .ok (.iload 5, 2) := by decide +kernel
theorem dX2_isSame_366 : decode cX2_isSame 366 = .ok (.aload_n 0, 1) := by decide +kernel
theorem dX2_isSame_367 : decode cX2_isSame 367 = .ok (.getfield 15, 3) := by decide +kernel
theorem dX2_isSame_370 : decode cX2_isSame 370 = .ok (.arraylength, 1) := by decide +kernel
theorem dX2_isSame_371 : decode cX2_isSame 371 = .ok (.if_icmp .ge 67, 3) := by decide +kernel
theorem dX2_isSame_374 : decode cX2_isSame 374 = .ok (.iconst 0, 1) := by decide +kernel
theorem dX2_isSame_375 : decode cX2_isSame 375 = .ok (.istore 6, 2) := by decide +kernel
theorem dX2_isSame_377 : decode cX2_isSame 377 = .ok (.iload 6, 2) := by decide +kernel
theorem dX2_isSame_379 : decode cX2_isSame 379 = .ok (.iconst 4, 1) := by decide +kernel
theorem dX2_isSame_380 : decode cX2_isSame 380 = .ok (.if_icmp .ge 52, 3) := by decide +kernel
theorem dX2_isSame_383 : decode cX2_isSame 383 = .ok (.aload_n 1, 1) := by decide +kernel
theorem dX2_isSame_384 : decode cX2_isSame 384 = .ok (.iload 5, 2) := by decide +kernel
theorem dX2_isSame_386 : decode cX2_isSame 386 = .ok (.iload 6, 2) := by decide +kernel
theorem dX2_isSame_388 : decode cX2_isSame 388 = .ok (.invokevirtual 107, 3) := by decide +kernel
theorem dX2_isSame_391 : decode cX2_isSame 391 = .ok (.iload 6, 2) := by decide +kernel
theorem dX2_isSame_393 : decode cX2_isSame 393 = .ok (.iconst 3, 1) := by decide +kernel
theorem dX2_isSame_394 : decode cX2_isSame 394 = .ok (.if_icmp .ge 16, 3) := by decide +kernel
theorem dX2_isSame_397 : decode cX2_isSame 397 = .ok (.aload_n 0, 1) := by decide +kernel
theorem dX2_isSame_398 : decode cX2_isSame 398 = .ok (.getfield 15, 3) := by decide +kernel
theorem dX2_isSame_401 : decode cX2_isSame 401 = .ok (.iload 5, 2) := by decide +kernel
theorem dX2_isSame_403 : decode cX2_isSame 403 = .ok (.aaload, 1) := by decide +kernel
theorem dX2_isSame_404 : decode cX2_isSame 404 = .ok (.iload 6, 2) := by decide +kernel
theorem dX2_isSame_406 : decode cX2_isSame 406 = .ok (.iaload, 1) := by decide +kernel
theorem dX2_isSame_407 : decode cX2_isSame 407 = .ok (.goto 14, 3) := by decide +kernel
theorem dX2_isSame_410 : decode cX2_isSame 410 = .ok (.aload_n 0, 1) := by decide +kernel
theorem dX2_isSame_411 : decode cX2_isSame 411 = .ok (.aload_n 0, 1) := by decide +kernel
theorem dX2_isSame_412 : decode cX2_isSame 412 = .ok (.getfield 15, 3) := by decide +kernel
theorem dX2_isSame_415 : decode cX2_isSame 415 = .ok (.iload 5, 2) := by decide +kernel
theorem dX2_isSame_417 : decode cX2_isSame 417 = .ok (.aaload, 1) := by decide +kernel
theorem dX2_isSame_418 : decode cX2_isSame 418 = .ok (.invokevirtual 110, 3) := by decide +kernel
theorem dX2_isSame_421 : decode cX2_isSame 421 = .ok (.if_icmp .eq 5, 3) := by decide +kernel
theorem dX2_isSame_424 : decode cX2_isSame 424 = .ok (.iconst 0, 1) := by decide +kernel
theorem dX2_isSame_425 : decode cX2_isSame 425 = .ok (.ireturn, 1) := by decide +kernel
theorem dX2_isSame_426 : decode cX2_isSame 426 = .ok (.iinc 6 1, 3) := by decide +kernel
theorem dX2_isSame_429 : decode cX2_isSame 429 = .ok (.goto (-52), 3) := by decide +kernel
theorem dX2_isSame_432 : decode cX2_isSame 432 = .ok (.iinc 5 1, 3) := by decide +kernel
theorem dX2_isSame_435 : decode cX2_isSame 435 = .ok (.goto (-71), 3) := by decide +kernel
theorem dX2_isSame_438 : decode cX2_isSame 438 = .ok (.bipush 7, 2) := by decide +kernel
theorem dX2_isSame_440 : decode cX2_isSame 440 = .ok (.newarray .int, 2) := by decide +kernel
theorem dX2_isSame_442 : decode cX2_isSame 442 = .ok (.dup, 1) := by decide +kernel
theorem dX2_isSame_443 : decode cX2_isSame 443 = .ok (.iconst 0, 1) := by decide +kernel
theorem dX2_isSame_444 : decode cX2_isSame 444 = .ok (.iload_n 2, 1) := by decide +kernel
theorem dX2_isSame_445 : decode cX2_isSame 445 = .ok (.iastore, 1) := by decide +kernel
theorem dX2_isSame_446 : decode cX2_isSame 446 = .ok (.dup, 1) := by decide +kernel
theorem dX2_isSame_447 : decode cX2_isSame 447 = .ok (.iconst 1, 1) := by decide +kernel
theorem dX2_isSame_448 : decode cX2_isSame 448 = .ok (.aload_n 0, 1) := by decide +kernel
theorem dX2_isSame_449 : decode cX2_isSame 449 = .ok (.getfield 15, 3) := by decide +kernel
theorem dX2_isSame_452 : decode cX2_isSame 452 = .ok (.arraylength, 1) := by decide +kernel
theorem dX2_isSame_453 : decode cX2_isSame 453 = .ok (.iastore, 1) := by decide +kernel
theorem dX2_isSame_454 : decode cX2_isSame 454 = .ok (.dup, 1) := by decide +kernel
theorem dX2_isSame_455 : decode cX2_isSame 455 = .ok (.iconst 2, 1) := by decide +kernel
theorem dX2_isSame_456 : decode cX2_isSame 456 = .ok (.iload_n 3, 1) := by decide +kernel
theorem dX2_isSame_457 : decode cX2_isSame 457 = .ok (.iconst 2, 1) := by decide +kernel
theorem dX2_isSame_458 : decode cX2_isSame 458 = .ok (.idiv, 1) := by decide +kernel
theorem dX2_isSame_459 : decode cX2_isSame 459 = .ok (.iastore, 1) := by decide +kernel
theorem dX2_isSame_460 : decode cX2_isSame 460 = .ok (.dup, 1) := by decide +kernel
theorem dX2_isSame_461 : decode cX2_isSame 461 = .ok (.iconst 3, 1) := by decide +kernel
theorem dX2_isSame_462 : decode cX2_isSame 462 = .ok (.iload 4, 2) := by decide +kernel
theorem dX2_isSame_464 : decode cX2_isSame 464 = .ok (.iconst 2, 1) := by decide +kernel
theorem dX2_isSame_465 : decode cX2_isSame 465 = .ok (.idiv, 1) := by decide +kernel
theorem dX2_isSame_466 : decode cX2_isSame 466 = .ok (.iastore, 1) := by decide +kernel
theorem dX2_isSame_467 : decode cX2_isSame 467 = .ok (.dup, 1) := by decide +kernel
theorem dX2_isSame_468 : decode cX2_isSame 468 = .ok (.iconst 4, 1) := by decide +kernel
theorem dX2_isSame_469 : decode cX2_isSame 469 = .ok (.aload_n 0, 1) := by decide +kernel
theorem dX2_isSame_470 : decode cX2_isSame 470 = .ok (.getfield 18, 3) := by decide +kernel
theorem dX2_isSame_473 : decode cX2_isSame 473 = .ok (.arraylength, 1) := by decide +kernel
theorem dX2_isSame_474 : decode cX2_isSame 474 = .ok (.iastore, 1) := by decide +kernel
theorem dX2_isSame_475 : decode cX2_isSame 475 = .ok (.dup, 1) := by decide +kernel
