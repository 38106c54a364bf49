theorem dL_act_522 : decode cL_act 522 = .ok (.iconst 3, 1) := by decide +kernel
theorem dL_act_523 : decode cL_act 523 = .ok (.ishr, 1) := by decide +kernel
theorem dL_act_524 : decode cL_act 524 = .ok (.bipush 100, 2) := by decide +kernel
theorem dL_act_526 : decode cL_act 526 = .ok (.invokestatic 18, 3) := by decide +kernel
theorem dL_act_529 : decode cL_act 529 = .ok (.invokevirtual 67, 3) := by decide +kernel
theorem dL_act_532 : decode cL_act 532 = .ok (.iload_n 3, 1) := by decide +kernel
theorem dL_act_533 : decode cL_act 533 = .ok (.if_icmp .ne 7, 3) := by decide +kernel
theorem dL_act_536 : decode cL_act 536 = .ok (.iconst 1, 1) := by decide +kernel
theorem dL_act_537 : decode cL_act 537 = .ok (.goto 4, 3) := by decide +kernel
theorem dL_act_540 : decode cL_act 540 = .ok (.iconst 0, 1) := by decide +kernel
theorem dL_act_541 : decode cL_act 541 = .ok (.ireturn, 1) := by decide +kernel
