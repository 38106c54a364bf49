theorem dL_law_637 : decode cL_law 637 = .ok (.iload 12, 2) := by decide +kernel
theorem dL_law_639 : decode cL_law 639 = .ok (.bipush 16, 2) := by decide +kernel
theorem dL_law_641 : decode cL_law 641 = .ok (.idiv, 1) := by decide +kernel
theorem dL_law_642 : decode cL_law 642 = .ok (.iload 12, 2) := by decide +kernel
theorem dL_law_644 : decode cL_law 644 = .ok (.bipush 16, 2) := by decide +kernel
theorem dL_law_646 : decode cL_law 646 = .ok (.irem, 1) := by decide +kernel
theorem dL_law_647 : decode cL_law 647 = .ok (.iconst 0, 1) := by decide +kernel
theorem dL_law_648 : decode cL_law 648 = .ok (.invokevirtual 99, 3) := by decide +kernel
theorem dL_law_651 : decode cL_law 651 = .ok (.iconst 1, 1) := by decide +kernel
theorem dL_law_652 : decode cL_law 652 = .ok (.if_icmp .ne 31, 3) := by decide +kernel
theorem dL_law_655 : decode cL_law 655 = .ok (.aload_n 1, 1) := by decide +kernel
theorem dL_law_656 : decode cL_law 656 = .ok (.iload 12, 2) := by decide +kernel
theorem dL_law_658 : decode cL_law 658 = .ok (.bipush 16, 2) := by decide +kernel
theorem dL_law_660 : decode cL_law 660 = .ok (.idiv, 1) := by decide +kernel
theorem dL_law_661 : decode cL_law 661 = .ok (.iload 12, 2) := by decide +kernel
theorem dL_law_663 : decode cL_law 663 = .ok (.bipush 16, 2) := by decide +kernel
theorem dL_law_665 : decode cL_law 665 = .ok (.irem, 1) := by decide +kernel
theorem dL_law_666 : decode cL_law 666 = .ok (.iconst 2, 1) := by decide +kernel
theorem dL_law_667 : decode cL_law 667 = .ok (.invokevirtual 99, 3) := by decide +kernel
theorem dL_law_670 : decode cL_law 670 = .ok (.ifCond .ne 13, 3) := by decide +kernel
theorem dL_law_673 : decode cL_law 673 = .ok (.aload_n 1, 1) := by decide +kernel
theorem dL_law_674 : decode cL_law 674 = .ok (.iconst 2, 1) := by decide +kernel
theorem dL_law_675 : decode cL_law 675 = .ok (.invokevirtual 83, 3) := by decide +kernel
theorem dL_law_678 : decode cL_law 678 = .ok (.iload 11, 2) := by decide +kernel
theorem dL_law_680 : decode cL_law 680 = .ok (.if_icmp .eq 5, 3) := by decide +kernel
theorem dL_law_683 : decode cL_law 683 = .ok (.iconst 0, 1) := by decide +kernel
theorem dL_law_684 : decode cL_law 684 = .ok (.ireturn, 1) := by decide +kernel
theorem dL_law_685 : decode cL_law 685 = .ok (.iload 10, 2) := by decide +kernel
theorem dL_law_687 : decode cL_law 687 = .ok (.ifCond .eq 24, 3) := by decide +kernel
theorem dL_law_690 : decode cL_law 690 = .ok (.aload_n 1, 1) := by decide +kernel
theorem dL_law_691 : decode cL_law 691 = .ok (.iload 12, 2) := by decide +kernel
theorem dL_law_693 : decode cL_law 693 = .ok (.bipush 16, 2) := by decide +kernel
theorem dL_law_695 : decode cL_law 695 = .ok (.idiv, 1) := by decide +kernel
theorem dL_law_696 : decode cL_law 696 = .ok (.iload 12, 2) := by decide +kernel
theorem dL_law_698 : decode cL_law 698 = .ok (.bipush 16, 2) := by decide +kernel
theorem dL_law_700 : decode cL_law 700 = .ok (.irem, 1) := by decide +kernel
theorem dL_law_701 : decode cL_law 701 = .ok (.iconst 3, 1) := by decide +kernel
theorem dL_law_702 : decode cL_law 702 = .ok (.invokevirtual 99, 3) := by decide +kernel
theorem dL_law_705 : decode cL_law 705 = .ok (.iconst 1, 1) := by decide +kernel
theorem dL_law_706 : decode cL_law 706 = .ok (.if_icmp .ne 5, 3) := by decide +kernel
theorem dL_law_709 : decode cL_law 709 = .ok (.iconst 0, 1) := by decide +kernel
theorem dL_law_710 : decode cL_law 710 = .ok (.ireturn, 1) := by decide +kernel
theorem dL_law_711 : decode cL_law 711 = .ok (.iinc 3 1, 3) := by decide +kernel
theorem dL_law_714 : decode cL_law 714 = .ok (.goto (-692), 3) := by decide +kernel
theorem dL_law_717 : decode cL_law 717 = .ok (.aload_n 2, 1) := by decide +kernel
theorem dL_law_718 : decode cL_law 718 = .ok (.aload_n 1, 1) := by decide +kernel
theorem dL_law_719 : decode cL_law 719 = .ok (.invokevirtual 108, 3) := by decide +kernel
theorem dL_law_722 : decode cL_law 722 = .ok (.ireturn, 1) := by decide +kernel
