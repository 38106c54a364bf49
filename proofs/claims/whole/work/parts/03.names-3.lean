theorem dX1_edgeFact_1 : decode cX1_edgeFact 1 = .ok (.getfield 10, 3) := by decide +kernel
theorem dX1_edgeFact_4 : decode cX1_edgeFact 4 = .ok (.iload_n 3, 1) := by decide +kernel
theorem dX1_edgeFact_5 : decode cX1_edgeFact 5 = .ok (.iload_n 1, 1) := by decide +kernel
theorem dX1_edgeFact_6 : decode cX1_edgeFact 6 = .ok (.iload_n 2, 1) := by decide +kernel
theorem dX1_edgeFact_7 : decode cX1_edgeFact 7 = .ok (.invokevirtual 171, 3) := by decide +kernel
theorem dX1_edgeFact_10 : decode cX1_edgeFact 10 = .ok (.ifCond .eq 7, 3) := by decide +kernel
theorem dX1_edgeFact_13 : decode cX1_edgeFact 13 = .ok (.iconst 1, 1) := by decide +kernel
theorem dX1_edgeFact_14 : decode cX1_edgeFact 14 = .ok (.goto 4, 3) := by decide +kernel
theorem dX1_edgeFact_17 : decode cX1_edgeFact 17 = .ok (.iconst 0, 1) := by decide +kernel
theorem dX1_edgeFact_18 : decode cX1_edgeFact 18 = .ok (.ireturn, 1) := by decide +kernel
set_option maxRecDepth 20000 in
theorem ggX1_countOf_X0_edgesThat : GoodIn wsX1_countOf wsX0_edgesThat := goodIn_r _ [9, 10, 11, 12, 13, 8, 14, 15, 16, 17, 18, 19, 20, 21, 22, 23, 24, 25, 26, 27, 28, 29, 30, 31, 32, 33, 34, 35, 36, 37, 38, 39, 40, 41, 42, 43, 44, 45, 46, 47, 48, 49, 50, 51, 52, 53, 54, 55, 56, 57, 58, 59, 60, 61, 62, 67, 68, 69, 70, 71, 72, 73] (by decide +kernel) (by decide +kernel)
set_option maxRecDepth 20000 in
theorem gX1_countOf_X0_edgesThat : GoodIn wsX1_countOf (wsV RX1 149 RX0 yX0_edgesThat wsX0_edgesThat) := goodIn_app (goodIn_of _ (by decide +kernel)) ggX1_countOf_X0_edgesThat
theorem dX1_countOf_0 : decode cX1_countOf 0 = .ok (.iload_n 1, 1) := by decide +kernel
theorem dX1_countOf_1 : decode cX1_countOf 1 = .ok (.tableswitch 91 0 5 #[39, 47, 55, 64, 73, 82], 39) := by decide +kernel
theorem dX1_countOf_40 : decode cX1_countOf 40 = .ok (.aload_n 0, 1) := by decide +kernel
theorem dX1_countOf_41 : decode cX1_countOf 41 = .ok (.getfield 10, 3) := by decide +kernel
theorem dX1_countOf_44 : decode cX1_countOf 44 = .ok (.getfield 35, 3) := by decide +kernel
theorem dX1_countOf_47 : decode cX1_countOf 47 = .ok (.ireturn, 1) := by decide +kernel
theorem dX1_countOf_48 : decode cX1_countOf 48 = .ok (.aload_n 0, 1) := by decide +kernel
theorem dX1_countOf_49 : decode cX1_countOf 49 = .ok (.getfield 10, 3) := by decide +kernel
theorem dX1_countOf_52 : decode cX1_countOf 52 = .ok (.getfield 102, 3) := by decide +kernel
theorem dX1_countOf_55 : decode cX1_countOf 55 = .ok (.ireturn, 1) := by decide +kernel
theorem dX1_countOf_56 : decode cX1_countOf 56 = .ok (.aload_n 0, 1) := by decide +kernel
theorem dX1_countOf_57 : decode cX1_countOf 57 = .ok (.getfield 10, 3) := by decide +kernel
theorem dX1_countOf_60 : decode cX1_countOf 60 = .ok (.iconst 0, 1) := by decide +kernel
theorem dX1_countOf_61 : decode cX1_countOf 61 = .ok (.invokevirtual 149, 3) := by decide +kernel
theorem dX1_countOf_64 : decode cX1_countOf 64 = .ok (.ireturn, 1) := by decide +kernel
theorem dX1_countOf_65 : decode cX1_countOf 65 = .ok (.aload_n 0, 1) := by decide +kernel
theorem dX1_countOf_66 : decode cX1_countOf 66 = .ok (.getfield 10, 3) := by decide +kernel
theorem dX1_countOf_69 : decode cX1_countOf 69 = .ok (.iconst 1, 1) := by decide +kernel
theorem dX1_countOf_70 : decode cX1_countOf 70 = .ok (.invokevirtual 149, 3) := by decide +kernel
theorem dX1_countOf_73 : decode cX1_countOf 73 = .ok (.ireturn, 1) := by decide +kernel
theorem dX1_countOf_74 : decode cX1_countOf 74 = .ok (.aload_n 0, 1) := by decide +kernel
theorem dX1_countOf_75 : decode cX1_countOf 75 = .ok (.getfield 10, 3) := by decide +kernel
theorem dX1_countOf_78 : decode cX1_countOf 78 = .ok (.iconst 2, 1) := by decide +kernel
theorem dX1_countOf_79 : decode cX1_countOf 79 = .ok (.invokevirtual 149, 3) := by decide +kernel
theorem dX1_countOf_82 : decode cX1_countOf 82 = .ok (.ireturn, 1) := by decide +kernel
theorem dX1_countOf_83 : decode cX1_countOf 83 = .ok (.aload_n 0, 1) := by decide +kernel
theorem dX1_countOf_84 : decode cX1_countOf 84 = .ok (.getfield 10, 3) := by decide +kernel
theorem dX1_countOf_87 : decode cX1_countOf 87 = .ok (.iconst 3, 1) := by decide +kernel
theorem dX1_countOf_88 : decode cX1_countOf 88 = .ok (.invokevirtual 149, 3) := by decide +kernel
theorem dX1_countOf_91 : decode cX1_countOf 91 = .ok (.ireturn, 1) := by decide +kernel
theorem dX1_countOf_92 : decode cX1_countOf 92 = .ok (.aload_n 0, 1) := by decide +kernel
theorem dX1_countOf_93 : decode cX1_countOf 93 = .ok (.getfield 23, 3) := by decide +kernel
theorem dX1_countOf_96 : decode cX1_countOf 96 = .ok (.ireturn, 1) := by decide +kernel
theorem dX1_heightOf_0 : decode cX1_heightOf 0 = .ok (.iload_n 1, 1) := by decide +kernel
theorem dX1_heightOf_1 : decode cX1_heightOf 1 = .ok (.ifCond .lt 21, 3) := by decide +kernel
theorem dX1_heightOf_4 : decode cX1_heightOf 4 = .ok (.iload_n 1, 1) := by decide +kernel
theorem dX1_heightOf_5 : decode cX1_heightOf 5 = .ok (.aload_n 0, 1) := by decide +kernel
theorem dX1_heightOf_6 : decode cX1_heightOf 6 = .ok (.getfield 19, 3) := by decide +kernel
theorem dX1_heightOf_9 : decode cX1_heightOf 9 = .ok (.arraylength, 1) := by decide +kernel
theorem dX1_heightOf_10 : decode cX1_heightOf 10 = .ok (.if_icmp .ge 12, 3) := by decide +kernel
theorem dX1_heightOf_13 : decode cX1_heightOf 13 = .ok (.aload_n 0, 1) := by decide +kernel
theorem dX1_heightOf_14 : decode cX1_heightOf 14 = .ok (.getfield 19, 3) := by decide +kernel
theorem dX1_heightOf_17 : decode cX1_heightOf 17 = .ok (.iload_n 1, 1) := by decide +kernel
theorem dX1_heightOf_18 : decode cX1_heightOf 18 = .ok (.iaload, 1) := by decide +kernel
theorem dX1_heightOf_19 : decode cX1_heightOf 19 = .ok (.goto 4, 3) := by decide +kernel
theorem dX1_heightOf_22 : decode cX1_heightOf 22 = .ok (.iconst 0, 1) := by decide +kernel
theorem dX1_heightOf_23 : decode cX1_heightOf 23 = .ok (.ireturn, 1) := by decide +kernel
theorem dX1_setHeight_0 : decode cX1_setHeight 0 = .ok (.iload_n 1, 1) := by decide +kernel
theorem dX1_setHeight_1 : decode cX1_setHeight 1 = .ok (.ifCond .lt 19, 3) := by decide +kernel
theorem dX1_setHeight_4 : decode cX1_setHeight 4 = .ok (.iload_n 1, 1) := by decide +kernel
theorem dX1_setHeight_5 : decode cX1_setHeight 5 = .ok (.aload_n 0, 1) := by decide +kernel
theorem dX1_setHeight_6 : decode cX1_setHeight 6 = .ok (.getfield 19, 3) := by decide +kernel
theorem dX1_setHeight_9 : decode cX1_setHeight 9 = .ok (.arraylength, 1) := by decide +kernel
theorem dX1_setHeight_10 : decode cX1_setHeight 10 = .ok (.if_icmp .ge 10, 3) := by decide +kernel
theorem dX1_setHeight_13 : decode cX1_setHeight 13 = .ok (.aload_n 0, 1) := by decide +kernel
theorem dX1_setHeight_14 : decode cX1_setHeight 14 = .ok (.getfield 19, 3) := by decide +kernel
theorem dX1_setHeight_17 : decode cX1_setHeight 17 = .ok (.iload_n 1, 1) := by decide +kernel
theorem dX1_setHeight_18 : decode cX1_setHeight 18 = .ok (.iload_n 2, 1) := by decide +kernel
theorem dX1_setHeight_19 : decode cX1_setHeight 19 = .ok (.iastore, 1) := by decide +kernel
theorem dX1_setHeight_20 : decode cX1_setHeight 20 = .ok (.return_, 1) := by decide +kernel
theorem dX1_needPlace_0 : decode cX1_needPlace 0 = .ok (.iload_n 1, 1) := by decide +kernel
theorem dX1_needPlace_1 : decode cX1_needPlace 1 = .ok (.ifCond .lt 19, 3) := by decide +kernel
theorem dX1_needPlace_4 : decode cX1_needPlace 4 = .ok (.iload_n 1, 1) := by decide +kernel
theorem dX1_needPlace_5 : decode cX1_needPlace 5 = .ok (.bipush 30, 2) := by decide +kernel
theorem dX1_needPlace_7 : decode cX1_needPlace 7 = .ok (.if_icmp .gt 13, 3) := by decide +kernel
theorem dX1_needPlace_10 : decode cX1_needPlace 10 = .ok (.iload_n 2, 1) := by decide +kernel
theorem dX1_needPlace_11 : decode cX1_needPlace 11 = .ok (.ifCond .lt 9, 3) := by decide +kernel
theorem dX1_needPlace_14 : decode cX1_needPlace 14 = .ok (.iload_n 2, 1) := by decide +kernel
theorem dX1_needPlace_15 : decode cX1_needPlace 15 = .ok (.bipush 30, 2) := by decide +kernel
theorem dX1_needPlace_17 : decode cX1_needPlace 17 = .ok (.if_icmp .le 13, 3) := by decide +kernel
theorem dX1_needPlace_20 : decode cX1_needPlace 20 = .ok (.new 175, 3) := by decide +kernel
theorem dX1_needPlace_23 : decode cX1_needPlace 23 = .ok (.dup, 1) := by decide +kernel
theorem dX1_needPlace_24 : decode cX1_needPlace 24 = .ok (.ldc 177, 2) := by decide +kernel
theorem dX1_needPlace_26 : decode cX1_needPlace 26 = .ok (.invokespecial 179, 3) := by decide +kernel
theorem dX1_needPlace_29 : decode cX1_needPlace 29 = .ok (.athrow, 1) := by decide +kernel
theorem dX1_needPlace_30 : decode cX1_needPlace 30 = .ok (.return_, 1) := by decide +kernel
theorem dX1_needHeight_0 : decode cX1_needHeight 0 = .ok (.iload_n 1, 1) := by decide +kernel
theorem dX1_needHeight_1 : decode cX1_needHeight 1 = .ok (.ifCond .lt 9, 3) := by decide +kernel
theorem dX1_needHeight_4 : decode cX1_needHeight 4 = .ok (.iload_n 1, 1) := by decide +kernel
theorem dX1_needHeight_5 : decode cX1_needHeight 5 = .ok (.bipush 99, 2) := by decide +kernel
theorem dX1_needHeight_7 : decode cX1_needHeight 7 = .ok (.if_icmp .le 13, 3) := by decide +kernel
theorem dX1_needHeight_10 : decode cX1_needHeight 10 = .ok (.new 175, 3) := by decide +kernel
theorem dX1_needHeight_13 : decode cX1_needHeight 13 = .ok (.dup, 1) := by decide +kernel
theorem dX1_needHeight_14 : decode cX1_needHeight 14 = .ok (.ldc 180, 2) := by decide +kernel
theorem dX1_needHeight_16 : decode cX1_needHeight 16 = .ok (.invokespecial 179, 3) := by decide +kernel
theorem dX1_needHeight_19 : decode cX1_needHeight 19 = .ok (.athrow, 1) := by decide +kernel
theorem dX1_needHeight_20 : decode cX1_needHeight 20 = .ok (.return_, 1) := by decide +kernel
set_option maxRecDepth 20000 in
theorem ggX1_needFreePlace_X0_hasCairnAt : GoodIn wsX1_needFreePlace wsX0_hasCairnAt := goodIn_r _ [8, 9, 10, 11, 12, 7, 13, 14, 15, 16, 17, 18, 19, 24, 25, 26, 27, 28, 29, 30] (by decide +kernel) (by decide +kernel)
set_option maxRecDepth 20000 in
theorem gX1_needFreePlace_X0_hasCairnAt : GoodIn wsX1_needFreePlace (wsV RX1 182 RX0 yX0_hasCairnAt wsX0_hasCairnAt) := goodIn_app (goodIn_of _ (by decide +kernel)) ggX1_needFreePlace_X0_hasCairnAt
theorem dX1_needFreePlace_0 : decode cX1_needFreePlace 0 = .ok (.aload_n 0, 1) := by decide +kernel
theorem dX1_needFreePlace_1 : decode cX1_needFreePlace 1 = .ok (.getfield 10, 3) := by decide +kernel
theorem dX1_needFreePlace_4 : decode cX1_needFreePlace 4 = .ok (.iload_n 1, 1) := by decide +kernel
theorem dX1_needFreePlace_5 : decode cX1_needFreePlace 5 = .ok (.iload_n 2, 1) := by decide +kernel
theorem dX1_needFreePlace_6 : decode cX1_needFreePlace 6 = .ok (.invokevirtual 182, 3) := by decide +kernel
theorem dX1_needFreePlace_9 : decode cX1_needFreePlace 9 = .ok (.ifCond .eq 13, 3) := by decide +kernel
theorem dX1_needFreePlace_12 : decode cX1_needFreePlace 12 = .ok (.new 38, 3) := by decide +kernel
theorem dX1_needFreePlace_15 : decode cX1_needFreePlace 15 = .ok (.dup, 1) := by decide +kernel
theorem dX1_needFreePlace_16 : decode cX1_needFreePlace 16 = .ok (.ldc 185, 2) := by decide +kernel
theorem dX1_needFreePlace_18 : decode cX1_needFreePlace 18 = .ok (.invokespecial 42, 3) := by decide +kernel
theorem dX1_needFreePlace_21 : decode cX1_needFreePlace 21 = .ok (.athrow, 1) := by decide +kernel
theorem dX1_needFreePlace_22 : decode cX1_needFreePlace 22 = .ok (.return_, 1) := by decide +kernel
set_option maxRecDepth 20000 in
theorem ggX1_needCairn_X0_isCairn : GoodIn wsX1_needCairn wsX0_isCairn := goodIn_r _ [8, 9, 14, 15, 16, 17, 18, 19, 20] (by decide +kernel) (by decide +kernel)
set_option maxRecDepth 20000 in
theorem gX1_needCairn_X0_isCairn : GoodIn wsX1_needCairn (wsV RX1 187 RX0 yX0_isCairn wsX0_isCairn) := goodIn_app (goodIn_of _ (by decide +kernel)) ggX1_needCairn_X0_isCairn
theorem dX1_needCairn_0 : decode cX1_needCairn 0 = .ok (.aload_n 0, 1) := by decide +kernel
theorem dX1_needCairn_1 : decode cX1_needCairn 1 = .ok (.getfield 10, 3) := by decide +kernel
theorem dX1_needCairn_4 : decode cX1_needCairn 4 = .ok (.iload_n 1, 1) := by decide +kernel
theorem dX1_needCairn_5 : decode cX1_needCairn 5 = .ok (.invokevirtual 187, 3) := by decide +kernel
theorem dX1_needCairn_8 : decode cX1_needCairn 8 = .ok (.ifCond .ne 13, 3) := by decide +kernel
theorem dX1_needCairn_11 : decode cX1_needCairn 11 = .ok (.new 105, 3) := by decide +kernel
theorem dX1_needCairn_14 : decode cX1_needCairn 14 = .ok (.dup, 1) := by decide +kernel
theorem dX1_needCairn_15 : decode cX1_needCairn 15 = .ok (.ldc 191, 2) := by decide +kernel
theorem dX1_needCairn_17 : decode cX1_needCairn 17 = .ok (.invokespecial 109, 3) := by decide +kernel
theorem dX1_needCairn_20 : decode cX1_needCairn 20 = .ok (.athrow, 1) := by decide +kernel
theorem dX1_needCairn_21 : decode cX1_needCairn 21 = .ok (.return_, 1) := by decide +kernel
set_option maxRecDepth 20000 in
theorem ggX1_needEdge_X0_isEdge : GoodIn wsX1_needEdge wsX0_isEdge := goodIn_r _ [8, 9, 10, 11, 7, 12, 13, 18, 19, 20, 21, 22, 23, 24] (by decide +kernel) (by decide +kernel)
set_option maxRecDepth 20000 in
theorem gX1_needEdge_X0_isEdge : GoodIn wsX1_needEdge (wsV RX1 156 RX0 yX0_isEdge wsX0_isEdge) := goodIn_app (goodIn_of _ (by decide +kernel)) ggX1_needEdge_X0_isEdge
theorem dX1_needEdge_0 : decode cX1_needEdge 0 = .ok (.aload_n 0, 1) := by decide +kernel
theorem dX1_needEdge_1 : decode cX1_needEdge 1 = .ok (.getfield 10, 3) := by decide +kernel
theorem dX1_needEdge_4 : decode cX1_needEdge 4 = .ok (.iload_n 1, 1) := by decide +kernel
theorem dX1_needEdge_5 : decode cX1_needEdge 5 = .ok (.iload_n 2, 1) := by decide +kernel
theorem dX1_needEdge_6 : decode cX1_needEdge 6 = .ok (.invokevirtual 156, 3) := by decide +kernel
theorem dX1_needEdge_9 : decode cX1_needEdge 9 = .ok (.ifCond .ne 13, 3) := by decide +kernel
theorem dX1_needEdge_12 : decode cX1_needEdge 12 = .ok (.new 38, 3) := by decide +kernel
theorem dX1_needEdge_15 : decode cX1_needEdge 15 = .ok (.dup, 1) := by decide +kernel
theorem dX1_needEdge_16 : decode cX1_needEdge 16 = .ok (.ldc 193, 2) := by decide +kernel
theorem dX1_needEdge_18 : decode cX1_needEdge 18 = .ok (.invokespecial 42, 3) := by decide +kernel
theorem dX1_needEdge_21 : decode cX1_needEdge 21 = .ok (.athrow, 1) := by decide +kernel
theorem dX1_needEdge_22 : decode cX1_needEdge 22 = .ok (.return_, 1) := by decide +kernel
theorem dX1_needWhat_0 : decode cX1_needWhat 0 = .ok (.iload_n 1, 1) := by decide +kernel
theorem dX1_needWhat_1 : decode cX1_needWhat 1 = .ok (.ifCond .lt 8, 3) := by decide +kernel
theorem dX1_needWhat_4 : decode cX1_needWhat 4 = .ok (.iload_n 1, 1) := by decide +kernel
theorem dX1_needWhat_5 : decode cX1_needWhat 5 = .ok (.iload_n 2, 1) := by decide +kernel
theorem dX1_needWhat_6 : decode cX1_needWhat 6 = .ok (.if_icmp .lt 13, 3) := by decide +kernel
theorem dX1_needWhat_9 : decode cX1_needWhat 9 = .ok (.new 105, 3) := by decide +kernel
theorem dX1_needWhat_12 : decode cX1_needWhat 12 = .ok (.dup, 1) := by decide +kernel
theorem dX1_needWhat_13 : decode cX1_needWhat 13 = .ok (.ldc 195, 2) := by decide +kernel
theorem dX1_needWhat_15 : decode cX1_needWhat 15 = .ok (.invokespecial 109, 3) := by decide +kernel
theorem dX1_needWhat_18 : decode cX1_needWhat 18 = .ok (.athrow, 1) := by decide +kernel
theorem dX1_needWhat_19 : decode cX1_needWhat 19 = .ok (.return_, 1) := by decide +kernel
set_option maxRecDepth 20000 in
theorem ggX2_init_X2_put : GoodIn wsX2_init wsX2_put := goodIn_r _ [17, 18, 9, 19, 20, 16, 21, 22, 23, 24, 25, 26, 27, 28, 29, 30, 31, 32, 33, 34, 35, 36, 37] (by decide +kernel) (by decide +kernel)
set_option maxRecDepth 20000 in
theorem gX2_init_X2_put : GoodIn wsX2_init (wsV RX2 31 RX2 yX2_put wsX2_put) := goodIn_app (goodIn_of _ (by decide +kernel)) ggX2_init_X2_put
theorem dX2_init_0 : decode cX2_init 0 = .ok (.aload_n 0, 1) := by decide +kernel
theorem dX2_init_1 : decode cX2_init 1 = .ok (.invokespecial 1, 3) := by decide +kernel
theorem dX2_init_4 : decode cX2_init 4 = .ok (.aload_n 0, 1) := by decide +kernel
theorem dX2_init_5 : decode cX2_init 5 = .ok (.iconst 4, 1) := by decide +kernel
theorem dX2_init_6 : decode cX2_init 6 = .ok (.putfield 7, 3) := by decide +kernel
theorem dX2_init_9 : decode cX2_init 9 = .ok (.aload_n 0, 1) := by decide +kernel
theorem dX2_init_10 : decode cX2_init 10 = .ok (.bipush 17, 2) := by decide +kernel
theorem dX2_init_12 : decode cX2_init 12 = .ok (.newarray .int, 2) := by decide +kernel
theorem dX2_init_14 : decode cX2_init 14 = .ok (.putfield 13, 3) := by decide +kernel
theorem dX2_init_17 : decode cX2_init 17 = .ok (.aload_n 0, 1) := by decide +kernel
theorem dX2_init_18 : decode cX2_init 18 = .ok (.bipush 17, 2) := by decide +kernel
theorem dX2_init_20 : decode cX2_init 20 = .ok (.newarray .int, 2) := by decide +kernel
theorem dX2_init_22 : decode cX2_init 22 = .ok (.putfield 17, 3) := by decide +kernel
theorem dX2_init_25 : decode cX2_init 25 = .ok (.aload_n 0, 1) := by decide +kernel
theorem dX2_init_26 : decode cX2_init 26 = .ok (.bipush 17, 2) := by decide +kernel
theorem dX2_init_28 : decode cX2_init 28 = .ok (.newarray .int, 2) := by decide +kernel
theorem dX2_init_30 : decode cX2_init 30 = .ok (.putfield 20, 3) := by decide +kernel
theorem dX2_init_33 : decode cX2_init 33 = .ok (.aload_n 0, 1) := by decide +kernel
theorem dX2_init_34 : decode cX2_init 34 = .ok (.bipush 36, 2) := by decide +kernel
theorem dX2_init_36 : decode cX2_init 36 = .ok (.newarray .int, 2) := by decide +kernel
theorem dX2_init_38 : decode cX2_init 38 = .ok (.putfield 23, 3) := by decide +kernel
theorem dX2_init_41 : decode cX2_init 41 = .ok (.aload_n 0, 1) := by decide +kernel
theorem dX2_init_42 : decode cX2_init 42 = .ok (.bipush 17, 2) := by decide +kernel
theorem dX2_init_44 : decode cX2_init 44 = .ok (.bipush 17, 2) := by decide +kernel
theorem dX2_init_46 : decode cX2_init 46 = .ok (.multianewarray 26 2, 4) := by decide +kernel
theorem dX2_init_50 : decode cX2_init 50 = .ok (.putfield 28, 3) := by decide +kernel
theorem dX2_init_53 : decode cX2_init 53 = .ok (.aload_n 0, 1) := by decide +kernel
theorem dX2_init_54 : decode cX2_init 54 = .ok (.getfield 13, 3) := by decide +kernel
theorem dX2_init_57 : decode cX2_init 57 = .ok (.iconst 1, 1) := by decide +kernel
theorem dX2_init_58 : decode cX2_init 58 = .ok (.bipush 30, 2) := by decide +kernel
theorem dX2_init_60 : decode cX2_init 60 = .ok (.iastore, 1) := by decide +kernel
theorem dX2_init_61 : decode cX2_init 61 = .ok (.aload_n 0, 1) := by decide +kernel
theorem dX2_init_62 : decode cX2_init 62 = .ok (.getfield 13, 3) := by decide +kernel
theorem dX2_init_65 : decode cX2_init 65 = .ok (.iconst 2, 1) := by decide +kernel
theorem dX2_init_66 : decode cX2_init 66 = .ok (.bipush 30, 2) := by decide +kernel
theorem dX2_init_68 : decode cX2_init 68 = .ok (.iastore, 1) := by decide +kernel
theorem dX2_init_69 : decode cX2_init 69 = .ok (.aload_n 0, 1) := by decide +kernel
theorem dX2_init_70 : decode cX2_init 70 = .ok (.getfield 17, 3) := by decide +kernel
theorem dX2_init_73 : decode cX2_init 73 = .ok (.iconst 2, 1) := by decide +kernel
theorem dX2_init_74 : decode cX2_init 74 = .ok (.bipush 30, 2) := by decide +kernel
theorem dX2_init_76 : decode cX2_init 76 = .ok (.iastore, 1) := by decide +kernel
theorem dX2_init_77 : decode cX2_init 77 = .ok (.aload_n 0, 1) := by decide +kernel
theorem dX2_init_78 : decode cX2_init 78 = .ok (.getfield 17, 3) := by decide +kernel
theorem dX2_init_81 : decode cX2_init 81 = .ok (.iconst 3, 1) := by decide +kernel
theorem dX2_init_82 : decode cX2_init 82 = .ok (.bipush 30, 2) := by decide +kernel
theorem dX2_init_84 : decode cX2_init 84 = .ok (.iastore, 1) := by decide +kernel
theorem dX2_init_85 : decode cX2_init 85 = .ok (.aload_n 0, 1) := by decide +kernel
theorem dX2_init_86 : decode cX2_init 86 = .ok (.iconst 0, 1) := by decide +kernel
theorem dX2_init_87 : decode cX2_init 87 = .ok (.iconst 1, 1) := by decide +kernel
theorem dX2_init_88 : decode cX2_init 88 = .ok (.iconst 2, 1) := by decide +kernel
theorem dX2_init_89 : decode cX2_init 89 = .ok (.invokevirtual 31, 3) := by decide +kernel
theorem dX2_init_92 : decode cX2_init 92 = .ok (.aload_n 0, 1) := by decide +kernel
theorem dX2_init_93 : decode cX2_init 93 = .ok (.iconst 0, 1) := by decide +kernel
theorem dX2_init_94 : decode cX2_init 94 = .ok (.iconst 2, 1) := by decide +kernel
theorem dX2_init_95 : decode cX2_init 95 = .ok (.iconst 3, 1) := by decide +kernel
theorem dX2_init_96 : decode cX2_init 96 = .ok (.invokevirtual 31, 3) := by decide +kernel
theorem dX2_init_99 : decode cX2_init 99 = .ok (.return_, 1) := by decide +kernel
theorem dX2_thrown_0 : decode cX2_thrown 0 = .ok (.aload_n 0, 1) := by decide +kernel
theorem dX2_thrown_1 : decode cX2_thrown 1 = .ok (.getfield 35, 3) := by decide +kernel
theorem dX2_thrown_4 : decode cX2_thrown 4 = .ok (.ireturn, 1) := by decide +kernel
theorem dX2_fail_0 : decode cX2_fail 0 = .ok (.aload_n 0, 1) := by decide +kernel
theorem dX2_fail_1 : decode cX2_fail 1 = .ok (.iload_n 1, 1) := by decide +kernel
theorem dX2_fail_2 : decode cX2_fail 2 = .ok (.putfield 35, 3) := by decide +kernel
theorem dX2_fail_5 : decode cX2_fail 5 = .ok (.iconst 0, 1) := by decide +kernel
theorem dX2_fail_6 : decode cX2_fail 6 = .ok (.ireturn, 1) := by decide +kernel
theorem dX2_isIn_0 : decode cX2_isIn 0 = .ok (.iload_n 0, 1) := by decide +kernel
theorem dX2_isIn_1 : decode cX2_isIn 1 = .ok (.iload_n 1, 1) := by decide +kernel
theorem dX2_isIn_2 : decode cX2_isIn 2 = .ok (.if_icmp .lt 12, 3) := by decide +kernel
theorem dX2_isIn_5 : decode cX2_isIn 5 = .ok (.iload_n 0, 1) := by decide +kernel
theorem dX2_isIn_6 : decode cX2_isIn 6 = .ok (.iload_n 2, 1) := by decide +kernel
theorem dX2_isIn_7 : decode cX2_isIn 7 = .ok (.if_icmp .gt 7, 3) := by decide +kernel
theorem dX2_isIn_10 : decode cX2_isIn 10 = .ok (.iconst 1, 1) := by decide +kernel
theorem dX2_isIn_11 : decode cX2_isIn 11 = .ok (.goto 4, 3) := by decide +kernel
theorem dX2_isIn_14 : decode cX2_isIn 14 = .ok (.iconst 0, 1) := by decide +kernel
theorem dX2_isIn_15 : decode cX2_isIn 15 = .ok (.ireturn, 1) := by decide +kernel
set_option maxRecDepth 20000 in
theorem ggX2_isCairn_X2_isIn : GoodIn wsX2_isCairn wsX2_isIn := goodIn_r _ [5] (by decide +kernel) (by decide +kernel)
set_option maxRecDepth 20000 in
theorem gX2_isCairn_X2_isIn : GoodIn wsX2_isCairn (va_wsS RX2 38 yX2_isIn wsX2_isIn) := goodIn_app (goodIn_of _ (by decide +kernel)) ggX2_isCairn_X2_isIn
theorem dX2_isCairn_0 : decode cX2_isCairn 0 = .ok (.iload_n 1, 1) := by decide +kernel
theorem dX2_isCairn_1 : decode cX2_isCairn 1 = .ok (.iconst 0, 1) := by decide +kernel
theorem dX2_isCairn_2 : decode cX2_isCairn 2 = .ok (.aload_n 0, 1) := by decide +kernel
theorem dX2_isCairn_3 : decode cX2_isCairn 3 = .ok (.getfield 7, 3) := by decide +kernel
theorem dX2_isCairn_6 : decode cX2_isCairn 6 = .ok (.iconst 1, 1) := by decide +kernel
theorem dX2_isCairn_7 : decode cX2_isCairn 7 = .ok (.isub, 1) := by decide +kernel
theorem dX2_isCairn_8 : decode cX2_isCairn 8 = .ok (.invokestatic 38, 3) := by decide +kernel
theorem dX2_isCairn_11 : decode cX2_isCairn 11 = .ok (.ireturn, 1) := by decide +kernel
set_option maxRecDepth 20000 in
theorem ggX2_isPlace_X2_isIn : GoodIn wsX2_isPlace wsX2_isIn := goodIn_r _ [4] (by decide +kernel) (by decide +kernel)
set_option maxRecDepth 20000 in
theorem gX2_isPlace_X2_isIn : GoodIn wsX2_isPlace (va_wsS RX2 38 yX2_isIn wsX2_isIn) := goodIn_app (goodIn_of _ (by decide +kernel)) ggX2_isPlace_X2_isIn
theorem dX2_isPlace_0 : decode cX2_isPlace 0 = .ok (.iload_n 0, 1) := by decide +kernel
theorem dX2_isPlace_1 : decode cX2_isPlace 1 = .ok (.iconst 0, 1) := by decide +kernel
theorem dX2_isPlace_2 : decode cX2_isPlace 2 = .ok (.bipush 30, 2) := by decide +kernel
theorem dX2_isPlace_4 : decode cX2_isPlace 4 = .ok (.invokestatic 38, 3) := by decide +kernel
theorem dX2_isPlace_7 : decode cX2_isPlace 7 = .ok (.ifCond .eq 17, 3) := by decide +kernel
theorem dX2_isPlace_10 : decode cX2_isPlace 10 = .ok (.iload_n 1, 1) := by decide +kernel
theorem dX2_isPlace_11 : decode cX2_isPlace 11 = .ok (.iconst 0, 1) := by decide +kernel
theorem dX2_isPlace_12 : decode cX2_isPlace 12 = .ok (.bipush 30, 2) := by decide +kernel
theorem dX2_isPlace_14 : decode cX2_isPlace 14 = .ok (.invokestatic 38, 3) := by decide +kernel
theorem dX2_isPlace_17 : decode cX2_isPlace 17 = .ok (.ifCond .eq 7, 3) := by decide +kernel
theorem dX2_isPlace_20 : decode cX2_isPlace 20 = .ok (.iconst 1, 1) := by decide +kernel
theorem dX2_isPlace_21 : decode cX2_isPlace 21 = .ok (.goto 4, 3) := by decide +kernel
theorem dX2_isPlace_24 : decode cX2_isPlace 24 = .ok (.iconst 0, 1) := by decide +kernel
theorem dX2_isPlace_25 : decode cX2_isPlace 25 = .ok (.ireturn, 1) := by decide +kernel
theorem dX2_code_0 : decode cX2_code 0 = .ok (.iload_n 0, 1) := by decide +kernel
theorem dX2_code_1 : decode cX2_code 1 = .ok (.iload_n 1, 1) := by decide +kernel
theorem dX2_code_2 : decode cX2_code 2 = .ok (.iload_n 2, 1) := by decide +kernel
theorem dX2_code_3 : decode cX2_code 3 = .ok (.invokestatic 42, 3) := by decide +kernel
theorem dX2_code_6 : decode cX2_code 6 = .ok (.invokestatic 42, 3) := by decide +kernel
theorem dX2_code_9 : decode cX2_code 9 = .ok (.istore_n 3, 1) := by decide +kernel
theorem dX2_code_10 : decode cX2_code 10 = .ok (.iload_n 0, 1) := by decide +kernel
theorem dX2_code_11 : decode cX2_code 11 = .ok (.iload_n 1, 1) := by decide +kernel
theorem dX2_code_12 : decode cX2_code 12 = .ok (.iload_n 2, 1) := by decide +kernel
theorem dX2_code_13 : decode cX2_code 13 = .ok (.invokestatic 48, 3) := by decide +kernel
theorem dX2_code_16 : decode cX2_code 16 = .ok (.invokestatic 48, 3) := by decide +kernel
theorem dX2_code_19 : decode cX2_code 19 = .ok (.istore 4, 2) := by decide +kernel
theorem dX2_code_21 : decode cX2_code 21 = .ok (.iload_n 3, 1) := by decide +kernel
theorem dX2_code_22 : decode cX2_code 22 = .ok (.bipush 32, 2) := by decide +kernel
theorem dX2_code_24 : decode cX2_code 24 = .ok (.imul, 1) := by decide +kernel
theorem dX2_code_25 : decode cX2_code 25 = .ok (.iload_n 0, 1) := by decide +kernel
theorem dX2_code_26 : decode cX2_code 26 = .ok (.iadd, 1) := by decide +kernel
theorem dX2_code_27 : decode cX2_code 27 = .ok (.iload_n 1, 1) := by decide +kernel
theorem dX2_code_28 : decode cX2_code 28 = .ok (.iadd, 1) := by decide +kernel
theorem dX2_code_29 : decode cX2_code 29 = .ok (.iload_n 2, 1) := by decide +kernel
theorem dX2_code_30 : decode cX2_code 30 = .ok (.iadd, 1) := by decide +kernel
theorem dX2_code_31 : decode cX2_code 31 = .ok (.iload_n 3, 1) := by decide +kernel
theorem dX2_code_32 : decode cX2_code 32 = .ok (.isub, 1) := by decide +kernel
theorem dX2_code_33 : decode cX2_code 33 = .ok (.iload 4, 2) := by decide +kernel
theorem dX2_code_35 : decode cX2_code 35 = .ok (.isub, 1) := by decide +kernel
theorem dX2_code_36 : decode cX2_code 36 = .ok (.bipush 32, 2) := by decide +kernel
theorem dX2_code_38 : decode cX2_code 38 = .ok (.imul, 1) := by decide +kernel
theorem dX2_code_39 : decode cX2_code 39 = .ok (.iload 4, 2) := by decide +kernel
theorem dX2_code_41 : decode cX2_code 41 = .ok (.iadd, 1) := by decide +kernel
theorem dX2_code_42 : decode cX2_code 42 = .ok (.ireturn, 1) := by decide +kernel
theorem dX2_corner_0 : decode cX2_corner 0 = .ok (.iload_n 2, 1) := by decide +kernel
theorem dX2_corner_1 : decode cX2_corner 1 = .ok (.ifCond .ne 18, 3) := by decide +kernel
theorem dX2_corner_4 : decode cX2_corner 4 = .ok (.aload_n 0, 1) := by decide +kernel
theorem dX2_corner_5 : decode cX2_corner 5 = .ok (.getfield 23, 3) := by decide +kernel
theorem dX2_corner_8 : decode cX2_corner 8 = .ok (.iload_n 1, 1) := by decide +kernel
theorem dX2_corner_9 : decode cX2_corner 9 = .ok (.iaload, 1) := by decide +kernel
theorem dX2_corner_10 : decode cX2_corner 10 = .ok (.bipush 32, 2) := by decide +kernel
theorem dX2_corner_12 : decode cX2_corner 12 = .ok (.idiv, 1) := by decide +kernel
theorem dX2_corner_13 : decode cX2_corner 13 = .ok (.bipush 32, 2) := by decide +kernel
theorem dX2_corner_15 : decode cX2_corner 15 = .ok (.idiv, 1) := by decide +kernel
theorem dX2_corner_16 : decode cX2_corner 16 = .ok (.goto 32, 3) := by decide +kernel
theorem dX2_corner_19 : decode cX2_corner 19 = .ok (.iload_n 2, 1) := by decide +kernel
theorem dX2_corner_20 : decode cX2_corner 20 = .ok (.iconst 1, 1) := by decide +kernel
theorem dX2_corner_21 : decode cX2_corner 21 = .ok (.if_icmp .ne 18, 3) := by decide +kernel
theorem dX2_corner_24 : decode cX2_corner 24 = .ok (.aload_n 0, 1) := by decide +kernel
theorem dX2_corner_25 : decode cX2_corner 25 = .ok (.getfield 23, 3) := by decide +kernel
theorem dX2_corner_28 : decode cX2_corner 28 = .ok (.iload_n 1, 1) := by decide +kernel
theorem dX2_corner_29 : decode cX2_corner 29 = .ok (.iaload, 1) := by decide +kernel
theorem dX2_corner_30 : decode cX2_corner 30 = .ok (.bipush 32, 2) := by decide +kernel
theorem dX2_corner_32 : decode cX2_corner 32 = .ok (.idiv, 1) := by decide +kernel
theorem dX2_corner_33 : decode cX2_corner 33 = .ok (.bipush 32, 2) := by decide +kernel
theorem dX2_corner_35 : decode cX2_corner 35 = .ok (.irem, 1) := by decide +kernel
theorem dX2_corner_36 : decode cX2_corner 36 = .ok (.goto 12, 3) := by decide +kernel
theorem dX2_corner_39 : decode cX2_corner 39 = .ok (.aload_n 0, 1) := by decide +kernel
theorem dX2_corner_40 : decode cX2_corner 40 = .ok (.getfield 23, 3) := by decide +kernel
theorem dX2_corner_43 : decode cX2_corner 43 = .ok (.iload_n 1, 1) := by decide +kernel
theorem dX2_corner_44 : decode cX2_corner 44 = .ok (.iaload, 1) := by decide +kernel
theorem dX2_corner_45 : decode cX2_corner 45 = .ok (.bipush 32, 2) := by decide +kernel
theorem dX2_corner_47 : decode cX2_corner 47 = .ok (.irem, 1) := by decide +kernel
theorem dX2_corner_48 : decode cX2_corner 48 = .ok (.ireturn, 1) := by decide +kernel
set_option maxRecDepth 20000 in
theorem ggX2_put_X2_code : GoodIn wsX2_put wsX2_code := goodIn_r _ [6, 7, 8, 9, 10, 11, 12, 13] (by decide +kernel) (by decide +kernel)
set_option maxRecDepth 20000 in
theorem gX2_put_X2_code : GoodIn wsX2_put (va_wsS RX2 51 yX2_code wsX2_code) := goodIn_app (goodIn_of _ (by decide +kernel)) ggX2_put_X2_code
theorem dX2_put_0 : decode cX2_put 0 = .ok (.iload_n 1, 1) := by decide +kernel
theorem dX2_put_1 : decode cX2_put 1 = .ok (.iload_n 2, 1) := by decide +kernel
theorem dX2_put_2 : decode cX2_put 2 = .ok (.iload_n 3, 1) := by decide +kernel
theorem dX2_put_3 : decode cX2_put 3 = .ok (.invokestatic 51, 3) := by decide +kernel
theorem dX2_put_6 : decode cX2_put 6 = .ok (.istore 4, 2) := by decide +kernel
theorem dX2_put_8 : decode cX2_put 8 = .ok (.aload_n 0, 1) := by decide +kernel
theorem dX2_put_9 : decode cX2_put 9 = .ok (.getfield 55, 3) := by decide +kernel
theorem dX2_put_12 : decode cX2_put 12 = .ok (.istore 5, 2) := by decide +kernel
theorem dX2_put_14 : decode cX2_put 14 = .ok (.iload 5, 2) := by decide +kernel
theorem dX2_put_16 : decode cX2_put 16 = .ok (.ifCond .le 39, 3) := by decide +kernel
theorem dX2_put_19 : decode cX2_put 19 = .ok (.aload_n 0, 1) := by decide +kernel
theorem dX2_put_20 : decode cX2_put 20 = .ok (.getfield 23, 3) := by decide +kernel
theorem dX2_put_23 : decode cX2_put 23 = .ok (.iload 5, 2) := by decide +kernel
theorem dX2_put_25 : decode cX2_put 25 = .ok (.iconst 1, 1) := by decide +kernel
theorem dX2_put_26 : decode cX2_put 26 = .ok (.isub, 1) := by decide +kernel
theorem dX2_put_27 : decode cX2_put 27 = .ok (.iaload, 1) := by decide +kernel
theorem dX2_put_28 : decode cX2_put 28 = .ok (.iload 4, 2) := by decide +kernel
theorem dX2_put_30 : decode cX2_put 30 = .ok (.if_icmp .le 25, 3) := by decide +kernel
theorem dX2_put_33 : decode cX2_put 33 = .ok (.aload_n 0, 1) := by decide +kernel
theorem dX2_put_34 : decode cX2_put 34 = .ok (.getfield 23, 3) := by decide +kernel
theorem dX2_put_37 : decode cX2_put 37 = .ok (.iload 5, 2) := by decide +kernel
theorem dX2_put_39 : decode cX2_put 39 = .ok (.aload_n 0, 1) := by decide +kernel
theorem dX2_put_40 : decode cX2_put 40 = .ok (.getfield 23, 3) := by decide +kernel
theorem dX2_put_43 : decode cX2_put 43 = .ok (.iload 5, 2) := by decide +kernel
theorem dX2_put_45 : decode cX2_put 45 = .ok (.iconst 1, 1) := by decide +kernel
theorem dX2_put_46 : decode cX2_put 46 = .ok (.isub, 1) := by decide +kernel
theorem dX2_put_47 : decode cX2_put 47 = .ok (.iaload, 1) := by decide +kernel
theorem dX2_put_48 : decode cX2_put 48 = .ok (.iastore, 1) := by decide +kernel
theorem dX2_put_49 : decode cX2_put 49 = .ok (.iinc 5 (-1), 3) := by decide +kernel
theorem dX2_put_52 : decode cX2_put 52 = .ok (.goto (-38), 3) := by decide +kernel
theorem dX2_put_55 : decode cX2_put 55 = .ok (.aload_n 0, 1) := by decide +kernel
theorem dX2_put_56 : decode cX2_put 56 = .ok (.getfield 23, 3) := by decide +kernel
theorem dX2_put_59 : decode cX2_put 59 = .ok (.iload 5, 2) := by decide +kernel
theorem dX2_put_61 : decode cX2_put 61 = .ok (.iload 4, 2) := by decide +kernel
theorem dX2_put_63 : decode cX2_put 63 = .ok (.iastore, 1) := by decide +kernel
theorem dX2_put_64 : decode cX2_put 64 = .ok (.aload_n 0, 1) := by decide +kernel
theorem dX2_put_65 : decode cX2_put 65 = .ok (.dup, 1) := by decide +kernel
theorem dX2_put_66 : decode cX2_put 66 = .ok (.getfield 55, 3) := by decide +kernel
theorem dX2_put_69 : decode cX2_put 69 = .ok (.iconst 1, 1) := by decide +kernel
theorem dX2_put_70 : decode cX2_put 70 = .ok (.iadd, 1) := by decide +kernel
theorem dX2_put_71 : decode cX2_put 71 = .ok (.putfield 55, 3) := by decide +kernel
theorem dX2_put_74 : decode cX2_put 74 = .ok (.return_, 1) := by decide +kernel
theorem dX2_takeOut_0 : decode cX2_takeOut 0 = .ok (.iconst 0, 1) := by decide +kernel
theorem dX2_takeOut_1 : decode cX2_takeOut 1 = .ok (.istore_n 2, 1) := by decide +kernel
theorem dX2_takeOut_2 : decode cX2_takeOut 2 = .ok (.aload_n 0, 1) := by decide +kernel
theorem dX2_takeOut_3 : decode cX2_takeOut 3 = .ok (.getfield 23, 3) := by decide +kernel
theorem dX2_takeOut_6 : decode cX2_takeOut 6 = .ok (.iload_n 2, 1) := by decide +kernel
theorem dX2_takeOut_7 : decode cX2_takeOut 7 = .ok (.iaload, 1) := by decide +kernel
theorem dX2_takeOut_8 : decode cX2_takeOut 8 = .ok (.iload_n 1, 1) := by decide +kernel
theorem dX2_takeOut_9 : decode cX2_takeOut 9 = .ok (.if_icmp .eq 9, 3) := by decide +kernel
theorem dX2_takeOut_12 : decode cX2_takeOut 12 = .ok (.iinc 2 1, 3) := by decide +kernel
theorem dX2_takeOut_15 : decode cX2_takeOut 15 = .ok (.goto (-13), 3) := by decide +kernel
theorem dX2_takeOut_18 : decode cX2_takeOut 18 = .ok (.aload_n 0, 1) := by decide +kernel
theorem dX2_takeOut_19 : decode cX2_takeOut 19 = .ok (.dup, 1) := by decide +kernel
theorem dX2_takeOut_20 : decode cX2_takeOut 20 = .ok (.getfield 55, 3) := by decide +kernel
theorem dX2_takeOut_23 : decode cX2_takeOut 23 = .ok (.iconst 1, 1) := by decide +kernel
theorem dX2_takeOut_24 : decode cX2_takeOut 24 = .ok (.isub, 1) := by decide +kernel
theorem dX2_takeOut_25 : decode cX2_takeOut 25 = .ok (.putfield 55, 3) := by decide +kernel
theorem dX2_takeOut_28 : decode cX2_takeOut 28 = .ok (.aload_n 0, 1) := by decide +kernel
theorem dX2_takeOut_29 : decode cX2_takeOut 29 = .ok (.getfield 23, 3) := by decide +kernel
theorem dX2_takeOut_32 : decode cX2_takeOut 32 = .ok (.iload_n 2, 1) := by decide +kernel
theorem dX2_takeOut_33 : decode cX2_takeOut 33 = .ok (.iconst 1, 1) := by decide +kernel
theorem dX2_takeOut_34 : decode cX2_takeOut 34 = .ok (.iadd, 1) := by decide +kernel
theorem dX2_takeOut_35 : decode cX2_takeOut 35 = .ok (.aload_n 0, 1) := by decide +kernel
theorem dX2_takeOut_36 : decode cX2_takeOut 36 = .ok (.getfield 23, 3) := by decide +kernel
theorem dX2_takeOut_39 : decode cX2_takeOut 39 = .ok (.iload_n 2, 1) := by decide +kernel
theorem dX2_takeOut_40 : decode cX2_takeOut 40 = .ok (.aload_n 0, 1) := by decide +kernel
theorem dX2_takeOut_41 : decode cX2_takeOut 41 = .ok (.getfield 55, 3) := by decide +kernel
theorem dX2_takeOut_44 : decode cX2_takeOut 44 = .ok (.iload_n 2, 1) := by decide +kernel
theorem dX2_takeOut_45 : decode cX2_takeOut 45 = .ok (.isub, 1) := by decide +kernel
theorem dX2_takeOut_46 : decode cX2_takeOut 46 = .ok (.invokestatic 58, 3) := by decide +kernel
theorem dX2_takeOut_49 : decode cX2_takeOut 49 = .ok (.return_, 1) := by decide +kernel
set_option maxRecDepth 20000 in
theorem ggX2_has_X2_corner : GoodIn wsX2_has wsX2_corner := goodIn_r _ [5, 6, 7, 8, 9, 10, 11, 12, 13, 14, 15] (by decide +kernel) (by decide +kernel)
set_option maxRecDepth 20000 in
theorem gX2_has_X2_corner : GoodIn wsX2_has (wsV RX2 64 RX2 yX2_corner wsX2_corner) := goodIn_app (goodIn_of _ (by decide +kernel)) ggX2_has_X2_corner
theorem dX2_has_0 : decode cX2_has 0 = .ok (.aload_n 0, 1) := by decide +kernel
theorem dX2_has_1 : decode cX2_has 1 = .ok (.iload_n 1, 1) := by decide +kernel
theorem dX2_has_2 : decode cX2_has 2 = .ok (.iconst 0, 1) := by decide +kernel
theorem dX2_has_3 : decode cX2_has 3 = .ok (.invokevirtual 64, 3) := by decide +kernel
theorem dX2_has_6 : decode cX2_has 6 = .ok (.iload_n 2, 1) := by decide +kernel
theorem dX2_has_7 : decode cX2_has 7 = .ok (.if_icmp .eq 23, 3) := by decide +kernel
theorem dX2_has_10 : decode cX2_has 10 = .ok (.aload_n 0, 1) := by decide +kernel
theorem dX2_has_11 : decode cX2_has 11 = .ok (.iload_n 1, 1) := by decide +kernel
theorem dX2_has_12 : decode cX2_has 12 = .ok (.iconst 1, 1) := by decide +kernel
theorem dX2_has_13 : decode cX2_has 13 = .ok (.invokevirtual 64, 3) := by decide +kernel
theorem dX2_has_16 : decode cX2_has 16 = .ok (.iload_n 2, 1) := by decide +kernel
theorem dX2_has_17 : decode cX2_has 17 = .ok (.if_icmp .eq 13, 3) := by decide +kernel
theorem dX2_has_20 : decode cX2_has 20 = .ok (.aload_n 0, 1) := by decide +kernel
theorem dX2_has_21 : decode cX2_has 21 = .ok (.iload_n 1, 1) := by decide +kernel
theorem dX2_has_22 : decode cX2_has 22 = .ok (.iconst 2, 1) := by decide +kernel
theorem dX2_has_23 : decode cX2_has 23 = .ok (.invokevirtual 64, 3) := by decide +kernel
theorem dX2_has_26 : decode cX2_has 26 = .ok (.iload_n 2, 1) := by decide +kernel
theorem dX2_has_27 : decode cX2_has 27 = .ok (.if_icmp .ne 7, 3) := by decide +kernel
theorem dX2_has_30 : decode cX2_has 30 = .ok (.iconst 1, 1) := by decide +kernel
theorem dX2_has_31 : decode cX2_has 31 = .ok (.goto 4, 3) := by decide +kernel
theorem dX2_has_34 : decode cX2_has 34 = .ok (.iconst 0, 1) := by decide +kernel
theorem dX2_has_35 : decode cX2_has 35 = .ok (.ireturn, 1) := by decide +kernel
theorem dX2_area_0 : decode cX2_area 0 = .ok (.aload_n 0, 1) := by decide +kernel
theorem dX2_area_1 : decode cX2_area 1 = .ok (.getfield 13, 3) := by decide +kernel
theorem dX2_area_4 : decode cX2_area 4 = .ok (.iload_n 2, 1) := by decide +kernel
theorem dX2_area_5 : decode cX2_area 5 = .ok (.iaload, 1) := by decide +kernel
theorem dX2_area_6 : decode cX2_area 6 = .ok (.aload_n 0, 1) := by decide +kernel
theorem dX2_area_7 : decode cX2_area 7 = .ok (.getfield 13, 3) := by decide +kernel
theorem dX2_area_10 : decode cX2_area 10 = .ok (.iload_n 1, 1) := by decide +kernel
theorem dX2_area_11 : decode cX2_area 11 = .ok (.iaload, 1) := by decide +kernel
theorem dX2_area_12 : decode cX2_area 12 = .ok (.isub, 1) := by decide +kernel
theorem dX2_area_13 : decode cX2_area 13 = .ok (.iload 4, 2) := by decide +kernel
theorem dX2_area_15 : decode cX2_area 15 = .ok (.aload_n 0, 1) := by decide +kernel
theorem dX2_area_16 : decode cX2_area 16 = .ok (.getfield 17, 3) := by decide +kernel
theorem dX2_area_19 : decode cX2_area 19 = .ok (.iload_n 1, 1) := by decide +kernel
theorem dX2_area_20 : decode cX2_area 20 = .ok (.iaload, 1) := by decide +kernel
theorem dX2_area_21 : decode cX2_area 21 = .ok (.isub, 1) := by decide +kernel
theorem dX2_area_22 : decode cX2_area 22 = .ok (.imul, 1) := by decide +kernel
theorem dX2_area_23 : decode cX2_area 23 = .ok (.aload_n 0, 1) := by decide +kernel
theorem dX2_area_24 : decode cX2_area 24 = .ok (.getfield 17, 3) := by decide +kernel
theorem dX2_area_27 : decode cX2_area 27 = .ok (.iload_n 2, 1) := by decide +kernel
theorem dX2_area_28 : decode cX2_area 28 = .ok (.iaload, 1) := by decide +kernel
theorem dX2_area_29 : decode cX2_area 29 = .ok (.aload_n 0, 1) := by decide +kernel
theorem dX2_area_30 : decode cX2_area 30 = .ok (.getfield 17, 3) := by decide +kernel
theorem dX2_area_33 : decode cX2_area 33 = .ok (.iload_n 1, 1) := by decide +kernel
theorem dX2_area_34 : decode cX2_area 34 = .ok (.iaload, 1) := by decide +kernel
theorem dX2_area_35 : decode cX2_area 35 = .ok (.isub, 1) := by decide +kernel
theorem dX2_area_36 : decode cX2_area 36 = .ok (.iload_n 3, 1) := by decide +kernel
theorem dX2_area_37 : decode cX2_area 37 = .ok (.aload_n 0, 1) := by decide +kernel
theorem dX2_area_38 : decode cX2_area 38 = .ok (.getfield 13, 3) := by decide +kernel
theorem dX2_area_41 : decode cX2_area 41 = .ok (.iload_n 1, 1) := by decide +kernel
theorem dX2_area_42 : decode cX2_area 42 = .ok (.iaload, 1) := by decide +kernel
theorem dX2_area_43 : decode cX2_area 43 = .ok (.isub, 1) := by decide +kernel
theorem dX2_area_44 : decode cX2_area 44 = .ok (.imul, 1) := by decide +kernel
theorem dX2_area_45 : decode cX2_area 45 = .ok (.isub, 1) := by decide +kernel
theorem dX2_area_46 : decode cX2_area 46 = .ok (.ireturn, 1) := by decide +kernel
set_option maxRecDepth 20000 in
theorem ggX2_areaOf_X2_corner : GoodIn wsX2_areaOf wsX2_corner := goodIn_r _ [11, 12, 17, 18, 19, 20, 21, 22, 23, 24, 25] (by decide +kernel) (by decide +kernel)
set_option maxRecDepth 20000 in
theorem gX2_areaOf_X2_corner : GoodIn wsX2_areaOf (wsV RX2 64 RX2 yX2_corner wsX2_corner) := goodIn_app (goodIn_of _ (by decide +kernel)) ggX2_areaOf_X2_corner
set_option maxRecDepth 20000 in
theorem ggX2_areaOf_X2_area : GoodIn wsX2_areaOf wsX2_area := goodIn_r _ [16, 1, 2, 17, 18, 19, 20, 21, 22, 23, 24, 25] (by decide +kernel) (by decide +kernel)
set_option maxRecDepth 20000 in
theorem gX2_areaOf_X2_area : GoodIn wsX2_areaOf (wsV RX2 67 RX2 yX2_area wsX2_area) := goodIn_app (goodIn_of _ (by decide +kernel)) ggX2_areaOf_X2_area
theorem dX2_areaOf_0 : decode cX2_areaOf 0 = .ok (.aload_n 0, 1) := by decide +kernel
theorem dX2_areaOf_1 : decode cX2_areaOf 1 = .ok (.aload_n 0, 1) := by decide +kernel
theorem dX2_areaOf_2 : decode cX2_areaOf 2 = .ok (.iload_n 1, 1) := by decide +kernel
theorem dX2_areaOf_3 : decode cX2_areaOf 3 = .ok (.iconst 0, 1) := by decide +kernel
theorem dX2_areaOf_4 : decode cX2_areaOf 4 = .ok (.invokevirtual 64, 3) := by decide +kernel
theorem dX2_areaOf_7 : decode cX2_areaOf 7 = .ok (.aload_n 0, 1) := by decide +kernel
theorem dX2_areaOf_8 : decode cX2_areaOf 8 = .ok (.iload_n 1, 1) := by decide +kernel
theorem dX2_areaOf_9 : decode cX2_areaOf 9 = .ok (.iconst 1, 1) := by decide +kernel
theorem dX2_areaOf_10 : decode cX2_areaOf 10 = .ok (.invokevirtual 64, 3) := by decide +kernel
theorem dX2_areaOf_13 : decode cX2_areaOf 13 = .ok (.aload_n 0, 1) := by decide +kernel
theorem dX2_areaOf_14 : decode cX2_areaOf 14 = .ok (.getfield 13, 3) := by decide +kernel
theorem dX2_areaOf_17 : decode cX2_areaOf 17 = .ok (.aload_n 0, 1) := by decide +kernel
theorem dX2_areaOf_18 : decode cX2_areaOf 18 = .ok (.iload_n 1, 1) := by decide +kernel
theorem dX2_areaOf_19 : decode cX2_areaOf 19 = .ok (.iconst 2, 1) := by decide +kernel
theorem dX2_areaOf_20 : decode cX2_areaOf 20 = .ok (.invokevirtual 64, 3) := by decide +kernel
theorem dX2_areaOf_23 : decode cX2_areaOf 23 = .ok (.iaload, 1) := by decide +kernel
theorem dX2_areaOf_24 : decode cX2_areaOf 24 = .ok (.aload_n 0, 1) := by decide +kernel
theorem dX2_areaOf_25 : decode cX2_areaOf 25 = .ok (.getfield 17, 3) := by decide +kernel
theorem dX2_areaOf_28 : decode cX2_areaOf 28 = .ok (.aload_n 0, 1) := by decide +kernel
theorem dX2_areaOf_29 : decode cX2_areaOf 29 = .ok (.iload_n 1, 1) := by decide +kernel
theorem dX2_areaOf_30 : decode cX2_areaOf 30 = .ok (.iconst 2, 1) := by decide +kernel
theorem dX2_areaOf_31 : decode cX2_areaOf 31 = .ok (.invokevirtual 64, 3) := by decide +kernel
theorem dX2_areaOf_34 : decode cX2_areaOf 34 = .ok (.iaload, 1) := by decide +kernel
theorem dX2_areaOf_35 : decode cX2_areaOf 35 = .ok (.invokevirtual 67, 3) := by decide +kernel
theorem dX2_areaOf_38 : decode cX2_areaOf 38 = .ok (.invokestatic 71, 3) := by decide +kernel
theorem dX2_areaOf_41 : decode cX2_areaOf 41 = .ok (.ireturn, 1) := by decide +kernel
set_option maxRecDepth 20000 in
theorem ggX2_far_X2_has : GoodIn wsX2_far wsX2_has := goodIn_r _ [5, 6, 7, 8, 4, 9, 10, 11, 12, 13, 14, 15, 16, 17, 18, 19] (by decide +kernel) (by decide +kernel)
set_option maxRecDepth 20000 in
theorem gX2_far_X2_has : GoodIn wsX2_far (wsV RX2 75 RX2 yX2_has wsX2_has) := goodIn_app (goodIn_of _ (by decide +kernel)) ggX2_far_X2_has
set_option maxRecDepth 20000 in
theorem ggX2_far_X2_corner : GoodIn wsX2_far wsX2_corner := goodIn_r _ [9, 10, 11, 12, 13, 14, 15, 16, 17, 18, 19] (by decide +kernel) (by decide +kernel)
set_option maxRecDepth 20000 in
theorem gX2_far_X2_corner : GoodIn wsX2_far (wsV RX2 64 RX2 yX2_corner wsX2_corner) := goodIn_app (goodIn_of _ (by decide +kernel)) ggX2_far_X2_corner
theorem dX2_far_0 : decode cX2_far 0 = .ok (.iload_n 2, 1) := by decide +kernel
theorem dX2_far_1 : decode cX2_far 1 = .ok (.iload_n 3, 1) := by decide +kernel
theorem dX2_far_2 : decode cX2_far 2 = .ok (.if_icmp .eq 48, 3) := by decide +kernel
theorem dX2_far_5 : decode cX2_far 5 = .ok (.aload_n 0, 1) := by decide +kernel
theorem dX2_far_6 : decode cX2_far 6 = .ok (.iload_n 1, 1) := by decide +kernel
theorem dX2_far_7 : decode cX2_far 7 = .ok (.iload_n 2, 1) := by decide +kernel
theorem dX2_far_8 : decode cX2_far 8 = .ok (.invokevirtual 75, 3) := by decide +kernel
theorem dX2_far_11 : decode cX2_far 11 = .ok (.ifCond .eq 39, 3) := by decide +kernel
theorem dX2_far_14 : decode cX2_far 14 = .ok (.aload_n 0, 1) := by decide +kernel
theorem dX2_far_15 : decode cX2_far 15 = .ok (.iload_n 1, 1) := by decide +kernel
theorem dX2_far_16 : decode cX2_far 16 = .ok (.iload_n 3, 1) := by decide +kernel
theorem dX2_far_17 : decode cX2_far 17 = .ok (.invokevirtual 75, 3) := by decide +kernel
theorem dX2_far_20 : decode cX2_far 20 = .ok (.ifCond .eq 30, 3) := by decide +kernel
theorem dX2_far_23 : decode cX2_far 23 = .ok (.aload_n 0, 1) := by decide +kernel
theorem dX2_far_24 : decode cX2_far 24 = .ok (.iload_n 1, 1) := by decide +kernel
theorem dX2_far_25 : decode cX2_far 25 = .ok (.iconst 0, 1) := by decide +kernel
theorem dX2_far_26 : decode cX2_far 26 = .ok (.invokevirtual 64, 3) := by decide +kernel
theorem dX2_far_29 : decode cX2_far 29 = .ok (.aload_n 0, 1) := by decide +kernel
theorem dX2_far_30 : decode cX2_far 30 = .ok (.iload_n 1, 1) := by decide +kernel
theorem dX2_far_31 : decode cX2_far 31 = .ok (.iconst 1, 1) := by decide +kernel
theorem dX2_far_32 : decode cX2_far 32 = .ok (.invokevirtual 64, 3) := by decide +kernel
theorem dX2_far_35 : decode cX2_far 35 = .ok (.iadd, 1) := by decide +kernel
theorem dX2_far_36 : decode cX2_far 36 = .ok (.aload_n 0, 1) := by decide +kernel
theorem dX2_far_37 : decode cX2_far 37 = .ok (.iload_n 1, 1) := by decide +kernel
theorem dX2_far_38 : decode cX2_far 38 = .ok (.iconst 2, 1) := by decide +kernel
theorem dX2_far_39 : decode cX2_far 39 = .ok (.invokevirtual 64, 3) := by decide +kernel
theorem dX2_far_42 : decode cX2_far 42 = .ok (.iadd, 1) := by decide +kernel
theorem dX2_far_43 : decode cX2_far 43 = .ok (.iload_n 2, 1) := by decide +kernel
theorem dX2_far_44 : decode cX2_far 44 = .ok (.isub, 1) := by decide +kernel
theorem dX2_far_45 : decode cX2_far 45 = .ok (.iload_n 3, 1) := by decide +kernel
theorem dX2_far_46 : decode cX2_far 46 = .ok (.isub, 1) := by decide +kernel
theorem dX2_far_47 : decode cX2_far 47 = .ok (.goto 4, 3) := by decide +kernel
theorem dX2_far_50 : decode cX2_far 50 = .ok (.iconst (-1), 1) := by decide +kernel
theorem dX2_far_51 : decode cX2_far 51 = .ok (.ireturn, 1) := by decide +kernel
set_option maxRecDepth 20000 in
theorem ggX2_sides_X2_far : GoodIn wsX2_sides wsX2_far := goodIn_r _ [6, 7, 8, 9, 5, 10, 11, 12, 13, 14, 15, 16, 17, 18, 19, 20, 21, 22, 23, 24] (by decide +kernel) (by decide +kernel)
set_option maxRecDepth 20000 in
theorem gX2_sides_X2_far : GoodIn wsX2_sides (wsV RX2 79 RX2 yX2_far wsX2_far) := goodIn_app (goodIn_of _ (by decide +kernel)) ggX2_sides_X2_far
theorem dX2_sides_0 : decode cX2_sides 0 = .ok (.iconst 0, 1) := by decide +kernel
theorem dX2_sides_1 : decode cX2_sides 1 = .ok (.istore_n 3, 1) := by decide +kernel
theorem dX2_sides_2 : decode cX2_sides 2 = .ok (.iconst 0, 1) := by decide +kernel
theorem dX2_sides_3 : decode cX2_sides 3 = .ok (.istore 4, 2) := by decide +kernel
theorem dX2_sides_5 : decode cX2_sides 5 = .ok (.iload 4, 2) := by decide +kernel
theorem dX2_sides_7 : decode cX2_sides 7 = .ok (.aload_n 0, 1) := by decide +kernel
theorem dX2_sides_8 : decode cX2_sides 8 = .ok (.getfield 55, 3) := by decide +kernel
theorem dX2_sides_11 : decode cX2_sides 11 = .ok (.if_icmp .ge 29, 3) := by decide +kernel
theorem dX2_sides_14 : decode cX2_sides 14 = .ok (.iload_n 3, 1) := by decide +kernel
theorem dX2_sides_15 : decode cX2_sides 15 = .ok (.aload_n 0, 1) := by decide +kernel
theorem dX2_sides_16 : decode cX2_sides 16 = .ok (.iload 4, 2) := by decide +kernel
theorem dX2_sides_18 : decode cX2_sides 18 = .ok (.iload_n 1, 1) := by decide +kernel
theorem dX2_sides_19 : decode cX2_sides 19 = .ok (.iload_n 2, 1) := by decide +kernel
theorem dX2_sides_20 : decode cX2_sides 20 = .ok (.invokevirtual 79, 3) := by decide +kernel
theorem dX2_sides_23 : decode cX2_sides 23 = .ok (.iconst (-1), 1) := by decide +kernel
theorem dX2_sides_24 : decode cX2_sides 24 = .ok (.if_icmp .ne 7, 3) := by decide +kernel
theorem dX2_sides_27 : decode cX2_sides 27 = .ok (.iconst 0, 1) := by decide +kernel
theorem dX2_sides_28 : decode cX2_sides 28 = .ok (.goto 4, 3) := by decide +kernel
theorem dX2_sides_31 : decode cX2_sides 31 = .ok (.iconst 1, 1) := by decide +kernel
theorem dX2_sides_32 : decode cX2_sides 32 = .ok (.iadd, 1) := by decide +kernel
theorem dX2_sides_33 : decode cX2_sides 33 = .ok (.istore_n 3, 1) := by decide +kernel
theorem dX2_sides_34 : decode cX2_sides 34 = .ok (.iinc 4 1, 3) := by decide +kernel
theorem dX2_sides_37 : decode cX2_sides 37 = .ok (.goto (-32), 3) := by decide +kernel
theorem dX2_sides_40 : decode cX2_sides 40 = .ok (.iload_n 3, 1) := by decide +kernel
theorem dX2_sides_41 : decode cX2_sides 41 = .ok (.ireturn, 1) := by decide +kernel
set_option maxRecDepth 20000 in
theorem ggX2_far__X2_far : GoodIn wsX2_far_ wsX2_far := goodIn_r _ [6, 7, 8, 9, 5, 10, 11, 12, 13, 14, 15, 16, 17, 18, 19, 20, 21, 22, 23, 24] (by decide +kernel) (by decide +kernel)
set_option maxRecDepth 20000 in
theorem gX2_far__X2_far : GoodIn wsX2_far_ (wsV RX2 79 RX2 yX2_far wsX2_far) := goodIn_app (goodIn_of _ (by decide +kernel)) ggX2_far__X2_far
theorem dX2_far__0 : decode cX2_far_ 0 = .ok (.iconst (-1), 1) := by decide +kernel
theorem dX2_far__1 : decode cX2_far_ 1 = .ok (.istore 4, 2) := by decide +kernel
theorem dX2_far__3 : decode cX2_far_ 3 = .ok (.iconst 0, 1) := by decide +kernel
theorem dX2_far__4 : decode cX2_far_ 4 = .ok (.istore 5, 2) := by decide +kernel
theorem dX2_far__6 : decode cX2_far_ 6 = .ok (.iload 5, 2) := by decide +kernel
theorem dX2_far__8 : decode cX2_far_ 8 = .ok (.aload_n 0, 1) := by decide +kernel
theorem dX2_far__9 : decode cX2_far_ 9 = .ok (.getfield 55, 3) := by decide +kernel
theorem dX2_far__12 : decode cX2_far_ 12 = .ok (.if_icmp .ge 41, 3) := by decide +kernel
theorem dX2_far__15 : decode cX2_far_ 15 = .ok (.aload_n 0, 1) := by decide +kernel
theorem dX2_far__16 : decode cX2_far_ 16 = .ok (.iload 5, 2) := by decide +kernel
theorem dX2_far__18 : decode cX2_far_ 18 = .ok (.iload_n 1, 1) := by decide +kernel
theorem dX2_far__19 : decode cX2_far_ 19 = .ok (.iload_n 2, 1) := by decide +kernel
theorem dX2_far__20 : decode cX2_far_ 20 = .ok (.invokevirtual 79, 3) := by decide +kernel
theorem dX2_far__23 : decode cX2_far_ 23 = .ok (.iconst (-1), 1) := by decide +kernel
theorem dX2_far__24 : decode cX2_far_ 24 = .ok (.if_icmp .eq 23, 3) := by decide +kernel
theorem dX2_far__27 : decode cX2_far_ 27 = .ok (.iload_n 3, 1) := by decide +kernel
theorem dX2_far__28 : decode cX2_far_ 28 = .ok (.ifCond .eq 9, 3) := by decide +kernel
theorem dX2_far__31 : decode cX2_far_ 31 = .ok (.iload 4, 2) := by decide +kernel
theorem dX2_far__33 : decode cX2_far_ 33 = .ok (.iconst (-1), 1) := by decide +kernel
theorem dX2_far__34 : decode cX2_far_ 34 = .ok (.if_icmp .ne 13, 3) := by decide +kernel
theorem dX2_far__37 : decode cX2_far_ 37 = .ok (.aload_n 0, 1) := by decide +kernel
theorem dX2_far__38 : decode cX2_far_ 38 = .ok (.iload 5, 2) := by decide +kernel
theorem dX2_far__40 : decode cX2_far_ 40 = .ok (.iload_n 1, 1) := by decide +kernel
theorem dX2_far__41 : decode cX2_far_ 41 = .ok (.iload_n 2, 1) := by decide +kernel
theorem dX2_far__42 : decode cX2_far_ 42 = .ok (.invokevirtual 79, 3) := by decide +kernel
theorem dX2_far__45 : decode cX2_far_ 45 = .ok (.istore 4, 2) := by decide +kernel
theorem dX2_far__47 : decode cX2_far_ 47 = .ok (.iinc 5 1, 3) := by decide +kernel
theorem dX2_far__50 : decode cX2_far_ 50 = .ok (.goto (-44), 3) := by decide +kernel
theorem dX2_far__53 : decode cX2_far_ 53 = .ok (.iload 4, 2) := by decide +kernel
theorem dX2_far__55 : decode cX2_far_ 55 = .ok (.ireturn, 1) := by decide +kernel
set_option maxRecDepth 20000 in
theorem ggX2_isWithin_X2_area : GoodIn wsX2_isWithin wsX2_area := goodIn_r _ [7, 1, 2, 8, 9, 10, 11, 12, 13, 14, 15, 16] (by decide +kernel) (by decide +kernel)
set_option maxRecDepth 20000 in
theorem gX2_isWithin_X2_area : GoodIn wsX2_isWithin (wsV RX2 67 RX2 yX2_area wsX2_area) := goodIn_app (goodIn_of _ (by decide +kernel)) ggX2_isWithin_X2_area
theorem dX2_isWithin_0 : decode cX2_isWithin 0 = .ok (.aload_n 0, 1) := by decide +kernel
theorem dX2_isWithin_1 : decode cX2_isWithin 1 = .ok (.getfield 13, 3) := by decide +kernel
theorem dX2_isWithin_4 : decode cX2_isWithin 4 = .ok (.iload_n 1, 1) := by decide +kernel
theorem dX2_isWithin_5 : decode cX2_isWithin 5 = .ok (.iaload, 1) := by decide +kernel
theorem dX2_isWithin_6 : decode cX2_isWithin 6 = .ok (.iload 4, 2) := by decide +kernel
theorem dX2_isWithin_8 : decode cX2_isWithin 8 = .ok (.isub, 1) := by decide +kernel
theorem dX2_isWithin_9 : decode cX2_isWithin 9 = .ok (.istore 6, 2) := by decide +kernel
theorem dX2_isWithin_11 : decode cX2_isWithin 11 = .ok (.aload_n 0, 1) := by decide +kernel
theorem dX2_isWithin_12 : decode cX2_isWithin 12 = .ok (.getfield 17, 3) := by decide +kernel
theorem dX2_isWithin_15 : decode cX2_isWithin 15 = .ok (.iload_n 1, 1) := by decide +kernel
theorem dX2_isWithin_16 : decode cX2_isWithin 16 = .ok (.iaload, 1) := by decide +kernel
theorem dX2_isWithin_17 : decode cX2_isWithin 17 = .ok (.iload 5, 2) := by decide +kernel
theorem dX2_isWithin_19 : decode cX2_isWithin 19 = .ok (.isub, 1) := by decide +kernel
theorem dX2_isWithin_20 : decode cX2_isWithin 20 = .ok (.istore 7, 2) := by decide +kernel
theorem dX2_isWithin_22 : decode cX2_isWithin 22 = .ok (.aload_n 0, 1) := by decide +kernel
theorem dX2_isWithin_23 : decode cX2_isWithin 23 = .ok (.getfield 13, 3) := by decide +kernel
theorem dX2_isWithin_26 : decode cX2_isWithin 26 = .ok (.iload_n 2, 1) := by decide +kernel
theorem dX2_isWithin_27 : decode cX2_isWithin 27 = .ok (.iaload, 1) := by decide +kernel
theorem dX2_isWithin_28 : decode cX2_isWithin 28 = .ok (.iload 4, 2) := by decide +kernel
theorem dX2_isWithin_30 : decode cX2_isWithin 30 = .ok (.isub, 1) := by decide +kernel
theorem dX2_isWithin_31 : decode cX2_isWithin 31 = .ok (.istore 8, 2) := by decide +kernel
theorem dX2_isWithin_33 : decode cX2_isWithin 33 = .ok (.aload_n 0, 1) := by decide +kernel
theorem dX2_isWithin_34 : decode cX2_isWithin 34 = .ok (.getfield 17, 3) := by decide +kernel
theorem dX2_isWithin_37 : decode cX2_isWithin 37 = .ok (.iload_n 2, 1) := by decide +kernel
theorem dX2_isWithin_38 : decode cX2_isWithin 38 = .ok (.iaload, 1) := by decide +kernel
theorem dX2_isWithin_39 : decode cX2_isWithin 39 = .ok (.iload 5, 2) := by decide +kernel
theorem dX2_isWithin_41 : decode cX2_isWithin 41 = .ok (.isub, 1) := by decide +kernel
theorem dX2_isWithin_42 : decode cX2_isWithin 42 = .ok (.istore 9, 2) := by decide +kernel
theorem dX2_isWithin_44 : decode cX2_isWithin 44 = .ok (.aload_n 0, 1) := by decide +kernel
theorem dX2_isWithin_45 : decode cX2_isWithin 45 = .ok (.getfield 13, 3) := by decide +kernel
theorem dX2_isWithin_48 : decode cX2_isWithin 48 = .ok (.iload_n 3, 1) := by decide +kernel
theorem dX2_isWithin_49 : decode cX2_isWithin 49 = .ok (.iaload, 1) := by decide +kernel
theorem dX2_isWithin_50 : decode cX2_isWithin 50 = .ok (.iload 4, 2) := by decide +kernel
theorem dX2_isWithin_52 : decode cX2_isWithin 52 = .ok (.isub, 1) := by decide +kernel
theorem dX2_isWithin_53 : decode cX2_isWithin 53 = .ok (.istore 10, 2) := by decide +kernel
theorem dX2_isWithin_55 : decode cX2_isWithin 55 = .ok (.aload_n 0, 1) := by decide +kernel
theorem dX2_isWithin_56 : decode cX2_isWithin 56 = .ok (.getfield 17, 3) := by decide +kernel
theorem dX2_isWithin_59 : decode cX2_isWithin 59 = .ok (.iload_n 3, 1) := by decide +kernel
theorem dX2_isWithin_60 : decode cX2_isWithin 60 = .ok (.iaload, 1) := by decide +kernel
theorem dX2_isWithin_61 : decode cX2_isWithin 61 = .ok (.iload 5, 2) := by decide +kernel
theorem dX2_isWithin_63 : decode cX2_isWithin 63 = .ok (.isub, 1) := by decide +kernel
theorem dX2_isWithin_64 : decode cX2_isWithin 64 = .ok (.istore 11, 2) := by decide +kernel
theorem dX2_isWithin_66 : decode cX2_isWithin 66 = .ok (.iload 6, 2) := by decide +kernel
theorem dX2_isWithin_68 : decode cX2_isWithin 68 = .ok (.iload 6, 2) := by decide +kernel
theorem dX2_isWithin_70 : decode cX2_isWithin 70 = .ok (.imul, 1) := by decide +kernel
theorem dX2_isWithin_71 : decode cX2_isWithin 71 = .ok (.iload 7, 2) := by decide +kernel
theorem dX2_isWithin_73 : decode cX2_isWithin 73 = .ok (.iload 7, 2) := by decide +kernel
theorem dX2_isWithin_75 : decode cX2_isWithin 75 = .ok (.imul, 1) := by decide +kernel
theorem dX2_isWithin_76 : decode cX2_isWithin 76 = .ok (.iadd, 1) := by decide +kernel
theorem dX2_isWithin_77 : decode cX2_isWithin 77 = .ok (.iload 8, 2) := by decide +kernel
theorem dX2_isWithin_79 : decode cX2_isWithin 79 = .ok (.iload 11, 2) := by decide +kernel
theorem dX2_isWithin_81 : decode cX2_isWithin 81 = .ok (.imul, 1) := by decide +kernel
theorem dX2_isWithin_82 : decode cX2_isWithin 82 = .ok (.iload 10, 2) := by decide +kernel
theorem dX2_isWithin_84 : decode cX2_isWithin 84 = .ok (.iload 9, 2) := by decide +kernel
theorem dX2_isWithin_86 : decode cX2_isWithin 86 = .ok (.imul, 1) := by decide +kernel
theorem dX2_isWithin_87 : decode cX2_isWithin 87 = .ok (.isub, 1) := by decide +kernel
theorem dX2_isWithin_88 : decode cX2_isWithin 88 = .ok (.imul, 1) := by decide +kernel
theorem dX2_isWithin_89 : decode cX2_isWithin 89 = .ok (.iload 8, 2) := by decide +kernel
theorem dX2_isWithin_91 : decode cX2_isWithin 91 = .ok (.iload 8, 2) := by decide +kernel
theorem dX2_isWithin_93 : decode cX2_isWithin 93 = .ok (.imul, 1) := by decide +kernel
theorem dX2_isWithin_94 : decode cX2_isWithin 94 = .ok (.iload 9, 2) := by decide +kernel
theorem dX2_isWithin_96 : decode cX2_isWithin 96 = .ok (.iload 9, 2) := by decide +kernel
theorem dX2_isWithin_98 : decode cX2_isWithin 98 = .ok (.imul, 1) := by decide +kernel
theorem dX2_isWithin_99 : decode cX2_isWithin 99 = .ok (.iadd, 1) := by decide +kernel
theorem dX2_isWithin_100 : decode cX2_isWithin 100 = .ok (.iload 6, 2) := by decide +kernel
theorem dX2_isWithin_102 : decode cX2_isWithin 102 = .ok (.iload 11, 2) := by decide +kernel
theorem dX2_isWithin_104 : decode cX2_isWithin 104 = .ok (.imul, 1) := by decide +kernel
theorem dX2_isWithin_105 : decode cX2_isWithin 105 = .ok (.iload 10, 2) := by decide +kernel
theorem dX2_isWithin_107 : decode cX2_isWithin 107 = .ok (.iload 7, 2) := by decide +kernel
theorem dX2_isWithin_109 : decode cX2_isWithin 109 = .ok (.imul, 1) := by decide +kernel
theorem dX2_isWithin_110 : decode cX2_isWithin 110 = .ok (.isub, 1) := by decide +kernel
theorem dX2_isWithin_111 : decode cX2_isWithin 111 = .ok (.imul, 1) := by decide +kernel
theorem dX2_isWithin_112 : decode cX2_isWithin 112 = .ok (.isub, 1) := by decide +kernel
theorem dX2_isWithin_113 : decode cX2_isWithin 113 = .ok (.iload 10, 2) := by decide +kernel
theorem dX2_isWithin_115 : decode cX2_isWithin 115 = .ok (.iload 10, 2) := by decide +kernel
theorem dX2_isWithin_117 : decode cX2_isWithin 117 = .ok (.imul, 1) := by decide +kernel
theorem dX2_isWithin_118 : decode cX2_isWithin 118 = .ok (.iload 11, 2) := by decide +kernel
theorem dX2_isWithin_120 : decode cX2_isWithin 120 = .ok (.iload 11, 2) := by decide +kernel
theorem dX2_isWithin_122 : decode cX2_isWithin 122 = .ok (.imul, 1) := by decide +kernel
theorem dX2_isWithin_123 : decode cX2_isWithin 123 = .ok (.iadd, 1) := by decide +kernel
theorem dX2_isWithin_124 : decode cX2_isWithin 124 = .ok (.iload 6, 2) := by decide +kernel
theorem dX2_isWithin_126 : decode cX2_isWithin 126 = .ok (.iload 9, 2) := by decide +kernel
theorem dX2_isWithin_128 : decode cX2_isWithin 128 = .ok (.imul, 1) := by decide +kernel
theorem dX2_isWithin_129 : decode cX2_isWithin 129 = .ok (.iload 8, 2) := by decide +kernel
theorem dX2_isWithin_131 : decode cX2_isWithin 131 = .ok (.iload 7, 2) := by decide +kernel
theorem dX2_isWithin_133 : decode cX2_isWithin 133 = .ok (.imul, 1) := by decide +kernel
theorem dX2_isWithin_134 : decode cX2_isWithin 134 = .ok (.isub, 1) := by decide +kernel
theorem dX2_isWithin_135 : decode cX2_isWithin 135 = .ok (.imul, 1) := by decide +kernel
theorem dX2_isWithin_136 : decode cX2_isWithin 136 = .ok (.iadd, 1) := by decide +kernel
theorem dX2_isWithin_137 : decode cX2_isWithin 137 = .ok (.istore 12, 2) := by decide +kernel
theorem dX2_isWithin_139 : decode cX2_isWithin 139 = .ok (.aload_n 0, 1) := by decide +kernel
theorem dX2_isWithin_140 : decode cX2_isWithin 140 = .ok (.iload_n 1, 1) := by decide +kernel
theorem dX2_isWithin_141 : decode cX2_isWithin 141 = .ok (.iload_n 2, 1) := by decide +kernel
theorem dX2_isWithin_142 : decode cX2_isWithin 142 = .ok (.aload_n 0, 1) := by decide +kernel
theorem dX2_isWithin_143 : decode cX2_isWithin 143 = .ok (.getfield 13, 3) := by decide +kernel
theorem dX2_isWithin_146 : decode cX2_isWithin 146 = .ok (.iload_n 3, 1) := by decide +kernel
theorem dX2_isWithin_147 : decode cX2_isWithin 147 = .ok (.iaload, 1) := by decide +kernel
theorem dX2_isWithin_148 : decode cX2_isWithin 148 = .ok (.aload_n 0, 1) := by decide +kernel
theorem dX2_isWithin_149 : decode cX2_isWithin 149 = .ok (.getfield 17, 3) := by decide +kernel
theorem dX2_isWithin_152 : decode cX2_isWithin 152 = .ok (.iload_n 3, 1) := by decide +kernel
theorem dX2_isWithin_153 : decode cX2_isWithin 153 = .ok (.iaload, 1) := by decide +kernel
theorem dX2_isWithin_154 : decode cX2_isWithin 154 = .ok (.invokevirtual 67, 3) := by decide +kernel
theorem dX2_isWithin_157 : decode cX2_isWithin 157 = .ok (.ifCond .le 16, 3) := by decide +kernel
theorem dX2_isWithin_160 : decode cX2_isWithin 160 = .ok (.iload 12, 2) := by decide +kernel
theorem dX2_isWithin_162 : decode cX2_isWithin 162 = .ok (.ifCond .le 7, 3) := by decide +kernel
theorem dX2_isWithin_165 : decode cX2_isWithin 165 = .ok (.iconst 1, 1) := by decide +kernel
theorem dX2_isWithin_166 : decode cX2_isWithin 166 = .ok (.goto 17, 3) := by decide +kernel
theorem dX2_isWithin_169 : decode cX2_isWithin 169 = .ok (.iconst 0, 1) := by decide +kernel
theorem dX2_isWithin_170 : decode cX2_isWithin 170 = .ok (.goto 13, 3) := by decide +kernel
theorem dX2_isWithin_173 : decode cX2_isWithin 173 = .ok (.iload 12, 2) := by decide +kernel
theorem dX2_isWithin_175 : decode cX2_isWithin 175 = .ok (.ifCond .ge 7, 3) := by decide +kernel
theorem dX2_isWithin_178 : decode cX2_isWithin 178 = .ok (.iconst 1, 1) := by decide +kernel
theorem dX2_isWithin_179 : decode cX2_isWithin 179 = .ok (.goto 4, 3) := by decide +kernel
theorem dX2_isWithin_182 : decode cX2_isWithin 182 = .ok (.iconst 0, 1) := by decide +kernel
theorem dX2_isWithin_183 : decode cX2_isWithin 183 = .ok (.ireturn, 1) := by decide +kernel
set_option maxRecDepth 20000 in
theorem ggX2_isUnfair_X2_sides : GoodIn wsX2_isUnfair wsX2_sides := goodIn_r _ [7, 8, 9, 10, 11, 6, 12, 13, 14, 15, 16, 17, 18, 19, 20, 21, 34, 35, 36, 37, 38, 39, 40, 41, 42] (by decide +kernel) (by decide +kernel)
set_option maxRecDepth 20000 in
theorem gX2_isUnfair_X2_sides : GoodIn wsX2_isUnfair (wsV RX2 82 RX2 yX2_sides wsX2_sides) := goodIn_app (goodIn_of _ (by decide +kernel)) ggX2_isUnfair_X2_sides
set_option maxRecDepth 20000 in
theorem ggX2_isUnfair_X2_far_ : GoodIn wsX2_isUnfair wsX2_far_ := goodIn_r _ [25, 8, 9, 10, 11, 6, 12, 13, 14, 15, 16, 17, 18, 19, 20, 21, 34, 35, 36, 37, 38, 39, 40, 41, 42] (by decide +kernel) (by decide +kernel)
set_option maxRecDepth 20000 in
theorem gX2_isUnfair_X2_far_ : GoodIn wsX2_isUnfair (wsV RX2 85 RX2 yX2_far_ wsX2_far_) := goodIn_app (goodIn_of _ (by decide +kernel)) ggX2_isUnfair_X2_far_
set_option maxRecDepth 20000 in
theorem ggX2_isUnfair_X2_isWithin : GoodIn wsX2_isUnfair wsX2_isWithin := goodIn_r _ [29, 1, 2, 30, 31, 32, 6, 33, 34, 35, 36, 37, 38, 39, 40, 41, 42] (by decide +kernel) (by decide +kernel)
set_option maxRecDepth 20000 in
theorem gX2_isUnfair_X2_isWithin : GoodIn wsX2_isUnfair (wsV RX2 88 RX2 yX2_isWithin wsX2_isWithin) := goodIn_app (goodIn_of _ (by decide +kernel)) ggX2_isUnfair_X2_isWithin
theorem dX2_isUnfair_0 : decode cX2_isUnfair 0 = .ok (.aload_n 0, 1) := by decide +kernel
theorem dX2_isUnfair_1 : decode cX2_isUnfair 1 = .ok (.iload_n 1, 1) := by decide +kernel
theorem dX2_isUnfair_2 : decode cX2_isUnfair 2 = .ok (.iload_n 2, 1) := by decide +kernel
theorem dX2_isUnfair_3 : decode cX2_isUnfair 3 = .ok (.invokevirtual 82, 3) := by decide +kernel
theorem dX2_isUnfair_6 : decode cX2_isUnfair 6 = .ok (.iconst 2, 1) := by decide +kernel
theorem dX2_isUnfair_7 : decode cX2_isUnfair 7 = .ok (.if_icmp .eq 5, 3) := by decide +kernel
theorem dX2_isUnfair_10 : decode cX2_isUnfair 10 = .ok (.iconst 0, 1) := by decide +kernel
theorem dX2_isUnfair_11 : decode cX2_isUnfair 11 = .ok (.ireturn, 1) := by decide +kernel
theorem dX2_isUnfair_12 : decode cX2_isUnfair 12 = .ok (.aload_n 0, 1) := by decide +kernel
theorem dX2_isUnfair_13 : decode cX2_isUnfair 13 = .ok (.iload_n 1, 1) := by decide +kernel
theorem dX2_isUnfair_14 : decode cX2_isUnfair 14 = .ok (.iload_n 2, 1) := by decide +kernel
theorem dX2_isUnfair_15 : decode cX2_isUnfair 15 = .ok (.iconst 0, 1) := by decide +kernel
theorem dX2_isUnfair_16 : decode cX2_isUnfair 16 = .ok (.invokevirtual 85, 3) := by decide +kernel
theorem dX2_isUnfair_19 : decode cX2_isUnfair 19 = .ok (.istore_n 3, 1) := by decide +kernel
theorem dX2_isUnfair_20 : decode cX2_isUnfair 20 = .ok (.aload_n 0, 1) := by decide +kernel
theorem dX2_isUnfair_21 : decode cX2_isUnfair 21 = .ok (.iload_n 1, 1) := by decide +kernel
theorem dX2_isUnfair_22 : decode cX2_isUnfair 22 = .ok (.iload_n 2, 1) := by decide +kernel
theorem dX2_isUnfair_23 : decode cX2_isUnfair 23 = .ok (.aload_n 0, 1) := by decide +kernel
theorem dX2_isUnfair_24 : decode cX2_isUnfair 24 = .ok (.iload_n 1, 1) := by decide +kernel
theorem dX2_isUnfair_25 : decode cX2_isUnfair 25 = .ok (.iload_n 2, 1) := by decide +kernel
theorem dX2_isUnfair_26 : decode cX2_isUnfair 26 = .ok (.iconst 1, 1) := by decide +kernel
theorem dX2_isUnfair_27 : decode cX2_isUnfair 27 = .ok (.invokevirtual 85, 3) := by decide +kernel
theorem dX2_isUnfair_30 : decode cX2_isUnfair 30 = .ok (.aload_n 0, 1) := by decide +kernel
theorem dX2_isUnfair_31 : decode cX2_isUnfair 31 = .ok (.getfield 13, 3) := by decide +kernel
theorem dX2_isUnfair_34 : decode cX2_isUnfair 34 = .ok (.iload_n 3, 1) := by decide +kernel
theorem dX2_isUnfair_35 : decode cX2_isUnfair 35 = .ok (.iaload, 1) := by decide +kernel
theorem dX2_isUnfair_36 : decode cX2_isUnfair 36 = .ok (.aload_n 0, 1) := by decide +kernel
theorem dX2_isUnfair_37 : decode cX2_isUnfair 37 = .ok (.getfield 17, 3) := by decide +kernel
theorem dX2_isUnfair_40 : decode cX2_isUnfair 40 = .ok (.iload_n 3, 1) := by decide +kernel
theorem dX2_isUnfair_41 : decode cX2_isUnfair 41 = .ok (.iaload, 1) := by decide +kernel
theorem dX2_isUnfair_42 : decode cX2_isUnfair 42 = .ok (.invokevirtual 88, 3) := by decide +kernel
theorem dX2_isUnfair_45 : decode cX2_isUnfair 45 = .ok (.ireturn, 1) := by decide +kernel
set_option maxRecDepth 20000 in
theorem ggX2_canFlip_X2_sides : GoodIn wsX2_canFlip wsX2_sides := goodIn_r _ [8, 9, 10, 11, 12, 7, 13, 14, 15, 16, 17, 18, 19, 20, 21, 22, 31, 32, 33, 34, 35, 36, 37, 38, 39] (by decide +kernel) (by decide +kernel)
set_option maxRecDepth 20000 in
theorem gX2_canFlip_X2_sides : GoodIn wsX2_canFlip (wsV RX2 82 RX2 yX2_sides wsX2_sides) := goodIn_app (goodIn_of _ (by decide +kernel)) ggX2_canFlip_X2_sides
set_option maxRecDepth 20000 in
theorem ggX2_canFlip_X2_far_ : GoodIn wsX2_canFlip wsX2_far_ := goodIn_r _ [26, 9, 10, 11, 12, 7, 13, 14, 15, 16, 17, 18, 19, 20, 21, 22, 31, 32, 33, 34, 35, 36, 37, 38, 39] (by decide +kernel) (by decide +kernel)
set_option maxRecDepth 20000 in
theorem gX2_canFlip_X2_far_ : GoodIn wsX2_canFlip (wsV RX2 85 RX2 yX2_far_ wsX2_far_) := goodIn_app (goodIn_of _ (by decide +kernel)) ggX2_canFlip_X2_far_
set_option maxRecDepth 20000 in
theorem ggX2_canFlip_X2_area : GoodIn wsX2_canFlip wsX2_area := goodIn_r _ [30, 2, 3, 31, 32, 33, 34, 35, 36, 37, 38, 39] (by decide +kernel) (by decide +kernel)
set_option maxRecDepth 20000 in
theorem gX2_canFlip_X2_area : GoodIn wsX2_canFlip (wsV RX2 67 RX2 yX2_area wsX2_area) := goodIn_app (goodIn_of _ (by decide +kernel)) ggX2_canFlip_X2_area
theorem dX2_canFlip_0 : decode cX2_canFlip 0 = .ok (.aload_n 0, 1) := by decide +kernel
theorem dX2_canFlip_1 : decode cX2_canFlip 1 = .ok (.iload_n 1, 1) := by decide +kernel
theorem dX2_canFlip_2 : decode cX2_canFlip 2 = .ok (.iload_n 2, 1) := by decide +kernel
theorem dX2_canFlip_3 : decode cX2_canFlip 3 = .ok (.invokevirtual 82, 3) := by decide +kernel
theorem dX2_canFlip_6 : decode cX2_canFlip 6 = .ok (.iconst 2, 1) := by decide +kernel
theorem dX2_canFlip_7 : decode cX2_canFlip 7 = .ok (.if_icmp .ne 14, 3) := by decide +kernel
theorem dX2_canFlip_10 : decode cX2_canFlip 10 = .ok (.aload_n 0, 1) := by decide +kernel
theorem dX2_canFlip_11 : decode cX2_canFlip 11 = .ok (.getfield 28, 3) := by decide +kernel
theorem dX2_canFlip_14 : decode cX2_canFlip 14 = .ok (.iload_n 1, 1) := by decide +kernel
theorem dX2_canFlip_15 : decode cX2_canFlip 15 = .ok (.aaload, 1) := by decide +kernel
theorem dX2_canFlip_16 : decode cX2_canFlip 16 = .ok (.iload_n 2, 1) := by decide +kernel
theorem dX2_canFlip_17 : decode cX2_canFlip 17 = .ok (.baload, 1) := by decide +kernel
theorem dX2_canFlip_18 : decode cX2_canFlip 18 = .ok (.ifCond .eq 5, 3) := by decide +kernel
theorem dX2_canFlip_21 : decode cX2_canFlip 21 = .ok (.iconst 0, 1) := by decide +kernel
theorem dX2_canFlip_22 : decode cX2_canFlip 22 = .ok (.ireturn, 1) := by decide +kernel
theorem dX2_canFlip_23 : decode cX2_canFlip 23 = .ok (.aload_n 0, 1) := by decide +kernel
theorem dX2_canFlip_24 : decode cX2_canFlip 24 = .ok (.iload_n 1, 1) := by decide +kernel
theorem dX2_canFlip_25 : decode cX2_canFlip 25 = .ok (.iload_n 2, 1) := by decide +kernel
theorem dX2_canFlip_26 : decode cX2_canFlip 26 = .ok (.iconst 1, 1) := by decide +kernel
theorem dX2_canFlip_27 : decode cX2_canFlip 27 = .ok (.invokevirtual 85, 3) := by decide +kernel
theorem dX2_canFlip_30 : decode cX2_canFlip 30 = .ok (.istore_n 3, 1) := by decide +kernel
theorem dX2_canFlip_31 : decode cX2_canFlip 31 = .ok (.aload_n 0, 1) := by decide +kernel
theorem dX2_canFlip_32 : decode cX2_canFlip 32 = .ok (.iload_n 1, 1) := by decide +kernel
theorem dX2_canFlip_33 : decode cX2_canFlip 33 = .ok (.iload_n 2, 1) := by decide +kernel
theorem dX2_canFlip_34 : decode cX2_canFlip 34 = .ok (.iconst 0, 1) := by decide +kernel
theorem dX2_canFlip_35 : decode cX2_canFlip 35 = .ok (.invokevirtual 85, 3) := by decide +kernel
theorem dX2_canFlip_38 : decode cX2_canFlip 38 = .ok (.istore 4, 2) := by decide +kernel
theorem dX2_canFlip_40 : decode cX2_canFlip 40 = .ok (.aload_n 0, 1) := by decide +kernel
theorem dX2_canFlip_41 : decode cX2_canFlip 41 = .ok (.iload_n 3, 1) := by decide +kernel
theorem dX2_canFlip_42 : decode cX2_canFlip 42 = .ok (.iload 4, 2) := by decide +kernel
theorem dX2_canFlip_44 : decode cX2_canFlip 44 = .ok (.aload_n 0, 1) := by decide +kernel
theorem dX2_canFlip_45 : decode cX2_canFlip 45 = .ok (.getfield 13, 3) := by decide +kernel
theorem dX2_canFlip_48 : decode cX2_canFlip 48 = .ok (.iload_n 1, 1) := by decide +kernel
theorem dX2_canFlip_49 : decode cX2_canFlip 49 = .ok (.iaload, 1) := by decide +kernel
theorem dX2_canFlip_50 : decode cX2_canFlip 50 = .ok (.aload_n 0, 1) := by decide +kernel
theorem dX2_canFlip_51 : decode cX2_canFlip 51 = .ok (.getfield 17, 3) := by decide +kernel
theorem dX2_canFlip_54 : decode cX2_canFlip 54 = .ok (.iload_n 1, 1) := by decide +kernel
theorem dX2_canFlip_55 : decode cX2_canFlip 55 = .ok (.iaload, 1) := by decide +kernel
theorem dX2_canFlip_56 : decode cX2_canFlip 56 = .ok (.invokevirtual 67, 3) := by decide +kernel
theorem dX2_canFlip_59 : decode cX2_canFlip 59 = .ok (.istore 5, 2) := by decide +kernel
theorem dX2_canFlip_61 : decode cX2_canFlip 61 = .ok (.aload_n 0, 1) := by decide +kernel
theorem dX2_canFlip_62 : decode cX2_canFlip 62 = .ok (.iload_n 3, 1) := by decide +kernel
theorem dX2_canFlip_63 : decode cX2_canFlip 63 = .ok (.iload 4, 2) := by decide +kernel
theorem dX2_canFlip_65 : decode cX2_canFlip 65 = .ok (.aload_n 0, 1) := by decide +kernel
theorem dX2_canFlip_66 : decode cX2_canFlip 66 = .ok (.getfield 13, 3) := by decide +kernel
theorem dX2_canFlip_69 : decode cX2_canFlip 69 = .ok (.iload_n 2, 1) := by decide +kernel
theorem dX2_canFlip_70 : decode cX2_canFlip 70 = .ok (.iaload, 1) := by decide +kernel
theorem dX2_canFlip_71 : decode cX2_canFlip 71 = .ok (.aload_n 0, 1) := by decide +kernel
theorem dX2_canFlip_72 : decode cX2_canFlip 72 = .ok (.getfield 17, 3) := by decide +kernel
theorem dX2_canFlip_75 : decode cX2_canFlip 75 = .ok (.iload_n 2, 1) := by decide +kernel
theorem dX2_canFlip_76 : decode cX2_canFlip 76 = .ok (.iaload, 1) := by decide +kernel
theorem dX2_canFlip_77 : decode cX2_canFlip 77 = .ok (.invokevirtual 67, 3) := by decide +kernel
theorem dX2_canFlip_80 : decode cX2_canFlip 80 = .ok (.istore 6, 2) := by decide +kernel
theorem dX2_canFlip_82 : decode cX2_canFlip 82 = .ok (.iload 5, 2) := by decide +kernel
theorem dX2_canFlip_84 : decode cX2_canFlip 84 = .ok (.ifCond .le 8, 3) := by decide +kernel
theorem dX2_canFlip_87 : decode cX2_canFlip 87 = .ok (.iload 6, 2) := by decide +kernel
theorem dX2_canFlip_89 : decode cX2_canFlip 89 = .ok (.ifCond .lt 13, 3) := by decide +kernel
theorem dX2_canFlip_92 : decode cX2_canFlip 92 = .ok (.iload 5, 2) := by decide +kernel
theorem dX2_canFlip_94 : decode cX2_canFlip 94 = .ok (.ifCond .ge 12, 3) := by decide +kernel
theorem dX2_canFlip_97 : decode cX2_canFlip 97 = .ok (.iload 6, 2) := by decide +kernel
theorem dX2_canFlip_99 : decode cX2_canFlip 99 = .ok (.ifCond .le 7, 3) := by decide +kernel
theorem dX2_canFlip_102 : decode cX2_canFlip 102 = .ok (.iconst 1, 1) := by decide +kernel
theorem dX2_canFlip_103 : decode cX2_canFlip 103 = .ok (.goto 4, 3) := by decide +kernel
theorem dX2_canFlip_106 : decode cX2_canFlip 106 = .ok (.iconst 0, 1) := by decide +kernel
theorem dX2_canFlip_107 : decode cX2_canFlip 107 = .ok (.ireturn, 1) := by decide +kernel
theorem dX2_let_0 : decode cX2_let 0 = .ok (.aload_n 0, 1) := by decide +kernel
theorem dX2_let_1 : decode cX2_let 1 = .ok (.getfield 28, 3) := by decide +kernel
theorem dX2_let_4 : decode cX2_let 4 = .ok (.iload_n 1, 1) := by decide +kernel
theorem dX2_let_5 : decode cX2_let 5 = .ok (.aaload, 1) := by decide +kernel
theorem dX2_let_6 : decode cX2_let 6 = .ok (.iload_n 2, 1) := by decide +kernel
theorem dX2_let_7 : decode cX2_let 7 = .ok (.iload_n 3, 1) := by decide +kernel
theorem dX2_let_8 : decode cX2_let 8 = .ok (.bastore, 1) := by decide +kernel
theorem dX2_let_9 : decode cX2_let 9 = .ok (.aload_n 0, 1) := by decide +kernel
theorem dX2_let_10 : decode cX2_let 10 = .ok (.getfield 28, 3) := by decide +kernel
theorem dX2_let_13 : decode cX2_let 13 = .ok (.iload_n 2, 1) := by decide +kernel
theorem dX2_let_14 : decode cX2_let 14 = .ok (.aaload, 1) := by decide +kernel
theorem dX2_let_15 : decode cX2_let 15 = .ok (.iload_n 1, 1) := by decide +kernel
theorem dX2_let_16 : decode cX2_let 16 = .ok (.iload_n 3, 1) := by decide +kernel
theorem dX2_let_17 : decode cX2_let 17 = .ok (.bastore, 1) := by decide +kernel
theorem dX2_let_18 : decode cX2_let 18 = .ok (.return_, 1) := by decide +kernel
set_option maxRecDepth 20000 in
theorem ggX2_flipped_X2_far_ : GoodIn wsX2_flipped wsX2_far_ := goodIn_r _ [13, 14, 15, 16, 17, 12, 18, 19, 20, 21, 22, 23, 24, 25, 26, 27, 48, 49, 50, 51, 52, 53, 54, 55, 56] (by decide +kernel) (by decide +kernel)
set_option maxRecDepth 20000 in
theorem gX2_flipped_X2_far_ : GoodIn wsX2_flipped (wsV RX2 85 RX2 yX2_far_ wsX2_far_) := goodIn_app (goodIn_of _ (by decide +kernel)) ggX2_flipped_X2_far_
set_option maxRecDepth 20000 in
theorem ggX2_flipped_X2_code : GoodIn wsX2_flipped wsX2_code := goodIn_r _ [30, 2, 3, 4, 5, 6, 7, 8] (by decide +kernel) (by decide +kernel)
set_option maxRecDepth 20000 in
theorem gX2_flipped_X2_code : GoodIn wsX2_flipped (va_wsS RX2 51 yX2_code wsX2_code) := goodIn_app (goodIn_of _ (by decide +kernel)) ggX2_flipped_X2_code
set_option maxRecDepth 20000 in
theorem ggX2_flipped_X2_takeOut : GoodIn wsX2_flipped wsX2_takeOut := goodIn_r _ [34, 27, 14, 35, 36, 37, 38, 48, 49, 50, 51, 52, 53, 54, 55, 56] (by decide +kernel) (by decide +kernel)
set_option maxRecDepth 20000 in
theorem gX2_flipped_X2_takeOut : GoodIn wsX2_flipped (wsV RX2 92 RX2 yX2_takeOut wsX2_takeOut) := goodIn_app (goodIn_of _ (by decide +kernel)) ggX2_flipped_X2_takeOut
set_option maxRecDepth 20000 in
theorem ggX2_flipped_X2_put : GoodIn wsX2_flipped wsX2_put := goodIn_r _ [42, 14, 27, 28, 29, 12, 30, 2, 3, 4, 5, 6, 7, 8, 48, 49, 50, 51, 52, 53, 54, 55, 56] (by decide +kernel) (by decide +kernel)
set_option maxRecDepth 20000 in
theorem gX2_flipped_X2_put : GoodIn wsX2_flipped (wsV RX2 31 RX2 yX2_put wsX2_put) := goodIn_app (goodIn_of _ (by decide +kernel)) ggX2_flipped_X2_put
set_option maxRecDepth 20000 in
theorem ggX2_flipped_X2_let : GoodIn wsX2_flipped wsX2_let := goodIn_r _ [46, 47, 48, 49, 50, 51, 52, 53, 54, 55, 56] (by decide +kernel) (by decide +kernel)
set_option maxRecDepth 20000 in
theorem gX2_flipped_X2_let : GoodIn wsX2_flipped (wsV RX2 96 RX2 yX2_let wsX2_let) := goodIn_app (goodIn_of _ (by decide +kernel)) ggX2_flipped_X2_let
theorem dX2_flipped_0 : decode cX2_flipped 0 = .ok (.aload_n 0, 1) := by decide +kernel
theorem dX2_flipped_1 : decode cX2_flipped 1 = .ok (.iload_n 1, 1) := by decide +kernel
theorem dX2_flipped_2 : decode cX2_flipped 2 = .ok (.iload_n 2, 1) := by decide +kernel
theorem dX2_flipped_3 : decode cX2_flipped 3 = .ok (.iconst 1, 1) := by decide +kernel
theorem dX2_flipped_4 : decode cX2_flipped 4 = .ok (.invokevirtual 85, 3) := by decide +kernel
theorem dX2_flipped_7 : decode cX2_flipped 7 = .ok (.istore_n 3, 1) := by decide +kernel
theorem dX2_flipped_8 : decode cX2_flipped 8 = .ok (.aload_n 0, 1) := by decide +kernel
theorem dX2_flipped_9 : decode cX2_flipped 9 = .ok (.iload_n 1, 1) := by decide +kernel
theorem dX2_flipped_10 : decode cX2_flipped 10 = .ok (.iload_n 2, 1) := by decide +kernel
theorem dX2_flipped_11 : decode cX2_flipped 11 = .ok (.iconst 0, 1) := by decide +kernel
theorem dX2_flipped_12 : decode cX2_flipped 12 = .ok (.invokevirtual 85, 3) := by decide +kernel
theorem dX2_flipped_15 : decode cX2_flipped 15 = .ok (.istore 4, 2) := by decide +kernel
theorem dX2_flipped_17 : decode cX2_flipped 17 = .ok (.aload_n 0, 1) := by decide +kernel
theorem dX2_flipped_18 : decode cX2_flipped 18 = .ok (.iload_n 1, 1) := by decide +kernel
theorem dX2_flipped_19 : decode cX2_flipped 19 = .ok (.iload_n 2, 1) := by decide +kernel
theorem dX2_flipped_20 : decode cX2_flipped 20 = .ok (.iload_n 3, 1) := by decide +kernel
theorem dX2_flipped_21 : decode cX2_flipped 21 = .ok (.invokestatic 51, 3) := by decide +kernel
theorem dX2_flipped_24 : decode cX2_flipped 24 = .ok (.invokevirtual 92, 3) := by decide +kernel
theorem dX2_flipped_27 : decode cX2_flipped 27 = .ok (.aload_n 0, 1) := by decide +kernel
theorem dX2_flipped_28 : decode cX2_flipped 28 = .ok (.iload_n 1, 1) := by decide +kernel
theorem dX2_flipped_29 : decode cX2_flipped 29 = .ok (.iload_n 2, 1) := by decide +kernel
theorem dX2_flipped_30 : decode cX2_flipped 30 = .ok (.iload 4, 2) := by decide +kernel
theorem dX2_flipped_32 : decode cX2_flipped 32 = .ok (.invokestatic 51, 3) := by decide +kernel
theorem dX2_flipped_35 : decode cX2_flipped 35 = .ok (.invokevirtual 92, 3) := by decide +kernel
theorem dX2_flipped_38 : decode cX2_flipped 38 = .ok (.aload_n 0, 1) := by decide +kernel
theorem dX2_flipped_39 : decode cX2_flipped 39 = .ok (.iload_n 3, 1) := by decide +kernel
theorem dX2_flipped_40 : decode cX2_flipped 40 = .ok (.iload 4, 2) := by decide +kernel
theorem dX2_flipped_42 : decode cX2_flipped 42 = .ok (.iload_n 1, 1) := by decide +kernel
theorem dX2_flipped_43 : decode cX2_flipped 43 = .ok (.invokevirtual 31, 3) := by decide +kernel
theorem dX2_flipped_46 : decode cX2_flipped 46 = .ok (.aload_n 0, 1) := by decide +kernel
theorem dX2_flipped_47 : decode cX2_flipped 47 = .ok (.iload_n 3, 1) := by decide +kernel
theorem dX2_flipped_48 : decode cX2_flipped 48 = .ok (.iload 4, 2) := by decide +kernel
theorem dX2_flipped_50 : decode cX2_flipped 50 = .ok (.iload_n 2, 1) := by decide +kernel
theorem dX2_flipped_51 : decode cX2_flipped 51 = .ok (.invokevirtual 31, 3) := by decide +kernel
theorem dX2_flipped_54 : decode cX2_flipped 54 = .ok (.aload_n 0, 1) := by decide +kernel
theorem dX2_flipped_55 : decode cX2_flipped 55 = .ok (.iload_n 3, 1) := by decide +kernel
theorem dX2_flipped_56 : decode cX2_flipped 56 = .ok (.iload 4, 2) := by decide +kernel
theorem dX2_flipped_58 : decode cX2_flipped 58 = .ok (.iconst 0, 1) := by decide +kernel
theorem dX2_flipped_59 : decode cX2_flipped 59 = .ok (.invokevirtual 96, 3) := by decide +kernel
theorem dX2_flipped_62 : decode cX2_flipped 62 = .ok (.aload_n 0, 1) := by decide +kernel
theorem dX2_flipped_63 : decode cX2_flipped 63 = .ok (.dup, 1) := by decide +kernel
theorem dX2_flipped_64 : decode cX2_flipped 64 = .ok (.getfield 100, 3) := by decide +kernel
theorem dX2_flipped_67 : decode cX2_flipped 67 = .ok (.iconst 1, 1) := by decide +kernel
theorem dX2_flipped_68 : decode cX2_flipped 68 = .ok (.iadd, 1) := by decide +kernel
theorem dX2_flipped_69 : decode cX2_flipped 69 = .ok (.putfield 100, 3) := by decide +kernel
theorem dX2_flipped_72 : decode cX2_flipped 72 = .ok (.bipush 16, 2) := by decide +kernel
theorem dX2_flipped_74 : decode cX2_flipped 74 = .ok (.iload_n 3, 1) := by decide +kernel
theorem dX2_flipped_75 : decode cX2_flipped 75 = .ok (.iload 4, 2) := by decide +kernel
theorem dX2_flipped_77 : decode cX2_flipped 77 = .ok (.invokestatic 42, 3) := by decide +kernel
theorem dX2_flipped_80 : decode cX2_flipped 80 = .ok (.imul, 1) := by decide +kernel
theorem dX2_flipped_81 : decode cX2_flipped 81 = .ok (.iload_n 3, 1) := by decide +kernel
theorem dX2_flipped_82 : decode cX2_flipped 82 = .ok (.iload 4, 2) := by decide +kernel
theorem dX2_flipped_84 : decode cX2_flipped 84 = .ok (.invokestatic 48, 3) := by decide +kernel
theorem dX2_flipped_87 : decode cX2_flipped 87 = .ok (.iadd, 1) := by decide +kernel
theorem dX2_flipped_88 : decode cX2_flipped 88 = .ok (.ireturn, 1) := by decide +kernel
theorem dX2_cairnAt_0 : decode cX2_cairnAt 0 = .ok (.iconst 0, 1) := by decide +kernel
theorem dX2_cairnAt_1 : decode cX2_cairnAt 1 = .ok (.istore_n 3, 1) := by decide +kernel
theorem dX2_cairnAt_2 : decode cX2_cairnAt 2 = .ok (.iload_n 3, 1) := by decide +kernel
theorem dX2_cairnAt_3 : decode cX2_cairnAt 3 = .ok (.aload_n 0, 1) := by decide +kernel
theorem dX2_cairnAt_4 : decode cX2_cairnAt 4 = .ok (.getfield 7, 3) := by decide +kernel
theorem dX2_cairnAt_7 : decode cX2_cairnAt 7 = .ok (.if_icmp .ge 31, 3) := by decide +kernel
theorem dX2_cairnAt_10 : decode cX2_cairnAt 10 = .ok (.aload_n 0, 1) := by decide +kernel
theorem dX2_cairnAt_11 : decode cX2_cairnAt 11 = .ok (.getfield 13, 3) := by decide +kernel
theorem dX2_cairnAt_14 : decode cX2_cairnAt 14 = .ok (.iload_n 3, 1) := by decide +kernel
theorem dX2_cairnAt_15 : decode cX2_cairnAt 15 = .ok (.iaload, 1) := by decide +kernel
theorem dX2_cairnAt_16 : decode cX2_cairnAt 16 = .ok (.iload_n 1, 1) := by decide +kernel
theorem dX2_cairnAt_17 : decode cX2_cairnAt 17 = .ok (.if_icmp .ne 15, 3) := by decide +kernel
theorem dX2_cairnAt_20 : decode cX2_cairnAt 20 = .ok (.aload_n 0, 1) := by decide +kernel
theorem dX2_cairnAt_21 : decode cX2_cairnAt 21 = .ok (.getfield 17, 3) := by decide +kernel
theorem dX2_cairnAt_24 : decode cX2_cairnAt 24 = .ok (.iload_n 3, 1) := by decide +kernel
theorem dX2_cairnAt_25 : decode cX2_cairnAt 25 = .ok (.iaload, 1) := by decide +kernel
theorem dX2_cairnAt_26 : decode cX2_cairnAt 26 = .ok (.iload_n 2, 1) := by decide +kernel
theorem dX2_cairnAt_27 : decode cX2_cairnAt 27 = .ok (.if_icmp .ne 5, 3) := by decide +kernel
theorem dX2_cairnAt_30 : decode cX2_cairnAt 30 = .ok (.iload_n 3, 1) := by decide +kernel
theorem dX2_cairnAt_31 : decode cX2_cairnAt 31 = .ok (.ireturn, 1) := by decide +kernel
theorem dX2_cairnAt_32 : decode cX2_cairnAt 32 = .ok (.iinc 3 1, 3) := by decide +kernel
theorem dX2_cairnAt_35 : decode cX2_cairnAt 35 = .ok (.goto (-33), 3) := by decide +kernel
theorem dX2_cairnAt_38 : decode cX2_cairnAt 38 = .ok (.iconst (-1), 1) := by decide +kernel
theorem dX2_cairnAt_39 : decode cX2_cairnAt 39 = .ok (.ireturn, 1) := by decide +kernel
set_option maxRecDepth 20000 in
theorem ggX2_covers_X2_corner : GoodIn wsX2_covers wsX2_corner := goodIn_r _ [9, 10, 21, 22, 23, 24, 25, 26, 27, 28, 29] (by decide +kernel) (by decide +kernel)
set_option maxRecDepth 20000 in
theorem gX2_covers_X2_corner : GoodIn wsX2_covers (wsV RX2 64 RX2 yX2_corner wsX2_corner) := goodIn_app (goodIn_of _ (by decide +kernel)) ggX2_covers_X2_corner
set_option maxRecDepth 20000 in
theorem ggX2_covers_X2_area : GoodIn wsX2_covers wsX2_area := goodIn_r _ [14, 15, 16, 21, 22, 23, 24, 25, 26, 27, 28, 29] (by decide +kernel) (by decide +kernel)
set_option maxRecDepth 20000 in
theorem gX2_covers_X2_area : GoodIn wsX2_covers (wsV RX2 67 RX2 yX2_area wsX2_area) := goodIn_app (goodIn_of _ (by decide +kernel)) ggX2_covers_X2_area
set_option maxRecDepth 20000 in
theorem ggX2_covers_X2_areaOf : GoodIn wsX2_covers wsX2_areaOf := goodIn_r _ [20, 15, 16, 1, 2, 3, 4, 5, 6, 7, 8, 9, 10, 11, 12, 13, 14, 21, 22, 23, 24, 25, 26, 27, 28, 29] (by decide +kernel) (by decide +kernel)
set_option maxRecDepth 20000 in
theorem gX2_covers_X2_areaOf : GoodIn wsX2_covers (wsV RX2 103 RX2 yX2_areaOf wsX2_areaOf) := goodIn_app (goodIn_of _ (by decide +kernel)) ggX2_covers_X2_areaOf
theorem dX2_covers_0 : decode cX2_covers 0 = .ok (.aload_n 0, 1) := by decide +kernel
theorem dX2_covers_1 : decode cX2_covers 1 = .ok (.iload_n 1, 1) := by decide +kernel
theorem dX2_covers_2 : decode cX2_covers 2 = .ok (.iconst 0, 1) := by decide +kernel
theorem dX2_covers_3 : decode cX2_covers 3 = .ok (.invokevirtual 64, 3) := by decide +kernel
theorem dX2_covers_6 : decode cX2_covers 6 = .ok (.istore 4, 2) := by decide +kernel
theorem dX2_covers_8 : decode cX2_covers 8 = .ok (.aload_n 0, 1) := by decide +kernel
theorem dX2_covers_9 : decode cX2_covers 9 = .ok (.iload_n 1, 1) := by decide +kernel
theorem dX2_covers_10 : decode cX2_covers 10 = .ok (.iconst 1, 1) := by decide +kernel
theorem dX2_covers_11 : decode cX2_covers 11 = .ok (.invokevirtual 64, 3) := by decide +kernel
theorem dX2_covers_14 : decode cX2_covers 14 = .ok (.istore 5, 2) := by decide +kernel
theorem dX2_covers_16 : decode cX2_covers 16 = .ok (.aload_n 0, 1) := by decide +kernel
theorem dX2_covers_17 : decode cX2_covers 17 = .ok (.iload_n 1, 1) := by decide +kernel
theorem dX2_covers_18 : decode cX2_covers 18 = .ok (.iconst 2, 1) := by decide +kernel
theorem dX2_covers_19 : decode cX2_covers 19 = .ok (.invokevirtual 64, 3) := by decide +kernel
theorem dX2_covers_22 : decode cX2_covers 22 = .ok (.istore 6, 2) := by decide +kernel
theorem dX2_covers_24 : decode cX2_covers 24 = .ok (.aload_n 0, 1) := by decide +kernel
theorem dX2_covers_25 : decode cX2_covers 25 = .ok (.iload 4, 2) := by decide +kernel
theorem dX2_covers_27 : decode cX2_covers 27 = .ok (.iload 5, 2) := by decide +kernel
theorem dX2_covers_29 : decode cX2_covers 29 = .ok (.iload_n 2, 1) := by decide +kernel
theorem dX2_covers_30 : decode cX2_covers 30 = .ok (.iload_n 3, 1) := by decide +kernel
theorem dX2_covers_31 : decode cX2_covers 31 = .ok (.invokevirtual 67, 3) := by decide +kernel
theorem dX2_covers_34 : decode cX2_covers 34 = .ok (.invokestatic 71, 3) := by decide +kernel
theorem dX2_covers_37 : decode cX2_covers 37 = .ok (.aload_n 0, 1) := by decide +kernel
theorem dX2_covers_38 : decode cX2_covers 38 = .ok (.iload 5, 2) := by decide +kernel
theorem dX2_covers_40 : decode cX2_covers 40 = .ok (.iload 6, 2) := by decide +kernel
theorem dX2_covers_42 : decode cX2_covers 42 = .ok (.iload_n 2, 1) := by decide +kernel
theorem dX2_covers_43 : decode cX2_covers 43 = .ok (.iload_n 3, 1) := by decide +kernel
theorem dX2_covers_44 : decode cX2_covers 44 = .ok (.invokevirtual 67, 3) := by decide +kernel
theorem dX2_covers_47 : decode cX2_covers 47 = .ok (.invokestatic 71, 3) := by decide +kernel
theorem dX2_covers_50 : decode cX2_covers 50 = .ok (.iadd, 1) := by decide +kernel
theorem dX2_covers_51 : decode cX2_covers 51 = .ok (.aload_n 0, 1) := by decide +kernel
theorem dX2_covers_52 : decode cX2_covers 52 = .ok (.iload 6, 2) := by decide +kernel
theorem dX2_covers_54 : decode cX2_covers 54 = .ok (.iload 4, 2) := by decide +kernel
theorem dX2_covers_56 : decode cX2_covers 56 = .ok (.iload_n 2, 1) := by decide +kernel
theorem dX2_covers_57 : decode cX2_covers 57 = .ok (.iload_n 3, 1) := by decide +kernel
theorem dX2_covers_58 : decode cX2_covers 58 = .ok (.invokevirtual 67, 3) := by decide +kernel
theorem dX2_covers_61 : decode cX2_covers 61 = .ok (.invokestatic 71, 3) := by decide +kernel
theorem dX2_covers_64 : decode cX2_covers 64 = .ok (.iadd, 1) := by decide +kernel
theorem dX2_covers_65 : decode cX2_covers 65 = .ok (.aload_n 0, 1) := by decide +kernel
theorem dX2_covers_66 : decode cX2_covers 66 = .ok (.iload_n 1, 1) := by decide +kernel
theorem dX2_covers_67 : decode cX2_covers 67 = .ok (.invokevirtual 103, 3) := by decide +kernel
theorem dX2_covers_70 : decode cX2_covers 70 = .ok (.if_icmp .ne 7, 3) := by decide +kernel
theorem dX2_covers_73 : decode cX2_covers 73 = .ok (.iconst 1, 1) := by decide +kernel
theorem dX2_covers_74 : decode cX2_covers 74 = .ok (.goto 4, 3) := by decide +kernel
theorem dX2_covers_77 : decode cX2_covers 77 = .ok (.iconst 0, 1) := by decide +kernel
theorem dX2_covers_78 : decode cX2_covers 78 = .ok (.ireturn, 1) := by decide +kernel
set_option maxRecDepth 20000 in
theorem ggX2_lies_X2_covers : GoodIn wsX2_lies wsX2_covers := goodIn_r _ [5, 6, 7, 8, 9, 10, 11, 12, 4, 13, 14, 15, 16, 17, 18, 19, 20, 21, 22, 23, 24, 25, 26, 27, 28, 29, 30, 31, 32, 33] (by decide +kernel) (by decide +kernel)
set_option maxRecDepth 20000 in
theorem gX2_lies_X2_covers : GoodIn wsX2_lies (wsV RX2 106 RX2 yX2_covers wsX2_covers) := goodIn_app (goodIn_of _ (by decide +kernel)) ggX2_lies_X2_covers
theorem dX2_lies_0 : decode cX2_lies 0 = .ok (.iconst 0, 1) := by decide +kernel
theorem dX2_lies_1 : decode cX2_lies 1 = .ok (.istore_n 3, 1) := by decide +kernel
theorem dX2_lies_2 : decode cX2_lies 2 = .ok (.aload_n 0, 1) := by decide +kernel
theorem dX2_lies_3 : decode cX2_lies 3 = .ok (.iload_n 3, 1) := by decide +kernel
theorem dX2_lies_4 : decode cX2_lies 4 = .ok (.iload_n 1, 1) := by decide +kernel
theorem dX2_lies_5 : decode cX2_lies 5 = .ok (.iload_n 2, 1) := by decide +kernel
theorem dX2_lies_6 : decode cX2_lies 6 = .ok (.invokevirtual 106, 3) := by decide +kernel
theorem dX2_lies_9 : decode cX2_lies 9 = .ok (.ifCond .ne 9, 3) := by decide +kernel
theorem dX2_lies_12 : decode cX2_lies 12 = .ok (.iinc 3 1, 3) := by decide +kernel
theorem dX2_lies_15 : decode cX2_lies 15 = .ok (.goto (-13), 3) := by decide +kernel
theorem dX2_lies_18 : decode cX2_lies 18 = .ok (.iload_n 3, 1) := by decide +kernel
theorem dX2_lies_19 : decode cX2_lies 19 = .ok (.ireturn, 1) := by decide +kernel
set_option maxRecDepth 20000 in
theorem ggX2_split_X2_takeOut : GoodIn wsX2_split wsX2_takeOut := goodIn_r _ [8, 9, 10, 11, 12, 13, 14, 39, 40, 41, 42, 43, 44, 45, 46, 47] (by decide +kernel) (by decide +kernel)
set_option maxRecDepth 20000 in
theorem gX2_split_X2_takeOut : GoodIn wsX2_split (wsV RX2 92 RX2 yX2_takeOut wsX2_takeOut) := goodIn_app (goodIn_of _ (by decide +kernel)) ggX2_split_X2_takeOut
set_option maxRecDepth 20000 in
theorem ggX2_split_X2_area : GoodIn wsX2_split wsX2_area := goodIn_r _ [18, 19, 20, 39, 40, 41, 42, 43, 44, 45, 46, 47] (by decide +kernel) (by decide +kernel)
set_option maxRecDepth 20000 in
theorem gX2_split_X2_area : GoodIn wsX2_split (wsV RX2 67 RX2 yX2_area wsX2_area) := goodIn_app (goodIn_of _ (by decide +kernel)) ggX2_split_X2_area
set_option maxRecDepth 20000 in
theorem ggX2_split_X2_put : GoodIn wsX2_split wsX2_put := goodIn_r _ [24, 10, 9, 25, 26, 7, 27, 28, 29, 30, 31, 32, 33, 34, 39, 40, 41, 42, 43, 44, 45, 46, 47] (by decide +kernel) (by decide +kernel)
set_option maxRecDepth 20000 in
theorem gX2_split_X2_put : GoodIn wsX2_split (wsV RX2 31 RX2 yX2_put wsX2_put) := goodIn_app (goodIn_of _ (by decide +kernel)) ggX2_split_X2_put
set_option maxRecDepth 20000 in
theorem ggX2_split_X2_let : GoodIn wsX2_split wsX2_let := goodIn_r _ [38, 3, 39, 40, 41, 42, 43, 44, 45, 46, 47] (by decide +kernel) (by decide +kernel)
set_option maxRecDepth 20000 in
theorem gX2_split_X2_let : GoodIn wsX2_split (wsV RX2 96 RX2 yX2_let wsX2_let) := goodIn_app (goodIn_of _ (by decide +kernel)) ggX2_split_X2_let
theorem dX2_split_0 : decode cX2_split 0 = .ok (.iconst 3, 1) := by decide +kernel
theorem dX2_split_1 : decode cX2_split 1 = .ok (.newarray .int, 2) := by decide +kernel
theorem dX2_split_3 : decode cX2_split 3 = .ok (.dup, 1) := by decide +kernel
theorem dX2_split_4 : decode cX2_split 4 = .ok (.iconst 0, 1) := by decide +kernel
theorem dX2_split_5 : decode cX2_split 5 = .ok (.iload_n 1, 1) := by decide +kernel
theorem dX2_split_6 : decode cX2_split 6 = .ok (.bipush 32, 2) := by decide +kernel
theorem dX2_split_8 : decode cX2_split 8 = .ok (.idiv, 1) := by decide +kernel
theorem dX2_split_9 : decode cX2_split 9 = .ok (.bipush 32, 2) := by decide +kernel
theorem dX2_split_11 : decode cX2_split 11 = .ok (.idiv, 1) := by decide +kernel
theorem dX2_split_12 : decode cX2_split 12 = .ok (.iastore, 1) := by decide +kernel
theorem dX2_split_13 : decode cX2_split 13 = .ok (.dup, 1) := by decide +kernel
theorem dX2_split_14 : decode cX2_split 14 = .ok (.iconst 1, 1) := by decide +kernel
theorem dX2_split_15 : decode cX2_split 15 = .ok (.iload_n 1, 1) := by decide +kernel
theorem dX2_split_16 : decode cX2_split 16 = .ok (.bipush 32, 2) := by decide +kernel
theorem dX2_split_18 : decode cX2_split 18 = .ok (.idiv, 1) := by decide +kernel
theorem dX2_split_19 : decode cX2_split 19 = .ok (.bipush 32, 2) := by decide +kernel
theorem dX2_split_21 : decode cX2_split 21 = .ok (.irem, 1) := by decide +kernel
theorem dX2_split_22 : decode cX2_split 22 = .ok (.iastore, 1) := by decide +kernel
theorem dX2_split_23 : decode cX2_split 23 = .ok (.dup, 1) := by decide +kernel
theorem dX2_split_24 : decode cX2_split 24 = .ok (.iconst 2, 1) := by decide +kernel
theorem dX2_split_25 : decode cX2_split 25 = .ok (.iload_n 1, 1) := by decide +kernel
theorem dX2_split_26 : decode cX2_split 26 = .ok (.bipush 32, 2) := by decide +kernel
theorem dX2_split_28 : decode cX2_split 28 = .ok (.irem, 1) := by decide +kernel
theorem dX2_split_29 : decode cX2_split 29 = .ok (.iastore, 1) := by decide +kernel
theorem dX2_split_30 : decode cX2_split 30 = .ok (.astore 4, 2) := by decide +kernel
theorem dX2_split_32 : decode cX2_split 32 = .ok (.aload_n 0, 1) := by decide +kernel
theorem dX2_split_33 : decode cX2_split 33 = .ok (.iload_n 1, 1) := by decide +kernel
theorem dX2_split_34 : decode cX2_split 34 = .ok (.invokevirtual 92, 3) := by decide +kernel
theorem dX2_split_37 : decode cX2_split 37 = .ok (.iconst 0, 1) := by decide +kernel
theorem dX2_split_38 : decode cX2_split 38 = .ok (.istore 5, 2) := by decide +kernel
theorem dX2_split_40 : decode cX2_split 40 = .ok (.iload 5, 2) := by decide +kernel
theorem dX2_split_42 : decode cX2_split 42 = .ok (.iconst 3, 1) := by decide +kernel
theorem dX2_split_43 : decode cX2_split 43 = .ok (.if_icmp .ge 90, 3) := by decide +kernel
theorem dX2_split_46 : decode cX2_split 46 = .ok (.aload 4, 2) := by decide +kernel
theorem dX2_split_48 : decode cX2_split 48 = .ok (.iload 5, 2) := by decide +kernel
theorem dX2_split_50 : decode cX2_split 50 = .ok (.iaload, 1) := by decide +kernel
theorem dX2_split_51 : decode cX2_split 51 = .ok (.istore 6, 2) := by decide +kernel
theorem dX2_split_53 : decode cX2_split 53 = .ok (.aload 4, 2) := by decide +kernel
theorem dX2_split_55 : decode cX2_split 55 = .ok (.iload 5, 2) := by decide +kernel
theorem dX2_split_57 : decode cX2_split 57 = .ok (.iconst 1, 1) := by decide +kernel
theorem dX2_split_58 : decode cX2_split 58 = .ok (.iadd, 1) := by decide +kernel
theorem dX2_split_59 : decode cX2_split 59 = .ok (.iconst 3, 1) := by decide +kernel
theorem dX2_split_60 : decode cX2_split 60 = .ok (.irem, 1) := by decide +kernel
theorem dX2_split_61 : decode cX2_split 61 = .ok (.iaload, 1) := by decide +kernel
theorem dX2_split_62 : decode cX2_split 62 = .ok (.istore 7, 2) := by decide +kernel
theorem dX2_split_64 : decode cX2_split 64 = .ok (.aload_n 0, 1) := by decide +kernel
theorem dX2_split_65 : decode cX2_split 65 = .ok (.iload 6, 2) := by decide +kernel
theorem dX2_split_67 : decode cX2_split 67 = .ok (.iload 7, 2) := by decide +kernel
theorem dX2_split_69 : decode cX2_split 69 = .ok (.iload_n 2, 1) := by decide +kernel
theorem dX2_split_70 : decode cX2_split 70 = .ok (.iload_n 3, 1) := by decide +kernel
theorem dX2_split_71 : decode cX2_split 71 = .ok (.invokevirtual 67, 3) := by decide +kernel
theorem dX2_split_74 : decode cX2_split 74 = .ok (.ifCond .eq 18, 3) := by decide +kernel
theorem dX2_split_77 : decode cX2_split 77 = .ok (.aload_n 0, 1) := by decide +kernel
