theorem dX1_mean_12 : decode cX1_mean 12 = .ok (.getfield 10, 3) := by decide +kernel
theorem dX1_mean_15 : decode cX1_mean 15 = .ok (.getfield 35, 3) := by decide +kernel
theorem dX1_mean_18 : decode cX1_mean 18 = .ok (.ifCond .le 17, 3) := by decide +kernel
theorem dX1_mean_21 : decode cX1_mean 21 = .ok (.iload_n 1, 1) := by decide +kernel
theorem dX1_mean_22 : decode cX1_mean 22 = .ok (.i2d, 1) := by decide +kernel
theorem dX1_mean_23 : decode cX1_mean 23 = .ok (.aload_n 0, 1) := by decide +kernel
theorem dX1_mean_24 : decode cX1_mean 24 = .ok (.getfield 10, 3) := by decide +kernel
theorem dX1_mean_27 : decode cX1_mean 27 = .ok (.getfield 35, 3) := by decide +kernel
theorem dX1_mean_30 : decode cX1_mean 30 = .ok (.i2d, 1) := by decide +kernel
theorem dX1_mean_31 : decode cX1_mean 31 = .ok (.ddiv, 1) := by decide +kernel
theorem dX1_mean_32 : decode cX1_mean 32 = .ok (.goto 4, 3) := by decide +kernel
theorem dX1_mean_35 : decode cX1_mean 35 = .ok (.dconst 0, 1) := by decide +kernel
theorem dX1_mean_36 : decode cX1_mean 36 = .ok (.dreturn, 1) := by decide +kernel
set_option maxRecDepth 20000 in
theorem ggX1_cairnFact_X0_xOf : GoodIn wsX1_cairnFact wsX0_xOf := goodIn_r _ [6, 7, 41, 42, 43, 44, 45, 46, 47] (by decide +kernel) (by decide +kernel)
set_option maxRecDepth 20000 in
theorem gX1_cairnFact_X0_xOf : GoodIn wsX1_cairnFact (wsV RX1 159 RX0 yX0_xOf wsX0_xOf) := goodIn_app (goodIn_of _ (by decide +kernel)) ggX1_cairnFact_X0_xOf
set_option maxRecDepth 20000 in
theorem ggX1_cairnFact_X0_yOf : GoodIn wsX1_cairnFact wsX0_yOf := goodIn_r _ [11, 12, 41, 42, 43, 44, 45, 46, 47] (by decide +kernel) (by decide +kernel)
set_option maxRecDepth 20000 in
theorem gX1_cairnFact_X0_yOf : GoodIn wsX1_cairnFact (wsV RX1 162 RX0 yX0_yOf wsX0_yOf) := goodIn_app (goodIn_of _ (by decide +kernel)) ggX1_cairnFact_X0_yOf
set_option maxRecDepth 20000 in
theorem ggX1_cairnFact_X1_heightOf : GoodIn wsX1_cairnFact wsX1_heightOf := goodIn_r _ [17, 18, 37, 38, 39, 40] (by decide +kernel) (by decide +kernel)
set_option maxRecDepth 20000 in
theorem gX1_cairnFact_X1_heightOf : GoodIn wsX1_cairnFact (wsV RX1 58 RX1 yX1_heightOf wsX1_heightOf) := goodIn_app (goodIn_of _ (by decide +kernel)) ggX1_cairnFact_X1_heightOf
set_option maxRecDepth 20000 in
theorem ggX1_cairnFact_X0_edgesAt : GoodIn wsX1_cairnFact wsX0_edgesAt := goodIn_r _ [22, 23, 24, 25, 26, 5, 27, 28, 29, 30, 31, 32, 41, 42, 43, 44, 45, 46, 47] (by decide +kernel) (by decide +kernel)
set_option maxRecDepth 20000 in
theorem gX1_cairnFact_X0_edgesAt : GoodIn wsX1_cairnFact (wsV RX1 165 RX0 yX0_edgesAt wsX0_edgesAt) := goodIn_app (goodIn_of _ (by decide +kernel)) ggX1_cairnFact_X0_edgesAt
set_option maxRecDepth 20000 in
theorem ggX1_cairnFact_X0_trianglesAt : GoodIn wsX1_cairnFact wsX0_trianglesAt := goodIn_r _ [36, 23, 28, 29, 30, 5, 31, 32, 41, 42, 43, 44, 45, 46, 47] (by decide +kernel) (by decide +kernel)
set_option maxRecDepth 20000 in
theorem gX1_cairnFact_X0_trianglesAt : GoodIn wsX1_cairnFact (wsV RX1 168 RX0 yX0_trianglesAt wsX0_trianglesAt) := goodIn_app (goodIn_of _ (by decide +kernel)) ggX1_cairnFact_X0_trianglesAt
theorem dX1_cairnFact_0 : decode cX1_cairnFact 0 = .ok (.iload_n 2, 1) := by decide +kernel
theorem dX1_cairnFact_1 : decode cX1_cairnFact 1 = .ok (.tableswitch 64 0 3 #[31, 40, 49, 55], 31) := by decide +kernel
theorem dX1_cairnFact_32 : decode cX1_cairnFact 32 = .ok (.aload_n 0, 1) := by decide +kernel
theorem dX1_cairnFact_33 : decode cX1_cairnFact 33 = .ok (.getfield 10, 3) := by decide +kernel
theorem dX1_cairnFact_36 : decode cX1_cairnFact 36 = .ok (.iload_n 1, 1) := by decide +kernel
theorem dX1_cairnFact_37 : decode cX1_cairnFact 37 = .ok (.invokevirtual 159, 3) := by decide +kernel
theorem dX1_cairnFact_40 : decode cX1_cairnFact 40 = .ok (.ireturn, 1) := by decide +kernel
theorem dX1_cairnFact_41 : decode cX1_cairnFact 41 = .ok (.aload_n 0, 1) := by decide +kernel
theorem dX1_cairnFact_42 : decode cX1_cairnFact 42 = .ok (.getfield 10, 3) := by decide +kernel
theorem dX1_cairnFact_45 : decode cX1_cairnFact 45 = .ok (.iload_n 1, 1) := by decide +kernel
theorem dX1_cairnFact_46 : decode cX1_cairnFact 46 = .ok (.invokevirtual 162, 3) := by decide +kernel
theorem dX1_cairnFact_49 : decode cX1_cairnFact 49 = .ok (.ireturn, 1) := by decide +kernel
theorem dX1_cairnFact_50 : decode cX1_cairnFact 50 = .ok (.aload_n 0, 1) := by decide +kernel
theorem dX1_cairnFact_51 : decode cX1_cairnFact 51 = .ok (.iload_n 1, 1) := by decide +kernel
theorem dX1_cairnFact_52 : decode cX1_cairnFact 52 = .ok (.invokevirtual 58, 3) := by decide +kernel
theorem dX1_cairnFact_55 : decode cX1_cairnFact 55 = .ok (.ireturn, 1) := by decide +kernel
theorem dX1_cairnFact_56 : decode cX1_cairnFact 56 = .ok (.aload_n 0, 1) := by decide +kernel
theorem dX1_cairnFact_57 : decode cX1_cairnFact 57 = .ok (.getfield 10, 3) := by decide +kernel
theorem dX1_cairnFact_60 : decode cX1_cairnFact 60 = .ok (.iload_n 1, 1) := by decide +kernel
theorem dX1_cairnFact_61 : decode cX1_cairnFact 61 = .ok (.invokevirtual 165, 3) := by decide +kernel
theorem dX1_cairnFact_64 : decode cX1_cairnFact 64 = .ok (.ireturn, 1) := by decide +kernel
theorem dX1_cairnFact_65 : decode cX1_cairnFact 65 = .ok (.aload_n 0, 1) := by decide +kernel
theorem dX1_cairnFact_66 : decode cX1_cairnFact 66 = .ok (.getfield 10, 3) := by decide +kernel
theorem dX1_cairnFact_69 : decode cX1_cairnFact 69 = .ok (.iload_n 1, 1) := by decide +kernel
theorem dX1_cairnFact_70 : decode cX1_cairnFact 70 = .ok (.invokevirtual 168, 3) := by decide +kernel
theorem dX1_cairnFact_73 : decode cX1_cairnFact 73 = .ok (.ireturn, 1) := by decide +kernel
set_option maxRecDepth 20000 in
theorem ggX1_triangleFact_X0_areaOf : GoodIn wsX1_triangleFact wsX0_areaOf := goodIn_r _ [6, 7, 8, 9, 10, 11, 12, 13, 5, 14, 15, 16, 17, 18, 19, 20, 21, 22, 23, 24, 25, 26, 27, 28, 29, 35, 36, 37, 38, 39, 40, 41] (by decide +kernel) (by decide +kernel)
set_option maxRecDepth 20000 in
theorem gX1_triangleFact_X0_areaOf : GoodIn wsX1_triangleFact (wsV RX1 126 RX0 yX0_areaOf wsX0_areaOf) := goodIn_app (goodIn_of _ (by decide +kernel)) ggX1_triangleFact_X0_areaOf
set_option maxRecDepth 20000 in
theorem ggX1_triangleFact_X0_corner : GoodIn wsX1_triangleFact wsX0_corner := goodIn_r _ [14, 15, 35, 36, 37, 38, 39, 40, 41] (by decide +kernel) (by decide +kernel)
set_option maxRecDepth 20000 in
theorem gX1_triangleFact_X0_corner : GoodIn wsX1_triangleFact (wsV RX1 123 RX0 yX0_corner wsX0_corner) := goodIn_app (goodIn_of _ (by decide +kernel)) ggX1_triangleFact_X0_corner
theorem dX1_triangleFact_0 : decode cX1_triangleFact 0 = .ok (.iload_n 2, 1) := by decide +kernel
theorem dX1_triangleFact_1 : decode cX1_triangleFact 1 = .ok (.iconst 3, 1) := by decide +kernel
theorem dX1_triangleFact_2 : decode cX1_triangleFact 2 = .ok (.if_icmp .ne 14, 3) := by decide +kernel
theorem dX1_triangleFact_5 : decode cX1_triangleFact 5 = .ok (.aload_n 0, 1) := by decide +kernel
theorem dX1_triangleFact_6 : decode cX1_triangleFact 6 = .ok (.getfield 10, 3) := by decide +kernel
theorem dX1_triangleFact_9 : decode cX1_triangleFact 9 = .ok (.iload_n 1, 1) := by decide +kernel
theorem dX1_triangleFact_10 : decode cX1_triangleFact 10 = .ok (.invokevirtual 126, 3) := by decide +kernel
theorem dX1_triangleFact_13 : decode cX1_triangleFact 13 = .ok (.goto 12, 3) := by decide +kernel
theorem dX1_triangleFact_16 : decode cX1_triangleFact 16 = .ok (.aload_n 0, 1) := by decide +kernel
theorem dX1_triangleFact_17 : decode cX1_triangleFact 17 = .ok (.getfield 10, 3) := by decide +kernel
theorem dX1_triangleFact_20 : decode cX1_triangleFact 20 = .ok (.iload_n 1, 1) := by decide +kernel
theorem dX1_triangleFact_21 : decode cX1_triangleFact 21 = .ok (.iload_n 2, 1) := by decide +kernel
theorem dX1_triangleFact_22 : decode cX1_triangleFact 22 = .ok (.invokevirtual 123, 3) := by decide +kernel
theorem dX1_triangleFact_25 : decode cX1_triangleFact 25 = .ok (.ireturn, 1) := by decide +kernel
set_option maxRecDepth 20000 in
theorem ggX1_edgeFact_X0_isEdgeThat : GoodIn wsX1_edgeFact wsX0_isEdgeThat := goodIn_r _ [6, 7, 8, 9, 5, 10, 11, 12, 13, 14, 15, 16, 17, 18, 19, 20, 21, 22, 23, 24, 25, 26, 27, 28, 29, 30, 31, 32, 33, 34, 35, 36, 37, 38, 39, 40, 41, 42, 43, 44, 45, 46, 47, 48, 49, 50, 51, 52, 53, 54, 55, 60, 61, 62, 63, 64, 65, 66] (by decide +kernel) (by decide +kernel)
set_option maxRecDepth 20000 in
theorem gX1_edgeFact_X0_isEdgeThat : GoodIn wsX1_edgeFact (wsV RX1 171 RX0 yX0_isEdgeThat wsX0_isEdgeThat) := goodIn_app (goodIn_of _ (by decide +kernel)) ggX1_edgeFact_X0_isEdgeThat
theorem dX1_edgeFact_0 : decode cX1_edgeFact 0 = .ok (.aload_n 0, 1) := by decide +kernel
theorem dX1_edgeFact_1 : decode cX1_edgeFact 1 = .ok (.getfield 10, 3) := by decide +kernel
theorem dX1_edgeFact_4 : decode cX1_edgeFact 4 = .ok (.iload_n 3, 1) := by decide +kernel
theorem dX1_edgeFact_5 : decode cX1_edgeFact 5 = .ok (.iload_n 1, 1) := by decide +kernel
theorem dX1_edgeFact_6 : decode cX1_edgeFact 6 = .ok (.iload_n 2, 1) := by decide +kernel
theorem dX1_edgeFact_7 : decode cX1_edgeFact 7 = .ok (.invokevirtual 171, 3) := by decide +kernel
theorem dX1_edgeFact_10 : decode cX1_edgeFact 10 = .ok (.ifCond .eq 7, 3) := by decide +kernel
theorem dX1_edgeFact_13 : decode cX1_edgeFact 13 = .ok (.iconst 1, 1) := by decide +kernel
theorem dX1_edgeFact_14 : decode cX1_edgeFact 14 = .ok (.goto 4, 3) := by decide +kernel
theorem dX1_edgeFact_17 : decode cX1_edgeFact 17 = .ok (.iconst 0, 1) := by decide +kernel
theorem dX1_edgeFact_18 : decode cX1_edgeFact 18 = .ok (.ireturn, 1) := by decide +kernel
set_option maxRecDepth 20000 in
theorem ggX1_countOf_X0_edgesThat : GoodIn wsX1_countOf wsX0_edgesThat := goodIn_r _ [9, 10, 11, 12, 13, 8, 14, 15, 16, 17, 18, 19, 20, 21, 22, 23, 24, 25, 26, 27, 28, 29, 30, 31, 32, 33, 34, 35, 36, 37, 38, 39, 40, 41, 42, 43, 44, 45, 46, 47, 48, 49, 50, 51, 52, 53, 54, 55, 56, 57, 58, 59, 60, 61, 62, 67, 68, 69, 70, 71, 72, 73] (by decide +kernel) (by decide +kernel)
set_option maxRecDepth 20000 in
theorem gX1_countOf_X0_edgesThat : GoodIn wsX1_countOf (wsV RX1 149 RX0 yX0_edgesThat wsX0_edgesThat) := goodIn_app (goodIn_of _ (by decide +kernel)) ggX1_countOf_X0_edgesThat
theorem dX1_countOf_0 : decode cX1_countOf 0 = .ok (.iload_n 1, 1) := by decide +kernel
theorem dX1_countOf_1 : decode cX1_countOf 1 = .ok (.tableswitch 91 0 5 #[39, 47, 55, 64, 73, 82], 39) := by decide +kernel
theorem dX1_countOf_40 : decode cX1_countOf 40 = .ok (.aload_n 0, 1) := by decide +kernel
theorem dX1_countOf_41 : decode cX1_countOf 41 = .ok (.getfield 10, 3) := by decide +kernel
theorem dX1_countOf_44 : decode cX1_countOf 44 = .ok (.getfield 35, 3) := by decide +kernel
theorem dX1_countOf_47 : decode cX1_countOf 47 = .ok (.ireturn, 1) := by decide +kernel
theorem dX1_countOf_48 : decode cX1_countOf 48 = .ok (.aload_n 0, 1) := by decide +kernel
theorem dX1_countOf_49 : decode cX1_countOf 49 = .ok (.getfield 10, 3) := by decide +kernel
theorem dX1_countOf_52 : decode cX1_countOf 52 = .ok (.getfield 102, 3) := by decide +kernel
theorem dX1_countOf_55 : decode cX1_countOf 55 = .ok (.ireturn, 1) := by decide +kernel
theorem dX1_countOf_56 : decode cX1_countOf 56 = .ok (.aload_n 0, 1) := by decide +kernel
theorem dX1_countOf_57 : decode cX1_countOf 57 = .ok (.getfield 10, 3) := by decide +kernel
theorem dX1_countOf_60 : decode cX1_countOf 60 = .ok (.iconst 0, 1) := by decide +kernel
theorem dX1_countOf_61 : decode cX1_countOf 61 = .ok (.invokevirtual 149, 3) := by decide +kernel
theorem dX1_countOf_64 : decode cX1_countOf 64 = .ok (.ireturn, 1) := by decide +kernel
theorem dX1_countOf_65 : decode cX1_countOf 65 = .ok (.aload_n 0, 1) := by decide +kernel
theorem dX1_countOf_66 : decode cX1_countOf 66 = .ok (.getfield 10, 3) := by decide +kernel
theorem dX1_countOf_69 : decode cX1_countOf 69 = .ok (.iconst 1, 1) := by decide +kernel
theorem dX1_countOf_70 : decode cX1_countOf 70 = .ok (.invokevirtual 149, 3) := by decide +kernel
theorem dX1_countOf_73 : decode cX1_countOf 73 = .ok (.ireturn, 1) := by decide +kernel
theorem dX1_countOf_74 : decode cX1_countOf 74 = .ok (.aload_n 0, 1) := by decide +kernel
theorem dX1_countOf_75 : decode cX1_countOf 75 = .ok (.getfield 10, 3) := by decide +kernel
theorem dX1_countOf_78 : decode cX1_countOf 78 = .ok (.iconst 2, 1) := by decide +kernel
theorem dX1_countOf_79 : decode cX1_countOf 79 = .ok (.invokevirtual 149, 3) := by decide +kernel
theorem dX1_countOf_82 : decode cX1_countOf 82 = .ok (.ireturn, 1) := by decide +kernel
theorem dX1_countOf_83 : decode cX1_countOf 83 = .ok (.aload_n 0, 1) := by decide +kernel
theorem dX1_countOf_84 : decode cX1_countOf 84 = .ok (.getfield 10, 3) := by decide +kernel
theorem dX1_countOf_87 : decode cX1_countOf 87 = .ok (.iconst 3, 1) := by decide +kernel
theorem dX1_countOf_88 : decode cX1_countOf 88 = .ok (.invokevirtual 149, 3) := by decide +kernel
theorem dX1_countOf_91 : decode cX1_countOf 91 = .ok (.ireturn, 1) := by decide +kernel
theorem dX1_countOf_92 : decode cX1_countOf 92 = .ok (.aload_n 0, 1) := by decide +kernel
theorem dX1_countOf_93 : decode cX1_countOf 93 = .ok (.getfield 23, 3) := by decide +kernel
theorem dX1_countOf_96 : decode cX1_countOf 96 = .ok (.ireturn, 1) := by decide +kernel
theorem dX1_heightOf_0 : decode cX1_heightOf 0 = .ok (.iload_n 1, 1) := by decide +kernel
theorem dX1_heightOf_1 : decode cX1_heightOf 1 = .ok (.ifCond .lt 21, 3) := by decide +kernel
theorem dX1_heightOf_4 : decode cX1_heightOf 4 = .ok (.iload_n 1, 1) := by decide +kernel
theorem dX1_heightOf_5 : decode cX1_heightOf 5 = .ok (.aload_n 0, 1) := by decide +kernel
theorem dX1_heightOf_6 : decode cX1_heightOf 6 = .ok (.getfield 19, 3) := by decide +kernel
theorem dX1_heightOf_9 : decode cX1_heightOf 9 = .ok (.arraylength, 1) := by decide +kernel
theorem dX1_heightOf_10 : decode cX1_heightOf 10 = .ok (.if_icmp .ge 12, 3) := by decide +kernel
theorem dX1_heightOf_13 : decode cX1_heightOf 13 = .ok (.aload_n 0, 1) := by decide +kernel
theorem dX1_heightOf_14 : decode cX1_heightOf 14 = .ok (.getfield 19, 3) := by decide +kernel
theorem dX1_heightOf_17 : decode cX1_heightOf 17 = .ok (.iload_n 1, 1) := by decide +kernel
theorem dX1_heightOf_18 : decode cX1_heightOf 18 = .ok (.iaload, 1) := by decide +kernel
theorem dX1_heightOf_19 : decode cX1_heightOf 19 = .ok (.goto 4, 3) := by decide +kernel
theorem dX1_heightOf_22 : decode cX1_heightOf 22 = .ok (.iconst 0, 1) := by decide +kernel
theorem dX1_heightOf_23 : decode cX1_heightOf 23 = .ok (.ireturn, 1) := by decide +kernel
theorem dX1_setHeight_0 : decode cX1_setHeight 0 = .ok (.iload_n 1, 1) := by decide +kernel
theorem dX1_setHeight_1 : decode cX1_setHeight 1 = .ok (.ifCond .lt 19, 3) := by decide +kernel
theorem dX1_setHeight_4 : decode cX1_setHeight 4 = .ok (.iload_n 1, 1) := by decide +kernel
theorem dX1_setHeight_5 : decode cX1_setHeight 5 = .ok (.aload_n 0, 1) := by decide +kernel
theorem dX1_setHeight_6 : decode cX1_setHeight 6 = .ok (.getfield 19, 3) := by decide +kernel
theorem dX1_setHeight_9 : decode cX1_setHeight 9 = .ok (.arraylength, 1) := by decide +kernel
theorem dX1_setHeight_10 : decode cX1_setHeight 10 = .ok (.if_icmp .ge 10, 3) := by decide +kernel
theorem dX1_setHeight_13 : decode cX1_setHeight 13 = .ok (.aload_n 0, 1) := by decide +kernel
theorem dX1_setHeight_14 : decode cX1_setHeight 14 = .ok (.getfield 19, 3) := by decide +kernel
theorem dX1_setHeight_17 : decode cX1_setHeight 17 = .ok (.iload_n 1, 1) := by decide +kernel
theorem dX1_setHeight_18 : decode cX1_setHeight 18 = .ok (.iload_n 2, 1) := by decide +kernel
theorem dX1_setHeight_19 : decode cX1_setHeight 19 = .ok (.iastore, 1) := by decide +kernel
theorem dX1_setHeight_20 : decode cX1_setHeight 20 = .ok (.return_, 1) := by decide +kernel
theorem dX1_needPlace_0 : decode cX1_needPlace 0 = .ok (.iload_n 1, 1) := by decide +kernel
theorem dX1_needPlace_1 : decode cX1_needPlace 1 = .ok (.ifCond .lt 19, 3) := by decide +kernel
theorem dX1_needPlace_4 : decode cX1_needPlace 4 = .ok (.iload_n 1, 1) := by decide +kernel
theorem dX1_needPlace_5 : decode cX1_needPlace 5 = .ok (.bipush 30, 2) := by decide +kernel
theorem dX1_needPlace_7 : decode cX1_needPlace 7 = .ok (.if_icmp .gt 13, 3) := by decide +kernel
theorem dX1_needPlace_10 : decode cX1_needPlace 10 = .ok (.iload_n 2, 1) := by decide +kernel
theorem dX1_needPlace_11 : decode cX1_needPlace 11 = .ok (.ifCond .lt 9, 3) := by decide +kernel
theorem dX1_needPlace_14 : decode cX1_needPlace 14 = .ok (.iload_n 2, 1) := by decide +kernel
theorem dX1_needPlace_15 : decode cX1_needPlace 15 = .ok (.bipush 30, 2) := by decide +kernel
theorem dX1_needPlace_17 : decode cX1_needPlace 17 = .ok (.if_icmp .le 13, 3) := by decide +kernel
theorem dX1_needPlace_20 : decode cX1_needPlace 20 = .ok (.new 175, 3) := by decide +kernel
theorem dX1_needPlace_23 : decode cX1_needPlace 23 = .ok (.dup, 1) := by decide +kernel
theorem dX1_needPlace_24 : decode cX1_needPlace 24 = .ok (.ldc 177, 2) := by decide +kernel
theorem dX1_needPlace_26 : decode cX1_needPlace 26 = .ok (.invokespecial 179, 3) := by decide +kernel
theorem dX1_needPlace_29 : decode cX1_needPlace 29 = .ok (.athrow, 1) := by decide +kernel
theorem dX1_needPlace_30 : decode cX1_needPlace 30 = .ok (.return_, 1) := by decide +kernel
theorem dX1_needHeight_0 : decode cX1_needHeight 0 = .ok (.iload_n 1, 1) := by decide +kernel
theorem dX1_needHeight_1 : decode cX1_needHeight 1 = .ok (.ifCond .lt 9, 3) := by decide +kernel
theorem dX1_needHeight_4 : decode cX1_needHeight 4 = .ok (.iload_n 1, 1) := by decide +kernel
theorem dX1_needHeight_5 : decode cX1_needHeight 5 = .ok (.bipush 99, 2) := by decide +kernel
theorem dX1_needHeight_7 : decode cX1_needHeight 7 = .ok (.if_icmp .le 13, 3) := by decide +kernel
theorem dX1_needHeight_10 : decode cX1_needHeight 10 = .ok (.new 175, 3) := by decide +kernel
theorem dX1_needHeight_13 : decode cX1_needHeight 13 = .ok (.dup, 1) := by decide +kernel
theorem dX1_needHeight_14 : decode cX1_needHeight 14 = .ok (.ldc 180, 2) := by decide +kernel
theorem dX1_needHeight_16 : decode cX1_needHeight 16 = .ok (.invokespecial 179, 3) := by decide +kernel
theorem dX1_needHeight_19 : decode cX1_needHeight 19 = .ok (.athrow, 1) := by decide +kernel
theorem dX1_needHeight_20 : decode cX1_needHeight 20 = .ok (.return_, 1) := by decide +kernel
set_option maxRecDepth 20000 in
theorem ggX1_needFreePlace_X0_hasCairnAt : GoodIn wsX1_needFreePlace wsX0_hasCairnAt := goodIn_r _ [8, 9, 10, 11, 12, 7, 13, 14, 15, 16, 17, 18, 19, 24, 25, 26, 27, 28, 29, 30] (by decide +kernel) (by decide +kernel)
set_option maxRecDepth 20000 in
theorem gX1_needFreePlace_X0_hasCairnAt : GoodIn wsX1_needFreePlace (wsV RX1 182 RX0 yX0_hasCairnAt wsX0_hasCairnAt) := goodIn_app (goodIn_of _ (by decide +kernel)) ggX1_needFreePlace_X0_hasCairnAt
theorem dX1_needFreePlace_0 : decode cX1_needFreePlace 0 = .ok (.aload_n 0, 1) := by decide +kernel
theorem dX1_needFreePlace_1 : decode cX1_needFreePlace 1 = .ok (.getfield 10, 3) := by decide +kernel
theorem dX1_needFreePlace_4 : decode cX1_needFreePlace 4 = .ok (.iload_n 1, 1) := by decide +kernel
theorem dX1_needFreePlace_5 : decode cX1_needFreePlace 5 = .ok (.iload_n 2, 1) := by decide +kernel
theorem dX1_needFreePlace_6 : decode cX1_needFreePlace 6 = .ok (.invokevirtual 182, 3) := by decide +kernel
theorem dX1_needFreePlace_9 : decode cX1_needFreePlace 9 = .ok (.ifCond .eq 13, 3) := by decide +kernel
theorem dX1_needFreePlace_12 : decode cX1_needFreePlace 12 = .ok (.new 38, 3) := by decide +kernel
theorem dX1_needFreePlace_15 : decode cX1_needFreePlace 15 = .ok (.dup, 1) := by decide +kernel
theorem dX1_needFreePlace_16 : decode cX1_needFreePlace 16 = .ok (.ldc 185, 2) := by decide +kernel
theorem dX1_needFreePlace_18 : decode cX1_needFreePlace 18 = .ok (.invokespecial 42, 3) := by decide +kernel
theorem dX1_needFreePlace_21 : decode cX1_needFreePlace 21 = .ok (.athrow, 1) := by decide +kernel
theorem dX1_needFreePlace_22 : decode cX1_needFreePlace 22 = .ok (.return_, 1) := by decide +kernel
set_option maxRecDepth 20000 in
theorem ggX1_needCairn_X0_isCairn : GoodIn wsX1_needCairn wsX0_isCairn := goodIn_r _ [8, 9, 14, 15, 16, 17, 18, 19, 20] (by decide +kernel) (by decide +kernel)
set_option maxRecDepth 20000 in
theorem gX1_needCairn_X0_isCairn : GoodIn wsX1_needCairn (wsV RX1 187 RX0 yX0_isCairn wsX0_isCairn) := goodIn_app (goodIn_of _ (by decide +kernel)) ggX1_needCairn_X0_isCairn
theorem dX1_needCairn_0 : decode cX1_needCairn 0 = .ok (.aload_n 0, 1) := by decide +kernel
theorem dX1_needCairn_1 : decode cX1_needCairn 1 = .ok (.getfield 10, 3) := by decide +kernel
theorem dX1_needCairn_4 : decode cX1_needCairn 4 = .ok (.iload_n 1, 1) := by decide +kernel
theorem dX1_needCairn_5 : decode cX1_needCairn 5 = .ok (.invokevirtual 187, 3) := by decide +kernel
theorem dX1_needCairn_8 : decode cX1_needCairn 8 = .ok (.ifCond .ne 13, 3) := by decide +kernel
theorem dX1_needCairn_11 : decode cX1_needCairn 11 = .ok (.new 105, 3) := by decide +kernel
theorem dX1_needCairn_14 : decode cX1_needCairn 14 = .ok (.dup, 1) := by decide +kernel
theorem dX1_needCairn_15 : decode cX1_needCairn 15 = .ok (.ldc 191, 2) := by decide +kernel
theorem dX1_needCairn_17 : decode cX1_needCairn 17 = .ok (.invokespecial 109, 3) := by decide +kernel
theorem dX1_needCairn_20 : decode cX1_needCairn 20 = .ok (.athrow, 1) := by decide +kernel
theorem dX1_needCairn_21 : decode cX1_needCairn 21 = .ok (.return_, 1) := by decide +kernel
set_option maxRecDepth 20000 in
theorem ggX1_needEdge_X0_isEdge : GoodIn wsX1_needEdge wsX0_isEdge := goodIn_r _ [8, 9, 10, 11, 7, 12, 13, 18, 19, 20, 21, 22, 23, 24] (by decide +kernel) (by decide +kernel)
set_option maxRecDepth 20000 in
theorem gX1_needEdge_X0_isEdge : GoodIn wsX1_needEdge (wsV RX1 156 RX0 yX0_isEdge wsX0_isEdge) := goodIn_app (goodIn_of _ (by decide +kernel)) ggX1_needEdge_X0_isEdge
theorem dX1_needEdge_0 : decode cX1_needEdge 0 = .ok (.aload_n 0, 1) := by decide +kernel
theorem dX1_needEdge_1 : decode cX1_needEdge 1 = .ok (.getfield 10, 3) := by decide +kernel
theorem dX1_needEdge_4 : decode cX1_needEdge 4 = .ok (.iload_n 1, 1) := by decide +kernel
theorem dX1_needEdge_5 : decode cX1_needEdge 5 = .ok (.iload_n 2, 1) := by decide +kernel
theorem dX1_needEdge_6 : decode cX1_needEdge 6 = .ok (.invokevirtual 156, 3) := by decide +kernel
theorem dX1_needEdge_9 : decode cX1_needEdge 9 = .ok (.ifCond .ne 13, 3) := by decide +kernel
theorem dX1_needEdge_12 : decode cX1_needEdge 12 = .ok (.new 38, 3) := by decide +kernel
theorem dX1_needEdge_15 : decode cX1_needEdge 15 = .ok (.dup, 1) := by decide +kernel
theorem dX1_needEdge_16 : decode cX1_needEdge 16 = .ok (.ldc 193, 2) := by decide +kernel
theorem dX1_needEdge_18 : decode cX1_needEdge 18 = .ok (.invokespecial 42, 3) := by decide +kernel
theorem dX1_needEdge_21 : decode cX1_needEdge 21 = .ok (.athrow, 1) := by decide +kernel
theorem dX1_needEdge_22 : decode cX1_needEdge 22 = .ok (.return_, 1) := by decide +kernel
theorem dX1_needWhat_0 : decode cX1_needWhat 0 = .ok (.iload_n 1, 1) := by decide +kernel
theorem dX1_needWhat_1 : decode cX1_needWhat 1 = .ok (.ifCond .lt 8, 3) := by decide +kernel
theorem dX1_needWhat_4 : decode cX1_needWhat 4 = .ok (.iload_n 1, 1) := by decide +kernel
theorem dX1_needWhat_5 : decode cX1_needWhat 5 = .ok (.iload_n 2, 1) := by decide +kernel
theorem dX1_needWhat_6 : decode cX1_needWhat 6 = .ok (.if_icmp .lt 13, 3) := by decide +kernel
theorem dX1_needWhat_9 : decode cX1_needWhat 9 = .ok (.new 105, 3) := by decide +kernel
theorem dX1_needWhat_12 : decode cX1_needWhat 12 = .ok (.dup, 1) := by decide +kernel
theorem dX1_needWhat_13 : decode cX1_needWhat 13 = .ok (.ldc 195, 2) := by decide +kernel
theorem dX1_needWhat_15 : decode cX1_needWhat 15 = .ok (.invokespecial 109, 3) := by decide +kernel
theorem dX1_needWhat_18 : decode cX1_needWhat 18 = .ok (.athrow, 1) := by decide +kernel
theorem dX1_needWhat_19 : decode cX1_needWhat 19 = .ok (.return_, 1) := by decide +kernel
theorem dX2_init_0 : decode cX2_init 0 = .ok (.aload_n 0, 1) := by decide +kernel
theorem dX2_init_1 : decode cX2_init 1 = .ok (.invokespecial 1, 3) := by decide +kernel
theorem dX2_init_4 : decode cX2_init 4 = .ok (.aload_n 0, 1) := by decide +kernel
theorem dX2_init_5 : decode cX2_init 5 = .ok (.iconst 4, 1) := by decide +kernel
theorem dX2_init_6 : decode cX2_init 6 = .ok (.anewarray 7, 3) := by decide +kernel
theorem dX2_init_9 : decode cX2_init 9 = .ok (.dup, 1) := by decide +kernel
theorem dX2_init_10 : decode cX2_init 10 = .ok (.iconst 0, 1) := by decide +kernel
theorem dX2_init_11 : decode cX2_init 11 = .ok (.iconst 3, 1) := by decide +kernel
theorem dX2_init_12 : decode cX2_init 12 = .ok (.newarray .int, 2) := by decide +kernel
theorem dX2_init_14 : decode cX2_init 14 = .ok (.dup, 1) := by decide +kernel
theorem dX2_init_15 : decode cX2_init 15 = .ok (.iconst 0, 1) := by decide +kernel
theorem dX2_init_16 : decode cX2_init 16 = .ok (.iconst 0, 1) := by decide +kernel
theorem dX2_init_17 : decode cX2_init 17 = .ok (.iastore, 1) := by decide +kernel
theorem dX2_init_18 : decode cX2_init 18 = .ok (.dup, 1) := by decide +kernel
theorem dX2_init_19 : decode cX2_init 19 = .ok (.iconst 1, 1) := by decide +kernel
theorem dX2_init_20 : decode cX2_init 20 = .ok (.iconst 0, 1) := by decide +kernel
theorem dX2_init_21 : decode cX2_init 21 = .ok (.iastore, 1) := by decide +kernel
theorem dX2_init_22 : decode cX2_init 22 = .ok (.dup, 1) := by decide +kernel
theorem dX2_init_23 : decode cX2_init 23 = .ok (.iconst 2, 1) := by decide +kernel
theorem dX2_init_24 : decode cX2_init 24 = .ok (.iconst 0, 1) := by decide +kernel
theorem dX2_init_25 : decode cX2_init 25 = .ok (.iastore, 1) := by decide +kernel
theorem dX2_init_26 : decode cX2_init 26 = .ok (.aastore, 1) := by decide +kernel
theorem dX2_init_27 : decode cX2_init 27 = .ok (.dup, 1) := by decide +kernel
theorem dX2_init_28 : decode cX2_init 28 = .ok (.iconst 1, 1) := by decide +kernel
theorem dX2_init_29 : decode cX2_init 29 = .ok (.iconst 3, 1) := by decide +kernel
theorem dX2_init_30 : decode cX2_init 30 = .ok (.newarray .int, 2) := by decide +kernel
theorem dX2_init_32 : decode cX2_init 32 = .ok (.dup, 1) := by decide +kernel
theorem dX2_init_33 : decode cX2_init 33 = .ok (.iconst 0, 1) := by decide +kernel
theorem dX2_init_34 : decode cX2_init 34 = .ok (.bipush 30, 2) := by decide +kernel
theorem dX2_init_36 : decode cX2_init 36 = .ok (.iastore, 1) := by decide +kernel
theorem dX2_init_37 : decode cX2_init 37 = .ok (.dup, 1) := by decide +kernel
theorem dX2_init_38 : decode cX2_init 38 = .ok (.iconst 1, 1) := by decide +kernel
theorem dX2_init_39 : decode cX2_init 39 = .ok (.iconst 0, 1) := by decide +kernel
theorem dX2_init_40 : decode cX2_init 40 = .ok (.iastore, 1) := by decide +kernel
theorem dX2_init_41 : decode cX2_init 41 = .ok (.dup, 1) := by decide +kernel
theorem dX2_init_42 : decode cX2_init 42 = .ok (.iconst 2, 1) := by decide +kernel
theorem dX2_init_43 : decode cX2_init 43 = .ok (.iconst 0, 1) := by decide +kernel
theorem dX2_init_44 : decode cX2_init 44 = .ok (.iastore, 1) := by decide +kernel
theorem dX2_init_45 : decode cX2_init 45 = .ok (.aastore, 1) := by decide +kernel
theorem dX2_init_46 : decode cX2_init 46 = .ok (.dup, 1) := by decide +kernel
theorem dX2_init_47 : decode cX2_init 47 = .ok (.iconst 2, 1) := by decide +kernel
theorem dX2_init_48 : decode cX2_init 48 = .ok (.iconst 3, 1) := by decide +kernel
theorem dX2_init_49 : decode cX2_init 49 = .ok (.newarray .int, 2) := by decide +kernel
theorem dX2_init_51 : decode cX2_init 51 = .ok (.dup, 1) := by decide +kernel
theorem dX2_init_52 : decode cX2_init 52 = .ok (.iconst 0, 1) := by decide +kernel
theorem dX2_init_53 : decode cX2_init 53 = .ok (.bipush 30, 2) := by decide +kernel
theorem dX2_init_55 : decode cX2_init 55 = .ok (.iastore, 1) := by decide +kernel
theorem dX2_init_56 : decode cX2_init 56 = .ok (.dup, 1) := by decide +kernel
theorem dX2_init_57 : decode cX2_init 57 = .ok (.iconst 1, 1) := by decide +kernel
theorem dX2_init_58 : decode cX2_init 58 = .ok (.bipush 30, 2) := by decide +kernel
theorem dX2_init_60 : decode cX2_init 60 = .ok (.iastore, 1) := by decide +kernel
theorem dX2_init_61 : decode cX2_init 61 = .ok (.dup, 1) := by decide +kernel
theorem dX2_init_62 : decode cX2_init 62 = .ok (.iconst 2, 1) := by decide +kernel
theorem dX2_init_63 : decode cX2_init 63 = .ok (.iconst 0, 1) := by decide +kernel
theorem dX2_init_64 : decode cX2_init 64 = .ok (.iastore, 1) := by decide +kernel
theorem dX2_init_65 : decode cX2_init 65 = .ok (.aastore, 1) := by decide +kernel
theorem dX2_init_66 : decode cX2_init 66 = .ok (.dup, 1) := by decide +kernel
theorem dX2_init_67 : decode cX2_init 67 = .ok (.iconst 3, 1) := by decide +kernel
theorem dX2_init_68 : decode cX2_init 68 = .ok (.iconst 3, 1) := by decide +kernel
theorem dX2_init_69 : decode cX2_init 69 = .ok (.newarray .int, 2) := by decide +kernel
theorem dX2_init_71 : decode cX2_init 71 = .ok (.dup, 1) := by decide +kernel
theorem dX2_init_72 : decode cX2_init 72 = .ok (.iconst 0, 1) := by decide +kernel
theorem dX2_init_73 : decode cX2_init 73 = .ok (.iconst 0, 1) := by decide +kernel
theorem dX2_init_74 : decode cX2_init 74 = .ok (.iastore, 1) := by decide +kernel
theorem dX2_init_75 : decode cX2_init 75 = .ok (.dup, 1) := by decide +kernel
theorem dX2_init_76 : decode cX2_init 76 = .ok (.iconst 1, 1) := by decide +kernel
theorem dX2_init_77 : decode cX2_init 77 = .ok (.bipush 30, 2) := by decide +kernel
theorem dX2_init_79 : decode cX2_init 79 = .ok (.iastore, 1) := by decide +kernel
theorem dX2_init_80 : decode cX2_init 80 = .ok (.dup, 1) := by decide +kernel
theorem dX2_init_81 : decode cX2_init 81 = .ok (.iconst 2, 1) := by decide +kernel
theorem dX2_init_82 : decode cX2_init 82 = .ok (.iconst 0, 1) := by decide +kernel
theorem dX2_init_83 : decode cX2_init 83 = .ok (.iastore, 1) := by decide +kernel
theorem dX2_init_84 : decode cX2_init 84 = .ok (.aastore, 1) := by decide +kernel
theorem dX2_init_85 : decode cX2_init 85 = .ok (.putfield 9, 3) := by decide +kernel
theorem dX2_init_88 : decode cX2_init 88 = .ok (.aload_n 0, 1) := by decide +kernel
theorem dX2_init_89 : decode cX2_init 89 = .ok (.iconst 2, 1) := by decide +kernel
theorem dX2_init_90 : decode cX2_init 90 = .ok (.anewarray 7, 3) := by decide +kernel
theorem dX2_init_93 : decode cX2_init 93 = .ok (.dup, 1) := by decide +kernel
theorem dX2_init_94 : decode cX2_init 94 = .ok (.iconst 0, 1) := by decide +kernel
theorem dX2_init_95 : decode cX2_init 95 = .ok (.iconst 3, 1) := by decide +kernel
theorem dX2_init_96 : decode cX2_init 96 = .ok (.newarray .int, 2) := by decide +kernel
theorem dX2_init_98 : decode cX2_init 98 = .ok (.dup, 1) := by decide +kernel
theorem dX2_init_99 : decode cX2_init 99 = .ok (.iconst 0, 1) := by decide +kernel
theorem dX2_init_100 : decode cX2_init 100 = .ok (.iconst 0, 1) := by decide +kernel
theorem dX2_init_101 : decode cX2_init 101 = .ok (.iastore, 1) := by decide +kernel
theorem dX2_init_102 : decode cX2_init 102 = .ok (.dup, 1) := by decide +kernel
theorem dX2_init_103 : decode cX2_init 103 = .ok (.iconst 1, 1) := by decide +kernel
theorem dX2_init_104 : decode cX2_init 104 = .ok (.iconst 1, 1) := by decide +kernel
theorem dX2_init_105 : decode cX2_init 105 = .ok (.iastore, 1) := by decide +kernel
theorem dX2_init_106 : decode cX2_init 106 = .ok (.dup, 1) := by decide +kernel
theorem dX2_init_107 : decode cX2_init 107 = .ok (.iconst 2, 1) := by decide +kernel
theorem dX2_init_108 : decode cX2_init 108 = .ok (.iconst 2, 1) := by decide +kernel
theorem dX2_init_109 : decode cX2_init 109 = .ok (.iastore, 1) := by decide +kernel
theorem dX2_init_110 : decode cX2_init 110 = .ok (.aastore, 1) := by decide +kernel
theorem dX2_init_111 : decode cX2_init 111 = .ok (.dup, 1) := by decide +kernel
theorem dX2_init_112 : decode cX2_init 112 = .ok (.iconst 1, 1) := by decide +kernel
theorem dX2_init_113 : decode cX2_init 113 = .ok (.iconst 3, 1) := by decide +kernel
theorem dX2_init_114 : decode cX2_init 114 = .ok (.newarray .int, 2) := by decide +kernel
theorem dX2_init_116 : decode cX2_init 116 = .ok (.dup, 1) := by decide +kernel
theorem dX2_init_117 : decode cX2_init 117 = .ok (.iconst 0, 1) := by decide +kernel
theorem dX2_init_118 : decode cX2_init 118 = .ok (.iconst 0, 1) := by decide +kernel
theorem dX2_init_119 : decode cX2_init 119 = .ok (.iastore, 1) := by decide +kernel
theorem dX2_init_120 : decode cX2_init 120 = .ok (.dup, 1) := by decide +kernel
theorem dX2_init_121 : decode cX2_init 121 = .ok (.iconst 1, 1) := by decide +kernel
theorem dX2_init_122 : decode cX2_init 122 = .ok (.iconst 2, 1) := by decide +kernel
theorem dX2_init_123 : decode cX2_init 123 = .ok (.iastore, 1) := by decide +kernel
theorem dX2_init_124 : decode cX2_init 124 = .ok (.dup, 1) := by decide +kernel
theorem dX2_init_125 : decode cX2_init 125 = .ok (.iconst 2, 1) := by decide +kernel
theorem dX2_init_126 : decode cX2_init 126 = .ok (.iconst 3, 1) := by decide +kernel
theorem dX2_init_127 : decode cX2_init 127 = .ok (.iastore, 1) := by decide +kernel
theorem dX2_init_128 : decode cX2_init 128 = .ok (.aastore, 1) := by decide +kernel
theorem dX2_init_129 : decode cX2_init 129 = .ok (.putfield 15, 3) := by decide +kernel
theorem dX2_init_132 : decode cX2_init 132 = .ok (.aload_n 0, 1) := by decide +kernel
theorem dX2_init_133 : decode cX2_init 133 = .ok (.iconst 0, 1) := by decide +kernel
theorem dX2_init_134 : decode cX2_init 134 = .ok (.anewarray 7, 3) := by decide +kernel
theorem dX2_init_137 : decode cX2_init 137 = .ok (.putfield 18, 3) := by decide +kernel
theorem dX2_init_140 : decode cX2_init 140 = .ok (.return_, 1) := by decide +kernel
theorem dX2_more_0 : decode cX2_more 0 = .ok (.aload_n 0, 1) := by decide +kernel
theorem dX2_more_1 : decode cX2_more 1 = .ok (.arraylength, 1) := by decide +kernel
theorem dX2_more_2 : decode cX2_more 2 = .ok (.iconst 1, 1) := by decide +kernel
theorem dX2_more_3 : decode cX2_more 3 = .ok (.iadd, 1) := by decide +kernel
theorem dX2_more_4 : decode cX2_more 4 = .ok (.anewarray 7, 3) := by decide +kernel
theorem dX2_more_7 : decode cX2_more 7 = .ok (.astore_n 2, 1) := by decide +kernel
theorem dX2_more_8 : decode cX2_more 8 = .ok (.iconst 0, 1) := by decide +kernel
theorem dX2_more_9 : decode cX2_more 9 = .ok (.istore_n 3, 1) := by decide +kernel
theorem dX2_more_10 : decode cX2_more 10 = .ok (.iload_n 3, 1) := by decide +kernel
theorem dX2_more_11 : decode cX2_more 11 = .ok (.aload_n 0, 1) := by decide +kernel
theorem dX2_more_12 : decode cX2_more 12 = .ok (.arraylength, 1) := by decide +kernel
theorem dX2_more_13 : decode cX2_more 13 = .ok (.if_icmp .ge 15, 3) := by decide +kernel
theorem dX2_more_16 : decode cX2_more 16 = .ok (.aload_n 2, 1) := by decide +kernel
theorem dX2_more_17 : decode cX2_more 17 = .ok (.iload_n 3, 1) := by decide +kernel
theorem dX2_more_18 : decode cX2_more 18 = .ok (.aload_n 0, 1) := by decide +kernel
theorem dX2_more_19 : decode cX2_more 19 = .ok (.iload_n 3, 1) := by decide +kernel
theorem dX2_more_20 : decode cX2_more 20 = .ok (.aaload, 1) := by decide +kernel
theorem dX2_more_21 : decode cX2_more 21 = .ok (.aastore, 1) := by decide +kernel
theorem dX2_more_22 : decode cX2_more 22 = .ok (.iinc 3 1, 3) := by decide +kernel
theorem dX2_more_25 : decode cX2_more 25 = .ok (.goto (-15), 3) := by decide +kernel
theorem dX2_more_28 : decode cX2_more 28 = .ok (.aload_n 2, 1) := by decide +kernel
theorem dX2_more_29 : decode cX2_more 29 = .ok (.aload_n 0, 1) := by decide +kernel
theorem dX2_more_30 : decode cX2_more 30 = .ok (.arraylength, 1) := by decide +kernel
theorem dX2_more_31 : decode cX2_more 31 = .ok (.aload_n 1, 1) := by decide +kernel
theorem dX2_more_32 : decode cX2_more 32 = .ok (.aastore, 1) := by decide +kernel
theorem dX2_more_33 : decode cX2_more 33 = .ok (.aload_n 2, 1) := by decide +kernel
theorem dX2_more_34 : decode cX2_more 34 = .ok (.areturn, 1) := by decide +kernel
theorem dX2_less_0 : decode cX2_less 0 = .ok (.aload_n 0, 1) := by decide +kernel
theorem dX2_less_1 : decode cX2_less 1 = .ok (.arraylength, 1) := by decide +kernel
theorem dX2_less_2 : decode cX2_less 2 = .ok (.iconst 1, 1) := by decide +kernel
theorem dX2_less_3 : decode cX2_less 3 = .ok (.isub, 1) := by decide +kernel
theorem dX2_less_4 : decode cX2_less 4 = .ok (.anewarray 7, 3) := by decide +kernel
theorem dX2_less_7 : decode cX2_less 7 = .ok (.astore_n 2, 1) := by decide +kernel
theorem dX2_less_8 : decode cX2_less 8 = .ok (.iconst 0, 1) := by decide +kernel
theorem dX2_less_9 : decode cX2_less 9 = .ok (.istore_n 3, 1) := by decide +kernel
theorem dX2_less_10 : decode cX2_less 10 = .ok (.iload_n 3, 1) := by decide +kernel
theorem dX2_less_11 : decode cX2_less 11 = .ok (.aload_n 2, 1) := by decide +kernel
theorem dX2_less_12 : decode cX2_less 12 = .ok (.arraylength, 1) := by decide +kernel
theorem dX2_less_13 : decode cX2_less 13 = .ok (.if_icmp .ge 26, 3) := by decide +kernel
theorem dX2_less_16 : decode cX2_less 16 = .ok (.aload_n 2, 1) := by decide +kernel
theorem dX2_less_17 : decode cX2_less 17 = .ok (.iload_n 3, 1) := by decide +kernel
theorem dX2_less_18 : decode cX2_less 18 = .ok (.aload_n 0, 1) := by decide +kernel
theorem dX2_less_19 : decode cX2_less 19 = .ok (.iload_n 3, 1) := by decide +kernel
theorem dX2_less_20 : decode cX2_less 20 = .ok (.iload_n 1, 1) := by decide +kernel
theorem dX2_less_21 : decode cX2_less 21 = .ok (.if_icmp .ge 7, 3) := by decide +kernel
theorem dX2_less_24 : decode cX2_less 24 = .ok (.iload_n 3, 1) := by decide +kernel
theorem dX2_less_25 : decode cX2_less 25 = .ok (.goto 6, 3) := by decide +kernel
theorem dX2_less_28 : decode cX2_less 28 = .ok (.iload_n 3, 1) := by decide +kernel
theorem dX2_less_29 : decode cX2_less 29 = .ok (.iconst 1, 1) := by decide +kernel
theorem dX2_less_30 : decode cX2_less 30 = .ok (.iadd, 1) := by decide +kernel
theorem dX2_less_31 : decode cX2_less 31 = .ok (.aaload, 1) := by decide +kernel
theorem dX2_less_32 : decode cX2_less 32 = .ok (.aastore, 1) := by decide +kernel
theorem dX2_less_33 : decode cX2_less 33 = .ok (.iinc 3 1, 3) := by decide +kernel
theorem dX2_less_36 : decode cX2_less 36 = .ok (.goto (-26), 3) := by decide +kernel
theorem dX2_less_39 : decode cX2_less 39 = .ok (.aload_n 2, 1) := by decide +kernel
theorem dX2_less_40 : decode cX2_less 40 = .ok (.areturn, 1) := by decide +kernel
set_option maxRecDepth 20000 in
theorem ggX2_three_X2_three : GoodIn wsX2_three wsX2_three := goodIn_r _ [0, 1, 2, 3, 4] (by decide +kernel) (by decide +kernel)
set_option maxRecDepth 20000 in
theorem gX2_three_X2_three : GoodIn wsX2_three (va_wsS RX2 26 yX2_three wsX2_three) := goodIn_app (goodIn_of _ (by decide +kernel)) ggX2_three_X2_three
theorem dX2_three_0 : decode cX2_three 0 = .ok (.iload_n 0, 1) := by decide +kernel
theorem dX2_three_1 : decode cX2_three 1 = .ok (.iload_n 1, 1) := by decide +kernel
theorem dX2_three_2 : decode cX2_three 2 = .ok (.if_icmp .le 12, 3) := by decide +kernel
theorem dX2_three_5 : decode cX2_three 5 = .ok (.iload_n 1, 1) := by decide +kernel
theorem dX2_three_6 : decode cX2_three 6 = .ok (.iload_n 0, 1) := by decide +kernel
theorem dX2_three_7 : decode cX2_three 7 = .ok (.iload_n 2, 1) := by decide +kernel
theorem dX2_three_8 : decode cX2_three 8 = .ok (.invokestatic 26, 3) := by decide +kernel
theorem dX2_three_11 : decode cX2_three 11 = .ok (.goto 32, 3) := by decide +kernel
theorem dX2_three_14 : decode cX2_three 14 = .ok (.iload_n 1, 1) := by decide +kernel
theorem dX2_three_15 : decode cX2_three 15 = .ok (.iload_n 2, 1) := by decide +kernel
theorem dX2_three_16 : decode cX2_three 16 = .ok (.if_icmp .le 12, 3) := by decide +kernel
theorem dX2_three_19 : decode cX2_three 19 = .ok (.iload_n 0, 1) := by decide +kernel
theorem dX2_three_20 : decode cX2_three 20 = .ok (.iload_n 2, 1) := by decide +kernel
theorem dX2_three_21 : decode cX2_three 21 = .ok (.iload_n 1, 1) := by decide +kernel
theorem dX2_three_22 : decode cX2_three 22 = .ok (.invokestatic 26, 3) := by decide +kernel
theorem dX2_three_25 : decode cX2_three 25 = .ok (.goto 18, 3) := by decide +kernel
theorem dX2_three_28 : decode cX2_three 28 = .ok (.iconst 3, 1) := by decide +kernel
theorem dX2_three_29 : decode cX2_three 29 = .ok (.newarray .int, 2) := by decide +kernel
theorem dX2_three_31 : decode cX2_three 31 = .ok (.dup, 1) := by decide +kernel
theorem dX2_three_32 : decode cX2_three 32 = .ok (.iconst 0, 1) := by decide +kernel
theorem dX2_three_33 : decode cX2_three 33 = .ok (.iload_n 0, 1) := by decide +kernel
theorem dX2_three_34 : decode cX2_three 34 = .ok (.iastore, 1) := by decide +kernel
theorem dX2_three_35 : decode cX2_three 35 = .ok (.dup, 1) := by decide +kernel
theorem dX2_three_36 : decode cX2_three 36 = .ok (.iconst 1, 1) := by decide +kernel
theorem dX2_three_37 : decode cX2_three 37 = .ok (.iload_n 1, 1) := by decide +kernel
theorem dX2_three_38 : decode cX2_three 38 = .ok (.iastore, 1) := by decide +kernel
theorem dX2_three_39 : decode cX2_three 39 = .ok (.dup, 1) := by decide +kernel
theorem dX2_three_40 : decode cX2_three 40 = .ok (.iconst 2, 1) := by decide +kernel
theorem dX2_three_41 : decode cX2_three 41 = .ok (.iload_n 2, 1) := by decide +kernel
theorem dX2_three_42 : decode cX2_three 42 = .ok (.iastore, 1) := by decide +kernel
theorem dX2_three_43 : decode cX2_three 43 = .ok (.areturn, 1) := by decide +kernel
theorem dX2_isAhead_0 : decode cX2_isAhead 0 = .ok (.aload_n 0, 1) := by decide +kernel
theorem dX2_isAhead_1 : decode cX2_isAhead 1 = .ok (.iconst 0, 1) := by decide +kernel
theorem dX2_isAhead_2 : decode cX2_isAhead 2 = .ok (.iaload, 1) := by decide +kernel
theorem dX2_isAhead_3 : decode cX2_isAhead 3 = .ok (.aload_n 1, 1) := by decide +kernel
theorem dX2_isAhead_4 : decode cX2_isAhead 4 = .ok (.iconst 0, 1) := by decide +kernel
theorem dX2_isAhead_5 : decode cX2_isAhead 5 = .ok (.iaload, 1) := by decide +kernel
theorem dX2_isAhead_6 : decode cX2_isAhead 6 = .ok (.if_icmp .eq 20, 3) := by decide +kernel
theorem dX2_isAhead_9 : decode cX2_isAhead 9 = .ok (.aload_n 0, 1) := by decide +kernel
theorem dX2_isAhead_10 : decode cX2_isAhead 10 = .ok (.iconst 0, 1) := by decide +kernel
theorem dX2_isAhead_11 : decode cX2_isAhead 11 = .ok (.iaload, 1) := by decide +kernel
theorem dX2_isAhead_12 : decode cX2_isAhead 12 = .ok (.aload_n 1, 1) := by decide +kernel
theorem dX2_isAhead_13 : decode cX2_isAhead 13 = .ok (.iconst 0, 1) := by decide +kernel
theorem dX2_isAhead_14 : decode cX2_isAhead 14 = .ok (.iaload, 1) := by decide +kernel
theorem dX2_isAhead_15 : decode cX2_isAhead 15 = .ok (.if_icmp .ge 7, 3) := by decide +kernel
theorem dX2_isAhead_18 : decode cX2_isAhead 18 = .ok (.iconst 1, 1) := by decide +kernel
theorem dX2_isAhead_19 : decode cX2_isAhead 19 = .ok (.goto 47, 3) := by decide +kernel
theorem dX2_isAhead_22 : decode cX2_isAhead 22 = .ok (.iconst 0, 1) := by decide +kernel
theorem dX2_isAhead_23 : decode cX2_isAhead 23 = .ok (.goto 43, 3) := by decide +kernel
theorem dX2_isAhead_26 : decode cX2_isAhead 26 = .ok (.aload_n 0, 1) := by decide +kernel
theorem dX2_isAhead_27 : decode cX2_isAhead 27 = .ok (.iconst 1, 1) := by decide +kernel
theorem dX2_isAhead_28 : decode cX2_isAhead 28 = .ok (.iaload, 1) := by decide +kernel
theorem dX2_isAhead_29 : decode cX2_isAhead 29 = .ok (.aload_n 1, 1) := by decide +kernel
theorem dX2_isAhead_30 : decode cX2_isAhead 30 = .ok (.iconst 1, 1) := by decide +kernel
theorem dX2_isAhead_31 : decode cX2_isAhead 31 = .ok (.iaload, 1) := by decide +kernel
theorem dX2_isAhead_32 : decode cX2_isAhead 32 = .ok (.if_icmp .eq 20, 3) := by decide +kernel
theorem dX2_isAhead_35 : decode cX2_isAhead 35 = .ok (.aload_n 0, 1) := by decide +kernel
theorem dX2_isAhead_36 : decode cX2_isAhead 36 = .ok (.iconst 1, 1) := by decide +kernel
theorem dX2_isAhead_37 : decode cX2_isAhead 37 = .ok (.iaload, 1) := by decide +kernel
theorem dX2_isAhead_38 : decode cX2_isAhead 38 = .ok (.aload_n 1, 1) := by decide +kernel
theorem dX2_isAhead_39 : decode cX2_isAhead 39 = .ok (.iconst 1, 1) := by decide +kernel
theorem dX2_isAhead_40 : decode cX2_isAhead 40 = .ok (.iaload, 1) := by decide +kernel
theorem dX2_isAhead_41 : decode cX2_isAhead 41 = .ok (.if_icmp .ge 7, 3) := by decide +kernel
theorem dX2_isAhead_44 : decode cX2_isAhead 44 = .ok (.iconst 1, 1) := by decide +kernel
theorem dX2_isAhead_45 : decode cX2_isAhead 45 = .ok (.goto 21, 3) := by decide +kernel
theorem dX2_isAhead_48 : decode cX2_isAhead 48 = .ok (.iconst 0, 1) := by decide +kernel
theorem dX2_isAhead_49 : decode cX2_isAhead 49 = .ok (.goto 17, 3) := by decide +kernel
theorem dX2_isAhead_52 : decode cX2_isAhead 52 = .ok (.aload_n 0, 1) := by decide +kernel
theorem dX2_isAhead_53 : decode cX2_isAhead 53 = .ok (.iconst 2, 1) := by decide +kernel
theorem dX2_isAhead_54 : decode cX2_isAhead 54 = .ok (.iaload, 1) := by decide +kernel
theorem dX2_isAhead_55 : decode cX2_isAhead 55 = .ok (.aload_n 1, 1) := by decide +kernel
theorem dX2_isAhead_56 : decode cX2_isAhead 56 = .ok (.iconst 2, 1) := by decide +kernel
theorem dX2_isAhead_57 : decode cX2_isAhead 57 = .ok (.iaload, 1) := by decide +kernel
theorem dX2_isAhead_58 : decode cX2_isAhead 58 = .ok (.if_icmp .ge 7, 3) := by decide +kernel
theorem dX2_isAhead_61 : decode cX2_isAhead 61 = .ok (.iconst 1, 1) := by decide +kernel
theorem dX2_isAhead_62 : decode cX2_isAhead 62 = .ok (.goto 4, 3) := by decide +kernel
theorem dX2_isAhead_65 : decode cX2_isAhead 65 = .ok (.iconst 0, 1) := by decide +kernel
theorem dX2_isAhead_66 : decode cX2_isAhead 66 = .ok (.ireturn, 1) := by decide +kernel
set_option maxRecDepth 20000 in
theorem ggX2_put_X2_three : GoodIn wsX2_put wsX2_three := goodIn_r _ [5, 6, 2, 3, 4] (by decide +kernel) (by decide +kernel)
set_option maxRecDepth 20000 in
theorem gX2_put_X2_three : GoodIn wsX2_put (va_wsS RX2 26 yX2_three wsX2_three) := goodIn_app (goodIn_of _ (by decide +kernel)) ggX2_put_X2_three
set_option maxRecDepth 20000 in
theorem ggX2_put_X2_more : GoodIn wsX2_put wsX2_more := goodIn_r _ [9, 10] (by decide +kernel) (by decide +kernel)
set_option maxRecDepth 20000 in
theorem gX2_put_X2_more : GoodIn wsX2_put (va_wsS RX2 30 yX2_more wsX2_more) := goodIn_app (goodIn_of _ (by decide +kernel)) ggX2_put_X2_more
set_option maxRecDepth 20000 in
theorem ggX2_put_X2_isAhead : GoodIn wsX2_put wsX2_isAhead := goodIn_r _ [13] (by decide +kernel) (by decide +kernel)
set_option maxRecDepth 20000 in
theorem gX2_put_X2_isAhead : GoodIn wsX2_put (va_wsS RX2 34 yX2_isAhead wsX2_isAhead) := goodIn_app (goodIn_of _ (by decide +kernel)) ggX2_put_X2_isAhead
theorem dX2_put_0 : decode cX2_put 0 = .ok (.aload_n 0, 1) := by decide +kernel
theorem dX2_put_1 : decode cX2_put 1 = .ok (.aload_n 0, 1) := by decide +kernel
theorem dX2_put_2 : decode cX2_put 2 = .ok (.getfield 15, 3) := by decide +kernel
theorem dX2_put_5 : decode cX2_put 5 = .ok (.iload_n 1, 1) := by decide +kernel
theorem dX2_put_6 : decode cX2_put 6 = .ok (.iload_n 2, 1) := by decide +kernel
theorem dX2_put_7 : decode cX2_put 7 = .ok (.iload_n 3, 1) := by decide +kernel
theorem dX2_put_8 : decode cX2_put 8 = .ok (.invokestatic 26, 3) := by decide +kernel
theorem dX2_put_11 : decode cX2_put 11 = .ok (.invokestatic 30, 3) := by decide +kernel
theorem dX2_put_14 : decode cX2_put 14 = .ok (.putfield 15, 3) := by decide +kernel
theorem dX2_put_17 : decode cX2_put 17 = .ok (.aload_n 0, 1) := by decide +kernel
theorem dX2_put_18 : decode cX2_put 18 = .ok (.getfield 15, 3) := by decide +kernel
theorem dX2_put_21 : decode cX2_put 21 = .ok (.arraylength, 1) := by decide +kernel
theorem dX2_put_22 : decode cX2_put 22 = .ok (.iconst 1, 1) := by decide +kernel
theorem dX2_put_23 : decode cX2_put 23 = .ok (.isub, 1) := by decide +kernel
theorem dX2_put_24 : decode cX2_put 24 = .ok (.istore 4, 2) := by decide +kernel
theorem dX2_put_26 : decode cX2_put 26 = .ok (.iload 4, 2) := by decide +kernel
theorem dX2_put_28 : decode cX2_put 28 = .ok (.ifCond .le 67, 3) := by decide +kernel
theorem dX2_put_31 : decode cX2_put 31 = .ok (.aload_n 0, 1) := by decide +kernel
theorem dX2_put_32 : decode cX2_put 32 = .ok (.getfield 15, 3) := by decide +kernel
theorem dX2_put_35 : decode cX2_put 35 = .ok (.iload 4, 2) := by decide +kernel
theorem dX2_put_37 : decode cX2_put 37 = .ok (.aaload, 1) := by decide +kernel
theorem dX2_put_38 : decode cX2_put 38 = .ok (.aload_n 0, 1) := by decide +kernel
theorem dX2_put_39 : decode cX2_put 39 = .ok (.getfield 15, 3) := by decide +kernel
theorem dX2_put_42 : decode cX2_put 42 = .ok (.iload 4, 2) := by decide +kernel
theorem dX2_put_44 : decode cX2_put 44 = .ok (.iconst 1, 1) := by decide +kernel
theorem dX2_put_45 : decode cX2_put 45 = .ok (.isub, 1) := by decide +kernel
theorem dX2_put_46 : decode cX2_put 46 = .ok (.aaload, 1) := by decide +kernel
theorem dX2_put_47 : decode cX2_put 47 = .ok (.invokestatic 34, 3) := by decide +kernel
theorem dX2_put_50 : decode cX2_put 50 = .ok (.ifCond .eq 45, 3) := by decide +kernel
theorem dX2_put_53 : decode cX2_put 53 = .ok (.aload_n 0, 1) := by decide +kernel
theorem dX2_put_54 : decode cX2_put 54 = .ok (.getfield 15, 3) := by decide +kernel
theorem dX2_put_57 : decode cX2_put 57 = .ok (.iload 4, 2) := by decide +kernel
theorem dX2_put_59 : decode cX2_put 59 = .ok (.aaload, 1) := by decide +kernel
theorem dX2_put_60 : decode cX2_put 60 = .ok (.astore 5, 2) := by decide +kernel
theorem dX2_put_62 : decode cX2_put 62 = .ok (.aload_n 0, 1) := by decide +kernel
theorem dX2_put_63 : decode cX2_put 63 = .ok (.getfield 15, 3) := by decide +kernel
theorem dX2_put_66 : decode cX2_put 66 = .ok (.iload 4, 2) := by decide +kernel
theorem dX2_put_68 : decode cX2_put 68 = .ok (.aload_n 0, 1) := by decide +kernel
theorem dX2_put_69 : decode cX2_put 69 = .ok (.getfield 15, 3) := by decide +kernel
theorem dX2_put_72 : decode cX2_put 72 = .ok (.iload 4, 2) := by decide +kernel
theorem dX2_put_74 : decode cX2_put 74 = .ok (.iconst 1, 1) := by decide +kernel
theorem dX2_put_75 : decode cX2_put 75 = .ok (.isub, 1) := by decide +kernel
theorem dX2_put_76 : decode cX2_put 76 = .ok (.aaload, 1) := by decide +kernel
theorem dX2_put_77 : decode cX2_put 77 = .ok (.aastore, 1) := by decide +kernel
theorem dX2_put_78 : decode cX2_put 78 = .ok (.aload_n 0, 1) := by decide +kernel
theorem dX2_put_79 : decode cX2_put 79 = .ok (.getfield 15, 3) := by decide +kernel
theorem dX2_put_82 : decode cX2_put 82 = .ok (.iload 4, 2) := by decide +kernel
theorem dX2_put_84 : decode cX2_put 84 = .ok (.iconst 1, 1) := by decide +kernel
theorem dX2_put_85 : decode cX2_put 85 = .ok (.isub, 1) := by decide +kernel
theorem dX2_put_86 : decode cX2_put 86 = .ok (.aload 5, 2) := by decide +kernel
theorem dX2_put_88 : decode cX2_put 88 = .ok (.aastore, 1) := by decide +kernel
theorem dX2_put_89 : decode cX2_put 89 = .ok (.iinc 4 (-1), 3) := by decide +kernel
theorem dX2_put_92 : decode cX2_put 92 = .ok (.goto (-66), 3) := by decide +kernel
theorem dX2_put_95 : decode cX2_put 95 = .ok (.return_, 1) := by decide +kernel
theorem dX2_cross_0 : decode cX2_cross 0 = .ok (.aload_n 2, 1) := by decide +kernel
theorem dX2_cross_1 : decode cX2_cross 1 = .ok (.iconst 0, 1) := by decide +kernel
theorem dX2_cross_2 : decode cX2_cross 2 = .ok (.iaload, 1) := by decide +kernel
theorem dX2_cross_3 : decode cX2_cross 3 = .ok (.aload_n 1, 1) := by decide +kernel
theorem dX2_cross_4 : decode cX2_cross 4 = .ok (.iconst 0, 1) := by decide +kernel
theorem dX2_cross_5 : decode cX2_cross 5 = .ok (.iaload, 1) := by decide +kernel
theorem dX2_cross_6 : decode cX2_cross 6 = .ok (.isub, 1) := by decide +kernel
theorem dX2_cross_7 : decode cX2_cross 7 = .ok (.aload_n 3, 1) := by decide +kernel
theorem dX2_cross_8 : decode cX2_cross 8 = .ok (.iconst 1, 1) := by decide +kernel
theorem dX2_cross_9 : decode cX2_cross 9 = .ok (.iaload, 1) := by decide +kernel
theorem dX2_cross_10 : decode cX2_cross 10 = .ok (.aload_n 1, 1) := by decide +kernel
theorem dX2_cross_11 : decode cX2_cross 11 = .ok (.iconst 1, 1) := by decide +kernel
theorem dX2_cross_12 : decode cX2_cross 12 = .ok (.iaload, 1) := by decide +kernel
theorem dX2_cross_13 : decode cX2_cross 13 = .ok (.isub, 1) := by decide +kernel
theorem dX2_cross_14 : decode cX2_cross 14 = .ok (.imul, 1) := by decide +kernel
theorem dX2_cross_15 : decode cX2_cross 15 = .ok (.aload_n 2, 1) := by decide +kernel
theorem dX2_cross_16 : decode cX2_cross 16 = .ok (.iconst 1, 1) := by decide +kernel
theorem dX2_cross_17 : decode cX2_cross 17 = .ok (.iaload, 1) := by decide +kernel
theorem dX2_cross_18 : decode cX2_cross 18 = .ok (.aload_n 1, 1) := by decide +kernel
theorem dX2_cross_19 : decode cX2_cross 19 = .ok (.iconst 1, 1) := by decide +kernel
theorem dX2_cross_20 : decode cX2_cross 20 = .ok (.iaload, 1) := by decide +kernel
theorem dX2_cross_21 : decode cX2_cross 21 = .ok (.isub, 1) := by decide +kernel
theorem dX2_cross_22 : decode cX2_cross 22 = .ok (.aload_n 3, 1) := by decide +kernel
theorem dX2_cross_23 : decode cX2_cross 23 = .ok (.iconst 0, 1) := by decide +kernel
theorem dX2_cross_24 : decode cX2_cross 24 = .ok (.iaload, 1) := by decide +kernel
theorem dX2_cross_25 : decode cX2_cross 25 = .ok (.aload_n 1, 1) := by decide +kernel
theorem dX2_cross_26 : decode cX2_cross 26 = .ok (.iconst 0, 1) := by decide +kernel
theorem dX2_cross_27 : decode cX2_cross 27 = .ok (.iaload, 1) := by decide +kernel
theorem dX2_cross_28 : decode cX2_cross 28 = .ok (.isub, 1) := by decide +kernel
theorem dX2_cross_29 : decode cX2_cross 29 = .ok (.imul, 1) := by decide +kernel
theorem dX2_cross_30 : decode cX2_cross 30 = .ok (.isub, 1) := by decide +kernel
theorem dX2_cross_31 : decode cX2_cross 31 = .ok (.ireturn, 1) := by decide +kernel
set_option maxRecDepth 20000 in
theorem ggX2_area_X2_cross : GoodIn wsX2_area wsX2_cross := goodIn_r _ [10] (by decide +kernel) (by decide +kernel)
set_option maxRecDepth 20000 in
theorem gX2_area_X2_cross : GoodIn wsX2_area (wsV RX2 38 RX2 yX2_cross wsX2_cross) := goodIn_app (goodIn_of _ (by decide +kernel)) ggX2_area_X2_cross
theorem dX2_area_0 : decode cX2_area 0 = .ok (.aload_n 0, 1) := by decide +kernel
theorem dX2_area_1 : decode cX2_area 1 = .ok (.aload_n 0, 1) := by decide +kernel
theorem dX2_area_2 : decode cX2_area 2 = .ok (.getfield 9, 3) := by decide +kernel
theorem dX2_area_5 : decode cX2_area 5 = .ok (.aload_n 1, 1) := by decide +kernel
theorem dX2_area_6 : decode cX2_area 6 = .ok (.iconst 0, 1) := by decide +kernel
theorem dX2_area_7 : decode cX2_area 7 = .ok (.iaload, 1) := by decide +kernel
theorem dX2_area_8 : decode cX2_area 8 = .ok (.aaload, 1) := by decide +kernel
theorem dX2_area_9 : decode cX2_area 9 = .ok (.aload_n 0, 1) := by decide +kernel
theorem dX2_area_10 : decode cX2_area 10 = .ok (.getfield 9, 3) := by decide +kernel
theorem dX2_area_13 : decode cX2_area 13 = .ok (.aload_n 1, 1) := by decide +kernel
theorem dX2_area_14 : decode cX2_area 14 = .ok (.iconst 1, 1) := by decide +kernel
theorem dX2_area_15 : decode cX2_area 15 = .ok (.iaload, 1) := by decide +kernel
theorem dX2_area_16 : decode cX2_area 16 = .ok (.aaload, 1) := by decide +kernel
theorem dX2_area_17 : decode cX2_area 17 = .ok (.aload_n 0, 1) := by decide +kernel
theorem dX2_area_18 : decode cX2_area 18 = .ok (.getfield 9, 3) := by decide +kernel
theorem dX2_area_21 : decode cX2_area 21 = .ok (.aload_n 1, 1) := by decide +kernel
theorem dX2_area_22 : decode cX2_area 22 = .ok (.iconst 2, 1) := by decide +kernel
theorem dX2_area_23 : decode cX2_area 23 = .ok (.iaload, 1) := by decide +kernel
theorem dX2_area_24 : decode cX2_area 24 = .ok (.aaload, 1) := by decide +kernel
theorem dX2_area_25 : decode cX2_area 25 = .ok (.invokevirtual 38, 3) := by decide +kernel
theorem dX2_area_28 : decode cX2_area 28 = .ok (.invokestatic 42, 3) := by decide +kernel
theorem dX2_area_31 : decode cX2_area 31 = .ok (.ireturn, 1) := by decide +kernel
theorem dX2_has_0 : decode cX2_has 0 = .ok (.aload_n 0, 1) := by decide +kernel
theorem dX2_has_1 : decode cX2_has 1 = .ok (.iconst 0, 1) := by decide +kernel
theorem dX2_has_2 : decode cX2_has 2 = .ok (.iaload, 1) := by decide +kernel
theorem dX2_has_3 : decode cX2_has 3 = .ok (.iload_n 1, 1) := by decide +kernel
theorem dX2_has_4 : decode cX2_has 4 = .ok (.if_icmp .eq 17, 3) := by decide +kernel
theorem dX2_has_7 : decode cX2_has 7 = .ok (.aload_n 0, 1) := by decide +kernel
theorem dX2_has_8 : decode cX2_has 8 = .ok (.iconst 1, 1) := by decide +kernel
theorem dX2_has_9 : decode cX2_has 9 = .ok (.iaload, 1) := by decide +kernel
theorem dX2_has_10 : decode cX2_has 10 = .ok (.iload_n 1, 1) := by decide +kernel
theorem dX2_has_11 : decode cX2_has 11 = .ok (.if_icmp .eq 10, 3) := by decide +kernel
theorem dX2_has_14 : decode cX2_has 14 = .ok (.aload_n 0, 1) := by decide +kernel
theorem dX2_has_15 : decode cX2_has 15 = .ok (.iconst 2, 1) := by decide +kernel
theorem dX2_has_16 : decode cX2_has 16 = .ok (.iaload, 1) := by decide +kernel
theorem dX2_has_17 : decode cX2_has 17 = .ok (.iload_n 1, 1) := by decide +kernel
theorem dX2_has_18 : decode cX2_has 18 = .ok (.if_icmp .ne 7, 3) := by decide +kernel
theorem dX2_has_21 : decode cX2_has 21 = .ok (.iconst 1, 1) := by decide +kernel
theorem dX2_has_22 : decode cX2_has 22 = .ok (.goto 4, 3) := by decide +kernel
theorem dX2_has_25 : decode cX2_has 25 = .ok (.iconst 0, 1) := by decide +kernel
theorem dX2_has_26 : decode cX2_has 26 = .ok (.ireturn, 1) := by decide +kernel
set_option maxRecDepth 20000 in
theorem ggX2_fars_X2_has : GoodIn wsX2_fars wsX2_has := goodIn_r _ [6] (by decide +kernel) (by decide +kernel)
set_option maxRecDepth 20000 in
theorem gX2_fars_X2_has : GoodIn wsX2_fars (va_wsS RX2 48 yX2_has wsX2_has) := goodIn_app (goodIn_of _ (by decide +kernel)) ggX2_fars_X2_has
theorem dX2_fars_0 : decode cX2_fars 0 = .ok (.iconst 0, 1) := by decide +kernel
theorem dX2_fars_1 : decode cX2_fars 1 = .ok (.newarray .int, 2) := by decide +kernel
theorem dX2_fars_3 : decode cX2_fars 3 = .ok (.astore_n 3, 1) := by decide +kernel
theorem dX2_fars_4 : decode cX2_fars 4 = .ok (.aload_n 0, 1) := by decide +kernel
theorem dX2_fars_5 : decode cX2_fars 5 = .ok (.getfield 15, 3) := by decide +kernel
theorem dX2_fars_8 : decode cX2_fars 8 = .ok (.astore 4, 2) := by decide +kernel
theorem dX2_fars_10 : decode cX2_fars 10 = .ok (.aload 4, 2) := by decide +kernel
theorem dX2_fars_12 : decode cX2_fars 12 = .ok (.arraylength, 1) := by decide +kernel
theorem dX2_fars_13 : decode cX2_fars 13 = .ok (.istore 5, 2) := by decide +kernel
theorem dX2_fars_15 : decode cX2_fars 15 = .ok (.iconst 0, 1) := by decide +kernel
theorem dX2_fars_16 : decode cX2_fars 16 = .ok (.istore 6, 2) := by decide +kernel
theorem dX2_fars_18 : decode cX2_fars 18 = .ok (.iload 6, 2) := by decide +kernel
theorem dX2_fars_20 : decode cX2_fars 20 = .ok (.iload 5, 2) := by decide +kernel
theorem dX2_fars_22 : decode cX2_fars 22 = .ok (.if_icmp .ge 93, 3) := by decide +kernel
theorem dX2_fars_25 : decode cX2_fars 25 = .ok (.aload 4, 2) := by decide +kernel
theorem dX2_fars_27 : decode cX2_fars 27 = .ok (.iload 6, 2) := by decide +kernel
theorem dX2_fars_29 : decode cX2_fars 29 = .ok (.aaload, 1) := by decide +kernel
theorem dX2_fars_30 : decode cX2_fars 30 = .ok (.astore 7, 2) := by decide +kernel
theorem dX2_fars_32 : decode cX2_fars 32 = .ok (.iload_n 1, 1) := by decide +kernel
theorem dX2_fars_33 : decode cX2_fars 33 = .ok (.iload_n 2, 1) := by decide +kernel
theorem dX2_fars_34 : decode cX2_fars 34 = .ok (.if_icmp .eq 75, 3) := by decide +kernel
theorem dX2_fars_37 : decode cX2_fars 37 = .ok (.aload 7, 2) := by decide +kernel
theorem dX2_fars_39 : decode cX2_fars 39 = .ok (.iload_n 1, 1) := by decide +kernel
theorem dX2_fars_40 : decode cX2_fars 40 = .ok (.invokestatic 48, 3) := by decide +kernel
theorem dX2_fars_43 : decode cX2_fars 43 = .ok (.ifCond .eq 66, 3) := by decide +kernel
theorem dX2_fars_46 : decode cX2_fars 46 = .ok (.aload 7, 2) := by decide +kernel
theorem dX2_fars_48 : decode cX2_fars 48 = .ok (.iload_n 2, 1) := by decide +kernel
theorem dX2_fars_49 : decode cX2_fars 49 = .ok (.invokestatic 48, 3) := by decide +kernel
theorem dX2_fars_52 : decode cX2_fars 52 = .ok (.ifCond .ne 6, 3) := by decide +kernel
theorem dX2_fars_55 : decode cX2_fars 55 = .ok (.goto 54, 3) := by decide +kernel
theorem dX2_fars_58 : decode cX2_fars 58 = .ok (.aload 7, 2) := by decide +kernel
theorem dX2_fars_60 : decode cX2_fars 60 = .ok (.iconst 0, 1) := by decide +kernel
theorem dX2_fars_61 : decode cX2_fars 61 = .ok (.iaload, 1) := by decide +kernel
theorem dX2_fars_62 : decode cX2_fars 62 = .ok (.aload 7, 2) := by decide +kernel
theorem dX2_fars_64 : decode cX2_fars 64 = .ok (.iconst 1, 1) := by decide +kernel
theorem dX2_fars_65 : decode cX2_fars 65 = .ok (.iaload, 1) := by decide +kernel
theorem dX2_fars_66 : decode cX2_fars 66 = .ok (.iadd, 1) := by decide +kernel
theorem dX2_fars_67 : decode cX2_fars 67 = .ok (.aload 7, 2) := by decide +kernel
theorem dX2_fars_69 : decode cX2_fars 69 = .ok (.iconst 2, 1) := by decide +kernel
theorem dX2_fars_70 : decode cX2_fars 70 = .ok (.iaload, 1) := by decide +kernel
theorem dX2_fars_71 : decode cX2_fars 71 = .ok (.iadd, 1) := by decide +kernel
theorem dX2_fars_72 : decode cX2_fars 72 = .ok (.iload_n 1, 1) := by decide +kernel
theorem dX2_fars_73 : decode cX2_fars 73 = .ok (.isub, 1) := by decide +kernel
theorem dX2_fars_74 : decode cX2_fars 74 = .ok (.iload_n 2, 1) := by decide +kernel
theorem dX2_fars_75 : decode cX2_fars 75 = .ok (.isub, 1) := by decide +kernel
theorem dX2_fars_76 : decode cX2_fars 76 = .ok (.istore 8, 2) := by decide +kernel
theorem dX2_fars_78 : decode cX2_fars 78 = .ok (.aload_n 3, 1) := by decide +kernel
theorem dX2_fars_79 : decode cX2_fars 79 = .ok (.arraylength, 1) := by decide +kernel
theorem dX2_fars_80 : decode cX2_fars 80 = .ok (.ifCond .ne 14, 3) := by decide +kernel
theorem dX2_fars_83 : decode cX2_fars 83 = .ok (.iconst 1, 1) := by decide +kernel
theorem dX2_fars_84 : decode cX2_fars 84 = .ok (.newarray .int, 2) := by decide +kernel
theorem dX2_fars_86 : decode cX2_fars 86 = .ok (.dup, 1) := by decide +kernel
theorem dX2_fars_87 : decode cX2_fars 87 = .ok (.iconst 0, 1) := by decide +kernel
theorem dX2_fars_88 : decode cX2_fars 88 = .ok (.iload 8, 2) := by decide +kernel
theorem dX2_fars_90 : decode cX2_fars 90 = .ok (.iastore, 1) := by decide +kernel
theorem dX2_fars_91 : decode cX2_fars 91 = .ok (.goto 17, 3) := by decide +kernel
theorem dX2_fars_94 : decode cX2_fars 94 = .ok (.iconst 2, 1) := by decide +kernel
theorem dX2_fars_95 : decode cX2_fars 95 = .ok (.newarray .int, 2) := by decide +kernel
theorem dX2_fars_97 : decode cX2_fars 97 = .ok (.dup, 1) := by decide +kernel
theorem dX2_fars_98 : decode cX2_fars 98 = .ok (.iconst 0, 1) := by decide +kernel
theorem dX2_fars_99 : decode cX2_fars 99 = .ok (.aload_n 3, 1) := by decide +kernel
theorem dX2_fars_100 : decode cX2_fars 100 = .ok (.iconst 0, 1) := by decide +kernel
theorem dX2_fars_101 : decode cX2_fars 101 = .ok (.iaload, 1) := by decide +kernel
theorem dX2_fars_102 : decode cX2_fars 102 = .ok (.iastore, 1) := by decide +kernel
theorem dX2_fars_103 : decode cX2_fars 103 = .ok (.dup, 1) := by decide +kernel
theorem dX2_fars_104 : decode cX2_fars 104 = .ok (.iconst 1, 1) := by decide +kernel
theorem dX2_fars_105 : decode cX2_fars 105 = .ok (.iload 8, 2) := by decide +kernel
theorem dX2_fars_107 : decode cX2_fars 107 = .ok (.iastore, 1) := by decide +kernel
theorem dX2_fars_108 : decode cX2_fars 108 = .ok (.astore_n 3, 1) := by decide +kernel
theorem dX2_fars_109 : decode cX2_fars 109 = .ok (.iinc 6 1, 3) := by decide +kernel
theorem dX2_fars_112 : decode cX2_fars 112 = .ok (.goto (-94), 3) := by decide +kernel
theorem dX2_fars_115 : decode cX2_fars 115 = .ok (.aload_n 3, 1) := by decide +kernel
theorem dX2_fars_116 : decode cX2_fars 116 = .ok (.areturn, 1) := by decide +kernel
theorem dX2_isIn_0 : decode cX2_isIn 0 = .ok (.aload_n 0, 1) := by decide +kernel
theorem dX2_isIn_1 : decode cX2_isIn 1 = .ok (.getfield 9, 3) := by decide +kernel
theorem dX2_isIn_4 : decode cX2_isIn 4 = .ok (.aload_n 1, 1) := by decide +kernel
theorem dX2_isIn_5 : decode cX2_isIn 5 = .ok (.iconst 0, 1) := by decide +kernel
theorem dX2_isIn_6 : decode cX2_isIn 6 = .ok (.iaload, 1) := by decide +kernel
theorem dX2_isIn_7 : decode cX2_isIn 7 = .ok (.aaload, 1) := by decide +kernel
theorem dX2_isIn_8 : decode cX2_isIn 8 = .ok (.astore 4, 2) := by decide +kernel
theorem dX2_isIn_10 : decode cX2_isIn 10 = .ok (.aload_n 0, 1) := by decide +kernel
theorem dX2_isIn_11 : decode cX2_isIn 11 = .ok (.getfield 9, 3) := by decide +kernel
theorem dX2_isIn_14 : decode cX2_isIn 14 = .ok (.aload_n 1, 1) := by decide +kernel
theorem dX2_isIn_15 : decode cX2_isIn 15 = .ok (.iconst 1, 1) := by decide +kernel
theorem dX2_isIn_16 : decode cX2_isIn 16 = .ok (.iaload, 1) := by decide +kernel
theorem dX2_isIn_17 : decode cX2_isIn 17 = .ok (.aaload, 1) := by decide +kernel
theorem dX2_isIn_18 : decode cX2_isIn 18 = .ok (.iconst 0, 1) := by decide +kernel
theorem dX2_isIn_19 : decode cX2_isIn 19 = .ok (.iaload, 1) := by decide +kernel
theorem dX2_isIn_20 : decode cX2_isIn 20 = .ok (.aload 4, 2) := by decide +kernel
theorem dX2_isIn_22 : decode cX2_isIn 22 = .ok (.iconst 0, 1) := by decide +kernel
theorem dX2_isIn_23 : decode cX2_isIn 23 = .ok (.iaload, 1) := by decide +kernel
theorem dX2_isIn_24 : decode cX2_isIn 24 = .ok (.isub, 1) := by decide +kernel
theorem dX2_isIn_25 : decode cX2_isIn 25 = .ok (.i2l, 1) := by decide +kernel
theorem dX2_isIn_26 : decode cX2_isIn 26 = .ok (.lstore 5, 2) := by decide +kernel
theorem dX2_isIn_28 : decode cX2_isIn 28 = .ok (.aload_n 0, 1) := by decide +kernel
theorem dX2_isIn_29 : decode cX2_isIn 29 = .ok (.getfield 9, 3) := by decide +kernel
theorem dX2_isIn_32 : decode cX2_isIn 32 = .ok (.aload_n 1, 1) := by decide +kernel
theorem dX2_isIn_33 : decode cX2_isIn 33 = .ok (.iconst 1, 1) := by decide +kernel
theorem dX2_isIn_34 : decode cX2_isIn 34 = .ok (.iaload, 1) := by decide +kernel
theorem dX2_isIn_35 : decode cX2_isIn 35 = .ok (.aaload, 1) := by decide +kernel
theorem dX2_isIn_36 : decode cX2_isIn 36 = .ok (.iconst 1, 1) := by decide +kernel
theorem dX2_isIn_37 : decode cX2_isIn 37 = .ok (.iaload, 1) := by decide +kernel
theorem dX2_isIn_38 : decode cX2_isIn 38 = .ok (.aload 4, 2) := by decide +kernel
theorem dX2_isIn_40 : decode cX2_isIn 40 = .ok (.iconst 1, 1) := by decide +kernel
theorem dX2_isIn_41 : decode cX2_isIn 41 = .ok (.iaload, 1) := by decide +kernel
theorem dX2_isIn_42 : decode cX2_isIn 42 = .ok (.isub, 1) := by decide +kernel
theorem dX2_isIn_43 : decode cX2_isIn 43 = .ok (.i2l, 1) := by decide +kernel
theorem dX2_isIn_44 : decode cX2_isIn 44 = .ok (.lstore 7, 2) := by decide +kernel
theorem dX2_isIn_46 : decode cX2_isIn 46 = .ok (.aload_n 0, 1) := by decide +kernel
theorem dX2_isIn_47 : decode cX2_isIn 47 = .ok (.getfield 9, 3) := by decide +kernel
theorem dX2_isIn_50 : decode cX2_isIn 50 = .ok (.aload_n 1, 1) := by decide +kernel
theorem dX2_isIn_51 : decode cX2_isIn 51 = .ok (.iconst 2, 1) := by decide +kernel
theorem dX2_isIn_52 : decode cX2_isIn 52 = .ok (.iaload, 1) := by decide +kernel
theorem dX2_isIn_53 : decode cX2_isIn 53 = .ok (.aaload, 1) := by decide +kernel
theorem dX2_isIn_54 : decode cX2_isIn 54 = .ok (.iconst 0, 1) := by decide +kernel
theorem dX2_isIn_55 : decode cX2_isIn 55 = .ok (.iaload, 1) := by decide +kernel
theorem dX2_isIn_56 : decode cX2_isIn 56 = .ok (.aload 4, 2) := by decide +kernel
theorem dX2_isIn_58 : decode cX2_isIn 58 = .ok (.iconst 0, 1) := by decide +kernel
theorem dX2_isIn_59 : decode cX2_isIn 59 = .ok (.iaload, 1) := by decide +kernel
theorem dX2_isIn_60 : decode cX2_isIn 60 = .ok (.isub, 1) := by decide +kernel
theorem dX2_isIn_61 : decode cX2_isIn 61 = .ok (.i2l, 1) := by decide +kernel
theorem dX2_isIn_62 : decode cX2_isIn 62 = .ok (.lstore 9, 2) := by decide +kernel
theorem dX2_isIn_64 : decode cX2_isIn 64 = .ok (.aload_n 0, 1) := by decide +kernel
theorem dX2_isIn_65 : decode cX2_isIn 65 = .ok (.getfield 9, 3) := by decide +kernel
theorem dX2_isIn_68 : decode cX2_isIn 68 = .ok (.aload_n 1, 1) := by decide +kernel
theorem dX2_isIn_69 : decode cX2_isIn 69 = .ok (.iconst 2, 1) := by decide +kernel
theorem dX2_isIn_70 : decode cX2_isIn 70 = .ok (.iaload, 1) := by decide +kernel
theorem dX2_isIn_71 : decode cX2_isIn 71 = .ok (.aaload, 1) := by decide +kernel
theorem dX2_isIn_72 : decode cX2_isIn 72 = .ok (.iconst 1, 1) := by decide +kernel
theorem dX2_isIn_73 : decode cX2_isIn 73 = .ok (.iaload, 1) := by decide +kernel
theorem dX2_isIn_74 : decode cX2_isIn 74 = .ok (.aload 4, 2) := by decide +kernel
theorem dX2_isIn_76 : decode cX2_isIn 76 = .ok (.iconst 1, 1) := by decide +kernel
theorem dX2_isIn_77 : decode cX2_isIn 77 = .ok (.iaload, 1) := by decide +kernel
theorem dX2_isIn_78 : decode cX2_isIn 78 = .ok (.isub, 1) := by decide +kernel
theorem dX2_isIn_79 : decode cX2_isIn 79 = .ok (.i2l, 1) := by decide +kernel
theorem dX2_isIn_80 : decode cX2_isIn 80 = .ok (.lstore 11, 2) := by decide +kernel
theorem dX2_isIn_82 : decode cX2_isIn 82 = .ok (.ldc2_w 52, 3) := by decide +kernel
theorem dX2_isIn_85 : decode cX2_isIn 85 = .ok (.lload 5, 2) := by decide +kernel
theorem dX2_isIn_87 : decode cX2_isIn 87 = .ok (.lload 11, 2) := by decide +kernel
theorem dX2_isIn_89 : decode cX2_isIn 89 = .ok (.lmul, 1) := by decide +kernel
theorem dX2_isIn_90 : decode cX2_isIn 90 = .ok (.lload 7, 2) := by decide +kernel
theorem dX2_isIn_92 : decode cX2_isIn 92 = .ok (.lload 9, 2) := by decide +kernel
theorem dX2_isIn_94 : decode cX2_isIn 94 = .ok (.lmul, 1) := by decide +kernel
theorem dX2_isIn_95 : decode cX2_isIn 95 = .ok (.lsub, 1) := by decide +kernel
theorem dX2_isIn_96 : decode cX2_isIn 96 = .ok (.lmul, 1) := by decide +kernel
theorem dX2_isIn_97 : decode cX2_isIn 97 = .ok (.lstore 13, 2) := by decide +kernel
theorem dX2_isIn_99 : decode cX2_isIn 99 = .ok (.lload 11, 2) := by decide +kernel
theorem dX2_isIn_101 : decode cX2_isIn 101 = .ok (.lload 5, 2) := by decide +kernel
theorem dX2_isIn_103 : decode cX2_isIn 103 = .ok (.lload 5, 2) := by decide +kernel
theorem dX2_isIn_105 : decode cX2_isIn 105 = .ok (.lmul, 1) := by decide +kernel
theorem dX2_isIn_106 : decode cX2_isIn 106 = .ok (.lload 7, 2) := by decide +kernel
theorem dX2_isIn_108 : decode cX2_isIn 108 = .ok (.lload 7, 2) := by decide +kernel
theorem dX2_isIn_110 : decode cX2_isIn 110 = .ok (.lmul, 1) := by decide +kernel
theorem dX2_isIn_111 : decode cX2_isIn 111 = .ok (.ladd, 1) := by decide +kernel
theorem dX2_isIn_112 : decode cX2_isIn 112 = .ok (.lmul, 1) := by decide +kernel
theorem dX2_isIn_113 : decode cX2_isIn 113 = .ok (.lload 7, 2) := by decide +kernel
theorem dX2_isIn_115 : decode cX2_isIn 115 = .ok (.lload 9, 2) := by decide +kernel
theorem dX2_isIn_117 : decode cX2_isIn 117 = .ok (.lload 9, 2) := by decide +kernel
theorem dX2_isIn_119 : decode cX2_isIn 119 = .ok (.lmul, 1) := by decide +kernel
theorem dX2_isIn_120 : decode cX2_isIn 120 = .ok (.lload 11, 2) := by decide +kernel
theorem dX2_isIn_122 : decode cX2_isIn 122 = .ok (.lload 11, 2) := by decide +kernel
theorem dX2_isIn_124 : decode cX2_isIn 124 = .ok (.lmul, 1) := by decide +kernel
theorem dX2_isIn_125 : decode cX2_isIn 125 = .ok (.ladd, 1) := by decide +kernel
theorem dX2_isIn_126 : decode cX2_isIn 126 = .ok (.lmul, 1) := by decide +kernel
theorem dX2_isIn_127 : decode cX2_isIn 127 = .ok (.lsub, 1) := by decide +kernel
theorem dX2_isIn_128 : decode cX2_isIn 128 = .ok (.lstore 15, 2) := by decide +kernel
theorem dX2_isIn_130 : decode cX2_isIn 130 = .ok (.lload 5, 2) := by decide +kernel
theorem dX2_isIn_132 : decode cX2_isIn 132 = .ok (.lload 9, 2) := by decide +kernel
theorem dX2_isIn_134 : decode cX2_isIn 134 = .ok (.lload 9, 2) := by decide +kernel
theorem dX2_isIn_136 : decode cX2_isIn 136 = .ok (.lmul, 1) := by decide +kernel
theorem dX2_isIn_137 : decode cX2_isIn 137 = .ok (.lload 11, 2) := by decide +kernel
theorem dX2_isIn_139 : decode cX2_isIn 139 = .ok (.lload 11, 2) := by decide +kernel
theorem dX2_isIn_141 : decode cX2_isIn 141 = .ok (.lmul, 1) := by decide +kernel
theorem dX2_isIn_142 : decode cX2_isIn 142 = .ok (.ladd, 1) := by decide +kernel
theorem dX2_isIn_143 : decode cX2_isIn 143 = .ok (.lmul, 1) := by decide +kernel
theorem dX2_isIn_144 : decode cX2_isIn 144 = .ok (.lload 9, 2) := by decide +kernel
theorem dX2_isIn_146 : decode cX2_isIn 146 = .ok (.lload 5, 2) := by decide +kernel
theorem dX2_isIn_148 : decode cX2_isIn 148 = .ok (.lload 5, 2) := by decide +kernel
theorem dX2_isIn_150 : decode cX2_isIn 150 = .ok (.lmul, 1) := by decide +kernel
theorem dX2_isIn_151 : decode cX2_isIn 151 = .ok (.lload 7, 2) := by decide +kernel
theorem dX2_isIn_153 : decode cX2_isIn 153 = .ok (.lload 7, 2) := by decide +kernel
theorem dX2_isIn_155 : decode cX2_isIn 155 = .ok (.lmul, 1) := by decide +kernel
theorem dX2_isIn_156 : decode cX2_isIn 156 = .ok (.ladd, 1) := by decide +kernel
theorem dX2_isIn_157 : decode cX2_isIn 157 = .ok (.lmul, 1) := by decide +kernel
theorem dX2_isIn_158 : decode cX2_isIn 158 = .ok (.lsub, 1) := by decide +kernel
theorem dX2_isIn_159 : decode cX2_isIn 159 = .ok (.lstore 17, 2) := by decide +kernel
theorem dX2_isIn_161 : decode cX2_isIn 161 = .ok (.lload 15, 2) := by decide +kernel
theorem dX2_isIn_163 : decode cX2_isIn 163 = .ok (.lload 13, 2) := by decide +kernel
theorem dX2_isIn_165 : decode cX2_isIn 165 = .ok (.iload_n 2, 1) := by decide +kernel
theorem dX2_isIn_166 : decode cX2_isIn 166 = .ok (.aload 4, 2) := by decide +kernel
theorem dX2_isIn_168 : decode cX2_isIn 168 = .ok (.iconst 0, 1) := by decide +kernel
theorem dX2_isIn_169 : decode cX2_isIn 169 = .ok (.iaload, 1) := by decide +kernel
theorem dX2_isIn_170 : decode cX2_isIn 170 = .ok (.isub, 1) := by decide +kernel
theorem dX2_isIn_171 : decode cX2_isIn 171 = .ok (.i2l, 1) := by decide +kernel
theorem dX2_isIn_172 : decode cX2_isIn 172 = .ok (.lmul, 1) := by decide +kernel
theorem dX2_isIn_173 : decode cX2_isIn 173 = .ok (.lsub, 1) := by decide +kernel
theorem dX2_isIn_174 : decode cX2_isIn 174 = .ok (.lstore 19, 2) := by decide +kernel
theorem dX2_isIn_176 : decode cX2_isIn 176 = .ok (.lload 17, 2) := by decide +kernel
theorem dX2_isIn_178 : decode cX2_isIn 178 = .ok (.lload 13, 2) := by decide +kernel
theorem dX2_isIn_180 : decode cX2_isIn 180 = .ok (.iload_n 3, 1) := by decide +kernel
theorem dX2_isIn_181 : decode cX2_isIn 181 = .ok (.aload 4, 2) := by decide +kernel
theorem dX2_isIn_183 : decode cX2_isIn 183 = .ok (.iconst 1, 1) := by decide +kernel
theorem dX2_isIn_184 : decode cX2_isIn 184 = .ok (.iaload, 1) := by decide +kernel
theorem dX2_isIn_185 : decode cX2_isIn 185 = .ok (.isub, 1) := by decide +kernel
theorem dX2_isIn_186 : decode cX2_isIn 186 = .ok (.i2l, 1) := by decide +kernel
theorem dX2_isIn_187 : decode cX2_isIn 187 = .ok (.lmul, 1) := by decide +kernel
theorem dX2_isIn_188 : decode cX2_isIn 188 = .ok (.lsub, 1) := by decide +kernel
theorem dX2_isIn_189 : decode cX2_isIn 189 = .ok (.lstore 21, 2) := by decide +kernel
theorem dX2_isIn_191 : decode cX2_isIn 191 = .ok (.lload 19, 2) := by decide +kernel
theorem dX2_isIn_193 : decode cX2_isIn 193 = .ok (.lload 19, 2) := by decide +kernel
theorem dX2_isIn_195 : decode cX2_isIn 195 = .ok (.lmul, 1) := by decide +kernel
theorem dX2_isIn_196 : decode cX2_isIn 196 = .ok (.lload 21, 2) := by decide +kernel
theorem dX2_isIn_198 : decode cX2_isIn 198 = .ok (.lload 21, 2) := by decide +kernel
theorem dX2_isIn_200 : decode cX2_isIn 200 = .ok (.lmul, 1) := by decide +kernel
theorem dX2_isIn_201 : decode cX2_isIn 201 = .ok (.ladd, 1) := by decide +kernel
theorem dX2_isIn_202 : decode cX2_isIn 202 = .ok (.lload 15, 2) := by decide +kernel
theorem dX2_isIn_204 : decode cX2_isIn 204 = .ok (.lload 15, 2) := by decide +kernel
theorem dX2_isIn_206 : decode cX2_isIn 206 = .ok (.lmul, 1) := by decide +kernel
theorem dX2_isIn_207 : decode cX2_isIn 207 = .ok (.lload 17, 2) := by decide +kernel
theorem dX2_isIn_209 : decode cX2_isIn 209 = .ok (.lload 17, 2) := by decide +kernel
theorem dX2_isIn_211 : decode cX2_isIn 211 = .ok (.lmul, 1) := by decide +kernel
theorem dX2_isIn_212 : decode cX2_isIn 212 = .ok (.ladd, 1) := by decide +kernel
theorem dX2_isIn_213 : decode cX2_isIn 213 = .ok (.lcmp, 1) := by decide +kernel
theorem dX2_isIn_214 : decode cX2_isIn 214 = .ok (.ifCond .ge 7, 3) := by decide +kernel
theorem dX2_isIn_217 : decode cX2_isIn 217 = .ok (.iconst 1, 1) := by decide +kernel
theorem dX2_isIn_218 : decode cX2_isIn 218 = .ok (.goto 4, 3) := by decide +kernel
theorem dX2_isIn_221 : decode cX2_isIn 221 = .ok (.iconst 0, 1) := by decide +kernel
theorem dX2_isIn_222 : decode cX2_isIn 222 = .ok (.ireturn, 1) := by decide +kernel
theorem dX2_isStaying_0 : decode cX2_isStaying 0 = .ok (.aload_n 0, 1) := by decide +kernel
theorem dX2_isStaying_1 : decode cX2_isStaying 1 = .ok (.getfield 18, 3) := by decide +kernel
theorem dX2_isStaying_4 : decode cX2_isStaying 4 = .ok (.astore_n 3, 1) := by decide +kernel
theorem dX2_isStaying_5 : decode cX2_isStaying 5 = .ok (.aload_n 3, 1) := by decide +kernel
theorem dX2_isStaying_6 : decode cX2_isStaying 6 = .ok (.arraylength, 1) := by decide +kernel
theorem dX2_isStaying_7 : decode cX2_isStaying 7 = .ok (.istore 4, 2) := by decide +kernel
theorem dX2_isStaying_9 : decode cX2_isStaying 9 = .ok (.iconst 0, 1) := by decide +kernel
theorem dX2_isStaying_10 : decode cX2_isStaying 10 = .ok (.istore 5, 2) := by decide +kernel
theorem dX2_isStaying_12 : decode cX2_isStaying 12 = .ok (.iload 5, 2) := by decide +kernel
theorem dX2_isStaying_14 : decode cX2_isStaying 14 = .ok (.iload 4, 2) := by decide +kernel
theorem dX2_isStaying_16 : decode cX2_isStaying 16 = .ok (.if_icmp .ge 49, 3) := by decide +kernel
theorem dX2_isStaying_19 : decode cX2_isStaying 19 = .ok (.aload_n 3, 1) := by decide +kernel
theorem dX2_isStaying_20 : decode cX2_isStaying 20 = .ok (.iload 5, 2) := by decide +kernel
theorem dX2_isStaying_22 : decode cX2_isStaying 22 = .ok (.aaload, 1) := by decide +kernel
theorem dX2_isStaying_23 : decode cX2_isStaying 23 = .ok (.astore 6, 2) := by decide +kernel
theorem dX2_isStaying_25 : decode cX2_isStaying 25 = .ok (.aload 6, 2) := by decide +kernel
theorem dX2_isStaying_27 : decode cX2_isStaying 27 = .ok (.iconst 0, 1) := by decide +kernel
theorem dX2_isStaying_28 : decode cX2_isStaying 28 = .ok (.iaload, 1) := by decide +kernel
theorem dX2_isStaying_29 : decode cX2_isStaying 29 = .ok (.iload_n 1, 1) := by decide +kernel
theorem dX2_isStaying_30 : decode cX2_isStaying 30 = .ok (.if_icmp .ne 11, 3) := by decide +kernel
theorem dX2_isStaying_33 : decode cX2_isStaying 33 = .ok (.aload 6, 2) := by decide +kernel
theorem dX2_isStaying_35 : decode cX2_isStaying 35 = .ok (.iconst 1, 1) := by decide +kernel
theorem dX2_isStaying_36 : decode cX2_isStaying 36 = .ok (.iaload, 1) := by decide +kernel
theorem dX2_isStaying_37 : decode cX2_isStaying 37 = .ok (.iload_n 2, 1) := by decide +kernel
theorem dX2_isStaying_38 : decode cX2_isStaying 38 = .ok (.if_icmp .eq 19, 3) := by decide +kernel
