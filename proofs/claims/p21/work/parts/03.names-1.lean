theorem dX0_hasCairnAt_37 : decode cX0_hasCairnAt 37 = .ok (.ireturn, 1) := by decide +kernel
set_option maxRecDepth 20000 in
theorem ggX0_edgesAt_X0_isEdge : GoodIn wsX0_edgesAt wsX0_isEdge := goodIn_r _ [6, 7, 8, 9, 5, 10, 11, 12, 13, 14, 15, 16, 17, 18] (by decide +kernel) (by decide +kernel)
set_option maxRecDepth 20000 in
theorem gX0_edgesAt_X0_isEdge : GoodIn wsX0_edgesAt (wsV RX0 60 RX0 yX0_isEdge wsX0_isEdge) := goodIn_app (goodIn_of _ (by decide +kernel)) ggX0_edgesAt_X0_isEdge
theorem dX0_edgesAt_0 : decode cX0_edgesAt 0 = .ok (.iconst 0, 1) := by decide +kernel
theorem dX0_edgesAt_1 : decode cX0_edgesAt 1 = .ok (.istore_n 2, 1) := by decide +kernel
theorem dX0_edgesAt_2 : decode cX0_edgesAt 2 = .ok (.iconst 0, 1) := by decide +kernel
theorem dX0_edgesAt_3 : decode cX0_edgesAt 3 = .ok (.istore_n 3, 1) := by decide +kernel
theorem dX0_edgesAt_4 : decode cX0_edgesAt 4 = .ok (.iload_n 3, 1) := by decide +kernel
theorem dX0_edgesAt_5 : decode cX0_edgesAt 5 = .ok (.aload_n 0, 1) := by decide +kernel
theorem dX0_edgesAt_6 : decode cX0_edgesAt 6 = .ok (.getfield 38, 3) := by decide +kernel
theorem dX0_edgesAt_9 : decode cX0_edgesAt 9 = .ok (.if_icmp .ge 21, 3) := by decide +kernel
theorem dX0_edgesAt_12 : decode cX0_edgesAt 12 = .ok (.aload_n 0, 1) := by decide +kernel
theorem dX0_edgesAt_13 : decode cX0_edgesAt 13 = .ok (.iload_n 1, 1) := by decide +kernel
theorem dX0_edgesAt_14 : decode cX0_edgesAt 14 = .ok (.iload_n 3, 1) := by decide +kernel
theorem dX0_edgesAt_15 : decode cX0_edgesAt 15 = .ok (.invokevirtual 60, 3) := by decide +kernel
theorem dX0_edgesAt_18 : decode cX0_edgesAt 18 = .ok (.ifCond .eq 6, 3) := by decide +kernel
theorem dX0_edgesAt_21 : decode cX0_edgesAt 21 = .ok (.iinc 2 1, 3) := by decide +kernel
theorem dX0_edgesAt_24 : decode cX0_edgesAt 24 = .ok (.iinc 3 1, 3) := by decide +kernel
theorem dX0_edgesAt_27 : decode cX0_edgesAt 27 = .ok (.goto (-23), 3) := by decide +kernel
theorem dX0_edgesAt_30 : decode cX0_edgesAt 30 = .ok (.iload_n 2, 1) := by decide +kernel
theorem dX0_edgesAt_31 : decode cX0_edgesAt 31 = .ok (.ireturn, 1) := by decide +kernel
set_option maxRecDepth 20000 in
theorem ggX0_trianglesAt_X0_leftOf : GoodIn wsX0_trianglesAt wsX0_leftOf := goodIn_r _ [6, 7, 8, 9, 10, 11, 12, 13, 14] (by decide +kernel) (by decide +kernel)
set_option maxRecDepth 20000 in
theorem gX0_trianglesAt_X0_leftOf : GoodIn wsX0_trianglesAt (wsV RX0 64 RX0 yX0_leftOf wsX0_leftOf) := goodIn_app (goodIn_of _ (by decide +kernel)) ggX0_trianglesAt_X0_leftOf
theorem dX0_trianglesAt_0 : decode cX0_trianglesAt 0 = .ok (.iconst 0, 1) := by decide +kernel
theorem dX0_trianglesAt_1 : decode cX0_trianglesAt 1 = .ok (.istore_n 2, 1) := by decide +kernel
theorem dX0_trianglesAt_2 : decode cX0_trianglesAt 2 = .ok (.iconst 0, 1) := by decide +kernel
theorem dX0_trianglesAt_3 : decode cX0_trianglesAt 3 = .ok (.istore_n 3, 1) := by decide +kernel
theorem dX0_trianglesAt_4 : decode cX0_trianglesAt 4 = .ok (.iload_n 3, 1) := by decide +kernel
theorem dX0_trianglesAt_5 : decode cX0_trianglesAt 5 = .ok (.aload_n 0, 1) := by decide +kernel
theorem dX0_trianglesAt_6 : decode cX0_trianglesAt 6 = .ok (.getfield 38, 3) := by decide +kernel
theorem dX0_trianglesAt_9 : decode cX0_trianglesAt 9 = .ok (.if_icmp .ge 22, 3) := by decide +kernel
theorem dX0_trianglesAt_12 : decode cX0_trianglesAt 12 = .ok (.aload_n 0, 1) := by decide +kernel
theorem dX0_trianglesAt_13 : decode cX0_trianglesAt 13 = .ok (.iload_n 1, 1) := by decide +kernel
theorem dX0_trianglesAt_14 : decode cX0_trianglesAt 14 = .ok (.iload_n 3, 1) := by decide +kernel
theorem dX0_trianglesAt_15 : decode cX0_trianglesAt 15 = .ok (.invokevirtual 64, 3) := by decide +kernel
theorem dX0_trianglesAt_18 : decode cX0_trianglesAt 18 = .ok (.iconst (-1), 1) := by decide +kernel
theorem dX0_trianglesAt_19 : decode cX0_trianglesAt 19 = .ok (.if_icmp .eq 6, 3) := by decide +kernel
theorem dX0_trianglesAt_22 : decode cX0_trianglesAt 22 = .ok (.iinc 2 1, 3) := by decide +kernel
theorem dX0_trianglesAt_25 : decode cX0_trianglesAt 25 = .ok (.iinc 3 1, 3) := by decide +kernel
theorem dX0_trianglesAt_28 : decode cX0_trianglesAt 28 = .ok (.goto (-24), 3) := by decide +kernel
theorem dX0_trianglesAt_31 : decode cX0_trianglesAt 31 = .ok (.iload_n 2, 1) := by decide +kernel
theorem dX0_trianglesAt_32 : decode cX0_trianglesAt 32 = .ok (.ireturn, 1) := by decide +kernel
theorem dX0_leftOf_0 : decode cX0_leftOf 0 = .ok (.iload_n 1, 1) := by decide +kernel
theorem dX0_leftOf_1 : decode cX0_leftOf 1 = .ok (.ifCond .lt 33, 3) := by decide +kernel
theorem dX0_leftOf_4 : decode cX0_leftOf 4 = .ok (.iload_n 1, 1) := by decide +kernel
theorem dX0_leftOf_5 : decode cX0_leftOf 5 = .ok (.bipush 17, 2) := by decide +kernel
theorem dX0_leftOf_7 : decode cX0_leftOf 7 = .ok (.if_icmp .ge 27, 3) := by decide +kernel
theorem dX0_leftOf_10 : decode cX0_leftOf 10 = .ok (.iload_n 2, 1) := by decide +kernel
theorem dX0_leftOf_11 : decode cX0_leftOf 11 = .ok (.ifCond .lt 23, 3) := by decide +kernel
theorem dX0_leftOf_14 : decode cX0_leftOf 14 = .ok (.iload_n 2, 1) := by decide +kernel
theorem dX0_leftOf_15 : decode cX0_leftOf 15 = .ok (.bipush 17, 2) := by decide +kernel
theorem dX0_leftOf_17 : decode cX0_leftOf 17 = .ok (.if_icmp .ge 17, 3) := by decide +kernel
theorem dX0_leftOf_20 : decode cX0_leftOf 20 = .ok (.aload_n 0, 1) := by decide +kernel
theorem dX0_leftOf_21 : decode cX0_leftOf 21 = .ok (.getfield 18, 3) := by decide +kernel
theorem dX0_leftOf_24 : decode cX0_leftOf 24 = .ok (.iload_n 1, 1) := by decide +kernel
theorem dX0_leftOf_25 : decode cX0_leftOf 25 = .ok (.bipush 17, 2) := by decide +kernel
theorem dX0_leftOf_27 : decode cX0_leftOf 27 = .ok (.imul, 1) := by decide +kernel
theorem dX0_leftOf_28 : decode cX0_leftOf 28 = .ok (.iload_n 2, 1) := by decide +kernel
theorem dX0_leftOf_29 : decode cX0_leftOf 29 = .ok (.iadd, 1) := by decide +kernel
theorem dX0_leftOf_30 : decode cX0_leftOf 30 = .ok (.iaload, 1) := by decide +kernel
theorem dX0_leftOf_31 : decode cX0_leftOf 31 = .ok (.goto 4, 3) := by decide +kernel
theorem dX0_leftOf_34 : decode cX0_leftOf 34 = .ok (.iconst (-1), 1) := by decide +kernel
theorem dX0_leftOf_35 : decode cX0_leftOf 35 = .ok (.ireturn, 1) := by decide +kernel
theorem dX0_corner_0 : decode cX0_corner 0 = .ok (.iload_n 1, 1) := by decide +kernel
theorem dX0_corner_1 : decode cX0_corner 1 = .ok (.ifCond .lt 18, 3) := by decide +kernel
theorem dX0_corner_4 : decode cX0_corner 4 = .ok (.iload_n 1, 1) := by decide +kernel
theorem dX0_corner_5 : decode cX0_corner 5 = .ok (.bipush 28, 2) := by decide +kernel
theorem dX0_corner_7 : decode cX0_corner 7 = .ok (.if_icmp .ge 12, 3) := by decide +kernel
theorem dX0_corner_10 : decode cX0_corner 10 = .ok (.iload_n 2, 1) := by decide +kernel
theorem dX0_corner_11 : decode cX0_corner 11 = .ok (.ifCond .lt 8, 3) := by decide +kernel
theorem dX0_corner_14 : decode cX0_corner 14 = .ok (.iload_n 2, 1) := by decide +kernel
theorem dX0_corner_15 : decode cX0_corner 15 = .ok (.iconst 2, 1) := by decide +kernel
theorem dX0_corner_16 : decode cX0_corner 16 = .ok (.if_icmp .le 5, 3) := by decide +kernel
theorem dX0_corner_19 : decode cX0_corner 19 = .ok (.iconst (-1), 1) := by decide +kernel
theorem dX0_corner_20 : decode cX0_corner 20 = .ok (.ireturn, 1) := by decide +kernel
theorem dX0_corner_21 : decode cX0_corner 21 = .ok (.aload_n 0, 1) := by decide +kernel
theorem dX0_corner_22 : decode cX0_corner 22 = .ok (.getfield 24, 3) := by decide +kernel
theorem dX0_corner_25 : decode cX0_corner 25 = .ok (.iconst 3, 1) := by decide +kernel
theorem dX0_corner_26 : decode cX0_corner 26 = .ok (.iload_n 1, 1) := by decide +kernel
theorem dX0_corner_27 : decode cX0_corner 27 = .ok (.imul, 1) := by decide +kernel
theorem dX0_corner_28 : decode cX0_corner 28 = .ok (.iload_n 2, 1) := by decide +kernel
theorem dX0_corner_29 : decode cX0_corner 29 = .ok (.iadd, 1) := by decide +kernel
theorem dX0_corner_30 : decode cX0_corner 30 = .ok (.iaload, 1) := by decide +kernel
theorem dX0_corner_31 : decode cX0_corner 31 = .ok (.ireturn, 1) := by decide +kernel
set_option maxRecDepth 20000 in
theorem ggX0_areaOf_X0_corner : GoodIn wsX0_areaOf wsX0_corner := goodIn_r _ [9, 10, 25, 26, 27, 28, 29, 30, 31] (by decide +kernel) (by decide +kernel)
set_option maxRecDepth 20000 in
theorem gX0_areaOf_X0_corner : GoodIn wsX0_areaOf (wsV RX0 74 RX0 yX0_corner wsX0_corner) := goodIn_app (goodIn_of _ (by decide +kernel)) ggX0_areaOf_X0_corner
set_option maxRecDepth 20000 in
theorem ggX0_areaOf_X0_xOf : GoodIn wsX0_areaOf wsX0_xOf := goodIn_r _ [14, 15, 25, 26, 27, 28, 29, 30, 31] (by decide +kernel) (by decide +kernel)
set_option maxRecDepth 20000 in
theorem gX0_areaOf_X0_xOf : GoodIn wsX0_areaOf (wsV RX0 49 RX0 yX0_xOf wsX0_xOf) := goodIn_app (goodIn_of _ (by decide +kernel)) ggX0_areaOf_X0_xOf
set_option maxRecDepth 20000 in
theorem ggX0_areaOf_X0_yOf : GoodIn wsX0_areaOf wsX0_yOf := goodIn_r _ [19, 20, 25, 26, 27, 28, 29, 30, 31] (by decide +kernel) (by decide +kernel)
set_option maxRecDepth 20000 in
theorem gX0_areaOf_X0_yOf : GoodIn wsX0_areaOf (wsV RX0 53 RX0 yX0_yOf wsX0_yOf) := goodIn_app (goodIn_of _ (by decide +kernel)) ggX0_areaOf_X0_yOf
set_option maxRecDepth 20000 in
theorem ggX0_areaOf_X0_turn : GoodIn wsX0_areaOf wsX0_turn := goodIn_r _ [24, 11, 12, 13, 8, 14, 15, 16, 17, 18, 19, 20, 25, 26, 27, 28, 29, 30, 31] (by decide +kernel) (by decide +kernel)
set_option maxRecDepth 20000 in
theorem gX0_areaOf_X0_turn : GoodIn wsX0_areaOf (wsV RX0 77 RX0 yX0_turn wsX0_turn) := goodIn_app (goodIn_of _ (by decide +kernel)) ggX0_areaOf_X0_turn
theorem dX0_areaOf_0 : decode cX0_areaOf 0 = .ok (.aload_n 0, 1) := by decide +kernel
theorem dX0_areaOf_1 : decode cX0_areaOf 1 = .ok (.iload_n 1, 1) := by decide +kernel
theorem dX0_areaOf_2 : decode cX0_areaOf 2 = .ok (.iconst 2, 1) := by decide +kernel
theorem dX0_areaOf_3 : decode cX0_areaOf 3 = .ok (.invokevirtual 74, 3) := by decide +kernel
theorem dX0_areaOf_6 : decode cX0_areaOf 6 = .ok (.istore_n 2, 1) := by decide +kernel
theorem dX0_areaOf_7 : decode cX0_areaOf 7 = .ok (.aload_n 0, 1) := by decide +kernel
theorem dX0_areaOf_8 : decode cX0_areaOf 8 = .ok (.aload_n 0, 1) := by decide +kernel
theorem dX0_areaOf_9 : decode cX0_areaOf 9 = .ok (.iload_n 1, 1) := by decide +kernel
theorem dX0_areaOf_10 : decode cX0_areaOf 10 = .ok (.iconst 0, 1) := by decide +kernel
theorem dX0_areaOf_11 : decode cX0_areaOf 11 = .ok (.invokevirtual 74, 3) := by decide +kernel
theorem dX0_areaOf_14 : decode cX0_areaOf 14 = .ok (.aload_n 0, 1) := by decide +kernel
theorem dX0_areaOf_15 : decode cX0_areaOf 15 = .ok (.iload_n 1, 1) := by decide +kernel
theorem dX0_areaOf_16 : decode cX0_areaOf 16 = .ok (.iconst 1, 1) := by decide +kernel
theorem dX0_areaOf_17 : decode cX0_areaOf 17 = .ok (.invokevirtual 74, 3) := by decide +kernel
theorem dX0_areaOf_20 : decode cX0_areaOf 20 = .ok (.aload_n 0, 1) := by decide +kernel
theorem dX0_areaOf_21 : decode cX0_areaOf 21 = .ok (.iload_n 2, 1) := by decide +kernel
theorem dX0_areaOf_22 : decode cX0_areaOf 22 = .ok (.invokevirtual 49, 3) := by decide +kernel
theorem dX0_areaOf_25 : decode cX0_areaOf 25 = .ok (.aload_n 0, 1) := by decide +kernel
theorem dX0_areaOf_26 : decode cX0_areaOf 26 = .ok (.iload_n 2, 1) := by decide +kernel
theorem dX0_areaOf_27 : decode cX0_areaOf 27 = .ok (.invokevirtual 53, 3) := by decide +kernel
theorem dX0_areaOf_30 : decode cX0_areaOf 30 = .ok (.invokevirtual 77, 3) := by decide +kernel
theorem dX0_areaOf_33 : decode cX0_areaOf 33 = .ok (.invokestatic 81, 3) := by decide +kernel
theorem dX0_areaOf_36 : decode cX0_areaOf 36 = .ok (.ireturn, 1) := by decide +kernel
set_option maxRecDepth 20000 in
theorem ggX0_find_X0_covers : GoodIn wsX0_find wsX0_covers := goodIn_r _ [6, 7, 8, 9, 5, 10, 11, 12, 13, 14, 15, 16, 17, 18, 19, 20, 21, 22, 23, 24, 25, 26, 27, 28, 29, 30, 31, 32] (by decide +kernel) (by decide +kernel)
set_option maxRecDepth 20000 in
theorem gX0_find_X0_covers : GoodIn wsX0_find (wsV RX0 86 RX0 yX0_covers wsX0_covers) := goodIn_app (goodIn_of _ (by decide +kernel)) ggX0_find_X0_covers
theorem dX0_find_0 : decode cX0_find 0 = .ok (.iconst 0, 1) := by decide +kernel
theorem dX0_find_1 : decode cX0_find 1 = .ok (.istore_n 3, 1) := by decide +kernel
theorem dX0_find_2 : decode cX0_find 2 = .ok (.iload_n 3, 1) := by decide +kernel
theorem dX0_find_3 : decode cX0_find 3 = .ok (.aload_n 0, 1) := by decide +kernel
theorem dX0_find_4 : decode cX0_find 4 = .ok (.getfield 42, 3) := by decide +kernel
theorem dX0_find_7 : decode cX0_find 7 = .ok (.if_icmp .ge 21, 3) := by decide +kernel
theorem dX0_find_10 : decode cX0_find 10 = .ok (.aload_n 0, 1) := by decide +kernel
theorem dX0_find_11 : decode cX0_find 11 = .ok (.iload_n 3, 1) := by decide +kernel
theorem dX0_find_12 : decode cX0_find 12 = .ok (.iload_n 1, 1) := by decide +kernel
theorem dX0_find_13 : decode cX0_find 13 = .ok (.iload_n 2, 1) := by decide +kernel
theorem dX0_find_14 : decode cX0_find 14 = .ok (.invokevirtual 86, 3) := by decide +kernel
theorem dX0_find_17 : decode cX0_find 17 = .ok (.ifCond .eq 5, 3) := by decide +kernel
theorem dX0_find_20 : decode cX0_find 20 = .ok (.iload_n 3, 1) := by decide +kernel
theorem dX0_find_21 : decode cX0_find 21 = .ok (.ireturn, 1) := by decide +kernel
theorem dX0_find_22 : decode cX0_find 22 = .ok (.iinc 3 1, 3) := by decide +kernel
theorem dX0_find_25 : decode cX0_find 25 = .ok (.goto (-23), 3) := by decide +kernel
theorem dX0_find_28 : decode cX0_find 28 = .ok (.iconst (-1), 1) := by decide +kernel
theorem dX0_find_29 : decode cX0_find 29 = .ok (.ireturn, 1) := by decide +kernel
set_option maxRecDepth 20000 in
theorem ggX0_covers_X0_corner : GoodIn wsX0_covers wsX0_corner := goodIn_r _ [5, 6, 21, 22, 23, 24, 25, 26, 27] (by decide +kernel) (by decide +kernel)
set_option maxRecDepth 20000 in
theorem gX0_covers_X0_corner : GoodIn wsX0_covers (wsV RX0 74 RX0 yX0_corner wsX0_corner) := goodIn_app (goodIn_of _ (by decide +kernel)) ggX0_covers_X0_corner
set_option maxRecDepth 20000 in
theorem ggX0_covers_X0_turn : GoodIn wsX0_covers wsX0_turn := goodIn_r _ [10, 11, 12, 13, 4, 14, 15, 16, 17, 18, 19, 20, 21, 22, 23, 24, 25, 26, 27] (by decide +kernel) (by decide +kernel)
set_option maxRecDepth 20000 in
theorem gX0_covers_X0_turn : GoodIn wsX0_covers (wsV RX0 77 RX0 yX0_turn wsX0_turn) := goodIn_app (goodIn_of _ (by decide +kernel)) ggX0_covers_X0_turn
theorem dX0_covers_0 : decode cX0_covers 0 = .ok (.aload_n 0, 1) := by decide +kernel
theorem dX0_covers_1 : decode cX0_covers 1 = .ok (.iload_n 1, 1) := by decide +kernel
theorem dX0_covers_2 : decode cX0_covers 2 = .ok (.iconst 0, 1) := by decide +kernel
theorem dX0_covers_3 : decode cX0_covers 3 = .ok (.invokevirtual 74, 3) := by decide +kernel
theorem dX0_covers_6 : decode cX0_covers 6 = .ok (.istore 4, 2) := by decide +kernel
theorem dX0_covers_8 : decode cX0_covers 8 = .ok (.aload_n 0, 1) := by decide +kernel
theorem dX0_covers_9 : decode cX0_covers 9 = .ok (.iload_n 1, 1) := by decide +kernel
theorem dX0_covers_10 : decode cX0_covers 10 = .ok (.iconst 1, 1) := by decide +kernel
theorem dX0_covers_11 : decode cX0_covers 11 = .ok (.invokevirtual 74, 3) := by decide +kernel
theorem dX0_covers_14 : decode cX0_covers 14 = .ok (.istore 5, 2) := by decide +kernel
theorem dX0_covers_16 : decode cX0_covers 16 = .ok (.aload_n 0, 1) := by decide +kernel
theorem dX0_covers_17 : decode cX0_covers 17 = .ok (.iload_n 1, 1) := by decide +kernel
theorem dX0_covers_18 : decode cX0_covers 18 = .ok (.iconst 2, 1) := by decide +kernel
theorem dX0_covers_19 : decode cX0_covers 19 = .ok (.invokevirtual 74, 3) := by decide +kernel
theorem dX0_covers_22 : decode cX0_covers 22 = .ok (.istore 6, 2) := by decide +kernel
theorem dX0_covers_24 : decode cX0_covers 24 = .ok (.aload_n 0, 1) := by decide +kernel
theorem dX0_covers_25 : decode cX0_covers 25 = .ok (.iload 4, 2) := by decide +kernel
theorem dX0_covers_27 : decode cX0_covers 27 = .ok (.iload 5, 2) := by decide +kernel
theorem dX0_covers_29 : decode cX0_covers 29 = .ok (.iload_n 2, 1) := by decide +kernel
theorem dX0_covers_30 : decode cX0_covers 30 = .ok (.iload_n 3, 1) := by decide +kernel
theorem dX0_covers_31 : decode cX0_covers 31 = .ok (.invokevirtual 77, 3) := by decide +kernel
theorem dX0_covers_34 : decode cX0_covers 34 = .ok (.istore 7, 2) := by decide +kernel
theorem dX0_covers_36 : decode cX0_covers 36 = .ok (.aload_n 0, 1) := by decide +kernel
theorem dX0_covers_37 : decode cX0_covers 37 = .ok (.iload 5, 2) := by decide +kernel
theorem dX0_covers_39 : decode cX0_covers 39 = .ok (.iload 6, 2) := by decide +kernel
theorem dX0_covers_41 : decode cX0_covers 41 = .ok (.iload_n 2, 1) := by decide +kernel
theorem dX0_covers_42 : decode cX0_covers 42 = .ok (.iload_n 3, 1) := by decide +kernel
theorem dX0_covers_43 : decode cX0_covers 43 = .ok (.invokevirtual 77, 3) := by decide +kernel
theorem dX0_covers_46 : decode cX0_covers 46 = .ok (.istore 8, 2) := by decide +kernel
theorem dX0_covers_48 : decode cX0_covers 48 = .ok (.aload_n 0, 1) := by decide +kernel
theorem dX0_covers_49 : decode cX0_covers 49 = .ok (.iload 6, 2) := by decide +kernel
theorem dX0_covers_51 : decode cX0_covers 51 = .ok (.iload 4, 2) := by decide +kernel
theorem dX0_covers_53 : decode cX0_covers 53 = .ok (.iload_n 2, 1) := by decide +kernel
theorem dX0_covers_54 : decode cX0_covers 54 = .ok (.iload_n 3, 1) := by decide +kernel
theorem dX0_covers_55 : decode cX0_covers 55 = .ok (.invokevirtual 77, 3) := by decide +kernel
theorem dX0_covers_58 : decode cX0_covers 58 = .ok (.istore 9, 2) := by decide +kernel
theorem dX0_covers_60 : decode cX0_covers 60 = .ok (.iload 7, 2) := by decide +kernel
theorem dX0_covers_62 : decode cX0_covers 62 = .ok (.ifCond .lt 13, 3) := by decide +kernel
theorem dX0_covers_65 : decode cX0_covers 65 = .ok (.iload 8, 2) := by decide +kernel
theorem dX0_covers_67 : decode cX0_covers 67 = .ok (.ifCond .lt 8, 3) := by decide +kernel
theorem dX0_covers_70 : decode cX0_covers 70 = .ok (.iload 9, 2) := by decide +kernel
theorem dX0_covers_72 : decode cX0_covers 72 = .ok (.ifCond .ge 18, 3) := by decide +kernel
theorem dX0_covers_75 : decode cX0_covers 75 = .ok (.iload 7, 2) := by decide +kernel
theorem dX0_covers_77 : decode cX0_covers 77 = .ok (.ifCond .gt 17, 3) := by decide +kernel
theorem dX0_covers_80 : decode cX0_covers 80 = .ok (.iload 8, 2) := by decide +kernel
theorem dX0_covers_82 : decode cX0_covers 82 = .ok (.ifCond .gt 12, 3) := by decide +kernel
theorem dX0_covers_85 : decode cX0_covers 85 = .ok (.iload 9, 2) := by decide +kernel
theorem dX0_covers_87 : decode cX0_covers 87 = .ok (.ifCond .gt 7, 3) := by decide +kernel
theorem dX0_covers_90 : decode cX0_covers 90 = .ok (.iconst 1, 1) := by decide +kernel
theorem dX0_covers_91 : decode cX0_covers 91 = .ok (.goto 4, 3) := by decide +kernel
theorem dX0_covers_94 : decode cX0_covers 94 = .ok (.iconst 0, 1) := by decide +kernel
theorem dX0_covers_95 : decode cX0_covers 95 = .ok (.ireturn, 1) := by decide +kernel
set_option maxRecDepth 20000 in
theorem ggX0_turn_X0_xOf : GoodIn wsX0_turn wsX0_xOf := goodIn_r _ [5, 6, 12, 13, 14, 15, 16, 17, 18] (by decide +kernel) (by decide +kernel)
set_option maxRecDepth 20000 in
theorem gX0_turn_X0_xOf : GoodIn wsX0_turn (wsV RX0 49 RX0 yX0_xOf wsX0_xOf) := goodIn_app (goodIn_of _ (by decide +kernel)) ggX0_turn_X0_xOf
set_option maxRecDepth 20000 in
theorem ggX0_turn_X0_yOf : GoodIn wsX0_turn wsX0_yOf := goodIn_r _ [10, 11, 12, 13, 14, 15, 16, 17, 18] (by decide +kernel) (by decide +kernel)
set_option maxRecDepth 20000 in
theorem gX0_turn_X0_yOf : GoodIn wsX0_turn (wsV RX0 53 RX0 yX0_yOf wsX0_yOf) := goodIn_app (goodIn_of _ (by decide +kernel)) ggX0_turn_X0_yOf
theorem dX0_turn_0 : decode cX0_turn 0 = .ok (.aload_n 0, 1) := by decide +kernel
theorem dX0_turn_1 : decode cX0_turn 1 = .ok (.iload_n 2, 1) := by decide +kernel
theorem dX0_turn_2 : decode cX0_turn 2 = .ok (.invokevirtual 49, 3) := by decide +kernel
theorem dX0_turn_5 : decode cX0_turn 5 = .ok (.aload_n 0, 1) := by decide +kernel
theorem dX0_turn_6 : decode cX0_turn 6 = .ok (.iload_n 1, 1) := by decide +kernel
theorem dX0_turn_7 : decode cX0_turn 7 = .ok (.invokevirtual 49, 3) := by decide +kernel
theorem dX0_turn_10 : decode cX0_turn 10 = .ok (.isub, 1) := by decide +kernel
theorem dX0_turn_11 : decode cX0_turn 11 = .ok (.iload 4, 2) := by decide +kernel
theorem dX0_turn_13 : decode cX0_turn 13 = .ok (.aload_n 0, 1) := by decide +kernel
theorem dX0_turn_14 : decode cX0_turn 14 = .ok (.iload_n 1, 1) := by decide +kernel
theorem dX0_turn_15 : decode cX0_turn 15 = .ok (.invokevirtual 53, 3) := by decide +kernel
theorem dX0_turn_18 : decode cX0_turn 18 = .ok (.isub, 1) := by decide +kernel
theorem dX0_turn_19 : decode cX0_turn 19 = .ok (.imul, 1) := by decide +kernel
theorem dX0_turn_20 : decode cX0_turn 20 = .ok (.aload_n 0, 1) := by decide +kernel
theorem dX0_turn_21 : decode cX0_turn 21 = .ok (.iload_n 2, 1) := by decide +kernel
theorem dX0_turn_22 : decode cX0_turn 22 = .ok (.invokevirtual 53, 3) := by decide +kernel
theorem dX0_turn_25 : decode cX0_turn 25 = .ok (.aload_n 0, 1) := by decide +kernel
theorem dX0_turn_26 : decode cX0_turn 26 = .ok (.iload_n 1, 1) := by decide +kernel
theorem dX0_turn_27 : decode cX0_turn 27 = .ok (.invokevirtual 53, 3) := by decide +kernel
theorem dX0_turn_30 : decode cX0_turn 30 = .ok (.isub, 1) := by decide +kernel
theorem dX0_turn_31 : decode cX0_turn 31 = .ok (.iload_n 3, 1) := by decide +kernel
theorem dX0_turn_32 : decode cX0_turn 32 = .ok (.aload_n 0, 1) := by decide +kernel
theorem dX0_turn_33 : decode cX0_turn 33 = .ok (.iload_n 1, 1) := by decide +kernel
theorem dX0_turn_34 : decode cX0_turn 34 = .ok (.invokevirtual 49, 3) := by decide +kernel
theorem dX0_turn_37 : decode cX0_turn 37 = .ok (.isub, 1) := by decide +kernel
theorem dX0_turn_38 : decode cX0_turn 38 = .ok (.imul, 1) := by decide +kernel
theorem dX0_turn_39 : decode cX0_turn 39 = .ok (.isub, 1) := by decide +kernel
theorem dX0_turn_40 : decode cX0_turn 40 = .ok (.ireturn, 1) := by decide +kernel
set_option maxRecDepth 20000 in
theorem ggX0_circleHolds_X0_xOf : GoodIn wsX0_circleHolds wsX0_xOf := goodIn_r _ [5, 6, 12, 13, 14, 15, 16, 17, 18] (by decide +kernel) (by decide +kernel)
set_option maxRecDepth 20000 in
theorem gX0_circleHolds_X0_xOf : GoodIn wsX0_circleHolds (wsV RX0 49 RX0 yX0_xOf wsX0_xOf) := goodIn_app (goodIn_of _ (by decide +kernel)) ggX0_circleHolds_X0_xOf
set_option maxRecDepth 20000 in
theorem ggX0_circleHolds_X0_yOf : GoodIn wsX0_circleHolds wsX0_yOf := goodIn_r _ [10, 11, 12, 13, 14, 15, 16, 17, 18] (by decide +kernel) (by decide +kernel)
set_option maxRecDepth 20000 in
theorem gX0_circleHolds_X0_yOf : GoodIn wsX0_circleHolds (wsV RX0 53 RX0 yX0_yOf wsX0_yOf) := goodIn_app (goodIn_of _ (by decide +kernel)) ggX0_circleHolds_X0_yOf
theorem dX0_circleHolds_0 : decode cX0_circleHolds 0 = .ok (.aload_n 0, 1) := by decide +kernel
theorem dX0_circleHolds_1 : decode cX0_circleHolds 1 = .ok (.iload_n 1, 1) := by decide +kernel
theorem dX0_circleHolds_2 : decode cX0_circleHolds 2 = .ok (.invokevirtual 49, 3) := by decide +kernel
theorem dX0_circleHolds_5 : decode cX0_circleHolds 5 = .ok (.iload 4, 2) := by decide +kernel
theorem dX0_circleHolds_7 : decode cX0_circleHolds 7 = .ok (.isub, 1) := by decide +kernel
theorem dX0_circleHolds_8 : decode cX0_circleHolds 8 = .ok (.istore 6, 2) := by decide +kernel
theorem dX0_circleHolds_10 : decode cX0_circleHolds 10 = .ok (.aload_n 0, 1) := by decide +kernel
theorem dX0_circleHolds_11 : decode cX0_circleHolds 11 = .ok (.iload_n 1, 1) := by decide +kernel
theorem dX0_circleHolds_12 : decode cX0_circleHolds 12 = .ok (.invokevirtual 53, 3) := by decide +kernel
theorem dX0_circleHolds_15 : decode cX0_circleHolds 15 = .ok (.iload 5, 2) := by decide +kernel
theorem dX0_circleHolds_17 : decode cX0_circleHolds 17 = .ok (.isub, 1) := by decide +kernel
theorem dX0_circleHolds_18 : decode cX0_circleHolds 18 = .ok (.istore 7, 2) := by decide +kernel
theorem dX0_circleHolds_20 : decode cX0_circleHolds 20 = .ok (.aload_n 0, 1) := by decide +kernel
theorem dX0_circleHolds_21 : decode cX0_circleHolds 21 = .ok (.iload_n 2, 1) := by decide +kernel
theorem dX0_circleHolds_22 : decode cX0_circleHolds 22 = .ok (.invokevirtual 49, 3) := by decide +kernel
theorem dX0_circleHolds_25 : decode cX0_circleHolds 25 = .ok (.iload 4, 2) := by decide +kernel
theorem dX0_circleHolds_27 : decode cX0_circleHolds 27 = .ok (.isub, 1) := by decide +kernel
theorem dX0_circleHolds_28 : decode cX0_circleHolds 28 = .ok (.istore 8, 2) := by decide +kernel
theorem dX0_circleHolds_30 : decode cX0_circleHolds 30 = .ok (.aload_n 0, 1) := by decide +kernel
theorem dX0_circleHolds_31 : decode cX0_circleHolds 31 = .ok (.iload_n 2, 1) := by decide +kernel
theorem dX0_circleHolds_32 : decode cX0_circleHolds 32 = .ok (.invokevirtual 53, 3) := by decide +kernel
theorem dX0_circleHolds_35 : decode cX0_circleHolds 35 = .ok (.iload 5, 2) := by decide +kernel
theorem dX0_circleHolds_37 : decode cX0_circleHolds 37 = .ok (.isub, 1) := by decide +kernel
theorem dX0_circleHolds_38 : decode cX0_circleHolds 38 = .ok (.istore 9, 2) := by decide +kernel
theorem dX0_circleHolds_40 : decode cX0_circleHolds 40 = .ok (.aload_n 0, 1) := by decide +kernel
theorem dX0_circleHolds_41 : decode cX0_circleHolds 41 = .ok (.iload_n 3, 1) := by decide +kernel
theorem dX0_circleHolds_42 : decode cX0_circleHolds 42 = .ok (.invokevirtual 49, 3) := by decide +kernel
theorem dX0_circleHolds_45 : decode cX0_circleHolds 45 = .ok (.iload 4, 2) := by decide +kernel
theorem dX0_circleHolds_47 : decode cX0_circleHolds 47 = .ok (.isub, 1) := by decide +kernel
theorem dX0_circleHolds_48 : decode cX0_circleHolds 48 = .ok (.istore 10, 2) := by decide +kernel
theorem dX0_circleHolds_50 : decode cX0_circleHolds 50 = .ok (.aload_n 0, 1) := by decide +kernel
theorem dX0_circleHolds_51 : decode cX0_circleHolds 51 = .ok (.iload_n 3, 1) := by decide +kernel
theorem dX0_circleHolds_52 : decode cX0_circleHolds 52 = .ok (.invokevirtual 53, 3) := by decide +kernel
theorem dX0_circleHolds_55 : decode cX0_circleHolds 55 = .ok (.iload 5, 2) := by decide +kernel
theorem dX0_circleHolds_57 : decode cX0_circleHolds 57 = .ok (.isub, 1) := by decide +kernel
theorem dX0_circleHolds_58 : decode cX0_circleHolds 58 = .ok (.istore 11, 2) := by decide +kernel
theorem dX0_circleHolds_60 : decode cX0_circleHolds 60 = .ok (.iload 8, 2) := by decide +kernel
theorem dX0_circleHolds_62 : decode cX0_circleHolds 62 = .ok (.iload 11, 2) := by decide +kernel
theorem dX0_circleHolds_64 : decode cX0_circleHolds 64 = .ok (.imul, 1) := by decide +kernel
theorem dX0_circleHolds_65 : decode cX0_circleHolds 65 = .ok (.iload 9, 2) := by decide +kernel
theorem dX0_circleHolds_67 : decode cX0_circleHolds 67 = .ok (.iload 10, 2) := by decide +kernel
theorem dX0_circleHolds_69 : decode cX0_circleHolds 69 = .ok (.imul, 1) := by decide +kernel
theorem dX0_circleHolds_70 : decode cX0_circleHolds 70 = .ok (.isub, 1) := by decide +kernel
theorem dX0_circleHolds_71 : decode cX0_circleHolds 71 = .ok (.istore 12, 2) := by decide +kernel
theorem dX0_circleHolds_73 : decode cX0_circleHolds 73 = .ok (.iload 10, 2) := by decide +kernel
theorem dX0_circleHolds_75 : decode cX0_circleHolds 75 = .ok (.iload 7, 2) := by decide +kernel
theorem dX0_circleHolds_77 : decode cX0_circleHolds 77 = .ok (.imul, 1) := by decide +kernel
theorem dX0_circleHolds_78 : decode cX0_circleHolds 78 = .ok (.iload 11, 2) := by decide +kernel
theorem dX0_circleHolds_80 : decode cX0_circleHolds 80 = .ok (.iload 6, 2) := by decide +kernel
theorem dX0_circleHolds_82 : decode cX0_circleHolds 82 = .ok (.imul, 1) := by decide +kernel
theorem dX0_circleHolds_83 : decode cX0_circleHolds 83 = .ok (.isub, 1) := by decide +kernel
theorem dX0_circleHolds_84 : decode cX0_circleHolds 84 = .ok (.istore 13, 2) := by decide +kernel
theorem dX0_circleHolds_86 : decode cX0_circleHolds 86 = .ok (.iload 6, 2) := by decide +kernel
theorem dX0_circleHolds_88 : decode cX0_circleHolds 88 = .ok (.iload 9, 2) := by decide +kernel
theorem dX0_circleHolds_90 : decode cX0_circleHolds 90 = .ok (.imul, 1) := by decide +kernel
theorem dX0_circleHolds_91 : decode cX0_circleHolds 91 = .ok (.iload 7, 2) := by decide +kernel
theorem dX0_circleHolds_93 : decode cX0_circleHolds 93 = .ok (.iload 8, 2) := by decide +kernel
theorem dX0_circleHolds_95 : decode cX0_circleHolds 95 = .ok (.imul, 1) := by decide +kernel
theorem dX0_circleHolds_96 : decode cX0_circleHolds 96 = .ok (.isub, 1) := by decide +kernel
theorem dX0_circleHolds_97 : decode cX0_circleHolds 97 = .ok (.istore 14, 2) := by decide +kernel
theorem dX0_circleHolds_99 : decode cX0_circleHolds 99 = .ok (.iload 6, 2) := by decide +kernel
theorem dX0_circleHolds_101 : decode cX0_circleHolds 101 = .ok (.iload 6, 2) := by decide +kernel
theorem dX0_circleHolds_103 : decode cX0_circleHolds 103 = .ok (.imul, 1) := by decide +kernel
theorem dX0_circleHolds_104 : decode cX0_circleHolds 104 = .ok (.iload 7, 2) := by decide +kernel
theorem dX0_circleHolds_106 : decode cX0_circleHolds 106 = .ok (.iload 7, 2) := by decide +kernel
theorem dX0_circleHolds_108 : decode cX0_circleHolds 108 = .ok (.imul, 1) := by decide +kernel
theorem dX0_circleHolds_109 : decode cX0_circleHolds 109 = .ok (.iadd, 1) := by decide +kernel
theorem dX0_circleHolds_110 : decode cX0_circleHolds 110 = .ok (.iload 12, 2) := by decide +kernel
theorem dX0_circleHolds_112 : decode cX0_circleHolds 112 = .ok (.imul, 1) := by decide +kernel
theorem dX0_circleHolds_113 : decode cX0_circleHolds 113 = .ok (.iload 8, 2) := by decide +kernel
theorem dX0_circleHolds_115 : decode cX0_circleHolds 115 = .ok (.iload 8, 2) := by decide +kernel
theorem dX0_circleHolds_117 : decode cX0_circleHolds 117 = .ok (.imul, 1) := by decide +kernel
theorem dX0_circleHolds_118 : decode cX0_circleHolds 118 = .ok (.iload 9, 2) := by decide +kernel
theorem dX0_circleHolds_120 : decode cX0_circleHolds 120 = .ok (.iload 9, 2) := by decide +kernel
theorem dX0_circleHolds_122 : decode cX0_circleHolds 122 = .ok (.imul, 1) := by decide +kernel
theorem dX0_circleHolds_123 : decode cX0_circleHolds 123 = .ok (.iadd, 1) := by decide +kernel
theorem dX0_circleHolds_124 : decode cX0_circleHolds 124 = .ok (.iload 13, 2) := by decide +kernel
theorem dX0_circleHolds_126 : decode cX0_circleHolds 126 = .ok (.imul, 1) := by decide +kernel
theorem dX0_circleHolds_127 : decode cX0_circleHolds 127 = .ok (.iadd, 1) := by decide +kernel
theorem dX0_circleHolds_128 : decode cX0_circleHolds 128 = .ok (.iload 10, 2) := by decide +kernel
theorem dX0_circleHolds_130 : decode cX0_circleHolds 130 = .ok (.iload 10, 2) := by decide +kernel
theorem dX0_circleHolds_132 : decode cX0_circleHolds 132 = .ok (.imul, 1) := by decide +kernel
theorem dX0_circleHolds_133 : decode cX0_circleHolds 133 = .ok (.iload 11, 2) := by decide +kernel
theorem dX0_circleHolds_135 : decode cX0_circleHolds 135 = .ok (.iload 11, 2) := by decide +kernel
theorem dX0_circleHolds_137 : decode cX0_circleHolds 137 = .ok (.imul, 1) := by decide +kernel
theorem dX0_circleHolds_138 : decode cX0_circleHolds 138 = .ok (.iadd, 1) := by decide +kernel
theorem dX0_circleHolds_139 : decode cX0_circleHolds 139 = .ok (.iload 14, 2) := by decide +kernel
theorem dX0_circleHolds_141 : decode cX0_circleHolds 141 = .ok (.imul, 1) := by decide +kernel
theorem dX0_circleHolds_142 : decode cX0_circleHolds 142 = .ok (.iadd, 1) := by decide +kernel
theorem dX0_circleHolds_143 : decode cX0_circleHolds 143 = .ok (.istore 15, 2) := by decide +kernel
theorem dX0_circleHolds_145 : decode cX0_circleHolds 145 = .ok (.iload 14, 2) := by decide +kernel
theorem dX0_circleHolds_147 : decode cX0_circleHolds 147 = .ok (.iload 12, 2) := by decide +kernel
theorem dX0_circleHolds_149 : decode cX0_circleHolds 149 = .ok (.iadd, 1) := by decide +kernel
theorem dX0_circleHolds_150 : decode cX0_circleHolds 150 = .ok (.iload 13, 2) := by decide +kernel
theorem dX0_circleHolds_152 : decode cX0_circleHolds 152 = .ok (.iadd, 1) := by decide +kernel
theorem dX0_circleHolds_153 : decode cX0_circleHolds 153 = .ok (.ifCond .le 16, 3) := by decide +kernel
theorem dX0_circleHolds_156 : decode cX0_circleHolds 156 = .ok (.iload 15, 2) := by decide +kernel
theorem dX0_circleHolds_158 : decode cX0_circleHolds 158 = .ok (.ifCond .le 7, 3) := by decide +kernel
theorem dX0_circleHolds_161 : decode cX0_circleHolds 161 = .ok (.iconst 1, 1) := by decide +kernel
theorem dX0_circleHolds_162 : decode cX0_circleHolds 162 = .ok (.goto 17, 3) := by decide +kernel
theorem dX0_circleHolds_165 : decode cX0_circleHolds 165 = .ok (.iconst 0, 1) := by decide +kernel
theorem dX0_circleHolds_166 : decode cX0_circleHolds 166 = .ok (.goto 13, 3) := by decide +kernel
theorem dX0_circleHolds_169 : decode cX0_circleHolds 169 = .ok (.iload 15, 2) := by decide +kernel
theorem dX0_circleHolds_171 : decode cX0_circleHolds 171 = .ok (.ifCond .ge 7, 3) := by decide +kernel
theorem dX0_circleHolds_174 : decode cX0_circleHolds 174 = .ok (.iconst 1, 1) := by decide +kernel
theorem dX0_circleHolds_175 : decode cX0_circleHolds 175 = .ok (.goto 4, 3) := by decide +kernel
theorem dX0_circleHolds_178 : decode cX0_circleHolds 178 = .ok (.iconst 0, 1) := by decide +kernel
theorem dX0_circleHolds_179 : decode cX0_circleHolds 179 = .ok (.ireturn, 1) := by decide +kernel
set_option maxRecDepth 20000 in
theorem ggX0_isEdge_X0_leftOf : GoodIn wsX0_isEdge wsX0_leftOf := goodIn_r _ [5, 6, 7, 8, 9, 10, 11, 12, 13] (by decide +kernel) (by decide +kernel)
set_option maxRecDepth 20000 in
theorem gX0_isEdge_X0_leftOf : GoodIn wsX0_isEdge (wsV RX0 64 RX0 yX0_leftOf wsX0_leftOf) := goodIn_app (goodIn_of _ (by decide +kernel)) ggX0_isEdge_X0_leftOf
theorem dX0_isEdge_0 : decode cX0_isEdge 0 = .ok (.aload_n 0, 1) := by decide +kernel
theorem dX0_isEdge_1 : decode cX0_isEdge 1 = .ok (.iload_n 1, 1) := by decide +kernel
theorem dX0_isEdge_2 : decode cX0_isEdge 2 = .ok (.iload_n 2, 1) := by decide +kernel
theorem dX0_isEdge_3 : decode cX0_isEdge 3 = .ok (.invokevirtual 64, 3) := by decide +kernel
theorem dX0_isEdge_6 : decode cX0_isEdge 6 = .ok (.iconst (-1), 1) := by decide +kernel
theorem dX0_isEdge_7 : decode cX0_isEdge 7 = .ok (.if_icmp .ne 13, 3) := by decide +kernel
theorem dX0_isEdge_10 : decode cX0_isEdge 10 = .ok (.aload_n 0, 1) := by decide +kernel
theorem dX0_isEdge_11 : decode cX0_isEdge 11 = .ok (.iload_n 2, 1) := by decide +kernel
theorem dX0_isEdge_12 : decode cX0_isEdge 12 = .ok (.iload_n 1, 1) := by decide +kernel
theorem dX0_isEdge_13 : decode cX0_isEdge 13 = .ok (.invokevirtual 64, 3) := by decide +kernel
theorem dX0_isEdge_16 : decode cX0_isEdge 16 = .ok (.iconst (-1), 1) := by decide +kernel
theorem dX0_isEdge_17 : decode cX0_isEdge 17 = .ok (.if_icmp .eq 7, 3) := by decide +kernel
theorem dX0_isEdge_20 : decode cX0_isEdge 20 = .ok (.iconst 1, 1) := by decide +kernel
theorem dX0_isEdge_21 : decode cX0_isEdge 21 = .ok (.goto 4, 3) := by decide +kernel
theorem dX0_isEdge_24 : decode cX0_isEdge 24 = .ok (.iconst 0, 1) := by decide +kernel
theorem dX0_isEdge_25 : decode cX0_isEdge 25 = .ok (.ireturn, 1) := by decide +kernel
set_option maxRecDepth 20000 in
theorem ggX0_isEdgeThat_X0_isEdge : GoodIn wsX0_isEdgeThat wsX0_isEdge := goodIn_r _ [5, 6, 7, 8, 4, 9, 10, 51, 52, 53, 54, 55, 56, 57] (by decide +kernel) (by decide +kernel)
set_option maxRecDepth 20000 in
theorem gX0_isEdgeThat_X0_isEdge : GoodIn wsX0_isEdgeThat (wsV RX0 60 RX0 yX0_isEdge wsX0_isEdge) := goodIn_app (goodIn_of _ (by decide +kernel)) ggX0_isEdgeThat_X0_isEdge
set_option maxRecDepth 20000 in
theorem ggX0_isEdgeThat_X0_isInner : GoodIn wsX0_isEdgeThat wsX0_isInner := goodIn_r _ [14, 6, 7, 8, 4, 9, 10, 51, 52, 53, 54, 55, 56, 57] (by decide +kernel) (by decide +kernel)
set_option maxRecDepth 20000 in
theorem gX0_isEdgeThat_X0_isInner : GoodIn wsX0_isEdgeThat (wsV RX0 94 RX0 yX0_isInner wsX0_isInner) := goodIn_app (goodIn_of _ (by decide +kernel)) ggX0_isEdgeThat_X0_isInner
set_option maxRecDepth 20000 in
theorem ggX0_isEdgeThat_X0_mustStay : GoodIn wsX0_isEdgeThat wsX0_mustStay := goodIn_r _ [18, 19, 20, 21, 22, 4, 23, 24, 51, 52, 53, 54, 55, 56, 57] (by decide +kernel) (by decide +kernel)
set_option maxRecDepth 20000 in
theorem gX0_isEdgeThat_X0_mustStay : GoodIn wsX0_isEdgeThat (wsV RX0 97 RX0 yX0_mustStay wsX0_mustStay) := goodIn_app (goodIn_of _ (by decide +kernel)) ggX0_isEdgeThat_X0_mustStay
set_option maxRecDepth 20000 in
theorem ggX0_isEdgeThat_X0_isUnfair : GoodIn wsX0_isEdgeThat wsX0_isUnfair := goodIn_r _ [28, 6, 7, 8, 4, 9, 10, 11, 12, 13, 14, 29, 30, 31, 32, 33, 34, 35, 36, 37, 38, 39, 40, 41, 42, 51, 52, 53, 54, 55, 56, 57] (by decide +kernel) (by decide +kernel)
set_option maxRecDepth 20000 in
theorem gX0_isEdgeThat_X0_isUnfair : GoodIn wsX0_isEdgeThat (wsV RX0 100 RX0 yX0_isUnfair wsX0_isUnfair) := goodIn_app (goodIn_of _ (by decide +kernel)) ggX0_isEdgeThat_X0_isUnfair
set_option maxRecDepth 20000 in
theorem ggX0_isEdgeThat_X0_isTurnable : GoodIn wsX0_isEdgeThat wsX0_isTurnable := goodIn_r _ [46, 11, 12, 13, 4, 14, 6, 7, 8, 9, 10, 15, 16, 17, 18, 19, 20, 21, 22, 23, 24, 29, 30, 31, 32, 33, 34, 35, 36, 37, 38, 47, 48, 49, 50, 51, 52, 53, 54, 55, 56, 57] (by decide +kernel) (by decide +kernel)
set_option maxRecDepth 20000 in
theorem gX0_isEdgeThat_X0_isTurnable : GoodIn wsX0_isEdgeThat (wsV RX0 103 RX0 yX0_isTurnable wsX0_isTurnable) := goodIn_app (goodIn_of _ (by decide +kernel)) ggX0_isEdgeThat_X0_isTurnable
theorem dX0_isEdgeThat_0 : decode cX0_isEdgeThat 0 = .ok (.aload_n 0, 1) := by decide +kernel
theorem dX0_isEdgeThat_1 : decode cX0_isEdgeThat 1 = .ok (.iload_n 2, 1) := by decide +kernel
theorem dX0_isEdgeThat_2 : decode cX0_isEdgeThat 2 = .ok (.iload_n 3, 1) := by decide +kernel
theorem dX0_isEdgeThat_3 : decode cX0_isEdgeThat 3 = .ok (.invokevirtual 60, 3) := by decide +kernel
theorem dX0_isEdgeThat_6 : decode cX0_isEdgeThat 6 = .ok (.ifCond .ne 5, 3) := by decide +kernel
theorem dX0_isEdgeThat_9 : decode cX0_isEdgeThat 9 = .ok (.iconst 0, 1) := by decide +kernel
theorem dX0_isEdgeThat_10 : decode cX0_isEdgeThat 10 = .ok (.ireturn, 1) := by decide +kernel
theorem dX0_isEdgeThat_11 : decode cX0_isEdgeThat 11 = .ok (.iload_n 1, 1) := by decide +kernel
theorem dX0_isEdgeThat_12 : decode cX0_isEdgeThat 12 = .ok (.tableswitch 68 1 4 #[32, 47, 54, 61], 32) := by decide +kernel
theorem dX0_isEdgeThat_44 : decode cX0_isEdgeThat 44 = .ok (.aload_n 0, 1) := by decide +kernel
theorem dX0_isEdgeThat_45 : decode cX0_isEdgeThat 45 = .ok (.iload_n 2, 1) := by decide +kernel
theorem dX0_isEdgeThat_46 : decode cX0_isEdgeThat 46 = .ok (.iload_n 3, 1) := by decide +kernel
theorem dX0_isEdgeThat_47 : decode cX0_isEdgeThat 47 = .ok (.invokevirtual 94, 3) := by decide +kernel
theorem dX0_isEdgeThat_50 : decode cX0_isEdgeThat 50 = .ok (.ifCond .ne 7, 3) := by decide +kernel
theorem dX0_isEdgeThat_53 : decode cX0_isEdgeThat 53 = .ok (.iconst 1, 1) := by decide +kernel
theorem dX0_isEdgeThat_54 : decode cX0_isEdgeThat 54 = .ok (.goto 4, 3) := by decide +kernel
theorem dX0_isEdgeThat_57 : decode cX0_isEdgeThat 57 = .ok (.iconst 0, 1) := by decide +kernel
theorem dX0_isEdgeThat_58 : decode cX0_isEdgeThat 58 = .ok (.ireturn, 1) := by decide +kernel
theorem dX0_isEdgeThat_59 : decode cX0_isEdgeThat 59 = .ok (.aload_n 0, 1) := by decide +kernel
theorem dX0_isEdgeThat_60 : decode cX0_isEdgeThat 60 = .ok (.iload_n 2, 1) := by decide +kernel
theorem dX0_isEdgeThat_61 : decode cX0_isEdgeThat 61 = .ok (.iload_n 3, 1) := by decide +kernel
theorem dX0_isEdgeThat_62 : decode cX0_isEdgeThat 62 = .ok (.invokevirtual 97, 3) := by decide +kernel
theorem dX0_isEdgeThat_65 : decode cX0_isEdgeThat 65 = .ok (.ireturn, 1) := by decide +kernel
theorem dX0_isEdgeThat_66 : decode cX0_isEdgeThat 66 = .ok (.aload_n 0, 1) := by decide +kernel
theorem dX0_isEdgeThat_67 : decode cX0_isEdgeThat 67 = .ok (.iload_n 2, 1) := by decide +kernel
theorem dX0_isEdgeThat_68 : decode cX0_isEdgeThat 68 = .ok (.iload_n 3, 1) := by decide +kernel
theorem dX0_isEdgeThat_69 : decode cX0_isEdgeThat 69 = .ok (.invokevirtual 100, 3) := by decide +kernel
theorem dX0_isEdgeThat_72 : decode cX0_isEdgeThat 72 = .ok (.ireturn, 1) := by decide +kernel
theorem dX0_isEdgeThat_73 : decode cX0_isEdgeThat 73 = .ok (.aload_n 0, 1) := by decide +kernel
theorem dX0_isEdgeThat_74 : decode cX0_isEdgeThat 74 = .ok (.iload_n 2, 1) := by decide +kernel
theorem dX0_isEdgeThat_75 : decode cX0_isEdgeThat 75 = .ok (.iload_n 3, 1) := by decide +kernel
theorem dX0_isEdgeThat_76 : decode cX0_isEdgeThat 76 = .ok (.invokevirtual 103, 3) := by decide +kernel
theorem dX0_isEdgeThat_79 : decode cX0_isEdgeThat 79 = .ok (.ireturn, 1) := by decide +kernel
theorem dX0_isEdgeThat_80 : decode cX0_isEdgeThat 80 = .ok (.iload_n 1, 1) := by decide +kernel
theorem dX0_isEdgeThat_81 : decode cX0_isEdgeThat 81 = .ok (.ifCond .ne 7, 3) := by decide +kernel
theorem dX0_isEdgeThat_84 : decode cX0_isEdgeThat 84 = .ok (.iconst 1, 1) := by decide +kernel
theorem dX0_isEdgeThat_85 : decode cX0_isEdgeThat 85 = .ok (.goto 4, 3) := by decide +kernel
theorem dX0_isEdgeThat_88 : decode cX0_isEdgeThat 88 = .ok (.iconst 0, 1) := by decide +kernel
theorem dX0_isEdgeThat_89 : decode cX0_isEdgeThat 89 = .ok (.ireturn, 1) := by decide +kernel
set_option maxRecDepth 20000 in
theorem ggX0_edgesThat_X0_isEdgeThat : GoodIn wsX0_edgesThat wsX0_isEdgeThat := goodIn_r _ [6, 7, 8, 9, 5, 10, 11, 12, 13, 14, 15, 16, 17, 18, 19, 20, 21, 22, 23, 24, 25, 26, 27, 28, 1, 29, 30, 31, 32, 33, 34, 35, 36, 37, 38, 39, 40, 41, 42, 43, 44, 45, 46, 47, 48, 49, 50, 51, 52, 53, 54, 55, 56, 57, 58, 59, 60, 61] (by decide +kernel) (by decide +kernel)
set_option maxRecDepth 20000 in
theorem gX0_edgesThat_X0_isEdgeThat : GoodIn wsX0_edgesThat (wsV RX0 106 RX0 yX0_isEdgeThat wsX0_isEdgeThat) := goodIn_app (goodIn_of _ (by decide +kernel)) ggX0_edgesThat_X0_isEdgeThat
theorem dX0_edgesThat_0 : decode cX0_edgesThat 0 = .ok (.iconst 0, 1) := by decide +kernel
theorem dX0_edgesThat_1 : decode cX0_edgesThat 1 = .ok (.istore_n 2, 1) := by decide +kernel
theorem dX0_edgesThat_2 : decode cX0_edgesThat 2 = .ok (.iconst 0, 1) := by decide +kernel
theorem dX0_edgesThat_3 : decode cX0_edgesThat 3 = .ok (.istore_n 3, 1) := by decide +kernel
theorem dX0_edgesThat_4 : decode cX0_edgesThat 4 = .ok (.iload_n 3, 1) := by decide +kernel
theorem dX0_edgesThat_5 : decode cX0_edgesThat 5 = .ok (.aload_n 0, 1) := by decide +kernel
theorem dX0_edgesThat_6 : decode cX0_edgesThat 6 = .ok (.getfield 38, 3) := by decide +kernel
theorem dX0_edgesThat_9 : decode cX0_edgesThat 9 = .ok (.if_icmp .ge 43, 3) := by decide +kernel
theorem dX0_edgesThat_12 : decode cX0_edgesThat 12 = .ok (.iload_n 3, 1) := by decide +kernel
theorem dX0_edgesThat_13 : decode cX0_edgesThat 13 = .ok (.iconst 1, 1) := by decide +kernel
theorem dX0_edgesThat_14 : decode cX0_edgesThat 14 = .ok (.iadd, 1) := by decide +kernel
theorem dX0_edgesThat_15 : decode cX0_edgesThat 15 = .ok (.istore 4, 2) := by decide +kernel
theorem dX0_edgesThat_17 : decode cX0_edgesThat 17 = .ok (.iload 4, 2) := by decide +kernel
theorem dX0_edgesThat_19 : decode cX0_edgesThat 19 = .ok (.aload_n 0, 1) := by decide +kernel
theorem dX0_edgesThat_20 : decode cX0_edgesThat 20 = .ok (.getfield 38, 3) := by decide +kernel
theorem dX0_edgesThat_23 : decode cX0_edgesThat 23 = .ok (.if_icmp .ge 23, 3) := by decide +kernel
theorem dX0_edgesThat_26 : decode cX0_edgesThat 26 = .ok (.aload_n 0, 1) := by decide +kernel
theorem dX0_edgesThat_27 : decode cX0_edgesThat 27 = .ok (.iload_n 1, 1) := by decide +kernel
theorem dX0_edgesThat_28 : decode cX0_edgesThat 28 = .ok (.iload_n 3, 1) := by decide +kernel
theorem dX0_edgesThat_29 : decode cX0_edgesThat 29 = .ok (.iload 4, 2) := by decide +kernel
theorem dX0_edgesThat_31 : decode cX0_edgesThat 31 = .ok (.invokevirtual 106, 3) := by decide +kernel
theorem dX0_edgesThat_34 : decode cX0_edgesThat 34 = .ok (.ifCond .eq 6, 3) := by decide +kernel
theorem dX0_edgesThat_37 : decode cX0_edgesThat 37 = .ok (.iinc 2 1, 3) := by decide +kernel
theorem dX0_edgesThat_40 : decode cX0_edgesThat 40 = .ok (.iinc 4 1, 3) := by decide +kernel
theorem dX0_edgesThat_43 : decode cX0_edgesThat 43 = .ok (.goto (-26), 3) := by decide +kernel
theorem dX0_edgesThat_46 : decode cX0_edgesThat 46 = .ok (.iinc 3 1, 3) := by decide +kernel
theorem dX0_edgesThat_49 : decode cX0_edgesThat 49 = .ok (.goto (-45), 3) := by decide +kernel
theorem dX0_edgesThat_52 : decode cX0_edgesThat 52 = .ok (.iload_n 2, 1) := by decide +kernel
theorem dX0_edgesThat_53 : decode cX0_edgesThat 53 = .ok (.ireturn, 1) := by decide +kernel
set_option maxRecDepth 20000 in
theorem ggX0_isInner_X0_leftOf : GoodIn wsX0_isInner wsX0_leftOf := goodIn_r _ [5, 6, 7, 8, 9, 10, 11, 12, 13] (by decide +kernel) (by decide +kernel)
set_option maxRecDepth 20000 in
theorem gX0_isInner_X0_leftOf : GoodIn wsX0_isInner (wsV RX0 64 RX0 yX0_leftOf wsX0_leftOf) := goodIn_app (goodIn_of _ (by decide +kernel)) ggX0_isInner_X0_leftOf
theorem dX0_isInner_0 : decode cX0_isInner 0 = .ok (.aload_n 0, 1) := by decide +kernel
theorem dX0_isInner_1 : decode cX0_isInner 1 = .ok (.iload_n 1, 1) := by decide +kernel
theorem dX0_isInner_2 : decode cX0_isInner 2 = .ok (.iload_n 2, 1) := by decide +kernel
theorem dX0_isInner_3 : decode cX0_isInner 3 = .ok (.invokevirtual 64, 3) := by decide +kernel
theorem dX0_isInner_6 : decode cX0_isInner 6 = .ok (.iconst (-1), 1) := by decide +kernel
theorem dX0_isInner_7 : decode cX0_isInner 7 = .ok (.if_icmp .eq 17, 3) := by decide +kernel
theorem dX0_isInner_10 : decode cX0_isInner 10 = .ok (.aload_n 0, 1) := by decide +kernel
theorem dX0_isInner_11 : decode cX0_isInner 11 = .ok (.iload_n 2, 1) := by decide +kernel
theorem dX0_isInner_12 : decode cX0_isInner 12 = .ok (.iload_n 1, 1) := by decide +kernel
theorem dX0_isInner_13 : decode cX0_isInner 13 = .ok (.invokevirtual 64, 3) := by decide +kernel
theorem dX0_isInner_16 : decode cX0_isInner 16 = .ok (.iconst (-1), 1) := by decide +kernel
theorem dX0_isInner_17 : decode cX0_isInner 17 = .ok (.if_icmp .eq 7, 3) := by decide +kernel
theorem dX0_isInner_20 : decode cX0_isInner 20 = .ok (.iconst 1, 1) := by decide +kernel
theorem dX0_isInner_21 : decode cX0_isInner 21 = .ok (.goto 4, 3) := by decide +kernel
theorem dX0_isInner_24 : decode cX0_isInner 24 = .ok (.iconst 0, 1) := by decide +kernel
theorem dX0_isInner_25 : decode cX0_isInner 25 = .ok (.ireturn, 1) := by decide +kernel
set_option maxRecDepth 20000 in
theorem ggX0_mustStay_X0_isCairn : GoodIn wsX0_mustStay wsX0_isCairn := goodIn_r _ [6, 7, 8, 9, 10, 11, 12, 13, 14] (by decide +kernel) (by decide +kernel)
set_option maxRecDepth 20000 in
theorem gX0_mustStay_X0_isCairn : GoodIn wsX0_mustStay (wsV RX0 67 RX0 yX0_isCairn wsX0_isCairn) := goodIn_app (goodIn_of _ (by decide +kernel)) ggX0_mustStay_X0_isCairn
theorem dX0_mustStay_0 : decode cX0_mustStay 0 = .ok (.aload_n 0, 1) := by decide +kernel
theorem dX0_mustStay_1 : decode cX0_mustStay 1 = .ok (.iload_n 1, 1) := by decide +kernel
theorem dX0_mustStay_2 : decode cX0_mustStay 2 = .ok (.invokevirtual 67, 3) := by decide +kernel
theorem dX0_mustStay_5 : decode cX0_mustStay 5 = .ok (.ifCond .eq 30, 3) := by decide +kernel
theorem dX0_mustStay_8 : decode cX0_mustStay 8 = .ok (.aload_n 0, 1) := by decide +kernel
theorem dX0_mustStay_9 : decode cX0_mustStay 9 = .ok (.iload_n 2, 1) := by decide +kernel
theorem dX0_mustStay_10 : decode cX0_mustStay 10 = .ok (.invokevirtual 67, 3) := by decide +kernel
theorem dX0_mustStay_13 : decode cX0_mustStay 13 = .ok (.ifCond .eq 22, 3) := by decide +kernel
theorem dX0_mustStay_16 : decode cX0_mustStay 16 = .ok (.aload_n 0, 1) := by decide +kernel
theorem dX0_mustStay_17 : decode cX0_mustStay 17 = .ok (.getfield 21, 3) := by decide +kernel
theorem dX0_mustStay_20 : decode cX0_mustStay 20 = .ok (.iload_n 1, 1) := by decide +kernel
theorem dX0_mustStay_21 : decode cX0_mustStay 21 = .ok (.bipush 17, 2) := by decide +kernel
theorem dX0_mustStay_23 : decode cX0_mustStay 23 = .ok (.imul, 1) := by decide +kernel
theorem dX0_mustStay_24 : decode cX0_mustStay 24 = .ok (.iload_n 2, 1) := by decide +kernel
theorem dX0_mustStay_25 : decode cX0_mustStay 25 = .ok (.iadd, 1) := by decide +kernel
theorem dX0_mustStay_26 : decode cX0_mustStay 26 = .ok (.iaload, 1) := by decide +kernel
theorem dX0_mustStay_27 : decode cX0_mustStay 27 = .ok (.iconst 1, 1) := by decide +kernel
theorem dX0_mustStay_28 : decode cX0_mustStay 28 = .ok (.if_icmp .ne 7, 3) := by decide +kernel
theorem dX0_mustStay_31 : decode cX0_mustStay 31 = .ok (.iconst 1, 1) := by decide +kernel
theorem dX0_mustStay_32 : decode cX0_mustStay 32 = .ok (.goto 4, 3) := by decide +kernel
theorem dX0_mustStay_35 : decode cX0_mustStay 35 = .ok (.iconst 0, 1) := by decide +kernel
theorem dX0_mustStay_36 : decode cX0_mustStay 36 = .ok (.ireturn, 1) := by decide +kernel
set_option maxRecDepth 20000 in
theorem ggX0_isUnfair_X0_leftOf : GoodIn wsX0_isUnfair wsX0_leftOf := goodIn_r _ [5, 6, 25, 26, 27, 28, 29, 30, 31] (by decide +kernel) (by decide +kernel)
set_option maxRecDepth 20000 in
theorem gX0_isUnfair_X0_leftOf : GoodIn wsX0_isUnfair (wsV RX0 64 RX0 yX0_leftOf wsX0_leftOf) := goodIn_app (goodIn_of _ (by decide +kernel)) ggX0_isUnfair_X0_leftOf
set_option maxRecDepth 20000 in
theorem ggX0_isUnfair_X0_isInner : GoodIn wsX0_isUnfair wsX0_isInner := goodIn_r _ [10, 1, 2, 3, 4, 5, 6, 25, 26, 27, 28, 29, 30, 31] (by decide +kernel) (by decide +kernel)
set_option maxRecDepth 20000 in
theorem gX0_isUnfair_X0_isInner : GoodIn wsX0_isUnfair (wsV RX0 94 RX0 yX0_isInner wsX0_isInner) := goodIn_app (goodIn_of _ (by decide +kernel)) ggX0_isUnfair_X0_isInner
set_option maxRecDepth 20000 in
theorem ggX0_isUnfair_X0_xOf : GoodIn wsX0_isUnfair wsX0_xOf := goodIn_r _ [14, 15, 25, 26, 27, 28, 29, 30, 31] (by decide +kernel) (by decide +kernel)
set_option maxRecDepth 20000 in
theorem gX0_isUnfair_X0_xOf : GoodIn wsX0_isUnfair (wsV RX0 49 RX0 yX0_xOf wsX0_xOf) := goodIn_app (goodIn_of _ (by decide +kernel)) ggX0_isUnfair_X0_xOf
set_option maxRecDepth 20000 in
theorem ggX0_isUnfair_X0_yOf : GoodIn wsX0_isUnfair wsX0_yOf := goodIn_r _ [19, 20, 25, 26, 27, 28, 29, 30, 31] (by decide +kernel) (by decide +kernel)
set_option maxRecDepth 20000 in
theorem gX0_isUnfair_X0_yOf : GoodIn wsX0_isUnfair (wsV RX0 53 RX0 yX0_yOf wsX0_yOf) := goodIn_app (goodIn_of _ (by decide +kernel)) ggX0_isUnfair_X0_yOf
set_option maxRecDepth 20000 in
theorem ggX0_isUnfair_X0_circleHolds : GoodIn wsX0_isUnfair wsX0_circleHolds := goodIn_r _ [24, 11, 12, 13, 4, 14, 15, 16, 17, 18, 19, 20, 25, 26, 27, 28, 29, 30, 31] (by decide +kernel) (by decide +kernel)
set_option maxRecDepth 20000 in
theorem gX0_isUnfair_X0_circleHolds : GoodIn wsX0_isUnfair (wsV RX0 90 RX0 yX0_circleHolds wsX0_circleHolds) := goodIn_app (goodIn_of _ (by decide +kernel)) ggX0_isUnfair_X0_circleHolds
theorem dX0_isUnfair_0 : decode cX0_isUnfair 0 = .ok (.aload_n 0, 1) := by decide +kernel
theorem dX0_isUnfair_1 : decode cX0_isUnfair 1 = .ok (.iload_n 2, 1) := by decide +kernel
theorem dX0_isUnfair_2 : decode cX0_isUnfair 2 = .ok (.iload_n 1, 1) := by decide +kernel
theorem dX0_isUnfair_3 : decode cX0_isUnfair 3 = .ok (.invokevirtual 64, 3) := by decide +kernel
theorem dX0_isUnfair_6 : decode cX0_isUnfair 6 = .ok (.istore_n 3, 1) := by decide +kernel
theorem dX0_isUnfair_7 : decode cX0_isUnfair 7 = .ok (.aload_n 0, 1) := by decide +kernel
theorem dX0_isUnfair_8 : decode cX0_isUnfair 8 = .ok (.iload_n 1, 1) := by decide +kernel
theorem dX0_isUnfair_9 : decode cX0_isUnfair 9 = .ok (.iload_n 2, 1) := by decide +kernel
theorem dX0_isUnfair_10 : decode cX0_isUnfair 10 = .ok (.invokevirtual 94, 3) := by decide +kernel
theorem dX0_isUnfair_13 : decode cX0_isUnfair 13 = .ok (.ifCond .eq 32, 3) := by decide +kernel
theorem dX0_isUnfair_16 : decode cX0_isUnfair 16 = .ok (.aload_n 0, 1) := by decide +kernel
theorem dX0_isUnfair_17 : decode cX0_isUnfair 17 = .ok (.iload_n 1, 1) := by decide +kernel
theorem dX0_isUnfair_18 : decode cX0_isUnfair 18 = .ok (.iload_n 2, 1) := by decide +kernel
theorem dX0_isUnfair_19 : decode cX0_isUnfair 19 = .ok (.aload_n 0, 1) := by decide +kernel
theorem dX0_isUnfair_20 : decode cX0_isUnfair 20 = .ok (.iload_n 1, 1) := by decide +kernel
theorem dX0_isUnfair_21 : decode cX0_isUnfair 21 = .ok (.iload_n 2, 1) := by decide +kernel
theorem dX0_isUnfair_22 : decode cX0_isUnfair 22 = .ok (.invokevirtual 64, 3) := by decide +kernel
theorem dX0_isUnfair_25 : decode cX0_isUnfair 25 = .ok (.aload_n 0, 1) := by decide +kernel
theorem dX0_isUnfair_26 : decode cX0_isUnfair 26 = .ok (.iload_n 3, 1) := by decide +kernel
theorem dX0_isUnfair_27 : decode cX0_isUnfair 27 = .ok (.invokevirtual 49, 3) := by decide +kernel
theorem dX0_isUnfair_30 : decode cX0_isUnfair 30 = .ok (.aload_n 0, 1) := by decide +kernel
theorem dX0_isUnfair_31 : decode cX0_isUnfair 31 = .ok (.iload_n 3, 1) := by decide +kernel
theorem dX0_isUnfair_32 : decode cX0_isUnfair 32 = .ok (.invokevirtual 53, 3) := by decide +kernel
theorem dX0_isUnfair_35 : decode cX0_isUnfair 35 = .ok (.invokevirtual 90, 3) := by decide +kernel
theorem dX0_isUnfair_38 : decode cX0_isUnfair 38 = .ok (.ifCond .eq 7, 3) := by decide +kernel
theorem dX0_isUnfair_41 : decode cX0_isUnfair 41 = .ok (.iconst 1, 1) := by decide +kernel
theorem dX0_isUnfair_42 : decode cX0_isUnfair 42 = .ok (.goto 4, 3) := by decide +kernel
theorem dX0_isUnfair_45 : decode cX0_isUnfair 45 = .ok (.iconst 0, 1) := by decide +kernel
theorem dX0_isUnfair_46 : decode cX0_isUnfair 46 = .ok (.ireturn, 1) := by decide +kernel
set_option maxRecDepth 20000 in
theorem ggX0_isTurnable_X0_isInner : GoodIn wsX0_isTurnable wsX0_isInner := goodIn_r _ [5, 6, 7, 8, 4, 9, 10, 35, 36, 37, 38, 39, 40, 41] (by decide +kernel) (by decide +kernel)
set_option maxRecDepth 20000 in
theorem gX0_isTurnable_X0_isInner : GoodIn wsX0_isTurnable (wsV RX0 94 RX0 yX0_isInner wsX0_isInner) := goodIn_app (goodIn_of _ (by decide +kernel)) ggX0_isTurnable_X0_isInner
set_option maxRecDepth 20000 in
theorem ggX0_isTurnable_X0_mustStay : GoodIn wsX0_isTurnable wsX0_mustStay := goodIn_r _ [14, 15, 16, 17, 18, 4, 19, 20, 35, 36, 37, 38, 39, 40, 41] (by decide +kernel) (by decide +kernel)
set_option maxRecDepth 20000 in
theorem gX0_isTurnable_X0_mustStay : GoodIn wsX0_isTurnable (wsV RX0 97 RX0 yX0_mustStay wsX0_mustStay) := goodIn_app (goodIn_of _ (by decide +kernel)) ggX0_isTurnable_X0_mustStay
set_option maxRecDepth 20000 in
theorem ggX0_isTurnable_X0_leftOf : GoodIn wsX0_isTurnable wsX0_leftOf := goodIn_r _ [9, 10, 35, 36, 37, 38, 39, 40, 41] (by decide +kernel) (by decide +kernel)
set_option maxRecDepth 20000 in
theorem gX0_isTurnable_X0_leftOf : GoodIn wsX0_isTurnable (wsV RX0 64 RX0 yX0_leftOf wsX0_leftOf) := goodIn_app (goodIn_of _ (by decide +kernel)) ggX0_isTurnable_X0_leftOf
set_option maxRecDepth 20000 in
theorem ggX0_isTurnable_X0_xOf : GoodIn wsX0_isTurnable wsX0_xOf := goodIn_r _ [24, 25, 35, 36, 37, 38, 39, 40, 41] (by decide +kernel) (by decide +kernel)
set_option maxRecDepth 20000 in
theorem gX0_isTurnable_X0_xOf : GoodIn wsX0_isTurnable (wsV RX0 49 RX0 yX0_xOf wsX0_xOf) := goodIn_app (goodIn_of _ (by decide +kernel)) ggX0_isTurnable_X0_xOf
set_option maxRecDepth 20000 in
theorem ggX0_isTurnable_X0_yOf : GoodIn wsX0_isTurnable wsX0_yOf := goodIn_r _ [29, 30, 35, 36, 37, 38, 39, 40, 41] (by decide +kernel) (by decide +kernel)
set_option maxRecDepth 20000 in
theorem gX0_isTurnable_X0_yOf : GoodIn wsX0_isTurnable (wsV RX0 53 RX0 yX0_yOf wsX0_yOf) := goodIn_app (goodIn_of _ (by decide +kernel)) ggX0_isTurnable_X0_yOf
set_option maxRecDepth 20000 in
theorem ggX0_isTurnable_X0_turn : GoodIn wsX0_isTurnable wsX0_turn := goodIn_r _ [34, 21, 22, 23, 4, 24, 25, 26, 27, 28, 29, 30, 35, 36, 37, 38, 39, 40, 41] (by decide +kernel) (by decide +kernel)
set_option maxRecDepth 20000 in
theorem gX0_isTurnable_X0_turn : GoodIn wsX0_isTurnable (wsV RX0 77 RX0 yX0_turn wsX0_turn) := goodIn_app (goodIn_of _ (by decide +kernel)) ggX0_isTurnable_X0_turn
theorem dX0_isTurnable_0 : decode cX0_isTurnable 0 = .ok (.aload_n 0, 1) := by decide +kernel
theorem dX0_isTurnable_1 : decode cX0_isTurnable 1 = .ok (.iload_n 1, 1) := by decide +kernel
theorem dX0_isTurnable_2 : decode cX0_isTurnable 2 = .ok (.iload_n 2, 1) := by decide +kernel
theorem dX0_isTurnable_3 : decode cX0_isTurnable 3 = .ok (.invokevirtual 94, 3) := by decide +kernel
theorem dX0_isTurnable_6 : decode cX0_isTurnable 6 = .ok (.ifCond .eq 12, 3) := by decide +kernel
theorem dX0_isTurnable_9 : decode cX0_isTurnable 9 = .ok (.aload_n 0, 1) := by decide +kernel
theorem dX0_isTurnable_10 : decode cX0_isTurnable 10 = .ok (.iload_n 1, 1) := by decide +kernel
theorem dX0_isTurnable_11 : decode cX0_isTurnable 11 = .ok (.iload_n 2, 1) := by decide +kernel
theorem dX0_isTurnable_12 : decode cX0_isTurnable 12 = .ok (.invokevirtual 97, 3) := by decide +kernel
theorem dX0_isTurnable_15 : decode cX0_isTurnable 15 = .ok (.ifCond .eq 5, 3) := by decide +kernel
theorem dX0_isTurnable_18 : decode cX0_isTurnable 18 = .ok (.iconst 0, 1) := by decide +kernel
theorem dX0_isTurnable_19 : decode cX0_isTurnable 19 = .ok (.ireturn, 1) := by decide +kernel
theorem dX0_isTurnable_20 : decode cX0_isTurnable 20 = .ok (.aload_n 0, 1) := by decide +kernel
theorem dX0_isTurnable_21 : decode cX0_isTurnable 21 = .ok (.iload_n 1, 1) := by decide +kernel
theorem dX0_isTurnable_22 : decode cX0_isTurnable 22 = .ok (.iload_n 2, 1) := by decide +kernel
theorem dX0_isTurnable_23 : decode cX0_isTurnable 23 = .ok (.invokevirtual 64, 3) := by decide +kernel
theorem dX0_isTurnable_26 : decode cX0_isTurnable 26 = .ok (.istore_n 3, 1) := by decide +kernel
theorem dX0_isTurnable_27 : decode cX0_isTurnable 27 = .ok (.aload_n 0, 1) := by decide +kernel
theorem dX0_isTurnable_28 : decode cX0_isTurnable 28 = .ok (.iload_n 2, 1) := by decide +kernel
theorem dX0_isTurnable_29 : decode cX0_isTurnable 29 = .ok (.iload_n 1, 1) := by decide +kernel
theorem dX0_isTurnable_30 : decode cX0_isTurnable 30 = .ok (.invokevirtual 64, 3) := by decide +kernel
theorem dX0_isTurnable_33 : decode cX0_isTurnable 33 = .ok (.istore 4, 2) := by decide +kernel
theorem dX0_isTurnable_35 : decode cX0_isTurnable 35 = .ok (.aload_n 0, 1) := by decide +kernel
theorem dX0_isTurnable_36 : decode cX0_isTurnable 36 = .ok (.iload_n 3, 1) := by decide +kernel
theorem dX0_isTurnable_37 : decode cX0_isTurnable 37 = .ok (.iload 4, 2) := by decide +kernel
theorem dX0_isTurnable_39 : decode cX0_isTurnable 39 = .ok (.aload_n 0, 1) := by decide +kernel
theorem dX0_isTurnable_40 : decode cX0_isTurnable 40 = .ok (.iload_n 1, 1) := by decide +kernel
theorem dX0_isTurnable_41 : decode cX0_isTurnable 41 = .ok (.invokevirtual 49, 3) := by decide +kernel
theorem dX0_isTurnable_44 : decode cX0_isTurnable 44 = .ok (.aload_n 0, 1) := by decide +kernel
theorem dX0_isTurnable_45 : decode cX0_isTurnable 45 = .ok (.iload_n 1, 1) := by decide +kernel
theorem dX0_isTurnable_46 : decode cX0_isTurnable 46 = .ok (.invokevirtual 53, 3) := by decide +kernel
theorem dX0_isTurnable_49 : decode cX0_isTurnable 49 = .ok (.invokevirtual 77, 3) := by decide +kernel
theorem dX0_isTurnable_52 : decode cX0_isTurnable 52 = .ok (.ifCond .ge 27, 3) := by decide +kernel
theorem dX0_isTurnable_55 : decode cX0_isTurnable 55 = .ok (.aload_n 0, 1) := by decide +kernel
theorem dX0_isTurnable_56 : decode cX0_isTurnable 56 = .ok (.iload_n 3, 1) := by decide +kernel
theorem dX0_isTurnable_57 : decode cX0_isTurnable 57 = .ok (.iload 4, 2) := by decide +kernel
theorem dX0_isTurnable_59 : decode cX0_isTurnable 59 = .ok (.aload_n 0, 1) := by decide +kernel
theorem dX0_isTurnable_60 : decode cX0_isTurnable 60 = .ok (.iload_n 2, 1) := by decide +kernel
theorem dX0_isTurnable_61 : decode cX0_isTurnable 61 = .ok (.invokevirtual 49, 3) := by decide +kernel
theorem dX0_isTurnable_64 : decode cX0_isTurnable 64 = .ok (.aload_n 0, 1) := by decide +kernel
theorem dX0_isTurnable_65 : decode cX0_isTurnable 65 = .ok (.iload_n 2, 1) := by decide +kernel
theorem dX0_isTurnable_66 : decode cX0_isTurnable 66 = .ok (.invokevirtual 53, 3) := by decide +kernel
theorem dX0_isTurnable_69 : decode cX0_isTurnable 69 = .ok (.invokevirtual 77, 3) := by decide +kernel
theorem dX0_isTurnable_72 : decode cX0_isTurnable 72 = .ok (.ifCond .le 7, 3) := by decide +kernel
theorem dX0_isTurnable_75 : decode cX0_isTurnable 75 = .ok (.iconst 1, 1) := by decide +kernel
theorem dX0_isTurnable_76 : decode cX0_isTurnable 76 = .ok (.goto 4, 3) := by decide +kernel
theorem dX0_isTurnable_79 : decode cX0_isTurnable 79 = .ok (.iconst 0, 1) := by decide +kernel
theorem dX0_isTurnable_80 : decode cX0_isTurnable 80 = .ok (.ireturn, 1) := by decide +kernel
set_option maxRecDepth 20000 in
theorem ggX0_setStay_X0_isCairn : GoodIn wsX0_setStay wsX0_isCairn := goodIn_r _ [6, 7, 8, 9, 10, 11, 12, 13, 14] (by decide +kernel) (by decide +kernel)
set_option maxRecDepth 20000 in
theorem gX0_setStay_X0_isCairn : GoodIn wsX0_setStay (wsV RX0 67 RX0 yX0_isCairn wsX0_isCairn) := goodIn_app (goodIn_of _ (by decide +kernel)) ggX0_setStay_X0_isCairn
theorem dX0_setStay_0 : decode cX0_setStay 0 = .ok (.aload_n 0, 1) := by decide +kernel
theorem dX0_setStay_1 : decode cX0_setStay 1 = .ok (.iload_n 1, 1) := by decide +kernel
theorem dX0_setStay_2 : decode cX0_setStay 2 = .ok (.invokevirtual 67, 3) := by decide +kernel
theorem dX0_setStay_5 : decode cX0_setStay 5 = .ok (.ifCond .eq 51, 3) := by decide +kernel
theorem dX0_setStay_8 : decode cX0_setStay 8 = .ok (.aload_n 0, 1) := by decide +kernel
theorem dX0_setStay_9 : decode cX0_setStay 9 = .ok (.iload_n 2, 1) := by decide +kernel
theorem dX0_setStay_10 : decode cX0_setStay 10 = .ok (.invokevirtual 67, 3) := by decide +kernel
theorem dX0_setStay_13 : decode cX0_setStay 13 = .ok (.ifCond .eq 43, 3) := by decide +kernel
theorem dX0_setStay_16 : decode cX0_setStay 16 = .ok (.aload_n 0, 1) := by decide +kernel
theorem dX0_setStay_17 : decode cX0_setStay 17 = .ok (.getfield 21, 3) := by decide +kernel
theorem dX0_setStay_20 : decode cX0_setStay 20 = .ok (.iload_n 1, 1) := by decide +kernel
theorem dX0_setStay_21 : decode cX0_setStay 21 = .ok (.bipush 17, 2) := by decide +kernel
theorem dX0_setStay_23 : decode cX0_setStay 23 = .ok (.imul, 1) := by decide +kernel
theorem dX0_setStay_24 : decode cX0_setStay 24 = .ok (.iload_n 2, 1) := by decide +kernel
theorem dX0_setStay_25 : decode cX0_setStay 25 = .ok (.iadd, 1) := by decide +kernel
theorem dX0_setStay_26 : decode cX0_setStay 26 = .ok (.iload_n 3, 1) := by decide +kernel
theorem dX0_setStay_27 : decode cX0_setStay 27 = .ok (.ifCond .eq 7, 3) := by decide +kernel
theorem dX0_setStay_30 : decode cX0_setStay 30 = .ok (.iconst 1, 1) := by decide +kernel
theorem dX0_setStay_31 : decode cX0_setStay 31 = .ok (.goto 4, 3) := by decide +kernel
theorem dX0_setStay_34 : decode cX0_setStay 34 = .ok (.iconst 0, 1) := by decide +kernel
theorem dX0_setStay_35 : decode cX0_setStay 35 = .ok (.iastore, 1) := by decide +kernel
theorem dX0_setStay_36 : decode cX0_setStay 36 = .ok (.aload_n 0, 1) := by decide +kernel
theorem dX0_setStay_37 : decode cX0_setStay 37 = .ok (.getfield 21, 3) := by decide +kernel
theorem dX0_setStay_40 : decode cX0_setStay 40 = .ok (.iload_n 2, 1) := by decide +kernel
theorem dX0_setStay_41 : decode cX0_setStay 41 = .ok (.bipush 17, 2) := by decide +kernel
theorem dX0_setStay_43 : decode cX0_setStay 43 = .ok (.imul, 1) := by decide +kernel
theorem dX0_setStay_44 : decode cX0_setStay 44 = .ok (.iload_n 1, 1) := by decide +kernel
theorem dX0_setStay_45 : decode cX0_setStay 45 = .ok (.iadd, 1) := by decide +kernel
theorem dX0_setStay_46 : decode cX0_setStay 46 = .ok (.iload_n 3, 1) := by decide +kernel
theorem dX0_setStay_47 : decode cX0_setStay 47 = .ok (.ifCond .eq 7, 3) := by decide +kernel
theorem dX0_setStay_50 : decode cX0_setStay 50 = .ok (.iconst 1, 1) := by decide +kernel
theorem dX0_setStay_51 : decode cX0_setStay 51 = .ok (.goto 4, 3) := by decide +kernel
theorem dX0_setStay_54 : decode cX0_setStay 54 = .ok (.iconst 0, 1) := by decide +kernel
theorem dX0_setStay_55 : decode cX0_setStay 55 = .ok (.iastore, 1) := by decide +kernel
theorem dX0_setStay_56 : decode cX0_setStay 56 = .ok (.return_, 1) := by decide +kernel
set_option maxRecDepth 20000 in
theorem ggX0_turnEdge_X0_leftOf : GoodIn wsX0_turnEdge wsX0_leftOf := goodIn_r _ [5, 6, 55, 56, 57, 58, 59, 60, 61] (by decide +kernel) (by decide +kernel)
set_option maxRecDepth 20000 in
theorem gX0_turnEdge_X0_leftOf : GoodIn wsX0_turnEdge (wsV RX0 64 RX0 yX0_leftOf wsX0_leftOf) := goodIn_app (goodIn_of _ (by decide +kernel)) ggX0_turnEdge_X0_leftOf
set_option maxRecDepth 20000 in
theorem ggX0_turnEdge_X0_removeTriangle : GoodIn wsX0_turnEdge wsX0_removeTriangle := goodIn_r _ [10, 11, 12, 13, 4, 14, 15, 16, 17, 18, 19, 20, 21, 22, 23, 24, 25, 26, 27, 28, 6, 29, 30, 31, 32, 33, 55, 56, 57, 58, 59, 60, 61] (by decide +kernel) (by decide +kernel)
set_option maxRecDepth 20000 in
theorem gX0_turnEdge_X0_removeTriangle : GoodIn wsX0_turnEdge (wsV RX0 109 RX0 yX0_removeTriangle wsX0_removeTriangle) := goodIn_app (goodIn_of _ (by decide +kernel)) ggX0_turnEdge_X0_removeTriangle
set_option maxRecDepth 20000 in
theorem ggX0_turnEdge_X0_addTriangle : GoodIn wsX0_turnEdge wsX0_addTriangle := goodIn_r _ [37, 11, 12, 13, 4, 14, 15, 16, 17, 18, 19, 20, 21, 22, 23, 24, 25, 26, 27, 28, 6, 29, 30, 31, 32, 33, 55, 56, 57, 58, 59, 60, 61] (by decide +kernel) (by decide +kernel)
set_option maxRecDepth 20000 in
theorem gX0_turnEdge_X0_addTriangle : GoodIn wsX0_turnEdge (wsV RX0 31 RX0 yX0_addTriangle wsX0_addTriangle) := goodIn_app (goodIn_of _ (by decide +kernel)) ggX0_turnEdge_X0_addTriangle
set_option maxRecDepth 20000 in
theorem ggX0_turnEdge_X0_listTriangles : GoodIn wsX0_turnEdge wsX0_listTriangles := goodIn_r _ [41, 42, 33, 43, 44, 45, 46, 47, 48, 49, 1, 2, 3, 4, 5, 6, 50, 51, 52, 53, 54, 55, 56, 57, 58, 59, 60, 61] (by decide +kernel) (by decide +kernel)
set_option maxRecDepth 20000 in
theorem gX0_turnEdge_X0_listTriangles : GoodIn wsX0_turnEdge (wsV RX0 35 RX0 yX0_listTriangles wsX0_listTriangles) := goodIn_app (goodIn_of _ (by decide +kernel)) ggX0_turnEdge_X0_listTriangles
theorem dX0_turnEdge_0 : decode cX0_turnEdge 0 = .ok (.aload_n 0, 1) := by decide +kernel
theorem dX0_turnEdge_1 : decode cX0_turnEdge 1 = .ok (.iload_n 1, 1) := by decide +kernel
theorem dX0_turnEdge_2 : decode cX0_turnEdge 2 = .ok (.iload_n 2, 1) := by decide +kernel
theorem dX0_turnEdge_3 : decode cX0_turnEdge 3 = .ok (.invokevirtual 64, 3) := by decide +kernel
theorem dX0_turnEdge_6 : decode cX0_turnEdge 6 = .ok (.istore_n 3, 1) := by decide +kernel
theorem dX0_turnEdge_7 : decode cX0_turnEdge 7 = .ok (.aload_n 0, 1) := by decide +kernel
theorem dX0_turnEdge_8 : decode cX0_turnEdge 8 = .ok (.iload_n 2, 1) := by decide +kernel
theorem dX0_turnEdge_9 : decode cX0_turnEdge 9 = .ok (.iload_n 1, 1) := by decide +kernel
theorem dX0_turnEdge_10 : decode cX0_turnEdge 10 = .ok (.invokevirtual 64, 3) := by decide +kernel
theorem dX0_turnEdge_13 : decode cX0_turnEdge 13 = .ok (.istore 4, 2) := by decide +kernel
theorem dX0_turnEdge_15 : decode cX0_turnEdge 15 = .ok (.aload_n 0, 1) := by decide +kernel
theorem dX0_turnEdge_16 : decode cX0_turnEdge 16 = .ok (.iload_n 1, 1) := by decide +kernel
theorem dX0_turnEdge_17 : decode cX0_turnEdge 17 = .ok (.iload_n 2, 1) := by decide +kernel
theorem dX0_turnEdge_18 : decode cX0_turnEdge 18 = .ok (.iload_n 3, 1) := by decide +kernel
theorem dX0_turnEdge_19 : decode cX0_turnEdge 19 = .ok (.invokevirtual 109, 3) := by decide +kernel
theorem dX0_turnEdge_22 : decode cX0_turnEdge 22 = .ok (.aload_n 0, 1) := by decide +kernel
theorem dX0_turnEdge_23 : decode cX0_turnEdge 23 = .ok (.iload_n 1, 1) := by decide +kernel
theorem dX0_turnEdge_24 : decode cX0_turnEdge 24 = .ok (.iload_n 2, 1) := by decide +kernel
theorem dX0_turnEdge_25 : decode cX0_turnEdge 25 = .ok (.iload 4, 2) := by decide +kernel
theorem dX0_turnEdge_27 : decode cX0_turnEdge 27 = .ok (.invokevirtual 109, 3) := by decide +kernel
theorem dX0_turnEdge_30 : decode cX0_turnEdge 30 = .ok (.aload_n 0, 1) := by decide +kernel
theorem dX0_turnEdge_31 : decode cX0_turnEdge 31 = .ok (.iload_n 3, 1) := by decide +kernel
theorem dX0_turnEdge_32 : decode cX0_turnEdge 32 = .ok (.iload 4, 2) := by decide +kernel
theorem dX0_turnEdge_34 : decode cX0_turnEdge 34 = .ok (.iload_n 1, 1) := by decide +kernel
theorem dX0_turnEdge_35 : decode cX0_turnEdge 35 = .ok (.invokevirtual 31, 3) := by decide +kernel
theorem dX0_turnEdge_38 : decode cX0_turnEdge 38 = .ok (.aload_n 0, 1) := by decide +kernel
theorem dX0_turnEdge_39 : decode cX0_turnEdge 39 = .ok (.iload_n 3, 1) := by decide +kernel
theorem dX0_turnEdge_40 : decode cX0_turnEdge 40 = .ok (.iload 4, 2) := by decide +kernel
theorem dX0_turnEdge_42 : decode cX0_turnEdge 42 = .ok (.iload_n 2, 1) := by decide +kernel
theorem dX0_turnEdge_43 : decode cX0_turnEdge 43 = .ok (.invokevirtual 31, 3) := by decide +kernel
theorem dX0_turnEdge_46 : decode cX0_turnEdge 46 = .ok (.aload_n 0, 1) := by decide +kernel
theorem dX0_turnEdge_47 : decode cX0_turnEdge 47 = .ok (.invokevirtual 35, 3) := by decide +kernel
theorem dX0_turnEdge_50 : decode cX0_turnEdge 50 = .ok (.return_, 1) := by decide +kernel
set_option maxRecDepth 20000 in
theorem ggX0_turnUnfairEdges_X0_turnFirstUnfairEdge : GoodIn wsX0_turnUnfairEdges wsX0_turnFirstUnfairEdge := goodIn_r _ [5, 6, 7, 8, 9, 4, 10, 11, 12, 13, 14, 15, 16, 17, 18, 19, 20, 21, 22, 23, 24, 25, 26, 27, 28, 29, 30, 31, 32, 33, 34, 35, 36, 37, 38, 39, 40, 41, 42, 43, 44, 45, 46, 47, 48, 49, 50, 51, 52, 53, 54, 55, 56, 57, 58, 59, 60, 61, 62, 63, 64, 65, 66, 67, 68, 69, 70, 71, 72, 73, 74, 75, 76, 77, 78, 79, 80, 81, 82, 83, 84, 85, 86] (by decide +kernel) (by decide +kernel)
set_option maxRecDepth 20000 in
theorem gX0_turnUnfairEdges_X0_turnFirstUnfairEdge : GoodIn wsX0_turnUnfairEdges (wsV RX0 112 RX0 yX0_turnFirstUnfairEdge wsX0_turnFirstUnfairEdge) := goodIn_app (goodIn_of _ (by decide +kernel)) ggX0_turnUnfairEdges_X0_turnFirstUnfairEdge
theorem dX0_turnUnfairEdges_0 : decode cX0_turnUnfairEdges 0 = .ok (.iconst 0, 1) := by decide +kernel
theorem dX0_turnUnfairEdges_1 : decode cX0_turnUnfairEdges 1 = .ok (.istore_n 1, 1) := by decide +kernel
theorem dX0_turnUnfairEdges_2 : decode cX0_turnUnfairEdges 2 = .ok (.iload_n 1, 1) := by decide +kernel
theorem dX0_turnUnfairEdges_3 : decode cX0_turnUnfairEdges 3 = .ok (.sipush 1000, 3) := by decide +kernel
theorem dX0_turnUnfairEdges_6 : decode cX0_turnUnfairEdges 6 = .ok (.if_icmp .ge 16, 3) := by decide +kernel
theorem dX0_turnUnfairEdges_9 : decode cX0_turnUnfairEdges 9 = .ok (.aload_n 0, 1) := by decide +kernel
theorem dX0_turnUnfairEdges_10 : decode cX0_turnUnfairEdges 10 = .ok (.invokevirtual 112, 3) := by decide +kernel
theorem dX0_turnUnfairEdges_13 : decode cX0_turnUnfairEdges 13 = .ok (.ifCond .eq 9, 3) := by decide +kernel
theorem dX0_turnUnfairEdges_16 : decode cX0_turnUnfairEdges 16 = .ok (.iinc 1 1, 3) := by decide +kernel
theorem dX0_turnUnfairEdges_19 : decode cX0_turnUnfairEdges 19 = .ok (.goto (-17), 3) := by decide +kernel
theorem dX0_turnUnfairEdges_22 : decode cX0_turnUnfairEdges 22 = .ok (.iload_n 1, 1) := by decide +kernel
theorem dX0_turnUnfairEdges_23 : decode cX0_turnUnfairEdges 23 = .ok (.ireturn, 1) := by decide +kernel
set_option maxRecDepth 20000 in
theorem ggX0_turnFirstUnfairEdge_X0_isUnfair : GoodIn wsX0_turnFirstUnfairEdge wsX0_isUnfair := goodIn_r _ [6, 7, 8, 9, 5, 10, 11, 12, 13, 14, 15, 16, 17, 18, 19, 20, 21, 22, 23, 24, 25, 26, 27, 28, 29, 76, 77, 78, 79, 80, 81, 82] (by decide +kernel) (by decide +kernel)
set_option maxRecDepth 20000 in
theorem gX0_turnFirstUnfairEdge_X0_isUnfair : GoodIn wsX0_turnFirstUnfairEdge (wsV RX0 100 RX0 yX0_isUnfair wsX0_isUnfair) := goodIn_app (goodIn_of _ (by decide +kernel)) ggX0_turnFirstUnfairEdge_X0_isUnfair
set_option maxRecDepth 20000 in
theorem ggX0_turnFirstUnfairEdge_X0_mustStay : GoodIn wsX0_turnFirstUnfairEdge wsX0_mustStay := goodIn_r _ [33, 34, 35, 36, 37, 5, 38, 1, 76, 77, 78, 79, 80, 81, 82] (by decide +kernel) (by decide +kernel)
set_option maxRecDepth 20000 in
theorem gX0_turnFirstUnfairEdge_X0_mustStay : GoodIn wsX0_turnFirstUnfairEdge (wsV RX0 97 RX0 yX0_mustStay wsX0_mustStay) := goodIn_app (goodIn_of _ (by decide +kernel)) ggX0_turnFirstUnfairEdge_X0_mustStay
set_option maxRecDepth 20000 in
theorem ggX0_turnFirstUnfairEdge_X0_turnEdge : GoodIn wsX0_turnFirstUnfairEdge wsX0_turnEdge := goodIn_r _ [42, 7, 8, 9, 5, 10, 11, 43, 44, 45, 46, 16, 17, 18, 19, 20, 21, 22, 23, 24, 25, 47, 48, 49, 50, 51, 52, 53, 54, 35, 36, 37, 38, 1, 55, 56, 57, 58, 59, 60, 61, 62, 63, 64, 65, 66, 67, 68, 69, 70, 71, 72, 73, 74, 75, 76, 77, 78, 79, 80, 81, 82] (by decide +kernel) (by decide +kernel)
set_option maxRecDepth 20000 in
theorem gX0_turnFirstUnfairEdge_X0_turnEdge : GoodIn wsX0_turnFirstUnfairEdge (wsV RX0 116 RX0 yX0_turnEdge wsX0_turnEdge) := goodIn_app (goodIn_of _ (by decide +kernel)) ggX0_turnFirstUnfairEdge_X0_turnEdge
theorem dX0_turnFirstUnfairEdge_0 : decode cX0_turnFirstUnfairEdge 0 = .ok (.iconst 0, 1) := by decide +kernel
theorem dX0_turnFirstUnfairEdge_1 : decode cX0_turnFirstUnfairEdge 1 = .ok (.istore_n 1, 1) := by decide +kernel
theorem dX0_turnFirstUnfairEdge_2 : decode cX0_turnFirstUnfairEdge 2 = .ok (.iload_n 1, 1) := by decide +kernel
theorem dX0_turnFirstUnfairEdge_3 : decode cX0_turnFirstUnfairEdge 3 = .ok (.aload_n 0, 1) := by decide +kernel
theorem dX0_turnFirstUnfairEdge_4 : decode cX0_turnFirstUnfairEdge 4 = .ok (.getfield 38, 3) := by decide +kernel
theorem dX0_turnFirstUnfairEdge_7 : decode cX0_turnFirstUnfairEdge 7 = .ok (.if_icmp .ge 53, 3) := by decide +kernel
theorem dX0_turnFirstUnfairEdge_10 : decode cX0_turnFirstUnfairEdge 10 = .ok (.iload_n 1, 1) := by decide +kernel
theorem dX0_turnFirstUnfairEdge_11 : decode cX0_turnFirstUnfairEdge 11 = .ok (.iconst 1, 1) := by decide +kernel
theorem dX0_turnFirstUnfairEdge_12 : decode cX0_turnFirstUnfairEdge 12 = .ok (.iadd, 1) := by decide +kernel
theorem dX0_turnFirstUnfairEdge_13 : decode cX0_turnFirstUnfairEdge 13 = .ok (.istore_n 2, 1) := by decide +kernel
theorem dX0_turnFirstUnfairEdge_14 : decode cX0_turnFirstUnfairEdge 14 = .ok (.iload_n 2, 1) := by decide +kernel
theorem dX0_turnFirstUnfairEdge_15 : decode cX0_turnFirstUnfairEdge 15 = .ok (.aload_n 0, 1) := by decide +kernel
theorem dX0_turnFirstUnfairEdge_16 : decode cX0_turnFirstUnfairEdge 16 = .ok (.getfield 38, 3) := by decide +kernel
theorem dX0_turnFirstUnfairEdge_19 : decode cX0_turnFirstUnfairEdge 19 = .ok (.if_icmp .ge 35, 3) := by decide +kernel
theorem dX0_turnFirstUnfairEdge_22 : decode cX0_turnFirstUnfairEdge 22 = .ok (.aload_n 0, 1) := by decide +kernel
theorem dX0_turnFirstUnfairEdge_23 : decode cX0_turnFirstUnfairEdge 23 = .ok (.iload_n 1, 1) := by decide +kernel
theorem dX0_turnFirstUnfairEdge_24 : decode cX0_turnFirstUnfairEdge 24 = .ok (.iload_n 2, 1) := by decide +kernel
theorem dX0_turnFirstUnfairEdge_25 : decode cX0_turnFirstUnfairEdge 25 = .ok (.invokevirtual 100, 3) := by decide +kernel
theorem dX0_turnFirstUnfairEdge_28 : decode cX0_turnFirstUnfairEdge 28 = .ok (.ifCond .eq 20, 3) := by decide +kernel
theorem dX0_turnFirstUnfairEdge_31 : decode cX0_turnFirstUnfairEdge 31 = .ok (.aload_n 0, 1) := by decide +kernel
theorem dX0_turnFirstUnfairEdge_32 : decode cX0_turnFirstUnfairEdge 32 = .ok (.iload_n 1, 1) := by decide +kernel
theorem dX0_turnFirstUnfairEdge_33 : decode cX0_turnFirstUnfairEdge 33 = .ok (.iload_n 2, 1) := by decide +kernel
theorem dX0_turnFirstUnfairEdge_34 : decode cX0_turnFirstUnfairEdge 34 = .ok (.invokevirtual 97, 3) := by decide +kernel
theorem dX0_turnFirstUnfairEdge_37 : decode cX0_turnFirstUnfairEdge 37 = .ok (.ifCond .ne 11, 3) := by decide +kernel
theorem dX0_turnFirstUnfairEdge_40 : decode cX0_turnFirstUnfairEdge 40 = .ok (.aload_n 0, 1) := by decide +kernel
theorem dX0_turnFirstUnfairEdge_41 : decode cX0_turnFirstUnfairEdge 41 = .ok (.iload_n 1, 1) := by decide +kernel
theorem dX0_turnFirstUnfairEdge_42 : decode cX0_turnFirstUnfairEdge 42 = .ok (.iload_n 2, 1) := by decide +kernel
theorem dX0_turnFirstUnfairEdge_43 : decode cX0_turnFirstUnfairEdge 43 = .ok (.invokevirtual 116, 3) := by decide +kernel
theorem dX0_turnFirstUnfairEdge_46 : decode cX0_turnFirstUnfairEdge 46 = .ok (.iconst 1, 1) := by decide +kernel
theorem dX0_turnFirstUnfairEdge_47 : decode cX0_turnFirstUnfairEdge 47 = .ok (.ireturn, 1) := by decide +kernel
theorem dX0_turnFirstUnfairEdge_48 : decode cX0_turnFirstUnfairEdge 48 = .ok (.iinc 2 1, 3) := by decide +kernel
theorem dX0_turnFirstUnfairEdge_51 : decode cX0_turnFirstUnfairEdge 51 = .ok (.goto (-37), 3) := by decide +kernel
theorem dX0_turnFirstUnfairEdge_54 : decode cX0_turnFirstUnfairEdge 54 = .ok (.iinc 1 1, 3) := by decide +kernel
theorem dX0_turnFirstUnfairEdge_57 : decode cX0_turnFirstUnfairEdge 57 = .ok (.goto (-55), 3) := by decide +kernel
theorem dX0_turnFirstUnfairEdge_60 : decode cX0_turnFirstUnfairEdge 60 = .ok (.iconst 0, 1) := by decide +kernel
theorem dX0_turnFirstUnfairEdge_61 : decode cX0_turnFirstUnfairEdge 61 = .ok (.ireturn, 1) := by decide +kernel
set_option maxRecDepth 20000 in
theorem ggX0_insert_X0_find : GoodIn wsX0_insert wsX0_find := goodIn_r _ [6, 7, 8, 9, 10, 5, 11, 12, 13, 14, 15, 16, 17, 18, 19, 20, 21, 22, 23, 24, 25, 26, 27, 28, 29, 30, 88, 89, 90, 91, 92, 93, 94] (by decide +kernel) (by decide +kernel)
set_option maxRecDepth 20000 in
theorem gX0_insert_X0_find : GoodIn wsX0_insert (wsV RX0 120 RX0 yX0_find wsX0_find) := goodIn_app (goodIn_of _ (by decide +kernel)) ggX0_insert_X0_find
set_option maxRecDepth 20000 in
theorem ggX0_insert_X0_corner : GoodIn wsX0_insert wsX0_corner := goodIn_r _ [15, 16, 88, 89, 90, 91, 92, 93, 94] (by decide +kernel) (by decide +kernel)
set_option maxRecDepth 20000 in
theorem gX0_insert_X0_corner : GoodIn wsX0_insert (wsV RX0 74 RX0 yX0_corner wsX0_corner) := goodIn_app (goodIn_of _ (by decide +kernel)) ggX0_insert_X0_corner
set_option maxRecDepth 20000 in
theorem ggX0_insert_X0_addCairn : GoodIn wsX0_insert wsX0_addCairn := goodIn_r _ [34, 1, 25, 30, 88, 89, 90, 91, 92, 93, 94] (by decide +kernel) (by decide +kernel)
set_option maxRecDepth 20000 in
theorem gX0_insert_X0_addCairn : GoodIn wsX0_insert (wsV RX0 27 RX0 yX0_addCairn wsX0_addCairn) := goodIn_app (goodIn_of _ (by decide +kernel)) ggX0_insert_X0_addCairn
set_option maxRecDepth 20000 in
theorem ggX0_insert_X0_turn : GoodIn wsX0_insert wsX0_turn := goodIn_r _ [20, 21, 22, 23, 5, 24, 25, 26, 27, 28, 29, 30, 88, 89, 90, 91, 92, 93, 94] (by decide +kernel) (by decide +kernel)
set_option maxRecDepth 20000 in
theorem gX0_insert_X0_turn : GoodIn wsX0_insert (wsV RX0 77 RX0 yX0_turn wsX0_turn) := goodIn_app (goodIn_of _ (by decide +kernel)) ggX0_insert_X0_turn
set_option maxRecDepth 20000 in
theorem ggX0_insert_X0_cutEdge : GoodIn wsX0_insert wsX0_cutEdge := goodIn_r _ [38, 39, 40, 41, 5, 42, 43, 44, 45, 46, 47, 48, 49, 50, 51, 21, 22, 23, 24, 25, 26, 27, 28, 29, 30, 17, 18, 19, 20, 52, 53, 54, 55, 56, 57, 58, 59, 1, 60, 61, 62, 63, 64, 65, 66, 67, 68, 69, 70, 71, 72, 88, 89, 90, 91, 92, 93, 94] (by decide +kernel) (by decide +kernel)
set_option maxRecDepth 20000 in
theorem gX0_insert_X0_cutEdge : GoodIn wsX0_insert (wsV RX0 123 RX0 yX0_cutEdge wsX0_cutEdge) := goodIn_app (goodIn_of _ (by decide +kernel)) ggX0_insert_X0_cutEdge
set_option maxRecDepth 20000 in
theorem ggX0_insert_X0_removeTriangle : GoodIn wsX0_insert wsX0_removeTriangle := goodIn_r _ [51, 21, 22, 23, 5, 24, 25, 26, 27, 28, 29, 30, 17, 18, 19, 20, 52, 53, 54, 55, 43, 56, 57, 58, 59, 1, 88, 89, 90, 91, 92, 93, 94] (by decide +kernel) (by decide +kernel)
set_option maxRecDepth 20000 in
theorem gX0_insert_X0_removeTriangle : GoodIn wsX0_insert (wsV RX0 109 RX0 yX0_removeTriangle wsX0_removeTriangle) := goodIn_app (goodIn_of _ (by decide +kernel)) ggX0_insert_X0_removeTriangle
set_option maxRecDepth 20000 in
theorem ggX0_insert_X0_addTriangle : GoodIn wsX0_insert wsX0_addTriangle := goodIn_r _ [63, 21, 22, 23, 5, 24, 25, 26, 27, 28, 29, 30, 17, 18, 19, 20, 52, 53, 54, 55, 43, 56, 57, 58, 59, 1, 88, 89, 90, 91, 92, 93, 94] (by decide +kernel) (by decide +kernel)
set_option maxRecDepth 20000 in
theorem gX0_insert_X0_addTriangle : GoodIn wsX0_insert (wsV RX0 31 RX0 yX0_addTriangle wsX0_addTriangle) := goodIn_app (goodIn_of _ (by decide +kernel)) ggX0_insert_X0_addTriangle
set_option maxRecDepth 20000 in
theorem ggX0_insert_X0_listTriangles : GoodIn wsX0_insert wsX0_listTriangles := goodIn_r _ [76, 7, 1, 77, 78, 79, 80, 81, 82, 83, 39, 40, 41, 5, 42, 43, 84, 85, 86, 87, 16, 88, 89, 90, 91, 92, 93, 94] (by decide +kernel) (by decide +kernel)
set_option maxRecDepth 20000 in
theorem gX0_insert_X0_listTriangles : GoodIn wsX0_insert (wsV RX0 35 RX0 yX0_listTriangles wsX0_listTriangles) := goodIn_app (goodIn_of _ (by decide +kernel)) ggX0_insert_X0_listTriangles
theorem dX0_insert_0 : decode cX0_insert 0 = .ok (.aload_n 0, 1) := by decide +kernel
theorem dX0_insert_1 : decode cX0_insert 1 = .ok (.iload_n 1, 1) := by decide +kernel
theorem dX0_insert_2 : decode cX0_insert 2 = .ok (.iload_n 2, 1) := by decide +kernel
theorem dX0_insert_3 : decode cX0_insert 3 = .ok (.invokevirtual 120, 3) := by decide +kernel
theorem dX0_insert_6 : decode cX0_insert 6 = .ok (.istore_n 3, 1) := by decide +kernel
theorem dX0_insert_7 : decode cX0_insert 7 = .ok (.iload_n 3, 1) := by decide +kernel
theorem dX0_insert_8 : decode cX0_insert 8 = .ok (.iconst (-1), 1) := by decide +kernel
theorem dX0_insert_9 : decode cX0_insert 9 = .ok (.if_icmp .eq 12, 3) := by decide +kernel
theorem dX0_insert_12 : decode cX0_insert 12 = .ok (.aload_n 0, 1) := by decide +kernel
theorem dX0_insert_13 : decode cX0_insert 13 = .ok (.getfield 38, 3) := by decide +kernel
theorem dX0_insert_16 : decode cX0_insert 16 = .ok (.bipush 17, 2) := by decide +kernel
theorem dX0_insert_18 : decode cX0_insert 18 = .ok (.if_icmp .lt 5, 3) := by decide +kernel
theorem dX0_insert_21 : decode cX0_insert 21 = .ok (.iconst (-1), 1) := by decide +kernel
theorem dX0_insert_22 : decode cX0_insert 22 = .ok (.ireturn, 1) := by decide +kernel
theorem dX0_insert_23 : decode cX0_insert 23 = .ok (.aload_n 0, 1) := by decide +kernel
theorem dX0_insert_24 : decode cX0_insert 24 = .ok (.iload_n 3, 1) := by decide +kernel
theorem dX0_insert_25 : decode cX0_insert 25 = .ok (.iconst 0, 1) := by decide +kernel
theorem dX0_insert_26 : decode cX0_insert 26 = .ok (.invokevirtual 74, 3) := by decide +kernel
theorem dX0_insert_29 : decode cX0_insert 29 = .ok (.istore 4, 2) := by decide +kernel
theorem dX0_insert_31 : decode cX0_insert 31 = .ok (.aload_n 0, 1) := by decide +kernel
theorem dX0_insert_32 : decode cX0_insert 32 = .ok (.iload_n 3, 1) := by decide +kernel
theorem dX0_insert_33 : decode cX0_insert 33 = .ok (.iconst 1, 1) := by decide +kernel
theorem dX0_insert_34 : decode cX0_insert 34 = .ok (.invokevirtual 74, 3) := by decide +kernel
theorem dX0_insert_37 : decode cX0_insert 37 = .ok (.istore 5, 2) := by decide +kernel
theorem dX0_insert_39 : decode cX0_insert 39 = .ok (.aload_n 0, 1) := by decide +kernel
theorem dX0_insert_40 : decode cX0_insert 40 = .ok (.iload_n 3, 1) := by decide +kernel
theorem dX0_insert_41 : decode cX0_insert 41 = .ok (.iconst 2, 1) := by decide +kernel
theorem dX0_insert_42 : decode cX0_insert 42 = .ok (.invokevirtual 74, 3) := by decide +kernel
theorem dX0_insert_45 : decode cX0_insert 45 = .ok (.istore 6, 2) := by decide +kernel
theorem dX0_insert_47 : decode cX0_insert 47 = .ok (.aload_n 0, 1) := by decide +kernel
theorem dX0_insert_48 : decode cX0_insert 48 = .ok (.iload_n 1, 1) := by decide +kernel
theorem dX0_insert_49 : decode cX0_insert 49 = .ok (.iload_n 2, 1) := by decide +kernel
theorem dX0_insert_50 : decode cX0_insert 50 = .ok (.invokevirtual 27, 3) := by decide +kernel
theorem dX0_insert_53 : decode cX0_insert 53 = .ok (.istore 7, 2) := by decide +kernel
theorem dX0_insert_55 : decode cX0_insert 55 = .ok (.aload_n 0, 1) := by decide +kernel
theorem dX0_insert_56 : decode cX0_insert 56 = .ok (.iload 4, 2) := by decide +kernel
theorem dX0_insert_58 : decode cX0_insert 58 = .ok (.iload 5, 2) := by decide +kernel
theorem dX0_insert_60 : decode cX0_insert 60 = .ok (.iload_n 1, 1) := by decide +kernel
theorem dX0_insert_61 : decode cX0_insert 61 = .ok (.iload_n 2, 1) := by decide +kernel
theorem dX0_insert_62 : decode cX0_insert 62 = .ok (.invokevirtual 77, 3) := by decide +kernel
theorem dX0_insert_65 : decode cX0_insert 65 = .ok (.ifCond .ne 16, 3) := by decide +kernel
theorem dX0_insert_68 : decode cX0_insert 68 = .ok (.aload_n 0, 1) := by decide +kernel
theorem dX0_insert_69 : decode cX0_insert 69 = .ok (.iload 4, 2) := by decide +kernel
theorem dX0_insert_71 : decode cX0_insert 71 = .ok (.iload 5, 2) := by decide +kernel
theorem dX0_insert_73 : decode cX0_insert 73 = .ok (.iload 7, 2) := by decide +kernel
theorem dX0_insert_75 : decode cX0_insert 75 = .ok (.invokevirtual 123, 3) := by decide +kernel
theorem dX0_insert_78 : decode cX0_insert 78 = .ok (.goto 95, 3) := by decide +kernel
theorem dX0_insert_81 : decode cX0_insert 81 = .ok (.aload_n 0, 1) := by decide +kernel
theorem dX0_insert_82 : decode cX0_insert 82 = .ok (.iload 5, 2) := by decide +kernel
theorem dX0_insert_84 : decode cX0_insert 84 = .ok (.iload 6, 2) := by decide +kernel
theorem dX0_insert_86 : decode cX0_insert 86 = .ok (.iload_n 1, 1) := by decide +kernel
theorem dX0_insert_87 : decode cX0_insert 87 = .ok (.iload_n 2, 1) := by decide +kernel
theorem dX0_insert_88 : decode cX0_insert 88 = .ok (.invokevirtual 77, 3) := by decide +kernel
theorem dX0_insert_91 : decode cX0_insert 91 = .ok (.ifCond .ne 16, 3) := by decide +kernel
theorem dX0_insert_94 : decode cX0_insert 94 = .ok (.aload_n 0, 1) := by decide +kernel
theorem dX0_insert_95 : decode cX0_insert 95 = .ok (.iload 5, 2) := by decide +kernel
theorem dX0_insert_97 : decode cX0_insert 97 = .ok (.iload 6, 2) := by decide +kernel
theorem dX0_insert_99 : decode cX0_insert 99 = .ok (.iload 7, 2) := by decide +kernel
theorem dX0_insert_101 : decode cX0_insert 101 = .ok (.invokevirtual 123, 3) := by decide +kernel
theorem dX0_insert_104 : decode cX0_insert 104 = .ok (.goto 69, 3) := by decide +kernel
theorem dX0_insert_107 : decode cX0_insert 107 = .ok (.aload_n 0, 1) := by decide +kernel
theorem dX0_insert_108 : decode cX0_insert 108 = .ok (.iload 6, 2) := by decide +kernel
theorem dX0_insert_110 : decode cX0_insert 110 = .ok (.iload 4, 2) := by decide +kernel
theorem dX0_insert_112 : decode cX0_insert 112 = .ok (.iload_n 1, 1) := by decide +kernel
theorem dX0_insert_113 : decode cX0_insert 113 = .ok (.iload_n 2, 1) := by decide +kernel
theorem dX0_insert_114 : decode cX0_insert 114 = .ok (.invokevirtual 77, 3) := by decide +kernel
theorem dX0_insert_117 : decode cX0_insert 117 = .ok (.ifCond .ne 16, 3) := by decide +kernel
theorem dX0_insert_120 : decode cX0_insert 120 = .ok (.aload_n 0, 1) := by decide +kernel
theorem dX0_insert_121 : decode cX0_insert 121 = .ok (.iload 6, 2) := by decide +kernel
theorem dX0_insert_123 : decode cX0_insert 123 = .ok (.iload 4, 2) := by decide +kernel
theorem dX0_insert_125 : decode cX0_insert 125 = .ok (.iload 7, 2) := by decide +kernel
theorem dX0_insert_127 : decode cX0_insert 127 = .ok (.invokevirtual 123, 3) := by decide +kernel
theorem dX0_insert_130 : decode cX0_insert 130 = .ok (.goto 43, 3) := by decide +kernel
theorem dX0_insert_133 : decode cX0_insert 133 = .ok (.aload_n 0, 1) := by decide +kernel
theorem dX0_insert_134 : decode cX0_insert 134 = .ok (.iload 4, 2) := by decide +kernel
theorem dX0_insert_136 : decode cX0_insert 136 = .ok (.iload 5, 2) := by decide +kernel
