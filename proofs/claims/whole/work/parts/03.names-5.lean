theorem dX2_way_45 : decode cX2_way 45 = .ok (.iload 4, 2) := by decide +kernel
theorem dX2_way_47 : decode cX2_way 47 = .ok (.iload_n 1, 1) := by decide +kernel
theorem dX2_way_48 : decode cX2_way 48 = .ok (.if_icmp .ne 7, 3) := by decide +kernel
theorem dX2_way_51 : decode cX2_way 51 = .ok (.iconst 0, 1) := by decide +kernel
theorem dX2_way_52 : decode cX2_way 52 = .ok (.goto 4, 3) := by decide +kernel
theorem dX2_way_55 : decode cX2_way 55 = .ok (.iconst (-1), 1) := by decide +kernel
theorem dX2_way_56 : decode cX2_way 56 = .ok (.iastore, 1) := by decide +kernel
theorem dX2_way_57 : decode cX2_way 57 = .ok (.iinc 4 1, 3) := by decide +kernel
theorem dX2_way_60 : decode cX2_way 60 = .ok (.goto (-25), 3) := by decide +kernel
theorem dX2_way_63 : decode cX2_way 63 = .ok (.iconst 0, 1) := by decide +kernel
theorem dX2_way_64 : decode cX2_way 64 = .ok (.istore 4, 2) := by decide +kernel
theorem dX2_way_66 : decode cX2_way 66 = .ok (.aload_n 3, 1) := by decide +kernel
theorem dX2_way_67 : decode cX2_way 67 = .ok (.iload_n 2, 1) := by decide +kernel
theorem dX2_way_68 : decode cX2_way 68 = .ok (.iaload, 1) := by decide +kernel
theorem dX2_way_69 : decode cX2_way 69 = .ok (.iconst (-1), 1) := by decide +kernel
theorem dX2_way_70 : decode cX2_way 70 = .ok (.if_icmp .ne 81, 3) := by decide +kernel
theorem dX2_way_73 : decode cX2_way 73 = .ok (.iconst 0, 1) := by decide +kernel
theorem dX2_way_74 : decode cX2_way 74 = .ok (.istore 5, 2) := by decide +kernel
theorem dX2_way_76 : decode cX2_way 76 = .ok (.iload 5, 2) := by decide +kernel
theorem dX2_way_78 : decode cX2_way 78 = .ok (.aload_n 0, 1) := by decide +kernel
theorem dX2_way_79 : decode cX2_way 79 = .ok (.getfield 7, 3) := by decide +kernel
theorem dX2_way_82 : decode cX2_way 82 = .ok (.if_icmp .ge 63, 3) := by decide +kernel
theorem dX2_way_85 : decode cX2_way 85 = .ok (.iconst 0, 1) := by decide +kernel
theorem dX2_way_86 : decode cX2_way 86 = .ok (.istore 6, 2) := by decide +kernel
theorem dX2_way_88 : decode cX2_way 88 = .ok (.iload 6, 2) := by decide +kernel
theorem dX2_way_90 : decode cX2_way 90 = .ok (.aload_n 0, 1) := by decide +kernel
theorem dX2_way_91 : decode cX2_way 91 = .ok (.getfield 7, 3) := by decide +kernel
theorem dX2_way_94 : decode cX2_way 94 = .ok (.if_icmp .ge 45, 3) := by decide +kernel
theorem dX2_way_97 : decode cX2_way 97 = .ok (.aload_n 3, 1) := by decide +kernel
theorem dX2_way_98 : decode cX2_way 98 = .ok (.iload 5, 2) := by decide +kernel
theorem dX2_way_100 : decode cX2_way 100 = .ok (.iaload, 1) := by decide +kernel
theorem dX2_way_101 : decode cX2_way 101 = .ok (.iload 4, 2) := by decide +kernel
theorem dX2_way_103 : decode cX2_way 103 = .ok (.if_icmp .ne 30, 3) := by decide +kernel
theorem dX2_way_106 : decode cX2_way 106 = .ok (.aload_n 3, 1) := by decide +kernel
theorem dX2_way_107 : decode cX2_way 107 = .ok (.iload 6, 2) := by decide +kernel
theorem dX2_way_109 : decode cX2_way 109 = .ok (.iaload, 1) := by decide +kernel
theorem dX2_way_110 : decode cX2_way 110 = .ok (.iconst (-1), 1) := by decide +kernel
theorem dX2_way_111 : decode cX2_way 111 = .ok (.if_icmp .ne 22, 3) := by decide +kernel
theorem dX2_way_114 : decode cX2_way 114 = .ok (.aload_n 0, 1) := by decide +kernel
theorem dX2_way_115 : decode cX2_way 115 = .ok (.iload 5, 2) := by decide +kernel
theorem dX2_way_117 : decode cX2_way 117 = .ok (.iload 6, 2) := by decide +kernel
theorem dX2_way_119 : decode cX2_way 119 = .ok (.invokevirtual 82, 3) := by decide +kernel
theorem dX2_way_122 : decode cX2_way 122 = .ok (.ifCond .le 11, 3) := by decide +kernel
theorem dX2_way_125 : decode cX2_way 125 = .ok (.aload_n 3, 1) := by decide +kernel
theorem dX2_way_126 : decode cX2_way 126 = .ok (.iload 6, 2) := by decide +kernel
theorem dX2_way_128 : decode cX2_way 128 = .ok (.iload 4, 2) := by decide +kernel
theorem dX2_way_130 : decode cX2_way 130 = .ok (.iconst 1, 1) := by decide +kernel
theorem dX2_way_131 : decode cX2_way 131 = .ok (.iadd, 1) := by decide +kernel
theorem dX2_way_132 : decode cX2_way 132 = .ok (.iastore, 1) := by decide +kernel
theorem dX2_way_133 : decode cX2_way 133 = .ok (.iinc 6 1, 3) := by decide +kernel
theorem dX2_way_136 : decode cX2_way 136 = .ok (.goto (-48), 3) := by decide +kernel
theorem dX2_way_139 : decode cX2_way 139 = .ok (.iinc 5 1, 3) := by decide +kernel
theorem dX2_way_142 : decode cX2_way 142 = .ok (.goto (-66), 3) := by decide +kernel
theorem dX2_way_145 : decode cX2_way 145 = .ok (.iinc 4 1, 3) := by decide +kernel
theorem dX2_way_148 : decode cX2_way 148 = .ok (.goto (-82), 3) := by decide +kernel
theorem dX2_way_151 : decode cX2_way 151 = .ok (.aload_n 3, 1) := by decide +kernel
theorem dX2_way_152 : decode cX2_way 152 = .ok (.iload_n 2, 1) := by decide +kernel
theorem dX2_way_153 : decode cX2_way 153 = .ok (.iaload, 1) := by decide +kernel
theorem dX2_way_154 : decode cX2_way 154 = .ok (.ireturn, 1) := by decide +kernel
theorem dX2_keptTriangles_0 : decode cX2_keptTriangles 0 = .ok (.aload_n 0, 1) := by decide +kernel
theorem dX2_keptTriangles_1 : decode cX2_keptTriangles 1 = .ok (.getfield 23, 3) := by decide +kernel
theorem dX2_keptTriangles_4 : decode cX2_keptTriangles 4 = .ok (.invokevirtual 169, 3) := by decide +kernel
theorem dX2_keptTriangles_7 : decode cX2_keptTriangles 7 = .ok (.checkcast 170, 3) := by decide +kernel
theorem dX2_keptTriangles_10 : decode cX2_keptTriangles 10 = .ok (.areturn, 1) := by decide +kernel
theorem dX2_keptStays_0 : decode cX2_keptStays 0 = .ok (.bipush 17, 2) := by decide +kernel
theorem dX2_keptStays_2 : decode cX2_keptStays 2 = .ok (.anewarray 174, 3) := by decide +kernel
theorem dX2_keptStays_5 : decode cX2_keptStays 5 = .ok (.astore_n 1, 1) := by decide +kernel
theorem dX2_keptStays_6 : decode cX2_keptStays 6 = .ok (.iconst 0, 1) := by decide +kernel
theorem dX2_keptStays_7 : decode cX2_keptStays 7 = .ok (.istore_n 2, 1) := by decide +kernel
theorem dX2_keptStays_8 : decode cX2_keptStays 8 = .ok (.iload_n 2, 1) := by decide +kernel
theorem dX2_keptStays_9 : decode cX2_keptStays 9 = .ok (.bipush 16, 2) := by decide +kernel
theorem dX2_keptStays_11 : decode cX2_keptStays 11 = .ok (.if_icmp .gt 24, 3) := by decide +kernel
theorem dX2_keptStays_14 : decode cX2_keptStays 14 = .ok (.aload_n 1, 1) := by decide +kernel
theorem dX2_keptStays_15 : decode cX2_keptStays 15 = .ok (.iload_n 2, 1) := by decide +kernel
theorem dX2_keptStays_16 : decode cX2_keptStays 16 = .ok (.aload_n 0, 1) := by decide +kernel
theorem dX2_keptStays_17 : decode cX2_keptStays 17 = .ok (.getfield 28, 3) := by decide +kernel
theorem dX2_keptStays_20 : decode cX2_keptStays 20 = .ok (.iload_n 2, 1) := by decide +kernel
theorem dX2_keptStays_21 : decode cX2_keptStays 21 = .ok (.aaload, 1) := by decide +kernel
theorem dX2_keptStays_22 : decode cX2_keptStays 22 = .ok (.invokevirtual 176, 3) := by decide +kernel
theorem dX2_keptStays_25 : decode cX2_keptStays 25 = .ok (.checkcast 174, 3) := by decide +kernel
theorem dX2_keptStays_28 : decode cX2_keptStays 28 = .ok (.aastore, 1) := by decide +kernel
theorem dX2_keptStays_29 : decode cX2_keptStays 29 = .ok (.iinc 2 1, 3) := by decide +kernel
theorem dX2_keptStays_32 : decode cX2_keptStays 32 = .ok (.goto (-24), 3) := by decide +kernel
theorem dX2_keptStays_35 : decode cX2_keptStays 35 = .ok (.aload_n 1, 1) := by decide +kernel
theorem dX2_keptStays_36 : decode cX2_keptStays 36 = .ok (.areturn, 1) := by decide +kernel
theorem dX2_bringBack_0 : decode cX2_bringBack 0 = .ok (.aload_n 0, 1) := by decide +kernel
theorem dX2_bringBack_1 : decode cX2_bringBack 1 = .ok (.iload_n 1, 1) := by decide +kernel
theorem dX2_bringBack_2 : decode cX2_bringBack 2 = .ok (.putfield 55, 3) := by decide +kernel
theorem dX2_bringBack_5 : decode cX2_bringBack 5 = .ok (.aload_n 2, 1) := by decide +kernel
theorem dX2_bringBack_6 : decode cX2_bringBack 6 = .ok (.iconst 0, 1) := by decide +kernel
theorem dX2_bringBack_7 : decode cX2_bringBack 7 = .ok (.aload_n 0, 1) := by decide +kernel
theorem dX2_bringBack_8 : decode cX2_bringBack 8 = .ok (.getfield 23, 3) := by decide +kernel
theorem dX2_bringBack_11 : decode cX2_bringBack 11 = .ok (.iconst 0, 1) := by decide +kernel
theorem dX2_bringBack_12 : decode cX2_bringBack 12 = .ok (.aload_n 0, 1) := by decide +kernel
theorem dX2_bringBack_13 : decode cX2_bringBack 13 = .ok (.getfield 23, 3) := by decide +kernel
theorem dX2_bringBack_16 : decode cX2_bringBack 16 = .ok (.arraylength, 1) := by decide +kernel
theorem dX2_bringBack_17 : decode cX2_bringBack 17 = .ok (.invokestatic 58, 3) := by decide +kernel
theorem dX2_bringBack_20 : decode cX2_bringBack 20 = .ok (.iconst 0, 1) := by decide +kernel
theorem dX2_bringBack_21 : decode cX2_bringBack 21 = .ok (.istore 4, 2) := by decide +kernel
theorem dX2_bringBack_23 : decode cX2_bringBack 23 = .ok (.iload 4, 2) := by decide +kernel
theorem dX2_bringBack_25 : decode cX2_bringBack 25 = .ok (.bipush 16, 2) := by decide +kernel
theorem dX2_bringBack_27 : decode cX2_bringBack 27 = .ok (.if_icmp .gt 27, 3) := by decide +kernel
theorem dX2_bringBack_30 : decode cX2_bringBack 30 = .ok (.aload_n 3, 1) := by decide +kernel
theorem dX2_bringBack_31 : decode cX2_bringBack 31 = .ok (.iload 4, 2) := by decide +kernel
theorem dX2_bringBack_33 : decode cX2_bringBack 33 = .ok (.aaload, 1) := by decide +kernel
theorem dX2_bringBack_34 : decode cX2_bringBack 34 = .ok (.iconst 0, 1) := by decide +kernel
theorem dX2_bringBack_35 : decode cX2_bringBack 35 = .ok (.aload_n 0, 1) := by decide +kernel
theorem dX2_bringBack_36 : decode cX2_bringBack 36 = .ok (.getfield 28, 3) := by decide +kernel
theorem dX2_bringBack_39 : decode cX2_bringBack 39 = .ok (.iload 4, 2) := by decide +kernel
theorem dX2_bringBack_41 : decode cX2_bringBack 41 = .ok (.aaload, 1) := by decide +kernel
theorem dX2_bringBack_42 : decode cX2_bringBack 42 = .ok (.iconst 0, 1) := by decide +kernel
theorem dX2_bringBack_43 : decode cX2_bringBack 43 = .ok (.bipush 17, 2) := by decide +kernel
theorem dX2_bringBack_45 : decode cX2_bringBack 45 = .ok (.invokestatic 58, 3) := by decide +kernel
theorem dX2_bringBack_48 : decode cX2_bringBack 48 = .ok (.iinc 4 1, 3) := by decide +kernel
theorem dX2_bringBack_51 : decode cX2_bringBack 51 = .ok (.goto (-28), 3) := by decide +kernel
theorem dX2_bringBack_54 : decode cX2_bringBack 54 = .ok (.return_, 1) := by decide +kernel
set_option maxRecDepth 20000 in
theorem ggX2_settles_X2_keptTriangles : GoodIn wsX2_settles wsX2_keptTriangles := goodIn_r _ [8, 9, 10, 11, 12, 13, 14, 15, 102, 103, 104, 105, 106, 107, 108, 109, 110] (by decide +kernel) (by decide +kernel)
set_option maxRecDepth 20000 in
theorem gX2_settles_X2_keptTriangles : GoodIn wsX2_settles (wsV RX2 177 RX2 yX2_keptTriangles wsX2_keptTriangles) := goodIn_app (goodIn_of _ (by decide +kernel)) ggX2_settles_X2_keptTriangles
set_option maxRecDepth 20000 in
theorem ggX2_settles_X2_keptStays : GoodIn wsX2_settles wsX2_keptStays := goodIn_r _ [19, 20, 21, 22, 23, 12, 13, 24, 102, 103, 104, 105, 106, 107, 108, 109, 110] (by decide +kernel) (by decide +kernel)
set_option maxRecDepth 20000 in
theorem gX2_settles_X2_keptStays : GoodIn wsX2_settles (wsV RX2 181 RX2 yX2_keptStays wsX2_keptStays) := goodIn_app (goodIn_of _ (by decide +kernel)) ggX2_settles_X2_keptStays
set_option maxRecDepth 20000 in
theorem ggX2_settles_X2_settled : GoodIn wsX2_settles wsX2_settled := goodIn_r _ [28, 3, 29, 30, 31, 7, 32, 33, 21, 34, 35, 36, 37, 38, 39, 40, 41, 42, 43, 2, 44, 45, 46, 47, 48, 49, 50, 51, 52, 53, 54, 55, 9, 56, 57, 58, 59, 60, 61, 62, 63, 64, 65, 66, 67, 68, 69, 70, 71, 72, 73, 74, 75, 76, 77, 78, 79, 80, 81, 82, 83, 84, 85, 86, 87, 88, 89, 90, 91, 92, 93, 94, 95, 96, 97, 102, 103, 104, 105, 106, 107, 108, 109, 110] (by decide +kernel) (by decide +kernel)
set_option maxRecDepth 20000 in
theorem gX2_settles_X2_settled : GoodIn wsX2_settles (wsV RX2 141 RX2 yX2_settled wsX2_settled) := goodIn_app (goodIn_of _ (by decide +kernel)) ggX2_settles_X2_settled
set_option maxRecDepth 20000 in
theorem ggX2_settles_X2_bringBack : GoodIn wsX2_settles wsX2_bringBack := goodIn_r _ [101, 2, 9, 86, 87, 88, 89, 21, 102, 103, 104, 105, 106, 107, 108, 109, 110] (by decide +kernel) (by decide +kernel)
set_option maxRecDepth 20000 in
theorem gX2_settles_X2_bringBack : GoodIn wsX2_settles (wsV RX2 185 RX2 yX2_bringBack wsX2_bringBack) := goodIn_app (goodIn_of _ (by decide +kernel)) ggX2_settles_X2_bringBack
theorem dX2_settles_0 : decode cX2_settles 0 = .ok (.aload_n 0, 1) := by decide +kernel
theorem dX2_settles_1 : decode cX2_settles 1 = .ok (.iconst 0, 1) := by decide +kernel
theorem dX2_settles_2 : decode cX2_settles 2 = .ok (.putfield 35, 3) := by decide +kernel
theorem dX2_settles_5 : decode cX2_settles 5 = .ok (.aload_n 0, 1) := by decide +kernel
theorem dX2_settles_6 : decode cX2_settles 6 = .ok (.getfield 55, 3) := by decide +kernel
theorem dX2_settles_9 : decode cX2_settles 9 = .ok (.istore_n 1, 1) := by decide +kernel
theorem dX2_settles_10 : decode cX2_settles 10 = .ok (.aload_n 0, 1) := by decide +kernel
theorem dX2_settles_11 : decode cX2_settles 11 = .ok (.getfield 100, 3) := by decide +kernel
theorem dX2_settles_14 : decode cX2_settles 14 = .ok (.istore_n 2, 1) := by decide +kernel
theorem dX2_settles_15 : decode cX2_settles 15 = .ok (.aload_n 0, 1) := by decide +kernel
theorem dX2_settles_16 : decode cX2_settles 16 = .ok (.invokevirtual 177, 3) := by decide +kernel
theorem dX2_settles_19 : decode cX2_settles 19 = .ok (.astore_n 3, 1) := by decide +kernel
theorem dX2_settles_20 : decode cX2_settles 20 = .ok (.aload_n 0, 1) := by decide +kernel
theorem dX2_settles_21 : decode cX2_settles 21 = .ok (.invokevirtual 181, 3) := by decide +kernel
theorem dX2_settles_24 : decode cX2_settles 24 = .ok (.astore 4, 2) := by decide +kernel
theorem dX2_settles_26 : decode cX2_settles 26 = .ok (.aload_n 0, 1) := by decide +kernel
theorem dX2_settles_27 : decode cX2_settles 27 = .ok (.invokevirtual 141, 3) := by decide +kernel
theorem dX2_settles_30 : decode cX2_settles 30 = .ok (.istore 5, 2) := by decide +kernel
theorem dX2_settles_32 : decode cX2_settles 32 = .ok (.aload_n 0, 1) := by decide +kernel
theorem dX2_settles_33 : decode cX2_settles 33 = .ok (.iload_n 1, 1) := by decide +kernel
theorem dX2_settles_34 : decode cX2_settles 34 = .ok (.aload_n 3, 1) := by decide +kernel
theorem dX2_settles_35 : decode cX2_settles 35 = .ok (.aload 4, 2) := by decide +kernel
theorem dX2_settles_37 : decode cX2_settles 37 = .ok (.invokevirtual 185, 3) := by decide +kernel
theorem dX2_settles_40 : decode cX2_settles 40 = .ok (.aload_n 0, 1) := by decide +kernel
theorem dX2_settles_41 : decode cX2_settles 41 = .ok (.iload_n 2, 1) := by decide +kernel
theorem dX2_settles_42 : decode cX2_settles 42 = .ok (.putfield 100, 3) := by decide +kernel
theorem dX2_settles_45 : decode cX2_settles 45 = .ok (.iload 5, 2) := by decide +kernel
theorem dX2_settles_47 : decode cX2_settles 47 = .ok (.ireturn, 1) := by decide +kernel
set_option maxRecDepth 20000 in
theorem ggX2_would_X2_isPlace : GoodIn wsX2_would wsX2_isPlace := goodIn_r _ [7, 8, 9, 6, 10] (by decide +kernel) (by decide +kernel)
set_option maxRecDepth 20000 in
theorem gX2_would_X2_isPlace : GoodIn wsX2_would (va_wsS RX2 112 yX2_isPlace wsX2_isPlace) := goodIn_app (goodIn_of _ (by decide +kernel)) ggX2_would_X2_isPlace
set_option maxRecDepth 20000 in
theorem ggX2_would_X2_fail : GoodIn wsX2_would wsX2_fail := goodIn_r _ [14, 1, 136, 137, 138, 139, 140, 141, 142, 143, 144] (by decide +kernel) (by decide +kernel)
set_option maxRecDepth 20000 in
theorem gX2_would_X2_fail : GoodIn wsX2_would (wsV RX2 115 RX2 yX2_fail wsX2_fail) := goodIn_app (goodIn_of _ (by decide +kernel)) ggX2_would_X2_fail
set_option maxRecDepth 20000 in
theorem ggX2_would_X2_cairnAt : GoodIn wsX2_would wsX2_cairnAt := goodIn_r _ [18, 3, 19, 20, 136, 137, 138, 139, 140, 141, 142, 143, 144] (by decide +kernel) (by decide +kernel)
set_option maxRecDepth 20000 in
theorem gX2_would_X2_cairnAt : GoodIn wsX2_would (wsV RX2 118 RX2 yX2_cairnAt wsX2_cairnAt) := goodIn_app (goodIn_of _ (by decide +kernel)) ggX2_would_X2_cairnAt
set_option maxRecDepth 20000 in
theorem ggX2_would_X2_keptTriangles : GoodIn wsX2_would wsX2_keptTriangles := goodIn_r _ [24, 25, 26, 27, 28, 29, 30, 31, 136, 137, 138, 139, 140, 141, 142, 143, 144] (by decide +kernel) (by decide +kernel)
set_option maxRecDepth 20000 in
theorem gX2_would_X2_keptTriangles : GoodIn wsX2_would (wsV RX2 177 RX2 yX2_keptTriangles wsX2_keptTriangles) := goodIn_app (goodIn_of _ (by decide +kernel)) ggX2_would_X2_keptTriangles
set_option maxRecDepth 20000 in
theorem ggX2_would_X2_keptStays : GoodIn wsX2_would wsX2_keptStays := goodIn_r _ [35, 36, 37, 38, 39, 28, 29, 40, 136, 137, 138, 139, 140, 141, 142, 143, 144] (by decide +kernel) (by decide +kernel)
set_option maxRecDepth 20000 in
theorem gX2_would_X2_keptStays : GoodIn wsX2_would (wsV RX2 181 RX2 yX2_keptStays wsX2_keptStays) := goodIn_app (goodIn_of _ (by decide +kernel)) ggX2_would_X2_keptStays
set_option maxRecDepth 20000 in
theorem ggX2_would_X2_add : GoodIn wsX2_would wsX2_add := goodIn_r _ [44, 45, 2, 25, 3, 19, 20, 46, 37, 47, 48, 49, 6, 50, 51, 52, 53, 54, 55, 56, 57, 58, 59, 60, 61, 62, 63, 64, 65, 66, 67, 68, 69, 70, 71, 72, 73, 74, 75, 76, 77, 78, 79, 80, 81, 82, 83, 84, 85, 86, 87, 88, 89, 90, 91, 92, 93, 94, 95, 96, 97, 98, 99, 100, 101, 102, 103, 104, 105, 106, 107, 136, 137, 138, 139, 140, 141, 142, 143, 144] (by decide +kernel) (by decide +kernel)
set_option maxRecDepth 20000 in
theorem gX2_would_X2_add : GoodIn wsX2_would (wsV RX2 121 RX2 yX2_add wsX2_add) := goodIn_app (goodIn_of _ (by decide +kernel)) ggX2_would_X2_add
set_option maxRecDepth 20000 in
theorem ggX2_would_X2_edges : GoodIn wsX2_would wsX2_edges := goodIn_r _ [111, 3, 112, 113, 114, 6, 115, 37, 96, 97, 98, 99, 2, 100, 101, 102, 103, 104, 105, 106, 107, 55, 56, 57, 58, 25, 116, 117, 118, 119, 19, 20, 120, 121, 122, 123, 124, 125, 126, 127, 59, 60, 61, 62, 128, 129, 130, 131, 136, 137, 138, 139, 140, 141, 142, 143, 144] (by decide +kernel) (by decide +kernel)
set_option maxRecDepth 20000 in
theorem gX2_would_X2_edges : GoodIn wsX2_would (wsV RX2 157 RX2 yX2_edges wsX2_edges) := goodIn_app (goodIn_of _ (by decide +kernel)) ggX2_would_X2_edges
set_option maxRecDepth 20000 in
theorem ggX2_would_X2_bringBack : GoodIn wsX2_would wsX2_bringBack := goodIn_r _ [135, 2, 25, 79, 80, 81, 82, 37, 136, 137, 138, 139, 140, 141, 142, 143, 144] (by decide +kernel) (by decide +kernel)
set_option maxRecDepth 20000 in
theorem gX2_would_X2_bringBack : GoodIn wsX2_would (wsV RX2 185 RX2 yX2_bringBack wsX2_bringBack) := goodIn_app (goodIn_of _ (by decide +kernel)) ggX2_would_X2_bringBack
theorem dX2_would_0 : decode cX2_would 0 = .ok (.aload_n 0, 1) := by decide +kernel
theorem dX2_would_1 : decode cX2_would 1 = .ok (.iconst 0, 1) := by decide +kernel
theorem dX2_would_2 : decode cX2_would 2 = .ok (.putfield 35, 3) := by decide +kernel
theorem dX2_would_5 : decode cX2_would 5 = .ok (.iload_n 1, 1) := by decide +kernel
theorem dX2_would_6 : decode cX2_would 6 = .ok (.iload_n 2, 1) := by decide +kernel
theorem dX2_would_7 : decode cX2_would 7 = .ok (.invokestatic 112, 3) := by decide +kernel
theorem dX2_would_10 : decode cX2_would 10 = .ok (.ifCond .ne 9, 3) := by decide +kernel
theorem dX2_would_13 : decode cX2_would 13 = .ok (.aload_n 0, 1) := by decide +kernel
theorem dX2_would_14 : decode cX2_would 14 = .ok (.iconst 1, 1) := by decide +kernel
theorem dX2_would_15 : decode cX2_would 15 = .ok (.invokevirtual 115, 3) := by decide +kernel
theorem dX2_would_18 : decode cX2_would 18 = .ok (.ireturn, 1) := by decide +kernel
theorem dX2_would_19 : decode cX2_would 19 = .ok (.aload_n 0, 1) := by decide +kernel
theorem dX2_would_20 : decode cX2_would 20 = .ok (.iload_n 1, 1) := by decide +kernel
theorem dX2_would_21 : decode cX2_would 21 = .ok (.iload_n 2, 1) := by decide +kernel
theorem dX2_would_22 : decode cX2_would 22 = .ok (.invokevirtual 118, 3) := by decide +kernel
theorem dX2_would_25 : decode cX2_would 25 = .ok (.iconst (-1), 1) := by decide +kernel
theorem dX2_would_26 : decode cX2_would 26 = .ok (.if_icmp .eq 9, 3) := by decide +kernel
theorem dX2_would_29 : decode cX2_would 29 = .ok (.aload_n 0, 1) := by decide +kernel
theorem dX2_would_30 : decode cX2_would 30 = .ok (.iconst 2, 1) := by decide +kernel
theorem dX2_would_31 : decode cX2_would 31 = .ok (.invokevirtual 115, 3) := by decide +kernel
theorem dX2_would_34 : decode cX2_would 34 = .ok (.ireturn, 1) := by decide +kernel
theorem dX2_would_35 : decode cX2_would 35 = .ok (.aload_n 0, 1) := by decide +kernel
theorem dX2_would_36 : decode cX2_would 36 = .ok (.getfield 55, 3) := by decide +kernel
theorem dX2_would_39 : decode cX2_would 39 = .ok (.istore_n 3, 1) := by decide +kernel
theorem dX2_would_40 : decode cX2_would 40 = .ok (.aload_n 0, 1) := by decide +kernel
theorem dX2_would_41 : decode cX2_would 41 = .ok (.invokevirtual 177, 3) := by decide +kernel
theorem dX2_would_44 : decode cX2_would 44 = .ok (.astore 4, 2) := by decide +kernel
theorem dX2_would_46 : decode cX2_would 46 = .ok (.aload_n 0, 1) := by decide +kernel
theorem dX2_would_47 : decode cX2_would 47 = .ok (.invokevirtual 181, 3) := by decide +kernel
theorem dX2_would_50 : decode cX2_would 50 = .ok (.astore 5, 2) := by decide +kernel
theorem dX2_would_52 : decode cX2_would 52 = .ok (.aload_n 0, 1) := by decide +kernel
theorem dX2_would_53 : decode cX2_would 53 = .ok (.iload_n 1, 1) := by decide +kernel
theorem dX2_would_54 : decode cX2_would 54 = .ok (.iload_n 2, 1) := by decide +kernel
theorem dX2_would_55 : decode cX2_would 55 = .ok (.iconst 0, 1) := by decide +kernel
theorem dX2_would_56 : decode cX2_would 56 = .ok (.invokevirtual 121, 3) := by decide +kernel
theorem dX2_would_59 : decode cX2_would 59 = .ok (.aload_n 0, 1) := by decide +kernel
theorem dX2_would_60 : decode cX2_would 60 = .ok (.iconst 3, 1) := by decide +kernel
theorem dX2_would_61 : decode cX2_would 61 = .ok (.invokevirtual 157, 3) := by decide +kernel
theorem dX2_would_64 : decode cX2_would 64 = .ok (.istore 6, 2) := by decide +kernel
theorem dX2_would_66 : decode cX2_would 66 = .ok (.aload_n 0, 1) := by decide +kernel
theorem dX2_would_67 : decode cX2_would 67 = .ok (.dup, 1) := by decide +kernel
theorem dX2_would_68 : decode cX2_would 68 = .ok (.getfield 7, 3) := by decide +kernel
theorem dX2_would_71 : decode cX2_would 71 = .ok (.iconst 1, 1) := by decide +kernel
theorem dX2_would_72 : decode cX2_would 72 = .ok (.isub, 1) := by decide +kernel
theorem dX2_would_73 : decode cX2_would 73 = .ok (.putfield 7, 3) := by decide +kernel
theorem dX2_would_76 : decode cX2_would 76 = .ok (.aload_n 0, 1) := by decide +kernel
theorem dX2_would_77 : decode cX2_would 77 = .ok (.iload_n 3, 1) := by decide +kernel
theorem dX2_would_78 : decode cX2_would 78 = .ok (.aload 4, 2) := by decide +kernel
theorem dX2_would_80 : decode cX2_would 80 = .ok (.aload 5, 2) := by decide +kernel
theorem dX2_would_82 : decode cX2_would 82 = .ok (.invokevirtual 185, 3) := by decide +kernel
theorem dX2_would_85 : decode cX2_would 85 = .ok (.iload 6, 2) := by decide +kernel
theorem dX2_would_87 : decode cX2_would 87 = .ok (.ireturn, 1) := by decide +kernel
set_option maxRecDepth 20000 in
theorem ggX2_mean_X2_edges : GoodIn wsX2_mean wsX2_edges := goodIn_r _ [7, 2, 8, 9, 10, 6, 11, 12, 13, 14, 15, 16, 17, 18, 19, 20, 21, 22, 23, 24, 25, 26, 27, 28, 29, 30, 31, 32, 33, 34, 35, 36, 37, 38, 39, 40, 41, 42, 43, 44, 45, 46, 47, 48, 49, 50, 51, 52, 53, 54, 55, 56, 57, 58, 59, 60, 61] (by decide +kernel) (by decide +kernel)
set_option maxRecDepth 20000 in
theorem gX2_mean_X2_edges : GoodIn wsX2_mean (wsV RX2 157 RX2 yX2_edges wsX2_edges) := goodIn_app (goodIn_of _ (by decide +kernel)) ggX2_mean_X2_edges
theorem dX2_mean_0 : decode cX2_mean 0 = .ok (.aload_n 0, 1) := by decide +kernel
theorem dX2_mean_1 : decode cX2_mean 1 = .ok (.iconst 0, 1) := by decide +kernel
theorem dX2_mean_2 : decode cX2_mean 2 = .ok (.putfield 35, 3) := by decide +kernel
theorem dX2_mean_5 : decode cX2_mean 5 = .ok (.iconst 2, 1) := by decide +kernel
theorem dX2_mean_6 : decode cX2_mean 6 = .ok (.aload_n 0, 1) := by decide +kernel
theorem dX2_mean_7 : decode cX2_mean 7 = .ok (.iconst 0, 1) := by decide +kernel
theorem dX2_mean_8 : decode cX2_mean 8 = .ok (.invokevirtual 157, 3) := by decide +kernel
theorem dX2_mean_11 : decode cX2_mean 11 = .ok (.imul, 1) := by decide +kernel
theorem dX2_mean_12 : decode cX2_mean 12 = .ok (.i2d, 1) := by decide +kernel
theorem dX2_mean_13 : decode cX2_mean 13 = .ok (.aload_n 0, 1) := by decide +kernel
theorem dX2_mean_14 : decode cX2_mean 14 = .ok (.getfield 7, 3) := by decide +kernel
theorem dX2_mean_17 : decode cX2_mean 17 = .ok (.i2d, 1) := by decide +kernel
theorem dX2_mean_18 : decode cX2_mean 18 = .ok (.ddiv, 1) := by decide +kernel
theorem dX2_mean_19 : decode cX2_mean 19 = .ok (.dreturn, 1) := by decide +kernel
set_option maxRecDepth 20000 in
theorem ggX2_digest_X2_counted : GoodIn wsX2_digest wsX2_counted := goodIn_r _ [10, 4, 5, 11, 12, 13, 14, 9, 15, 16, 17, 18, 19, 20, 21, 22, 23, 24, 25, 26, 27, 28, 29, 30, 31, 32, 33, 34, 35, 36, 37, 38, 39, 40, 41, 42, 43, 44, 45, 46, 47, 48, 49, 50, 51, 52, 53, 54, 55, 56, 57, 58, 59, 81, 82, 83, 84, 85, 86, 87, 88, 89] (by decide +kernel) (by decide +kernel)
set_option maxRecDepth 20000 in
theorem gX2_digest_X2_counted : GoodIn wsX2_digest (wsV RX2 160 RX2 yX2_counted wsX2_counted) := goodIn_app (goodIn_of _ (by decide +kernel)) ggX2_digest_X2_counted
set_option maxRecDepth 20000 in
theorem ggX2_digest_X2_cairnTold : GoodIn wsX2_digest wsX2_cairnTold := goodIn_r _ [63, 42, 43, 64, 5, 65, 66, 67, 9, 68, 4, 21, 22, 23, 24, 25, 26, 27, 28, 29, 30, 31, 32, 33, 34, 35, 36, 37, 81, 82, 83, 84, 85, 86, 87, 88, 89] (by decide +kernel) (by decide +kernel)
set_option maxRecDepth 20000 in
theorem gX2_digest_X2_cairnTold : GoodIn wsX2_digest (wsV RX2 148 RX2 yX2_cairnTold wsX2_cairnTold) := goodIn_app (goodIn_of _ (by decide +kernel)) ggX2_digest_X2_cairnTold
set_option maxRecDepth 20000 in
theorem ggX2_digest_X2_triangleTold : GoodIn wsX2_digest wsX2_triangleTold := goodIn_r _ [72, 33, 34, 35, 9, 36, 37, 73, 74, 75, 76, 42, 43, 77, 78, 79, 80, 52, 53, 54, 55, 81, 82, 83, 84, 85, 86, 87, 88, 89] (by decide +kernel) (by decide +kernel)
set_option maxRecDepth 20000 in
theorem gX2_digest_X2_triangleTold : GoodIn wsX2_digest (wsV RX2 151 RX2 yX2_triangleTold wsX2_triangleTold) := goodIn_app (goodIn_of _ (by decide +kernel)) ggX2_digest_X2_triangleTold
set_option maxRecDepth 20000 in
theorem ggX2_digest_X2_sides : GoodIn wsX2_digest wsX2_sides := goodIn_r _ [24, 5, 25, 26, 27, 9, 28, 29, 30, 31, 32, 33, 34, 35, 36, 37, 81, 82, 83, 84, 85, 86, 87, 88, 89] (by decide +kernel) (by decide +kernel)
set_option maxRecDepth 20000 in
theorem gX2_digest_X2_sides : GoodIn wsX2_digest (wsV RX2 82 RX2 yX2_sides wsX2_sides) := goodIn_app (goodIn_of _ (by decide +kernel)) ggX2_digest_X2_sides
set_option maxRecDepth 20000 in
theorem ggX2_digest_X2_edgeTold : GoodIn wsX2_digest wsX2_edgeTold := goodIn_r _ [19, 20, 21, 22, 23, 9, 24, 5, 25, 26, 27, 28, 29, 30, 31, 32, 33, 34, 35, 36, 37, 38, 39, 40, 41, 42, 43, 44, 45, 46, 47, 48, 49, 50, 51, 52, 53, 54, 55, 56, 57, 58, 59, 81, 82, 83, 84, 85, 86, 87, 88, 89] (by decide +kernel) (by decide +kernel)
set_option maxRecDepth 20000 in
theorem gX2_digest_X2_edgeTold : GoodIn wsX2_digest (wsV RX2 154 RX2 yX2_edgeTold wsX2_edgeTold) := goodIn_app (goodIn_of _ (by decide +kernel)) ggX2_digest_X2_edgeTold
theorem dX2_digest_0 : decode cX2_digest 0 = .ok (.aload_n 0, 1) := by decide +kernel
theorem dX2_digest_1 : decode cX2_digest 1 = .ok (.iconst 0, 1) := by decide +kernel
theorem dX2_digest_2 : decode cX2_digest 2 = .ok (.putfield 35, 3) := by decide +kernel
theorem dX2_digest_5 : decode cX2_digest 5 = .ok (.ldc2_w 189, 3) := by decide +kernel
theorem dX2_digest_8 : decode cX2_digest 8 = .ok (.lstore_n 1, 1) := by decide +kernel
theorem dX2_digest_9 : decode cX2_digest 9 = .ok (.iconst 0, 1) := by decide +kernel
theorem dX2_digest_10 : decode cX2_digest 10 = .ok (.istore_n 3, 1) := by decide +kernel
theorem dX2_digest_11 : decode cX2_digest 11 = .ok (.iload_n 3, 1) := by decide +kernel
theorem dX2_digest_12 : decode cX2_digest 12 = .ok (.bipush 7, 2) := by decide +kernel
theorem dX2_digest_14 : decode cX2_digest 14 = .ok (.if_icmp .ge 22, 3) := by decide +kernel
theorem dX2_digest_17 : decode cX2_digest 17 = .ok (.lload_n 1, 1) := by decide +kernel
theorem dX2_digest_18 : decode cX2_digest 18 = .ok (.ldc2_w 191, 3) := by decide +kernel
theorem dX2_digest_21 : decode cX2_digest 21 = .ok (.lmul, 1) := by decide +kernel
theorem dX2_digest_22 : decode cX2_digest 22 = .ok (.aload_n 0, 1) := by decide +kernel
theorem dX2_digest_23 : decode cX2_digest 23 = .ok (.iload_n 3, 1) := by decide +kernel
theorem dX2_digest_24 : decode cX2_digest 24 = .ok (.invokevirtual 160, 3) := by decide +kernel
theorem dX2_digest_27 : decode cX2_digest 27 = .ok (.i2l, 1) := by decide +kernel
theorem dX2_digest_28 : decode cX2_digest 28 = .ok (.ladd, 1) := by decide +kernel
theorem dX2_digest_29 : decode cX2_digest 29 = .ok (.lstore_n 1, 1) := by decide +kernel
theorem dX2_digest_30 : decode cX2_digest 30 = .ok (.iinc 3 1, 3) := by decide +kernel
theorem dX2_digest_33 : decode cX2_digest 33 = .ok (.goto (-22), 3) := by decide +kernel
theorem dX2_digest_36 : decode cX2_digest 36 = .ok (.iconst 0, 1) := by decide +kernel
theorem dX2_digest_37 : decode cX2_digest 37 = .ok (.istore_n 3, 1) := by decide +kernel
theorem dX2_digest_38 : decode cX2_digest 38 = .ok (.iload_n 3, 1) := by decide +kernel
theorem dX2_digest_39 : decode cX2_digest 39 = .ok (.aload_n 0, 1) := by decide +kernel
theorem dX2_digest_40 : decode cX2_digest 40 = .ok (.getfield 7, 3) := by decide +kernel
theorem dX2_digest_43 : decode cX2_digest 43 = .ok (.if_icmp .ge 39, 3) := by decide +kernel
theorem dX2_digest_46 : decode cX2_digest 46 = .ok (.iconst 0, 1) := by decide +kernel
theorem dX2_digest_47 : decode cX2_digest 47 = .ok (.istore 4, 2) := by decide +kernel
theorem dX2_digest_49 : decode cX2_digest 49 = .ok (.iload 4, 2) := by decide +kernel
theorem dX2_digest_51 : decode cX2_digest 51 = .ok (.iconst 5, 1) := by decide +kernel
theorem dX2_digest_52 : decode cX2_digest 52 = .ok (.if_icmp .ge 24, 3) := by decide +kernel
theorem dX2_digest_55 : decode cX2_digest 55 = .ok (.lload_n 1, 1) := by decide +kernel
theorem dX2_digest_56 : decode cX2_digest 56 = .ok (.ldc2_w 191, 3) := by decide +kernel
theorem dX2_digest_59 : decode cX2_digest 59 = .ok (.lmul, 1) := by decide +kernel
theorem dX2_digest_60 : decode cX2_digest 60 = .ok (.aload_n 0, 1) := by decide +kernel
theorem dX2_digest_61 : decode cX2_digest 61 = .ok (.iload_n 3, 1) := by decide +kernel
theorem dX2_digest_62 : decode cX2_digest 62 = .ok (.iload 4, 2) := by decide +kernel
theorem dX2_digest_64 : decode cX2_digest 64 = .ok (.invokevirtual 148, 3) := by decide +kernel
theorem dX2_digest_67 : decode cX2_digest 67 = .ok (.i2l, 1) := by decide +kernel
theorem dX2_digest_68 : decode cX2_digest 68 = .ok (.ladd, 1) := by decide +kernel
theorem dX2_digest_69 : decode cX2_digest 69 = .ok (.lstore_n 1, 1) := by decide +kernel
theorem dX2_digest_70 : decode cX2_digest 70 = .ok (.iinc 4 1, 3) := by decide +kernel
theorem dX2_digest_73 : decode cX2_digest 73 = .ok (.goto (-24), 3) := by decide +kernel
theorem dX2_digest_76 : decode cX2_digest 76 = .ok (.iinc 3 1, 3) := by decide +kernel
theorem dX2_digest_79 : decode cX2_digest 79 = .ok (.goto (-41), 3) := by decide +kernel
theorem dX2_digest_82 : decode cX2_digest 82 = .ok (.iconst 0, 1) := by decide +kernel
theorem dX2_digest_83 : decode cX2_digest 83 = .ok (.istore_n 3, 1) := by decide +kernel
theorem dX2_digest_84 : decode cX2_digest 84 = .ok (.iload_n 3, 1) := by decide +kernel
theorem dX2_digest_85 : decode cX2_digest 85 = .ok (.aload_n 0, 1) := by decide +kernel
theorem dX2_digest_86 : decode cX2_digest 86 = .ok (.getfield 55, 3) := by decide +kernel
theorem dX2_digest_89 : decode cX2_digest 89 = .ok (.if_icmp .ge 39, 3) := by decide +kernel
theorem dX2_digest_92 : decode cX2_digest 92 = .ok (.iconst 0, 1) := by decide +kernel
theorem dX2_digest_93 : decode cX2_digest 93 = .ok (.istore 4, 2) := by decide +kernel
theorem dX2_digest_95 : decode cX2_digest 95 = .ok (.iload 4, 2) := by decide +kernel
theorem dX2_digest_97 : decode cX2_digest 97 = .ok (.iconst 4, 1) := by decide +kernel
theorem dX2_digest_98 : decode cX2_digest 98 = .ok (.if_icmp .ge 24, 3) := by decide +kernel
theorem dX2_digest_101 : decode cX2_digest 101 = .ok (.lload_n 1, 1) := by decide +kernel
theorem dX2_digest_102 : decode cX2_digest 102 = .ok (.ldc2_w 191, 3) := by decide +kernel
theorem dX2_digest_105 : decode cX2_digest 105 = .ok (.lmul, 1) := by decide +kernel
theorem dX2_digest_106 : decode cX2_digest 106 = .ok (.aload_n 0, 1) := by decide +kernel
theorem dX2_digest_107 : decode cX2_digest 107 = .ok (.iload_n 3, 1) := by decide +kernel
theorem dX2_digest_108 : decode cX2_digest 108 = .ok (.iload 4, 2) := by decide +kernel
theorem dX2_digest_110 : decode cX2_digest 110 = .ok (.invokevirtual 151, 3) := by decide +kernel
theorem dX2_digest_113 : decode cX2_digest 113 = .ok (.i2l, 1) := by decide +kernel
theorem dX2_digest_114 : decode cX2_digest 114 = .ok (.ladd, 1) := by decide +kernel
theorem dX2_digest_115 : decode cX2_digest 115 = .ok (.lstore_n 1, 1) := by decide +kernel
theorem dX2_digest_116 : decode cX2_digest 116 = .ok (.iinc 4 1, 3) := by decide +kernel
theorem dX2_digest_119 : decode cX2_digest 119 = .ok (.goto (-24), 3) := by decide +kernel
theorem dX2_digest_122 : decode cX2_digest 122 = .ok (.iinc 3 1, 3) := by decide +kernel
theorem dX2_digest_125 : decode cX2_digest 125 = .ok (.goto (-41), 3) := by decide +kernel
theorem dX2_digest_128 : decode cX2_digest 128 = .ok (.iconst 0, 1) := by decide +kernel
theorem dX2_digest_129 : decode cX2_digest 129 = .ok (.istore_n 3, 1) := by decide +kernel
theorem dX2_digest_130 : decode cX2_digest 130 = .ok (.iload_n 3, 1) := by decide +kernel
theorem dX2_digest_131 : decode cX2_digest 131 = .ok (.aload_n 0, 1) := by decide +kernel
theorem dX2_digest_132 : decode cX2_digest 132 = .ok (.getfield 7, 3) := by decide +kernel
theorem dX2_digest_135 : decode cX2_digest 135 = .ok (.if_icmp .ge 91, 3) := by decide +kernel
theorem dX2_digest_138 : decode cX2_digest 138 = .ok (.iload_n 3, 1) := by decide +kernel
theorem dX2_digest_139 : decode cX2_digest 139 = .ok (.iconst 1, 1) := by decide +kernel
theorem dX2_digest_140 : decode cX2_digest 140 = .ok (.iadd, 1) := by decide +kernel
theorem dX2_digest_141 : decode cX2_digest 141 = .ok (.istore 4, 2) := by decide +kernel
theorem dX2_digest_143 : decode cX2_digest 143 = .ok (.iload 4, 2) := by decide +kernel
theorem dX2_digest_145 : decode cX2_digest 145 = .ok (.aload_n 0, 1) := by decide +kernel
theorem dX2_digest_146 : decode cX2_digest 146 = .ok (.getfield 7, 3) := by decide +kernel
theorem dX2_digest_149 : decode cX2_digest 149 = .ok (.if_icmp .ge 71, 3) := by decide +kernel
theorem dX2_digest_152 : decode cX2_digest 152 = .ok (.aload_n 0, 1) := by decide +kernel
theorem dX2_digest_153 : decode cX2_digest 153 = .ok (.iload_n 3, 1) := by decide +kernel
theorem dX2_digest_154 : decode cX2_digest 154 = .ok (.iload 4, 2) := by decide +kernel
theorem dX2_digest_156 : decode cX2_digest 156 = .ok (.invokevirtual 82, 3) := by decide +kernel
theorem dX2_digest_159 : decode cX2_digest 159 = .ok (.ifCond .ne 6, 3) := by decide +kernel
theorem dX2_digest_162 : decode cX2_digest 162 = .ok (.goto 52, 3) := by decide +kernel
theorem dX2_digest_165 : decode cX2_digest 165 = .ok (.lload_n 1, 1) := by decide +kernel
theorem dX2_digest_166 : decode cX2_digest 166 = .ok (.ldc2_w 191, 3) := by decide +kernel
theorem dX2_digest_169 : decode cX2_digest 169 = .ok (.lmul, 1) := by decide +kernel
theorem dX2_digest_170 : decode cX2_digest 170 = .ok (.iload_n 3, 1) := by decide +kernel
theorem dX2_digest_171 : decode cX2_digest 171 = .ok (.i2l, 1) := by decide +kernel
theorem dX2_digest_172 : decode cX2_digest 172 = .ok (.ladd, 1) := by decide +kernel
theorem dX2_digest_173 : decode cX2_digest 173 = .ok (.ldc2_w 191, 3) := by decide +kernel
theorem dX2_digest_176 : decode cX2_digest 176 = .ok (.lmul, 1) := by decide +kernel
theorem dX2_digest_177 : decode cX2_digest 177 = .ok (.iload 4, 2) := by decide +kernel
theorem dX2_digest_179 : decode cX2_digest 179 = .ok (.i2l, 1) := by decide +kernel
theorem dX2_digest_180 : decode cX2_digest 180 = .ok (.ladd, 1) := by decide +kernel
theorem dX2_digest_181 : decode cX2_digest 181 = .ok (.lstore_n 1, 1) := by decide +kernel
theorem dX2_digest_182 : decode cX2_digest 182 = .ok (.iconst 2, 1) := by decide +kernel
theorem dX2_digest_183 : decode cX2_digest 183 = .ok (.istore 5, 2) := by decide +kernel
theorem dX2_digest_185 : decode cX2_digest 185 = .ok (.iload 5, 2) := by decide +kernel
theorem dX2_digest_187 : decode cX2_digest 187 = .ok (.iconst 5, 1) := by decide +kernel
theorem dX2_digest_188 : decode cX2_digest 188 = .ok (.if_icmp .ge 26, 3) := by decide +kernel
theorem dX2_digest_191 : decode cX2_digest 191 = .ok (.lload_n 1, 1) := by decide +kernel
theorem dX2_digest_192 : decode cX2_digest 192 = .ok (.ldc2_w 191, 3) := by decide +kernel
theorem dX2_digest_195 : decode cX2_digest 195 = .ok (.lmul, 1) := by decide +kernel
theorem dX2_digest_196 : decode cX2_digest 196 = .ok (.aload_n 0, 1) := by decide +kernel
theorem dX2_digest_197 : decode cX2_digest 197 = .ok (.iload_n 3, 1) := by decide +kernel
theorem dX2_digest_198 : decode cX2_digest 198 = .ok (.iload 4, 2) := by decide +kernel
theorem dX2_digest_200 : decode cX2_digest 200 = .ok (.iload 5, 2) := by decide +kernel
theorem dX2_digest_202 : decode cX2_digest 202 = .ok (.invokevirtual 154, 3) := by decide +kernel
theorem dX2_digest_205 : decode cX2_digest 205 = .ok (.i2l, 1) := by decide +kernel
theorem dX2_digest_206 : decode cX2_digest 206 = .ok (.ladd, 1) := by decide +kernel
theorem dX2_digest_207 : decode cX2_digest 207 = .ok (.lstore_n 1, 1) := by decide +kernel
theorem dX2_digest_208 : decode cX2_digest 208 = .ok (.iinc 5 1, 3) := by decide +kernel
theorem dX2_digest_211 : decode cX2_digest 211 = .ok (.goto (-26), 3) := by decide +kernel
theorem dX2_digest_214 : decode cX2_digest 214 = .ok (.iinc 4 1, 3) := by decide +kernel
theorem dX2_digest_217 : decode cX2_digest 217 = .ok (.goto (-74), 3) := by decide +kernel
theorem dX2_digest_220 : decode cX2_digest 220 = .ok (.iinc 3 1, 3) := by decide +kernel
theorem dX2_digest_223 : decode cX2_digest 223 = .ok (.goto (-93), 3) := by decide +kernel
theorem dX2_digest_226 : decode cX2_digest 226 = .ok (.lload_n 1, 1) := by decide +kernel
theorem dX2_digest_227 : decode cX2_digest 227 = .ok (.lreturn, 1) := by decide +kernel

abbrev vwCl : List vw_C := [(RX0, TX0, 7), (RX1, TX1, 4), (RX2, TX2, 9)]

