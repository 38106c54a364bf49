theorem dX0_insert_138 : decode cX0_insert 138 = .ok (.iload 6, 2) := by decide +kernel
theorem dX0_insert_140 : decode cX0_insert 140 = .ok (.invokevirtual 109, 3) := by decide +kernel
theorem dX0_insert_143 : decode cX0_insert 143 = .ok (.aload_n 0, 1) := by decide +kernel
theorem dX0_insert_144 : decode cX0_insert 144 = .ok (.iload 4, 2) := by decide +kernel
theorem dX0_insert_146 : decode cX0_insert 146 = .ok (.iload 5, 2) := by decide +kernel
theorem dX0_insert_148 : decode cX0_insert 148 = .ok (.iload 7, 2) := by decide +kernel
theorem dX0_insert_150 : decode cX0_insert 150 = .ok (.invokevirtual 31, 3) := by decide +kernel
theorem dX0_insert_153 : decode cX0_insert 153 = .ok (.aload_n 0, 1) := by decide +kernel
theorem dX0_insert_154 : decode cX0_insert 154 = .ok (.iload 5, 2) := by decide +kernel
theorem dX0_insert_156 : decode cX0_insert 156 = .ok (.iload 6, 2) := by decide +kernel
theorem dX0_insert_158 : decode cX0_insert 158 = .ok (.iload 7, 2) := by decide +kernel
theorem dX0_insert_160 : decode cX0_insert 160 = .ok (.invokevirtual 31, 3) := by decide +kernel
theorem dX0_insert_163 : decode cX0_insert 163 = .ok (.aload_n 0, 1) := by decide +kernel
theorem dX0_insert_164 : decode cX0_insert 164 = .ok (.iload 6, 2) := by decide +kernel
theorem dX0_insert_166 : decode cX0_insert 166 = .ok (.iload 4, 2) := by decide +kernel
theorem dX0_insert_168 : decode cX0_insert 168 = .ok (.iload 7, 2) := by decide +kernel
theorem dX0_insert_170 : decode cX0_insert 170 = .ok (.invokevirtual 31, 3) := by decide +kernel
theorem dX0_insert_173 : decode cX0_insert 173 = .ok (.aload_n 0, 1) := by decide +kernel
theorem dX0_insert_174 : decode cX0_insert 174 = .ok (.invokevirtual 35, 3) := by decide +kernel
theorem dX0_insert_177 : decode cX0_insert 177 = .ok (.iload 7, 2) := by decide +kernel
theorem dX0_insert_179 : decode cX0_insert 179 = .ok (.ireturn, 1) := by decide +kernel
theorem dX0_addCairn_0 : decode cX0_addCairn 0 = .ok (.aload_n 0, 1) := by decide +kernel
theorem dX0_addCairn_1 : decode cX0_addCairn 1 = .ok (.getfield 38, 3) := by decide +kernel
theorem dX0_addCairn_4 : decode cX0_addCairn 4 = .ok (.istore_n 3, 1) := by decide +kernel
theorem dX0_addCairn_5 : decode cX0_addCairn 5 = .ok (.iload_n 3, 1) := by decide +kernel
theorem dX0_addCairn_6 : decode cX0_addCairn 6 = .ok (.ifCond .lt 9, 3) := by decide +kernel
theorem dX0_addCairn_9 : decode cX0_addCairn 9 = .ok (.iload_n 3, 1) := by decide +kernel
theorem dX0_addCairn_10 : decode cX0_addCairn 10 = .ok (.bipush 17, 2) := by decide +kernel
theorem dX0_addCairn_12 : decode cX0_addCairn 12 = .ok (.if_icmp .lt 5, 3) := by decide +kernel
theorem dX0_addCairn_15 : decode cX0_addCairn 15 = .ok (.iconst (-1), 1) := by decide +kernel
theorem dX0_addCairn_16 : decode cX0_addCairn 16 = .ok (.ireturn, 1) := by decide +kernel
theorem dX0_addCairn_17 : decode cX0_addCairn 17 = .ok (.aload_n 0, 1) := by decide +kernel
theorem dX0_addCairn_18 : decode cX0_addCairn 18 = .ok (.getfield 11, 3) := by decide +kernel
theorem dX0_addCairn_21 : decode cX0_addCairn 21 = .ok (.iload_n 3, 1) := by decide +kernel
theorem dX0_addCairn_22 : decode cX0_addCairn 22 = .ok (.iload_n 1, 1) := by decide +kernel
theorem dX0_addCairn_23 : decode cX0_addCairn 23 = .ok (.iastore, 1) := by decide +kernel
theorem dX0_addCairn_24 : decode cX0_addCairn 24 = .ok (.aload_n 0, 1) := by decide +kernel
theorem dX0_addCairn_25 : decode cX0_addCairn 25 = .ok (.getfield 15, 3) := by decide +kernel
theorem dX0_addCairn_28 : decode cX0_addCairn 28 = .ok (.iload_n 3, 1) := by decide +kernel
theorem dX0_addCairn_29 : decode cX0_addCairn 29 = .ok (.iload_n 2, 1) := by decide +kernel
theorem dX0_addCairn_30 : decode cX0_addCairn 30 = .ok (.iastore, 1) := by decide +kernel
theorem dX0_addCairn_31 : decode cX0_addCairn 31 = .ok (.aload_n 0, 1) := by decide +kernel
theorem dX0_addCairn_32 : decode cX0_addCairn 32 = .ok (.dup, 1) := by decide +kernel
theorem dX0_addCairn_33 : decode cX0_addCairn 33 = .ok (.getfield 38, 3) := by decide +kernel
theorem dX0_addCairn_36 : decode cX0_addCairn 36 = .ok (.iconst 1, 1) := by decide +kernel
theorem dX0_addCairn_37 : decode cX0_addCairn 37 = .ok (.iadd, 1) := by decide +kernel
theorem dX0_addCairn_38 : decode cX0_addCairn 38 = .ok (.putfield 38, 3) := by decide +kernel
theorem dX0_addCairn_41 : decode cX0_addCairn 41 = .ok (.iload_n 3, 1) := by decide +kernel
theorem dX0_addCairn_42 : decode cX0_addCairn 42 = .ok (.ireturn, 1) := by decide +kernel
set_option maxRecDepth 20000 in
theorem ggX0_cutEdge_X0_leftOf : GoodIn wsX0_cutEdge wsX0_leftOf := goodIn_r _ [5, 6, 51, 52, 53, 54, 55, 56, 57] (by decide +kernel) (by decide +kernel)
set_option maxRecDepth 20000 in
theorem gX0_cutEdge_X0_leftOf : GoodIn wsX0_cutEdge (wsV RX0 64 RX0 yX0_leftOf wsX0_leftOf) := goodIn_app (goodIn_of _ (by decide +kernel)) ggX0_cutEdge_X0_leftOf
set_option maxRecDepth 20000 in
theorem ggX0_cutEdge_X0_cutTriangle : GoodIn wsX0_cutEdge wsX0_cutTriangle := goodIn_r _ [10, 11, 12, 13, 4, 14, 15, 16, 17, 18, 19, 20, 21, 22, 23, 24, 25, 26, 27, 28, 29, 30, 31, 32, 6, 33, 34, 35, 36, 37, 38, 39, 40, 41, 51, 52, 53, 54, 55, 56, 57] (by decide +kernel) (by decide +kernel)
set_option maxRecDepth 20000 in
theorem gX0_cutEdge_X0_cutTriangle : GoodIn wsX0_cutEdge (wsV RX0 126 RX0 yX0_cutTriangle wsX0_cutTriangle) := goodIn_app (goodIn_of _ (by decide +kernel)) ggX0_cutEdge_X0_cutTriangle
set_option maxRecDepth 20000 in
theorem ggX0_cutEdge_X0_mustStay : GoodIn wsX0_cutEdge wsX0_mustStay := goodIn_r _ [45, 46, 33, 34, 35, 4, 36, 37, 51, 52, 53, 54, 55, 56, 57] (by decide +kernel) (by decide +kernel)
set_option maxRecDepth 20000 in
theorem gX0_cutEdge_X0_mustStay : GoodIn wsX0_cutEdge (wsV RX0 97 RX0 yX0_mustStay wsX0_mustStay) := goodIn_app (goodIn_of _ (by decide +kernel)) ggX0_cutEdge_X0_mustStay
set_option maxRecDepth 20000 in
theorem ggX0_cutEdge_X0_setStay : GoodIn wsX0_cutEdge wsX0_setStay := goodIn_r _ [50, 46, 33, 34, 35, 4, 36, 37, 51, 52, 53, 54, 55, 56, 57] (by decide +kernel) (by decide +kernel)
set_option maxRecDepth 20000 in
theorem gX0_cutEdge_X0_setStay : GoodIn wsX0_cutEdge (wsV RX0 130 RX0 yX0_setStay wsX0_setStay) := goodIn_app (goodIn_of _ (by decide +kernel)) ggX0_cutEdge_X0_setStay
theorem dX0_cutEdge_0 : decode cX0_cutEdge 0 = .ok (.aload_n 0, 1) := by decide +kernel
theorem dX0_cutEdge_1 : decode cX0_cutEdge 1 = .ok (.iload_n 1, 1) := by decide +kernel
theorem dX0_cutEdge_2 : decode cX0_cutEdge 2 = .ok (.iload_n 2, 1) := by decide +kernel
theorem dX0_cutEdge_3 : decode cX0_cutEdge 3 = .ok (.invokevirtual 64, 3) := by decide +kernel
theorem dX0_cutEdge_6 : decode cX0_cutEdge 6 = .ok (.istore 4, 2) := by decide +kernel
theorem dX0_cutEdge_8 : decode cX0_cutEdge 8 = .ok (.aload_n 0, 1) := by decide +kernel
theorem dX0_cutEdge_9 : decode cX0_cutEdge 9 = .ok (.iload_n 2, 1) := by decide +kernel
theorem dX0_cutEdge_10 : decode cX0_cutEdge 10 = .ok (.iload_n 1, 1) := by decide +kernel
theorem dX0_cutEdge_11 : decode cX0_cutEdge 11 = .ok (.invokevirtual 64, 3) := by decide +kernel
theorem dX0_cutEdge_14 : decode cX0_cutEdge 14 = .ok (.istore 5, 2) := by decide +kernel
theorem dX0_cutEdge_16 : decode cX0_cutEdge 16 = .ok (.aload_n 0, 1) := by decide +kernel
theorem dX0_cutEdge_17 : decode cX0_cutEdge 17 = .ok (.iload_n 1, 1) := by decide +kernel
theorem dX0_cutEdge_18 : decode cX0_cutEdge 18 = .ok (.iload_n 2, 1) := by decide +kernel
theorem dX0_cutEdge_19 : decode cX0_cutEdge 19 = .ok (.iload 4, 2) := by decide +kernel
theorem dX0_cutEdge_21 : decode cX0_cutEdge 21 = .ok (.iload_n 3, 1) := by decide +kernel
theorem dX0_cutEdge_22 : decode cX0_cutEdge 22 = .ok (.invokevirtual 126, 3) := by decide +kernel
theorem dX0_cutEdge_25 : decode cX0_cutEdge 25 = .ok (.aload_n 0, 1) := by decide +kernel
theorem dX0_cutEdge_26 : decode cX0_cutEdge 26 = .ok (.iload_n 1, 1) := by decide +kernel
theorem dX0_cutEdge_27 : decode cX0_cutEdge 27 = .ok (.iload_n 2, 1) := by decide +kernel
theorem dX0_cutEdge_28 : decode cX0_cutEdge 28 = .ok (.iload 5, 2) := by decide +kernel
theorem dX0_cutEdge_30 : decode cX0_cutEdge 30 = .ok (.iload_n 3, 1) := by decide +kernel
theorem dX0_cutEdge_31 : decode cX0_cutEdge 31 = .ok (.invokevirtual 126, 3) := by decide +kernel
theorem dX0_cutEdge_34 : decode cX0_cutEdge 34 = .ok (.aload_n 0, 1) := by decide +kernel
theorem dX0_cutEdge_35 : decode cX0_cutEdge 35 = .ok (.iload_n 1, 1) := by decide +kernel
theorem dX0_cutEdge_36 : decode cX0_cutEdge 36 = .ok (.iload_n 2, 1) := by decide +kernel
theorem dX0_cutEdge_37 : decode cX0_cutEdge 37 = .ok (.invokevirtual 97, 3) := by decide +kernel
theorem dX0_cutEdge_40 : decode cX0_cutEdge 40 = .ok (.ifCond .eq 24, 3) := by decide +kernel
theorem dX0_cutEdge_43 : decode cX0_cutEdge 43 = .ok (.aload_n 0, 1) := by decide +kernel
theorem dX0_cutEdge_44 : decode cX0_cutEdge 44 = .ok (.iload_n 1, 1) := by decide +kernel
theorem dX0_cutEdge_45 : decode cX0_cutEdge 45 = .ok (.iload_n 2, 1) := by decide +kernel
theorem dX0_cutEdge_46 : decode cX0_cutEdge 46 = .ok (.iconst 0, 1) := by decide +kernel
theorem dX0_cutEdge_47 : decode cX0_cutEdge 47 = .ok (.invokevirtual 130, 3) := by decide +kernel
theorem dX0_cutEdge_50 : decode cX0_cutEdge 50 = .ok (.aload_n 0, 1) := by decide +kernel
theorem dX0_cutEdge_51 : decode cX0_cutEdge 51 = .ok (.iload_n 1, 1) := by decide +kernel
theorem dX0_cutEdge_52 : decode cX0_cutEdge 52 = .ok (.iload_n 3, 1) := by decide +kernel
theorem dX0_cutEdge_53 : decode cX0_cutEdge 53 = .ok (.iconst 1, 1) := by decide +kernel
theorem dX0_cutEdge_54 : decode cX0_cutEdge 54 = .ok (.invokevirtual 130, 3) := by decide +kernel
theorem dX0_cutEdge_57 : decode cX0_cutEdge 57 = .ok (.aload_n 0, 1) := by decide +kernel
theorem dX0_cutEdge_58 : decode cX0_cutEdge 58 = .ok (.iload_n 2, 1) := by decide +kernel
theorem dX0_cutEdge_59 : decode cX0_cutEdge 59 = .ok (.iload_n 3, 1) := by decide +kernel
theorem dX0_cutEdge_60 : decode cX0_cutEdge 60 = .ok (.iconst 1, 1) := by decide +kernel
theorem dX0_cutEdge_61 : decode cX0_cutEdge 61 = .ok (.invokevirtual 130, 3) := by decide +kernel
theorem dX0_cutEdge_64 : decode cX0_cutEdge 64 = .ok (.return_, 1) := by decide +kernel
set_option maxRecDepth 20000 in
theorem ggX0_cutTriangle_X0_removeTriangle : GoodIn wsX0_cutTriangle wsX0_removeTriangle := goodIn_r _ [5, 6, 7, 8, 4, 9, 10, 11, 12, 13, 14, 15, 16, 17, 18, 19, 20, 21, 22, 23, 24, 25, 26, 27, 28, 29, 34, 35, 36, 37, 38, 39, 40] (by decide +kernel) (by decide +kernel)
set_option maxRecDepth 20000 in
theorem gX0_cutTriangle_X0_removeTriangle : GoodIn wsX0_cutTriangle (wsV RX0 109 RX0 yX0_removeTriangle wsX0_removeTriangle) := goodIn_app (goodIn_of _ (by decide +kernel)) ggX0_cutTriangle_X0_removeTriangle
set_option maxRecDepth 20000 in
theorem ggX0_cutTriangle_X0_addTriangle : GoodIn wsX0_cutTriangle wsX0_addTriangle := goodIn_r _ [33, 6, 7, 8, 4, 9, 10, 11, 12, 13, 14, 15, 16, 17, 18, 19, 20, 21, 22, 23, 24, 25, 26, 27, 28, 29, 34, 35, 36, 37, 38, 39, 40] (by decide +kernel) (by decide +kernel)
set_option maxRecDepth 20000 in
theorem gX0_cutTriangle_X0_addTriangle : GoodIn wsX0_cutTriangle (wsV RX0 31 RX0 yX0_addTriangle wsX0_addTriangle) := goodIn_app (goodIn_of _ (by decide +kernel)) ggX0_cutTriangle_X0_addTriangle
theorem dX0_cutTriangle_0 : decode cX0_cutTriangle 0 = .ok (.iload_n 3, 1) := by decide +kernel
theorem dX0_cutTriangle_1 : decode cX0_cutTriangle 1 = .ok (.iconst (-1), 1) := by decide +kernel
theorem dX0_cutTriangle_2 : decode cX0_cutTriangle 2 = .ok (.if_icmp .eq 26, 3) := by decide +kernel
theorem dX0_cutTriangle_5 : decode cX0_cutTriangle 5 = .ok (.aload_n 0, 1) := by decide +kernel
theorem dX0_cutTriangle_6 : decode cX0_cutTriangle 6 = .ok (.iload_n 1, 1) := by decide +kernel
theorem dX0_cutTriangle_7 : decode cX0_cutTriangle 7 = .ok (.iload_n 2, 1) := by decide +kernel
theorem dX0_cutTriangle_8 : decode cX0_cutTriangle 8 = .ok (.iload_n 3, 1) := by decide +kernel
theorem dX0_cutTriangle_9 : decode cX0_cutTriangle 9 = .ok (.invokevirtual 109, 3) := by decide +kernel
theorem dX0_cutTriangle_12 : decode cX0_cutTriangle 12 = .ok (.aload_n 0, 1) := by decide +kernel
theorem dX0_cutTriangle_13 : decode cX0_cutTriangle 13 = .ok (.iload 4, 2) := by decide +kernel
theorem dX0_cutTriangle_15 : decode cX0_cutTriangle 15 = .ok (.iload_n 3, 1) := by decide +kernel
theorem dX0_cutTriangle_16 : decode cX0_cutTriangle 16 = .ok (.iload_n 1, 1) := by decide +kernel
theorem dX0_cutTriangle_17 : decode cX0_cutTriangle 17 = .ok (.invokevirtual 31, 3) := by decide +kernel
theorem dX0_cutTriangle_20 : decode cX0_cutTriangle 20 = .ok (.aload_n 0, 1) := by decide +kernel
theorem dX0_cutTriangle_21 : decode cX0_cutTriangle 21 = .ok (.iload 4, 2) := by decide +kernel
theorem dX0_cutTriangle_23 : decode cX0_cutTriangle 23 = .ok (.iload_n 3, 1) := by decide +kernel
theorem dX0_cutTriangle_24 : decode cX0_cutTriangle 24 = .ok (.iload_n 2, 1) := by decide +kernel
theorem dX0_cutTriangle_25 : decode cX0_cutTriangle 25 = .ok (.invokevirtual 31, 3) := by decide +kernel
theorem dX0_cutTriangle_28 : decode cX0_cutTriangle 28 = .ok (.return_, 1) := by decide +kernel
set_option maxRecDepth 20000 in
theorem ggX0_addTriangle_X0_xOf : GoodIn wsX0_addTriangle wsX0_xOf := goodIn_r _ [5, 6, 26, 27, 28, 29, 30, 31, 32] (by decide +kernel) (by decide +kernel)
set_option maxRecDepth 20000 in
theorem gX0_addTriangle_X0_xOf : GoodIn wsX0_addTriangle (wsV RX0 49 RX0 yX0_xOf wsX0_xOf) := goodIn_app (goodIn_of _ (by decide +kernel)) ggX0_addTriangle_X0_xOf
set_option maxRecDepth 20000 in
theorem ggX0_addTriangle_X0_yOf : GoodIn wsX0_addTriangle wsX0_yOf := goodIn_r _ [10, 11, 26, 27, 28, 29, 30, 31, 32] (by decide +kernel) (by decide +kernel)
set_option maxRecDepth 20000 in
theorem gX0_addTriangle_X0_yOf : GoodIn wsX0_addTriangle (wsV RX0 53 RX0 yX0_yOf wsX0_yOf) := goodIn_app (goodIn_of _ (by decide +kernel)) ggX0_addTriangle_X0_yOf
set_option maxRecDepth 20000 in
theorem ggX0_addTriangle_X0_turn : GoodIn wsX0_addTriangle wsX0_turn := goodIn_r _ [15, 1, 2, 3, 4, 5, 6, 7, 8, 9, 10, 11, 26, 27, 28, 29, 30, 31, 32] (by decide +kernel) (by decide +kernel)
set_option maxRecDepth 20000 in
theorem gX0_addTriangle_X0_turn : GoodIn wsX0_addTriangle (wsV RX0 77 RX0 yX0_turn wsX0_turn) := goodIn_app (goodIn_of _ (by decide +kernel)) ggX0_addTriangle_X0_turn
set_option maxRecDepth 20000 in
theorem ggX0_addTriangle_X0_setLefts : GoodIn wsX0_addTriangle wsX0_setLefts := goodIn_r _ [19, 20, 21, 22, 23, 4, 24, 25, 26, 27, 28, 29, 30, 31, 32] (by decide +kernel) (by decide +kernel)
set_option maxRecDepth 20000 in
theorem gX0_addTriangle_X0_setLefts : GoodIn wsX0_addTriangle (wsV RX0 134 RX0 yX0_setLefts wsX0_setLefts) := goodIn_app (goodIn_of _ (by decide +kernel)) ggX0_addTriangle_X0_setLefts
theorem dX0_addTriangle_0 : decode cX0_addTriangle 0 = .ok (.aload_n 0, 1) := by decide +kernel
theorem dX0_addTriangle_1 : decode cX0_addTriangle 1 = .ok (.iload_n 1, 1) := by decide +kernel
theorem dX0_addTriangle_2 : decode cX0_addTriangle 2 = .ok (.iload_n 2, 1) := by decide +kernel
theorem dX0_addTriangle_3 : decode cX0_addTriangle 3 = .ok (.aload_n 0, 1) := by decide +kernel
theorem dX0_addTriangle_4 : decode cX0_addTriangle 4 = .ok (.iload_n 3, 1) := by decide +kernel
theorem dX0_addTriangle_5 : decode cX0_addTriangle 5 = .ok (.invokevirtual 49, 3) := by decide +kernel
theorem dX0_addTriangle_8 : decode cX0_addTriangle 8 = .ok (.aload_n 0, 1) := by decide +kernel
theorem dX0_addTriangle_9 : decode cX0_addTriangle 9 = .ok (.iload_n 3, 1) := by decide +kernel
theorem dX0_addTriangle_10 : decode cX0_addTriangle 10 = .ok (.invokevirtual 53, 3) := by decide +kernel
theorem dX0_addTriangle_13 : decode cX0_addTriangle 13 = .ok (.invokevirtual 77, 3) := by decide +kernel
theorem dX0_addTriangle_16 : decode cX0_addTriangle 16 = .ok (.ifCond .le 16, 3) := by decide +kernel
theorem dX0_addTriangle_19 : decode cX0_addTriangle 19 = .ok (.aload_n 0, 1) := by decide +kernel
theorem dX0_addTriangle_20 : decode cX0_addTriangle 20 = .ok (.iload_n 1, 1) := by decide +kernel
theorem dX0_addTriangle_21 : decode cX0_addTriangle 21 = .ok (.iload_n 2, 1) := by decide +kernel
theorem dX0_addTriangle_22 : decode cX0_addTriangle 22 = .ok (.iload_n 3, 1) := by decide +kernel
theorem dX0_addTriangle_23 : decode cX0_addTriangle 23 = .ok (.iload_n 3, 1) := by decide +kernel
theorem dX0_addTriangle_24 : decode cX0_addTriangle 24 = .ok (.iload_n 1, 1) := by decide +kernel
theorem dX0_addTriangle_25 : decode cX0_addTriangle 25 = .ok (.iload_n 2, 1) := by decide +kernel
theorem dX0_addTriangle_26 : decode cX0_addTriangle 26 = .ok (.invokevirtual 134, 3) := by decide +kernel
theorem dX0_addTriangle_29 : decode cX0_addTriangle 29 = .ok (.goto 13, 3) := by decide +kernel
theorem dX0_addTriangle_32 : decode cX0_addTriangle 32 = .ok (.aload_n 0, 1) := by decide +kernel
theorem dX0_addTriangle_33 : decode cX0_addTriangle 33 = .ok (.iload_n 1, 1) := by decide +kernel
theorem dX0_addTriangle_34 : decode cX0_addTriangle 34 = .ok (.iload_n 3, 1) := by decide +kernel
theorem dX0_addTriangle_35 : decode cX0_addTriangle 35 = .ok (.iload_n 2, 1) := by decide +kernel
theorem dX0_addTriangle_36 : decode cX0_addTriangle 36 = .ok (.iload_n 2, 1) := by decide +kernel
theorem dX0_addTriangle_37 : decode cX0_addTriangle 37 = .ok (.iload_n 1, 1) := by decide +kernel
theorem dX0_addTriangle_38 : decode cX0_addTriangle 38 = .ok (.iload_n 3, 1) := by decide +kernel
theorem dX0_addTriangle_39 : decode cX0_addTriangle 39 = .ok (.invokevirtual 134, 3) := by decide +kernel
theorem dX0_addTriangle_42 : decode cX0_addTriangle 42 = .ok (.return_, 1) := by decide +kernel
set_option maxRecDepth 20000 in
theorem ggX0_removeTriangle_X0_xOf : GoodIn wsX0_removeTriangle wsX0_xOf := goodIn_r _ [5, 6, 26, 27, 28, 29, 30, 31, 32] (by decide +kernel) (by decide +kernel)
set_option maxRecDepth 20000 in
theorem gX0_removeTriangle_X0_xOf : GoodIn wsX0_removeTriangle (wsV RX0 49 RX0 yX0_xOf wsX0_xOf) := goodIn_app (goodIn_of _ (by decide +kernel)) ggX0_removeTriangle_X0_xOf
set_option maxRecDepth 20000 in
theorem ggX0_removeTriangle_X0_yOf : GoodIn wsX0_removeTriangle wsX0_yOf := goodIn_r _ [10, 11, 26, 27, 28, 29, 30, 31, 32] (by decide +kernel) (by decide +kernel)
set_option maxRecDepth 20000 in
theorem gX0_removeTriangle_X0_yOf : GoodIn wsX0_removeTriangle (wsV RX0 53 RX0 yX0_yOf wsX0_yOf) := goodIn_app (goodIn_of _ (by decide +kernel)) ggX0_removeTriangle_X0_yOf
set_option maxRecDepth 20000 in
theorem ggX0_removeTriangle_X0_turn : GoodIn wsX0_removeTriangle wsX0_turn := goodIn_r _ [15, 1, 2, 3, 4, 5, 6, 7, 8, 9, 10, 11, 26, 27, 28, 29, 30, 31, 32] (by decide +kernel) (by decide +kernel)
set_option maxRecDepth 20000 in
theorem gX0_removeTriangle_X0_turn : GoodIn wsX0_removeTriangle (wsV RX0 77 RX0 yX0_turn wsX0_turn) := goodIn_app (goodIn_of _ (by decide +kernel)) ggX0_removeTriangle_X0_turn
set_option maxRecDepth 20000 in
theorem ggX0_removeTriangle_X0_setLefts : GoodIn wsX0_removeTriangle wsX0_setLefts := goodIn_r _ [19, 20, 21, 22, 23, 4, 24, 25, 26, 27, 28, 29, 30, 31, 32] (by decide +kernel) (by decide +kernel)
set_option maxRecDepth 20000 in
theorem gX0_removeTriangle_X0_setLefts : GoodIn wsX0_removeTriangle (wsV RX0 134 RX0 yX0_setLefts wsX0_setLefts) := goodIn_app (goodIn_of _ (by decide +kernel)) ggX0_removeTriangle_X0_setLefts
theorem dX0_removeTriangle_0 : decode cX0_removeTriangle 0 = .ok (.aload_n 0, 1) := by decide +kernel
theorem dX0_removeTriangle_1 : decode cX0_removeTriangle 1 = .ok (.iload_n 1, 1) := by decide +kernel
theorem dX0_removeTriangle_2 : decode cX0_removeTriangle 2 = .ok (.iload_n 2, 1) := by decide +kernel
theorem dX0_removeTriangle_3 : decode cX0_removeTriangle 3 = .ok (.aload_n 0, 1) := by decide +kernel
theorem dX0_removeTriangle_4 : decode cX0_removeTriangle 4 = .ok (.iload_n 3, 1) := by decide +kernel
theorem dX0_removeTriangle_5 : decode cX0_removeTriangle 5 = .ok (.invokevirtual 49, 3) := by decide +kernel
theorem dX0_removeTriangle_8 : decode cX0_removeTriangle 8 = .ok (.aload_n 0, 1) := by decide +kernel
theorem dX0_removeTriangle_9 : decode cX0_removeTriangle 9 = .ok (.iload_n 3, 1) := by decide +kernel
theorem dX0_removeTriangle_10 : decode cX0_removeTriangle 10 = .ok (.invokevirtual 53, 3) := by decide +kernel
theorem dX0_removeTriangle_13 : decode cX0_removeTriangle 13 = .ok (.invokevirtual 77, 3) := by decide +kernel
theorem dX0_removeTriangle_16 : decode cX0_removeTriangle 16 = .ok (.ifCond .le 16, 3) := by decide +kernel
theorem dX0_removeTriangle_19 : decode cX0_removeTriangle 19 = .ok (.aload_n 0, 1) := by decide +kernel
theorem dX0_removeTriangle_20 : decode cX0_removeTriangle 20 = .ok (.iload_n 1, 1) := by decide +kernel
theorem dX0_removeTriangle_21 : decode cX0_removeTriangle 21 = .ok (.iload_n 2, 1) := by decide +kernel
theorem dX0_removeTriangle_22 : decode cX0_removeTriangle 22 = .ok (.iload_n 3, 1) := by decide +kernel
theorem dX0_removeTriangle_23 : decode cX0_removeTriangle 23 = .ok (.iconst (-1), 1) := by decide +kernel
theorem dX0_removeTriangle_24 : decode cX0_removeTriangle 24 = .ok (.iconst (-1), 1) := by decide +kernel
theorem dX0_removeTriangle_25 : decode cX0_removeTriangle 25 = .ok (.iconst (-1), 1) := by decide +kernel
theorem dX0_removeTriangle_26 : decode cX0_removeTriangle 26 = .ok (.invokevirtual 134, 3) := by decide +kernel
theorem dX0_removeTriangle_29 : decode cX0_removeTriangle 29 = .ok (.goto 13, 3) := by decide +kernel
theorem dX0_removeTriangle_32 : decode cX0_removeTriangle 32 = .ok (.aload_n 0, 1) := by decide +kernel
theorem dX0_removeTriangle_33 : decode cX0_removeTriangle 33 = .ok (.iload_n 1, 1) := by decide +kernel
theorem dX0_removeTriangle_34 : decode cX0_removeTriangle 34 = .ok (.iload_n 3, 1) := by decide +kernel
theorem dX0_removeTriangle_35 : decode cX0_removeTriangle 35 = .ok (.iload_n 2, 1) := by decide +kernel
theorem dX0_removeTriangle_36 : decode cX0_removeTriangle 36 = .ok (.iconst (-1), 1) := by decide +kernel
theorem dX0_removeTriangle_37 : decode cX0_removeTriangle 37 = .ok (.iconst (-1), 1) := by decide +kernel
theorem dX0_removeTriangle_38 : decode cX0_removeTriangle 38 = .ok (.iconst (-1), 1) := by decide +kernel
theorem dX0_removeTriangle_39 : decode cX0_removeTriangle 39 = .ok (.invokevirtual 134, 3) := by decide +kernel
theorem dX0_removeTriangle_42 : decode cX0_removeTriangle 42 = .ok (.return_, 1) := by decide +kernel
set_option maxRecDepth 20000 in
theorem ggX0_setLefts_X0_isCairn : GoodIn wsX0_setLefts wsX0_isCairn := goodIn_r _ [6, 7, 8, 9, 10, 11, 12, 13, 14] (by decide +kernel) (by decide +kernel)
set_option maxRecDepth 20000 in
theorem gX0_setLefts_X0_isCairn : GoodIn wsX0_setLefts (wsV RX0 67 RX0 yX0_isCairn wsX0_isCairn) := goodIn_app (goodIn_of _ (by decide +kernel)) ggX0_setLefts_X0_isCairn
theorem dX0_setLefts_0 : decode cX0_setLefts 0 = .ok (.aload_n 0, 1) := by decide +kernel
theorem dX0_setLefts_1 : decode cX0_setLefts 1 = .ok (.iload_n 1, 1) := by decide +kernel
theorem dX0_setLefts_2 : decode cX0_setLefts 2 = .ok (.invokevirtual 67, 3) := by decide +kernel
theorem dX0_setLefts_5 : decode cX0_setLefts 5 = .ok (.ifCond .eq 58, 3) := by decide +kernel
theorem dX0_setLefts_8 : decode cX0_setLefts 8 = .ok (.aload_n 0, 1) := by decide +kernel
theorem dX0_setLefts_9 : decode cX0_setLefts 9 = .ok (.iload_n 2, 1) := by decide +kernel
theorem dX0_setLefts_10 : decode cX0_setLefts 10 = .ok (.invokevirtual 67, 3) := by decide +kernel
theorem dX0_setLefts_13 : decode cX0_setLefts 13 = .ok (.ifCond .eq 50, 3) := by decide +kernel
theorem dX0_setLefts_16 : decode cX0_setLefts 16 = .ok (.aload_n 0, 1) := by decide +kernel
theorem dX0_setLefts_17 : decode cX0_setLefts 17 = .ok (.iload_n 3, 1) := by decide +kernel
theorem dX0_setLefts_18 : decode cX0_setLefts 18 = .ok (.invokevirtual 67, 3) := by decide +kernel
theorem dX0_setLefts_21 : decode cX0_setLefts 21 = .ok (.ifCond .eq 42, 3) := by decide +kernel
theorem dX0_setLefts_24 : decode cX0_setLefts 24 = .ok (.aload_n 0, 1) := by decide +kernel
theorem dX0_setLefts_25 : decode cX0_setLefts 25 = .ok (.getfield 18, 3) := by decide +kernel
theorem dX0_setLefts_28 : decode cX0_setLefts 28 = .ok (.iload_n 1, 1) := by decide +kernel
theorem dX0_setLefts_29 : decode cX0_setLefts 29 = .ok (.bipush 17, 2) := by decide +kernel
theorem dX0_setLefts_31 : decode cX0_setLefts 31 = .ok (.imul, 1) := by decide +kernel
theorem dX0_setLefts_32 : decode cX0_setLefts 32 = .ok (.iload_n 2, 1) := by decide +kernel
theorem dX0_setLefts_33 : decode cX0_setLefts 33 = .ok (.iadd, 1) := by decide +kernel
theorem dX0_setLefts_34 : decode cX0_setLefts 34 = .ok (.iload 4, 2) := by decide +kernel
theorem dX0_setLefts_36 : decode cX0_setLefts 36 = .ok (.iastore, 1) := by decide +kernel
theorem dX0_setLefts_37 : decode cX0_setLefts 37 = .ok (.aload_n 0, 1) := by decide +kernel
theorem dX0_setLefts_38 : decode cX0_setLefts 38 = .ok (.getfield 18, 3) := by decide +kernel
theorem dX0_setLefts_41 : decode cX0_setLefts 41 = .ok (.iload_n 2, 1) := by decide +kernel
theorem dX0_setLefts_42 : decode cX0_setLefts 42 = .ok (.bipush 17, 2) := by decide +kernel
theorem dX0_setLefts_44 : decode cX0_setLefts 44 = .ok (.imul, 1) := by decide +kernel
theorem dX0_setLefts_45 : decode cX0_setLefts 45 = .ok (.iload_n 3, 1) := by decide +kernel
theorem dX0_setLefts_46 : decode cX0_setLefts 46 = .ok (.iadd, 1) := by decide +kernel
theorem dX0_setLefts_47 : decode cX0_setLefts 47 = .ok (.iload 5, 2) := by decide +kernel
theorem dX0_setLefts_49 : decode cX0_setLefts 49 = .ok (.iastore, 1) := by decide +kernel
theorem dX0_setLefts_50 : decode cX0_setLefts 50 = .ok (.aload_n 0, 1) := by decide +kernel
theorem dX0_setLefts_51 : decode cX0_setLefts 51 = .ok (.getfield 18, 3) := by decide +kernel
theorem dX0_setLefts_54 : decode cX0_setLefts 54 = .ok (.iload_n 3, 1) := by decide +kernel
theorem dX0_setLefts_55 : decode cX0_setLefts 55 = .ok (.bipush 17, 2) := by decide +kernel
theorem dX0_setLefts_57 : decode cX0_setLefts 57 = .ok (.imul, 1) := by decide +kernel
theorem dX0_setLefts_58 : decode cX0_setLefts 58 = .ok (.iload_n 1, 1) := by decide +kernel
theorem dX0_setLefts_59 : decode cX0_setLefts 59 = .ok (.iadd, 1) := by decide +kernel
theorem dX0_setLefts_60 : decode cX0_setLefts 60 = .ok (.iload 6, 2) := by decide +kernel
theorem dX0_setLefts_62 : decode cX0_setLefts 62 = .ok (.iastore, 1) := by decide +kernel
theorem dX0_setLefts_63 : decode cX0_setLefts 63 = .ok (.return_, 1) := by decide +kernel
set_option maxRecDepth 20000 in
theorem ggX0_listTriangles_X0_leftOf : GoodIn wsX0_listTriangles wsX0_leftOf := goodIn_r _ [14, 15, 21, 22, 23, 24, 25, 26, 27] (by decide +kernel) (by decide +kernel)
set_option maxRecDepth 20000 in
theorem gX0_listTriangles_X0_leftOf : GoodIn wsX0_listTriangles (wsV RX0 64 RX0 yX0_leftOf wsX0_leftOf) := goodIn_app (goodIn_of _ (by decide +kernel)) ggX0_listTriangles_X0_leftOf
set_option maxRecDepth 20000 in
theorem ggX0_listTriangles_X0_listTriangle : GoodIn wsX0_listTriangles wsX0_listTriangle := goodIn_r _ [19, 1, 20, 21, 22, 23, 24, 25, 26, 27] (by decide +kernel) (by decide +kernel)
set_option maxRecDepth 20000 in
theorem gX0_listTriangles_X0_listTriangle : GoodIn wsX0_listTriangles (wsV RX0 141 RX0 yX0_listTriangle wsX0_listTriangle) := goodIn_app (goodIn_of _ (by decide +kernel)) ggX0_listTriangles_X0_listTriangle
theorem dX0_listTriangles_0 : decode cX0_listTriangles 0 = .ok (.aload_n 0, 1) := by decide +kernel
theorem dX0_listTriangles_1 : decode cX0_listTriangles 1 = .ok (.iconst 0, 1) := by decide +kernel
theorem dX0_listTriangles_2 : decode cX0_listTriangles 2 = .ok (.putfield 42, 3) := by decide +kernel
theorem dX0_listTriangles_5 : decode cX0_listTriangles 5 = .ok (.iconst 0, 1) := by decide +kernel
theorem dX0_listTriangles_6 : decode cX0_listTriangles 6 = .ok (.istore_n 1, 1) := by decide +kernel
theorem dX0_listTriangles_7 : decode cX0_listTriangles 7 = .ok (.iload_n 1, 1) := by decide +kernel
theorem dX0_listTriangles_8 : decode cX0_listTriangles 8 = .ok (.aload_n 0, 1) := by decide +kernel
theorem dX0_listTriangles_9 : decode cX0_listTriangles 9 = .ok (.getfield 38, 3) := by decide +kernel
theorem dX0_listTriangles_12 : decode cX0_listTriangles 12 = .ok (.if_icmp .ge 66, 3) := by decide +kernel
theorem dX0_listTriangles_15 : decode cX0_listTriangles 15 = .ok (.iload_n 1, 1) := by decide +kernel
theorem dX0_listTriangles_16 : decode cX0_listTriangles 16 = .ok (.iconst 1, 1) := by decide +kernel
theorem dX0_listTriangles_17 : decode cX0_listTriangles 17 = .ok (.iadd, 1) := by decide +kernel
theorem dX0_listTriangles_18 : decode cX0_listTriangles 18 = .ok (.istore_n 2, 1) := by decide +kernel
theorem dX0_listTriangles_19 : decode cX0_listTriangles 19 = .ok (.iload_n 2, 1) := by decide +kernel
theorem dX0_listTriangles_20 : decode cX0_listTriangles 20 = .ok (.aload_n 0, 1) := by decide +kernel
theorem dX0_listTriangles_21 : decode cX0_listTriangles 21 = .ok (.getfield 38, 3) := by decide +kernel
theorem dX0_listTriangles_24 : decode cX0_listTriangles 24 = .ok (.if_icmp .ge 48, 3) := by decide +kernel
theorem dX0_listTriangles_27 : decode cX0_listTriangles 27 = .ok (.aload_n 0, 1) := by decide +kernel
theorem dX0_listTriangles_28 : decode cX0_listTriangles 28 = .ok (.iload_n 1, 1) := by decide +kernel
theorem dX0_listTriangles_29 : decode cX0_listTriangles 29 = .ok (.iload_n 2, 1) := by decide +kernel
theorem dX0_listTriangles_30 : decode cX0_listTriangles 30 = .ok (.invokevirtual 64, 3) := by decide +kernel
theorem dX0_listTriangles_33 : decode cX0_listTriangles 33 = .ok (.istore_n 3, 1) := by decide +kernel
theorem dX0_listTriangles_34 : decode cX0_listTriangles 34 = .ok (.aload_n 0, 1) := by decide +kernel
theorem dX0_listTriangles_35 : decode cX0_listTriangles 35 = .ok (.iload_n 2, 1) := by decide +kernel
theorem dX0_listTriangles_36 : decode cX0_listTriangles 36 = .ok (.iload_n 1, 1) := by decide +kernel
theorem dX0_listTriangles_37 : decode cX0_listTriangles 37 = .ok (.invokevirtual 64, 3) := by decide +kernel
theorem dX0_listTriangles_40 : decode cX0_listTriangles 40 = .ok (.istore 4, 2) := by decide +kernel
theorem dX0_listTriangles_42 : decode cX0_listTriangles 42 = .ok (.aload_n 0, 1) := by decide +kernel
theorem dX0_listTriangles_43 : decode cX0_listTriangles 43 = .ok (.iload_n 1, 1) := by decide +kernel
theorem dX0_listTriangles_44 : decode cX0_listTriangles 44 = .ok (.iload_n 2, 1) := by decide +kernel
theorem dX0_listTriangles_45 : decode cX0_listTriangles 45 = .ok (.iload_n 3, 1) := by decide +kernel
theorem dX0_listTriangles_46 : decode cX0_listTriangles 46 = .ok (.iload 4, 2) := by decide +kernel
theorem dX0_listTriangles_48 : decode cX0_listTriangles 48 = .ok (.invokestatic 138, 3) := by decide +kernel
theorem dX0_listTriangles_51 : decode cX0_listTriangles 51 = .ok (.invokevirtual 141, 3) := by decide +kernel
theorem dX0_listTriangles_54 : decode cX0_listTriangles 54 = .ok (.aload_n 0, 1) := by decide +kernel
theorem dX0_listTriangles_55 : decode cX0_listTriangles 55 = .ok (.iload_n 1, 1) := by decide +kernel
theorem dX0_listTriangles_56 : decode cX0_listTriangles 56 = .ok (.iload_n 2, 1) := by decide +kernel
theorem dX0_listTriangles_57 : decode cX0_listTriangles 57 = .ok (.iload_n 3, 1) := by decide +kernel
theorem dX0_listTriangles_58 : decode cX0_listTriangles 58 = .ok (.iload 4, 2) := by decide +kernel
theorem dX0_listTriangles_60 : decode cX0_listTriangles 60 = .ok (.invokestatic 144, 3) := by decide +kernel
theorem dX0_listTriangles_63 : decode cX0_listTriangles 63 = .ok (.invokevirtual 141, 3) := by decide +kernel
theorem dX0_listTriangles_66 : decode cX0_listTriangles 66 = .ok (.iinc 2 1, 3) := by decide +kernel
theorem dX0_listTriangles_69 : decode cX0_listTriangles 69 = .ok (.goto (-50), 3) := by decide +kernel
theorem dX0_listTriangles_72 : decode cX0_listTriangles 72 = .ok (.iinc 1 1, 3) := by decide +kernel
theorem dX0_listTriangles_75 : decode cX0_listTriangles 75 = .ok (.goto (-68), 3) := by decide +kernel
theorem dX0_listTriangles_78 : decode cX0_listTriangles 78 = .ok (.return_, 1) := by decide +kernel
theorem dX0_listTriangle_0 : decode cX0_listTriangle 0 = .ok (.iload_n 3, 1) := by decide +kernel
theorem dX0_listTriangle_1 : decode cX0_listTriangle 1 = .ok (.iload_n 2, 1) := by decide +kernel
theorem dX0_listTriangle_2 : decode cX0_listTriangle 2 = .ok (.if_icmp .le 19, 3) := by decide +kernel
theorem dX0_listTriangle_5 : decode cX0_listTriangle 5 = .ok (.aload_n 0, 1) := by decide +kernel
theorem dX0_listTriangle_6 : decode cX0_listTriangle 6 = .ok (.getfield 42, 3) := by decide +kernel
theorem dX0_listTriangle_9 : decode cX0_listTriangle 9 = .ok (.ifCond .lt 12, 3) := by decide +kernel
theorem dX0_listTriangle_12 : decode cX0_listTriangle 12 = .ok (.aload_n 0, 1) := by decide +kernel
theorem dX0_listTriangle_13 : decode cX0_listTriangle 13 = .ok (.getfield 42, 3) := by decide +kernel
theorem dX0_listTriangle_16 : decode cX0_listTriangle 16 = .ok (.bipush 28, 2) := by decide +kernel
theorem dX0_listTriangle_18 : decode cX0_listTriangle 18 = .ok (.if_icmp .lt 4, 3) := by decide +kernel
theorem dX0_listTriangle_21 : decode cX0_listTriangle 21 = .ok (.return_, 1) := by decide +kernel
theorem dX0_listTriangle_22 : decode cX0_listTriangle 22 = .ok (.aload_n 0, 1) := by decide +kernel
theorem dX0_listTriangle_23 : decode cX0_listTriangle 23 = .ok (.getfield 24, 3) := by decide +kernel
theorem dX0_listTriangle_26 : decode cX0_listTriangle 26 = .ok (.iconst 3, 1) := by decide +kernel
theorem dX0_listTriangle_27 : decode cX0_listTriangle 27 = .ok (.aload_n 0, 1) := by decide +kernel
theorem dX0_listTriangle_28 : decode cX0_listTriangle 28 = .ok (.getfield 42, 3) := by decide +kernel
theorem dX0_listTriangle_31 : decode cX0_listTriangle 31 = .ok (.imul, 1) := by decide +kernel
theorem dX0_listTriangle_32 : decode cX0_listTriangle 32 = .ok (.iload_n 1, 1) := by decide +kernel
theorem dX0_listTriangle_33 : decode cX0_listTriangle 33 = .ok (.iastore, 1) := by decide +kernel
theorem dX0_listTriangle_34 : decode cX0_listTriangle 34 = .ok (.aload_n 0, 1) := by decide +kernel
theorem dX0_listTriangle_35 : decode cX0_listTriangle 35 = .ok (.getfield 24, 3) := by decide +kernel
theorem dX0_listTriangle_38 : decode cX0_listTriangle 38 = .ok (.iconst 3, 1) := by decide +kernel
theorem dX0_listTriangle_39 : decode cX0_listTriangle 39 = .ok (.aload_n 0, 1) := by decide +kernel
theorem dX0_listTriangle_40 : decode cX0_listTriangle 40 = .ok (.getfield 42, 3) := by decide +kernel
theorem dX0_listTriangle_43 : decode cX0_listTriangle 43 = .ok (.imul, 1) := by decide +kernel
theorem dX0_listTriangle_44 : decode cX0_listTriangle 44 = .ok (.iconst 1, 1) := by decide +kernel
theorem dX0_listTriangle_45 : decode cX0_listTriangle 45 = .ok (.iadd, 1) := by decide +kernel
theorem dX0_listTriangle_46 : decode cX0_listTriangle 46 = .ok (.iload_n 2, 1) := by decide +kernel
theorem dX0_listTriangle_47 : decode cX0_listTriangle 47 = .ok (.iastore, 1) := by decide +kernel
theorem dX0_listTriangle_48 : decode cX0_listTriangle 48 = .ok (.aload_n 0, 1) := by decide +kernel
theorem dX0_listTriangle_49 : decode cX0_listTriangle 49 = .ok (.getfield 24, 3) := by decide +kernel
theorem dX0_listTriangle_52 : decode cX0_listTriangle 52 = .ok (.iconst 3, 1) := by decide +kernel
theorem dX0_listTriangle_53 : decode cX0_listTriangle 53 = .ok (.aload_n 0, 1) := by decide +kernel
theorem dX0_listTriangle_54 : decode cX0_listTriangle 54 = .ok (.getfield 42, 3) := by decide +kernel
theorem dX0_listTriangle_57 : decode cX0_listTriangle 57 = .ok (.imul, 1) := by decide +kernel
theorem dX0_listTriangle_58 : decode cX0_listTriangle 58 = .ok (.iconst 2, 1) := by decide +kernel
theorem dX0_listTriangle_59 : decode cX0_listTriangle 59 = .ok (.iadd, 1) := by decide +kernel
theorem dX0_listTriangle_60 : decode cX0_listTriangle 60 = .ok (.iload_n 3, 1) := by decide +kernel
theorem dX0_listTriangle_61 : decode cX0_listTriangle 61 = .ok (.iastore, 1) := by decide +kernel
theorem dX0_listTriangle_62 : decode cX0_listTriangle 62 = .ok (.aload_n 0, 1) := by decide +kernel
theorem dX0_listTriangle_63 : decode cX0_listTriangle 63 = .ok (.dup, 1) := by decide +kernel
theorem dX0_listTriangle_64 : decode cX0_listTriangle 64 = .ok (.getfield 42, 3) := by decide +kernel
theorem dX0_listTriangle_67 : decode cX0_listTriangle 67 = .ok (.iconst 1, 1) := by decide +kernel
theorem dX0_listTriangle_68 : decode cX0_listTriangle 68 = .ok (.iadd, 1) := by decide +kernel
theorem dX0_listTriangle_69 : decode cX0_listTriangle 69 = .ok (.putfield 42, 3) := by decide +kernel
theorem dX0_listTriangle_72 : decode cX0_listTriangle 72 = .ok (.return_, 1) := by decide +kernel
set_option maxRecDepth 20000 in
theorem ggX1_init_X0_init : GoodIn wsX1_init wsX0_init := goodIn_r _ [14, 15, 2, 3, 9, 16, 17, 18, 19, 20, 21, 22, 23, 6, 24, 25, 26, 27, 28, 29, 30, 31, 32, 33, 34, 35, 36, 37, 38, 39, 40, 41, 42, 43, 44, 45, 46, 47, 48, 49, 50, 51, 52, 53, 54, 55, 56, 57, 58, 59, 60, 61, 62, 63, 64, 65, 66, 67, 68, 69, 70, 71, 72, 73, 74, 75, 76] (by decide +kernel) (by decide +kernel)
set_option maxRecDepth 20000 in
theorem gX1_init_X0_init : GoodIn wsX1_init (wsX0_init) := ggX1_init_X0_init
theorem dX1_init_0 : decode cX1_init 0 = .ok (.aload_n 0, 1) := by decide +kernel
theorem dX1_init_1 : decode cX1_init 1 = .ok (.invokespecial 1, 3) := by decide +kernel
theorem dX1_init_4 : decode cX1_init 4 = .ok (.aload_n 0, 1) := by decide +kernel
theorem dX1_init_5 : decode cX1_init 5 = .ok (.new 7, 3) := by decide +kernel
theorem dX1_init_8 : decode cX1_init 8 = .ok (.dup, 1) := by decide +kernel
theorem dX1_init_9 : decode cX1_init 9 = .ok (.invokespecial 9, 3) := by decide +kernel
theorem dX1_init_12 : decode cX1_init 12 = .ok (.putfield 10, 3) := by decide +kernel
theorem dX1_init_15 : decode cX1_init 15 = .ok (.aload_n 0, 1) := by decide +kernel
theorem dX1_init_16 : decode cX1_init 16 = .ok (.new 7, 3) := by decide +kernel
theorem dX1_init_19 : decode cX1_init 19 = .ok (.dup, 1) := by decide +kernel
theorem dX1_init_20 : decode cX1_init 20 = .ok (.invokespecial 9, 3) := by decide +kernel
theorem dX1_init_23 : decode cX1_init 23 = .ok (.putfield 16, 3) := by decide +kernel
theorem dX1_init_26 : decode cX1_init 26 = .ok (.aload_n 0, 1) := by decide +kernel
theorem dX1_init_27 : decode cX1_init 27 = .ok (.bipush 16, 2) := by decide +kernel
theorem dX1_init_29 : decode cX1_init 29 = .ok (.newarray .int, 2) := by decide +kernel
theorem dX1_init_31 : decode cX1_init 31 = .ok (.putfield 19, 3) := by decide +kernel
theorem dX1_init_34 : decode cX1_init 34 = .ok (.aload_n 0, 1) := by decide +kernel
theorem dX1_init_35 : decode cX1_init 35 = .ok (.iconst 0, 1) := by decide +kernel
theorem dX1_init_36 : decode cX1_init 36 = .ok (.putfield 23, 3) := by decide +kernel
theorem dX1_init_39 : decode cX1_init 39 = .ok (.return_, 1) := by decide +kernel
set_option maxRecDepth 20000 in
theorem ggX1_build_X1_needPlace : GoodIn wsX1_build wsX1_needPlace := goodIn_ca (goodIn_r _ [9, 10, 11] (by decide +kernel) (by decide +kernel)) (goodIn_sub (fun _ h => List.mem_cons_of_mem _ (List.mem_append_right _ h)) (by decide +kernel))
set_option maxRecDepth 20000 in
theorem gX1_build_X1_needPlace : GoodIn wsX1_build (wsV RX1 27 RX1 yX1_needPlace wsX1_needPlace) := goodIn_app (goodIn_of _ (by decide +kernel)) ggX1_build_X1_needPlace
set_option maxRecDepth 20000 in
theorem ggX1_build_X1_needHeight : GoodIn wsX1_build wsX1_needHeight := goodIn_ca (goodIn_r _ [15, 10, 11] (by decide +kernel) (by decide +kernel)) (goodIn_sub (fun _ h => List.mem_cons_of_mem _ (List.mem_append_right _ h)) (by decide +kernel))
set_option maxRecDepth 20000 in
theorem gX1_build_X1_needHeight : GoodIn wsX1_build (wsV RX1 31 RX1 yX1_needHeight wsX1_needHeight) := goodIn_app (goodIn_of _ (by decide +kernel)) ggX1_build_X1_needHeight
set_option maxRecDepth 20000 in
theorem ggX1_build_X1_needFreePlace : GoodIn wsX1_build wsX1_needFreePlace := goodIn_ca (goodIn_r _ [19, 1, 2, 3, 20, 21, 22, 23, 24, 25, 26, 27, 28, 29, 30, 31, 32, 33, 34, 35, 120, 121, 122, 123, 124, 125, 126, 127, 128, 129, 130] (by decide +kernel) (by decide +kernel)) (goodIn_sub (fun _ h => List.mem_cons_of_mem _ (List.mem_append_left _ (List.mem_append_right _ h))) (by decide +kernel))
set_option maxRecDepth 20000 in
theorem gX1_build_X1_needFreePlace : GoodIn wsX1_build (wsV RX1 45 RX1 yX1_needFreePlace wsX1_needFreePlace) := goodIn_app (goodIn_of _ (by decide +kernel)) ggX1_build_X1_needFreePlace
set_option maxRecDepth 20000 in
theorem ggX1_build_X0_insert : GoodIn wsX1_build wsX0_insert := goodIn_r _ [39, 25, 40, 41, 42, 23, 43, 44, 45, 46, 47, 48, 49, 50, 51, 52, 53, 54, 55, 56, 57, 26, 27, 28, 29, 30, 31, 32, 33, 34, 35, 58, 59, 60, 61, 62, 63, 64, 65, 66, 67, 68, 69, 70, 71, 72, 73, 74, 75, 76, 77, 78, 79, 80, 81, 82, 83, 84, 85, 86, 87, 88, 89, 90, 91, 92, 93, 94, 95, 96, 97, 98, 99, 100, 101, 102, 103, 104, 105, 106, 107, 108, 109, 110, 111, 112, 113, 114, 124, 125, 126, 127, 128, 129, 130] (by decide +kernel) (by decide +kernel)
set_option maxRecDepth 20000 in
theorem gX1_build_X0_insert : GoodIn wsX1_build (wsV RX1 48 RX0 yX0_insert wsX0_insert) := goodIn_app (goodIn_of _ (by decide +kernel)) ggX1_build_X0_insert
set_option maxRecDepth 20000 in
theorem ggX1_build_X1_setHeight : GoodIn wsX1_build wsX1_setHeight := goodIn_r _ [118, 119, 120, 121, 122, 123] (by decide +kernel) (by decide +kernel)
set_option maxRecDepth 20000 in
theorem gX1_build_X1_setHeight : GoodIn wsX1_build (wsV RX1 52 RX1 yX1_setHeight wsX1_setHeight) := goodIn_app (goodIn_of _ (by decide +kernel)) ggX1_build_X1_setHeight
theorem dX1_build_0 : decode cX1_build 0 = .ok (.aload_n 0, 1) := by decide +kernel
theorem dX1_build_1 : decode cX1_build 1 = .ok (.iload_n 1, 1) := by decide +kernel
theorem dX1_build_2 : decode cX1_build 2 = .ok (.iload_n 2, 1) := by decide +kernel
theorem dX1_build_3 : decode cX1_build 3 = .ok (.invokevirtual 27, 3) := by decide +kernel
theorem dX1_build_6 : decode cX1_build 6 = .ok (.aload_n 0, 1) := by decide +kernel
theorem dX1_build_7 : decode cX1_build 7 = .ok (.iload_n 3, 1) := by decide +kernel
theorem dX1_build_8 : decode cX1_build 8 = .ok (.invokevirtual 31, 3) := by decide +kernel
theorem dX1_build_11 : decode cX1_build 11 = .ok (.aload_n 0, 1) := by decide +kernel
theorem dX1_build_12 : decode cX1_build 12 = .ok (.getfield 10, 3) := by decide +kernel
theorem dX1_build_15 : decode cX1_build 15 = .ok (.getfield 35, 3) := by decide +kernel
theorem dX1_build_18 : decode cX1_build 18 = .ok (.bipush 16, 2) := by decide +kernel
theorem dX1_build_20 : decode cX1_build 20 = .ok (.if_icmp .lt 13, 3) := by decide +kernel
theorem dX1_build_23 : decode cX1_build 23 = .ok (.new 38, 3) := by decide +kernel
theorem dX1_build_26 : decode cX1_build 26 = .ok (.dup, 1) := by decide +kernel
theorem dX1_build_27 : decode cX1_build 27 = .ok (.ldc 40, 2) := by decide +kernel
theorem dX1_build_29 : decode cX1_build 29 = .ok (.invokespecial 42, 3) := by decide +kernel
theorem dX1_build_32 : decode cX1_build 32 = .ok (.athrow, 1) := by decide +kernel
theorem dX1_build_33 : decode cX1_build 33 = .ok (.aload_n 0, 1) := by decide +kernel
theorem dX1_build_34 : decode cX1_build 34 = .ok (.iload_n 1, 1) := by decide +kernel
theorem dX1_build_35 : decode cX1_build 35 = .ok (.iload_n 2, 1) := by decide +kernel
theorem dX1_build_36 : decode cX1_build 36 = .ok (.invokevirtual 45, 3) := by decide +kernel
theorem dX1_build_39 : decode cX1_build 39 = .ok (.aload_n 0, 1) := by decide +kernel
theorem dX1_build_40 : decode cX1_build 40 = .ok (.getfield 10, 3) := by decide +kernel
theorem dX1_build_43 : decode cX1_build 43 = .ok (.iload_n 1, 1) := by decide +kernel
theorem dX1_build_44 : decode cX1_build 44 = .ok (.iload_n 2, 1) := by decide +kernel
theorem dX1_build_45 : decode cX1_build 45 = .ok (.invokevirtual 48, 3) := by decide +kernel
theorem dX1_build_48 : decode cX1_build 48 = .ok (.istore 4, 2) := by decide +kernel
theorem dX1_build_50 : decode cX1_build 50 = .ok (.aload_n 0, 1) := by decide +kernel
theorem dX1_build_51 : decode cX1_build 51 = .ok (.iload 4, 2) := by decide +kernel
theorem dX1_build_53 : decode cX1_build 53 = .ok (.iload_n 3, 1) := by decide +kernel
theorem dX1_build_54 : decode cX1_build 54 = .ok (.invokevirtual 52, 3) := by decide +kernel
theorem dX1_build_57 : decode cX1_build 57 = .ok (.iload 4, 2) := by decide +kernel
theorem dX1_build_59 : decode cX1_build 59 = .ok (.ireturn, 1) := by decide +kernel
set_option maxRecDepth 20000 in
theorem ggX1_raise_X1_needCairn : GoodIn wsX1_raise wsX1_needCairn := goodIn_ca (goodIn_r _ [5, 6, 7, 8, 9, 10, 11, 12, 13, 14, 30, 31, 32, 33, 34, 35, 36, 37, 38, 39, 40] (by decide +kernel) (by decide +kernel)) (goodIn_sub (fun _ h => List.mem_cons_of_mem _ (List.mem_append_left _ (List.mem_append_right _ h))) (by decide +kernel))
set_option maxRecDepth 20000 in
theorem gX1_raise_X1_needCairn : GoodIn wsX1_raise (wsV RX1 55 RX1 yX1_needCairn wsX1_needCairn) := goodIn_app (goodIn_of _ (by decide +kernel)) ggX1_raise_X1_needCairn
set_option maxRecDepth 20000 in
theorem ggX1_raise_X1_needHeight : GoodIn wsX1_raise wsX1_needHeight := goodIn_ca (goodIn_r _ [18, 19, 20] (by decide +kernel) (by decide +kernel)) (goodIn_sub (fun _ h => List.mem_cons_of_mem _ (List.mem_append_right _ h)) (by decide +kernel))
set_option maxRecDepth 20000 in
theorem gX1_raise_X1_needHeight : GoodIn wsX1_raise (wsV RX1 31 RX1 yX1_needHeight wsX1_needHeight) := goodIn_app (goodIn_of _ (by decide +kernel)) ggX1_raise_X1_needHeight
set_option maxRecDepth 20000 in
theorem ggX1_raise_X1_heightOf : GoodIn wsX1_raise wsX1_heightOf := goodIn_r _ [24, 25, 30, 31, 32, 33] (by decide +kernel) (by decide +kernel)
set_option maxRecDepth 20000 in
theorem gX1_raise_X1_heightOf : GoodIn wsX1_raise (wsV RX1 58 RX1 yX1_heightOf wsX1_heightOf) := goodIn_app (goodIn_of _ (by decide +kernel)) ggX1_raise_X1_heightOf
set_option maxRecDepth 20000 in
theorem ggX1_raise_X1_setHeight : GoodIn wsX1_raise wsX1_setHeight := goodIn_r _ [29, 25, 30, 31, 32, 33] (by decide +kernel) (by decide +kernel)
set_option maxRecDepth 20000 in
theorem gX1_raise_X1_setHeight : GoodIn wsX1_raise (wsV RX1 52 RX1 yX1_setHeight wsX1_setHeight) := goodIn_app (goodIn_of _ (by decide +kernel)) ggX1_raise_X1_setHeight
theorem dX1_raise_0 : decode cX1_raise 0 = .ok (.aload_n 0, 1) := by decide +kernel
theorem dX1_raise_1 : decode cX1_raise 1 = .ok (.iload_n 1, 1) := by decide +kernel
theorem dX1_raise_2 : decode cX1_raise 2 = .ok (.invokevirtual 55, 3) := by decide +kernel
theorem dX1_raise_5 : decode cX1_raise 5 = .ok (.aload_n 0, 1) := by decide +kernel
theorem dX1_raise_6 : decode cX1_raise 6 = .ok (.iload_n 2, 1) := by decide +kernel
theorem dX1_raise_7 : decode cX1_raise 7 = .ok (.invokevirtual 31, 3) := by decide +kernel
theorem dX1_raise_10 : decode cX1_raise 10 = .ok (.aload_n 0, 1) := by decide +kernel
theorem dX1_raise_11 : decode cX1_raise 11 = .ok (.iload_n 1, 1) := by decide +kernel
theorem dX1_raise_12 : decode cX1_raise 12 = .ok (.invokevirtual 58, 3) := by decide +kernel
theorem dX1_raise_15 : decode cX1_raise 15 = .ok (.istore_n 3, 1) := by decide +kernel
theorem dX1_raise_16 : decode cX1_raise 16 = .ok (.aload_n 0, 1) := by decide +kernel
theorem dX1_raise_17 : decode cX1_raise 17 = .ok (.iload_n 1, 1) := by decide +kernel
theorem dX1_raise_18 : decode cX1_raise 18 = .ok (.iload_n 2, 1) := by decide +kernel
theorem dX1_raise_19 : decode cX1_raise 19 = .ok (.invokevirtual 52, 3) := by decide +kernel
theorem dX1_raise_22 : decode cX1_raise 22 = .ok (.iload_n 3, 1) := by decide +kernel
theorem dX1_raise_23 : decode cX1_raise 23 = .ok (.ireturn, 1) := by decide +kernel
set_option maxRecDepth 20000 in
theorem ggX1_fix_X1_needCairn : GoodIn wsX1_fix wsX1_needCairn := goodIn_ca (goodIn_r _ [6, 7, 8, 1, 9, 10, 11, 12, 13, 14, 40, 41, 42, 43, 44, 45, 46, 47, 48, 49, 50] (by decide +kernel) (by decide +kernel)) (goodIn_sub (fun _ h => List.mem_cons_of_mem _ (List.mem_append_left _ (List.mem_append_right _ h))) (by decide +kernel))
set_option maxRecDepth 20000 in
theorem gX1_fix_X1_needCairn : GoodIn wsX1_fix (wsV RX1 55 RX1 yX1_needCairn wsX1_needCairn) := goodIn_app (goodIn_of _ (by decide +kernel)) ggX1_fix_X1_needCairn
set_option maxRecDepth 20000 in
theorem ggX1_fix_X1_needEdge : GoodIn wsX1_fix wsX1_needEdge := goodIn_ca (goodIn_r _ [18, 19, 20, 1, 21, 22, 23, 12, 24, 25, 26, 27, 28, 29, 40, 41, 42, 43, 44, 45, 46, 47, 48, 49, 50] (by decide +kernel) (by decide +kernel)) (goodIn_sub (fun _ h => List.mem_cons_of_mem _ (List.mem_append_right _ h)) (by decide +kernel))
set_option maxRecDepth 20000 in
theorem gX1_fix_X1_needEdge : GoodIn wsX1_fix (wsV RX1 62 RX1 yX1_needEdge wsX1_needEdge) := goodIn_app (goodIn_of _ (by decide +kernel)) ggX1_fix_X1_needEdge
set_option maxRecDepth 20000 in
theorem ggX1_fix_X0_mustStay : GoodIn wsX1_fix wsX0_mustStay := goodIn_r _ [33, 34, 35, 10, 11, 12, 13, 14, 44, 45, 46, 47, 48, 49, 50] (by decide +kernel) (by decide +kernel)
set_option maxRecDepth 20000 in
theorem gX1_fix_X0_mustStay : GoodIn wsX1_fix (wsV RX1 65 RX0 yX0_mustStay wsX0_mustStay) := goodIn_app (goodIn_of _ (by decide +kernel)) ggX1_fix_X0_mustStay
set_option maxRecDepth 20000 in
theorem ggX1_fix_X0_setStay : GoodIn wsX1_fix wsX0_setStay := goodIn_r _ [39, 34, 35, 10, 11, 12, 13, 14, 44, 45, 46, 47, 48, 49, 50] (by decide +kernel) (by decide +kernel)
set_option maxRecDepth 20000 in
theorem gX1_fix_X0_setStay : GoodIn wsX1_fix (wsV RX1 69 RX0 yX0_setStay wsX0_setStay) := goodIn_app (goodIn_of _ (by decide +kernel)) ggX1_fix_X0_setStay
theorem dX1_fix_0 : decode cX1_fix 0 = .ok (.aload_n 0, 1) := by decide +kernel
theorem dX1_fix_1 : decode cX1_fix 1 = .ok (.iload_n 1, 1) := by decide +kernel
theorem dX1_fix_2 : decode cX1_fix 2 = .ok (.invokevirtual 55, 3) := by decide +kernel
theorem dX1_fix_5 : decode cX1_fix 5 = .ok (.aload_n 0, 1) := by decide +kernel
theorem dX1_fix_6 : decode cX1_fix 6 = .ok (.iload_n 2, 1) := by decide +kernel
theorem dX1_fix_7 : decode cX1_fix 7 = .ok (.invokevirtual 55, 3) := by decide +kernel
theorem dX1_fix_10 : decode cX1_fix 10 = .ok (.aload_n 0, 1) := by decide +kernel
theorem dX1_fix_11 : decode cX1_fix 11 = .ok (.iload_n 1, 1) := by decide +kernel
theorem dX1_fix_12 : decode cX1_fix 12 = .ok (.iload_n 2, 1) := by decide +kernel
theorem dX1_fix_13 : decode cX1_fix 13 = .ok (.invokevirtual 62, 3) := by decide +kernel
theorem dX1_fix_16 : decode cX1_fix 16 = .ok (.aload_n 0, 1) := by decide +kernel
theorem dX1_fix_17 : decode cX1_fix 17 = .ok (.getfield 10, 3) := by decide +kernel
theorem dX1_fix_20 : decode cX1_fix 20 = .ok (.iload_n 1, 1) := by decide +kernel
theorem dX1_fix_21 : decode cX1_fix 21 = .ok (.iload_n 2, 1) := by decide +kernel
theorem dX1_fix_22 : decode cX1_fix 22 = .ok (.invokevirtual 65, 3) := by decide +kernel
theorem dX1_fix_25 : decode cX1_fix 25 = .ok (.istore 4, 2) := by decide +kernel
theorem dX1_fix_27 : decode cX1_fix 27 = .ok (.aload_n 0, 1) := by decide +kernel
theorem dX1_fix_28 : decode cX1_fix 28 = .ok (.getfield 10, 3) := by decide +kernel
theorem dX1_fix_31 : decode cX1_fix 31 = .ok (.iload_n 1, 1) := by decide +kernel
theorem dX1_fix_32 : decode cX1_fix 32 = .ok (.iload_n 2, 1) := by decide +kernel
theorem dX1_fix_33 : decode cX1_fix 33 = .ok (.iload_n 3, 1) := by decide +kernel
theorem dX1_fix_34 : decode cX1_fix 34 = .ok (.invokevirtual 69, 3) := by decide +kernel
theorem dX1_fix_37 : decode cX1_fix 37 = .ok (.iload 4, 2) := by decide +kernel
theorem dX1_fix_39 : decode cX1_fix 39 = .ok (.ireturn, 1) := by decide +kernel
set_option maxRecDepth 20000 in
theorem ggX1_flip_X1_needCairn : GoodIn wsX1_flip wsX1_needCairn := goodIn_ca (goodIn_r _ [16, 17, 18, 3, 19, 20, 21, 22, 23, 24, 95, 96, 97, 98, 99, 100, 101, 102, 103, 104, 105] (by decide +kernel) (by decide +kernel)) (goodIn_sub (fun _ h => List.mem_cons_of_mem _ (List.mem_append_right _ h)) (by decide +kernel))
set_option maxRecDepth 20000 in
theorem gX1_flip_X1_needCairn : GoodIn wsX1_flip (wsV RX1 55 RX1 yX1_needCairn wsX1_needCairn) := goodIn_app (goodIn_of _ (by decide +kernel)) ggX1_flip_X1_needCairn
set_option maxRecDepth 20000 in
theorem ggX1_flip_X1_needEdge : GoodIn wsX1_flip wsX1_needEdge := goodIn_ca (goodIn_r _ [28, 1, 2, 3, 29, 30, 31, 22, 32, 33, 34, 35, 36, 37, 95, 96, 97, 98, 99, 100, 101, 102, 103, 104, 105] (by decide +kernel) (by decide +kernel)) (goodIn_sub (fun _ h => List.mem_cons_of_mem _ (List.mem_append_left _ (List.mem_append_right _ h))) (by decide +kernel))
set_option maxRecDepth 20000 in
theorem gX1_flip_X1_needEdge : GoodIn wsX1_flip (wsV RX1 62 RX1 yX1_needEdge wsX1_needEdge) := goodIn_app (goodIn_of _ (by decide +kernel)) ggX1_flip_X1_needEdge
set_option maxRecDepth 20000 in
theorem ggX1_flip_X0_isTurnable : GoodIn wsX1_flip wsX0_isTurnable := goodIn_r _ [41, 42, 43, 44, 22, 45, 33, 34, 35, 36, 37, 46, 47, 48, 49, 50, 51, 20, 21, 23, 24, 52, 53, 54, 55, 56, 57, 58, 59, 60, 61, 62, 63, 64, 65, 99, 100, 101, 102, 103, 104, 105] (by decide +kernel) (by decide +kernel)
set_option maxRecDepth 20000 in
theorem gX1_flip_X0_isTurnable : GoodIn wsX1_flip (wsV RX1 73 RX0 yX0_isTurnable wsX0_isTurnable) := goodIn_app (goodIn_of _ (by decide +kernel)) ggX1_flip_X0_isTurnable
set_option maxRecDepth 20000 in
theorem ggX1_flip_X0_leftOf : GoodIn wsX1_flip wsX0_leftOf := goodIn_r _ [36, 37, 99, 100, 101, 102, 103, 104, 105] (by decide +kernel) (by decide +kernel)
set_option maxRecDepth 20000 in
theorem gX1_flip_X0_leftOf : GoodIn wsX1_flip (wsV RX1 78 RX0 yX0_leftOf wsX0_leftOf) := goodIn_app (goodIn_of _ (by decide +kernel)) ggX1_flip_X0_leftOf
set_option maxRecDepth 20000 in
theorem ggX1_flip_X0_turnEdge : GoodIn wsX1_flip wsX0_turnEdge := goodIn_r _ [70, 33, 34, 35, 22, 36, 37, 71, 72, 73, 74, 52, 53, 54, 55, 56, 57, 58, 59, 60, 61, 62, 63, 64, 65, 75, 76, 77, 78, 51, 20, 21, 23, 24, 79, 80, 81, 82, 83, 84, 85, 86, 87, 88, 6, 7, 8, 89, 10, 11, 90, 91, 92, 93, 94, 99, 100, 101, 102, 103, 104, 105] (by decide +kernel) (by decide +kernel)
set_option maxRecDepth 20000 in
theorem gX1_flip_X0_turnEdge : GoodIn wsX1_flip (wsV RX1 81 RX0 yX0_turnEdge wsX0_turnEdge) := goodIn_app (goodIn_of _ (by decide +kernel)) ggX1_flip_X0_turnEdge
theorem dX1_flip_0 : decode cX1_flip 0 = .ok (.aload_n 0, 1) := by decide +kernel
theorem dX1_flip_1 : decode cX1_flip 1 = .ok (.iload_n 1, 1) := by decide +kernel
theorem dX1_flip_2 : decode cX1_flip 2 = .ok (.invokevirtual 55, 3) := by decide +kernel
theorem dX1_flip_5 : decode cX1_flip 5 = .ok (.aload_n 0, 1) := by decide +kernel
theorem dX1_flip_6 : decode cX1_flip 6 = .ok (.iload_n 2, 1) := by decide +kernel
theorem dX1_flip_7 : decode cX1_flip 7 = .ok (.invokevirtual 55, 3) := by decide +kernel
theorem dX1_flip_10 : decode cX1_flip 10 = .ok (.aload_n 0, 1) := by decide +kernel
theorem dX1_flip_11 : decode cX1_flip 11 = .ok (.iload_n 1, 1) := by decide +kernel
theorem dX1_flip_12 : decode cX1_flip 12 = .ok (.iload_n 2, 1) := by decide +kernel
theorem dX1_flip_13 : decode cX1_flip 13 = .ok (.invokevirtual 62, 3) := by decide +kernel
theorem dX1_flip_16 : decode cX1_flip 16 = .ok (.aload_n 0, 1) := by decide +kernel
theorem dX1_flip_17 : decode cX1_flip 17 = .ok (.getfield 10, 3) := by decide +kernel
theorem dX1_flip_20 : decode cX1_flip 20 = .ok (.iload_n 1, 1) := by decide +kernel
theorem dX1_flip_21 : decode cX1_flip 21 = .ok (.iload_n 2, 1) := by decide +kernel
theorem dX1_flip_22 : decode cX1_flip 22 = .ok (.invokevirtual 73, 3) := by decide +kernel
theorem dX1_flip_25 : decode cX1_flip 25 = .ok (.ifCond .ne 13, 3) := by decide +kernel
theorem dX1_flip_28 : decode cX1_flip 28 = .ok (.new 38, 3) := by decide +kernel
theorem dX1_flip_31 : decode cX1_flip 31 = .ok (.dup, 1) := by decide +kernel
theorem dX1_flip_32 : decode cX1_flip 32 = .ok (.ldc 76, 2) := by decide +kernel
theorem dX1_flip_34 : decode cX1_flip 34 = .ok (.invokespecial 42, 3) := by decide +kernel
theorem dX1_flip_37 : decode cX1_flip 37 = .ok (.athrow, 1) := by decide +kernel
theorem dX1_flip_38 : decode cX1_flip 38 = .ok (.aload_n 0, 1) := by decide +kernel
theorem dX1_flip_39 : decode cX1_flip 39 = .ok (.getfield 10, 3) := by decide +kernel
theorem dX1_flip_42 : decode cX1_flip 42 = .ok (.iload_n 1, 1) := by decide +kernel
theorem dX1_flip_43 : decode cX1_flip 43 = .ok (.iload_n 2, 1) := by decide +kernel
theorem dX1_flip_44 : decode cX1_flip 44 = .ok (.invokevirtual 78, 3) := by decide +kernel
theorem dX1_flip_47 : decode cX1_flip 47 = .ok (.istore_n 3, 1) := by decide +kernel
theorem dX1_flip_48 : decode cX1_flip 48 = .ok (.aload_n 0, 1) := by decide +kernel
theorem dX1_flip_49 : decode cX1_flip 49 = .ok (.getfield 10, 3) := by decide +kernel
theorem dX1_flip_52 : decode cX1_flip 52 = .ok (.iload_n 2, 1) := by decide +kernel
theorem dX1_flip_53 : decode cX1_flip 53 = .ok (.iload_n 1, 1) := by decide +kernel
theorem dX1_flip_54 : decode cX1_flip 54 = .ok (.invokevirtual 78, 3) := by decide +kernel
theorem dX1_flip_57 : decode cX1_flip 57 = .ok (.istore 4, 2) := by decide +kernel
theorem dX1_flip_59 : decode cX1_flip 59 = .ok (.aload_n 0, 1) := by decide +kernel
theorem dX1_flip_60 : decode cX1_flip 60 = .ok (.getfield 10, 3) := by decide +kernel
theorem dX1_flip_63 : decode cX1_flip 63 = .ok (.iload_n 1, 1) := by decide +kernel
theorem dX1_flip_64 : decode cX1_flip 64 = .ok (.iload_n 2, 1) := by decide +kernel
theorem dX1_flip_65 : decode cX1_flip 65 = .ok (.invokevirtual 81, 3) := by decide +kernel
theorem dX1_flip_68 : decode cX1_flip 68 = .ok (.aload_n 0, 1) := by decide +kernel
theorem dX1_flip_69 : decode cX1_flip 69 = .ok (.dup, 1) := by decide +kernel
theorem dX1_flip_70 : decode cX1_flip 70 = .ok (.getfield 23, 3) := by decide +kernel
theorem dX1_flip_73 : decode cX1_flip 73 = .ok (.iconst 1, 1) := by decide +kernel
theorem dX1_flip_74 : decode cX1_flip 74 = .ok (.iadd, 1) := by decide +kernel
theorem dX1_flip_75 : decode cX1_flip 75 = .ok (.putfield 23, 3) := by decide +kernel
theorem dX1_flip_78 : decode cX1_flip 78 = .ok (.bipush 16, 2) := by decide +kernel
theorem dX1_flip_80 : decode cX1_flip 80 = .ok (.iload_n 3, 1) := by decide +kernel
theorem dX1_flip_81 : decode cX1_flip 81 = .ok (.iload 4, 2) := by decide +kernel
theorem dX1_flip_83 : decode cX1_flip 83 = .ok (.invokestatic 84, 3) := by decide +kernel
theorem dX1_flip_86 : decode cX1_flip 86 = .ok (.imul, 1) := by decide +kernel
theorem dX1_flip_87 : decode cX1_flip 87 = .ok (.iload_n 3, 1) := by decide +kernel
theorem dX1_flip_88 : decode cX1_flip 88 = .ok (.iload 4, 2) := by decide +kernel
theorem dX1_flip_90 : decode cX1_flip 90 = .ok (.invokestatic 89, 3) := by decide +kernel
theorem dX1_flip_93 : decode cX1_flip 93 = .ok (.iadd, 1) := by decide +kernel
theorem dX1_flip_94 : decode cX1_flip 94 = .ok (.ireturn, 1) := by decide +kernel
set_option maxRecDepth 20000 in
theorem ggX1_settle_X0_turnUnfairEdges : GoodIn wsX1_settle wsX0_turnUnfairEdges := goodIn_r _ [7, 8, 9, 10, 6, 11, 12, 13, 14, 15, 16, 17, 18, 19, 20, 21, 22, 23, 24, 25, 26, 27, 28, 29, 30, 31, 32, 33, 34, 35, 36, 37, 38, 39, 40, 41, 42, 43, 44, 45, 46, 47, 48, 49, 50, 51, 52, 53, 54, 55, 56, 57, 58, 59, 60, 61, 62, 63, 64, 65, 66, 67, 68, 69, 70, 71, 72, 73, 74, 75, 76, 77, 78, 79, 80, 81, 82, 83, 84, 85, 90, 91, 92, 93, 94, 95, 96] (by decide +kernel) (by decide +kernel)
set_option maxRecDepth 20000 in
theorem gX1_settle_X0_turnUnfairEdges : GoodIn wsX1_settle (wsV RX1 92 RX0 yX0_turnUnfairEdges wsX0_turnUnfairEdges) := goodIn_app (goodIn_of _ (by decide +kernel)) ggX1_settle_X0_turnUnfairEdges
theorem dX1_settle_0 : decode cX1_settle 0 = .ok (.aload_n 0, 1) := by decide +kernel
theorem dX1_settle_1 : decode cX1_settle 1 = .ok (.getfield 10, 3) := by decide +kernel
theorem dX1_settle_4 : decode cX1_settle 4 = .ok (.invokevirtual 92, 3) := by decide +kernel
theorem dX1_settle_7 : decode cX1_settle 7 = .ok (.istore_n 1, 1) := by decide +kernel
theorem dX1_settle_8 : decode cX1_settle 8 = .ok (.aload_n 0, 1) := by decide +kernel
theorem dX1_settle_9 : decode cX1_settle 9 = .ok (.dup, 1) := by decide +kernel
theorem dX1_settle_10 : decode cX1_settle 10 = .ok (.getfield 23, 3) := by decide +kernel
theorem dX1_settle_13 : decode cX1_settle 13 = .ok (.iload_n 1, 1) := by decide +kernel
theorem dX1_settle_14 : decode cX1_settle 14 = .ok (.iadd, 1) := by decide +kernel
theorem dX1_settle_15 : decode cX1_settle 15 = .ok (.putfield 23, 3) := by decide +kernel
theorem dX1_settle_18 : decode cX1_settle 18 = .ok (.iload_n 1, 1) := by decide +kernel
theorem dX1_settle_19 : decode cX1_settle 19 = .ok (.ireturn, 1) := by decide +kernel
set_option maxRecDepth 20000 in
theorem ggX1_told_X1_needCairn : GoodIn wsX1_told wsX1_needCairn := goodIn_ca (goodIn_r _ [5, 6, 7, 8, 9, 10, 11, 12, 13, 14, 55, 56, 57, 58, 59, 60, 61, 62, 63, 64, 65] (by decide +kernel) (by decide +kernel)) (goodIn_sub (fun _ h => List.mem_cons_of_mem _ (List.mem_append_right _ h)) (by decide +kernel))
set_option maxRecDepth 20000 in
theorem gX1_told_X1_needCairn : GoodIn wsX1_told (wsV RX1 55 RX1 yX1_needCairn wsX1_needCairn) := goodIn_app (goodIn_of _ (by decide +kernel)) ggX1_told_X1_needCairn
set_option maxRecDepth 20000 in
theorem ggX1_told_X1_needWhat : GoodIn wsX1_told wsX1_needWhat := goodIn_ca (goodIn_r _ [18, 6, 7] (by decide +kernel) (by decide +kernel)) (goodIn_sub (fun _ h => List.mem_cons_of_mem _ (List.mem_append_right _ h)) (by decide +kernel))
set_option maxRecDepth 20000 in
theorem gX1_told_X1_needWhat : GoodIn wsX1_told (wsV RX1 96 RX1 yX1_needWhat wsX1_needWhat) := goodIn_app (goodIn_of _ (by decide +kernel)) ggX1_told_X1_needWhat
set_option maxRecDepth 20000 in
theorem ggX1_told_X1_cairnFact : GoodIn wsX1_told wsX1_cairnFact := goodIn_r _ [22, 8, 23, 24, 25, 12, 26, 27, 28, 29, 30, 31, 32, 33, 34, 35, 4, 36, 37, 38, 39, 40, 41, 14, 42, 43, 44, 45, 46, 47, 48, 49, 50, 51, 52, 53, 54, 55, 56, 57, 58, 59, 60, 61, 62, 63, 64, 65] (by decide +kernel) (by decide +kernel)
set_option maxRecDepth 20000 in
theorem gX1_told_X1_cairnFact : GoodIn wsX1_told (wsV RX1 99 RX1 yX1_cairnFact wsX1_cairnFact) := goodIn_app (goodIn_of _ (by decide +kernel)) ggX1_told_X1_cairnFact
theorem dX1_told_0 : decode cX1_told 0 = .ok (.aload_n 0, 1) := by decide +kernel
theorem dX1_told_1 : decode cX1_told 1 = .ok (.iload_n 1, 1) := by decide +kernel
theorem dX1_told_2 : decode cX1_told 2 = .ok (.invokevirtual 55, 3) := by decide +kernel
theorem dX1_told_5 : decode cX1_told 5 = .ok (.aload_n 0, 1) := by decide +kernel
theorem dX1_told_6 : decode cX1_told 6 = .ok (.iload_n 2, 1) := by decide +kernel
theorem dX1_told_7 : decode cX1_told 7 = .ok (.iconst 5, 1) := by decide +kernel
theorem dX1_told_8 : decode cX1_told 8 = .ok (.invokevirtual 96, 3) := by decide +kernel
theorem dX1_told_11 : decode cX1_told 11 = .ok (.aload_n 0, 1) := by decide +kernel
theorem dX1_told_12 : decode cX1_told 12 = .ok (.iload_n 1, 1) := by decide +kernel
theorem dX1_told_13 : decode cX1_told 13 = .ok (.iload_n 2, 1) := by decide +kernel
theorem dX1_told_14 : decode cX1_told 14 = .ok (.invokevirtual 99, 3) := by decide +kernel
theorem dX1_told_17 : decode cX1_told 17 = .ok (.ireturn, 1) := by decide +kernel
set_option maxRecDepth 20000 in
theorem ggX1_triangle_X1_needWhat : GoodIn wsX1_triangle wsX1_needWhat := goodIn_ca (goodIn_r _ [9, 1, 2] (by decide +kernel) (by decide +kernel)) (goodIn_sub (fun _ h => List.mem_cons_of_mem _ (List.mem_append_right _ h)) (by decide +kernel))
set_option maxRecDepth 20000 in
theorem gX1_triangle_X1_needWhat : GoodIn wsX1_triangle (wsV RX1 96 RX1 yX1_needWhat wsX1_needWhat) := goodIn_app (goodIn_of _ (by decide +kernel)) ggX1_triangle_X1_needWhat
set_option maxRecDepth 20000 in
theorem ggX1_triangle_X1_triangleFact : GoodIn wsX1_triangle wsX1_triangleFact := goodIn_r _ [13, 3, 14, 15, 16, 17, 18, 19, 20, 21, 22, 23, 24, 25, 26, 27, 28, 29, 30, 31, 32, 33, 34, 35, 36, 37, 38, 39, 40, 41, 42, 43, 44, 45, 46, 47, 48, 49, 50, 51, 52, 53] (by decide +kernel) (by decide +kernel)
set_option maxRecDepth 20000 in
theorem gX1_triangle_X1_triangleFact : GoodIn wsX1_triangle (wsV RX1 110 RX1 yX1_triangleFact wsX1_triangleFact) := goodIn_app (goodIn_of _ (by decide +kernel)) ggX1_triangle_X1_triangleFact
theorem dX1_triangle_0 : decode cX1_triangle 0 = .ok (.iload_n 1, 1) := by decide +kernel
theorem dX1_triangle_1 : decode cX1_triangle 1 = .ok (.ifCond .lt 14, 3) := by decide +kernel
theorem dX1_triangle_4 : decode cX1_triangle 4 = .ok (.iload_n 1, 1) := by decide +kernel
theorem dX1_triangle_5 : decode cX1_triangle 5 = .ok (.aload_n 0, 1) := by decide +kernel
theorem dX1_triangle_6 : decode cX1_triangle 6 = .ok (.getfield 10, 3) := by decide +kernel
theorem dX1_triangle_9 : decode cX1_triangle 9 = .ok (.getfield 102, 3) := by decide +kernel
theorem dX1_triangle_12 : decode cX1_triangle 12 = .ok (.if_icmp .lt 13, 3) := by decide +kernel
theorem dX1_triangle_15 : decode cX1_triangle 15 = .ok (.new 105, 3) := by decide +kernel
theorem dX1_triangle_18 : decode cX1_triangle 18 = .ok (.dup, 1) := by decide +kernel
theorem dX1_triangle_19 : decode cX1_triangle 19 = .ok (.ldc 107, 2) := by decide +kernel
theorem dX1_triangle_21 : decode cX1_triangle 21 = .ok (.invokespecial 109, 3) := by decide +kernel
theorem dX1_triangle_24 : decode cX1_triangle 24 = .ok (.athrow, 1) := by decide +kernel
theorem dX1_triangle_25 : decode cX1_triangle 25 = .ok (.aload_n 0, 1) := by decide +kernel
theorem dX1_triangle_26 : decode cX1_triangle 26 = .ok (.iload_n 2, 1) := by decide +kernel
theorem dX1_triangle_27 : decode cX1_triangle 27 = .ok (.iconst 4, 1) := by decide +kernel
theorem dX1_triangle_28 : decode cX1_triangle 28 = .ok (.invokevirtual 96, 3) := by decide +kernel
theorem dX1_triangle_31 : decode cX1_triangle 31 = .ok (.aload_n 0, 1) := by decide +kernel
theorem dX1_triangle_32 : decode cX1_triangle 32 = .ok (.iload_n 1, 1) := by decide +kernel
theorem dX1_triangle_33 : decode cX1_triangle 33 = .ok (.iload_n 2, 1) := by decide +kernel
theorem dX1_triangle_34 : decode cX1_triangle 34 = .ok (.invokevirtual 110, 3) := by decide +kernel
theorem dX1_triangle_37 : decode cX1_triangle 37 = .ok (.ireturn, 1) := by decide +kernel
set_option maxRecDepth 20000 in
theorem ggX1_edge_X1_needCairn : GoodIn wsX1_edge wsX1_needCairn := goodIn_ca (goodIn_r _ [5, 6, 7, 8, 9, 10, 11, 12, 13, 14, 72, 73, 74, 75, 76, 77, 78, 79, 80, 81, 82] (by decide +kernel) (by decide +kernel)) (goodIn_sub (fun _ h => List.mem_cons_of_mem _ (List.mem_append_right _ h)) (by decide +kernel))
set_option maxRecDepth 20000 in
theorem gX1_edge_X1_needCairn : GoodIn wsX1_edge (wsV RX1 55 RX1 yX1_needCairn wsX1_needCairn) := goodIn_app (goodIn_of _ (by decide +kernel)) ggX1_edge_X1_needCairn
set_option maxRecDepth 20000 in
theorem ggX1_edge_X1_needWhat : GoodIn wsX1_edge wsX1_needWhat := goodIn_ca (goodIn_r _ [18, 6, 7] (by decide +kernel) (by decide +kernel)) (goodIn_sub (fun _ h => List.mem_cons_of_mem _ (List.mem_append_right _ h)) (by decide +kernel))
set_option maxRecDepth 20000 in
theorem gX1_edge_X1_needWhat : GoodIn wsX1_edge (wsV RX1 96 RX1 yX1_needWhat wsX1_needWhat) := goodIn_app (goodIn_of _ (by decide +kernel)) ggX1_edge_X1_needWhat
set_option maxRecDepth 20000 in
theorem ggX1_edge_X1_edgeFact : GoodIn wsX1_edge wsX1_edgeFact := goodIn_r _ [22, 8, 23, 24, 25, 12, 26, 27, 28, 29, 30, 31, 32, 33, 34, 35, 36, 37, 38, 39, 40, 41, 42, 43, 44, 45, 10, 11, 13, 14, 46, 47, 48, 49, 50, 51, 52, 53, 54, 55, 56, 57, 58, 59, 60, 61, 62, 63, 64, 65, 66, 67, 68, 69, 70, 71, 72, 73, 74, 75, 76, 77, 78, 79, 80, 81, 82] (by decide +kernel) (by decide +kernel)
set_option maxRecDepth 20000 in
theorem gX1_edge_X1_edgeFact : GoodIn wsX1_edge (wsV RX1 113 RX1 yX1_edgeFact wsX1_edgeFact) := goodIn_app (goodIn_of _ (by decide +kernel)) ggX1_edge_X1_edgeFact
theorem dX1_edge_0 : decode cX1_edge 0 = .ok (.aload_n 0, 1) := by decide +kernel
theorem dX1_edge_1 : decode cX1_edge 1 = .ok (.iload_n 1, 1) := by decide +kernel
theorem dX1_edge_2 : decode cX1_edge 2 = .ok (.invokevirtual 55, 3) := by decide +kernel
theorem dX1_edge_5 : decode cX1_edge 5 = .ok (.aload_n 0, 1) := by decide +kernel
theorem dX1_edge_6 : decode cX1_edge 6 = .ok (.iload_n 2, 1) := by decide +kernel
theorem dX1_edge_7 : decode cX1_edge 7 = .ok (.invokevirtual 55, 3) := by decide +kernel
theorem dX1_edge_10 : decode cX1_edge 10 = .ok (.aload_n 0, 1) := by decide +kernel
theorem dX1_edge_11 : decode cX1_edge 11 = .ok (.iload_n 3, 1) := by decide +kernel
theorem dX1_edge_12 : decode cX1_edge 12 = .ok (.iconst 5, 1) := by decide +kernel
theorem dX1_edge_13 : decode cX1_edge 13 = .ok (.invokevirtual 96, 3) := by decide +kernel
theorem dX1_edge_16 : decode cX1_edge 16 = .ok (.aload_n 0, 1) := by decide +kernel
theorem dX1_edge_17 : decode cX1_edge 17 = .ok (.iload_n 1, 1) := by decide +kernel
theorem dX1_edge_18 : decode cX1_edge 18 = .ok (.iload_n 2, 1) := by decide +kernel
theorem dX1_edge_19 : decode cX1_edge 19 = .ok (.iload_n 3, 1) := by decide +kernel
theorem dX1_edge_20 : decode cX1_edge 20 = .ok (.invokevirtual 113, 3) := by decide +kernel
theorem dX1_edge_23 : decode cX1_edge 23 = .ok (.ireturn, 1) := by decide +kernel
set_option maxRecDepth 20000 in
theorem ggX1_count_X1_needWhat : GoodIn wsX1_count wsX1_needWhat := goodIn_ca (goodIn_r _ [5, 6, 7] (by decide +kernel) (by decide +kernel)) (goodIn_sub (fun _ h => List.mem_cons_of_mem _ (List.mem_append_right _ h)) (by decide +kernel))
set_option maxRecDepth 20000 in
theorem gX1_count_X1_needWhat : GoodIn wsX1_count (wsV RX1 96 RX1 yX1_needWhat wsX1_needWhat) := goodIn_app (goodIn_of _ (by decide +kernel)) ggX1_count_X1_needWhat
set_option maxRecDepth 20000 in
theorem ggX1_count_X1_countOf : GoodIn wsX1_count wsX1_countOf := goodIn_r _ [11, 12, 13, 14, 15, 16, 17, 18, 19, 20, 21, 22, 23, 24, 25, 26, 27, 28, 29, 30, 31, 32, 33, 34, 35, 36, 37, 38, 39, 40, 41, 42, 43, 44, 45, 46, 47, 48, 49, 50, 51, 52, 53, 54, 55, 56, 57, 58, 59, 60, 61, 62, 63, 64, 65, 66, 67, 68, 69, 70, 71, 72, 73, 74, 75, 76, 77, 78, 79, 80, 81, 82, 83, 84] (by decide +kernel) (by decide +kernel)
set_option maxRecDepth 20000 in
theorem gX1_count_X1_countOf : GoodIn wsX1_count (wsV RX1 117 RX1 yX1_countOf wsX1_countOf) := goodIn_app (goodIn_of _ (by decide +kernel)) ggX1_count_X1_countOf
theorem dX1_count_0 : decode cX1_count 0 = .ok (.aload_n 0, 1) := by decide +kernel
theorem dX1_count_1 : decode cX1_count 1 = .ok (.iload_n 1, 1) := by decide +kernel
theorem dX1_count_2 : decode cX1_count 2 = .ok (.bipush 7, 2) := by decide +kernel
theorem dX1_count_4 : decode cX1_count 4 = .ok (.invokevirtual 96, 3) := by decide +kernel
theorem dX1_count_7 : decode cX1_count 7 = .ok (.aload_n 0, 1) := by decide +kernel
theorem dX1_count_8 : decode cX1_count 8 = .ok (.iload_n 1, 1) := by decide +kernel
theorem dX1_count_9 : decode cX1_count 9 = .ok (.invokevirtual 117, 3) := by decide +kernel
theorem dX1_count_12 : decode cX1_count 12 = .ok (.ireturn, 1) := by decide +kernel
set_option maxRecDepth 20000 in
theorem ggX1_at_X1_needPlace : GoodIn wsX1_at wsX1_needPlace := goodIn_ca (goodIn_r _ [6, 7, 8] (by decide +kernel) (by decide +kernel)) (goodIn_sub (fun _ h => List.mem_cons_of_mem _ (List.mem_append_right _ h)) (by decide +kernel))
set_option maxRecDepth 20000 in
theorem gX1_at_X1_needPlace : GoodIn wsX1_at (wsV RX1 27 RX1 yX1_needPlace wsX1_needPlace) := goodIn_app (goodIn_of _ (by decide +kernel)) ggX1_at_X1_needPlace
set_option maxRecDepth 20000 in
theorem ggX1_at_X0_find : GoodIn wsX1_at wsX0_find := goodIn_r _ [13, 14, 15, 16, 17, 12, 18, 19, 20, 21, 22, 23, 24, 25, 26, 27, 28, 29, 30, 31, 32, 33, 34, 35, 36, 37, 42, 43, 44, 45, 46, 47, 48] (by decide +kernel) (by decide +kernel)
set_option maxRecDepth 20000 in
theorem gX1_at_X0_find : GoodIn wsX1_at (wsV RX1 120 RX0 yX0_find wsX0_find) := goodIn_app (goodIn_of _ (by decide +kernel)) ggX1_at_X0_find
theorem dX1_at_0 : decode cX1_at 0 = .ok (.aload_n 0, 1) := by decide +kernel
theorem dX1_at_1 : decode cX1_at 1 = .ok (.iload_n 1, 1) := by decide +kernel
theorem dX1_at_2 : decode cX1_at 2 = .ok (.iload_n 2, 1) := by decide +kernel
theorem dX1_at_3 : decode cX1_at 3 = .ok (.invokevirtual 27, 3) := by decide +kernel
theorem dX1_at_6 : decode cX1_at 6 = .ok (.aload_n 0, 1) := by decide +kernel
theorem dX1_at_7 : decode cX1_at 7 = .ok (.getfield 10, 3) := by decide +kernel
theorem dX1_at_10 : decode cX1_at 10 = .ok (.iload_n 1, 1) := by decide +kernel
theorem dX1_at_11 : decode cX1_at 11 = .ok (.iload_n 2, 1) := by decide +kernel
theorem dX1_at_12 : decode cX1_at 12 = .ok (.invokevirtual 120, 3) := by decide +kernel
theorem dX1_at_15 : decode cX1_at 15 = .ok (.ireturn, 1) := by decide +kernel
set_option maxRecDepth 20000 in
theorem ggX1_height_X1_needPlace : GoodIn wsX1_height wsX1_needPlace := goodIn_ca (goodIn_r _ [10, 11, 12] (by decide +kernel) (by decide +kernel)) (goodIn_sub (fun _ h => List.mem_cons_of_mem _ (List.mem_append_right _ h)) (by decide +kernel))
set_option maxRecDepth 20000 in
theorem gX1_height_X1_needPlace : GoodIn wsX1_height (wsV RX1 27 RX1 yX1_needPlace wsX1_needPlace) := goodIn_app (goodIn_of _ (by decide +kernel)) ggX1_height_X1_needPlace
set_option maxRecDepth 20000 in
theorem ggX1_height_X0_find : GoodIn wsX1_height wsX0_find := goodIn_r _ [17, 18, 19, 20, 21, 16, 22, 23, 24, 25, 26, 27, 28, 29, 30, 31, 32, 33, 34, 35, 36, 37, 38, 39, 40, 41, 58, 59, 60, 61, 62, 63, 64] (by decide +kernel) (by decide +kernel)
set_option maxRecDepth 20000 in
theorem gX1_height_X0_find : GoodIn wsX1_height (wsV RX1 120 RX0 yX0_find wsX0_find) := goodIn_app (goodIn_of _ (by decide +kernel)) ggX1_height_X0_find
set_option maxRecDepth 20000 in
theorem ggX1_height_X0_corner : GoodIn wsX1_height wsX0_corner := goodIn_r _ [26, 27, 58, 59, 60, 61, 62, 63, 64] (by decide +kernel) (by decide +kernel)
set_option maxRecDepth 20000 in
theorem gX1_height_X0_corner : GoodIn wsX1_height (wsV RX1 123 RX0 yX0_corner wsX0_corner) := goodIn_app (goodIn_of _ (by decide +kernel)) ggX1_height_X0_corner
set_option maxRecDepth 20000 in
theorem ggX1_height_X0_areaOf : GoodIn wsX1_height wsX0_areaOf := goodIn_r _ [46, 47, 3, 4, 5, 23, 24, 25, 16, 26, 27, 32, 33, 34, 35, 36, 37, 38, 39, 40, 41, 28, 29, 30, 31, 58, 59, 60, 61, 62, 63, 64] (by decide +kernel) (by decide +kernel)
set_option maxRecDepth 20000 in
theorem gX1_height_X0_areaOf : GoodIn wsX1_height (wsV RX1 126 RX0 yX0_areaOf wsX0_areaOf) := goodIn_app (goodIn_of _ (by decide +kernel)) ggX1_height_X0_areaOf
set_option maxRecDepth 20000 in
theorem ggX1_height_X1_heightOf : GoodIn wsX1_height wsX1_heightOf := goodIn_r _ [51, 52, 54, 55, 56, 57] (by decide +kernel) (by decide +kernel)
set_option maxRecDepth 20000 in
theorem gX1_height_X1_heightOf : GoodIn wsX1_height (wsV RX1 58 RX1 yX1_heightOf wsX1_heightOf) := goodIn_app (goodIn_of _ (by decide +kernel)) ggX1_height_X1_heightOf
set_option maxRecDepth 20000 in
theorem ggX1_height_X0_turn : GoodIn wsX1_height wsX0_turn := goodIn_r _ [31, 32, 33, 34, 16, 35, 36, 37, 38, 39, 40, 41, 58, 59, 60, 61, 62, 63, 64] (by decide +kernel) (by decide +kernel)
set_option maxRecDepth 20000 in
theorem gX1_height_X0_turn : GoodIn wsX1_height (wsV RX1 129 RX0 yX0_turn wsX0_turn) := goodIn_app (goodIn_of _ (by decide +kernel)) ggX1_height_X0_turn
theorem dX1_height_0 : decode cX1_height 0 = .ok (.aload_n 0, 1) := by decide +kernel
theorem dX1_height_1 : decode cX1_height 1 = .ok (.iload_n 1, 1) := by decide +kernel
theorem dX1_height_2 : decode cX1_height 2 = .ok (.iload_n 2, 1) := by decide +kernel
theorem dX1_height_3 : decode cX1_height 3 = .ok (.invokevirtual 27, 3) := by decide +kernel
theorem dX1_height_6 : decode cX1_height 6 = .ok (.aload_n 0, 1) := by decide +kernel
theorem dX1_height_7 : decode cX1_height 7 = .ok (.getfield 10, 3) := by decide +kernel
theorem dX1_height_10 : decode cX1_height 10 = .ok (.iload_n 1, 1) := by decide +kernel
theorem dX1_height_11 : decode cX1_height 11 = .ok (.iload_n 2, 1) := by decide +kernel
theorem dX1_height_12 : decode cX1_height 12 = .ok (.invokevirtual 120, 3) := by decide +kernel
theorem dX1_height_15 : decode cX1_height 15 = .ok (.istore_n 3, 1) := by decide +kernel
theorem dX1_height_16 : decode cX1_height 16 = .ok (.aload_n 0, 1) := by decide +kernel
theorem dX1_height_17 : decode cX1_height 17 = .ok (.getfield 10, 3) := by decide +kernel
theorem dX1_height_20 : decode cX1_height 20 = .ok (.iload_n 3, 1) := by decide +kernel
theorem dX1_height_21 : decode cX1_height 21 = .ok (.iconst 0, 1) := by decide +kernel
theorem dX1_height_22 : decode cX1_height 22 = .ok (.invokevirtual 123, 3) := by decide +kernel
theorem dX1_height_25 : decode cX1_height 25 = .ok (.istore 4, 2) := by decide +kernel
theorem dX1_height_27 : decode cX1_height 27 = .ok (.aload_n 0, 1) := by decide +kernel
theorem dX1_height_28 : decode cX1_height 28 = .ok (.getfield 10, 3) := by decide +kernel
theorem dX1_height_31 : decode cX1_height 31 = .ok (.iload_n 3, 1) := by decide +kernel
theorem dX1_height_32 : decode cX1_height 32 = .ok (.iconst 1, 1) := by decide +kernel
theorem dX1_height_33 : decode cX1_height 33 = .ok (.invokevirtual 123, 3) := by decide +kernel
theorem dX1_height_36 : decode cX1_height 36 = .ok (.istore 5, 2) := by decide +kernel
theorem dX1_height_38 : decode cX1_height 38 = .ok (.aload_n 0, 1) := by decide +kernel
theorem dX1_height_39 : decode cX1_height 39 = .ok (.getfield 10, 3) := by decide +kernel
theorem dX1_height_42 : decode cX1_height 42 = .ok (.iload_n 3, 1) := by decide +kernel
theorem dX1_height_43 : decode cX1_height 43 = .ok (.iconst 2, 1) := by decide +kernel
theorem dX1_height_44 : decode cX1_height 44 = .ok (.invokevirtual 123, 3) := by decide +kernel
theorem dX1_height_47 : decode cX1_height 47 = .ok (.istore 6, 2) := by decide +kernel
theorem dX1_height_49 : decode cX1_height 49 = .ok (.aload_n 0, 1) := by decide +kernel
theorem dX1_height_50 : decode cX1_height 50 = .ok (.getfield 10, 3) := by decide +kernel
theorem dX1_height_53 : decode cX1_height 53 = .ok (.iload_n 3, 1) := by decide +kernel
theorem dX1_height_54 : decode cX1_height 54 = .ok (.invokevirtual 126, 3) := by decide +kernel
theorem dX1_height_57 : decode cX1_height 57 = .ok (.istore 7, 2) := by decide +kernel
theorem dX1_height_59 : decode cX1_height 59 = .ok (.aload_n 0, 1) := by decide +kernel
theorem dX1_height_60 : decode cX1_height 60 = .ok (.iload 4, 2) := by decide +kernel
theorem dX1_height_62 : decode cX1_height 62 = .ok (.invokevirtual 58, 3) := by decide +kernel
theorem dX1_height_65 : decode cX1_height 65 = .ok (.aload_n 0, 1) := by decide +kernel
theorem dX1_height_66 : decode cX1_height 66 = .ok (.getfield 10, 3) := by decide +kernel
theorem dX1_height_69 : decode cX1_height 69 = .ok (.iload 5, 2) := by decide +kernel
theorem dX1_height_71 : decode cX1_height 71 = .ok (.iload 6, 2) := by decide +kernel
theorem dX1_height_73 : decode cX1_height 73 = .ok (.iload_n 1, 1) := by decide +kernel
theorem dX1_height_74 : decode cX1_height 74 = .ok (.iload_n 2, 1) := by decide +kernel
theorem dX1_height_75 : decode cX1_height 75 = .ok (.invokevirtual 129, 3) := by decide +kernel
theorem dX1_height_78 : decode cX1_height 78 = .ok (.invokestatic 133, 3) := by decide +kernel
theorem dX1_height_81 : decode cX1_height 81 = .ok (.imul, 1) := by decide +kernel
theorem dX1_height_82 : decode cX1_height 82 = .ok (.aload_n 0, 1) := by decide +kernel
theorem dX1_height_83 : decode cX1_height 83 = .ok (.iload 5, 2) := by decide +kernel
theorem dX1_height_85 : decode cX1_height 85 = .ok (.invokevirtual 58, 3) := by decide +kernel
theorem dX1_height_88 : decode cX1_height 88 = .ok (.aload_n 0, 1) := by decide +kernel
theorem dX1_height_89 : decode cX1_height 89 = .ok (.getfield 10, 3) := by decide +kernel
theorem dX1_height_92 : decode cX1_height 92 = .ok (.iload 6, 2) := by decide +kernel
theorem dX1_height_94 : decode cX1_height 94 = .ok (.iload 4, 2) := by decide +kernel
theorem dX1_height_96 : decode cX1_height 96 = .ok (.iload_n 1, 1) := by decide +kernel
theorem dX1_height_97 : decode cX1_height 97 = .ok (.iload_n 2, 1) := by decide +kernel
theorem dX1_height_98 : decode cX1_height 98 = .ok (.invokevirtual 129, 3) := by decide +kernel
theorem dX1_height_101 : decode cX1_height 101 = .ok (.invokestatic 133, 3) := by decide +kernel
theorem dX1_height_104 : decode cX1_height 104 = .ok (.imul, 1) := by decide +kernel
theorem dX1_height_105 : decode cX1_height 105 = .ok (.iadd, 1) := by decide +kernel
theorem dX1_height_106 : decode cX1_height 106 = .ok (.aload_n 0, 1) := by decide +kernel
theorem dX1_height_107 : decode cX1_height 107 = .ok (.iload 6, 2) := by decide +kernel
theorem dX1_height_109 : decode cX1_height 109 = .ok (.invokevirtual 58, 3) := by decide +kernel
theorem dX1_height_112 : decode cX1_height 112 = .ok (.aload_n 0, 1) := by decide +kernel
theorem dX1_height_113 : decode cX1_height 113 = .ok (.getfield 10, 3) := by decide +kernel
theorem dX1_height_116 : decode cX1_height 116 = .ok (.iload 4, 2) := by decide +kernel
theorem dX1_height_118 : decode cX1_height 118 = .ok (.iload 5, 2) := by decide +kernel
theorem dX1_height_120 : decode cX1_height 120 = .ok (.iload_n 1, 1) := by decide +kernel
theorem dX1_height_121 : decode cX1_height 121 = .ok (.iload_n 2, 1) := by decide +kernel
theorem dX1_height_122 : decode cX1_height 122 = .ok (.invokevirtual 129, 3) := by decide +kernel
theorem dX1_height_125 : decode cX1_height 125 = .ok (.invokestatic 133, 3) := by decide +kernel
theorem dX1_height_128 : decode cX1_height 128 = .ok (.imul, 1) := by decide +kernel
theorem dX1_height_129 : decode cX1_height 129 = .ok (.iadd, 1) := by decide +kernel
theorem dX1_height_130 : decode cX1_height 130 = .ok (.istore 8, 2) := by decide +kernel
theorem dX1_height_132 : decode cX1_height 132 = .ok (.iload 7, 2) := by decide +kernel
theorem dX1_height_134 : decode cX1_height 134 = .ok (.ifCond .le 11, 3) := by decide +kernel
theorem dX1_height_137 : decode cX1_height 137 = .ok (.iload 8, 2) := by decide +kernel
theorem dX1_height_139 : decode cX1_height 139 = .ok (.iload 7, 2) := by decide +kernel
theorem dX1_height_141 : decode cX1_height 141 = .ok (.idiv, 1) := by decide +kernel
theorem dX1_height_142 : decode cX1_height 142 = .ok (.goto 4, 3) := by decide +kernel
theorem dX1_height_145 : decode cX1_height 145 = .ok (.iconst 0, 1) := by decide +kernel
theorem dX1_height_146 : decode cX1_height 146 = .ok (.ireturn, 1) := by decide +kernel
set_option maxRecDepth 20000 in
theorem ggX1_settles_X0_become : GoodIn wsX1_settles wsX0_become := goodIn_r _ [7, 8, 9, 10, 11, 12, 13, 14, 15, 16, 6, 17, 97, 98, 99, 100, 101, 102, 103] (by decide +kernel) (by decide +kernel)
set_option maxRecDepth 20000 in
theorem gX1_settles_X0_become : GoodIn wsX1_settles (wsV RX1 145 RX0 yX0_become wsX0_become) := goodIn_app (goodIn_of _ (by decide +kernel)) ggX1_settles_X0_become
set_option maxRecDepth 20000 in
theorem ggX1_settles_X0_turnUnfairEdges : GoodIn wsX1_settles wsX0_turnUnfairEdges := goodIn_r _ [21, 22, 23, 24, 6, 25, 8, 26, 27, 28, 29, 30, 31, 32, 33, 12, 34, 35, 36, 37, 38, 39, 40, 41, 10, 42, 43, 44, 45, 11, 46, 47, 48, 49, 50, 51, 52, 53, 13, 54, 55, 56, 57, 58, 59, 60, 61, 62, 63, 64, 65, 66, 67, 68, 69, 70, 71, 72, 73, 74, 75, 76, 77, 78, 79, 80, 81, 9, 82, 83, 84, 85, 86, 87, 88, 89, 90, 91, 92, 14, 97, 98, 99, 100, 101, 102, 103] (by decide +kernel) (by decide +kernel)
set_option maxRecDepth 20000 in
theorem gX1_settles_X0_turnUnfairEdges : GoodIn wsX1_settles (wsV RX1 92 RX0 yX0_turnUnfairEdges wsX0_turnUnfairEdges) := goodIn_app (goodIn_of _ (by decide +kernel)) ggX1_settles_X0_turnUnfairEdges
theorem dX1_settles_0 : decode cX1_settles 0 = .ok (.aload_n 0, 1) := by decide +kernel
theorem dX1_settles_1 : decode cX1_settles 1 = .ok (.getfield 16, 3) := by decide +kernel
theorem dX1_settles_4 : decode cX1_settles 4 = .ok (.aload_n 0, 1) := by decide +kernel
theorem dX1_settles_5 : decode cX1_settles 5 = .ok (.getfield 10, 3) := by decide +kernel
theorem dX1_settles_8 : decode cX1_settles 8 = .ok (.invokevirtual 145, 3) := by decide +kernel
theorem dX1_settles_11 : decode cX1_settles 11 = .ok (.aload_n 0, 1) := by decide +kernel
theorem dX1_settles_12 : decode cX1_settles 12 = .ok (.getfield 16, 3) := by decide +kernel
theorem dX1_settles_15 : decode cX1_settles 15 = .ok (.invokevirtual 92, 3) := by decide +kernel
theorem dX1_settles_18 : decode cX1_settles 18 = .ok (.ireturn, 1) := by decide +kernel
set_option maxRecDepth 20000 in
theorem ggX1_would_X1_needPlace : GoodIn wsX1_would wsX1_needPlace := goodIn_ca (goodIn_r _ [7, 8, 9] (by decide +kernel) (by decide +kernel)) (goodIn_sub (fun _ h => List.mem_cons_of_mem _ (List.mem_append_left _ (List.mem_append_right _ h))) (by decide +kernel))
set_option maxRecDepth 20000 in
theorem gX1_would_X1_needPlace : GoodIn wsX1_would (wsV RX1 27 RX1 yX1_needPlace wsX1_needPlace) := goodIn_app (goodIn_of _ (by decide +kernel)) ggX1_would_X1_needPlace
set_option maxRecDepth 20000 in
theorem ggX1_would_X1_needFreePlace : GoodIn wsX1_would wsX1_needFreePlace := goodIn_ca (goodIn_r _ [13, 14, 15, 2, 16, 17, 18, 19, 20, 21, 22, 23, 24, 25, 26, 27, 28, 29, 30, 31, 146, 147, 148, 149, 150, 151, 152, 153, 154, 155, 156] (by decide +kernel) (by decide +kernel)) (goodIn_sub (fun _ h => List.mem_cons_of_mem _ (List.mem_append_right _ h)) (by decide +kernel))
set_option maxRecDepth 20000 in
theorem gX1_would_X1_needFreePlace : GoodIn wsX1_would (wsV RX1 45 RX1 yX1_needFreePlace wsX1_needFreePlace) := goodIn_app (goodIn_of _ (by decide +kernel)) ggX1_would_X1_needFreePlace
set_option maxRecDepth 20000 in
theorem ggX1_would_X0_become : GoodIn wsX1_would wsX0_become := goodIn_r _ [35, 21, 36, 26, 31, 37, 38, 39, 40, 41, 19, 42, 150, 151, 152, 153, 154, 155, 156] (by decide +kernel) (by decide +kernel)
set_option maxRecDepth 20000 in
theorem gX1_would_X0_become : GoodIn wsX1_would (wsV RX1 145 RX0 yX0_become wsX0_become) := goodIn_app (goodIn_of _ (by decide +kernel)) ggX1_would_X0_become
set_option maxRecDepth 20000 in
theorem ggX1_would_X0_insert : GoodIn wsX1_would wsX0_insert := goodIn_r _ [46, 21, 47, 48, 49, 19, 50, 36, 51, 52, 53, 54, 55, 56, 57, 58, 39, 59, 60, 61, 62, 22, 23, 24, 25, 26, 27, 28, 29, 30, 31, 63, 64, 65, 66, 67, 68, 69, 70, 71, 72, 73, 74, 37, 75, 76, 77, 78, 79, 80, 81, 82, 83, 84, 85, 86, 87, 88, 89, 90, 91, 92, 93, 94, 95, 96, 97, 98, 38, 99, 100, 101, 102, 103, 104, 105, 106, 107, 108, 109, 110, 111, 112, 113, 114, 115, 116, 117, 150, 151, 152, 153, 154, 155, 156] (by decide +kernel) (by decide +kernel)
set_option maxRecDepth 20000 in
theorem gX1_would_X0_insert : GoodIn wsX1_would (wsV RX1 48 RX0 yX0_insert wsX0_insert) := goodIn_app (goodIn_of _ (by decide +kernel)) ggX1_would_X0_insert
set_option maxRecDepth 20000 in
theorem ggX1_would_X0_edgesThat : GoodIn wsX1_would wsX0_edgesThat := goodIn_r _ [121, 21, 122, 123, 124, 19, 125, 126, 127, 128, 129, 71, 72, 73, 74, 37, 130, 131, 132, 133, 95, 96, 97, 98, 38, 87, 88, 89, 90, 134, 135, 136, 137, 22, 23, 24, 25, 26, 27, 28, 29, 30, 31, 138, 139, 140, 141, 142, 143, 144, 145, 59, 60, 61, 62, 150, 151, 152, 153, 154, 155, 156] (by decide +kernel) (by decide +kernel)
set_option maxRecDepth 20000 in
theorem gX1_would_X0_edgesThat : GoodIn wsX1_would (wsV RX1 149 RX0 yX0_edgesThat wsX0_edgesThat) := goodIn_app (goodIn_of _ (by decide +kernel)) ggX1_would_X0_edgesThat
theorem dX1_would_0 : decode cX1_would 0 = .ok (.aload_n 0, 1) := by decide +kernel
theorem dX1_would_1 : decode cX1_would 1 = .ok (.iload_n 1, 1) := by decide +kernel
theorem dX1_would_2 : decode cX1_would 2 = .ok (.iload_n 2, 1) := by decide +kernel
theorem dX1_would_3 : decode cX1_would 3 = .ok (.invokevirtual 27, 3) := by decide +kernel
theorem dX1_would_6 : decode cX1_would 6 = .ok (.aload_n 0, 1) := by decide +kernel
theorem dX1_would_7 : decode cX1_would 7 = .ok (.iload_n 1, 1) := by decide +kernel
theorem dX1_would_8 : decode cX1_would 8 = .ok (.iload_n 2, 1) := by decide +kernel
theorem dX1_would_9 : decode cX1_would 9 = .ok (.invokevirtual 45, 3) := by decide +kernel
theorem dX1_would_12 : decode cX1_would 12 = .ok (.aload_n 0, 1) := by decide +kernel
theorem dX1_would_13 : decode cX1_would 13 = .ok (.getfield 16, 3) := by decide +kernel
theorem dX1_would_16 : decode cX1_would 16 = .ok (.aload_n 0, 1) := by decide +kernel
theorem dX1_would_17 : decode cX1_would 17 = .ok (.getfield 10, 3) := by decide +kernel
theorem dX1_would_20 : decode cX1_would 20 = .ok (.invokevirtual 145, 3) := by decide +kernel
theorem dX1_would_23 : decode cX1_would 23 = .ok (.aload_n 0, 1) := by decide +kernel
theorem dX1_would_24 : decode cX1_would 24 = .ok (.getfield 16, 3) := by decide +kernel
theorem dX1_would_27 : decode cX1_would 27 = .ok (.iload_n 1, 1) := by decide +kernel
theorem dX1_would_28 : decode cX1_would 28 = .ok (.iload_n 2, 1) := by decide +kernel
theorem dX1_would_29 : decode cX1_would 29 = .ok (.invokevirtual 48, 3) := by decide +kernel
theorem dX1_would_32 : decode cX1_would 32 = .ok (.pop, 1) := by decide +kernel
theorem dX1_would_33 : decode cX1_would 33 = .ok (.aload_n 0, 1) := by decide +kernel
theorem dX1_would_34 : decode cX1_would 34 = .ok (.getfield 16, 3) := by decide +kernel
theorem dX1_would_37 : decode cX1_would 37 = .ok (.iconst 3, 1) := by decide +kernel
theorem dX1_would_38 : decode cX1_would 38 = .ok (.invokevirtual 149, 3) := by decide +kernel
theorem dX1_would_41 : decode cX1_would 41 = .ok (.ireturn, 1) := by decide +kernel
set_option maxRecDepth 20000 in
theorem ggX1_mean_X0_edgesThat : GoodIn wsX1_mean wsX0_edgesThat := goodIn_r _ [7, 8, 9, 10, 11, 6, 12, 13, 14, 15, 16, 17, 18, 19, 20, 21, 22, 23, 24, 25, 26, 27, 28, 29, 30, 31, 32, 33, 34, 35, 36, 37, 38, 39, 40, 41, 42, 43, 44, 45, 46, 47, 48, 49, 50, 51, 52, 53, 54, 55, 56, 57, 58, 59, 60, 65, 66, 67, 68, 69, 70, 71] (by decide +kernel) (by decide +kernel)
set_option maxRecDepth 20000 in
theorem gX1_mean_X0_edgesThat : GoodIn wsX1_mean (wsV RX1 149 RX0 yX0_edgesThat wsX0_edgesThat) := goodIn_app (goodIn_of _ (by decide +kernel)) ggX1_mean_X0_edgesThat
theorem dX1_mean_0 : decode cX1_mean 0 = .ok (.iconst 2, 1) := by decide +kernel
theorem dX1_mean_1 : decode cX1_mean 1 = .ok (.aload_n 0, 1) := by decide +kernel
theorem dX1_mean_2 : decode cX1_mean 2 = .ok (.getfield 10, 3) := by decide +kernel
theorem dX1_mean_5 : decode cX1_mean 5 = .ok (.iconst 0, 1) := by decide +kernel
theorem dX1_mean_6 : decode cX1_mean 6 = .ok (.invokevirtual 149, 3) := by decide +kernel
theorem dX1_mean_9 : decode cX1_mean 9 = .ok (.imul, 1) := by decide +kernel
theorem dX1_mean_10 : decode cX1_mean 10 = .ok (.istore_n 1, 1) := by decide +kernel
theorem dX1_mean_11 : decode cX1_mean 11 = .ok (.aload_n 0, 1) := by decide +kernel
