theorem dX2_isStaying_41 : decode cX2_isStaying 41 = .ok (.aload 6, 2) := by decide +kernel
theorem dX2_isStaying_43 : decode cX2_isStaying 43 = .ok (.iconst 0, 1) := by decide +kernel
theorem dX2_isStaying_44 : decode cX2_isStaying 44 = .ok (.iaload, 1) := by decide +kernel
theorem dX2_isStaying_45 : decode cX2_isStaying 45 = .ok (.iload_n 2, 1) := by decide +kernel
theorem dX2_isStaying_46 : decode cX2_isStaying 46 = .ok (.if_icmp .ne 13, 3) := by decide +kernel
theorem dX2_isStaying_49 : decode cX2_isStaying 49 = .ok (.aload 6, 2) := by decide +kernel
theorem dX2_isStaying_51 : decode cX2_isStaying 51 = .ok (.iconst 1, 1) := by decide +kernel
theorem dX2_isStaying_52 : decode cX2_isStaying 52 = .ok (.iaload, 1) := by decide +kernel
theorem dX2_isStaying_53 : decode cX2_isStaying 53 = .ok (.iload_n 1, 1) := by decide +kernel
theorem dX2_isStaying_54 : decode cX2_isStaying 54 = .ok (.if_icmp .ne 5, 3) := by decide +kernel
theorem dX2_isStaying_57 : decode cX2_isStaying 57 = .ok (.iconst 1, 1) := by decide +kernel
theorem dX2_isStaying_58 : decode cX2_isStaying 58 = .ok (.ireturn, 1) := by decide +kernel
theorem dX2_isStaying_59 : decode cX2_isStaying 59 = .ok (.iinc 5 1, 3) := by decide +kernel
theorem dX2_isStaying_62 : decode cX2_isStaying 62 = .ok (.goto (-50), 3) := by decide +kernel
theorem dX2_isStaying_65 : decode cX2_isStaying 65 = .ok (.iconst 0, 1) := by decide +kernel
theorem dX2_isStaying_66 : decode cX2_isStaying 66 = .ok (.ireturn, 1) := by decide +kernel
set_option maxRecDepth 20000 in
theorem ggX2_isUnfair_X2_fars : GoodIn wsX2_isUnfair wsX2_fars := goodIn_r _ [6, 7, 8, 9, 10, 5, 11, 20, 21, 22, 23] (by decide +kernel) (by decide +kernel)
set_option maxRecDepth 20000 in
theorem gX2_isUnfair_X2_fars : GoodIn wsX2_isUnfair (wsV RX2 54 RX2 yX2_fars wsX2_fars) := goodIn_app (goodIn_of _ (by decide +kernel)) ggX2_isUnfair_X2_fars
set_option maxRecDepth 20000 in
theorem ggX2_isUnfair_X2_three : GoodIn wsX2_isUnfair wsX2_three := goodIn_r _ [14, 7, 12, 13, 5] (by decide +kernel) (by decide +kernel)
set_option maxRecDepth 20000 in
theorem gX2_isUnfair_X2_three : GoodIn wsX2_isUnfair (va_wsS RX2 26 yX2_three wsX2_three) := goodIn_app (goodIn_of _ (by decide +kernel)) ggX2_isUnfair_X2_three
set_option maxRecDepth 20000 in
theorem ggX2_isUnfair_X2_isIn : GoodIn wsX2_isUnfair wsX2_isIn := goodIn_r _ [18, 1, 19, 20, 21, 22, 23] (by decide +kernel) (by decide +kernel)
set_option maxRecDepth 20000 in
theorem gX2_isUnfair_X2_isIn : GoodIn wsX2_isUnfair (wsV RX2 58 RX2 yX2_isIn wsX2_isIn) := goodIn_app (goodIn_of _ (by decide +kernel)) ggX2_isUnfair_X2_isIn
theorem dX2_isUnfair_0 : decode cX2_isUnfair 0 = .ok (.aload_n 0, 1) := by decide +kernel
theorem dX2_isUnfair_1 : decode cX2_isUnfair 1 = .ok (.iload_n 1, 1) := by decide +kernel
theorem dX2_isUnfair_2 : decode cX2_isUnfair 2 = .ok (.iload_n 2, 1) := by decide +kernel
theorem dX2_isUnfair_3 : decode cX2_isUnfair 3 = .ok (.invokevirtual 54, 3) := by decide +kernel
theorem dX2_isUnfair_6 : decode cX2_isUnfair 6 = .ok (.astore_n 3, 1) := by decide +kernel
theorem dX2_isUnfair_7 : decode cX2_isUnfair 7 = .ok (.aload_n 3, 1) := by decide +kernel
theorem dX2_isUnfair_8 : decode cX2_isUnfair 8 = .ok (.arraylength, 1) := by decide +kernel
theorem dX2_isUnfair_9 : decode cX2_isUnfair 9 = .ok (.iconst 2, 1) := by decide +kernel
theorem dX2_isUnfair_10 : decode cX2_isUnfair 10 = .ok (.if_icmp .ne 42, 3) := by decide +kernel
theorem dX2_isUnfair_13 : decode cX2_isUnfair 13 = .ok (.aload_n 0, 1) := by decide +kernel
theorem dX2_isUnfair_14 : decode cX2_isUnfair 14 = .ok (.iload_n 1, 1) := by decide +kernel
theorem dX2_isUnfair_15 : decode cX2_isUnfair 15 = .ok (.iload_n 2, 1) := by decide +kernel
theorem dX2_isUnfair_16 : decode cX2_isUnfair 16 = .ok (.aload_n 3, 1) := by decide +kernel
theorem dX2_isUnfair_17 : decode cX2_isUnfair 17 = .ok (.iconst 0, 1) := by decide +kernel
theorem dX2_isUnfair_18 : decode cX2_isUnfair 18 = .ok (.iaload, 1) := by decide +kernel
theorem dX2_isUnfair_19 : decode cX2_isUnfair 19 = .ok (.invokestatic 26, 3) := by decide +kernel
theorem dX2_isUnfair_22 : decode cX2_isUnfair 22 = .ok (.aload_n 0, 1) := by decide +kernel
theorem dX2_isUnfair_23 : decode cX2_isUnfair 23 = .ok (.getfield 9, 3) := by decide +kernel
theorem dX2_isUnfair_26 : decode cX2_isUnfair 26 = .ok (.aload_n 3, 1) := by decide +kernel
theorem dX2_isUnfair_27 : decode cX2_isUnfair 27 = .ok (.iconst 1, 1) := by decide +kernel
theorem dX2_isUnfair_28 : decode cX2_isUnfair 28 = .ok (.iaload, 1) := by decide +kernel
theorem dX2_isUnfair_29 : decode cX2_isUnfair 29 = .ok (.aaload, 1) := by decide +kernel
theorem dX2_isUnfair_30 : decode cX2_isUnfair 30 = .ok (.iconst 0, 1) := by decide +kernel
theorem dX2_isUnfair_31 : decode cX2_isUnfair 31 = .ok (.iaload, 1) := by decide +kernel
theorem dX2_isUnfair_32 : decode cX2_isUnfair 32 = .ok (.aload_n 0, 1) := by decide +kernel
theorem dX2_isUnfair_33 : decode cX2_isUnfair 33 = .ok (.getfield 9, 3) := by decide +kernel
theorem dX2_isUnfair_36 : decode cX2_isUnfair 36 = .ok (.aload_n 3, 1) := by decide +kernel
theorem dX2_isUnfair_37 : decode cX2_isUnfair 37 = .ok (.iconst 1, 1) := by decide +kernel
theorem dX2_isUnfair_38 : decode cX2_isUnfair 38 = .ok (.iaload, 1) := by decide +kernel
theorem dX2_isUnfair_39 : decode cX2_isUnfair 39 = .ok (.aaload, 1) := by decide +kernel
theorem dX2_isUnfair_40 : decode cX2_isUnfair 40 = .ok (.iconst 1, 1) := by decide +kernel
theorem dX2_isUnfair_41 : decode cX2_isUnfair 41 = .ok (.iaload, 1) := by decide +kernel
theorem dX2_isUnfair_42 : decode cX2_isUnfair 42 = .ok (.invokevirtual 58, 3) := by decide +kernel
theorem dX2_isUnfair_45 : decode cX2_isUnfair 45 = .ok (.ifCond .eq 7, 3) := by decide +kernel
theorem dX2_isUnfair_48 : decode cX2_isUnfair 48 = .ok (.iconst 1, 1) := by decide +kernel
theorem dX2_isUnfair_49 : decode cX2_isUnfair 49 = .ok (.goto 4, 3) := by decide +kernel
theorem dX2_isUnfair_52 : decode cX2_isUnfair 52 = .ok (.iconst 0, 1) := by decide +kernel
theorem dX2_isUnfair_53 : decode cX2_isUnfair 53 = .ok (.ireturn, 1) := by decide +kernel
set_option maxRecDepth 20000 in
theorem ggX2_canFlip_X2_fars : GoodIn wsX2_canFlip wsX2_fars := goodIn_r _ [6, 7, 8, 9, 10, 5, 11, 21, 22, 23, 24] (by decide +kernel) (by decide +kernel)
set_option maxRecDepth 20000 in
theorem gX2_canFlip_X2_fars : GoodIn wsX2_canFlip (wsV RX2 54 RX2 yX2_fars wsX2_fars) := goodIn_app (goodIn_of _ (by decide +kernel)) ggX2_canFlip_X2_fars
set_option maxRecDepth 20000 in
theorem ggX2_canFlip_X2_isStaying : GoodIn wsX2_canFlip wsX2_isStaying := goodIn_r _ [15, 16, 21, 22, 23, 24] (by decide +kernel) (by decide +kernel)
set_option maxRecDepth 20000 in
theorem gX2_canFlip_X2_isStaying : GoodIn wsX2_canFlip (wsV RX2 62 RX2 yX2_isStaying wsX2_isStaying) := goodIn_app (goodIn_of _ (by decide +kernel)) ggX2_canFlip_X2_isStaying
set_option maxRecDepth 20000 in
theorem ggX2_canFlip_X2_cross : GoodIn wsX2_canFlip wsX2_cross := goodIn_r _ [20] (by decide +kernel) (by decide +kernel)
set_option maxRecDepth 20000 in
theorem gX2_canFlip_X2_cross : GoodIn wsX2_canFlip (wsV RX2 38 RX2 yX2_cross wsX2_cross) := goodIn_app (goodIn_of _ (by decide +kernel)) ggX2_canFlip_X2_cross
theorem dX2_canFlip_0 : decode cX2_canFlip 0 = .ok (.aload_n 0, 1) := by decide +kernel
theorem dX2_canFlip_1 : decode cX2_canFlip 1 = .ok (.iload_n 1, 1) := by decide +kernel
theorem dX2_canFlip_2 : decode cX2_canFlip 2 = .ok (.iload_n 2, 1) := by decide +kernel
theorem dX2_canFlip_3 : decode cX2_canFlip 3 = .ok (.invokevirtual 54, 3) := by decide +kernel
theorem dX2_canFlip_6 : decode cX2_canFlip 6 = .ok (.astore_n 3, 1) := by decide +kernel
theorem dX2_canFlip_7 : decode cX2_canFlip 7 = .ok (.aload_n 3, 1) := by decide +kernel
theorem dX2_canFlip_8 : decode cX2_canFlip 8 = .ok (.arraylength, 1) := by decide +kernel
theorem dX2_canFlip_9 : decode cX2_canFlip 9 = .ok (.iconst 2, 1) := by decide +kernel
theorem dX2_canFlip_10 : decode cX2_canFlip 10 = .ok (.if_icmp .lt 12, 3) := by decide +kernel
theorem dX2_canFlip_13 : decode cX2_canFlip 13 = .ok (.aload_n 0, 1) := by decide +kernel
theorem dX2_canFlip_14 : decode cX2_canFlip 14 = .ok (.iload_n 1, 1) := by decide +kernel
theorem dX2_canFlip_15 : decode cX2_canFlip 15 = .ok (.iload_n 2, 1) := by decide +kernel
theorem dX2_canFlip_16 : decode cX2_canFlip 16 = .ok (.invokevirtual 62, 3) := by decide +kernel
theorem dX2_canFlip_19 : decode cX2_canFlip 19 = .ok (.ifCond .eq 5, 3) := by decide +kernel
theorem dX2_canFlip_22 : decode cX2_canFlip 22 = .ok (.iconst 0, 1) := by decide +kernel
theorem dX2_canFlip_23 : decode cX2_canFlip 23 = .ok (.ireturn, 1) := by decide +kernel
theorem dX2_canFlip_24 : decode cX2_canFlip 24 = .ok (.aload_n 0, 1) := by decide +kernel
theorem dX2_canFlip_25 : decode cX2_canFlip 25 = .ok (.aload_n 0, 1) := by decide +kernel
theorem dX2_canFlip_26 : decode cX2_canFlip 26 = .ok (.getfield 9, 3) := by decide +kernel
theorem dX2_canFlip_29 : decode cX2_canFlip 29 = .ok (.aload_n 3, 1) := by decide +kernel
theorem dX2_canFlip_30 : decode cX2_canFlip 30 = .ok (.iconst 0, 1) := by decide +kernel
theorem dX2_canFlip_31 : decode cX2_canFlip 31 = .ok (.iaload, 1) := by decide +kernel
theorem dX2_canFlip_32 : decode cX2_canFlip 32 = .ok (.aaload, 1) := by decide +kernel
theorem dX2_canFlip_33 : decode cX2_canFlip 33 = .ok (.aload_n 0, 1) := by decide +kernel
theorem dX2_canFlip_34 : decode cX2_canFlip 34 = .ok (.getfield 9, 3) := by decide +kernel
theorem dX2_canFlip_37 : decode cX2_canFlip 37 = .ok (.aload_n 3, 1) := by decide +kernel
theorem dX2_canFlip_38 : decode cX2_canFlip 38 = .ok (.iconst 1, 1) := by decide +kernel
theorem dX2_canFlip_39 : decode cX2_canFlip 39 = .ok (.iaload, 1) := by decide +kernel
theorem dX2_canFlip_40 : decode cX2_canFlip 40 = .ok (.aaload, 1) := by decide +kernel
theorem dX2_canFlip_41 : decode cX2_canFlip 41 = .ok (.aload_n 0, 1) := by decide +kernel
theorem dX2_canFlip_42 : decode cX2_canFlip 42 = .ok (.getfield 9, 3) := by decide +kernel
theorem dX2_canFlip_45 : decode cX2_canFlip 45 = .ok (.iload_n 1, 1) := by decide +kernel
theorem dX2_canFlip_46 : decode cX2_canFlip 46 = .ok (.aaload, 1) := by decide +kernel
theorem dX2_canFlip_47 : decode cX2_canFlip 47 = .ok (.invokevirtual 38, 3) := by decide +kernel
theorem dX2_canFlip_50 : decode cX2_canFlip 50 = .ok (.istore 4, 2) := by decide +kernel
theorem dX2_canFlip_52 : decode cX2_canFlip 52 = .ok (.aload_n 0, 1) := by decide +kernel
theorem dX2_canFlip_53 : decode cX2_canFlip 53 = .ok (.aload_n 0, 1) := by decide +kernel
theorem dX2_canFlip_54 : decode cX2_canFlip 54 = .ok (.getfield 9, 3) := by decide +kernel
theorem dX2_canFlip_57 : decode cX2_canFlip 57 = .ok (.aload_n 3, 1) := by decide +kernel
theorem dX2_canFlip_58 : decode cX2_canFlip 58 = .ok (.iconst 0, 1) := by decide +kernel
theorem dX2_canFlip_59 : decode cX2_canFlip 59 = .ok (.iaload, 1) := by decide +kernel
theorem dX2_canFlip_60 : decode cX2_canFlip 60 = .ok (.aaload, 1) := by decide +kernel
theorem dX2_canFlip_61 : decode cX2_canFlip 61 = .ok (.aload_n 0, 1) := by decide +kernel
theorem dX2_canFlip_62 : decode cX2_canFlip 62 = .ok (.getfield 9, 3) := by decide +kernel
theorem dX2_canFlip_65 : decode cX2_canFlip 65 = .ok (.aload_n 3, 1) := by decide +kernel
theorem dX2_canFlip_66 : decode cX2_canFlip 66 = .ok (.iconst 1, 1) := by decide +kernel
theorem dX2_canFlip_67 : decode cX2_canFlip 67 = .ok (.iaload, 1) := by decide +kernel
theorem dX2_canFlip_68 : decode cX2_canFlip 68 = .ok (.aaload, 1) := by decide +kernel
theorem dX2_canFlip_69 : decode cX2_canFlip 69 = .ok (.aload_n 0, 1) := by decide +kernel
theorem dX2_canFlip_70 : decode cX2_canFlip 70 = .ok (.getfield 9, 3) := by decide +kernel
theorem dX2_canFlip_73 : decode cX2_canFlip 73 = .ok (.iload_n 2, 1) := by decide +kernel
theorem dX2_canFlip_74 : decode cX2_canFlip 74 = .ok (.aaload, 1) := by decide +kernel
theorem dX2_canFlip_75 : decode cX2_canFlip 75 = .ok (.invokevirtual 38, 3) := by decide +kernel
theorem dX2_canFlip_78 : decode cX2_canFlip 78 = .ok (.istore 5, 2) := by decide +kernel
theorem dX2_canFlip_80 : decode cX2_canFlip 80 = .ok (.iload 4, 2) := by decide +kernel
theorem dX2_canFlip_82 : decode cX2_canFlip 82 = .ok (.iload 5, 2) := by decide +kernel
theorem dX2_canFlip_84 : decode cX2_canFlip 84 = .ok (.imul, 1) := by decide +kernel
theorem dX2_canFlip_85 : decode cX2_canFlip 85 = .ok (.ifCond .ge 7, 3) := by decide +kernel
theorem dX2_canFlip_88 : decode cX2_canFlip 88 = .ok (.iconst 1, 1) := by decide +kernel
theorem dX2_canFlip_89 : decode cX2_canFlip 89 = .ok (.goto 4, 3) := by decide +kernel
theorem dX2_canFlip_92 : decode cX2_canFlip 92 = .ok (.iconst 0, 1) := by decide +kernel
theorem dX2_canFlip_93 : decode cX2_canFlip 93 = .ok (.ireturn, 1) := by decide +kernel
set_option maxRecDepth 20000 in
theorem ggX2_takeOut_X2_isAhead : GoodIn wsX2_takeOut wsX2_isAhead := goodIn_r _ [5] (by decide +kernel) (by decide +kernel)
set_option maxRecDepth 20000 in
theorem gX2_takeOut_X2_isAhead : GoodIn wsX2_takeOut (va_wsS RX2 34 yX2_isAhead wsX2_isAhead) := goodIn_app (goodIn_of _ (by decide +kernel)) ggX2_takeOut_X2_isAhead
set_option maxRecDepth 20000 in
theorem ggX2_takeOut_X2_less : GoodIn wsX2_takeOut wsX2_less := goodIn_r _ [8, 9] (by decide +kernel) (by decide +kernel)
set_option maxRecDepth 20000 in
theorem gX2_takeOut_X2_less : GoodIn wsX2_takeOut (va_wsS RX2 66 yX2_less wsX2_less) := goodIn_app (goodIn_of _ (by decide +kernel)) ggX2_takeOut_X2_less
theorem dX2_takeOut_0 : decode cX2_takeOut 0 = .ok (.iconst 0, 1) := by decide +kernel
theorem dX2_takeOut_1 : decode cX2_takeOut 1 = .ok (.istore_n 2, 1) := by decide +kernel
theorem dX2_takeOut_2 : decode cX2_takeOut 2 = .ok (.iload_n 2, 1) := by decide +kernel
theorem dX2_takeOut_3 : decode cX2_takeOut 3 = .ok (.aload_n 0, 1) := by decide +kernel
theorem dX2_takeOut_4 : decode cX2_takeOut 4 = .ok (.getfield 15, 3) := by decide +kernel
theorem dX2_takeOut_7 : decode cX2_takeOut 7 = .ok (.arraylength, 1) := by decide +kernel
theorem dX2_takeOut_8 : decode cX2_takeOut 8 = .ok (.if_icmp .ge 51, 3) := by decide +kernel
theorem dX2_takeOut_11 : decode cX2_takeOut 11 = .ok (.aload_n 1, 1) := by decide +kernel
theorem dX2_takeOut_12 : decode cX2_takeOut 12 = .ok (.aload_n 0, 1) := by decide +kernel
theorem dX2_takeOut_13 : decode cX2_takeOut 13 = .ok (.getfield 15, 3) := by decide +kernel
theorem dX2_takeOut_16 : decode cX2_takeOut 16 = .ok (.iload_n 2, 1) := by decide +kernel
theorem dX2_takeOut_17 : decode cX2_takeOut 17 = .ok (.aaload, 1) := by decide +kernel
theorem dX2_takeOut_18 : decode cX2_takeOut 18 = .ok (.invokestatic 34, 3) := by decide +kernel
theorem dX2_takeOut_21 : decode cX2_takeOut 21 = .ok (.ifCond .ne 32, 3) := by decide +kernel
theorem dX2_takeOut_24 : decode cX2_takeOut 24 = .ok (.aload_n 0, 1) := by decide +kernel
theorem dX2_takeOut_25 : decode cX2_takeOut 25 = .ok (.getfield 15, 3) := by decide +kernel
theorem dX2_takeOut_28 : decode cX2_takeOut 28 = .ok (.iload_n 2, 1) := by decide +kernel
theorem dX2_takeOut_29 : decode cX2_takeOut 29 = .ok (.aaload, 1) := by decide +kernel
theorem dX2_takeOut_30 : decode cX2_takeOut 30 = .ok (.aload_n 1, 1) := by decide +kernel
theorem dX2_takeOut_31 : decode cX2_takeOut 31 = .ok (.invokestatic 34, 3) := by decide +kernel
theorem dX2_takeOut_34 : decode cX2_takeOut 34 = .ok (.ifCond .eq 6, 3) := by decide +kernel
theorem dX2_takeOut_37 : decode cX2_takeOut 37 = .ok (.goto 16, 3) := by decide +kernel
theorem dX2_takeOut_40 : decode cX2_takeOut 40 = .ok (.aload_n 0, 1) := by decide +kernel
theorem dX2_takeOut_41 : decode cX2_takeOut 41 = .ok (.aload_n 0, 1) := by decide +kernel
theorem dX2_takeOut_42 : decode cX2_takeOut 42 = .ok (.getfield 15, 3) := by decide +kernel
theorem dX2_takeOut_45 : decode cX2_takeOut 45 = .ok (.iload_n 2, 1) := by decide +kernel
theorem dX2_takeOut_46 : decode cX2_takeOut 46 = .ok (.invokestatic 66, 3) := by decide +kernel
theorem dX2_takeOut_49 : decode cX2_takeOut 49 = .ok (.putfield 15, 3) := by decide +kernel
theorem dX2_takeOut_52 : decode cX2_takeOut 52 = .ok (.return_, 1) := by decide +kernel
theorem dX2_takeOut_53 : decode cX2_takeOut 53 = .ok (.iinc 2 1, 3) := by decide +kernel
theorem dX2_takeOut_56 : decode cX2_takeOut 56 = .ok (.goto (-54), 3) := by decide +kernel
theorem dX2_takeOut_59 : decode cX2_takeOut 59 = .ok (.return_, 1) := by decide +kernel
set_option maxRecDepth 20000 in
theorem ggX2_flip_X2_fars : GoodIn wsX2_flip wsX2_fars := goodIn_r _ [13, 14, 15, 16, 17, 12, 18, 40, 41, 42, 43] (by decide +kernel) (by decide +kernel)
set_option maxRecDepth 20000 in
theorem gX2_flip_X2_fars : GoodIn wsX2_flip (wsV RX2 54 RX2 yX2_fars wsX2_fars) := goodIn_app (goodIn_of _ (by decide +kernel)) ggX2_flip_X2_fars
set_option maxRecDepth 20000 in
theorem ggX2_flip_X2_three : GoodIn wsX2_flip wsX2_three := goodIn_r _ [21, 14, 19, 20, 12] (by decide +kernel) (by decide +kernel)
set_option maxRecDepth 20000 in
theorem gX2_flip_X2_three : GoodIn wsX2_flip (va_wsS RX2 26 yX2_three wsX2_three) := goodIn_app (goodIn_of _ (by decide +kernel)) ggX2_flip_X2_three
set_option maxRecDepth 20000 in
theorem ggX2_flip_X2_takeOut : GoodIn wsX2_flip wsX2_takeOut := goodIn_r _ [25, 15, 26, 27, 12, 28, 29, 30, 31, 32, 40, 41, 42, 43] (by decide +kernel) (by decide +kernel)
set_option maxRecDepth 20000 in
theorem gX2_flip_X2_takeOut : GoodIn wsX2_flip (wsV RX2 70 RX2 yX2_takeOut wsX2_takeOut) := goodIn_app (goodIn_of _ (by decide +kernel)) ggX2_flip_X2_takeOut
set_option maxRecDepth 20000 in
theorem ggX2_flip_X2_put : GoodIn wsX2_flip wsX2_put := goodIn_r _ [36, 15, 19, 20, 12, 21, 14, 37, 38, 39, 32, 26, 27, 28, 40, 41, 42, 43] (by decide +kernel) (by decide +kernel)
set_option maxRecDepth 20000 in
theorem gX2_flip_X2_put : GoodIn wsX2_flip (wsV RX2 74 RX2 yX2_put wsX2_put) := goodIn_app (goodIn_of _ (by decide +kernel)) ggX2_flip_X2_put
theorem dX2_flip_0 : decode cX2_flip 0 = .ok (.aload_n 0, 1) := by decide +kernel
theorem dX2_flip_1 : decode cX2_flip 1 = .ok (.iload_n 1, 1) := by decide +kernel
theorem dX2_flip_2 : decode cX2_flip 2 = .ok (.iload_n 2, 1) := by decide +kernel
theorem dX2_flip_3 : decode cX2_flip 3 = .ok (.invokevirtual 54, 3) := by decide +kernel
theorem dX2_flip_6 : decode cX2_flip 6 = .ok (.astore_n 3, 1) := by decide +kernel
theorem dX2_flip_7 : decode cX2_flip 7 = .ok (.aload_n 0, 1) := by decide +kernel
theorem dX2_flip_8 : decode cX2_flip 8 = .ok (.iload_n 1, 1) := by decide +kernel
theorem dX2_flip_9 : decode cX2_flip 9 = .ok (.iload_n 2, 1) := by decide +kernel
theorem dX2_flip_10 : decode cX2_flip 10 = .ok (.aload_n 3, 1) := by decide +kernel
theorem dX2_flip_11 : decode cX2_flip 11 = .ok (.iconst 0, 1) := by decide +kernel
theorem dX2_flip_12 : decode cX2_flip 12 = .ok (.iaload, 1) := by decide +kernel
theorem dX2_flip_13 : decode cX2_flip 13 = .ok (.invokestatic 26, 3) := by decide +kernel
theorem dX2_flip_16 : decode cX2_flip 16 = .ok (.invokevirtual 70, 3) := by decide +kernel
theorem dX2_flip_19 : decode cX2_flip 19 = .ok (.aload_n 0, 1) := by decide +kernel
theorem dX2_flip_20 : decode cX2_flip 20 = .ok (.iload_n 1, 1) := by decide +kernel
theorem dX2_flip_21 : decode cX2_flip 21 = .ok (.iload_n 2, 1) := by decide +kernel
theorem dX2_flip_22 : decode cX2_flip 22 = .ok (.aload_n 3, 1) := by decide +kernel
theorem dX2_flip_23 : decode cX2_flip 23 = .ok (.iconst 1, 1) := by decide +kernel
theorem dX2_flip_24 : decode cX2_flip 24 = .ok (.iaload, 1) := by decide +kernel
theorem dX2_flip_25 : decode cX2_flip 25 = .ok (.invokestatic 26, 3) := by decide +kernel
theorem dX2_flip_28 : decode cX2_flip 28 = .ok (.invokevirtual 70, 3) := by decide +kernel
theorem dX2_flip_31 : decode cX2_flip 31 = .ok (.aload_n 0, 1) := by decide +kernel
theorem dX2_flip_32 : decode cX2_flip 32 = .ok (.aload_n 3, 1) := by decide +kernel
theorem dX2_flip_33 : decode cX2_flip 33 = .ok (.iconst 0, 1) := by decide +kernel
theorem dX2_flip_34 : decode cX2_flip 34 = .ok (.iaload, 1) := by decide +kernel
theorem dX2_flip_35 : decode cX2_flip 35 = .ok (.aload_n 3, 1) := by decide +kernel
theorem dX2_flip_36 : decode cX2_flip 36 = .ok (.iconst 1, 1) := by decide +kernel
theorem dX2_flip_37 : decode cX2_flip 37 = .ok (.iaload, 1) := by decide +kernel
theorem dX2_flip_38 : decode cX2_flip 38 = .ok (.iload_n 1, 1) := by decide +kernel
theorem dX2_flip_39 : decode cX2_flip 39 = .ok (.invokevirtual 74, 3) := by decide +kernel
theorem dX2_flip_42 : decode cX2_flip 42 = .ok (.aload_n 0, 1) := by decide +kernel
theorem dX2_flip_43 : decode cX2_flip 43 = .ok (.aload_n 3, 1) := by decide +kernel
theorem dX2_flip_44 : decode cX2_flip 44 = .ok (.iconst 0, 1) := by decide +kernel
theorem dX2_flip_45 : decode cX2_flip 45 = .ok (.iaload, 1) := by decide +kernel
theorem dX2_flip_46 : decode cX2_flip 46 = .ok (.aload_n 3, 1) := by decide +kernel
theorem dX2_flip_47 : decode cX2_flip 47 = .ok (.iconst 1, 1) := by decide +kernel
theorem dX2_flip_48 : decode cX2_flip 48 = .ok (.iaload, 1) := by decide +kernel
theorem dX2_flip_49 : decode cX2_flip 49 = .ok (.iload_n 2, 1) := by decide +kernel
theorem dX2_flip_50 : decode cX2_flip 50 = .ok (.invokevirtual 74, 3) := by decide +kernel
theorem dX2_flip_53 : decode cX2_flip 53 = .ok (.aload_n 0, 1) := by decide +kernel
theorem dX2_flip_54 : decode cX2_flip 54 = .ok (.dup, 1) := by decide +kernel
theorem dX2_flip_55 : decode cX2_flip 55 = .ok (.getfield 22, 3) := by decide +kernel
theorem dX2_flip_58 : decode cX2_flip 58 = .ok (.iconst 1, 1) := by decide +kernel
theorem dX2_flip_59 : decode cX2_flip 59 = .ok (.iadd, 1) := by decide +kernel
theorem dX2_flip_60 : decode cX2_flip 60 = .ok (.putfield 22, 3) := by decide +kernel
theorem dX2_flip_63 : decode cX2_flip 63 = .ok (.bipush 16, 2) := by decide +kernel
theorem dX2_flip_65 : decode cX2_flip 65 = .ok (.aload_n 3, 1) := by decide +kernel
theorem dX2_flip_66 : decode cX2_flip 66 = .ok (.iconst 0, 1) := by decide +kernel
theorem dX2_flip_67 : decode cX2_flip 67 = .ok (.iaload, 1) := by decide +kernel
theorem dX2_flip_68 : decode cX2_flip 68 = .ok (.aload_n 3, 1) := by decide +kernel
theorem dX2_flip_69 : decode cX2_flip 69 = .ok (.iconst 1, 1) := by decide +kernel
theorem dX2_flip_70 : decode cX2_flip 70 = .ok (.iaload, 1) := by decide +kernel
theorem dX2_flip_71 : decode cX2_flip 71 = .ok (.invokestatic 78, 3) := by decide +kernel
theorem dX2_flip_74 : decode cX2_flip 74 = .ok (.imul, 1) := by decide +kernel
theorem dX2_flip_75 : decode cX2_flip 75 = .ok (.aload_n 3, 1) := by decide +kernel
theorem dX2_flip_76 : decode cX2_flip 76 = .ok (.iconst 0, 1) := by decide +kernel
theorem dX2_flip_77 : decode cX2_flip 77 = .ok (.iaload, 1) := by decide +kernel
theorem dX2_flip_78 : decode cX2_flip 78 = .ok (.aload_n 3, 1) := by decide +kernel
theorem dX2_flip_79 : decode cX2_flip 79 = .ok (.iconst 1, 1) := by decide +kernel
theorem dX2_flip_80 : decode cX2_flip 80 = .ok (.iaload, 1) := by decide +kernel
theorem dX2_flip_81 : decode cX2_flip 81 = .ok (.invokestatic 82, 3) := by decide +kernel
theorem dX2_flip_84 : decode cX2_flip 84 = .ok (.iadd, 1) := by decide +kernel
theorem dX2_flip_85 : decode cX2_flip 85 = .ok (.ireturn, 1) := by decide +kernel
set_option maxRecDepth 20000 in
theorem ggX2_settle_X2_isStaying : GoodIn wsX2_settle wsX2_isStaying := goodIn_r _ [6, 7, 59, 60, 61, 62] (by decide +kernel) (by decide +kernel)
set_option maxRecDepth 20000 in
theorem gX2_settle_X2_isStaying : GoodIn wsX2_settle (wsV RX2 62 RX2 yX2_isStaying wsX2_isStaying) := goodIn_app (goodIn_of _ (by decide +kernel)) ggX2_settle_X2_isStaying
set_option maxRecDepth 20000 in
theorem ggX2_settle_X2_isUnfair : GoodIn wsX2_settle wsX2_isUnfair := goodIn_r _ [11, 1, 12, 13, 14, 5, 15, 16, 17, 18, 19, 20, 21, 22, 23, 24, 25, 26, 27, 28, 59, 60, 61, 62] (by decide +kernel) (by decide +kernel)
set_option maxRecDepth 20000 in
theorem gX2_settle_X2_isUnfair : GoodIn wsX2_settle (wsV RX2 85 RX2 yX2_isUnfair wsX2_isUnfair) := goodIn_app (goodIn_of _ (by decide +kernel)) ggX2_settle_X2_isUnfair
set_option maxRecDepth 20000 in
theorem ggX2_settle_X2_flip : GoodIn wsX2_settle wsX2_flip := goodIn_r _ [32, 33, 34, 35, 36, 37, 38, 39, 40, 12, 13, 14, 5, 15, 16, 17, 18, 19, 20, 21, 22, 23, 41, 42, 43, 44, 45, 46, 47, 48, 49, 50, 51, 52, 53, 54, 55, 56, 57, 58, 59, 60, 61, 62] (by decide +kernel) (by decide +kernel)
set_option maxRecDepth 20000 in
theorem gX2_settle_X2_flip : GoodIn wsX2_settle (wsV RX2 88 RX2 yX2_flip wsX2_flip) := goodIn_app (goodIn_of _ (by decide +kernel)) ggX2_settle_X2_flip
theorem dX2_settle_0 : decode cX2_settle 0 = .ok (.iconst 0, 1) := by decide +kernel
theorem dX2_settle_1 : decode cX2_settle 1 = .ok (.istore_n 1, 1) := by decide +kernel
theorem dX2_settle_2 : decode cX2_settle 2 = .ok (.iconst 0, 1) := by decide +kernel
theorem dX2_settle_3 : decode cX2_settle 3 = .ok (.istore_n 2, 1) := by decide +kernel
theorem dX2_settle_4 : decode cX2_settle 4 = .ok (.iload_n 2, 1) := by decide +kernel
theorem dX2_settle_5 : decode cX2_settle 5 = .ok (.aload_n 0, 1) := by decide +kernel
theorem dX2_settle_6 : decode cX2_settle 6 = .ok (.getfield 9, 3) := by decide +kernel
theorem dX2_settle_9 : decode cX2_settle 9 = .ok (.arraylength, 1) := by decide +kernel
theorem dX2_settle_10 : decode cX2_settle 10 = .ok (.if_icmp .ge 64, 3) := by decide +kernel
theorem dX2_settle_13 : decode cX2_settle 13 = .ok (.iload_n 2, 1) := by decide +kernel
theorem dX2_settle_14 : decode cX2_settle 14 = .ok (.iconst 1, 1) := by decide +kernel
theorem dX2_settle_15 : decode cX2_settle 15 = .ok (.iadd, 1) := by decide +kernel
theorem dX2_settle_16 : decode cX2_settle 16 = .ok (.istore_n 3, 1) := by decide +kernel
theorem dX2_settle_17 : decode cX2_settle 17 = .ok (.iload_n 3, 1) := by decide +kernel
theorem dX2_settle_18 : decode cX2_settle 18 = .ok (.aload_n 0, 1) := by decide +kernel
theorem dX2_settle_19 : decode cX2_settle 19 = .ok (.getfield 9, 3) := by decide +kernel
theorem dX2_settle_22 : decode cX2_settle 22 = .ok (.arraylength, 1) := by decide +kernel
theorem dX2_settle_23 : decode cX2_settle 23 = .ok (.if_icmp .ge 45, 3) := by decide +kernel
theorem dX2_settle_26 : decode cX2_settle 26 = .ok (.aload_n 0, 1) := by decide +kernel
theorem dX2_settle_27 : decode cX2_settle 27 = .ok (.iload_n 2, 1) := by decide +kernel
theorem dX2_settle_28 : decode cX2_settle 28 = .ok (.iload_n 3, 1) := by decide +kernel
theorem dX2_settle_29 : decode cX2_settle 29 = .ok (.invokevirtual 62, 3) := by decide +kernel
theorem dX2_settle_32 : decode cX2_settle 32 = .ok (.ifCond .ne 30, 3) := by decide +kernel
theorem dX2_settle_35 : decode cX2_settle 35 = .ok (.aload_n 0, 1) := by decide +kernel
theorem dX2_settle_36 : decode cX2_settle 36 = .ok (.iload_n 2, 1) := by decide +kernel
theorem dX2_settle_37 : decode cX2_settle 37 = .ok (.iload_n 3, 1) := by decide +kernel
theorem dX2_settle_38 : decode cX2_settle 38 = .ok (.invokevirtual 85, 3) := by decide +kernel
theorem dX2_settle_41 : decode cX2_settle 41 = .ok (.ifCond .ne 6, 3) := by decide +kernel
theorem dX2_settle_44 : decode cX2_settle 44 = .ok (.goto 18, 3) := by decide +kernel
theorem dX2_settle_47 : decode cX2_settle 47 = .ok (.aload_n 0, 1) := by decide +kernel
theorem dX2_settle_48 : decode cX2_settle 48 = .ok (.iload_n 2, 1) := by decide +kernel
theorem dX2_settle_49 : decode cX2_settle 49 = .ok (.iload_n 3, 1) := by decide +kernel
theorem dX2_settle_50 : decode cX2_settle 50 = .ok (.invokevirtual 88, 3) := by decide +kernel
theorem dX2_settle_53 : decode cX2_settle 53 = .ok (.pop, 1) := by decide +kernel
theorem dX2_settle_54 : decode cX2_settle 54 = .ok (.iinc 1 1, 3) := by decide +kernel
theorem dX2_settle_57 : decode cX2_settle 57 = .ok (.iconst (-1), 1) := by decide +kernel
theorem dX2_settle_58 : decode cX2_settle 58 = .ok (.istore_n 2, 1) := by decide +kernel
theorem dX2_settle_59 : decode cX2_settle 59 = .ok (.goto 9, 3) := by decide +kernel
theorem dX2_settle_62 : decode cX2_settle 62 = .ok (.iinc 3 1, 3) := by decide +kernel
theorem dX2_settle_65 : decode cX2_settle 65 = .ok (.goto (-48), 3) := by decide +kernel
theorem dX2_settle_68 : decode cX2_settle 68 = .ok (.iinc 2 1, 3) := by decide +kernel
theorem dX2_settle_71 : decode cX2_settle 71 = .ok (.goto (-67), 3) := by decide +kernel
theorem dX2_settle_74 : decode cX2_settle 74 = .ok (.iload_n 1, 1) := by decide +kernel
theorem dX2_settle_75 : decode cX2_settle 75 = .ok (.ireturn, 1) := by decide +kernel
set_option maxRecDepth 20000 in
theorem ggX2_side_X2_cross : GoodIn wsX2_side wsX2_cross := goodIn_r _ [7] (by decide +kernel) (by decide +kernel)
set_option maxRecDepth 20000 in
theorem gX2_side_X2_cross : GoodIn wsX2_side (wsV RX2 38 RX2 yX2_cross wsX2_cross) := goodIn_app (goodIn_of _ (by decide +kernel)) ggX2_side_X2_cross
theorem dX2_side_0 : decode cX2_side 0 = .ok (.iconst 2, 1) := by decide +kernel
theorem dX2_side_1 : decode cX2_side 1 = .ok (.newarray .int, 2) := by decide +kernel
theorem dX2_side_3 : decode cX2_side 3 = .ok (.dup, 1) := by decide +kernel
theorem dX2_side_4 : decode cX2_side 4 = .ok (.iconst 0, 1) := by decide +kernel
theorem dX2_side_5 : decode cX2_side 5 = .ok (.iload_n 2, 1) := by decide +kernel
theorem dX2_side_6 : decode cX2_side 6 = .ok (.iastore, 1) := by decide +kernel
theorem dX2_side_7 : decode cX2_side 7 = .ok (.dup, 1) := by decide +kernel
theorem dX2_side_8 : decode cX2_side 8 = .ok (.iconst 1, 1) := by decide +kernel
theorem dX2_side_9 : decode cX2_side 9 = .ok (.iload_n 3, 1) := by decide +kernel
theorem dX2_side_10 : decode cX2_side 10 = .ok (.iastore, 1) := by decide +kernel
theorem dX2_side_11 : decode cX2_side 11 = .ok (.astore 4, 2) := by decide +kernel
theorem dX2_side_13 : decode cX2_side 13 = .ok (.iconst 3, 1) := by decide +kernel
theorem dX2_side_14 : decode cX2_side 14 = .ok (.istore 5, 2) := by decide +kernel
theorem dX2_side_16 : decode cX2_side 16 = .ok (.aload_n 0, 1) := by decide +kernel
theorem dX2_side_17 : decode cX2_side 17 = .ok (.aload_n 0, 1) := by decide +kernel
theorem dX2_side_18 : decode cX2_side 18 = .ok (.getfield 9, 3) := by decide +kernel
theorem dX2_side_21 : decode cX2_side 21 = .ok (.aload_n 1, 1) := by decide +kernel
theorem dX2_side_22 : decode cX2_side 22 = .ok (.iconst 0, 1) := by decide +kernel
theorem dX2_side_23 : decode cX2_side 23 = .ok (.iaload, 1) := by decide +kernel
theorem dX2_side_24 : decode cX2_side 24 = .ok (.aaload, 1) := by decide +kernel
theorem dX2_side_25 : decode cX2_side 25 = .ok (.aload_n 0, 1) := by decide +kernel
theorem dX2_side_26 : decode cX2_side 26 = .ok (.getfield 9, 3) := by decide +kernel
theorem dX2_side_29 : decode cX2_side 29 = .ok (.aload_n 1, 1) := by decide +kernel
theorem dX2_side_30 : decode cX2_side 30 = .ok (.iconst 1, 1) := by decide +kernel
theorem dX2_side_31 : decode cX2_side 31 = .ok (.iaload, 1) := by decide +kernel
theorem dX2_side_32 : decode cX2_side 32 = .ok (.aaload, 1) := by decide +kernel
theorem dX2_side_33 : decode cX2_side 33 = .ok (.aload_n 0, 1) := by decide +kernel
theorem dX2_side_34 : decode cX2_side 34 = .ok (.getfield 9, 3) := by decide +kernel
theorem dX2_side_37 : decode cX2_side 37 = .ok (.aload_n 1, 1) := by decide +kernel
theorem dX2_side_38 : decode cX2_side 38 = .ok (.iconst 2, 1) := by decide +kernel
theorem dX2_side_39 : decode cX2_side 39 = .ok (.iaload, 1) := by decide +kernel
theorem dX2_side_40 : decode cX2_side 40 = .ok (.aaload, 1) := by decide +kernel
theorem dX2_side_41 : decode cX2_side 41 = .ok (.invokevirtual 38, 3) := by decide +kernel
theorem dX2_side_44 : decode cX2_side 44 = .ok (.ifCond .le 7, 3) := by decide +kernel
theorem dX2_side_47 : decode cX2_side 47 = .ok (.iconst 1, 1) := by decide +kernel
theorem dX2_side_48 : decode cX2_side 48 = .ok (.goto 4, 3) := by decide +kernel
theorem dX2_side_51 : decode cX2_side 51 = .ok (.iconst 0, 1) := by decide +kernel
theorem dX2_side_52 : decode cX2_side 52 = .ok (.istore 6, 2) := by decide +kernel
theorem dX2_side_54 : decode cX2_side 54 = .ok (.iconst 0, 1) := by decide +kernel
theorem dX2_side_55 : decode cX2_side 55 = .ok (.istore 7, 2) := by decide +kernel
theorem dX2_side_57 : decode cX2_side 57 = .ok (.iload 7, 2) := by decide +kernel
theorem dX2_side_59 : decode cX2_side 59 = .ok (.iconst 3, 1) := by decide +kernel
theorem dX2_side_60 : decode cX2_side 60 = .ok (.if_icmp .ge 68, 3) := by decide +kernel
theorem dX2_side_63 : decode cX2_side 63 = .ok (.aload_n 0, 1) := by decide +kernel
theorem dX2_side_64 : decode cX2_side 64 = .ok (.aload_n 0, 1) := by decide +kernel
theorem dX2_side_65 : decode cX2_side 65 = .ok (.getfield 9, 3) := by decide +kernel
theorem dX2_side_68 : decode cX2_side 68 = .ok (.aload_n 1, 1) := by decide +kernel
theorem dX2_side_69 : decode cX2_side 69 = .ok (.iload 7, 2) := by decide +kernel
theorem dX2_side_71 : decode cX2_side 71 = .ok (.iaload, 1) := by decide +kernel
theorem dX2_side_72 : decode cX2_side 72 = .ok (.aaload, 1) := by decide +kernel
theorem dX2_side_73 : decode cX2_side 73 = .ok (.aload_n 0, 1) := by decide +kernel
theorem dX2_side_74 : decode cX2_side 74 = .ok (.getfield 9, 3) := by decide +kernel
theorem dX2_side_77 : decode cX2_side 77 = .ok (.aload_n 1, 1) := by decide +kernel
theorem dX2_side_78 : decode cX2_side 78 = .ok (.iload 7, 2) := by decide +kernel
theorem dX2_side_80 : decode cX2_side 80 = .ok (.iconst 1, 1) := by decide +kernel
theorem dX2_side_81 : decode cX2_side 81 = .ok (.iadd, 1) := by decide +kernel
theorem dX2_side_82 : decode cX2_side 82 = .ok (.iconst 3, 1) := by decide +kernel
theorem dX2_side_83 : decode cX2_side 83 = .ok (.irem, 1) := by decide +kernel
theorem dX2_side_84 : decode cX2_side 84 = .ok (.iaload, 1) := by decide +kernel
theorem dX2_side_85 : decode cX2_side 85 = .ok (.aaload, 1) := by decide +kernel
theorem dX2_side_86 : decode cX2_side 86 = .ok (.aload 4, 2) := by decide +kernel
theorem dX2_side_88 : decode cX2_side 88 = .ok (.invokevirtual 38, 3) := by decide +kernel
theorem dX2_side_91 : decode cX2_side 91 = .ok (.istore 8, 2) := by decide +kernel
theorem dX2_side_93 : decode cX2_side 93 = .ok (.iload 6, 2) := by decide +kernel
theorem dX2_side_95 : decode cX2_side 95 = .ok (.ifCond .eq 11, 3) := by decide +kernel
theorem dX2_side_98 : decode cX2_side 98 = .ok (.iload 8, 2) := by decide +kernel
theorem dX2_side_100 : decode cX2_side 100 = .ok (.ifCond .ge 13, 3) := by decide +kernel
theorem dX2_side_103 : decode cX2_side 103 = .ok (.goto 8, 3) := by decide +kernel
theorem dX2_side_106 : decode cX2_side 106 = .ok (.iload 8, 2) := by decide +kernel
theorem dX2_side_108 : decode cX2_side 108 = .ok (.ifCond .le 5, 3) := by decide +kernel
theorem dX2_side_111 : decode cX2_side 111 = .ok (.iconst (-1), 1) := by decide +kernel
theorem dX2_side_112 : decode cX2_side 112 = .ok (.ireturn, 1) := by decide +kernel
theorem dX2_side_113 : decode cX2_side 113 = .ok (.iload 8, 2) := by decide +kernel
theorem dX2_side_115 : decode cX2_side 115 = .ok (.ifCond .ne 7, 3) := by decide +kernel
theorem dX2_side_118 : decode cX2_side 118 = .ok (.iload 7, 2) := by decide +kernel
theorem dX2_side_120 : decode cX2_side 120 = .ok (.istore 5, 2) := by decide +kernel
theorem dX2_side_122 : decode cX2_side 122 = .ok (.iinc 7 1, 3) := by decide +kernel
theorem dX2_side_125 : decode cX2_side 125 = .ok (.goto (-68), 3) := by decide +kernel
theorem dX2_side_128 : decode cX2_side 128 = .ok (.iload 5, 2) := by decide +kernel
theorem dX2_side_130 : decode cX2_side 130 = .ok (.ireturn, 1) := by decide +kernel
set_option maxRecDepth 20000 in
theorem ggX2_build_X2_more : GoodIn wsX2_build wsX2_more := goodIn_r _ [8, 9] (by decide +kernel) (by decide +kernel)
set_option maxRecDepth 20000 in
theorem gX2_build_X2_more : GoodIn wsX2_build (va_wsS RX2 30 yX2_more wsX2_more) := goodIn_app (goodIn_of _ (by decide +kernel)) ggX2_build_X2_more
set_option maxRecDepth 20000 in
theorem ggX2_build_X2_side : GoodIn wsX2_build wsX2_side := goodIn_r _ [13, 2, 1, 14, 15, 16, 7, 17, 35, 36, 37, 38] (by decide +kernel) (by decide +kernel)
set_option maxRecDepth 20000 in
theorem gX2_build_X2_side : GoodIn wsX2_build (wsV RX2 91 RX2 yX2_side wsX2_side) := goodIn_app (goodIn_of _ (by decide +kernel)) ggX2_build_X2_side
set_option maxRecDepth 20000 in
theorem ggX2_build_X2_takeOut : GoodIn wsX2_build wsX2_takeOut := goodIn_r _ [21, 3, 22, 23, 7, 24, 25, 26, 27, 9, 35, 36, 37, 38] (by decide +kernel) (by decide +kernel)
set_option maxRecDepth 20000 in
theorem gX2_build_X2_takeOut : GoodIn wsX2_build (wsV RX2 70 RX2 yX2_takeOut wsX2_takeOut) := goodIn_app (goodIn_of _ (by decide +kernel)) ggX2_build_X2_takeOut
set_option maxRecDepth 20000 in
theorem ggX2_build_X2_put : GoodIn wsX2_build wsX2_put := goodIn_r _ [31, 3, 32, 33, 7, 34, 2, 5, 6, 8, 9, 22, 23, 24, 35, 36, 37, 38] (by decide +kernel) (by decide +kernel)
set_option maxRecDepth 20000 in
theorem gX2_build_X2_put : GoodIn wsX2_build (wsV RX2 74 RX2 yX2_put wsX2_put) := goodIn_app (goodIn_of _ (by decide +kernel)) ggX2_build_X2_put
set_option maxRecDepth 20000 in
theorem ggX2_build_X2_less : GoodIn wsX2_build wsX2_less := goodIn_r _ [27, 9] (by decide +kernel) (by decide +kernel)
set_option maxRecDepth 20000 in
theorem gX2_build_X2_less : GoodIn wsX2_build (va_wsS RX2 66 yX2_less wsX2_less) := goodIn_app (goodIn_of _ (by decide +kernel)) ggX2_build_X2_less
theorem dX2_build_0 : decode cX2_build 0 = .ok (.aload_n 0, 1) := by decide +kernel
theorem dX2_build_1 : decode cX2_build 1 = .ok (.getfield 9, 3) := by decide +kernel
theorem dX2_build_4 : decode cX2_build 4 = .ok (.arraylength, 1) := by decide +kernel
theorem dX2_build_5 : decode cX2_build 5 = .ok (.istore 4, 2) := by decide +kernel
theorem dX2_build_7 : decode cX2_build 7 = .ok (.aload_n 0, 1) := by decide +kernel
theorem dX2_build_8 : decode cX2_build 8 = .ok (.aload_n 0, 1) := by decide +kernel
theorem dX2_build_9 : decode cX2_build 9 = .ok (.getfield 9, 3) := by decide +kernel
theorem dX2_build_12 : decode cX2_build 12 = .ok (.iconst 3, 1) := by decide +kernel
theorem dX2_build_13 : decode cX2_build 13 = .ok (.newarray .int, 2) := by decide +kernel
theorem dX2_build_15 : decode cX2_build 15 = .ok (.dup, 1) := by decide +kernel
theorem dX2_build_16 : decode cX2_build 16 = .ok (.iconst 0, 1) := by decide +kernel
theorem dX2_build_17 : decode cX2_build 17 = .ok (.iload_n 1, 1) := by decide +kernel
theorem dX2_build_18 : decode cX2_build 18 = .ok (.iastore, 1) := by decide +kernel
theorem dX2_build_19 : decode cX2_build 19 = .ok (.dup, 1) := by decide +kernel
theorem dX2_build_20 : decode cX2_build 20 = .ok (.iconst 1, 1) := by decide +kernel
theorem dX2_build_21 : decode cX2_build 21 = .ok (.iload_n 2, 1) := by decide +kernel
theorem dX2_build_22 : decode cX2_build 22 = .ok (.iastore, 1) := by decide +kernel
theorem dX2_build_23 : decode cX2_build 23 = .ok (.dup, 1) := by decide +kernel
theorem dX2_build_24 : decode cX2_build 24 = .ok (.iconst 2, 1) := by decide +kernel
theorem dX2_build_25 : decode cX2_build 25 = .ok (.iload_n 3, 1) := by decide +kernel
theorem dX2_build_26 : decode cX2_build 26 = .ok (.iastore, 1) := by decide +kernel
theorem dX2_build_27 : decode cX2_build 27 = .ok (.invokestatic 30, 3) := by decide +kernel
theorem dX2_build_30 : decode cX2_build 30 = .ok (.putfield 9, 3) := by decide +kernel
theorem dX2_build_33 : decode cX2_build 33 = .ok (.aload_n 0, 1) := by decide +kernel
theorem dX2_build_34 : decode cX2_build 34 = .ok (.getfield 15, 3) := by decide +kernel
theorem dX2_build_37 : decode cX2_build 37 = .ok (.astore 5, 2) := by decide +kernel
theorem dX2_build_39 : decode cX2_build 39 = .ok (.aload 5, 2) := by decide +kernel
theorem dX2_build_41 : decode cX2_build 41 = .ok (.astore 6, 2) := by decide +kernel
theorem dX2_build_43 : decode cX2_build 43 = .ok (.aload 6, 2) := by decide +kernel
theorem dX2_build_45 : decode cX2_build 45 = .ok (.arraylength, 1) := by decide +kernel
theorem dX2_build_46 : decode cX2_build 46 = .ok (.istore 7, 2) := by decide +kernel
theorem dX2_build_48 : decode cX2_build 48 = .ok (.iconst 0, 1) := by decide +kernel
theorem dX2_build_49 : decode cX2_build 49 = .ok (.istore 8, 2) := by decide +kernel
theorem dX2_build_51 : decode cX2_build 51 = .ok (.iload 8, 2) := by decide +kernel
theorem dX2_build_53 : decode cX2_build 53 = .ok (.iload 7, 2) := by decide +kernel
theorem dX2_build_55 : decode cX2_build 55 = .ok (.if_icmp .ge 227, 3) := by decide +kernel
theorem dX2_build_58 : decode cX2_build 58 = .ok (.aload 6, 2) := by decide +kernel
theorem dX2_build_60 : decode cX2_build 60 = .ok (.iload 8, 2) := by decide +kernel
theorem dX2_build_62 : decode cX2_build 62 = .ok (.aaload, 1) := by decide +kernel
theorem dX2_build_63 : decode cX2_build 63 = .ok (.astore 9, 2) := by decide +kernel
theorem dX2_build_65 : decode cX2_build 65 = .ok (.aload_n 0, 1) := by decide +kernel
theorem dX2_build_66 : decode cX2_build 66 = .ok (.aload 9, 2) := by decide +kernel
theorem dX2_build_68 : decode cX2_build 68 = .ok (.iload_n 1, 1) := by decide +kernel
theorem dX2_build_69 : decode cX2_build 69 = .ok (.iload_n 2, 1) := by decide +kernel
theorem dX2_build_70 : decode cX2_build 70 = .ok (.invokevirtual 91, 3) := by decide +kernel
theorem dX2_build_73 : decode cX2_build 73 = .ok (.istore 10, 2) := by decide +kernel
theorem dX2_build_75 : decode cX2_build 75 = .ok (.iload 10, 2) := by decide +kernel
theorem dX2_build_77 : decode cX2_build 77 = .ok (.ifCond .ge 6, 3) := by decide +kernel
theorem dX2_build_80 : decode cX2_build 80 = .ok (.goto 196, 3) := by decide +kernel
theorem dX2_build_83 : decode cX2_build 83 = .ok (.aload_n 0, 1) := by decide +kernel
theorem dX2_build_84 : decode cX2_build 84 = .ok (.aload 9, 2) := by decide +kernel
theorem dX2_build_86 : decode cX2_build 86 = .ok (.invokevirtual 70, 3) := by decide +kernel
theorem dX2_build_89 : decode cX2_build 89 = .ok (.iconst 0, 1) := by decide +kernel
theorem dX2_build_90 : decode cX2_build 90 = .ok (.istore 11, 2) := by decide +kernel
theorem dX2_build_92 : decode cX2_build 92 = .ok (.iload 11, 2) := by decide +kernel
theorem dX2_build_94 : decode cX2_build 94 = .ok (.iconst 3, 1) := by decide +kernel
theorem dX2_build_95 : decode cX2_build 95 = .ok (.if_icmp .ge 181, 3) := by decide +kernel
theorem dX2_build_98 : decode cX2_build 98 = .ok (.aload 9, 2) := by decide +kernel
theorem dX2_build_100 : decode cX2_build 100 = .ok (.iload 11, 2) := by decide +kernel
theorem dX2_build_102 : decode cX2_build 102 = .ok (.iaload, 1) := by decide +kernel
theorem dX2_build_103 : decode cX2_build 103 = .ok (.istore 12, 2) := by decide +kernel
theorem dX2_build_105 : decode cX2_build 105 = .ok (.aload 9, 2) := by decide +kernel
theorem dX2_build_107 : decode cX2_build 107 = .ok (.iload 11, 2) := by decide +kernel
theorem dX2_build_109 : decode cX2_build 109 = .ok (.iconst 1, 1) := by decide +kernel
theorem dX2_build_110 : decode cX2_build 110 = .ok (.iadd, 1) := by decide +kernel
theorem dX2_build_111 : decode cX2_build 111 = .ok (.iconst 3, 1) := by decide +kernel
theorem dX2_build_112 : decode cX2_build 112 = .ok (.irem, 1) := by decide +kernel
theorem dX2_build_113 : decode cX2_build 113 = .ok (.iaload, 1) := by decide +kernel
theorem dX2_build_114 : decode cX2_build 114 = .ok (.istore 13, 2) := by decide +kernel
theorem dX2_build_116 : decode cX2_build 116 = .ok (.iload 11, 2) := by decide +kernel
theorem dX2_build_118 : decode cX2_build 118 = .ok (.iload 10, 2) := by decide +kernel
theorem dX2_build_120 : decode cX2_build 120 = .ok (.if_icmp .eq 16, 3) := by decide +kernel
theorem dX2_build_123 : decode cX2_build 123 = .ok (.aload_n 0, 1) := by decide +kernel
theorem dX2_build_124 : decode cX2_build 124 = .ok (.iload 12, 2) := by decide +kernel
theorem dX2_build_126 : decode cX2_build 126 = .ok (.iload 13, 2) := by decide +kernel
theorem dX2_build_128 : decode cX2_build 128 = .ok (.iload 4, 2) := by decide +kernel
theorem dX2_build_130 : decode cX2_build 130 = .ok (.invokevirtual 74, 3) := by decide +kernel
theorem dX2_build_133 : decode cX2_build 133 = .ok (.goto 137, 3) := by decide +kernel
theorem dX2_build_136 : decode cX2_build 136 = .ok (.iconst 0, 1) := by decide +kernel
theorem dX2_build_137 : decode cX2_build 137 = .ok (.istore 14, 2) := by decide +kernel
theorem dX2_build_139 : decode cX2_build 139 = .ok (.iload 14, 2) := by decide +kernel
theorem dX2_build_141 : decode cX2_build 141 = .ok (.aload_n 0, 1) := by decide +kernel
theorem dX2_build_142 : decode cX2_build 142 = .ok (.getfield 18, 3) := by decide +kernel
theorem dX2_build_145 : decode cX2_build 145 = .ok (.arraylength, 1) := by decide +kernel
theorem dX2_build_146 : decode cX2_build 146 = .ok (.if_icmp .ge 124, 3) := by decide +kernel
theorem dX2_build_149 : decode cX2_build 149 = .ok (.aload_n 0, 1) := by decide +kernel
theorem dX2_build_150 : decode cX2_build 150 = .ok (.getfield 18, 3) := by decide +kernel
theorem dX2_build_153 : decode cX2_build 153 = .ok (.iload 14, 2) := by decide +kernel
theorem dX2_build_155 : decode cX2_build 155 = .ok (.aaload, 1) := by decide +kernel
theorem dX2_build_156 : decode cX2_build 156 = .ok (.iconst 0, 1) := by decide +kernel
theorem dX2_build_157 : decode cX2_build 157 = .ok (.iaload, 1) := by decide +kernel
theorem dX2_build_158 : decode cX2_build 158 = .ok (.iload 12, 2) := by decide +kernel
theorem dX2_build_160 : decode cX2_build 160 = .ok (.if_icmp .ne 17, 3) := by decide +kernel
theorem dX2_build_163 : decode cX2_build 163 = .ok (.aload_n 0, 1) := by decide +kernel
theorem dX2_build_164 : decode cX2_build 164 = .ok (.getfield 18, 3) := by decide +kernel
theorem dX2_build_167 : decode cX2_build 167 = .ok (.iload 14, 2) := by decide +kernel
theorem dX2_build_169 : decode cX2_build 169 = .ok (.aaload, 1) := by decide +kernel
theorem dX2_build_170 : decode cX2_build 170 = .ok (.iconst 1, 1) := by decide +kernel
theorem dX2_build_171 : decode cX2_build 171 = .ok (.iaload, 1) := by decide +kernel
theorem dX2_build_172 : decode cX2_build 172 = .ok (.iload 13, 2) := by decide +kernel
theorem dX2_build_174 : decode cX2_build 174 = .ok (.if_icmp .eq 34, 3) := by decide +kernel
theorem dX2_build_177 : decode cX2_build 177 = .ok (.aload_n 0, 1) := by decide +kernel
theorem dX2_build_178 : decode cX2_build 178 = .ok (.getfield 18, 3) := by decide +kernel
theorem dX2_build_181 : decode cX2_build 181 = .ok (.iload 14, 2) := by decide +kernel
theorem dX2_build_183 : decode cX2_build 183 = .ok (.aaload, 1) := by decide +kernel
theorem dX2_build_184 : decode cX2_build 184 = .ok (.iconst 0, 1) := by decide +kernel
theorem dX2_build_185 : decode cX2_build 185 = .ok (.iaload, 1) := by decide +kernel
theorem dX2_build_186 : decode cX2_build 186 = .ok (.iload 13, 2) := by decide +kernel
theorem dX2_build_188 : decode cX2_build 188 = .ok (.if_icmp .ne 76, 3) := by decide +kernel
theorem dX2_build_191 : decode cX2_build 191 = .ok (.aload_n 0, 1) := by decide +kernel
theorem dX2_build_192 : decode cX2_build 192 = .ok (.getfield 18, 3) := by decide +kernel
theorem dX2_build_195 : decode cX2_build 195 = .ok (.iload 14, 2) := by decide +kernel
theorem dX2_build_197 : decode cX2_build 197 = .ok (.aaload, 1) := by decide +kernel
theorem dX2_build_198 : decode cX2_build 198 = .ok (.iconst 1, 1) := by decide +kernel
theorem dX2_build_199 : decode cX2_build 199 = .ok (.iaload, 1) := by decide +kernel
theorem dX2_build_200 : decode cX2_build 200 = .ok (.iload 12, 2) := by decide +kernel
theorem dX2_build_202 : decode cX2_build 202 = .ok (.if_icmp .eq 6, 3) := by decide +kernel
theorem dX2_build_205 : decode cX2_build 205 = .ok (.goto 59, 3) := by decide +kernel
theorem dX2_build_208 : decode cX2_build 208 = .ok (.aload_n 0, 1) := by decide +kernel
theorem dX2_build_209 : decode cX2_build 209 = .ok (.aload_n 0, 1) := by decide +kernel
theorem dX2_build_210 : decode cX2_build 210 = .ok (.getfield 18, 3) := by decide +kernel
theorem dX2_build_213 : decode cX2_build 213 = .ok (.iload 14, 2) := by decide +kernel
theorem dX2_build_215 : decode cX2_build 215 = .ok (.invokestatic 66, 3) := by decide +kernel
theorem dX2_build_218 : decode cX2_build 218 = .ok (.putfield 18, 3) := by decide +kernel
theorem dX2_build_221 : decode cX2_build 221 = .ok (.aload_n 0, 1) := by decide +kernel
theorem dX2_build_222 : decode cX2_build 222 = .ok (.aload_n 0, 1) := by decide +kernel
theorem dX2_build_223 : decode cX2_build 223 = .ok (.getfield 18, 3) := by decide +kernel
theorem dX2_build_226 : decode cX2_build 226 = .ok (.iconst 2, 1) := by decide +kernel
theorem dX2_build_227 : decode cX2_build 227 = .ok (.newarray .int, 2) := by decide +kernel
theorem dX2_build_229 : decode cX2_build 229 = .ok (.dup, 1) := by decide +kernel
theorem dX2_build_230 : decode cX2_build 230 = .ok (.iconst 0, 1) := by decide +kernel
theorem dX2_build_231 : decode cX2_build 231 = .ok (.iload 12, 2) := by decide +kernel
theorem dX2_build_233 : decode cX2_build 233 = .ok (.iastore, 1) := by decide +kernel
theorem dX2_build_234 : decode cX2_build 234 = .ok (.dup, 1) := by decide +kernel
theorem dX2_build_235 : decode cX2_build 235 = .ok (.iconst 1, 1) := by decide +kernel
theorem dX2_build_236 : decode cX2_build 236 = .ok (.iload 4, 2) := by decide +kernel
theorem dX2_build_238 : decode cX2_build 238 = .ok (.iastore, 1) := by decide +kernel
theorem dX2_build_239 : decode cX2_build 239 = .ok (.invokestatic 30, 3) := by decide +kernel
theorem dX2_build_242 : decode cX2_build 242 = .ok (.iconst 2, 1) := by decide +kernel
theorem dX2_build_243 : decode cX2_build 243 = .ok (.newarray .int, 2) := by decide +kernel
theorem dX2_build_245 : decode cX2_build 245 = .ok (.dup, 1) := by decide +kernel
theorem dX2_build_246 : decode cX2_build 246 = .ok (.iconst 0, 1) := by decide +kernel
theorem dX2_build_247 : decode cX2_build 247 = .ok (.iload 13, 2) := by decide +kernel
theorem dX2_build_249 : decode cX2_build 249 = .ok (.iastore, 1) := by decide +kernel
theorem dX2_build_250 : decode cX2_build 250 = .ok (.dup, 1) := by decide +kernel
theorem dX2_build_251 : decode cX2_build 251 = .ok (.iconst 1, 1) := by decide +kernel
theorem dX2_build_252 : decode cX2_build 252 = .ok (.iload 4, 2) := by decide +kernel
theorem dX2_build_254 : decode cX2_build 254 = .ok (.iastore, 1) := by decide +kernel
theorem dX2_build_255 : decode cX2_build 255 = .ok (.invokestatic 30, 3) := by decide +kernel
theorem dX2_build_258 : decode cX2_build 258 = .ok (.putfield 18, 3) := by decide +kernel
theorem dX2_build_261 : decode cX2_build 261 = .ok (.goto 9, 3) := by decide +kernel
theorem dX2_build_264 : decode cX2_build 264 = .ok (.iinc 14 1, 3) := by decide +kernel
theorem dX2_build_267 : decode cX2_build 267 = .ok (.goto (-128), 3) := by decide +kernel
theorem dX2_build_270 : decode cX2_build 270 = .ok (.iinc 11 1, 3) := by decide +kernel
theorem dX2_build_273 : decode cX2_build 273 = .ok (.goto (-181), 3) := by decide +kernel
theorem dX2_build_276 : decode cX2_build 276 = .ok (.iinc 8 1, 3) := by decide +kernel
theorem dX2_build_279 : decode cX2_build 279 = .ok (.goto (-228), 3) := by decide +kernel
theorem dX2_build_282 : decode cX2_build 282 = .ok (.return_, 1) := by decide +kernel
theorem dX2_cairnAt_0 : decode cX2_cairnAt 0 = .ok (.iconst 0, 1) := by decide +kernel
theorem dX2_cairnAt_1 : decode cX2_cairnAt 1 = .ok (.istore_n 3, 1) := by decide +kernel
theorem dX2_cairnAt_2 : decode cX2_cairnAt 2 = .ok (.iload_n 3, 1) := by decide +kernel
theorem dX2_cairnAt_3 : decode cX2_cairnAt 3 = .ok (.aload_n 0, 1) := by decide +kernel
theorem dX2_cairnAt_4 : decode cX2_cairnAt 4 = .ok (.getfield 9, 3) := by decide +kernel
theorem dX2_cairnAt_7 : decode cX2_cairnAt 7 = .ok (.arraylength, 1) := by decide +kernel
theorem dX2_cairnAt_8 : decode cX2_cairnAt 8 = .ok (.if_icmp .ge 35, 3) := by decide +kernel
theorem dX2_cairnAt_11 : decode cX2_cairnAt 11 = .ok (.aload_n 0, 1) := by decide +kernel
theorem dX2_cairnAt_12 : decode cX2_cairnAt 12 = .ok (.getfield 9, 3) := by decide +kernel
theorem dX2_cairnAt_15 : decode cX2_cairnAt 15 = .ok (.iload_n 3, 1) := by decide +kernel
theorem dX2_cairnAt_16 : decode cX2_cairnAt 16 = .ok (.aaload, 1) := by decide +kernel
theorem dX2_cairnAt_17 : decode cX2_cairnAt 17 = .ok (.iconst 0, 1) := by decide +kernel
theorem dX2_cairnAt_18 : decode cX2_cairnAt 18 = .ok (.iaload, 1) := by decide +kernel
theorem dX2_cairnAt_19 : decode cX2_cairnAt 19 = .ok (.iload_n 1, 1) := by decide +kernel
theorem dX2_cairnAt_20 : decode cX2_cairnAt 20 = .ok (.if_icmp .ne 17, 3) := by decide +kernel
theorem dX2_cairnAt_23 : decode cX2_cairnAt 23 = .ok (.aload_n 0, 1) := by decide +kernel
theorem dX2_cairnAt_24 : decode cX2_cairnAt 24 = .ok (.getfield 9, 3) := by decide +kernel
theorem dX2_cairnAt_27 : decode cX2_cairnAt 27 = .ok (.iload_n 3, 1) := by decide +kernel
theorem dX2_cairnAt_28 : decode cX2_cairnAt 28 = .ok (.aaload, 1) := by decide +kernel
theorem dX2_cairnAt_29 : decode cX2_cairnAt 29 = .ok (.iconst 1, 1) := by decide +kernel
theorem dX2_cairnAt_30 : decode cX2_cairnAt 30 = .ok (.iaload, 1) := by decide +kernel
theorem dX2_cairnAt_31 : decode cX2_cairnAt 31 = .ok (.iload_n 2, 1) := by decide +kernel
theorem dX2_cairnAt_32 : decode cX2_cairnAt 32 = .ok (.if_icmp .ne 5, 3) := by decide +kernel
theorem dX2_cairnAt_35 : decode cX2_cairnAt 35 = .ok (.iload_n 3, 1) := by decide +kernel
theorem dX2_cairnAt_36 : decode cX2_cairnAt 36 = .ok (.ireturn, 1) := by decide +kernel
theorem dX2_cairnAt_37 : decode cX2_cairnAt 37 = .ok (.iinc 3 1, 3) := by decide +kernel
theorem dX2_cairnAt_40 : decode cX2_cairnAt 40 = .ok (.goto (-38), 3) := by decide +kernel
theorem dX2_cairnAt_43 : decode cX2_cairnAt 43 = .ok (.iconst (-1), 1) := by decide +kernel
theorem dX2_cairnAt_44 : decode cX2_cairnAt 44 = .ok (.ireturn, 1) := by decide +kernel
set_option maxRecDepth 20000 in
theorem ggX2_unfair_X2_isUnfair : GoodIn wsX2_unfair wsX2_isUnfair := goodIn_r _ [6, 1, 7, 8, 9, 5, 10, 11, 12, 13, 14, 15, 16, 17, 18, 19, 20, 21, 22, 23, 24, 25, 26, 27] (by decide +kernel) (by decide +kernel)
set_option maxRecDepth 20000 in
theorem gX2_unfair_X2_isUnfair : GoodIn wsX2_unfair (wsV RX2 85 RX2 yX2_isUnfair wsX2_isUnfair) := goodIn_app (goodIn_of _ (by decide +kernel)) ggX2_unfair_X2_isUnfair
theorem dX2_unfair_0 : decode cX2_unfair 0 = .ok (.iconst 0, 1) := by decide +kernel
theorem dX2_unfair_1 : decode cX2_unfair 1 = .ok (.istore_n 1, 1) := by decide +kernel
theorem dX2_unfair_2 : decode cX2_unfair 2 = .ok (.iconst 0, 1) := by decide +kernel
theorem dX2_unfair_3 : decode cX2_unfair 3 = .ok (.istore_n 2, 1) := by decide +kernel
theorem dX2_unfair_4 : decode cX2_unfair 4 = .ok (.iload_n 2, 1) := by decide +kernel
theorem dX2_unfair_5 : decode cX2_unfair 5 = .ok (.aload_n 0, 1) := by decide +kernel
theorem dX2_unfair_6 : decode cX2_unfair 6 = .ok (.getfield 9, 3) := by decide +kernel
theorem dX2_unfair_9 : decode cX2_unfair 9 = .ok (.arraylength, 1) := by decide +kernel
theorem dX2_unfair_10 : decode cX2_unfair 10 = .ok (.if_icmp .ge 39, 3) := by decide +kernel
theorem dX2_unfair_13 : decode cX2_unfair 13 = .ok (.iconst 0, 1) := by decide +kernel
theorem dX2_unfair_14 : decode cX2_unfair 14 = .ok (.istore_n 3, 1) := by decide +kernel
theorem dX2_unfair_15 : decode cX2_unfair 15 = .ok (.iload_n 3, 1) := by decide +kernel
theorem dX2_unfair_16 : decode cX2_unfair 16 = .ok (.iload_n 2, 1) := by decide +kernel
theorem dX2_unfair_17 : decode cX2_unfair 17 = .ok (.if_icmp .ge 26, 3) := by decide +kernel
theorem dX2_unfair_20 : decode cX2_unfair 20 = .ok (.iload_n 1, 1) := by decide +kernel
theorem dX2_unfair_21 : decode cX2_unfair 21 = .ok (.aload_n 0, 1) := by decide +kernel
theorem dX2_unfair_22 : decode cX2_unfair 22 = .ok (.iload_n 2, 1) := by decide +kernel
theorem dX2_unfair_23 : decode cX2_unfair 23 = .ok (.iload_n 3, 1) := by decide +kernel
theorem dX2_unfair_24 : decode cX2_unfair 24 = .ok (.invokevirtual 85, 3) := by decide +kernel
theorem dX2_unfair_27 : decode cX2_unfair 27 = .ok (.ifCond .eq 7, 3) := by decide +kernel
theorem dX2_unfair_30 : decode cX2_unfair 30 = .ok (.iconst 1, 1) := by decide +kernel
theorem dX2_unfair_31 : decode cX2_unfair 31 = .ok (.goto 4, 3) := by decide +kernel
theorem dX2_unfair_34 : decode cX2_unfair 34 = .ok (.iconst 0, 1) := by decide +kernel
theorem dX2_unfair_35 : decode cX2_unfair 35 = .ok (.iadd, 1) := by decide +kernel
theorem dX2_unfair_36 : decode cX2_unfair 36 = .ok (.istore_n 1, 1) := by decide +kernel
theorem dX2_unfair_37 : decode cX2_unfair 37 = .ok (.iinc 3 1, 3) := by decide +kernel
theorem dX2_unfair_40 : decode cX2_unfair 40 = .ok (.goto (-25), 3) := by decide +kernel
theorem dX2_unfair_43 : decode cX2_unfair 43 = .ok (.iinc 2 1, 3) := by decide +kernel
theorem dX2_unfair_46 : decode cX2_unfair 46 = .ok (.goto (-42), 3) := by decide +kernel
theorem dX2_unfair_49 : decode cX2_unfair 49 = .ok (.iload_n 1, 1) := by decide +kernel
theorem dX2_unfair_50 : decode cX2_unfair 50 = .ok (.ireturn, 1) := by decide +kernel
set_option maxRecDepth 20000 in
theorem ggX2_isSame_X2_has : GoodIn wsX2_isSame wsX2_has := goodIn_r _ [9] (by decide +kernel) (by decide +kernel)
set_option maxRecDepth 20000 in
theorem gX2_isSame_X2_has : GoodIn wsX2_isSame (va_wsS RX2 48 yX2_has wsX2_has) := goodIn_app (goodIn_of _ (by decide +kernel)) ggX2_isSame_X2_has
set_option maxRecDepth 20000 in
theorem ggX2_isSame_X2_fars : GoodIn wsX2_isSame wsX2_fars := goodIn_r _ [13, 3, 2, 6, 7, 8, 9, 187, 188, 189, 190] (by decide +kernel) (by decide +kernel)
set_option maxRecDepth 20000 in
theorem gX2_isSame_X2_fars : GoodIn wsX2_isSame (wsV RX2 54 RX2 yX2_fars wsX2_fars) := goodIn_app (goodIn_of _ (by decide +kernel)) ggX2_isSame_X2_fars
set_option maxRecDepth 20000 in
theorem ggX2_isSame_X2_isStaying : GoodIn wsX2_isSame wsX2_isStaying := goodIn_r _ [17, 4, 187, 188, 189, 190] (by decide +kernel) (by decide +kernel)
set_option maxRecDepth 20000 in
theorem gX2_isSame_X2_isStaying : GoodIn wsX2_isSame (wsV RX2 62 RX2 yX2_isStaying wsX2_isStaying) := goodIn_app (goodIn_of _ (by decide +kernel)) ggX2_isSame_X2_isStaying
set_option maxRecDepth 20000 in
theorem ggX2_isSame_X2_isUnfair : GoodIn wsX2_isSame wsX2_isUnfair := goodIn_r _ [21, 1, 10, 11, 12, 8, 13, 3, 2, 6, 7, 9, 22, 23, 24, 25, 26, 27, 28, 29, 187, 188, 189, 190] (by decide +kernel) (by decide +kernel)
set_option maxRecDepth 20000 in
theorem gX2_isSame_X2_isUnfair : GoodIn wsX2_isSame (wsV RX2 85 RX2 yX2_isUnfair wsX2_isUnfair) := goodIn_app (goodIn_of _ (by decide +kernel)) ggX2_isSame_X2_isUnfair
set_option maxRecDepth 20000 in
theorem ggX2_isSame_X2_canFlip : GoodIn wsX2_isSame wsX2_canFlip := goodIn_r _ [33, 1, 10, 11, 12, 8, 13, 3, 2, 6, 7, 9, 14, 15, 16, 17, 4, 34, 35, 36, 37, 187, 188, 189, 190] (by decide +kernel) (by decide +kernel)
set_option maxRecDepth 20000 in
theorem gX2_isSame_X2_canFlip : GoodIn wsX2_isSame (wsV RX2 95 RX2 yX2_canFlip wsX2_canFlip) := goodIn_app (goodIn_of _ (by decide +kernel)) ggX2_isSame_X2_canFlip
set_option maxRecDepth 20000 in
theorem ggX2_isSame_X1_edge : GoodIn wsX2_isSame wsX1_edge := goodIn_ca (goodIn_r _ [42, 43, 44, 45, 41, 46, 47, 48, 49, 50, 51, 52, 53, 54, 55, 56, 57, 58, 59, 60, 61, 62, 63, 64, 65, 66, 67, 68, 69, 70, 71, 72, 73, 74, 75, 76, 77, 78, 79, 80, 81, 82, 83, 84, 85, 86, 87, 88, 89, 90, 91, 92, 93, 94, 95, 96, 97, 98, 99, 100, 101, 102, 103, 104, 105, 106, 107, 108, 109, 110, 111, 112, 191, 192, 193, 194, 195, 196, 197, 198, 199, 200, 201] (by decide +kernel) (by decide +kernel)) (goodIn_sub (fun _ h => List.mem_cons_of_mem _ (List.mem_append_right _ h)) (by decide +kernel))
set_option maxRecDepth 20000 in
theorem gX2_isSame_X1_edge : GoodIn wsX2_isSame (wsV RX2 98 RX1 yX1_edge wsX1_edge) := goodIn_app (goodIn_of _ (by decide +kernel)) ggX2_isSame_X1_edge
set_option maxRecDepth 20000 in
theorem ggX2_isSame_X1_told : GoodIn wsX2_isSame wsX1_told := goodIn_ca (goodIn_r _ [116, 43, 44, 45, 41, 46, 47, 48, 49, 50, 51, 52, 53, 54, 55, 56, 57, 58, 59, 117, 118, 119, 120, 121, 92, 93, 94, 95, 122, 97, 98, 99, 100, 123, 124, 125, 126, 127, 128, 129, 130, 131, 68, 69, 70, 71, 72, 73, 74, 75, 76, 132, 133, 134, 135, 191, 192, 193, 194, 195, 196, 197, 198, 199, 200, 201] (by decide +kernel) (by decide +kernel)) (goodIn_sub (fun _ h => List.mem_cons_of_mem _ (List.mem_append_right _ h)) (by decide +kernel))
set_option maxRecDepth 20000 in
theorem gX2_isSame_X1_told : GoodIn wsX2_isSame (wsV RX2 104 RX1 yX1_told wsX1_told) := goodIn_app (goodIn_of _ (by decide +kernel)) ggX2_isSame_X1_told
set_option maxRecDepth 20000 in
theorem ggX2_isSame_X1_triangle : GoodIn wsX2_isSame wsX1_triangle := goodIn_ca (goodIn_r _ [139, 47, 48, 49, 140, 56, 57, 58, 41, 59, 141, 142, 143, 144, 145, 146, 147, 53, 148, 149, 150, 151, 152, 153, 154, 155, 156, 157, 91, 92, 93, 94, 95, 96, 97, 98, 99, 100, 109, 110, 111, 112, 158, 191, 192, 193, 194, 195, 196, 197, 198, 199, 200, 201] (by decide +kernel) (by decide +kernel)) (goodIn_sub (fun _ h => List.mem_cons_of_mem _ (List.mem_append_right _ h)) (by decide +kernel))
set_option maxRecDepth 20000 in
theorem gX2_isSame_X1_triangle : GoodIn wsX2_isSame (wsV RX2 107 RX1 yX1_triangle wsX1_triangle) := goodIn_app (goodIn_of _ (by decide +kernel)) ggX2_isSame_X1_triangle
set_option maxRecDepth 20000 in
theorem ggX2_isSame_X2_area : GoodIn wsX2_isSame wsX2_area := goodIn_r _ [162, 1, 163, 150, 151, 152, 34, 35, 36, 8, 37, 187, 188, 189, 190] (by decide +kernel) (by decide +kernel)
set_option maxRecDepth 20000 in
theorem gX2_isSame_X2_area : GoodIn wsX2_isSame (wsV RX2 110 RX2 yX2_area wsX2_area) := goodIn_app (goodIn_of _ (by decide +kernel)) ggX2_isSame_X2_area
set_option maxRecDepth 20000 in
theorem ggX2_isSame_X2_unfair : GoodIn wsX2_isSame wsX2_unfair := goodIn_r _ [167, 1, 18, 19, 20, 8, 21, 10, 11, 12, 13, 3, 2, 6, 7, 9, 22, 23, 24, 25, 26, 27, 28, 29, 187, 188, 189, 190] (by decide +kernel) (by decide +kernel)
set_option maxRecDepth 20000 in
theorem gX2_isSame_X2_unfair : GoodIn wsX2_isSame (wsV RX2 114 RX2 yX2_unfair wsX2_unfair) := goodIn_app (goodIn_of _ (by decide +kernel)) ggX2_isSame_X2_unfair
set_option maxRecDepth 20000 in
theorem ggX2_isSame_X1_count : GoodIn wsX2_isSame wsX1_count := goodIn_ca (goodIn_r _ [171, 56, 57, 58, 41, 59, 47, 48, 172, 173, 174, 175, 49, 176, 140, 177, 178, 179, 180, 53, 181, 55, 182, 65, 66, 67, 68, 69, 70, 71, 72, 73, 74, 75, 76, 77, 78, 79, 80, 81, 82, 83, 84, 85, 86, 51, 52, 54, 87, 88, 89, 90, 91, 92, 93, 94, 95, 96, 97, 98, 99, 100, 101, 102, 103, 104, 105, 106, 107, 108, 109, 110, 111, 112, 191, 192, 193, 194, 195, 196, 197, 198, 199, 200, 201] (by decide +kernel) (by decide +kernel)) (goodIn_sub (fun _ h => List.mem_cons_of_mem _ (List.mem_append_right _ h)) (by decide +kernel))
set_option maxRecDepth 20000 in
theorem gX2_isSame_X1_count : GoodIn wsX2_isSame (wsV RX2 118 RX1 yX1_count wsX1_count) := goodIn_app (goodIn_of _ (by decide +kernel)) ggX2_isSame_X1_count
set_option maxRecDepth 20000 in
theorem ggX2_isSame_X1_mean : GoodIn wsX2_isSame wsX1_mean := goodIn_r _ [186, 49, 176, 178, 179, 180, 53, 181, 55, 182, 65, 66, 67, 68, 69, 70, 71, 72, 73, 74, 75, 76, 77, 78, 79, 80, 81, 82, 83, 84, 85, 86, 51, 52, 54, 87, 88, 89, 90, 91, 92, 93, 94, 95, 96, 97, 98, 99, 100, 101, 102, 103, 104, 105, 106, 107, 108, 109, 110, 111, 112, 191, 192, 193, 194, 195, 196, 197, 198, 199, 200, 201] (by decide +kernel) (by decide +kernel)
set_option maxRecDepth 20000 in
theorem gX2_isSame_X1_mean : GoodIn wsX2_isSame (wsV RX2 121 RX1 yX1_mean wsX1_mean) := goodIn_app (goodIn_of _ (by decide +kernel)) ggX2_isSame_X1_mean
theorem dJ9_abs_0f7a4_0 : decode cJ9_abs_0f7a4 0 = .ok (.iload_n 0, 1) := by decide +kernel
theorem dJ9_abs_0f7a4_1 : decode cJ9_abs_0f7a4 1 = .ok (.ifCond .ge 8, 3) := by decide +kernel
theorem dJ9_abs_0f7a4_4 : decode cJ9_abs_0f7a4 4 = .ok (.iload_n 0, 1) := by decide +kernel
theorem dJ9_abs_0f7a4_5 : decode cJ9_abs_0f7a4 5 = .ok (.ineg, 1) := by decide +kernel
theorem dJ9_abs_0f7a4_6 : decode cJ9_abs_0f7a4 6 = .ok (.goto 4, 3) := by decide +kernel
theorem dJ9_abs_0f7a4_9 : decode cJ9_abs_0f7a4 9 = .ok (.iload_n 0, 1) := by decide +kernel
theorem dJ9_abs_0f7a4_10 : decode cJ9_abs_0f7a4 10 = .ok (.ireturn, 1) := by decide +kernel
theorem dJ9_max_7cf53_0 : decode cJ9_max_7cf53 0 = .ok (.iload_n 0, 1) := by decide +kernel
theorem dJ9_max_7cf53_1 : decode cJ9_max_7cf53 1 = .ok (.iload_n 1, 1) := by decide +kernel
theorem dJ9_max_7cf53_2 : decode cJ9_max_7cf53 2 = .ok (.if_icmp .lt 7, 3) := by decide +kernel
theorem dJ9_max_7cf53_5 : decode cJ9_max_7cf53 5 = .ok (.iload_n 0, 1) := by decide +kernel
theorem dJ9_max_7cf53_6 : decode cJ9_max_7cf53 6 = .ok (.goto 4, 3) := by decide +kernel
theorem dJ9_max_7cf53_9 : decode cJ9_max_7cf53 9 = .ok (.iload_n 1, 1) := by decide +kernel
theorem dJ9_max_7cf53_10 : decode cJ9_max_7cf53 10 = .ok (.ireturn, 1) := by decide +kernel
theorem dJ9_min_7cf53_0 : decode cJ9_min_7cf53 0 = .ok (.iload_n 0, 1) := by decide +kernel
theorem dJ9_min_7cf53_1 : decode cJ9_min_7cf53 1 = .ok (.iload_n 1, 1) := by decide +kernel
theorem dJ9_min_7cf53_2 : decode cJ9_min_7cf53 2 = .ok (.if_icmp .gt 7, 3) := by decide +kernel
theorem dJ9_min_7cf53_5 : decode cJ9_min_7cf53 5 = .ok (.iload_n 0, 1) := by decide +kernel
theorem dJ9_min_7cf53_6 : decode cJ9_min_7cf53 6 = .ok (.goto 4, 3) := by decide +kernel
theorem dJ9_min_7cf53_9 : decode cJ9_min_7cf53 9 = .ok (.iload_n 1, 1) := by decide +kernel
theorem dJ9_min_7cf53_10 : decode cJ9_min_7cf53 10 = .ok (.ireturn, 1) := by decide +kernel
theorem dL_below_0 : decode cL_below 0 = .ok (.iload_n 0, 1) := by decide +kernel
theorem dL_below_1 : decode cL_below 1 = .ok (.ldc 7, 2) := by decide +kernel
theorem dL_below_3 : decode cL_below 3 = .ok (.iand, 1) := by decide +kernel
theorem dL_below_4 : decode cL_below 4 = .ok (.iload_n 1, 1) := by decide +kernel
theorem dL_below_5 : decode cL_below 5 = .ok (.irem, 1) := by decide +kernel
theorem dL_below_6 : decode cL_below 6 = .ok (.ireturn, 1) := by decide +kernel
theorem dL_cell_0 : decode cL_cell 0 = .ok (.iload_n 1, 1) := by decide +kernel
theorem dL_cell_1 : decode cL_cell 1 = .ok (.aload_n 0, 1) := by decide +kernel
theorem dL_cell_2 : decode cL_cell 2 = .ok (.arraylength, 1) := by decide +kernel
theorem dL_cell_3 : decode cL_cell 3 = .ok (.if_icmp .ge 9, 3) := by decide +kernel
theorem dL_cell_6 : decode cL_cell 6 = .ok (.aload_n 0, 1) := by decide +kernel
theorem dL_cell_7 : decode cL_cell 7 = .ok (.iload_n 1, 1) := by decide +kernel
theorem dL_cell_8 : decode cL_cell 8 = .ok (.iaload, 1) := by decide +kernel
theorem dL_cell_9 : decode cL_cell 9 = .ok (.goto 9, 3) := by decide +kernel
theorem dL_cell_12 : decode cL_cell 12 = .ok (.ldc 8, 2) := by decide +kernel
theorem dL_cell_14 : decode cL_cell 14 = .ok (.iload_n 1, 1) := by decide +kernel
theorem dL_cell_15 : decode cL_cell 15 = .ok (.iconst 3, 1) := by decide +kernel
theorem dL_cell_16 : decode cL_cell 16 = .ok (.iadd, 1) := by decide +kernel
theorem dL_cell_17 : decode cL_cell 17 = .ok (.imul, 1) := by decide +kernel
theorem dL_cell_18 : decode cL_cell 18 = .ok (.ireturn, 1) := by decide +kernel
theorem dL_build_0 : decode cL_build 0 = .ok (.new 10, 3) := by decide +kernel
theorem dL_build_3 : decode cL_build 3 = .ok (.dup, 1) := by decide +kernel
theorem dL_build_4 : decode cL_build 4 = .ok (.invokespecial 70, 3) := by decide +kernel
theorem dL_build_7 : decode cL_build 7 = .ok (.astore_n 2, 1) := by decide +kernel
theorem dL_build_8 : decode cL_build 8 = .ok (.bipush 8, 2) := by decide +kernel
theorem dL_build_10 : decode cL_build 10 = .ok (.aload_n 1, 1) := by decide +kernel
theorem dL_build_11 : decode cL_build 11 = .ok (.iconst 0, 1) := by decide +kernel
theorem dL_build_12 : decode cL_build 12 = .ok (.invokestatic 71, 3) := by decide +kernel
theorem dL_build_15 : decode cL_build 15 = .ok (.bipush 14, 2) := by decide +kernel
theorem dL_build_17 : decode cL_build 17 = .ok (.invokestatic 18, 3) := by decide +kernel
theorem dL_build_20 : decode cL_build 20 = .ok (.iadd, 1) := by decide +kernel
theorem dL_build_21 : decode cL_build 21 = .ok (.istore_n 3, 1) := by decide +kernel
theorem dL_build_22 : decode cL_build 22 = .ok (.iconst 0, 1) := by decide +kernel
theorem dL_build_23 : decode cL_build 23 = .ok (.istore 4, 2) := by decide +kernel
theorem dL_build_25 : decode cL_build 25 = .ok (.iload 4, 2) := by decide +kernel
theorem dL_build_27 : decode cL_build 27 = .ok (.iload_n 3, 1) := by decide +kernel
theorem dL_build_28 : decode cL_build 28 = .ok (.if_icmp .ge 43, 3) := by decide +kernel
theorem dL_build_31 : decode cL_build 31 = .ok (.aload_n 0, 1) := by decide +kernel
theorem dL_build_32 : decode cL_build 32 = .ok (.aload_n 2, 1) := by decide +kernel
theorem dL_build_33 : decode cL_build 33 = .ok (.aload_n 1, 1) := by decide +kernel
theorem dL_build_34 : decode cL_build 34 = .ok (.iload 4, 2) := by decide +kernel
theorem dL_build_36 : decode cL_build 36 = .ok (.bipush 16, 2) := by decide +kernel
theorem dL_build_38 : decode cL_build 38 = .ok (.irem, 1) := by decide +kernel
theorem dL_build_39 : decode cL_build 39 = .ok (.invokestatic 71, 3) := by decide +kernel
theorem dL_build_42 : decode cL_build 42 = .ok (.iload 4, 2) := by decide +kernel
theorem dL_build_44 : decode cL_build 44 = .ok (.bipush 16, 2) := by decide +kernel
theorem dL_build_46 : decode cL_build 46 = .ok (.idiv, 1) := by decide +kernel
theorem dL_build_47 : decode cL_build 47 = .ok (.iconst 4, 1) := by decide +kernel
theorem dL_build_48 : decode cL_build 48 = .ok (.imul, 1) := by decide +kernel
theorem dL_build_49 : decode cL_build 49 = .ok (.ishr, 1) := by decide +kernel
theorem dL_build_50 : decode cL_build 50 = .ok (.sipush 293, 3) := by decide +kernel
theorem dL_build_53 : decode cL_build 53 = .ok (.iload 4, 2) := by decide +kernel
theorem dL_build_55 : decode cL_build 55 = .ok (.imul, 1) := by decide +kernel
theorem dL_build_56 : decode cL_build 56 = .ok (.iadd, 1) := by decide +kernel
theorem dL_build_57 : decode cL_build 57 = .ok (.invokestatic 75, 3) := by decide +kernel
theorem dL_build_60 : decode cL_build 60 = .ok (.ifCond .ne 5, 3) := by decide +kernel
theorem dL_build_63 : decode cL_build 63 = .ok (.aconst_null, 1) := by decide +kernel
theorem dL_build_64 : decode cL_build 64 = .ok (.areturn, 1) := by decide +kernel
theorem dL_build_65 : decode cL_build 65 = .ok (.iinc 4 1, 3) := by decide +kernel
theorem dL_build_68 : decode cL_build 68 = .ok (.goto (-43), 3) := by decide +kernel
theorem dL_build_71 : decode cL_build 71 = .ok (.aload_n 2, 1) := by decide +kernel
theorem dL_build_72 : decode cL_build 72 = .ok (.areturn, 1) := by decide +kernel
abbrev vwCl : List vw_C := [(RX0, TX0, 7), (RX1, TX1, 4), (RX2, TX2, 4)]

