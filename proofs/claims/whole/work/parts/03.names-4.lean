theorem dX2_split_78 : decode cX2_split 78 = .ok (.iload 6, 2) := by decide +kernel
theorem dX2_split_80 : decode cX2_split 80 = .ok (.iload 7, 2) := by decide +kernel
theorem dX2_split_82 : decode cX2_split 82 = .ok (.aload_n 0, 1) := by decide +kernel
theorem dX2_split_83 : decode cX2_split 83 = .ok (.getfield 7, 3) := by decide +kernel
theorem dX2_split_86 : decode cX2_split 86 = .ok (.invokevirtual 31, 3) := by decide +kernel
theorem dX2_split_89 : decode cX2_split 89 = .ok (.goto 38, 3) := by decide +kernel
theorem dX2_split_92 : decode cX2_split 92 = .ok (.aload_n 0, 1) := by decide +kernel
theorem dX2_split_93 : decode cX2_split 93 = .ok (.getfield 28, 3) := by decide +kernel
theorem dX2_split_96 : decode cX2_split 96 = .ok (.iload 6, 2) := by decide +kernel
theorem dX2_split_98 : decode cX2_split 98 = .ok (.aaload, 1) := by decide +kernel
theorem dX2_split_99 : decode cX2_split 99 = .ok (.iload 7, 2) := by decide +kernel
theorem dX2_split_101 : decode cX2_split 101 = .ok (.baload, 1) := by decide +kernel
theorem dX2_split_102 : decode cX2_split 102 = .ok (.ifCond .eq 25, 3) := by decide +kernel
theorem dX2_split_105 : decode cX2_split 105 = .ok (.aload_n 0, 1) := by decide +kernel
theorem dX2_split_106 : decode cX2_split 106 = .ok (.iload 6, 2) := by decide +kernel
theorem dX2_split_108 : decode cX2_split 108 = .ok (.aload_n 0, 1) := by decide +kernel
theorem dX2_split_109 : decode cX2_split 109 = .ok (.getfield 7, 3) := by decide +kernel
theorem dX2_split_112 : decode cX2_split 112 = .ok (.iconst 1, 1) := by decide +kernel
theorem dX2_split_113 : decode cX2_split 113 = .ok (.invokevirtual 96, 3) := by decide +kernel
theorem dX2_split_116 : decode cX2_split 116 = .ok (.aload_n 0, 1) := by decide +kernel
theorem dX2_split_117 : decode cX2_split 117 = .ok (.iload 7, 2) := by decide +kernel
theorem dX2_split_119 : decode cX2_split 119 = .ok (.aload_n 0, 1) := by decide +kernel
theorem dX2_split_120 : decode cX2_split 120 = .ok (.getfield 7, 3) := by decide +kernel
theorem dX2_split_123 : decode cX2_split 123 = .ok (.iconst 1, 1) := by decide +kernel
theorem dX2_split_124 : decode cX2_split 124 = .ok (.invokevirtual 96, 3) := by decide +kernel
theorem dX2_split_127 : decode cX2_split 127 = .ok (.iinc 5 1, 3) := by decide +kernel
theorem dX2_split_130 : decode cX2_split 130 = .ok (.goto (-90), 3) := by decide +kernel
theorem dX2_split_133 : decode cX2_split 133 = .ok (.return_, 1) := by decide +kernel
set_option maxRecDepth 20000 in
theorem ggX2_add_X2_covers : GoodIn wsX2_add wsX2_covers := goodIn_r _ [13, 14, 15, 16, 17, 18, 19, 20, 12, 21, 3, 22, 23, 24, 25, 5, 6, 26, 27, 28, 29, 71, 72, 73, 74, 75, 76, 77, 78, 79] (by decide +kernel) (by decide +kernel)
set_option maxRecDepth 20000 in
theorem gX2_add_X2_covers : GoodIn wsX2_add (wsV RX2 106 RX2 yX2_covers wsX2_covers) := goodIn_app (goodIn_of _ (by decide +kernel)) ggX2_add_X2_covers
set_option maxRecDepth 20000 in
theorem ggX2_add_X2_let : GoodIn wsX2_add wsX2_let := goodIn_r _ [33, 8, 71, 72, 73, 74, 75, 76, 77, 78, 79] (by decide +kernel) (by decide +kernel)
set_option maxRecDepth 20000 in
theorem gX2_add_X2_let : GoodIn wsX2_add (wsV RX2 96 RX2 yX2_let wsX2_let) := goodIn_app (goodIn_of _ (by decide +kernel)) ggX2_add_X2_let
set_option maxRecDepth 20000 in
theorem ggX2_add_X2_split : GoodIn wsX2_add wsX2_split := goodIn_r _ [37, 1, 4, 8, 38, 39, 40, 12, 41, 3, 2, 42, 43, 44, 45, 22, 23, 24, 25, 5, 6, 46, 47, 48, 49, 50, 51, 52, 53, 54, 16, 55, 56, 57, 58, 30, 31, 32, 33, 71, 72, 73, 74, 75, 76, 77, 78, 79] (by decide +kernel) (by decide +kernel)
set_option maxRecDepth 20000 in
theorem gX2_add_X2_split : GoodIn wsX2_add (wsV RX2 109 RX2 yX2_split wsX2_split) := goodIn_app (goodIn_of _ (by decide +kernel)) ggX2_add_X2_split
set_option maxRecDepth 20000 in
theorem ggX2_add_X2_sides : GoodIn wsX2_add wsX2_sides := goodIn_r _ [62, 2, 63, 64, 65, 12, 66, 67, 68, 69, 70, 18, 19, 20, 21, 3, 71, 72, 73, 74, 75, 76, 77, 78, 79] (by decide +kernel) (by decide +kernel)
set_option maxRecDepth 20000 in
theorem gX2_add_X2_sides : GoodIn wsX2_add (wsV RX2 82 RX2 yX2_sides wsX2_sides) := goodIn_app (goodIn_of _ (by decide +kernel)) ggX2_add_X2_sides
theorem dX2_add_0 : decode cX2_add 0 = .ok (.iconst 2, 1) := by decide +kernel
theorem dX2_add_1 : decode cX2_add 1 = .ok (.newarray .int, 2) := by decide +kernel
theorem dX2_add_3 : decode cX2_add 3 = .ok (.astore 4, 2) := by decide +kernel
theorem dX2_add_5 : decode cX2_add 5 = .ok (.iconst 0, 1) := by decide +kernel
theorem dX2_add_6 : decode cX2_add 6 = .ok (.istore 5, 2) := by decide +kernel
theorem dX2_add_8 : decode cX2_add 8 = .ok (.iconst 0, 1) := by decide +kernel
theorem dX2_add_9 : decode cX2_add 9 = .ok (.istore 6, 2) := by decide +kernel
theorem dX2_add_11 : decode cX2_add 11 = .ok (.iload 6, 2) := by decide +kernel
theorem dX2_add_13 : decode cX2_add 13 = .ok (.aload_n 0, 1) := by decide +kernel
theorem dX2_add_14 : decode cX2_add 14 = .ok (.getfield 55, 3) := by decide +kernel
theorem dX2_add_17 : decode cX2_add 17 = .ok (.if_icmp .ge 38, 3) := by decide +kernel
theorem dX2_add_20 : decode cX2_add 20 = .ok (.aload_n 0, 1) := by decide +kernel
theorem dX2_add_21 : decode cX2_add 21 = .ok (.iload 6, 2) := by decide +kernel
theorem dX2_add_23 : decode cX2_add 23 = .ok (.iload_n 1, 1) := by decide +kernel
theorem dX2_add_24 : decode cX2_add 24 = .ok (.iload_n 2, 1) := by decide +kernel
theorem dX2_add_25 : decode cX2_add 25 = .ok (.invokevirtual 106, 3) := by decide +kernel
theorem dX2_add_28 : decode cX2_add 28 = .ok (.ifCond .ne 6, 3) := by decide +kernel
theorem dX2_add_31 : decode cX2_add 31 = .ok (.goto 18, 3) := by decide +kernel
theorem dX2_add_34 : decode cX2_add 34 = .ok (.aload 4, 2) := by decide +kernel
theorem dX2_add_36 : decode cX2_add 36 = .ok (.iload 5, 2) := by decide +kernel
theorem dX2_add_38 : decode cX2_add 38 = .ok (.aload_n 0, 1) := by decide +kernel
theorem dX2_add_39 : decode cX2_add 39 = .ok (.getfield 23, 3) := by decide +kernel
theorem dX2_add_42 : decode cX2_add 42 = .ok (.iload 6, 2) := by decide +kernel
theorem dX2_add_44 : decode cX2_add 44 = .ok (.iaload, 1) := by decide +kernel
theorem dX2_add_45 : decode cX2_add 45 = .ok (.iastore, 1) := by decide +kernel
theorem dX2_add_46 : decode cX2_add 46 = .ok (.iinc 5 1, 3) := by decide +kernel
theorem dX2_add_49 : decode cX2_add 49 = .ok (.iinc 6 1, 3) := by decide +kernel
theorem dX2_add_52 : decode cX2_add 52 = .ok (.goto (-41), 3) := by decide +kernel
theorem dX2_add_55 : decode cX2_add 55 = .ok (.iconst 0, 1) := by decide +kernel
theorem dX2_add_56 : decode cX2_add 56 = .ok (.istore 6, 2) := by decide +kernel
theorem dX2_add_58 : decode cX2_add 58 = .ok (.iload 6, 2) := by decide +kernel
theorem dX2_add_60 : decode cX2_add 60 = .ok (.aload_n 0, 1) := by decide +kernel
theorem dX2_add_61 : decode cX2_add 61 = .ok (.getfield 7, 3) := by decide +kernel
theorem dX2_add_64 : decode cX2_add 64 = .ok (.if_icmp .gt 20, 3) := by decide +kernel
theorem dX2_add_67 : decode cX2_add 67 = .ok (.aload_n 0, 1) := by decide +kernel
theorem dX2_add_68 : decode cX2_add 68 = .ok (.iload 6, 2) := by decide +kernel
theorem dX2_add_70 : decode cX2_add 70 = .ok (.aload_n 0, 1) := by decide +kernel
theorem dX2_add_71 : decode cX2_add 71 = .ok (.getfield 7, 3) := by decide +kernel
theorem dX2_add_74 : decode cX2_add 74 = .ok (.iconst 0, 1) := by decide +kernel
theorem dX2_add_75 : decode cX2_add 75 = .ok (.invokevirtual 96, 3) := by decide +kernel
theorem dX2_add_78 : decode cX2_add 78 = .ok (.iinc 6 1, 3) := by decide +kernel
theorem dX2_add_81 : decode cX2_add 81 = .ok (.goto (-23), 3) := by decide +kernel
theorem dX2_add_84 : decode cX2_add 84 = .ok (.iconst 0, 1) := by decide +kernel
theorem dX2_add_85 : decode cX2_add 85 = .ok (.istore 6, 2) := by decide +kernel
theorem dX2_add_87 : decode cX2_add 87 = .ok (.iload 6, 2) := by decide +kernel
theorem dX2_add_89 : decode cX2_add 89 = .ok (.iload 5, 2) := by decide +kernel
theorem dX2_add_91 : decode cX2_add 91 = .ok (.if_icmp .ge 20, 3) := by decide +kernel
theorem dX2_add_94 : decode cX2_add 94 = .ok (.aload_n 0, 1) := by decide +kernel
theorem dX2_add_95 : decode cX2_add 95 = .ok (.aload 4, 2) := by decide +kernel
theorem dX2_add_97 : decode cX2_add 97 = .ok (.iload 6, 2) := by decide +kernel
theorem dX2_add_99 : decode cX2_add 99 = .ok (.iaload, 1) := by decide +kernel
theorem dX2_add_100 : decode cX2_add 100 = .ok (.iload_n 1, 1) := by decide +kernel
theorem dX2_add_101 : decode cX2_add 101 = .ok (.iload_n 2, 1) := by decide +kernel
theorem dX2_add_102 : decode cX2_add 102 = .ok (.invokevirtual 109, 3) := by decide +kernel
theorem dX2_add_105 : decode cX2_add 105 = .ok (.iinc 6 1, 3) := by decide +kernel
theorem dX2_add_108 : decode cX2_add 108 = .ok (.goto (-21), 3) := by decide +kernel
theorem dX2_add_111 : decode cX2_add 111 = .ok (.aload_n 0, 1) := by decide +kernel
theorem dX2_add_112 : decode cX2_add 112 = .ok (.getfield 13, 3) := by decide +kernel
theorem dX2_add_115 : decode cX2_add 115 = .ok (.aload_n 0, 1) := by decide +kernel
theorem dX2_add_116 : decode cX2_add 116 = .ok (.getfield 7, 3) := by decide +kernel
theorem dX2_add_119 : decode cX2_add 119 = .ok (.iload_n 1, 1) := by decide +kernel
theorem dX2_add_120 : decode cX2_add 120 = .ok (.iastore, 1) := by decide +kernel
theorem dX2_add_121 : decode cX2_add 121 = .ok (.aload_n 0, 1) := by decide +kernel
theorem dX2_add_122 : decode cX2_add 122 = .ok (.getfield 17, 3) := by decide +kernel
theorem dX2_add_125 : decode cX2_add 125 = .ok (.aload_n 0, 1) := by decide +kernel
theorem dX2_add_126 : decode cX2_add 126 = .ok (.getfield 7, 3) := by decide +kernel
theorem dX2_add_129 : decode cX2_add 129 = .ok (.iload_n 2, 1) := by decide +kernel
theorem dX2_add_130 : decode cX2_add 130 = .ok (.iastore, 1) := by decide +kernel
theorem dX2_add_131 : decode cX2_add 131 = .ok (.aload_n 0, 1) := by decide +kernel
theorem dX2_add_132 : decode cX2_add 132 = .ok (.getfield 20, 3) := by decide +kernel
theorem dX2_add_135 : decode cX2_add 135 = .ok (.aload_n 0, 1) := by decide +kernel
theorem dX2_add_136 : decode cX2_add 136 = .ok (.getfield 7, 3) := by decide +kernel
theorem dX2_add_139 : decode cX2_add 139 = .ok (.iload_n 3, 1) := by decide +kernel
theorem dX2_add_140 : decode cX2_add 140 = .ok (.iastore, 1) := by decide +kernel
theorem dX2_add_141 : decode cX2_add 141 = .ok (.aload_n 0, 1) := by decide +kernel
theorem dX2_add_142 : decode cX2_add 142 = .ok (.dup, 1) := by decide +kernel
theorem dX2_add_143 : decode cX2_add 143 = .ok (.getfield 7, 3) := by decide +kernel
theorem dX2_add_146 : decode cX2_add 146 = .ok (.iconst 1, 1) := by decide +kernel
theorem dX2_add_147 : decode cX2_add 147 = .ok (.iadd, 1) := by decide +kernel
theorem dX2_add_148 : decode cX2_add 148 = .ok (.putfield 7, 3) := by decide +kernel
theorem dX2_add_151 : decode cX2_add 151 = .ok (.iconst 0, 1) := by decide +kernel
theorem dX2_add_152 : decode cX2_add 152 = .ok (.istore 6, 2) := by decide +kernel
theorem dX2_add_154 : decode cX2_add 154 = .ok (.iload 6, 2) := by decide +kernel
theorem dX2_add_156 : decode cX2_add 156 = .ok (.aload_n 0, 1) := by decide +kernel
theorem dX2_add_157 : decode cX2_add 157 = .ok (.getfield 7, 3) := by decide +kernel
theorem dX2_add_160 : decode cX2_add 160 = .ok (.if_icmp .ge 49, 3) := by decide +kernel
theorem dX2_add_163 : decode cX2_add 163 = .ok (.iconst 0, 1) := by decide +kernel
theorem dX2_add_164 : decode cX2_add 164 = .ok (.istore 7, 2) := by decide +kernel
theorem dX2_add_166 : decode cX2_add 166 = .ok (.iload 7, 2) := by decide +kernel
theorem dX2_add_168 : decode cX2_add 168 = .ok (.aload_n 0, 1) := by decide +kernel
theorem dX2_add_169 : decode cX2_add 169 = .ok (.getfield 7, 3) := by decide +kernel
theorem dX2_add_172 : decode cX2_add 172 = .ok (.if_icmp .ge 31, 3) := by decide +kernel
theorem dX2_add_175 : decode cX2_add 175 = .ok (.aload_n 0, 1) := by decide +kernel
theorem dX2_add_176 : decode cX2_add 176 = .ok (.iload 6, 2) := by decide +kernel
theorem dX2_add_178 : decode cX2_add 178 = .ok (.iload 7, 2) := by decide +kernel
theorem dX2_add_180 : decode cX2_add 180 = .ok (.invokevirtual 82, 3) := by decide +kernel
theorem dX2_add_183 : decode cX2_add 183 = .ok (.ifCond .ne 14, 3) := by decide +kernel
theorem dX2_add_186 : decode cX2_add 186 = .ok (.aload_n 0, 1) := by decide +kernel
theorem dX2_add_187 : decode cX2_add 187 = .ok (.getfield 28, 3) := by decide +kernel
theorem dX2_add_190 : decode cX2_add 190 = .ok (.iload 6, 2) := by decide +kernel
theorem dX2_add_192 : decode cX2_add 192 = .ok (.aaload, 1) := by decide +kernel
theorem dX2_add_193 : decode cX2_add 193 = .ok (.iload 7, 2) := by decide +kernel
theorem dX2_add_195 : decode cX2_add 195 = .ok (.iconst 0, 1) := by decide +kernel
theorem dX2_add_196 : decode cX2_add 196 = .ok (.bastore, 1) := by decide +kernel
theorem dX2_add_197 : decode cX2_add 197 = .ok (.iinc 7 1, 3) := by decide +kernel
theorem dX2_add_200 : decode cX2_add 200 = .ok (.goto (-34), 3) := by decide +kernel
theorem dX2_add_203 : decode cX2_add 203 = .ok (.iinc 6 1, 3) := by decide +kernel
theorem dX2_add_206 : decode cX2_add 206 = .ok (.goto (-52), 3) := by decide +kernel
theorem dX2_add_209 : decode cX2_add 209 = .ok (.return_, 1) := by decide +kernel
set_option maxRecDepth 20000 in
theorem ggX2_build_X2_isPlace : GoodIn wsX2_build wsX2_isPlace := goodIn_r _ [6, 7, 8, 5, 9] (by decide +kernel) (by decide +kernel)
set_option maxRecDepth 20000 in
theorem gX2_build_X2_isPlace : GoodIn wsX2_build (va_wsS RX2 112 yX2_isPlace wsX2_isPlace) := goodIn_app (goodIn_of _ (by decide +kernel)) ggX2_build_X2_isPlace
set_option maxRecDepth 20000 in
theorem ggX2_build_X2_isIn : GoodIn wsX2_build wsX2_isIn := goodIn_r _ [9] (by decide +kernel) (by decide +kernel)
set_option maxRecDepth 20000 in
theorem gX2_build_X2_isIn : GoodIn wsX2_build (va_wsS RX2 38 yX2_isIn wsX2_isIn) := goodIn_app (goodIn_of _ (by decide +kernel)) ggX2_build_X2_isIn
set_option maxRecDepth 20000 in
theorem ggX2_build_X2_fail : GoodIn wsX2_build wsX2_fail := goodIn_r _ [13, 1, 90, 91, 92, 93, 94, 95, 96, 97, 98] (by decide +kernel) (by decide +kernel)
set_option maxRecDepth 20000 in
theorem gX2_build_X2_fail : GoodIn wsX2_build (wsV RX2 115 RX2 yX2_fail wsX2_fail) := goodIn_app (goodIn_of _ (by decide +kernel)) ggX2_build_X2_fail
set_option maxRecDepth 20000 in
theorem ggX2_build_X2_cairnAt : GoodIn wsX2_build wsX2_cairnAt := goodIn_r _ [17, 2, 18, 19, 90, 91, 92, 93, 94, 95, 96, 97, 98] (by decide +kernel) (by decide +kernel)
set_option maxRecDepth 20000 in
theorem gX2_build_X2_cairnAt : GoodIn wsX2_build (wsV RX2 118 RX2 yX2_cairnAt wsX2_cairnAt) := goodIn_app (goodIn_of _ (by decide +kernel)) ggX2_build_X2_cairnAt
set_option maxRecDepth 20000 in
theorem ggX2_build_X2_add : GoodIn wsX2_build wsX2_add := goodIn_r _ [23, 24, 25, 26, 2, 18, 19, 27, 28, 29, 30, 31, 5, 32, 33, 34, 35, 36, 37, 38, 39, 40, 41, 42, 43, 44, 45, 46, 47, 48, 49, 50, 51, 52, 53, 54, 55, 56, 57, 58, 59, 60, 61, 62, 63, 64, 65, 66, 67, 68, 69, 70, 71, 72, 73, 74, 75, 76, 77, 78, 79, 80, 81, 82, 83, 84, 85, 86, 87, 88, 89, 90, 91, 92, 93, 94, 95, 96, 97, 98] (by decide +kernel) (by decide +kernel)
set_option maxRecDepth 20000 in
theorem gX2_build_X2_add : GoodIn wsX2_build (wsV RX2 121 RX2 yX2_add wsX2_add) := goodIn_app (goodIn_of _ (by decide +kernel)) ggX2_build_X2_add
theorem dX2_build_0 : decode cX2_build 0 = .ok (.aload_n 0, 1) := by decide +kernel
theorem dX2_build_1 : decode cX2_build 1 = .ok (.iconst 0, 1) := by decide +kernel
theorem dX2_build_2 : decode cX2_build 2 = .ok (.putfield 35, 3) := by decide +kernel
theorem dX2_build_5 : decode cX2_build 5 = .ok (.iload_n 1, 1) := by decide +kernel
theorem dX2_build_6 : decode cX2_build 6 = .ok (.iload_n 2, 1) := by decide +kernel
theorem dX2_build_7 : decode cX2_build 7 = .ok (.invokestatic 112, 3) := by decide +kernel
theorem dX2_build_10 : decode cX2_build 10 = .ok (.ifCond .eq 13, 3) := by decide +kernel
theorem dX2_build_13 : decode cX2_build 13 = .ok (.iload_n 3, 1) := by decide +kernel
theorem dX2_build_14 : decode cX2_build 14 = .ok (.iconst 0, 1) := by decide +kernel
theorem dX2_build_15 : decode cX2_build 15 = .ok (.bipush 99, 2) := by decide +kernel
theorem dX2_build_17 : decode cX2_build 17 = .ok (.invokestatic 38, 3) := by decide +kernel
theorem dX2_build_20 : decode cX2_build 20 = .ok (.ifCond .ne 9, 3) := by decide +kernel
theorem dX2_build_23 : decode cX2_build 23 = .ok (.aload_n 0, 1) := by decide +kernel
theorem dX2_build_24 : decode cX2_build 24 = .ok (.iconst 1, 1) := by decide +kernel
theorem dX2_build_25 : decode cX2_build 25 = .ok (.invokevirtual 115, 3) := by decide +kernel
theorem dX2_build_28 : decode cX2_build 28 = .ok (.ireturn, 1) := by decide +kernel
theorem dX2_build_29 : decode cX2_build 29 = .ok (.aload_n 0, 1) := by decide +kernel
theorem dX2_build_30 : decode cX2_build 30 = .ok (.getfield 7, 3) := by decide +kernel
theorem dX2_build_33 : decode cX2_build 33 = .ok (.bipush 16, 2) := by decide +kernel
theorem dX2_build_35 : decode cX2_build 35 = .ok (.if_icmp .eq 13, 3) := by decide +kernel
theorem dX2_build_38 : decode cX2_build 38 = .ok (.aload_n 0, 1) := by decide +kernel
theorem dX2_build_39 : decode cX2_build 39 = .ok (.iload_n 1, 1) := by decide +kernel
theorem dX2_build_40 : decode cX2_build 40 = .ok (.iload_n 2, 1) := by decide +kernel
theorem dX2_build_41 : decode cX2_build 41 = .ok (.invokevirtual 118, 3) := by decide +kernel
theorem dX2_build_44 : decode cX2_build 44 = .ok (.iconst (-1), 1) := by decide +kernel
theorem dX2_build_45 : decode cX2_build 45 = .ok (.if_icmp .eq 9, 3) := by decide +kernel
theorem dX2_build_48 : decode cX2_build 48 = .ok (.aload_n 0, 1) := by decide +kernel
theorem dX2_build_49 : decode cX2_build 49 = .ok (.iconst 2, 1) := by decide +kernel
theorem dX2_build_50 : decode cX2_build 50 = .ok (.invokevirtual 115, 3) := by decide +kernel
theorem dX2_build_53 : decode cX2_build 53 = .ok (.ireturn, 1) := by decide +kernel
theorem dX2_build_54 : decode cX2_build 54 = .ok (.aload_n 0, 1) := by decide +kernel
theorem dX2_build_55 : decode cX2_build 55 = .ok (.iload_n 1, 1) := by decide +kernel
theorem dX2_build_56 : decode cX2_build 56 = .ok (.iload_n 2, 1) := by decide +kernel
theorem dX2_build_57 : decode cX2_build 57 = .ok (.iload_n 3, 1) := by decide +kernel
theorem dX2_build_58 : decode cX2_build 58 = .ok (.invokevirtual 121, 3) := by decide +kernel
theorem dX2_build_61 : decode cX2_build 61 = .ok (.aload_n 0, 1) := by decide +kernel
theorem dX2_build_62 : decode cX2_build 62 = .ok (.getfield 7, 3) := by decide +kernel
theorem dX2_build_65 : decode cX2_build 65 = .ok (.iconst 1, 1) := by decide +kernel
theorem dX2_build_66 : decode cX2_build 66 = .ok (.isub, 1) := by decide +kernel
theorem dX2_build_67 : decode cX2_build 67 = .ok (.ireturn, 1) := by decide +kernel
set_option maxRecDepth 20000 in
theorem ggX2_raise_X2_isCairn : GoodIn wsX2_raise wsX2_isCairn := goodIn_r _ [7, 8, 9, 10, 6, 11, 16, 17, 18, 19, 20, 21, 22, 23, 24] (by decide +kernel) (by decide +kernel)
set_option maxRecDepth 20000 in
theorem gX2_raise_X2_isCairn : GoodIn wsX2_raise (wsV RX2 124 RX2 yX2_isCairn wsX2_isCairn) := goodIn_app (goodIn_of _ (by decide +kernel)) ggX2_raise_X2_isCairn
set_option maxRecDepth 20000 in
theorem ggX2_raise_X2_fail : GoodIn wsX2_raise wsX2_fail := goodIn_r _ [15, 1, 16, 17, 18, 19, 20, 21, 22, 23, 24] (by decide +kernel) (by decide +kernel)
set_option maxRecDepth 20000 in
theorem gX2_raise_X2_fail : GoodIn wsX2_raise (wsV RX2 115 RX2 yX2_fail wsX2_fail) := goodIn_app (goodIn_of _ (by decide +kernel)) ggX2_raise_X2_fail
set_option maxRecDepth 20000 in
theorem ggX2_raise_X2_isIn : GoodIn wsX2_raise wsX2_isIn := goodIn_r _ [11] (by decide +kernel) (by decide +kernel)
set_option maxRecDepth 20000 in
theorem gX2_raise_X2_isIn : GoodIn wsX2_raise (va_wsS RX2 38 yX2_isIn wsX2_isIn) := goodIn_app (goodIn_of _ (by decide +kernel)) ggX2_raise_X2_isIn
theorem dX2_raise_0 : decode cX2_raise 0 = .ok (.aload_n 0, 1) := by decide +kernel
theorem dX2_raise_1 : decode cX2_raise 1 = .ok (.iconst 0, 1) := by decide +kernel
theorem dX2_raise_2 : decode cX2_raise 2 = .ok (.putfield 35, 3) := by decide +kernel
theorem dX2_raise_5 : decode cX2_raise 5 = .ok (.aload_n 0, 1) := by decide +kernel
theorem dX2_raise_6 : decode cX2_raise 6 = .ok (.iload_n 1, 1) := by decide +kernel
theorem dX2_raise_7 : decode cX2_raise 7 = .ok (.invokevirtual 124, 3) := by decide +kernel
theorem dX2_raise_10 : decode cX2_raise 10 = .ok (.ifCond .ne 9, 3) := by decide +kernel
theorem dX2_raise_13 : decode cX2_raise 13 = .ok (.aload_n 0, 1) := by decide +kernel
theorem dX2_raise_14 : decode cX2_raise 14 = .ok (.iconst 1, 1) := by decide +kernel
theorem dX2_raise_15 : decode cX2_raise 15 = .ok (.invokevirtual 115, 3) := by decide +kernel
theorem dX2_raise_18 : decode cX2_raise 18 = .ok (.ireturn, 1) := by decide +kernel
theorem dX2_raise_19 : decode cX2_raise 19 = .ok (.iload_n 2, 1) := by decide +kernel
theorem dX2_raise_20 : decode cX2_raise 20 = .ok (.iconst 0, 1) := by decide +kernel
theorem dX2_raise_21 : decode cX2_raise 21 = .ok (.bipush 99, 2) := by decide +kernel
theorem dX2_raise_23 : decode cX2_raise 23 = .ok (.invokestatic 38, 3) := by decide +kernel
theorem dX2_raise_26 : decode cX2_raise 26 = .ok (.ifCond .ne 9, 3) := by decide +kernel
theorem dX2_raise_29 : decode cX2_raise 29 = .ok (.aload_n 0, 1) := by decide +kernel
theorem dX2_raise_30 : decode cX2_raise 30 = .ok (.iconst 2, 1) := by decide +kernel
theorem dX2_raise_31 : decode cX2_raise 31 = .ok (.invokevirtual 115, 3) := by decide +kernel
theorem dX2_raise_34 : decode cX2_raise 34 = .ok (.ireturn, 1) := by decide +kernel
theorem dX2_raise_35 : decode cX2_raise 35 = .ok (.aload_n 0, 1) := by decide +kernel
theorem dX2_raise_36 : decode cX2_raise 36 = .ok (.getfield 20, 3) := by decide +kernel
theorem dX2_raise_39 : decode cX2_raise 39 = .ok (.iload_n 1, 1) := by decide +kernel
theorem dX2_raise_40 : decode cX2_raise 40 = .ok (.iaload, 1) := by decide +kernel
theorem dX2_raise_41 : decode cX2_raise 41 = .ok (.istore_n 3, 1) := by decide +kernel
theorem dX2_raise_42 : decode cX2_raise 42 = .ok (.aload_n 0, 1) := by decide +kernel
theorem dX2_raise_43 : decode cX2_raise 43 = .ok (.getfield 20, 3) := by decide +kernel
theorem dX2_raise_46 : decode cX2_raise 46 = .ok (.iload_n 1, 1) := by decide +kernel
theorem dX2_raise_47 : decode cX2_raise 47 = .ok (.iload_n 2, 1) := by decide +kernel
theorem dX2_raise_48 : decode cX2_raise 48 = .ok (.iastore, 1) := by decide +kernel
theorem dX2_raise_49 : decode cX2_raise 49 = .ok (.iload_n 3, 1) := by decide +kernel
theorem dX2_raise_50 : decode cX2_raise 50 = .ok (.ireturn, 1) := by decide +kernel
set_option maxRecDepth 20000 in
theorem ggX2_fix_X2_isCairn : GoodIn wsX2_fix wsX2_isCairn := goodIn_r _ [7, 8, 9, 10, 6, 11, 34, 35, 36, 37, 38, 39, 40, 41, 42] (by decide +kernel) (by decide +kernel)
set_option maxRecDepth 20000 in
theorem gX2_fix_X2_isCairn : GoodIn wsX2_fix (wsV RX2 124 RX2 yX2_isCairn wsX2_isCairn) := goodIn_app (goodIn_of _ (by decide +kernel)) ggX2_fix_X2_isCairn
set_option maxRecDepth 20000 in
theorem ggX2_fix_X2_sides : GoodIn wsX2_fix wsX2_sides := goodIn_r _ [15, 16, 17, 18, 19, 6, 20, 21, 22, 23, 24, 25, 26, 27, 28, 29, 34, 35, 36, 37, 38, 39, 40, 41, 42] (by decide +kernel) (by decide +kernel)
set_option maxRecDepth 20000 in
theorem gX2_fix_X2_sides : GoodIn wsX2_fix (wsV RX2 82 RX2 yX2_sides wsX2_sides) := goodIn_app (goodIn_of _ (by decide +kernel)) ggX2_fix_X2_sides
set_option maxRecDepth 20000 in
theorem ggX2_fix_X2_let : GoodIn wsX2_fix wsX2_let := goodIn_r _ [33, 2, 34, 35, 36, 37, 38, 39, 40, 41, 42] (by decide +kernel) (by decide +kernel)
set_option maxRecDepth 20000 in
theorem gX2_fix_X2_let : GoodIn wsX2_fix (wsV RX2 96 RX2 yX2_let wsX2_let) := goodIn_app (goodIn_of _ (by decide +kernel)) ggX2_fix_X2_let
theorem dX2_fix_0 : decode cX2_fix 0 = .ok (.aload_n 0, 1) := by decide +kernel
theorem dX2_fix_1 : decode cX2_fix 1 = .ok (.aload_n 0, 1) := by decide +kernel
theorem dX2_fix_2 : decode cX2_fix 2 = .ok (.iload_n 1, 1) := by decide +kernel
theorem dX2_fix_3 : decode cX2_fix 3 = .ok (.invokevirtual 124, 3) := by decide +kernel
theorem dX2_fix_6 : decode cX2_fix 6 = .ok (.ifCond .eq 11, 3) := by decide +kernel
theorem dX2_fix_9 : decode cX2_fix 9 = .ok (.aload_n 0, 1) := by decide +kernel
theorem dX2_fix_10 : decode cX2_fix 10 = .ok (.iload_n 2, 1) := by decide +kernel
theorem dX2_fix_11 : decode cX2_fix 11 = .ok (.invokevirtual 124, 3) := by decide +kernel
theorem dX2_fix_14 : decode cX2_fix 14 = .ok (.ifCond .ne 7, 3) := by decide +kernel
theorem dX2_fix_17 : decode cX2_fix 17 = .ok (.iconst 1, 1) := by decide +kernel
theorem dX2_fix_18 : decode cX2_fix 18 = .ok (.goto 17, 3) := by decide +kernel
theorem dX2_fix_21 : decode cX2_fix 21 = .ok (.aload_n 0, 1) := by decide +kernel
theorem dX2_fix_22 : decode cX2_fix 22 = .ok (.iload_n 1, 1) := by decide +kernel
theorem dX2_fix_23 : decode cX2_fix 23 = .ok (.iload_n 2, 1) := by decide +kernel
theorem dX2_fix_24 : decode cX2_fix 24 = .ok (.invokevirtual 82, 3) := by decide +kernel
theorem dX2_fix_27 : decode cX2_fix 27 = .ok (.ifCond .ne 7, 3) := by decide +kernel
theorem dX2_fix_30 : decode cX2_fix 30 = .ok (.iconst 2, 1) := by decide +kernel
theorem dX2_fix_31 : decode cX2_fix 31 = .ok (.goto 4, 3) := by decide +kernel
theorem dX2_fix_34 : decode cX2_fix 34 = .ok (.iconst 0, 1) := by decide +kernel
theorem dX2_fix_35 : decode cX2_fix 35 = .ok (.putfield 35, 3) := by decide +kernel
theorem dX2_fix_38 : decode cX2_fix 38 = .ok (.aload_n 0, 1) := by decide +kernel
theorem dX2_fix_39 : decode cX2_fix 39 = .ok (.getfield 35, 3) := by decide +kernel
theorem dX2_fix_42 : decode cX2_fix 42 = .ok (.ifCond .eq 5, 3) := by decide +kernel
theorem dX2_fix_45 : decode cX2_fix 45 = .ok (.iconst 0, 1) := by decide +kernel
theorem dX2_fix_46 : decode cX2_fix 46 = .ok (.ireturn, 1) := by decide +kernel
theorem dX2_fix_47 : decode cX2_fix 47 = .ok (.aload_n 0, 1) := by decide +kernel
theorem dX2_fix_48 : decode cX2_fix 48 = .ok (.getfield 28, 3) := by decide +kernel
theorem dX2_fix_51 : decode cX2_fix 51 = .ok (.iload_n 1, 1) := by decide +kernel
theorem dX2_fix_52 : decode cX2_fix 52 = .ok (.aaload, 1) := by decide +kernel
theorem dX2_fix_53 : decode cX2_fix 53 = .ok (.iload_n 2, 1) := by decide +kernel
theorem dX2_fix_54 : decode cX2_fix 54 = .ok (.baload, 1) := by decide +kernel
theorem dX2_fix_55 : decode cX2_fix 55 = .ok (.istore 4, 2) := by decide +kernel
theorem dX2_fix_57 : decode cX2_fix 57 = .ok (.aload_n 0, 1) := by decide +kernel
theorem dX2_fix_58 : decode cX2_fix 58 = .ok (.iload_n 1, 1) := by decide +kernel
theorem dX2_fix_59 : decode cX2_fix 59 = .ok (.iload_n 2, 1) := by decide +kernel
theorem dX2_fix_60 : decode cX2_fix 60 = .ok (.iload_n 3, 1) := by decide +kernel
theorem dX2_fix_61 : decode cX2_fix 61 = .ok (.invokevirtual 96, 3) := by decide +kernel
theorem dX2_fix_64 : decode cX2_fix 64 = .ok (.iload 4, 2) := by decide +kernel
theorem dX2_fix_66 : decode cX2_fix 66 = .ok (.ireturn, 1) := by decide +kernel
set_option maxRecDepth 20000 in
theorem ggX2_flip_X2_isCairn : GoodIn wsX2_flip wsX2_isCairn := goodIn_r _ [6, 7, 8, 9, 5, 10, 79, 80, 81, 82, 83, 84, 85, 86, 87] (by decide +kernel) (by decide +kernel)
set_option maxRecDepth 20000 in
theorem gX2_flip_X2_isCairn : GoodIn wsX2_flip (wsV RX2 124 RX2 yX2_isCairn wsX2_isCairn) := goodIn_app (goodIn_of _ (by decide +kernel)) ggX2_flip_X2_isCairn
set_option maxRecDepth 20000 in
theorem ggX2_flip_X2_fail : GoodIn wsX2_flip wsX2_fail := goodIn_r _ [14, 1, 79, 80, 81, 82, 83, 84, 85, 86, 87] (by decide +kernel) (by decide +kernel)
set_option maxRecDepth 20000 in
theorem gX2_flip_X2_fail : GoodIn wsX2_flip (wsV RX2 115 RX2 yX2_fail wsX2_fail) := goodIn_app (goodIn_of _ (by decide +kernel)) ggX2_flip_X2_fail
set_option maxRecDepth 20000 in
theorem ggX2_flip_X2_canFlip : GoodIn wsX2_flip wsX2_canFlip := goodIn_r _ [18, 19, 20, 21, 22, 23, 24, 5, 25, 26, 27, 28, 29, 30, 31, 32, 33, 34, 35, 36, 37, 38, 39, 40, 41, 42, 43, 44, 45, 46, 47, 79, 80, 81, 82, 83, 84, 85, 86, 87] (by decide +kernel) (by decide +kernel)
set_option maxRecDepth 20000 in
theorem gX2_flip_X2_canFlip : GoodIn wsX2_flip (wsV RX2 128 RX2 yX2_canFlip wsX2_canFlip) := goodIn_app (goodIn_of _ (by decide +kernel)) ggX2_flip_X2_canFlip
set_option maxRecDepth 20000 in
theorem ggX2_flip_X2_flipped : GoodIn wsX2_flip wsX2_flipped := goodIn_r _ [51, 52, 53, 54, 55, 56, 57, 58, 59, 40, 41, 42, 5, 43, 26, 27, 28, 29, 30, 31, 32, 33, 34, 35, 36, 37, 38, 39, 60, 61, 62, 63, 64, 65, 66, 67, 68, 69, 70, 71, 72, 73, 74, 75, 76, 77, 78, 19, 79, 80, 81, 82, 83, 84, 85, 86, 87] (by decide +kernel) (by decide +kernel)
set_option maxRecDepth 20000 in
theorem gX2_flip_X2_flipped : GoodIn wsX2_flip (wsV RX2 131 RX2 yX2_flipped wsX2_flipped) := goodIn_app (goodIn_of _ (by decide +kernel)) ggX2_flip_X2_flipped
theorem dX2_flip_0 : decode cX2_flip 0 = .ok (.aload_n 0, 1) := by decide +kernel
theorem dX2_flip_1 : decode cX2_flip 1 = .ok (.iconst 0, 1) := by decide +kernel
theorem dX2_flip_2 : decode cX2_flip 2 = .ok (.putfield 35, 3) := by decide +kernel
theorem dX2_flip_5 : decode cX2_flip 5 = .ok (.aload_n 0, 1) := by decide +kernel
theorem dX2_flip_6 : decode cX2_flip 6 = .ok (.iload_n 1, 1) := by decide +kernel
theorem dX2_flip_7 : decode cX2_flip 7 = .ok (.invokevirtual 124, 3) := by decide +kernel
theorem dX2_flip_10 : decode cX2_flip 10 = .ok (.ifCond .eq 11, 3) := by decide +kernel
theorem dX2_flip_13 : decode cX2_flip 13 = .ok (.aload_n 0, 1) := by decide +kernel
theorem dX2_flip_14 : decode cX2_flip 14 = .ok (.iload_n 2, 1) := by decide +kernel
theorem dX2_flip_15 : decode cX2_flip 15 = .ok (.invokevirtual 124, 3) := by decide +kernel
theorem dX2_flip_18 : decode cX2_flip 18 = .ok (.ifCond .ne 9, 3) := by decide +kernel
theorem dX2_flip_21 : decode cX2_flip 21 = .ok (.aload_n 0, 1) := by decide +kernel
theorem dX2_flip_22 : decode cX2_flip 22 = .ok (.iconst 1, 1) := by decide +kernel
theorem dX2_flip_23 : decode cX2_flip 23 = .ok (.invokevirtual 115, 3) := by decide +kernel
theorem dX2_flip_26 : decode cX2_flip 26 = .ok (.ireturn, 1) := by decide +kernel
theorem dX2_flip_27 : decode cX2_flip 27 = .ok (.aload_n 0, 1) := by decide +kernel
theorem dX2_flip_28 : decode cX2_flip 28 = .ok (.iload_n 1, 1) := by decide +kernel
theorem dX2_flip_29 : decode cX2_flip 29 = .ok (.iload_n 2, 1) := by decide +kernel
theorem dX2_flip_30 : decode cX2_flip 30 = .ok (.invokevirtual 128, 3) := by decide +kernel
theorem dX2_flip_33 : decode cX2_flip 33 = .ok (.ifCond .eq 12, 3) := by decide +kernel
theorem dX2_flip_36 : decode cX2_flip 36 = .ok (.aload_n 0, 1) := by decide +kernel
theorem dX2_flip_37 : decode cX2_flip 37 = .ok (.iload_n 1, 1) := by decide +kernel
theorem dX2_flip_38 : decode cX2_flip 38 = .ok (.iload_n 2, 1) := by decide +kernel
theorem dX2_flip_39 : decode cX2_flip 39 = .ok (.invokevirtual 131, 3) := by decide +kernel
theorem dX2_flip_42 : decode cX2_flip 42 = .ok (.goto 8, 3) := by decide +kernel
theorem dX2_flip_45 : decode cX2_flip 45 = .ok (.aload_n 0, 1) := by decide +kernel
theorem dX2_flip_46 : decode cX2_flip 46 = .ok (.iconst 2, 1) := by decide +kernel
theorem dX2_flip_47 : decode cX2_flip 47 = .ok (.invokevirtual 115, 3) := by decide +kernel
theorem dX2_flip_50 : decode cX2_flip 50 = .ok (.ireturn, 1) := by decide +kernel
set_option maxRecDepth 20000 in
theorem ggX2_settleOne_X2_isUnfair : GoodIn wsX2_settleOne wsX2_isUnfair := goodIn_r _ [7, 8, 9, 10, 11, 12, 6, 13, 14, 15, 16, 17, 18, 19, 20, 21, 22, 23, 24, 25, 26, 27, 28, 29, 30, 31, 32, 33, 34, 35, 36, 37, 38, 39, 71, 72, 73, 74, 75, 76, 77, 78, 79] (by decide +kernel) (by decide +kernel)
set_option maxRecDepth 20000 in
theorem gX2_settleOne_X2_isUnfair : GoodIn wsX2_settleOne (wsV RX2 134 RX2 yX2_isUnfair wsX2_isUnfair) := goodIn_app (goodIn_of _ (by decide +kernel)) ggX2_settleOne_X2_isUnfair
set_option maxRecDepth 20000 in
theorem ggX2_settleOne_X2_flipped : GoodIn wsX2_settleOne wsX2_flipped := goodIn_r _ [43, 44, 45, 46, 47, 48, 49, 50, 51, 28, 29, 30, 6, 31, 14, 15, 16, 17, 18, 19, 20, 21, 22, 23, 24, 25, 26, 27, 52, 53, 54, 55, 56, 57, 58, 59, 60, 61, 62, 63, 64, 65, 66, 67, 68, 69, 70, 2, 71, 72, 73, 74, 75, 76, 77, 78, 79] (by decide +kernel) (by decide +kernel)
set_option maxRecDepth 20000 in
theorem gX2_settleOne_X2_flipped : GoodIn wsX2_settleOne (wsV RX2 131 RX2 yX2_flipped wsX2_flipped) := goodIn_app (goodIn_of _ (by decide +kernel)) ggX2_settleOne_X2_flipped
theorem dX2_settleOne_0 : decode cX2_settleOne 0 = .ok (.iconst 0, 1) := by decide +kernel
theorem dX2_settleOne_1 : decode cX2_settleOne 1 = .ok (.istore_n 1, 1) := by decide +kernel
theorem dX2_settleOne_2 : decode cX2_settleOne 2 = .ok (.iload_n 1, 1) := by decide +kernel
theorem dX2_settleOne_3 : decode cX2_settleOne 3 = .ok (.aload_n 0, 1) := by decide +kernel
theorem dX2_settleOne_4 : decode cX2_settleOne 4 = .ok (.getfield 7, 3) := by decide +kernel
theorem dX2_settleOne_7 : decode cX2_settleOne 7 = .ok (.if_icmp .ge 59, 3) := by decide +kernel
theorem dX2_settleOne_10 : decode cX2_settleOne 10 = .ok (.iload_n 1, 1) := by decide +kernel
theorem dX2_settleOne_11 : decode cX2_settleOne 11 = .ok (.iconst 1, 1) := by decide +kernel
theorem dX2_settleOne_12 : decode cX2_settleOne 12 = .ok (.iadd, 1) := by decide +kernel
theorem dX2_settleOne_13 : decode cX2_settleOne 13 = .ok (.istore_n 2, 1) := by decide +kernel
theorem dX2_settleOne_14 : decode cX2_settleOne 14 = .ok (.iload_n 2, 1) := by decide +kernel
theorem dX2_settleOne_15 : decode cX2_settleOne 15 = .ok (.aload_n 0, 1) := by decide +kernel
theorem dX2_settleOne_16 : decode cX2_settleOne 16 = .ok (.getfield 7, 3) := by decide +kernel
theorem dX2_settleOne_19 : decode cX2_settleOne 19 = .ok (.if_icmp .ge 41, 3) := by decide +kernel
theorem dX2_settleOne_22 : decode cX2_settleOne 22 = .ok (.aload_n 0, 1) := by decide +kernel
theorem dX2_settleOne_23 : decode cX2_settleOne 23 = .ok (.getfield 28, 3) := by decide +kernel
theorem dX2_settleOne_26 : decode cX2_settleOne 26 = .ok (.iload_n 1, 1) := by decide +kernel
theorem dX2_settleOne_27 : decode cX2_settleOne 27 = .ok (.aaload, 1) := by decide +kernel
theorem dX2_settleOne_28 : decode cX2_settleOne 28 = .ok (.iload_n 2, 1) := by decide +kernel
theorem dX2_settleOne_29 : decode cX2_settleOne 29 = .ok (.baload, 1) := by decide +kernel
theorem dX2_settleOne_30 : decode cX2_settleOne 30 = .ok (.ifCond .ne 24, 3) := by decide +kernel
theorem dX2_settleOne_33 : decode cX2_settleOne 33 = .ok (.aload_n 0, 1) := by decide +kernel
theorem dX2_settleOne_34 : decode cX2_settleOne 34 = .ok (.iload_n 1, 1) := by decide +kernel
theorem dX2_settleOne_35 : decode cX2_settleOne 35 = .ok (.iload_n 2, 1) := by decide +kernel
theorem dX2_settleOne_36 : decode cX2_settleOne 36 = .ok (.invokevirtual 134, 3) := by decide +kernel
theorem dX2_settleOne_39 : decode cX2_settleOne 39 = .ok (.ifCond .ne 6, 3) := by decide +kernel
theorem dX2_settleOne_42 : decode cX2_settleOne 42 = .ok (.goto 12, 3) := by decide +kernel
theorem dX2_settleOne_45 : decode cX2_settleOne 45 = .ok (.aload_n 0, 1) := by decide +kernel
theorem dX2_settleOne_46 : decode cX2_settleOne 46 = .ok (.iload_n 1, 1) := by decide +kernel
theorem dX2_settleOne_47 : decode cX2_settleOne 47 = .ok (.iload_n 2, 1) := by decide +kernel
theorem dX2_settleOne_48 : decode cX2_settleOne 48 = .ok (.invokevirtual 131, 3) := by decide +kernel
theorem dX2_settleOne_51 : decode cX2_settleOne 51 = .ok (.pop, 1) := by decide +kernel
theorem dX2_settleOne_52 : decode cX2_settleOne 52 = .ok (.iconst 1, 1) := by decide +kernel
theorem dX2_settleOne_53 : decode cX2_settleOne 53 = .ok (.ireturn, 1) := by decide +kernel
theorem dX2_settleOne_54 : decode cX2_settleOne 54 = .ok (.iinc 2 1, 3) := by decide +kernel
theorem dX2_settleOne_57 : decode cX2_settleOne 57 = .ok (.goto (-43), 3) := by decide +kernel
theorem dX2_settleOne_60 : decode cX2_settleOne 60 = .ok (.iinc 1 1, 3) := by decide +kernel
theorem dX2_settleOne_63 : decode cX2_settleOne 63 = .ok (.goto (-61), 3) := by decide +kernel
theorem dX2_settleOne_66 : decode cX2_settleOne 66 = .ok (.iconst 0, 1) := by decide +kernel
theorem dX2_settleOne_67 : decode cX2_settleOne 67 = .ok (.ireturn, 1) := by decide +kernel
set_option maxRecDepth 20000 in
theorem ggX2_settled_X2_settleOne : GoodIn wsX2_settled wsX2_settleOne := goodIn_r _ [6, 7, 8, 9, 10, 11, 5, 12, 13, 14, 15, 16, 17, 18, 19, 20, 21, 22, 23, 24, 25, 26, 27, 28, 29, 30, 31, 32, 33, 34, 35, 36, 37, 38, 39, 40, 41, 42, 43, 44, 45, 46, 47, 48, 1, 49, 50, 51, 52, 53, 54, 55, 56, 57, 58, 59, 60, 61, 62, 63, 64, 65, 66, 67, 68, 69, 70, 71, 72, 73, 74, 75, 76, 77, 78, 79, 80, 81, 82, 83] (by decide +kernel) (by decide +kernel)
set_option maxRecDepth 20000 in
theorem gX2_settled_X2_settleOne : GoodIn wsX2_settled (wsV RX2 137 RX2 yX2_settleOne wsX2_settleOne) := goodIn_app (goodIn_of _ (by decide +kernel)) ggX2_settled_X2_settleOne
theorem dX2_settled_0 : decode cX2_settled 0 = .ok (.aload_n 0, 1) := by decide +kernel
theorem dX2_settled_1 : decode cX2_settled 1 = .ok (.getfield 100, 3) := by decide +kernel
theorem dX2_settled_4 : decode cX2_settled 4 = .ok (.istore_n 1, 1) := by decide +kernel
theorem dX2_settled_5 : decode cX2_settled 5 = .ok (.iconst 1, 1) := by decide +kernel
theorem dX2_settled_6 : decode cX2_settled 6 = .ok (.istore_n 2, 1) := by decide +kernel
theorem dX2_settled_7 : decode cX2_settled 7 = .ok (.iload_n 2, 1) := by decide +kernel
theorem dX2_settled_8 : decode cX2_settled 8 = .ok (.ifCond .eq 11, 3) := by decide +kernel
theorem dX2_settled_11 : decode cX2_settled 11 = .ok (.aload_n 0, 1) := by decide +kernel
theorem dX2_settled_12 : decode cX2_settled 12 = .ok (.invokevirtual 137, 3) := by decide +kernel
theorem dX2_settled_15 : decode cX2_settled 15 = .ok (.istore_n 2, 1) := by decide +kernel
theorem dX2_settled_16 : decode cX2_settled 16 = .ok (.goto (-9), 3) := by decide +kernel
theorem dX2_settled_19 : decode cX2_settled 19 = .ok (.aload_n 0, 1) := by decide +kernel
theorem dX2_settled_20 : decode cX2_settled 20 = .ok (.getfield 100, 3) := by decide +kernel
theorem dX2_settled_23 : decode cX2_settled 23 = .ok (.iload_n 1, 1) := by decide +kernel
theorem dX2_settled_24 : decode cX2_settled 24 = .ok (.isub, 1) := by decide +kernel
theorem dX2_settled_25 : decode cX2_settled 25 = .ok (.ireturn, 1) := by decide +kernel
set_option maxRecDepth 20000 in
theorem ggX2_settle_X2_settled : GoodIn wsX2_settle wsX2_settled := goodIn_r _ [6, 7, 8, 9, 10, 5, 11, 12, 13, 14, 15, 16, 17, 18, 19, 20, 21, 22, 23, 24, 25, 26, 27, 28, 29, 30, 31, 32, 33, 34, 35, 36, 37, 38, 39, 40, 41, 42, 43, 44, 45, 46, 47, 48, 49, 50, 51, 52, 53, 54, 55, 56, 57, 58, 59, 60, 61, 62, 63, 64, 65, 66, 67, 68, 69, 70, 71, 72, 73, 74, 75, 76, 77, 78, 79, 80, 81, 82, 83, 84, 85, 86, 87, 88] (by decide +kernel) (by decide +kernel)
set_option maxRecDepth 20000 in
theorem gX2_settle_X2_settled : GoodIn wsX2_settle (wsV RX2 141 RX2 yX2_settled wsX2_settled) := goodIn_app (goodIn_of _ (by decide +kernel)) ggX2_settle_X2_settled
theorem dX2_settle_0 : decode cX2_settle 0 = .ok (.aload_n 0, 1) := by decide +kernel
theorem dX2_settle_1 : decode cX2_settle 1 = .ok (.iconst 0, 1) := by decide +kernel
theorem dX2_settle_2 : decode cX2_settle 2 = .ok (.putfield 35, 3) := by decide +kernel
theorem dX2_settle_5 : decode cX2_settle 5 = .ok (.aload_n 0, 1) := by decide +kernel
theorem dX2_settle_6 : decode cX2_settle 6 = .ok (.invokevirtual 141, 3) := by decide +kernel
theorem dX2_settle_9 : decode cX2_settle 9 = .ok (.ireturn, 1) := by decide +kernel
set_option maxRecDepth 20000 in
theorem ggX2_edgesOf_X2_sides : GoodIn wsX2_edgesOf wsX2_sides := goodIn_r _ [6, 7, 8, 9, 10, 5, 11, 12, 13, 14, 15, 16, 17, 18, 19, 20, 21, 22, 23, 24, 25, 26, 27, 28, 29] (by decide +kernel) (by decide +kernel)
set_option maxRecDepth 20000 in
theorem gX2_edgesOf_X2_sides : GoodIn wsX2_edgesOf (wsV RX2 82 RX2 yX2_sides wsX2_sides) := goodIn_app (goodIn_of _ (by decide +kernel)) ggX2_edgesOf_X2_sides
theorem dX2_edgesOf_0 : decode cX2_edgesOf 0 = .ok (.iconst 0, 1) := by decide +kernel
theorem dX2_edgesOf_1 : decode cX2_edgesOf 1 = .ok (.istore_n 2, 1) := by decide +kernel
theorem dX2_edgesOf_2 : decode cX2_edgesOf 2 = .ok (.iconst 0, 1) := by decide +kernel
theorem dX2_edgesOf_3 : decode cX2_edgesOf 3 = .ok (.istore_n 3, 1) := by decide +kernel
theorem dX2_edgesOf_4 : decode cX2_edgesOf 4 = .ok (.iload_n 3, 1) := by decide +kernel
theorem dX2_edgesOf_5 : decode cX2_edgesOf 5 = .ok (.aload_n 0, 1) := by decide +kernel
theorem dX2_edgesOf_6 : decode cX2_edgesOf 6 = .ok (.getfield 7, 3) := by decide +kernel
theorem dX2_edgesOf_9 : decode cX2_edgesOf 9 = .ok (.if_icmp .ge 26, 3) := by decide +kernel
theorem dX2_edgesOf_12 : decode cX2_edgesOf 12 = .ok (.iload_n 2, 1) := by decide +kernel
theorem dX2_edgesOf_13 : decode cX2_edgesOf 13 = .ok (.aload_n 0, 1) := by decide +kernel
theorem dX2_edgesOf_14 : decode cX2_edgesOf 14 = .ok (.iload_n 1, 1) := by decide +kernel
theorem dX2_edgesOf_15 : decode cX2_edgesOf 15 = .ok (.iload_n 3, 1) := by decide +kernel
theorem dX2_edgesOf_16 : decode cX2_edgesOf 16 = .ok (.invokevirtual 82, 3) := by decide +kernel
theorem dX2_edgesOf_19 : decode cX2_edgesOf 19 = .ok (.ifCond .le 7, 3) := by decide +kernel
theorem dX2_edgesOf_22 : decode cX2_edgesOf 22 = .ok (.iconst 1, 1) := by decide +kernel
theorem dX2_edgesOf_23 : decode cX2_edgesOf 23 = .ok (.goto 4, 3) := by decide +kernel
theorem dX2_edgesOf_26 : decode cX2_edgesOf 26 = .ok (.iconst 0, 1) := by decide +kernel
theorem dX2_edgesOf_27 : decode cX2_edgesOf 27 = .ok (.iadd, 1) := by decide +kernel
theorem dX2_edgesOf_28 : decode cX2_edgesOf 28 = .ok (.istore_n 2, 1) := by decide +kernel
theorem dX2_edgesOf_29 : decode cX2_edgesOf 29 = .ok (.iinc 3 1, 3) := by decide +kernel
theorem dX2_edgesOf_32 : decode cX2_edgesOf 32 = .ok (.goto (-28), 3) := by decide +kernel
theorem dX2_edgesOf_35 : decode cX2_edgesOf 35 = .ok (.iload_n 2, 1) := by decide +kernel
theorem dX2_edgesOf_36 : decode cX2_edgesOf 36 = .ok (.ireturn, 1) := by decide +kernel
set_option maxRecDepth 20000 in
theorem ggX2_cairnTold_X2_edgesOf : GoodIn wsX2_cairnTold wsX2_edgesOf := goodIn_r _ [9, 10, 11, 12, 13, 8, 14, 4, 15, 16, 17, 18, 19, 20, 21, 22, 23, 24, 25, 26, 27, 28, 29, 30, 31, 32, 33, 34, 35, 36] (by decide +kernel) (by decide +kernel)
set_option maxRecDepth 20000 in
theorem gX2_cairnTold_X2_edgesOf : GoodIn wsX2_cairnTold (wsV RX2 145 RX2 yX2_edgesOf wsX2_edgesOf) := goodIn_app (goodIn_of _ (by decide +kernel)) ggX2_cairnTold_X2_edgesOf
set_option maxRecDepth 20000 in
theorem ggX2_cairnTold_X2_has : GoodIn wsX2_cairnTold wsX2_has := goodIn_r _ [22, 23, 24, 25, 8, 26, 27, 28, 29, 30, 31, 32, 33, 34, 35, 36] (by decide +kernel) (by decide +kernel)
set_option maxRecDepth 20000 in
theorem gX2_cairnTold_X2_has : GoodIn wsX2_cairnTold (wsV RX2 75 RX2 yX2_has wsX2_has) := goodIn_app (goodIn_of _ (by decide +kernel)) ggX2_cairnTold_X2_has
theorem dX2_cairnTold_0 : decode cX2_cairnTold 0 = .ok (.iload_n 2, 1) := by decide +kernel
theorem dX2_cairnTold_1 : decode cX2_cairnTold 1 = .ok (.iconst 4, 1) := by decide +kernel
theorem dX2_cairnTold_2 : decode cX2_cairnTold 2 = .ok (.if_icmp .ge 50, 3) := by decide +kernel
theorem dX2_cairnTold_5 : decode cX2_cairnTold 5 = .ok (.iload_n 2, 1) := by decide +kernel
theorem dX2_cairnTold_6 : decode cX2_cairnTold 6 = .ok (.ifCond .ne 12, 3) := by decide +kernel
theorem dX2_cairnTold_9 : decode cX2_cairnTold 9 = .ok (.aload_n 0, 1) := by decide +kernel
theorem dX2_cairnTold_10 : decode cX2_cairnTold 10 = .ok (.getfield 13, 3) := by decide +kernel
theorem dX2_cairnTold_13 : decode cX2_cairnTold 13 = .ok (.iload_n 1, 1) := by decide +kernel
theorem dX2_cairnTold_14 : decode cX2_cairnTold 14 = .ok (.iaload, 1) := by decide +kernel
theorem dX2_cairnTold_15 : decode cX2_cairnTold 15 = .ok (.goto 36, 3) := by decide +kernel
theorem dX2_cairnTold_18 : decode cX2_cairnTold 18 = .ok (.iload_n 2, 1) := by decide +kernel
theorem dX2_cairnTold_19 : decode cX2_cairnTold 19 = .ok (.iconst 1, 1) := by decide +kernel
theorem dX2_cairnTold_20 : decode cX2_cairnTold 20 = .ok (.if_icmp .ne 12, 3) := by decide +kernel
theorem dX2_cairnTold_23 : decode cX2_cairnTold 23 = .ok (.aload_n 0, 1) := by decide +kernel
theorem dX2_cairnTold_24 : decode cX2_cairnTold 24 = .ok (.getfield 17, 3) := by decide +kernel
theorem dX2_cairnTold_27 : decode cX2_cairnTold 27 = .ok (.iload_n 1, 1) := by decide +kernel
theorem dX2_cairnTold_28 : decode cX2_cairnTold 28 = .ok (.iaload, 1) := by decide +kernel
theorem dX2_cairnTold_29 : decode cX2_cairnTold 29 = .ok (.goto 22, 3) := by decide +kernel
theorem dX2_cairnTold_32 : decode cX2_cairnTold 32 = .ok (.iload_n 2, 1) := by decide +kernel
theorem dX2_cairnTold_33 : decode cX2_cairnTold 33 = .ok (.iconst 2, 1) := by decide +kernel
theorem dX2_cairnTold_34 : decode cX2_cairnTold 34 = .ok (.if_icmp .ne 12, 3) := by decide +kernel
theorem dX2_cairnTold_37 : decode cX2_cairnTold 37 = .ok (.aload_n 0, 1) := by decide +kernel
theorem dX2_cairnTold_38 : decode cX2_cairnTold 38 = .ok (.getfield 20, 3) := by decide +kernel
theorem dX2_cairnTold_41 : decode cX2_cairnTold 41 = .ok (.iload_n 1, 1) := by decide +kernel
theorem dX2_cairnTold_42 : decode cX2_cairnTold 42 = .ok (.iaload, 1) := by decide +kernel
theorem dX2_cairnTold_43 : decode cX2_cairnTold 43 = .ok (.goto 8, 3) := by decide +kernel
theorem dX2_cairnTold_46 : decode cX2_cairnTold 46 = .ok (.aload_n 0, 1) := by decide +kernel
theorem dX2_cairnTold_47 : decode cX2_cairnTold 47 = .ok (.iload_n 1, 1) := by decide +kernel
theorem dX2_cairnTold_48 : decode cX2_cairnTold 48 = .ok (.invokevirtual 145, 3) := by decide +kernel
theorem dX2_cairnTold_51 : decode cX2_cairnTold 51 = .ok (.ireturn, 1) := by decide +kernel
theorem dX2_cairnTold_52 : decode cX2_cairnTold 52 = .ok (.iconst 0, 1) := by decide +kernel
theorem dX2_cairnTold_53 : decode cX2_cairnTold 53 = .ok (.istore_n 3, 1) := by decide +kernel
theorem dX2_cairnTold_54 : decode cX2_cairnTold 54 = .ok (.iconst 0, 1) := by decide +kernel
theorem dX2_cairnTold_55 : decode cX2_cairnTold 55 = .ok (.istore 4, 2) := by decide +kernel
theorem dX2_cairnTold_57 : decode cX2_cairnTold 57 = .ok (.iload 4, 2) := by decide +kernel
theorem dX2_cairnTold_59 : decode cX2_cairnTold 59 = .ok (.aload_n 0, 1) := by decide +kernel
theorem dX2_cairnTold_60 : decode cX2_cairnTold 60 = .ok (.getfield 55, 3) := by decide +kernel
theorem dX2_cairnTold_63 : decode cX2_cairnTold 63 = .ok (.if_icmp .ge 27, 3) := by decide +kernel
theorem dX2_cairnTold_66 : decode cX2_cairnTold 66 = .ok (.iload_n 3, 1) := by decide +kernel
theorem dX2_cairnTold_67 : decode cX2_cairnTold 67 = .ok (.aload_n 0, 1) := by decide +kernel
theorem dX2_cairnTold_68 : decode cX2_cairnTold 68 = .ok (.iload 4, 2) := by decide +kernel
theorem dX2_cairnTold_70 : decode cX2_cairnTold 70 = .ok (.iload_n 1, 1) := by decide +kernel
theorem dX2_cairnTold_71 : decode cX2_cairnTold 71 = .ok (.invokevirtual 75, 3) := by decide +kernel
theorem dX2_cairnTold_74 : decode cX2_cairnTold 74 = .ok (.ifCond .eq 7, 3) := by decide +kernel
theorem dX2_cairnTold_77 : decode cX2_cairnTold 77 = .ok (.iconst 1, 1) := by decide +kernel
theorem dX2_cairnTold_78 : decode cX2_cairnTold 78 = .ok (.goto 4, 3) := by decide +kernel
theorem dX2_cairnTold_81 : decode cX2_cairnTold 81 = .ok (.iconst 0, 1) := by decide +kernel
theorem dX2_cairnTold_82 : decode cX2_cairnTold 82 = .ok (.iadd, 1) := by decide +kernel
theorem dX2_cairnTold_83 : decode cX2_cairnTold 83 = .ok (.istore_n 3, 1) := by decide +kernel
theorem dX2_cairnTold_84 : decode cX2_cairnTold 84 = .ok (.iinc 4 1, 3) := by decide +kernel
theorem dX2_cairnTold_87 : decode cX2_cairnTold 87 = .ok (.goto (-30), 3) := by decide +kernel
theorem dX2_cairnTold_90 : decode cX2_cairnTold 90 = .ok (.iload_n 3, 1) := by decide +kernel
theorem dX2_cairnTold_91 : decode cX2_cairnTold 91 = .ok (.ireturn, 1) := by decide +kernel
set_option maxRecDepth 20000 in
theorem ggX2_told_X2_isCairn : GoodIn wsX2_told wsX2_isCairn := goodIn_r _ [6, 7, 8, 9, 5, 10, 44, 45, 46, 47, 48, 49, 50, 51, 52] (by decide +kernel) (by decide +kernel)
set_option maxRecDepth 20000 in
theorem gX2_told_X2_isCairn : GoodIn wsX2_told (wsV RX2 124 RX2 yX2_isCairn wsX2_isCairn) := goodIn_app (goodIn_of _ (by decide +kernel)) ggX2_told_X2_isCairn
set_option maxRecDepth 20000 in
theorem ggX2_told_X2_isIn : GoodIn wsX2_told wsX2_isIn := goodIn_r _ [10] (by decide +kernel) (by decide +kernel)
set_option maxRecDepth 20000 in
theorem gX2_told_X2_isIn : GoodIn wsX2_told (va_wsS RX2 38 yX2_isIn wsX2_isIn) := goodIn_app (goodIn_of _ (by decide +kernel)) ggX2_told_X2_isIn
set_option maxRecDepth 20000 in
theorem ggX2_told_X2_cairnTold : GoodIn wsX2_told wsX2_cairnTold := goodIn_r _ [14, 15, 16, 17, 18, 19, 20, 21, 5, 22, 7, 23, 24, 25, 26, 27, 28, 29, 30, 31, 32, 33, 34, 35, 36, 37, 38, 39, 44, 45, 46, 47, 48, 49, 50, 51, 52] (by decide +kernel) (by decide +kernel)
set_option maxRecDepth 20000 in
theorem gX2_told_X2_cairnTold : GoodIn wsX2_told (wsV RX2 148 RX2 yX2_cairnTold wsX2_cairnTold) := goodIn_app (goodIn_of _ (by decide +kernel)) ggX2_told_X2_cairnTold
set_option maxRecDepth 20000 in
theorem ggX2_told_X2_fail : GoodIn wsX2_told wsX2_fail := goodIn_r _ [43, 1, 44, 45, 46, 47, 48, 49, 50, 51, 52] (by decide +kernel) (by decide +kernel)
set_option maxRecDepth 20000 in
theorem gX2_told_X2_fail : GoodIn wsX2_told (wsV RX2 115 RX2 yX2_fail wsX2_fail) := goodIn_app (goodIn_of _ (by decide +kernel)) ggX2_told_X2_fail
theorem dX2_told_0 : decode cX2_told 0 = .ok (.aload_n 0, 1) := by decide +kernel
theorem dX2_told_1 : decode cX2_told 1 = .ok (.iconst 0, 1) := by decide +kernel
theorem dX2_told_2 : decode cX2_told 2 = .ok (.putfield 35, 3) := by decide +kernel
theorem dX2_told_5 : decode cX2_told 5 = .ok (.aload_n 0, 1) := by decide +kernel
theorem dX2_told_6 : decode cX2_told 6 = .ok (.iload_n 1, 1) := by decide +kernel
theorem dX2_told_7 : decode cX2_told 7 = .ok (.invokevirtual 124, 3) := by decide +kernel
theorem dX2_told_10 : decode cX2_told 10 = .ok (.ifCond .eq 21, 3) := by decide +kernel
theorem dX2_told_13 : decode cX2_told 13 = .ok (.iload_n 2, 1) := by decide +kernel
theorem dX2_told_14 : decode cX2_told 14 = .ok (.iconst 0, 1) := by decide +kernel
theorem dX2_told_15 : decode cX2_told 15 = .ok (.iconst 4, 1) := by decide +kernel
theorem dX2_told_16 : decode cX2_told 16 = .ok (.invokestatic 38, 3) := by decide +kernel
theorem dX2_told_19 : decode cX2_told 19 = .ok (.ifCond .eq 12, 3) := by decide +kernel
theorem dX2_told_22 : decode cX2_told 22 = .ok (.aload_n 0, 1) := by decide +kernel
theorem dX2_told_23 : decode cX2_told 23 = .ok (.iload_n 1, 1) := by decide +kernel
theorem dX2_told_24 : decode cX2_told 24 = .ok (.iload_n 2, 1) := by decide +kernel
theorem dX2_told_25 : decode cX2_told 25 = .ok (.invokevirtual 148, 3) := by decide +kernel
theorem dX2_told_28 : decode cX2_told 28 = .ok (.goto 8, 3) := by decide +kernel
theorem dX2_told_31 : decode cX2_told 31 = .ok (.aload_n 0, 1) := by decide +kernel
theorem dX2_told_32 : decode cX2_told 32 = .ok (.iconst 1, 1) := by decide +kernel
theorem dX2_told_33 : decode cX2_told 33 = .ok (.invokevirtual 115, 3) := by decide +kernel
theorem dX2_told_36 : decode cX2_told 36 = .ok (.ireturn, 1) := by decide +kernel
set_option maxRecDepth 20000 in
theorem ggX2_triangleTold_X2_corner : GoodIn wsX2_triangleTold wsX2_corner := goodIn_r _ [5, 6, 21, 22, 23, 24, 25, 26, 27, 28, 29] (by decide +kernel) (by decide +kernel)
set_option maxRecDepth 20000 in
theorem gX2_triangleTold_X2_corner : GoodIn wsX2_triangleTold (wsV RX2 64 RX2 yX2_corner wsX2_corner) := goodIn_app (goodIn_of _ (by decide +kernel)) ggX2_triangleTold_X2_corner
set_option maxRecDepth 20000 in
theorem ggX2_triangleTold_X2_areaOf : GoodIn wsX2_triangleTold wsX2_areaOf := goodIn_r _ [10, 11, 12, 13, 14, 15, 16, 1, 2, 3, 4, 5, 6, 17, 18, 19, 20, 21, 22, 23, 24, 25, 26, 27, 28, 29] (by decide +kernel) (by decide +kernel)
set_option maxRecDepth 20000 in
theorem gX2_triangleTold_X2_areaOf : GoodIn wsX2_triangleTold (wsV RX2 103 RX2 yX2_areaOf wsX2_areaOf) := goodIn_app (goodIn_of _ (by decide +kernel)) ggX2_triangleTold_X2_areaOf
theorem dX2_triangleTold_0 : decode cX2_triangleTold 0 = .ok (.iload_n 2, 1) := by decide +kernel
theorem dX2_triangleTold_1 : decode cX2_triangleTold 1 = .ok (.iconst 3, 1) := by decide +kernel
theorem dX2_triangleTold_2 : decode cX2_triangleTold 2 = .ok (.if_icmp .ge 12, 3) := by decide +kernel
theorem dX2_triangleTold_5 : decode cX2_triangleTold 5 = .ok (.aload_n 0, 1) := by decide +kernel
theorem dX2_triangleTold_6 : decode cX2_triangleTold 6 = .ok (.iload_n 1, 1) := by decide +kernel
theorem dX2_triangleTold_7 : decode cX2_triangleTold 7 = .ok (.iload_n 2, 1) := by decide +kernel
theorem dX2_triangleTold_8 : decode cX2_triangleTold 8 = .ok (.invokevirtual 64, 3) := by decide +kernel
theorem dX2_triangleTold_11 : decode cX2_triangleTold 11 = .ok (.goto 8, 3) := by decide +kernel
theorem dX2_triangleTold_14 : decode cX2_triangleTold 14 = .ok (.aload_n 0, 1) := by decide +kernel
theorem dX2_triangleTold_15 : decode cX2_triangleTold 15 = .ok (.iload_n 1, 1) := by decide +kernel
theorem dX2_triangleTold_16 : decode cX2_triangleTold 16 = .ok (.invokevirtual 103, 3) := by decide +kernel
theorem dX2_triangleTold_19 : decode cX2_triangleTold 19 = .ok (.ireturn, 1) := by decide +kernel
set_option maxRecDepth 20000 in
theorem ggX2_triangle_X2_isIn : GoodIn wsX2_triangle wsX2_isIn := goodIn_r _ [6] (by decide +kernel) (by decide +kernel)
set_option maxRecDepth 20000 in
theorem gX2_triangle_X2_isIn : GoodIn wsX2_triangle (va_wsS RX2 38 yX2_isIn wsX2_isIn) := goodIn_app (goodIn_of _ (by decide +kernel)) ggX2_triangle_X2_isIn
set_option maxRecDepth 20000 in
theorem ggX2_triangle_X2_triangleTold : GoodIn wsX2_triangle wsX2_triangleTold := goodIn_r _ [10, 11, 12, 13, 5, 14, 15, 16, 17, 18, 19, 20, 21, 22, 23, 24, 25, 26, 27, 28, 29, 34, 35, 36, 37, 38, 39, 40, 41, 42] (by decide +kernel) (by decide +kernel)
set_option maxRecDepth 20000 in
theorem gX2_triangle_X2_triangleTold : GoodIn wsX2_triangle (wsV RX2 151 RX2 yX2_triangleTold wsX2_triangleTold) := goodIn_app (goodIn_of _ (by decide +kernel)) ggX2_triangle_X2_triangleTold
set_option maxRecDepth 20000 in
theorem ggX2_triangle_X2_fail : GoodIn wsX2_triangle wsX2_fail := goodIn_r _ [33, 1, 34, 35, 36, 37, 38, 39, 40, 41, 42] (by decide +kernel) (by decide +kernel)
set_option maxRecDepth 20000 in
theorem gX2_triangle_X2_fail : GoodIn wsX2_triangle (wsV RX2 115 RX2 yX2_fail wsX2_fail) := goodIn_app (goodIn_of _ (by decide +kernel)) ggX2_triangle_X2_fail
theorem dX2_triangle_0 : decode cX2_triangle 0 = .ok (.aload_n 0, 1) := by decide +kernel
theorem dX2_triangle_1 : decode cX2_triangle 1 = .ok (.iconst 0, 1) := by decide +kernel
theorem dX2_triangle_2 : decode cX2_triangle 2 = .ok (.putfield 35, 3) := by decide +kernel
theorem dX2_triangle_5 : decode cX2_triangle 5 = .ok (.iload_n 1, 1) := by decide +kernel
theorem dX2_triangle_6 : decode cX2_triangle 6 = .ok (.iconst 0, 1) := by decide +kernel
theorem dX2_triangle_7 : decode cX2_triangle 7 = .ok (.aload_n 0, 1) := by decide +kernel
theorem dX2_triangle_8 : decode cX2_triangle 8 = .ok (.getfield 55, 3) := by decide +kernel
theorem dX2_triangle_11 : decode cX2_triangle 11 = .ok (.iconst 1, 1) := by decide +kernel
theorem dX2_triangle_12 : decode cX2_triangle 12 = .ok (.isub, 1) := by decide +kernel
theorem dX2_triangle_13 : decode cX2_triangle 13 = .ok (.invokestatic 38, 3) := by decide +kernel
theorem dX2_triangle_16 : decode cX2_triangle 16 = .ok (.ifCond .eq 21, 3) := by decide +kernel
theorem dX2_triangle_19 : decode cX2_triangle 19 = .ok (.iload_n 2, 1) := by decide +kernel
theorem dX2_triangle_20 : decode cX2_triangle 20 = .ok (.iconst 0, 1) := by decide +kernel
theorem dX2_triangle_21 : decode cX2_triangle 21 = .ok (.iconst 3, 1) := by decide +kernel
theorem dX2_triangle_22 : decode cX2_triangle 22 = .ok (.invokestatic 38, 3) := by decide +kernel
theorem dX2_triangle_25 : decode cX2_triangle 25 = .ok (.ifCond .eq 12, 3) := by decide +kernel
theorem dX2_triangle_28 : decode cX2_triangle 28 = .ok (.aload_n 0, 1) := by decide +kernel
theorem dX2_triangle_29 : decode cX2_triangle 29 = .ok (.iload_n 1, 1) := by decide +kernel
theorem dX2_triangle_30 : decode cX2_triangle 30 = .ok (.iload_n 2, 1) := by decide +kernel
theorem dX2_triangle_31 : decode cX2_triangle 31 = .ok (.invokevirtual 151, 3) := by decide +kernel
theorem dX2_triangle_34 : decode cX2_triangle 34 = .ok (.goto 8, 3) := by decide +kernel
theorem dX2_triangle_37 : decode cX2_triangle 37 = .ok (.aload_n 0, 1) := by decide +kernel
theorem dX2_triangle_38 : decode cX2_triangle 38 = .ok (.iconst 1, 1) := by decide +kernel
theorem dX2_triangle_39 : decode cX2_triangle 39 = .ok (.invokevirtual 115, 3) := by decide +kernel
theorem dX2_triangle_42 : decode cX2_triangle 42 = .ok (.ireturn, 1) := by decide +kernel
set_option maxRecDepth 20000 in
theorem ggX2_edgeTold_X2_sides : GoodIn wsX2_edgeTold wsX2_sides := goodIn_r _ [6, 7, 8, 9, 10, 5, 11, 12, 13, 14, 15, 16, 17, 18, 19, 20, 43, 44, 45, 46, 47, 48, 49, 50, 51] (by decide +kernel) (by decide +kernel)
set_option maxRecDepth 20000 in
theorem gX2_edgeTold_X2_sides : GoodIn wsX2_edgeTold (wsV RX2 82 RX2 yX2_sides wsX2_sides) := goodIn_app (goodIn_of _ (by decide +kernel)) ggX2_edgeTold_X2_sides
set_option maxRecDepth 20000 in
theorem ggX2_edgeTold_X2_isUnfair : GoodIn wsX2_edgeTold wsX2_isUnfair := goodIn_r _ [24, 25, 26, 2, 3, 4, 5, 6, 7, 8, 9, 10, 11, 12, 13, 14, 15, 16, 17, 18, 19, 20, 27, 28, 29, 30, 31, 32, 33, 34, 35, 36, 37, 38, 43, 44, 45, 46, 47, 48, 49, 50, 51] (by decide +kernel) (by decide +kernel)
set_option maxRecDepth 20000 in
theorem gX2_edgeTold_X2_isUnfair : GoodIn wsX2_edgeTold (wsV RX2 134 RX2 yX2_isUnfair wsX2_isUnfair) := goodIn_app (goodIn_of _ (by decide +kernel)) ggX2_edgeTold_X2_isUnfair
set_option maxRecDepth 20000 in
theorem ggX2_edgeTold_X2_canFlip : GoodIn wsX2_edgeTold wsX2_canFlip := goodIn_r _ [42, 1, 25, 26, 2, 3, 4, 5, 6, 7, 8, 9, 10, 11, 12, 13, 14, 15, 16, 17, 18, 19, 20, 27, 28, 29, 30, 35, 36, 37, 38, 43, 44, 45, 46, 47, 48, 49, 50, 51] (by decide +kernel) (by decide +kernel)
set_option maxRecDepth 20000 in
theorem gX2_edgeTold_X2_canFlip : GoodIn wsX2_edgeTold (wsV RX2 128 RX2 yX2_canFlip wsX2_canFlip) := goodIn_app (goodIn_of _ (by decide +kernel)) ggX2_edgeTold_X2_canFlip
theorem dX2_edgeTold_0 : decode cX2_edgeTold 0 = .ok (.aload_n 0, 1) := by decide +kernel
theorem dX2_edgeTold_1 : decode cX2_edgeTold 1 = .ok (.iload_n 1, 1) := by decide +kernel
theorem dX2_edgeTold_2 : decode cX2_edgeTold 2 = .ok (.iload_n 2, 1) := by decide +kernel
theorem dX2_edgeTold_3 : decode cX2_edgeTold 3 = .ok (.invokevirtual 82, 3) := by decide +kernel
theorem dX2_edgeTold_6 : decode cX2_edgeTold 6 = .ok (.istore 4, 2) := by decide +kernel
theorem dX2_edgeTold_8 : decode cX2_edgeTold 8 = .ok (.iload_n 3, 1) := by decide +kernel
theorem dX2_edgeTold_9 : decode cX2_edgeTold 9 = .ok (.ifCond .ne 16, 3) := by decide +kernel
theorem dX2_edgeTold_12 : decode cX2_edgeTold 12 = .ok (.iload 4, 2) := by decide +kernel
theorem dX2_edgeTold_14 : decode cX2_edgeTold 14 = .ok (.ifCond .le 7, 3) := by decide +kernel
theorem dX2_edgeTold_17 : decode cX2_edgeTold 17 = .ok (.iconst 1, 1) := by decide +kernel
theorem dX2_edgeTold_18 : decode cX2_edgeTold 18 = .ok (.goto 62, 3) := by decide +kernel
theorem dX2_edgeTold_21 : decode cX2_edgeTold 21 = .ok (.iconst 0, 1) := by decide +kernel
theorem dX2_edgeTold_22 : decode cX2_edgeTold 22 = .ok (.goto 58, 3) := by decide +kernel
theorem dX2_edgeTold_25 : decode cX2_edgeTold 25 = .ok (.iload_n 3, 1) := by decide +kernel
theorem dX2_edgeTold_26 : decode cX2_edgeTold 26 = .ok (.iconst 1, 1) := by decide +kernel
theorem dX2_edgeTold_27 : decode cX2_edgeTold 27 = .ok (.if_icmp .ne 17, 3) := by decide +kernel
theorem dX2_edgeTold_30 : decode cX2_edgeTold 30 = .ok (.iload 4, 2) := by decide +kernel
theorem dX2_edgeTold_32 : decode cX2_edgeTold 32 = .ok (.iconst 1, 1) := by decide +kernel
theorem dX2_edgeTold_33 : decode cX2_edgeTold 33 = .ok (.if_icmp .ne 7, 3) := by decide +kernel
theorem dX2_edgeTold_36 : decode cX2_edgeTold 36 = .ok (.iconst 1, 1) := by decide +kernel
theorem dX2_edgeTold_37 : decode cX2_edgeTold 37 = .ok (.goto 43, 3) := by decide +kernel
theorem dX2_edgeTold_40 : decode cX2_edgeTold 40 = .ok (.iconst 0, 1) := by decide +kernel
theorem dX2_edgeTold_41 : decode cX2_edgeTold 41 = .ok (.goto 39, 3) := by decide +kernel
theorem dX2_edgeTold_44 : decode cX2_edgeTold 44 = .ok (.iload_n 3, 1) := by decide +kernel
theorem dX2_edgeTold_45 : decode cX2_edgeTold 45 = .ok (.iconst 2, 1) := by decide +kernel
theorem dX2_edgeTold_46 : decode cX2_edgeTold 46 = .ok (.if_icmp .ne 14, 3) := by decide +kernel
theorem dX2_edgeTold_49 : decode cX2_edgeTold 49 = .ok (.aload_n 0, 1) := by decide +kernel
theorem dX2_edgeTold_50 : decode cX2_edgeTold 50 = .ok (.getfield 28, 3) := by decide +kernel
theorem dX2_edgeTold_53 : decode cX2_edgeTold 53 = .ok (.iload_n 1, 1) := by decide +kernel
theorem dX2_edgeTold_54 : decode cX2_edgeTold 54 = .ok (.aaload, 1) := by decide +kernel
theorem dX2_edgeTold_55 : decode cX2_edgeTold 55 = .ok (.iload_n 2, 1) := by decide +kernel
theorem dX2_edgeTold_56 : decode cX2_edgeTold 56 = .ok (.baload, 1) := by decide +kernel
theorem dX2_edgeTold_57 : decode cX2_edgeTold 57 = .ok (.goto 23, 3) := by decide +kernel
theorem dX2_edgeTold_60 : decode cX2_edgeTold 60 = .ok (.iload_n 3, 1) := by decide +kernel
theorem dX2_edgeTold_61 : decode cX2_edgeTold 61 = .ok (.iconst 3, 1) := by decide +kernel
theorem dX2_edgeTold_62 : decode cX2_edgeTold 62 = .ok (.if_icmp .ne 12, 3) := by decide +kernel
theorem dX2_edgeTold_65 : decode cX2_edgeTold 65 = .ok (.aload_n 0, 1) := by decide +kernel
theorem dX2_edgeTold_66 : decode cX2_edgeTold 66 = .ok (.iload_n 1, 1) := by decide +kernel
theorem dX2_edgeTold_67 : decode cX2_edgeTold 67 = .ok (.iload_n 2, 1) := by decide +kernel
theorem dX2_edgeTold_68 : decode cX2_edgeTold 68 = .ok (.invokevirtual 134, 3) := by decide +kernel
theorem dX2_edgeTold_71 : decode cX2_edgeTold 71 = .ok (.goto 9, 3) := by decide +kernel
theorem dX2_edgeTold_74 : decode cX2_edgeTold 74 = .ok (.aload_n 0, 1) := by decide +kernel
theorem dX2_edgeTold_75 : decode cX2_edgeTold 75 = .ok (.iload_n 1, 1) := by decide +kernel
theorem dX2_edgeTold_76 : decode cX2_edgeTold 76 = .ok (.iload_n 2, 1) := by decide +kernel
theorem dX2_edgeTold_77 : decode cX2_edgeTold 77 = .ok (.invokevirtual 128, 3) := by decide +kernel
theorem dX2_edgeTold_80 : decode cX2_edgeTold 80 = .ok (.istore 5, 2) := by decide +kernel
theorem dX2_edgeTold_82 : decode cX2_edgeTold 82 = .ok (.iload 4, 2) := by decide +kernel
theorem dX2_edgeTold_84 : decode cX2_edgeTold 84 = .ok (.ifCond .le 12, 3) := by decide +kernel
theorem dX2_edgeTold_87 : decode cX2_edgeTold 87 = .ok (.iload 5, 2) := by decide +kernel
theorem dX2_edgeTold_89 : decode cX2_edgeTold 89 = .ok (.ifCond .eq 7, 3) := by decide +kernel
theorem dX2_edgeTold_92 : decode cX2_edgeTold 92 = .ok (.iconst 1, 1) := by decide +kernel
theorem dX2_edgeTold_93 : decode cX2_edgeTold 93 = .ok (.goto 4, 3) := by decide +kernel
theorem dX2_edgeTold_96 : decode cX2_edgeTold 96 = .ok (.iconst 0, 1) := by decide +kernel
theorem dX2_edgeTold_97 : decode cX2_edgeTold 97 = .ok (.ireturn, 1) := by decide +kernel
set_option maxRecDepth 20000 in
theorem ggX2_edge_X2_isCairn : GoodIn wsX2_edge wsX2_isCairn := goodIn_r _ [6, 7, 8, 9, 5, 10, 60, 61, 62, 63, 64, 65, 66, 67, 68] (by decide +kernel) (by decide +kernel)
set_option maxRecDepth 20000 in
theorem gX2_edge_X2_isCairn : GoodIn wsX2_edge (wsV RX2 124 RX2 yX2_isCairn wsX2_isCairn) := goodIn_app (goodIn_of _ (by decide +kernel)) ggX2_edge_X2_isCairn
set_option maxRecDepth 20000 in
theorem ggX2_edge_X2_isIn : GoodIn wsX2_edge wsX2_isIn := goodIn_r _ [10] (by decide +kernel) (by decide +kernel)
set_option maxRecDepth 20000 in
theorem gX2_edge_X2_isIn : GoodIn wsX2_edge (va_wsS RX2 38 yX2_isIn wsX2_isIn) := goodIn_app (goodIn_of _ (by decide +kernel)) ggX2_edge_X2_isIn
set_option maxRecDepth 20000 in
theorem ggX2_edge_X2_edgeTold : GoodIn wsX2_edge wsX2_edgeTold := goodIn_r _ [14, 15, 16, 17, 18, 5, 19, 20, 21, 22, 23, 24, 25, 26, 27, 28, 29, 30, 31, 32, 33, 34, 35, 36, 37, 38, 39, 40, 41, 42, 43, 44, 45, 46, 47, 48, 49, 50, 51, 52, 53, 54, 55, 60, 61, 62, 63, 64, 65, 66, 67, 68] (by decide +kernel) (by decide +kernel)
set_option maxRecDepth 20000 in
theorem gX2_edge_X2_edgeTold : GoodIn wsX2_edge (wsV RX2 154 RX2 yX2_edgeTold wsX2_edgeTold) := goodIn_app (goodIn_of _ (by decide +kernel)) ggX2_edge_X2_edgeTold
set_option maxRecDepth 20000 in
theorem ggX2_edge_X2_fail : GoodIn wsX2_edge wsX2_fail := goodIn_r _ [59, 1, 60, 61, 62, 63, 64, 65, 66, 67, 68] (by decide +kernel) (by decide +kernel)
set_option maxRecDepth 20000 in
theorem gX2_edge_X2_fail : GoodIn wsX2_edge (wsV RX2 115 RX2 yX2_fail wsX2_fail) := goodIn_app (goodIn_of _ (by decide +kernel)) ggX2_edge_X2_fail
theorem dX2_edge_0 : decode cX2_edge 0 = .ok (.aload_n 0, 1) := by decide +kernel
theorem dX2_edge_1 : decode cX2_edge 1 = .ok (.iconst 0, 1) := by decide +kernel
theorem dX2_edge_2 : decode cX2_edge 2 = .ok (.putfield 35, 3) := by decide +kernel
theorem dX2_edge_5 : decode cX2_edge 5 = .ok (.aload_n 0, 1) := by decide +kernel
theorem dX2_edge_6 : decode cX2_edge 6 = .ok (.iload_n 1, 1) := by decide +kernel
theorem dX2_edge_7 : decode cX2_edge 7 = .ok (.invokevirtual 124, 3) := by decide +kernel
theorem dX2_edge_10 : decode cX2_edge 10 = .ok (.ifCond .eq 30, 3) := by decide +kernel
theorem dX2_edge_13 : decode cX2_edge 13 = .ok (.aload_n 0, 1) := by decide +kernel
theorem dX2_edge_14 : decode cX2_edge 14 = .ok (.iload_n 2, 1) := by decide +kernel
theorem dX2_edge_15 : decode cX2_edge 15 = .ok (.invokevirtual 124, 3) := by decide +kernel
theorem dX2_edge_18 : decode cX2_edge 18 = .ok (.ifCond .eq 22, 3) := by decide +kernel
theorem dX2_edge_21 : decode cX2_edge 21 = .ok (.iload_n 3, 1) := by decide +kernel
theorem dX2_edge_22 : decode cX2_edge 22 = .ok (.iconst 0, 1) := by decide +kernel
theorem dX2_edge_23 : decode cX2_edge 23 = .ok (.iconst 4, 1) := by decide +kernel
theorem dX2_edge_24 : decode cX2_edge 24 = .ok (.invokestatic 38, 3) := by decide +kernel
theorem dX2_edge_27 : decode cX2_edge 27 = .ok (.ifCond .eq 13, 3) := by decide +kernel
theorem dX2_edge_30 : decode cX2_edge 30 = .ok (.aload_n 0, 1) := by decide +kernel
theorem dX2_edge_31 : decode cX2_edge 31 = .ok (.iload_n 1, 1) := by decide +kernel
theorem dX2_edge_32 : decode cX2_edge 32 = .ok (.iload_n 2, 1) := by decide +kernel
theorem dX2_edge_33 : decode cX2_edge 33 = .ok (.iload_n 3, 1) := by decide +kernel
theorem dX2_edge_34 : decode cX2_edge 34 = .ok (.invokevirtual 154, 3) := by decide +kernel
theorem dX2_edge_37 : decode cX2_edge 37 = .ok (.goto 8, 3) := by decide +kernel
theorem dX2_edge_40 : decode cX2_edge 40 = .ok (.aload_n 0, 1) := by decide +kernel
theorem dX2_edge_41 : decode cX2_edge 41 = .ok (.iconst 1, 1) := by decide +kernel
theorem dX2_edge_42 : decode cX2_edge 42 = .ok (.invokevirtual 115, 3) := by decide +kernel
theorem dX2_edge_45 : decode cX2_edge 45 = .ok (.ireturn, 1) := by decide +kernel
set_option maxRecDepth 20000 in
theorem ggX2_edges_X2_edgeTold : GoodIn wsX2_edges wsX2_edgeTold := goodIn_r _ [6, 7, 8, 9, 10, 5, 11, 12, 13, 14, 15, 16, 17, 18, 19, 20, 21, 22, 23, 24, 25, 26, 27, 28, 29, 30, 31, 32, 33, 34, 35, 36, 37, 38, 39, 40, 41, 42, 43, 44, 45, 46, 47, 48, 49, 50, 51, 52, 53, 54, 55, 56] (by decide +kernel) (by decide +kernel)
set_option maxRecDepth 20000 in
theorem gX2_edges_X2_edgeTold : GoodIn wsX2_edges (wsV RX2 154 RX2 yX2_edgeTold wsX2_edgeTold) := goodIn_app (goodIn_of _ (by decide +kernel)) ggX2_edges_X2_edgeTold
theorem dX2_edges_0 : decode cX2_edges 0 = .ok (.iconst 0, 1) := by decide +kernel
theorem dX2_edges_1 : decode cX2_edges 1 = .ok (.istore_n 2, 1) := by decide +kernel
theorem dX2_edges_2 : decode cX2_edges 2 = .ok (.iconst 0, 1) := by decide +kernel
theorem dX2_edges_3 : decode cX2_edges 3 = .ok (.istore_n 3, 1) := by decide +kernel
theorem dX2_edges_4 : decode cX2_edges 4 = .ok (.iload_n 3, 1) := by decide +kernel
theorem dX2_edges_5 : decode cX2_edges 5 = .ok (.aload_n 0, 1) := by decide +kernel
theorem dX2_edges_6 : decode cX2_edges 6 = .ok (.getfield 7, 3) := by decide +kernel
theorem dX2_edges_9 : decode cX2_edges 9 = .ok (.if_icmp .ge 40, 3) := by decide +kernel
theorem dX2_edges_12 : decode cX2_edges 12 = .ok (.iload_n 3, 1) := by decide +kernel
theorem dX2_edges_13 : decode cX2_edges 13 = .ok (.iconst 1, 1) := by decide +kernel
theorem dX2_edges_14 : decode cX2_edges 14 = .ok (.iadd, 1) := by decide +kernel
theorem dX2_edges_15 : decode cX2_edges 15 = .ok (.istore 4, 2) := by decide +kernel
theorem dX2_edges_17 : decode cX2_edges 17 = .ok (.iload 4, 2) := by decide +kernel
theorem dX2_edges_19 : decode cX2_edges 19 = .ok (.aload_n 0, 1) := by decide +kernel
theorem dX2_edges_20 : decode cX2_edges 20 = .ok (.getfield 7, 3) := by decide +kernel
theorem dX2_edges_23 : decode cX2_edges 23 = .ok (.if_icmp .ge 20, 3) := by decide +kernel
theorem dX2_edges_26 : decode cX2_edges 26 = .ok (.iload_n 2, 1) := by decide +kernel
theorem dX2_edges_27 : decode cX2_edges 27 = .ok (.aload_n 0, 1) := by decide +kernel
theorem dX2_edges_28 : decode cX2_edges 28 = .ok (.iload_n 3, 1) := by decide +kernel
theorem dX2_edges_29 : decode cX2_edges 29 = .ok (.iload 4, 2) := by decide +kernel
theorem dX2_edges_31 : decode cX2_edges 31 = .ok (.iload_n 1, 1) := by decide +kernel
theorem dX2_edges_32 : decode cX2_edges 32 = .ok (.invokevirtual 154, 3) := by decide +kernel
theorem dX2_edges_35 : decode cX2_edges 35 = .ok (.iadd, 1) := by decide +kernel
theorem dX2_edges_36 : decode cX2_edges 36 = .ok (.istore_n 2, 1) := by decide +kernel
theorem dX2_edges_37 : decode cX2_edges 37 = .ok (.iinc 4 1, 3) := by decide +kernel
theorem dX2_edges_40 : decode cX2_edges 40 = .ok (.goto (-23), 3) := by decide +kernel
theorem dX2_edges_43 : decode cX2_edges 43 = .ok (.iinc 3 1, 3) := by decide +kernel
theorem dX2_edges_46 : decode cX2_edges 46 = .ok (.goto (-42), 3) := by decide +kernel
theorem dX2_edges_49 : decode cX2_edges 49 = .ok (.iload_n 2, 1) := by decide +kernel
theorem dX2_edges_50 : decode cX2_edges 50 = .ok (.ireturn, 1) := by decide +kernel
set_option maxRecDepth 20000 in
theorem ggX2_counted_X2_edges : GoodIn wsX2_counted wsX2_edges := goodIn_r _ [8, 1, 9, 10, 11, 7, 12, 13, 14, 15, 16, 17, 2, 18, 19, 20, 21, 22, 23, 24, 25, 26, 27, 28, 29, 30, 31, 32, 33, 34, 35, 36, 37, 38, 39, 40, 41, 42, 43, 44, 45, 46, 47, 48, 49, 50, 51, 52, 53, 54, 55, 56, 57, 58, 59, 60, 61] (by decide +kernel) (by decide +kernel)
set_option maxRecDepth 20000 in
theorem gX2_counted_X2_edges : GoodIn wsX2_counted (wsV RX2 157 RX2 yX2_edges wsX2_edges) := goodIn_app (goodIn_of _ (by decide +kernel)) ggX2_counted_X2_edges
theorem dX2_counted_0 : decode cX2_counted 0 = .ok (.iload_n 1, 1) := by decide +kernel
theorem dX2_counted_1 : decode cX2_counted 1 = .ok (.ifCond .ne 10, 3) := by decide +kernel
theorem dX2_counted_4 : decode cX2_counted 4 = .ok (.aload_n 0, 1) := by decide +kernel
theorem dX2_counted_5 : decode cX2_counted 5 = .ok (.getfield 7, 3) := by decide +kernel
theorem dX2_counted_8 : decode cX2_counted 8 = .ok (.goto 35, 3) := by decide +kernel
theorem dX2_counted_11 : decode cX2_counted 11 = .ok (.iload_n 1, 1) := by decide +kernel
theorem dX2_counted_12 : decode cX2_counted 12 = .ok (.iconst 1, 1) := by decide +kernel
theorem dX2_counted_13 : decode cX2_counted 13 = .ok (.if_icmp .ne 10, 3) := by decide +kernel
theorem dX2_counted_16 : decode cX2_counted 16 = .ok (.aload_n 0, 1) := by decide +kernel
theorem dX2_counted_17 : decode cX2_counted 17 = .ok (.getfield 55, 3) := by decide +kernel
theorem dX2_counted_20 : decode cX2_counted 20 = .ok (.goto 23, 3) := by decide +kernel
theorem dX2_counted_23 : decode cX2_counted 23 = .ok (.iload_n 1, 1) := by decide +kernel
theorem dX2_counted_24 : decode cX2_counted 24 = .ok (.bipush 6, 2) := by decide +kernel
theorem dX2_counted_26 : decode cX2_counted 26 = .ok (.if_icmp .ne 10, 3) := by decide +kernel
theorem dX2_counted_29 : decode cX2_counted 29 = .ok (.aload_n 0, 1) := by decide +kernel
theorem dX2_counted_30 : decode cX2_counted 30 = .ok (.getfield 100, 3) := by decide +kernel
theorem dX2_counted_33 : decode cX2_counted 33 = .ok (.goto 10, 3) := by decide +kernel
theorem dX2_counted_36 : decode cX2_counted 36 = .ok (.aload_n 0, 1) := by decide +kernel
theorem dX2_counted_37 : decode cX2_counted 37 = .ok (.iload_n 1, 1) := by decide +kernel
theorem dX2_counted_38 : decode cX2_counted 38 = .ok (.iconst 2, 1) := by decide +kernel
theorem dX2_counted_39 : decode cX2_counted 39 = .ok (.isub, 1) := by decide +kernel
theorem dX2_counted_40 : decode cX2_counted 40 = .ok (.invokevirtual 157, 3) := by decide +kernel
theorem dX2_counted_43 : decode cX2_counted 43 = .ok (.ireturn, 1) := by decide +kernel
set_option maxRecDepth 20000 in
theorem ggX2_count_X2_isIn : GoodIn wsX2_count wsX2_isIn := goodIn_r _ [5] (by decide +kernel) (by decide +kernel)
set_option maxRecDepth 20000 in
theorem gX2_count_X2_isIn : GoodIn wsX2_count (va_wsS RX2 38 yX2_isIn wsX2_isIn) := goodIn_app (goodIn_of _ (by decide +kernel)) ggX2_count_X2_isIn
set_option maxRecDepth 20000 in
theorem ggX2_count_X2_counted : GoodIn wsX2_count wsX2_counted := goodIn_r _ [9, 10, 11, 12, 13, 14, 15, 4, 16, 17, 18, 19, 20, 21, 22, 23, 24, 25, 26, 27, 28, 29, 30, 31, 32, 33, 34, 35, 36, 37, 38, 39, 40, 41, 42, 43, 44, 45, 46, 47, 48, 49, 50, 51, 52, 53, 54, 55, 56, 57, 58, 59, 60, 65, 66, 67, 68, 69, 70, 71, 72, 73] (by decide +kernel) (by decide +kernel)
set_option maxRecDepth 20000 in
theorem gX2_count_X2_counted : GoodIn wsX2_count (wsV RX2 160 RX2 yX2_counted wsX2_counted) := goodIn_app (goodIn_of _ (by decide +kernel)) ggX2_count_X2_counted
set_option maxRecDepth 20000 in
theorem ggX2_count_X2_fail : GoodIn wsX2_count wsX2_fail := goodIn_r _ [64, 1, 65, 66, 67, 68, 69, 70, 71, 72, 73] (by decide +kernel) (by decide +kernel)
set_option maxRecDepth 20000 in
theorem gX2_count_X2_fail : GoodIn wsX2_count (wsV RX2 115 RX2 yX2_fail wsX2_fail) := goodIn_app (goodIn_of _ (by decide +kernel)) ggX2_count_X2_fail
theorem dX2_count_0 : decode cX2_count 0 = .ok (.aload_n 0, 1) := by decide +kernel
theorem dX2_count_1 : decode cX2_count 1 = .ok (.iconst 0, 1) := by decide +kernel
theorem dX2_count_2 : decode cX2_count 2 = .ok (.putfield 35, 3) := by decide +kernel
theorem dX2_count_5 : decode cX2_count 5 = .ok (.iload_n 1, 1) := by decide +kernel
theorem dX2_count_6 : decode cX2_count 6 = .ok (.iconst 0, 1) := by decide +kernel
theorem dX2_count_7 : decode cX2_count 7 = .ok (.bipush 6, 2) := by decide +kernel
theorem dX2_count_9 : decode cX2_count 9 = .ok (.invokestatic 38, 3) := by decide +kernel
theorem dX2_count_12 : decode cX2_count 12 = .ok (.ifCond .eq 11, 3) := by decide +kernel
theorem dX2_count_15 : decode cX2_count 15 = .ok (.aload_n 0, 1) := by decide +kernel
theorem dX2_count_16 : decode cX2_count 16 = .ok (.iload_n 1, 1) := by decide +kernel
theorem dX2_count_17 : decode cX2_count 17 = .ok (.invokevirtual 160, 3) := by decide +kernel
theorem dX2_count_20 : decode cX2_count 20 = .ok (.goto 8, 3) := by decide +kernel
theorem dX2_count_23 : decode cX2_count 23 = .ok (.aload_n 0, 1) := by decide +kernel
theorem dX2_count_24 : decode cX2_count 24 = .ok (.iconst 1, 1) := by decide +kernel
theorem dX2_count_25 : decode cX2_count 25 = .ok (.invokevirtual 115, 3) := by decide +kernel
theorem dX2_count_28 : decode cX2_count 28 = .ok (.ireturn, 1) := by decide +kernel
set_option maxRecDepth 20000 in
theorem ggX2_at_X2_isPlace : GoodIn wsX2_at wsX2_isPlace := goodIn_r _ [5, 6, 7, 4, 8] (by decide +kernel) (by decide +kernel)
set_option maxRecDepth 20000 in
theorem gX2_at_X2_isPlace : GoodIn wsX2_at (va_wsS RX2 112 yX2_isPlace wsX2_isPlace) := goodIn_app (goodIn_of _ (by decide +kernel)) ggX2_at_X2_isPlace
set_option maxRecDepth 20000 in
theorem ggX2_at_X2_lies : GoodIn wsX2_at wsX2_lies := goodIn_r _ [12, 13, 14, 15, 4, 16, 17, 18, 19, 20, 21, 22, 23, 24, 25, 26, 27, 28, 29, 30, 31, 32, 33, 34, 35, 40, 41, 42, 43, 44, 45, 46, 47, 48] (by decide +kernel) (by decide +kernel)
set_option maxRecDepth 20000 in
theorem gX2_at_X2_lies : GoodIn wsX2_at (wsV RX2 163 RX2 yX2_lies wsX2_lies) := goodIn_app (goodIn_of _ (by decide +kernel)) ggX2_at_X2_lies
set_option maxRecDepth 20000 in
theorem ggX2_at_X2_fail : GoodIn wsX2_at wsX2_fail := goodIn_r _ [39, 1, 40, 41, 42, 43, 44, 45, 46, 47, 48] (by decide +kernel) (by decide +kernel)
set_option maxRecDepth 20000 in
theorem gX2_at_X2_fail : GoodIn wsX2_at (wsV RX2 115 RX2 yX2_fail wsX2_fail) := goodIn_app (goodIn_of _ (by decide +kernel)) ggX2_at_X2_fail
theorem dX2_at_0 : decode cX2_at 0 = .ok (.aload_n 0, 1) := by decide +kernel
theorem dX2_at_1 : decode cX2_at 1 = .ok (.iconst 0, 1) := by decide +kernel
theorem dX2_at_2 : decode cX2_at 2 = .ok (.putfield 35, 3) := by decide +kernel
theorem dX2_at_5 : decode cX2_at 5 = .ok (.iload_n 1, 1) := by decide +kernel
theorem dX2_at_6 : decode cX2_at 6 = .ok (.iload_n 2, 1) := by decide +kernel
theorem dX2_at_7 : decode cX2_at 7 = .ok (.invokestatic 112, 3) := by decide +kernel
theorem dX2_at_10 : decode cX2_at 10 = .ok (.ifCond .eq 12, 3) := by decide +kernel
theorem dX2_at_13 : decode cX2_at 13 = .ok (.aload_n 0, 1) := by decide +kernel
theorem dX2_at_14 : decode cX2_at 14 = .ok (.iload_n 1, 1) := by decide +kernel
theorem dX2_at_15 : decode cX2_at 15 = .ok (.iload_n 2, 1) := by decide +kernel
theorem dX2_at_16 : decode cX2_at 16 = .ok (.invokevirtual 163, 3) := by decide +kernel
theorem dX2_at_19 : decode cX2_at 19 = .ok (.goto 8, 3) := by decide +kernel
theorem dX2_at_22 : decode cX2_at 22 = .ok (.aload_n 0, 1) := by decide +kernel
theorem dX2_at_23 : decode cX2_at 23 = .ok (.iconst 1, 1) := by decide +kernel
theorem dX2_at_24 : decode cX2_at 24 = .ok (.invokevirtual 115, 3) := by decide +kernel
theorem dX2_at_27 : decode cX2_at 27 = .ok (.ireturn, 1) := by decide +kernel
set_option maxRecDepth 20000 in
theorem ggX2_height_X2_isPlace : GoodIn wsX2_height wsX2_isPlace := goodIn_r _ [10, 11, 12, 9, 13] (by decide +kernel) (by decide +kernel)
set_option maxRecDepth 20000 in
theorem gX2_height_X2_isPlace : GoodIn wsX2_height (va_wsS RX2 112 yX2_isPlace wsX2_isPlace) := goodIn_app (goodIn_of _ (by decide +kernel)) ggX2_height_X2_isPlace
set_option maxRecDepth 20000 in
theorem ggX2_height_X2_fail : GoodIn wsX2_height wsX2_fail := goodIn_r _ [17, 1, 41, 42, 43, 44, 45, 46, 47, 48, 49] (by decide +kernel) (by decide +kernel)
set_option maxRecDepth 20000 in
theorem gX2_height_X2_fail : GoodIn wsX2_height (wsV RX2 115 RX2 yX2_fail wsX2_fail) := goodIn_app (goodIn_of _ (by decide +kernel)) ggX2_height_X2_fail
set_option maxRecDepth 20000 in
theorem ggX2_height_X2_lies : GoodIn wsX2_height wsX2_lies := goodIn_r _ [21, 22, 23, 24, 9, 25, 3, 4, 5, 6, 26, 27, 28, 29, 30, 31, 32, 33, 34, 35, 36, 37, 38, 39, 40, 41, 42, 43, 44, 45, 46, 47, 48, 49] (by decide +kernel) (by decide +kernel)
set_option maxRecDepth 20000 in
theorem gX2_height_X2_lies : GoodIn wsX2_height (wsV RX2 163 RX2 yX2_lies wsX2_lies) := goodIn_app (goodIn_of _ (by decide +kernel)) ggX2_height_X2_lies
set_option maxRecDepth 20000 in
theorem ggX2_height_X2_corner : GoodIn wsX2_height wsX2_corner := goodIn_r _ [29, 30, 41, 42, 43, 44, 45, 46, 47, 48, 49] (by decide +kernel) (by decide +kernel)
set_option maxRecDepth 20000 in
theorem gX2_height_X2_corner : GoodIn wsX2_height (wsV RX2 64 RX2 yX2_corner wsX2_corner) := goodIn_app (goodIn_of _ (by decide +kernel)) ggX2_height_X2_corner
set_option maxRecDepth 20000 in
theorem ggX2_height_X2_area : GoodIn wsX2_height wsX2_area := goodIn_r _ [34, 35, 36, 41, 42, 43, 44, 45, 46, 47, 48, 49] (by decide +kernel) (by decide +kernel)
set_option maxRecDepth 20000 in
theorem gX2_height_X2_area : GoodIn wsX2_height (wsV RX2 67 RX2 yX2_area wsX2_area) := goodIn_app (goodIn_of _ (by decide +kernel)) ggX2_height_X2_area
set_option maxRecDepth 20000 in
theorem ggX2_height_X2_areaOf : GoodIn wsX2_height wsX2_areaOf := goodIn_r _ [40, 35, 36, 3, 4, 5, 6, 26, 27, 28, 9, 29, 30, 31, 32, 33, 34, 41, 42, 43, 44, 45, 46, 47, 48, 49] (by decide +kernel) (by decide +kernel)
set_option maxRecDepth 20000 in
theorem gX2_height_X2_areaOf : GoodIn wsX2_height (wsV RX2 103 RX2 yX2_areaOf wsX2_areaOf) := goodIn_app (goodIn_of _ (by decide +kernel)) ggX2_height_X2_areaOf
theorem dX2_height_0 : decode cX2_height 0 = .ok (.aload_n 0, 1) := by decide +kernel
theorem dX2_height_1 : decode cX2_height 1 = .ok (.iconst 0, 1) := by decide +kernel
theorem dX2_height_2 : decode cX2_height 2 = .ok (.putfield 35, 3) := by decide +kernel
theorem dX2_height_5 : decode cX2_height 5 = .ok (.iload_n 1, 1) := by decide +kernel
theorem dX2_height_6 : decode cX2_height 6 = .ok (.iload_n 2, 1) := by decide +kernel
theorem dX2_height_7 : decode cX2_height 7 = .ok (.invokestatic 112, 3) := by decide +kernel
theorem dX2_height_10 : decode cX2_height 10 = .ok (.ifCond .ne 9, 3) := by decide +kernel
theorem dX2_height_13 : decode cX2_height 13 = .ok (.aload_n 0, 1) := by decide +kernel
theorem dX2_height_14 : decode cX2_height 14 = .ok (.iconst 1, 1) := by decide +kernel
theorem dX2_height_15 : decode cX2_height 15 = .ok (.invokevirtual 115, 3) := by decide +kernel
theorem dX2_height_18 : decode cX2_height 18 = .ok (.ireturn, 1) := by decide +kernel
theorem dX2_height_19 : decode cX2_height 19 = .ok (.aload_n 0, 1) := by decide +kernel
theorem dX2_height_20 : decode cX2_height 20 = .ok (.iload_n 1, 1) := by decide +kernel
theorem dX2_height_21 : decode cX2_height 21 = .ok (.iload_n 2, 1) := by decide +kernel
theorem dX2_height_22 : decode cX2_height 22 = .ok (.invokevirtual 163, 3) := by decide +kernel
theorem dX2_height_25 : decode cX2_height 25 = .ok (.istore_n 3, 1) := by decide +kernel
theorem dX2_height_26 : decode cX2_height 26 = .ok (.iconst 0, 1) := by decide +kernel
theorem dX2_height_27 : decode cX2_height 27 = .ok (.istore 4, 2) := by decide +kernel
theorem dX2_height_29 : decode cX2_height 29 = .ok (.iconst 0, 1) := by decide +kernel
theorem dX2_height_30 : decode cX2_height 30 = .ok (.istore 5, 2) := by decide +kernel
theorem dX2_height_32 : decode cX2_height 32 = .ok (.iload 5, 2) := by decide +kernel
theorem dX2_height_34 : decode cX2_height 34 = .ok (.iconst 3, 1) := by decide +kernel
theorem dX2_height_35 : decode cX2_height 35 = .ok (.if_icmp .ge 58, 3) := by decide +kernel
theorem dX2_height_38 : decode cX2_height 38 = .ok (.iload 4, 2) := by decide +kernel
theorem dX2_height_40 : decode cX2_height 40 = .ok (.aload_n 0, 1) := by decide +kernel
theorem dX2_height_41 : decode cX2_height 41 = .ok (.getfield 20, 3) := by decide +kernel
theorem dX2_height_44 : decode cX2_height 44 = .ok (.aload_n 0, 1) := by decide +kernel
theorem dX2_height_45 : decode cX2_height 45 = .ok (.iload_n 3, 1) := by decide +kernel
theorem dX2_height_46 : decode cX2_height 46 = .ok (.iload 5, 2) := by decide +kernel
theorem dX2_height_48 : decode cX2_height 48 = .ok (.invokevirtual 64, 3) := by decide +kernel
theorem dX2_height_51 : decode cX2_height 51 = .ok (.iaload, 1) := by decide +kernel
theorem dX2_height_52 : decode cX2_height 52 = .ok (.aload_n 0, 1) := by decide +kernel
theorem dX2_height_53 : decode cX2_height 53 = .ok (.aload_n 0, 1) := by decide +kernel
theorem dX2_height_54 : decode cX2_height 54 = .ok (.iload_n 3, 1) := by decide +kernel
theorem dX2_height_55 : decode cX2_height 55 = .ok (.iload 5, 2) := by decide +kernel
theorem dX2_height_57 : decode cX2_height 57 = .ok (.iconst 1, 1) := by decide +kernel
theorem dX2_height_58 : decode cX2_height 58 = .ok (.iadd, 1) := by decide +kernel
theorem dX2_height_59 : decode cX2_height 59 = .ok (.iconst 3, 1) := by decide +kernel
theorem dX2_height_60 : decode cX2_height 60 = .ok (.irem, 1) := by decide +kernel
theorem dX2_height_61 : decode cX2_height 61 = .ok (.invokevirtual 64, 3) := by decide +kernel
theorem dX2_height_64 : decode cX2_height 64 = .ok (.aload_n 0, 1) := by decide +kernel
theorem dX2_height_65 : decode cX2_height 65 = .ok (.iload_n 3, 1) := by decide +kernel
theorem dX2_height_66 : decode cX2_height 66 = .ok (.iload 5, 2) := by decide +kernel
theorem dX2_height_68 : decode cX2_height 68 = .ok (.iconst 2, 1) := by decide +kernel
theorem dX2_height_69 : decode cX2_height 69 = .ok (.iadd, 1) := by decide +kernel
theorem dX2_height_70 : decode cX2_height 70 = .ok (.iconst 3, 1) := by decide +kernel
theorem dX2_height_71 : decode cX2_height 71 = .ok (.irem, 1) := by decide +kernel
theorem dX2_height_72 : decode cX2_height 72 = .ok (.invokevirtual 64, 3) := by decide +kernel
theorem dX2_height_75 : decode cX2_height 75 = .ok (.iload_n 1, 1) := by decide +kernel
theorem dX2_height_76 : decode cX2_height 76 = .ok (.iload_n 2, 1) := by decide +kernel
theorem dX2_height_77 : decode cX2_height 77 = .ok (.invokevirtual 67, 3) := by decide +kernel
theorem dX2_height_80 : decode cX2_height 80 = .ok (.invokestatic 71, 3) := by decide +kernel
theorem dX2_height_83 : decode cX2_height 83 = .ok (.imul, 1) := by decide +kernel
theorem dX2_height_84 : decode cX2_height 84 = .ok (.iadd, 1) := by decide +kernel
theorem dX2_height_85 : decode cX2_height 85 = .ok (.istore 4, 2) := by decide +kernel
theorem dX2_height_87 : decode cX2_height 87 = .ok (.iinc 5 1, 3) := by decide +kernel
theorem dX2_height_90 : decode cX2_height 90 = .ok (.goto (-58), 3) := by decide +kernel
theorem dX2_height_93 : decode cX2_height 93 = .ok (.iload 4, 2) := by decide +kernel
theorem dX2_height_95 : decode cX2_height 95 = .ok (.aload_n 0, 1) := by decide +kernel
theorem dX2_height_96 : decode cX2_height 96 = .ok (.iload_n 3, 1) := by decide +kernel
theorem dX2_height_97 : decode cX2_height 97 = .ok (.invokevirtual 103, 3) := by decide +kernel
theorem dX2_height_100 : decode cX2_height 100 = .ok (.idiv, 1) := by decide +kernel
theorem dX2_height_101 : decode cX2_height 101 = .ok (.ireturn, 1) := by decide +kernel
theorem dX2_apart_0 : decode cX2_apart 0 = .ok (.aload_n 0, 1) := by decide +kernel
theorem dX2_apart_1 : decode cX2_apart 1 = .ok (.getfield 13, 3) := by decide +kernel
theorem dX2_apart_4 : decode cX2_apart 4 = .ok (.iload_n 1, 1) := by decide +kernel
theorem dX2_apart_5 : decode cX2_apart 5 = .ok (.iaload, 1) := by decide +kernel
theorem dX2_apart_6 : decode cX2_apart 6 = .ok (.iload_n 2, 1) := by decide +kernel
theorem dX2_apart_7 : decode cX2_apart 7 = .ok (.isub, 1) := by decide +kernel
theorem dX2_apart_8 : decode cX2_apart 8 = .ok (.aload_n 0, 1) := by decide +kernel
theorem dX2_apart_9 : decode cX2_apart 9 = .ok (.getfield 13, 3) := by decide +kernel
theorem dX2_apart_12 : decode cX2_apart 12 = .ok (.iload_n 1, 1) := by decide +kernel
theorem dX2_apart_13 : decode cX2_apart 13 = .ok (.iaload, 1) := by decide +kernel
theorem dX2_apart_14 : decode cX2_apart 14 = .ok (.iload_n 2, 1) := by decide +kernel
theorem dX2_apart_15 : decode cX2_apart 15 = .ok (.isub, 1) := by decide +kernel
theorem dX2_apart_16 : decode cX2_apart 16 = .ok (.imul, 1) := by decide +kernel
theorem dX2_apart_17 : decode cX2_apart 17 = .ok (.aload_n 0, 1) := by decide +kernel
theorem dX2_apart_18 : decode cX2_apart 18 = .ok (.getfield 17, 3) := by decide +kernel
theorem dX2_apart_21 : decode cX2_apart 21 = .ok (.iload_n 1, 1) := by decide +kernel
theorem dX2_apart_22 : decode cX2_apart 22 = .ok (.iaload, 1) := by decide +kernel
theorem dX2_apart_23 : decode cX2_apart 23 = .ok (.iload_n 3, 1) := by decide +kernel
theorem dX2_apart_24 : decode cX2_apart 24 = .ok (.isub, 1) := by decide +kernel
theorem dX2_apart_25 : decode cX2_apart 25 = .ok (.aload_n 0, 1) := by decide +kernel
theorem dX2_apart_26 : decode cX2_apart 26 = .ok (.getfield 17, 3) := by decide +kernel
theorem dX2_apart_29 : decode cX2_apart 29 = .ok (.iload_n 1, 1) := by decide +kernel
theorem dX2_apart_30 : decode cX2_apart 30 = .ok (.iaload, 1) := by decide +kernel
theorem dX2_apart_31 : decode cX2_apart 31 = .ok (.iload_n 3, 1) := by decide +kernel
theorem dX2_apart_32 : decode cX2_apart 32 = .ok (.isub, 1) := by decide +kernel
theorem dX2_apart_33 : decode cX2_apart 33 = .ok (.imul, 1) := by decide +kernel
theorem dX2_apart_34 : decode cX2_apart 34 = .ok (.iadd, 1) := by decide +kernel
theorem dX2_apart_35 : decode cX2_apart 35 = .ok (.ireturn, 1) := by decide +kernel
set_option maxRecDepth 20000 in
theorem ggX2_nearest_X2_isPlace : GoodIn wsX2_nearest wsX2_isPlace := goodIn_r _ [6, 7, 8, 5, 9] (by decide +kernel) (by decide +kernel)
set_option maxRecDepth 20000 in
theorem gX2_nearest_X2_isPlace : GoodIn wsX2_nearest (va_wsS RX2 112 yX2_isPlace wsX2_isPlace) := goodIn_app (goodIn_of _ (by decide +kernel)) ggX2_nearest_X2_isPlace
set_option maxRecDepth 20000 in
theorem ggX2_nearest_X2_fail : GoodIn wsX2_nearest wsX2_fail := goodIn_r _ [13, 1, 20, 21, 22, 23, 24, 25, 26, 27, 28] (by decide +kernel) (by decide +kernel)
set_option maxRecDepth 20000 in
theorem gX2_nearest_X2_fail : GoodIn wsX2_nearest (wsV RX2 115 RX2 yX2_fail wsX2_fail) := goodIn_app (goodIn_of _ (by decide +kernel)) ggX2_nearest_X2_fail
set_option maxRecDepth 20000 in
theorem ggX2_nearest_X2_apart : GoodIn wsX2_nearest wsX2_apart := goodIn_r _ [17, 18, 19, 20, 21, 22, 23, 24, 25, 26, 27, 28] (by decide +kernel) (by decide +kernel)
set_option maxRecDepth 20000 in
theorem gX2_nearest_X2_apart : GoodIn wsX2_nearest (wsV RX2 166 RX2 yX2_apart wsX2_apart) := goodIn_app (goodIn_of _ (by decide +kernel)) ggX2_nearest_X2_apart
theorem dX2_nearest_0 : decode cX2_nearest 0 = .ok (.aload_n 0, 1) := by decide +kernel
theorem dX2_nearest_1 : decode cX2_nearest 1 = .ok (.iconst 0, 1) := by decide +kernel
theorem dX2_nearest_2 : decode cX2_nearest 2 = .ok (.putfield 35, 3) := by decide +kernel
theorem dX2_nearest_5 : decode cX2_nearest 5 = .ok (.iload_n 1, 1) := by decide +kernel
theorem dX2_nearest_6 : decode cX2_nearest 6 = .ok (.iload_n 2, 1) := by decide +kernel
theorem dX2_nearest_7 : decode cX2_nearest 7 = .ok (.invokestatic 112, 3) := by decide +kernel
theorem dX2_nearest_10 : decode cX2_nearest 10 = .ok (.ifCond .ne 9, 3) := by decide +kernel
theorem dX2_nearest_13 : decode cX2_nearest 13 = .ok (.aload_n 0, 1) := by decide +kernel
theorem dX2_nearest_14 : decode cX2_nearest 14 = .ok (.iconst 1, 1) := by decide +kernel
theorem dX2_nearest_15 : decode cX2_nearest 15 = .ok (.invokevirtual 115, 3) := by decide +kernel
theorem dX2_nearest_18 : decode cX2_nearest 18 = .ok (.ireturn, 1) := by decide +kernel
theorem dX2_nearest_19 : decode cX2_nearest 19 = .ok (.iconst 0, 1) := by decide +kernel
theorem dX2_nearest_20 : decode cX2_nearest 20 = .ok (.istore_n 3, 1) := by decide +kernel
theorem dX2_nearest_21 : decode cX2_nearest 21 = .ok (.iconst 1, 1) := by decide +kernel
theorem dX2_nearest_22 : decode cX2_nearest 22 = .ok (.istore 4, 2) := by decide +kernel
theorem dX2_nearest_24 : decode cX2_nearest 24 = .ok (.iload 4, 2) := by decide +kernel
theorem dX2_nearest_26 : decode cX2_nearest 26 = .ok (.aload_n 0, 1) := by decide +kernel
theorem dX2_nearest_27 : decode cX2_nearest 27 = .ok (.getfield 7, 3) := by decide +kernel
theorem dX2_nearest_30 : decode cX2_nearest 30 = .ok (.if_icmp .ge 30, 3) := by decide +kernel
theorem dX2_nearest_33 : decode cX2_nearest 33 = .ok (.aload_n 0, 1) := by decide +kernel
theorem dX2_nearest_34 : decode cX2_nearest 34 = .ok (.iload 4, 2) := by decide +kernel
theorem dX2_nearest_36 : decode cX2_nearest 36 = .ok (.iload_n 1, 1) := by decide +kernel
theorem dX2_nearest_37 : decode cX2_nearest 37 = .ok (.iload_n 2, 1) := by decide +kernel
theorem dX2_nearest_38 : decode cX2_nearest 38 = .ok (.invokevirtual 166, 3) := by decide +kernel
theorem dX2_nearest_41 : decode cX2_nearest 41 = .ok (.aload_n 0, 1) := by decide +kernel
theorem dX2_nearest_42 : decode cX2_nearest 42 = .ok (.iload_n 3, 1) := by decide +kernel
theorem dX2_nearest_43 : decode cX2_nearest 43 = .ok (.iload_n 1, 1) := by decide +kernel
theorem dX2_nearest_44 : decode cX2_nearest 44 = .ok (.iload_n 2, 1) := by decide +kernel
theorem dX2_nearest_45 : decode cX2_nearest 45 = .ok (.invokevirtual 166, 3) := by decide +kernel
theorem dX2_nearest_48 : decode cX2_nearest 48 = .ok (.if_icmp .ge 6, 3) := by decide +kernel
theorem dX2_nearest_51 : decode cX2_nearest 51 = .ok (.iload 4, 2) := by decide +kernel
theorem dX2_nearest_53 : decode cX2_nearest 53 = .ok (.istore_n 3, 1) := by decide +kernel
theorem dX2_nearest_54 : decode cX2_nearest 54 = .ok (.iinc 4 1, 3) := by decide +kernel
theorem dX2_nearest_57 : decode cX2_nearest 57 = .ok (.goto (-33), 3) := by decide +kernel
theorem dX2_nearest_60 : decode cX2_nearest 60 = .ok (.iload_n 3, 1) := by decide +kernel
theorem dX2_nearest_61 : decode cX2_nearest 61 = .ok (.ireturn, 1) := by decide +kernel
set_option maxRecDepth 20000 in
theorem ggX2_circles_X2_isPlace : GoodIn wsX2_circles wsX2_isPlace := goodIn_r _ [6, 7, 8, 5, 9] (by decide +kernel) (by decide +kernel)
set_option maxRecDepth 20000 in
theorem gX2_circles_X2_isPlace : GoodIn wsX2_circles (va_wsS RX2 112 yX2_isPlace wsX2_isPlace) := goodIn_app (goodIn_of _ (by decide +kernel)) ggX2_circles_X2_isPlace
set_option maxRecDepth 20000 in
theorem ggX2_circles_X2_fail : GoodIn wsX2_circles wsX2_fail := goodIn_r _ [13, 1, 29, 30, 31, 32, 33, 34, 35, 36, 37] (by decide +kernel) (by decide +kernel)
set_option maxRecDepth 20000 in
theorem gX2_circles_X2_fail : GoodIn wsX2_circles (wsV RX2 115 RX2 yX2_fail wsX2_fail) := goodIn_app (goodIn_of _ (by decide +kernel)) ggX2_circles_X2_fail
set_option maxRecDepth 20000 in
theorem ggX2_circles_X2_corner : GoodIn wsX2_circles wsX2_corner := goodIn_r _ [17, 18, 29, 30, 31, 32, 33, 34, 35, 36, 37] (by decide +kernel) (by decide +kernel)
set_option maxRecDepth 20000 in
theorem gX2_circles_X2_corner : GoodIn wsX2_circles (wsV RX2 64 RX2 yX2_corner wsX2_corner) := goodIn_app (goodIn_of _ (by decide +kernel)) ggX2_circles_X2_corner
set_option maxRecDepth 20000 in
theorem ggX2_circles_X2_isWithin : GoodIn wsX2_circles wsX2_isWithin := goodIn_r _ [22, 23, 24, 25, 26, 27, 5, 28, 29, 30, 31, 32, 33, 34, 35, 36, 37] (by decide +kernel) (by decide +kernel)
set_option maxRecDepth 20000 in
theorem gX2_circles_X2_isWithin : GoodIn wsX2_circles (wsV RX2 88 RX2 yX2_isWithin wsX2_isWithin) := goodIn_app (goodIn_of _ (by decide +kernel)) ggX2_circles_X2_isWithin
theorem dX2_circles_0 : decode cX2_circles 0 = .ok (.aload_n 0, 1) := by decide +kernel
theorem dX2_circles_1 : decode cX2_circles 1 = .ok (.iconst 0, 1) := by decide +kernel
theorem dX2_circles_2 : decode cX2_circles 2 = .ok (.putfield 35, 3) := by decide +kernel
theorem dX2_circles_5 : decode cX2_circles 5 = .ok (.iload_n 1, 1) := by decide +kernel
theorem dX2_circles_6 : decode cX2_circles 6 = .ok (.iload_n 2, 1) := by decide +kernel
theorem dX2_circles_7 : decode cX2_circles 7 = .ok (.invokestatic 112, 3) := by decide +kernel
theorem dX2_circles_10 : decode cX2_circles 10 = .ok (.ifCond .ne 9, 3) := by decide +kernel
theorem dX2_circles_13 : decode cX2_circles 13 = .ok (.aload_n 0, 1) := by decide +kernel
theorem dX2_circles_14 : decode cX2_circles 14 = .ok (.iconst 1, 1) := by decide +kernel
theorem dX2_circles_15 : decode cX2_circles 15 = .ok (.invokevirtual 115, 3) := by decide +kernel
theorem dX2_circles_18 : decode cX2_circles 18 = .ok (.ireturn, 1) := by decide +kernel
theorem dX2_circles_19 : decode cX2_circles 19 = .ok (.iconst 0, 1) := by decide +kernel
theorem dX2_circles_20 : decode cX2_circles 20 = .ok (.istore_n 3, 1) := by decide +kernel
theorem dX2_circles_21 : decode cX2_circles 21 = .ok (.iconst 0, 1) := by decide +kernel
theorem dX2_circles_22 : decode cX2_circles 22 = .ok (.istore 4, 2) := by decide +kernel
theorem dX2_circles_24 : decode cX2_circles 24 = .ok (.iload 4, 2) := by decide +kernel
theorem dX2_circles_26 : decode cX2_circles 26 = .ok (.aload_n 0, 1) := by decide +kernel
theorem dX2_circles_27 : decode cX2_circles 27 = .ok (.getfield 55, 3) := by decide +kernel
theorem dX2_circles_30 : decode cX2_circles 30 = .ok (.if_icmp .ge 47, 3) := by decide +kernel
theorem dX2_circles_33 : decode cX2_circles 33 = .ok (.iload_n 3, 1) := by decide +kernel
theorem dX2_circles_34 : decode cX2_circles 34 = .ok (.aload_n 0, 1) := by decide +kernel
theorem dX2_circles_35 : decode cX2_circles 35 = .ok (.aload_n 0, 1) := by decide +kernel
theorem dX2_circles_36 : decode cX2_circles 36 = .ok (.iload 4, 2) := by decide +kernel
theorem dX2_circles_38 : decode cX2_circles 38 = .ok (.iconst 0, 1) := by decide +kernel
theorem dX2_circles_39 : decode cX2_circles 39 = .ok (.invokevirtual 64, 3) := by decide +kernel
theorem dX2_circles_42 : decode cX2_circles 42 = .ok (.aload_n 0, 1) := by decide +kernel
theorem dX2_circles_43 : decode cX2_circles 43 = .ok (.iload 4, 2) := by decide +kernel
theorem dX2_circles_45 : decode cX2_circles 45 = .ok (.iconst 1, 1) := by decide +kernel
theorem dX2_circles_46 : decode cX2_circles 46 = .ok (.invokevirtual 64, 3) := by decide +kernel
theorem dX2_circles_49 : decode cX2_circles 49 = .ok (.aload_n 0, 1) := by decide +kernel
theorem dX2_circles_50 : decode cX2_circles 50 = .ok (.iload 4, 2) := by decide +kernel
theorem dX2_circles_52 : decode cX2_circles 52 = .ok (.iconst 2, 1) := by decide +kernel
theorem dX2_circles_53 : decode cX2_circles 53 = .ok (.invokevirtual 64, 3) := by decide +kernel
theorem dX2_circles_56 : decode cX2_circles 56 = .ok (.iload_n 1, 1) := by decide +kernel
theorem dX2_circles_57 : decode cX2_circles 57 = .ok (.iload_n 2, 1) := by decide +kernel
theorem dX2_circles_58 : decode cX2_circles 58 = .ok (.invokevirtual 88, 3) := by decide +kernel
theorem dX2_circles_61 : decode cX2_circles 61 = .ok (.ifCond .eq 7, 3) := by decide +kernel
theorem dX2_circles_64 : decode cX2_circles 64 = .ok (.iconst 1, 1) := by decide +kernel
theorem dX2_circles_65 : decode cX2_circles 65 = .ok (.goto 4, 3) := by decide +kernel
theorem dX2_circles_68 : decode cX2_circles 68 = .ok (.iconst 0, 1) := by decide +kernel
theorem dX2_circles_69 : decode cX2_circles 69 = .ok (.iadd, 1) := by decide +kernel
theorem dX2_circles_70 : decode cX2_circles 70 = .ok (.istore_n 3, 1) := by decide +kernel
theorem dX2_circles_71 : decode cX2_circles 71 = .ok (.iinc 4 1, 3) := by decide +kernel
theorem dX2_circles_74 : decode cX2_circles 74 = .ok (.goto (-50), 3) := by decide +kernel
theorem dX2_circles_77 : decode cX2_circles 77 = .ok (.iload_n 3, 1) := by decide +kernel
theorem dX2_circles_78 : decode cX2_circles 78 = .ok (.ireturn, 1) := by decide +kernel
set_option maxRecDepth 20000 in
theorem ggX2_way_X2_isCairn : GoodIn wsX2_way wsX2_isCairn := goodIn_r _ [8, 3, 9, 10, 7, 11, 34, 35, 36, 37, 38, 39, 40, 41, 42] (by decide +kernel) (by decide +kernel)
set_option maxRecDepth 20000 in
theorem gX2_way_X2_isCairn : GoodIn wsX2_way (wsV RX2 124 RX2 yX2_isCairn wsX2_isCairn) := goodIn_app (goodIn_of _ (by decide +kernel)) ggX2_way_X2_isCairn
set_option maxRecDepth 20000 in
theorem ggX2_way_X2_fail : GoodIn wsX2_way wsX2_fail := goodIn_r _ [15, 1, 34, 35, 36, 37, 38, 39, 40, 41, 42] (by decide +kernel) (by decide +kernel)
set_option maxRecDepth 20000 in
theorem gX2_way_X2_fail : GoodIn wsX2_way (wsV RX2 115 RX2 yX2_fail wsX2_fail) := goodIn_app (goodIn_of _ (by decide +kernel)) ggX2_way_X2_fail
set_option maxRecDepth 20000 in
theorem ggX2_way_X2_sides : GoodIn wsX2_way wsX2_sides := goodIn_r _ [19, 20, 21, 22, 23, 7, 24, 25, 26, 27, 28, 29, 30, 31, 32, 33, 34, 35, 36, 37, 38, 39, 40, 41, 42] (by decide +kernel) (by decide +kernel)
set_option maxRecDepth 20000 in
theorem gX2_way_X2_sides : GoodIn wsX2_way (wsV RX2 82 RX2 yX2_sides wsX2_sides) := goodIn_app (goodIn_of _ (by decide +kernel)) ggX2_way_X2_sides
theorem dX2_way_0 : decode cX2_way 0 = .ok (.aload_n 0, 1) := by decide +kernel
theorem dX2_way_1 : decode cX2_way 1 = .ok (.iconst 0, 1) := by decide +kernel
theorem dX2_way_2 : decode cX2_way 2 = .ok (.putfield 35, 3) := by decide +kernel
theorem dX2_way_5 : decode cX2_way 5 = .ok (.aload_n 0, 1) := by decide +kernel
theorem dX2_way_6 : decode cX2_way 6 = .ok (.iload_n 1, 1) := by decide +kernel
theorem dX2_way_7 : decode cX2_way 7 = .ok (.invokevirtual 124, 3) := by decide +kernel
theorem dX2_way_10 : decode cX2_way 10 = .ok (.ifCond .eq 11, 3) := by decide +kernel
theorem dX2_way_13 : decode cX2_way 13 = .ok (.aload_n 0, 1) := by decide +kernel
theorem dX2_way_14 : decode cX2_way 14 = .ok (.iload_n 2, 1) := by decide +kernel
theorem dX2_way_15 : decode cX2_way 15 = .ok (.invokevirtual 124, 3) := by decide +kernel
theorem dX2_way_18 : decode cX2_way 18 = .ok (.ifCond .ne 9, 3) := by decide +kernel
theorem dX2_way_21 : decode cX2_way 21 = .ok (.aload_n 0, 1) := by decide +kernel
theorem dX2_way_22 : decode cX2_way 22 = .ok (.iconst 1, 1) := by decide +kernel
theorem dX2_way_23 : decode cX2_way 23 = .ok (.invokevirtual 115, 3) := by decide +kernel
theorem dX2_way_26 : decode cX2_way 26 = .ok (.ireturn, 1) := by decide +kernel
theorem dX2_way_27 : decode cX2_way 27 = .ok (.bipush 16, 2) := by decide +kernel
theorem dX2_way_29 : decode cX2_way 29 = .ok (.newarray .int, 2) := by decide +kernel
theorem dX2_way_31 : decode cX2_way 31 = .ok (.astore_n 3, 1) := by decide +kernel
theorem dX2_way_32 : decode cX2_way 32 = .ok (.iconst 0, 1) := by decide +kernel
theorem dX2_way_33 : decode cX2_way 33 = .ok (.istore 4, 2) := by decide +kernel
theorem dX2_way_35 : decode cX2_way 35 = .ok (.iload 4, 2) := by decide +kernel
theorem dX2_way_37 : decode cX2_way 37 = .ok (.bipush 16, 2) := by decide +kernel
theorem dX2_way_39 : decode cX2_way 39 = .ok (.if_icmp .ge 24, 3) := by decide +kernel
theorem dX2_way_42 : decode cX2_way 42 = .ok (.aload_n 3, 1) := by decide +kernel
theorem dX2_way_43 : decode cX2_way 43 = .ok (.iload 4, 2) := by decide +kernel
