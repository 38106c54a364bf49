theorem dL_act_0 : decode cL_act 0 = .ok (.aload_n 1, 1) := by decide +kernel
theorem dL_act_1 : decode cL_act 1 = .ok (.getfield 9, 3) := by decide +kernel
theorem dL_act_4 : decode cL_act 4 = .ok (.arraylength, 1) := by decide +kernel
theorem dL_act_5 : decode cL_act 5 = .ok (.istore_n 3, 1) := by decide +kernel
theorem dL_act_6 : decode cL_act 6 = .ok (.aload_n 1, 1) := by decide +kernel
theorem dL_act_7 : decode cL_act 7 = .ok (.getfield 15, 3) := by decide +kernel
theorem dL_act_10 : decode cL_act 10 = .ok (.iload_n 2, 1) := by decide +kernel
theorem dL_act_11 : decode cL_act 11 = .ok (.iconst 2, 1) := by decide +kernel
theorem dL_act_12 : decode cL_act 12 = .ok (.ishr, 1) := by decide +kernel
theorem dL_act_13 : decode cL_act 13 = .ok (.aload_n 1, 1) := by decide +kernel
theorem dL_act_14 : decode cL_act 14 = .ok (.getfield 15, 3) := by decide +kernel
theorem dL_act_17 : decode cL_act 17 = .ok (.arraylength, 1) := by decide +kernel
theorem dL_act_18 : decode cL_act 18 = .ok (.invokestatic 18, 3) := by decide +kernel
theorem dL_act_21 : decode cL_act 21 = .ok (.aaload, 1) := by decide +kernel
theorem dL_act_22 : decode cL_act 22 = .ok (.astore 4, 2) := by decide +kernel
theorem dL_act_24 : decode cL_act 24 = .ok (.aload 4, 2) := by decide +kernel
theorem dL_act_26 : decode cL_act 26 = .ok (.iload_n 2, 1) := by decide +kernel
theorem dL_act_27 : decode cL_act 27 = .ok (.iconst 3, 1) := by decide +kernel
theorem dL_act_28 : decode cL_act 28 = .ok (.invokestatic 18, 3) := by decide +kernel
theorem dL_act_31 : decode cL_act 31 = .ok (.iaload, 1) := by decide +kernel
theorem dL_act_32 : decode cL_act 32 = .ok (.istore 5, 2) := by decide +kernel
theorem dL_act_34 : decode cL_act 34 = .ok (.aload 4, 2) := by decide +kernel
theorem dL_act_36 : decode cL_act 36 = .ok (.iload_n 2, 1) := by decide +kernel
theorem dL_act_37 : decode cL_act 37 = .ok (.iconst 3, 1) := by decide +kernel
theorem dL_act_38 : decode cL_act 38 = .ok (.invokestatic 18, 3) := by decide +kernel
theorem dL_act_41 : decode cL_act 41 = .ok (.iconst 1, 1) := by decide +kernel
theorem dL_act_42 : decode cL_act 42 = .ok (.iadd, 1) := by decide +kernel
theorem dL_act_43 : decode cL_act 43 = .ok (.iconst 3, 1) := by decide +kernel
theorem dL_act_44 : decode cL_act 44 = .ok (.irem, 1) := by decide +kernel
theorem dL_act_45 : decode cL_act 45 = .ok (.iaload, 1) := by decide +kernel
theorem dL_act_46 : decode cL_act 46 = .ok (.istore 6, 2) := by decide +kernel
theorem dL_act_48 : decode cL_act 48 = .ok (.iload_n 2, 1) := by decide +kernel
theorem dL_act_49 : decode cL_act 49 = .ok (.bipush 9, 2) := by decide +kernel
theorem dL_act_51 : decode cL_act 51 = .ok (.ishr, 1) := by decide +kernel
theorem dL_act_52 : decode cL_act 52 = .ok (.bipush 12, 2) := by decide +kernel
theorem dL_act_54 : decode cL_act 54 = .ok (.invokestatic 18, 3) := by decide +kernel
theorem dL_act_57 : decode cL_act 57 = .ok (.tableswitch 370 0 5 #[39, 128, 303, 303, 303, 341], 39) := by decide +kernel
theorem dL_act_96 : decode cL_act 96 = .ok (.iload_n 2, 1) := by decide +kernel
theorem dL_act_97 : decode cL_act 97 = .ok (.iload_n 3, 1) := by decide +kernel
theorem dL_act_98 : decode cL_act 98 = .ok (.invokestatic 18, 3) := by decide +kernel
theorem dL_act_101 : decode cL_act 101 = .ok (.istore 7, 2) := by decide +kernel
theorem dL_act_103 : decode cL_act 103 = .ok (.aload_n 1, 1) := by decide +kernel
theorem dL_act_104 : decode cL_act 104 = .ok (.getfield 9, 3) := by decide +kernel
theorem dL_act_107 : decode cL_act 107 = .ok (.iload 7, 2) := by decide +kernel
theorem dL_act_109 : decode cL_act 109 = .ok (.aaload, 1) := by decide +kernel
theorem dL_act_110 : decode cL_act 110 = .ok (.iconst 2, 1) := by decide +kernel
theorem dL_act_111 : decode cL_act 111 = .ok (.iaload, 1) := by decide +kernel
theorem dL_act_112 : decode cL_act 112 = .ok (.istore 8, 2) := by decide +kernel
theorem dL_act_114 : decode cL_act 114 = .ok (.aload_n 1, 1) := by decide +kernel
theorem dL_act_115 : decode cL_act 115 = .ok (.getfield 9, 3) := by decide +kernel
theorem dL_act_118 : decode cL_act 118 = .ok (.iload 7, 2) := by decide +kernel
theorem dL_act_120 : decode cL_act 120 = .ok (.iconst 3, 1) := by decide +kernel
theorem dL_act_121 : decode cL_act 121 = .ok (.newarray .int, 2) := by decide +kernel
theorem dL_act_123 : decode cL_act 123 = .ok (.dup, 1) := by decide +kernel
theorem dL_act_124 : decode cL_act 124 = .ok (.iconst 0, 1) := by decide +kernel
theorem dL_act_125 : decode cL_act 125 = .ok (.aload_n 1, 1) := by decide +kernel
theorem dL_act_126 : decode cL_act 126 = .ok (.getfield 9, 3) := by decide +kernel
theorem dL_act_129 : decode cL_act 129 = .ok (.iload 7, 2) := by decide +kernel
theorem dL_act_131 : decode cL_act 131 = .ok (.aaload, 1) := by decide +kernel
theorem dL_act_132 : decode cL_act 132 = .ok (.iconst 0, 1) := by decide +kernel
theorem dL_act_133 : decode cL_act 133 = .ok (.iaload, 1) := by decide +kernel
theorem dL_act_134 : decode cL_act 134 = .ok (.iastore, 1) := by decide +kernel
theorem dL_act_135 : decode cL_act 135 = .ok (.dup, 1) := by decide +kernel
theorem dL_act_136 : decode cL_act 136 = .ok (.iconst 1, 1) := by decide +kernel
theorem dL_act_137 : decode cL_act 137 = .ok (.aload_n 1, 1) := by decide +kernel
theorem dL_act_138 : decode cL_act 138 = .ok (.getfield 9, 3) := by decide +kernel
theorem dL_act_141 : decode cL_act 141 = .ok (.iload 7, 2) := by decide +kernel
theorem dL_act_143 : decode cL_act 143 = .ok (.aaload, 1) := by decide +kernel
theorem dL_act_144 : decode cL_act 144 = .ok (.iconst 1, 1) := by decide +kernel
theorem dL_act_145 : decode cL_act 145 = .ok (.iaload, 1) := by decide +kernel
