theorem dX2_isSame_127 : decode cX2_isSame 127 = .ok (.iastore, 1) := by decide +kernel
theorem dX2_isSame_128 : decode cX2_isSame 128 = .ok (.dup, 1) := by decide +kernel
theorem dX2_isSame_129 : decode cX2_isSame 129 = .ok (.iconst 1, 1) := by decide +kernel
theorem dX2_isSame_130 : decode cX2_isSame 130 = .ok (.aload 9, 2) := by decide +kernel
theorem dX2_isSame_132 : decode cX2_isSame 132 = .ok (.arraylength, 1) := by decide +kernel
theorem dX2_isSame_133 : decode cX2_isSame 133 = .ok (.iconst 1, 1) := by decide +kernel
theorem dX2_isSame_134 : decode cX2_isSame 134 = .ok (.if_icmp .ne 7, 3) := by decide +kernel
theorem dX2_isSame_137 : decode cX2_isSame 137 = .ok (.iconst 1, 1) := by decide +kernel
theorem dX2_isSame_138 : decode cX2_isSame 138 = .ok (.goto 4, 3) := by decide +kernel
theorem dX2_isSame_141 : decode cX2_isSame 141 = .ok (.iconst 0, 1) := by decide +kernel
theorem dX2_isSame_142 : decode cX2_isSame 142 = .ok (.iastore, 1) := by decide +kernel
theorem dX2_isSame_143 : decode cX2_isSame 143 = .ok (.dup, 1) := by decide +kernel
theorem dX2_isSame_144 : decode cX2_isSame 144 = .ok (.iconst 2, 1) := by decide +kernel
theorem dX2_isSame_145 : decode cX2_isSame 145 = .ok (.iload 10, 2) := by decide +kernel
theorem dX2_isSame_147 : decode cX2_isSame 147 = .ok (.ifCond .eq 18, 3) := by decide +kernel
theorem dX2_isSame_150 : decode cX2_isSame 150 = .ok (.aload_n 0, 1) := by decide +kernel
theorem dX2_isSame_151 : decode cX2_isSame 151 = .ok (.iload 5, 2) := by decide +kernel
theorem dX2_isSame_153 : decode cX2_isSame 153 = .ok (.iload 8, 2) := by decide +kernel
theorem dX2_isSame_155 : decode cX2_isSame 155 = .ok (.invokevirtual 62, 3) := by decide +kernel
theorem dX2_isSame_158 : decode cX2_isSame 158 = .ok (.ifCond .eq 7, 3) := by decide +kernel
theorem dX2_isSame_161 : decode cX2_isSame 161 = .ok (.iconst 1, 1) := by decide +kernel
theorem dX2_isSame_162 : decode cX2_isSame 162 = .ok (.goto 4, 3) := by decide +kernel
theorem dX2_isSame_165 : decode cX2_isSame 165 = .ok (.iconst 0, 1) := by decide +kernel
theorem dX2_isSame_166 : decode cX2_isSame 166 = .ok (.iastore, 1) := by decide +kernel
theorem dX2_isSame_167 : decode cX2_isSame 167 = .ok (.dup, 1) := by decide +kernel
theorem dX2_isSame_168 : decode cX2_isSame 168 = .ok (.iconst 3, 1) := by decide +kernel
theorem dX2_isSame_169 : decode cX2_isSame 169 = .ok (.aload_n 0, 1) := by decide +kernel
theorem dX2_isSame_170 : decode cX2_isSame 170 = .ok (.iload 5, 2) := by decide +kernel
theorem dX2_isSame_172 : decode cX2_isSame 172 = .ok (.iload 8, 2) := by decide +kernel
theorem dX2_isSame_174 : decode cX2_isSame 174 = .ok (.invokevirtual 85, 3) := by decide +kernel
theorem dX2_isSame_177 : decode cX2_isSame 177 = .ok (.ifCond .eq 7, 3) := by decide +kernel
theorem dX2_isSame_180 : decode cX2_isSame 180 = .ok (.iconst 1, 1) := by decide +kernel
theorem dX2_isSame_181 : decode cX2_isSame 181 = .ok (.goto 4, 3) := by decide +kernel
theorem dX2_isSame_184 : decode cX2_isSame 184 = .ok (.iconst 0, 1) := by decide +kernel
theorem dX2_isSame_185 : decode cX2_isSame 185 = .ok (.iastore, 1) := by decide +kernel
theorem dX2_isSame_186 : decode cX2_isSame 186 = .ok (.dup, 1) := by decide +kernel
theorem dX2_isSame_187 : decode cX2_isSame 187 = .ok (.iconst 4, 1) := by decide +kernel
theorem dX2_isSame_188 : decode cX2_isSame 188 = .ok (.aload_n 0, 1) := by decide +kernel
theorem dX2_isSame_189 : decode cX2_isSame 189 = .ok (.iload 5, 2) := by decide +kernel
theorem dX2_isSame_191 : decode cX2_isSame 191 = .ok (.iload 8, 2) := by decide +kernel
theorem dX2_isSame_193 : decode cX2_isSame 193 = .ok (.invokevirtual 95, 3) := by decide +kernel
theorem dX2_isSame_196 : decode cX2_isSame 196 = .ok (.ifCond .eq 7, 3) := by decide +kernel
theorem dX2_isSame_199 : decode cX2_isSame 199 = .ok (.iconst 1, 1) := by decide +kernel
theorem dX2_isSame_200 : decode cX2_isSame 200 = .ok (.goto 4, 3) := by decide +kernel
theorem dX2_isSame_203 : decode cX2_isSame 203 = .ok (.iconst 0, 1) := by decide +kernel
theorem dX2_isSame_204 : decode cX2_isSame 204 = .ok (.iastore, 1) := by decide +kernel
theorem dX2_isSame_205 : decode cX2_isSame 205 = .ok (.astore 11, 2) := by decide +kernel
theorem dX2_isSame_207 : decode cX2_isSame 207 = .ok (.iconst 0, 1) := by decide +kernel
theorem dX2_isSame_208 : decode cX2_isSame 208 = .ok (.istore 12, 2) := by decide +kernel
theorem dX2_isSame_210 : decode cX2_isSame 210 = .ok (.iload 12, 2) := by decide +kernel
theorem dX2_isSame_212 : decode cX2_isSame 212 = .ok (.iconst 5, 1) := by decide +kernel
theorem dX2_isSame_213 : decode cX2_isSame 213 = .ok (.if_icmp .ge 29, 3) := by decide +kernel
theorem dX2_isSame_216 : decode cX2_isSame 216 = .ok (.aload_n 1, 1) := by decide +kernel
theorem dX2_isSame_217 : decode cX2_isSame 217 = .ok (.iload 5, 2) := by decide +kernel
theorem dX2_isSame_219 : decode cX2_isSame 219 = .ok (.iload 8, 2) := by decide +kernel
theorem dX2_isSame_221 : decode cX2_isSame 221 = .ok (.iload 12, 2) := by decide +kernel
theorem dX2_isSame_223 : decode cX2_isSame 223 = .ok (.invokevirtual 98, 3) := by decide +kernel
theorem dX2_isSame_226 : decode cX2_isSame 226 = .ok (.aload 11, 2) := by decide +kernel
theorem dX2_isSame_228 : decode cX2_isSame 228 = .ok (.iload 12, 2) := by decide +kernel
theorem dX2_isSame_230 : decode cX2_isSame 230 = .ok (.iaload, 1) := by decide +kernel
theorem dX2_isSame_231 : decode cX2_isSame 231 = .ok (.if_icmp .eq 5, 3) := by decide +kernel
theorem dX2_isSame_234 : decode cX2_isSame 234 = .ok (.iconst 0, 1) := by decide +kernel
theorem dX2_isSame_235 : decode cX2_isSame 235 = .ok (.ireturn, 1) := by decide +kernel
theorem dX2_isSame_236 : decode cX2_isSame 236 = .ok (.iinc 12 1, 3) := by decide +kernel
theorem dX2_isSame_239 : decode cX2_isSame 239 = .ok (.goto (-29), 3) := by decide +kernel
theorem dX2_isSame_242 : decode cX2_isSame 242 = .ok (.iload 6, 2) := by decide +kernel
theorem dX2_isSame_244 : decode cX2_isSame 244 = .ok (.aload 11, 2) := by decide +kernel
theorem dX2_isSame_246 : decode cX2_isSame 246 = .ok (.iconst 0, 1) := by decide +kernel
theorem dX2_isSame_247 : decode cX2_isSame 247 = .ok (.iaload, 1) := by decide +kernel
theorem dX2_isSame_248 : decode cX2_isSame 248 = .ok (.iadd, 1) := by decide +kernel
