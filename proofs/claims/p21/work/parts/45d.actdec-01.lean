theorem dL_act_146 : decode cL_act 146 = .ok (.iastore, 1) := by decide +kernel
theorem dL_act_147 : decode cL_act 147 = .ok (.dup, 1) := by decide +kernel
theorem dL_act_148 : decode cL_act 148 = .ok (.iconst 2, 1) := by decide +kernel
theorem dL_act_149 : decode cL_act 149 = .ok (.iload_n 2, 1) := by decide +kernel
theorem dL_act_150 : decode cL_act 150 = .ok (.iconst 3, 1) := by decide +kernel
theorem dL_act_151 : decode cL_act 151 = .ok (.ishr, 1) := by decide +kernel
theorem dL_act_152 : decode cL_act 152 = .ok (.bipush 100, 2) := by decide +kernel
theorem dL_act_154 : decode cL_act 154 = .ok (.invokestatic 18, 3) := by decide +kernel
theorem dL_act_157 : decode cL_act 157 = .ok (.iastore, 1) := by decide +kernel
theorem dL_act_158 : decode cL_act 158 = .ok (.aastore, 1) := by decide +kernel
theorem dL_act_159 : decode cL_act 159 = .ok (.aload_n 0, 1) := by decide +kernel
theorem dL_act_160 : decode cL_act 160 = .ok (.iload 7, 2) := by decide +kernel
theorem dL_act_162 : decode cL_act 162 = .ok (.aload_n 1, 1) := by decide +kernel
theorem dL_act_163 : decode cL_act 163 = .ok (.getfield 9, 3) := by decide +kernel
theorem dL_act_166 : decode cL_act 166 = .ok (.iload 7, 2) := by decide +kernel
theorem dL_act_168 : decode cL_act 168 = .ok (.aaload, 1) := by decide +kernel
theorem dL_act_169 : decode cL_act 169 = .ok (.iconst 2, 1) := by decide +kernel
theorem dL_act_170 : decode cL_act 170 = .ok (.iaload, 1) := by decide +kernel
theorem dL_act_171 : decode cL_act 171 = .ok (.invokevirtual 24, 3) := by decide +kernel
theorem dL_act_174 : decode cL_act 174 = .ok (.iload 8, 2) := by decide +kernel
theorem dL_act_176 : decode cL_act 176 = .ok (.if_icmp .ne 7, 3) := by decide +kernel
theorem dL_act_179 : decode cL_act 179 = .ok (.iconst 1, 1) := by decide +kernel
theorem dL_act_180 : decode cL_act 180 = .ok (.goto 4, 3) := by decide +kernel
theorem dL_act_183 : decode cL_act 183 = .ok (.iconst 0, 1) := by decide +kernel
theorem dL_act_184 : decode cL_act 184 = .ok (.ireturn, 1) := by decide +kernel
theorem dL_act_185 : decode cL_act 185 = .ok (.iload_n 2, 1) := by decide +kernel
theorem dL_act_186 : decode cL_act 186 = .ok (.iconst 4, 1) := by decide +kernel
theorem dL_act_187 : decode cL_act 187 = .ok (.ishr, 1) := by decide +kernel
theorem dL_act_188 : decode cL_act 188 = .ok (.iconst 3, 1) := by decide +kernel
theorem dL_act_189 : decode cL_act 189 = .ok (.invokestatic 18, 3) := by decide +kernel
theorem dL_act_192 : decode cL_act 192 = .ok (.ifCond .le 7, 3) := by decide +kernel
theorem dL_act_195 : decode cL_act 195 = .ok (.iconst 1, 1) := by decide +kernel
theorem dL_act_196 : decode cL_act 196 = .ok (.goto 4, 3) := by decide +kernel
theorem dL_act_199 : decode cL_act 199 = .ok (.iconst 0, 1) := by decide +kernel
theorem dL_act_200 : decode cL_act 200 = .ok (.istore 9, 2) := by decide +kernel
theorem dL_act_202 : decode cL_act 202 = .ok (.aload_n 1, 1) := by decide +kernel
theorem dL_act_203 : decode cL_act 203 = .ok (.iload 5, 2) := by decide +kernel
theorem dL_act_205 : decode cL_act 205 = .ok (.iload 6, 2) := by decide +kernel
theorem dL_act_207 : decode cL_act 207 = .ok (.invokevirtual 29, 3) := by decide +kernel
theorem dL_act_210 : decode cL_act 210 = .ok (.istore 10, 2) := by decide +kernel
theorem dL_act_212 : decode cL_act 212 = .ok (.iload 10, 2) := by decide +kernel
theorem dL_act_214 : decode cL_act 214 = .ok (.ifCond .eq 91, 3) := by decide +kernel
theorem dL_act_217 : decode cL_act 217 = .ok (.iload 9, 2) := by decide +kernel
theorem dL_act_219 : decode cL_act 219 = .ok (.ifCond .ne 86, 3) := by decide +kernel
theorem dL_act_222 : decode cL_act 222 = .ok (.iconst 0, 1) := by decide +kernel
theorem dL_act_223 : decode cL_act 223 = .ok (.istore 11, 2) := by decide +kernel
theorem dL_act_225 : decode cL_act 225 = .ok (.iload 11, 2) := by decide +kernel
theorem dL_act_227 : decode cL_act 227 = .ok (.aload_n 1, 1) := by decide +kernel
theorem dL_act_228 : decode cL_act 228 = .ok (.getfield 33, 3) := by decide +kernel
theorem dL_act_231 : decode cL_act 231 = .ok (.arraylength, 1) := by decide +kernel
theorem dL_act_232 : decode cL_act 232 = .ok (.if_icmp .ge 73, 3) := by decide +kernel
theorem dL_act_235 : decode cL_act 235 = .ok (.aload_n 1, 1) := by decide +kernel
theorem dL_act_236 : decode cL_act 236 = .ok (.getfield 33, 3) := by decide +kernel
theorem dL_act_239 : decode cL_act 239 = .ok (.iload 11, 2) := by decide +kernel
theorem dL_act_241 : decode cL_act 241 = .ok (.aaload, 1) := by decide +kernel
theorem dL_act_242 : decode cL_act 242 = .ok (.astore 12, 2) := by decide +kernel
theorem dL_act_244 : decode cL_act 244 = .ok (.aload 12, 2) := by decide +kernel
theorem dL_act_246 : decode cL_act 246 = .ok (.iconst 0, 1) := by decide +kernel
theorem dL_act_247 : decode cL_act 247 = .ok (.iaload, 1) := by decide +kernel
theorem dL_act_248 : decode cL_act 248 = .ok (.iload 5, 2) := by decide +kernel
theorem dL_act_250 : decode cL_act 250 = .ok (.if_icmp .ne 12, 3) := by decide +kernel
theorem dL_act_253 : decode cL_act 253 = .ok (.aload 12, 2) := by decide +kernel
theorem dL_act_255 : decode cL_act 255 = .ok (.iconst 1, 1) := by decide +kernel
theorem dL_act_256 : decode cL_act 256 = .ok (.iaload, 1) := by decide +kernel
theorem dL_act_257 : decode cL_act 257 = .ok (.iload 6, 2) := by decide +kernel
theorem dL_act_259 : decode cL_act 259 = .ok (.if_icmp .eq 24, 3) := by decide +kernel
theorem dL_act_262 : decode cL_act 262 = .ok (.aload 12, 2) := by decide +kernel
theorem dL_act_264 : decode cL_act 264 = .ok (.iconst 0, 1) := by decide +kernel
theorem dL_act_265 : decode cL_act 265 = .ok (.iaload, 1) := by decide +kernel
theorem dL_act_266 : decode cL_act 266 = .ok (.iload 6, 2) := by decide +kernel
