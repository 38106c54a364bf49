theorem dX2_isSame_249 : decode cX2_isSame 249 = .ok (.istore 6, 2) := by decide +kernel
theorem dX2_isSame_251 : decode cX2_isSame 251 = .ok (.iload 4, 2) := by decide +kernel
theorem dX2_isSame_253 : decode cX2_isSame 253 = .ok (.aload 11, 2) := by decide +kernel
theorem dX2_isSame_255 : decode cX2_isSame 255 = .ok (.iconst 1, 1) := by decide +kernel
theorem dX2_isSame_256 : decode cX2_isSame 256 = .ok (.iaload, 1) := by decide +kernel
theorem dX2_isSame_257 : decode cX2_isSame 257 = .ok (.iadd, 1) := by decide +kernel
theorem dX2_isSame_258 : decode cX2_isSame 258 = .ok (.istore 4, 2) := by decide +kernel
theorem dX2_isSame_260 : decode cX2_isSame 260 = .ok (.iinc 8 1, 3) := by decide +kernel
theorem dX2_isSame_263 : decode cX2_isSame 263 = .ok (.goto (-180), 3) := by decide +kernel
theorem dX2_isSame_266 : decode cX2_isSame 266 = .ok (.iload_n 3, 1) := by decide +kernel
theorem dX2_isSame_267 : decode cX2_isSame 267 = .ok (.iload 6, 2) := by decide +kernel
theorem dX2_isSame_269 : decode cX2_isSame 269 = .ok (.iadd, 1) := by decide +kernel
theorem dX2_isSame_270 : decode cX2_isSame 270 = .ok (.istore_n 3, 1) := by decide +kernel
theorem dX2_isSame_271 : decode cX2_isSame 271 = .ok (.iconst 5, 1) := by decide +kernel
theorem dX2_isSame_272 : decode cX2_isSame 272 = .ok (.newarray .int, 2) := by decide +kernel
theorem dX2_isSame_274 : decode cX2_isSame 274 = .ok (.dup, 1) := by decide +kernel
theorem dX2_isSame_275 : decode cX2_isSame 275 = .ok (.iconst 0, 1) := by decide +kernel
theorem dX2_isSame_276 : decode cX2_isSame 276 = .ok (.aload_n 0, 1) := by decide +kernel
theorem dX2_isSame_277 : decode cX2_isSame 277 = .ok (.getfield 9, 3) := by decide +kernel
theorem dX2_isSame_280 : decode cX2_isSame 280 = .ok (.iload 5, 2) := by decide +kernel
theorem dX2_isSame_282 : decode cX2_isSame 282 = .ok (.aaload, 1) := by decide +kernel
theorem dX2_isSame_283 : decode cX2_isSame 283 = .ok (.iconst 0, 1) := by decide +kernel
theorem dX2_isSame_284 : decode cX2_isSame 284 = .ok (.iaload, 1) := by decide +kernel
theorem dX2_isSame_285 : decode cX2_isSame 285 = .ok (.iastore, 1) := by decide +kernel
theorem dX2_isSame_286 : decode cX2_isSame 286 = .ok (.dup, 1) := by decide +kernel
theorem dX2_isSame_287 : decode cX2_isSame 287 = .ok (.iconst 1, 1) := by decide +kernel
theorem dX2_isSame_288 : decode cX2_isSame 288 = .ok (.aload_n 0, 1) := by decide +kernel
theorem dX2_isSame_289 : decode cX2_isSame 289 = .ok (.getfield 9, 3) := by decide +kernel
theorem dX2_isSame_292 : decode cX2_isSame 292 = .ok (.iload 5, 2) := by decide +kernel
theorem dX2_isSame_294 : decode cX2_isSame 294 = .ok (.aaload, 1) := by decide +kernel
theorem dX2_isSame_295 : decode cX2_isSame 295 = .ok (.iconst 1, 1) := by decide +kernel
theorem dX2_isSame_296 : decode cX2_isSame 296 = .ok (.iaload, 1) := by decide +kernel
theorem dX2_isSame_297 : decode cX2_isSame 297 = .ok (.iastore, 1) := by decide +kernel
theorem dX2_isSame_298 : decode cX2_isSame 298 = .ok (.dup, 1) := by decide +kernel
theorem dX2_isSame_299 : decode cX2_isSame 299 = .ok (.iconst 2, 1) := by decide +kernel
theorem dX2_isSame_300 : decode cX2_isSame 300 = .ok (.aload_n 0, 1) := by decide +kernel
theorem dX2_isSame_301 : decode cX2_isSame 301 = .ok (.getfield 9, 3) := by decide +kernel
theorem dX2_isSame_304 : decode cX2_isSame 304 = .ok (.iload 5, 2) := by decide +kernel
theorem dX2_isSame_306 : decode cX2_isSame 306 = .ok (.aaload, 1) := by decide +kernel
theorem dX2_isSame_307 : decode cX2_isSame 307 = .ok (.iconst 2, 1) := by decide +kernel
theorem dX2_isSame_308 : decode cX2_isSame 308 = .ok (.iaload, 1) := by decide +kernel
theorem dX2_isSame_309 : decode cX2_isSame 309 = .ok (.iastore, 1) := by decide +kernel
theorem dX2_isSame_310 : decode cX2_isSame 310 = .ok (.dup, 1) := by decide +kernel
theorem dX2_isSame_311 : decode cX2_isSame 311 = .ok (.iconst 3, 1) := by decide +kernel
theorem dX2_isSame_312 : decode cX2_isSame 312 = .ok (.iload 6, 2) := by decide +kernel
theorem dX2_isSame_314 : decode cX2_isSame 314 = .ok (.iastore, 1) := by decide +kernel
theorem dX2_isSame_315 : decode cX2_isSame 315 = .ok (.dup, 1) := by decide +kernel
theorem dX2_isSame_316 : decode cX2_isSame 316 = .ok (.iconst 4, 1) := by decide +kernel
theorem dX2_isSame_317 : decode cX2_isSame 317 = .ok (.iload 7, 2) := by decide +kernel
theorem dX2_isSame_319 : decode cX2_isSame 319 = .ok (.iastore, 1) := by decide +kernel
theorem dX2_isSame_320 : decode cX2_isSame 320 = .ok (.astore 8, 2) := by decide +kernel
theorem dX2_isSame_322 : decode cX2_isSame 322 = .ok (.iconst 0, 1) := by decide +kernel
theorem dX2_isSame_323 : decode cX2_isSame 323 = .ok (.istore 9, 2) := by decide +kernel
theorem dX2_isSame_325 : decode cX2_isSame 325 = .ok (.iload 9, 2) := by decide +kernel
theorem dX2_isSame_327 : decode cX2_isSame 327 = .ok (.iconst 5, 1) := by decide +kernel
theorem dX2_isSame_328 : decode cX2_isSame 328 = .ok (.if_icmp .ge 27, 3) := by decide +kernel
theorem dX2_isSame_331 : decode cX2_isSame 331 = .ok (.aload_n 1, 1) := by decide +kernel
theorem dX2_isSame_332 : decode cX2_isSame 332 = .ok (.iload 5, 2) := by decide +kernel
theorem dX2_isSame_334 : decode cX2_isSame 334 = .ok (.iload 9, 2) := by decide +kernel
theorem dX2_isSame_336 : decode cX2_isSame 336 = .ok (.invokevirtual 104, 3) := by decide +kernel
theorem dX2_isSame_339 : decode cX2_isSame 339 = .ok (.aload 8, 2) := by decide +kernel
theorem dX2_isSame_341 : decode cX2_isSame 341 = .ok (.iload 9, 2) := by decide +kernel
theorem dX2_isSame_343 : decode cX2_isSame 343 = .ok (.iaload, 1) := by decide +kernel
theorem dX2_isSame_344 : decode cX2_isSame 344 = .ok (.if_icmp .eq 5, 3) := by decide +kernel
theorem dX2_isSame_347 : decode cX2_isSame 347 = .ok (.iconst 0, 1) := by decide +kernel
theorem dX2_isSame_348 : decode cX2_isSame 348 = .ok (.ireturn, 1) := by decide +kernel
theorem dX2_isSame_349 : decode cX2_isSame 349 = .ok (.iinc 9 1, 3) := by decide +kernel
theorem dX2_isSame_352 : decode cX2_isSame 352 = .ok (.goto (-27), 3) := by decide +kernel
theorem dX2_isSame_355 : decode cX2_isSame 355 = .ok (.iinc 5 1, 3) := by decide +kernel
theorem dX2_isSame_358 : decode cX2_isSame 358 = .ok (.goto (-344), 3) := by decide +kernel
