theorem dL_act_268 : decode cL_act 268 = .ok (.if_icmp .ne 31, 3) := by decide +kernel
theorem dL_act_271 : decode cL_act 271 = .ok (.aload 12, 2) := by decide +kernel
theorem dL_act_273 : decode cL_act 273 = .ok (.iconst 1, 1) := by decide +kernel
theorem dL_act_274 : decode cL_act 274 = .ok (.iaload, 1) := by decide +kernel
theorem dL_act_275 : decode cL_act 275 = .ok (.iload 5, 2) := by decide +kernel
theorem dL_act_277 : decode cL_act 277 = .ok (.if_icmp .eq 6, 3) := by decide +kernel
theorem dL_act_280 : decode cL_act 280 = .ok (.goto 19, 3) := by decide +kernel
theorem dL_act_283 : decode cL_act 283 = .ok (.aload_n 1, 1) := by decide +kernel
theorem dL_act_284 : decode cL_act 284 = .ok (.aload_n 1, 1) := by decide +kernel
theorem dL_act_285 : decode cL_act 285 = .ok (.getfield 33, 3) := by decide +kernel
theorem dL_act_288 : decode cL_act 288 = .ok (.iload 11, 2) := by decide +kernel
theorem dL_act_290 : decode cL_act 290 = .ok (.invokestatic 36, 3) := by decide +kernel
theorem dL_act_293 : decode cL_act 293 = .ok (.putfield 33, 3) := by decide +kernel
theorem dL_act_296 : decode cL_act 296 = .ok (.goto 9, 3) := by decide +kernel
theorem dL_act_299 : decode cL_act 299 = .ok (.iinc 11 1, 3) := by decide +kernel
theorem dL_act_302 : decode cL_act 302 = .ok (.goto (-77), 3) := by decide +kernel
theorem dL_act_305 : decode cL_act 305 = .ok (.iload 10, 2) := by decide +kernel
theorem dL_act_307 : decode cL_act 307 = .ok (.ifCond .ne 32, 3) := by decide +kernel
theorem dL_act_310 : decode cL_act 310 = .ok (.iload 9, 2) := by decide +kernel
theorem dL_act_312 : decode cL_act 312 = .ok (.ifCond .eq 27, 3) := by decide +kernel
theorem dL_act_315 : decode cL_act 315 = .ok (.aload_n 1, 1) := by decide +kernel
theorem dL_act_316 : decode cL_act 316 = .ok (.aload_n 1, 1) := by decide +kernel
theorem dL_act_317 : decode cL_act 317 = .ok (.getfield 33, 3) := by decide +kernel
theorem dL_act_320 : decode cL_act 320 = .ok (.iconst 2, 1) := by decide +kernel
theorem dL_act_321 : decode cL_act 321 = .ok (.newarray .int, 2) := by decide +kernel
theorem dL_act_323 : decode cL_act 323 = .ok (.dup, 1) := by decide +kernel
theorem dL_act_324 : decode cL_act 324 = .ok (.iconst 0, 1) := by decide +kernel
theorem dL_act_325 : decode cL_act 325 = .ok (.iload 5, 2) := by decide +kernel
theorem dL_act_327 : decode cL_act 327 = .ok (.iastore, 1) := by decide +kernel
theorem dL_act_328 : decode cL_act 328 = .ok (.dup, 1) := by decide +kernel
theorem dL_act_329 : decode cL_act 329 = .ok (.iconst 1, 1) := by decide +kernel
theorem dL_act_330 : decode cL_act 330 = .ok (.iload 6, 2) := by decide +kernel
theorem dL_act_332 : decode cL_act 332 = .ok (.iastore, 1) := by decide +kernel
theorem dL_act_333 : decode cL_act 333 = .ok (.invokestatic 40, 3) := by decide +kernel
theorem dL_act_336 : decode cL_act 336 = .ok (.putfield 33, 3) := by decide +kernel
theorem dL_act_339 : decode cL_act 339 = .ok (.aload_n 0, 1) := by decide +kernel
theorem dL_act_340 : decode cL_act 340 = .ok (.iload 5, 2) := by decide +kernel
theorem dL_act_342 : decode cL_act 342 = .ok (.iload 6, 2) := by decide +kernel
theorem dL_act_344 : decode cL_act 344 = .ok (.iload 9, 2) := by decide +kernel
theorem dL_act_346 : decode cL_act 346 = .ok (.invokevirtual 44, 3) := by decide +kernel
theorem dL_act_349 : decode cL_act 349 = .ok (.iload 10, 2) := by decide +kernel
theorem dL_act_351 : decode cL_act 351 = .ok (.if_icmp .ne 7, 3) := by decide +kernel
theorem dL_act_354 : decode cL_act 354 = .ok (.iconst 1, 1) := by decide +kernel
theorem dL_act_355 : decode cL_act 355 = .ok (.goto 4, 3) := by decide +kernel
theorem dL_act_358 : decode cL_act 358 = .ok (.iconst 0, 1) := by decide +kernel
theorem dL_act_359 : decode cL_act 359 = .ok (.ireturn, 1) := by decide +kernel
theorem dL_act_360 : decode cL_act 360 = .ok (.aload_n 1, 1) := by decide +kernel
theorem dL_act_361 : decode cL_act 361 = .ok (.iload 5, 2) := by decide +kernel
theorem dL_act_363 : decode cL_act 363 = .ok (.iload 6, 2) := by decide +kernel
theorem dL_act_365 : decode cL_act 365 = .ok (.invokevirtual 48, 3) := by decide +kernel
theorem dL_act_368 : decode cL_act 368 = .ok (.ifCond .ne 5, 3) := by decide +kernel
theorem dL_act_371 : decode cL_act 371 = .ok (.iconst 1, 1) := by decide +kernel
theorem dL_act_372 : decode cL_act 372 = .ok (.ireturn, 1) := by decide +kernel
theorem dL_act_373 : decode cL_act 373 = .ok (.aload_n 0, 1) := by decide +kernel
theorem dL_act_374 : decode cL_act 374 = .ok (.iload 5, 2) := by decide +kernel
theorem dL_act_376 : decode cL_act 376 = .ok (.iload 6, 2) := by decide +kernel
theorem dL_act_378 : decode cL_act 378 = .ok (.invokevirtual 51, 3) := by decide +kernel
theorem dL_act_381 : decode cL_act 381 = .ok (.aload_n 1, 1) := by decide +kernel
theorem dL_act_382 : decode cL_act 382 = .ok (.iload 5, 2) := by decide +kernel
theorem dL_act_384 : decode cL_act 384 = .ok (.iload 6, 2) := by decide +kernel
theorem dL_act_386 : decode cL_act 386 = .ok (.invokevirtual 54, 3) := by decide +kernel
theorem dL_act_389 : decode cL_act 389 = .ok (.if_icmp .ne 7, 3) := by decide +kernel
theorem dL_act_392 : decode cL_act 392 = .ok (.iconst 1, 1) := by decide +kernel
theorem dL_act_393 : decode cL_act 393 = .ok (.goto 4, 3) := by decide +kernel
theorem dL_act_396 : decode cL_act 396 = .ok (.iconst 0, 1) := by decide +kernel
theorem dL_act_397 : decode cL_act 397 = .ok (.ireturn, 1) := by decide +kernel
theorem dL_act_398 : decode cL_act 398 = .ok (.iload_n 2, 1) := by decide +kernel
theorem dL_act_399 : decode cL_act 399 = .ok (.iconst 4, 1) := by decide +kernel
theorem dL_act_400 : decode cL_act 400 = .ok (.ishr, 1) := by decide +kernel
theorem dL_act_401 : decode cL_act 401 = .ok (.iconst 3, 1) := by decide +kernel
