theorem dX10_best_276 : decode cX10_best 276 = .ok (.iconst 1, 1) := by decide +kernel
theorem dX10_best_277 : decode cX10_best 277 = .ok (.iand, 1) := by decide +kernel
theorem dX10_best_278 : decode cX10_best 278 = .ok (.ifCond .ne 38, 3) := by decide +kernel
theorem dX10_best_281 : decode cX10_best 281 = .ok (.iload 7, 2) := by decide +kernel
theorem dX10_best_283 : decode cX10_best 283 = .ok (.ifCond .le 33, 3) := by decide +kernel
theorem dX10_best_286 : decode cX10_best 286 = .ok (.iload 7, 2) := by decide +kernel
theorem dX10_best_288 : decode cX10_best 288 = .ok (.aload_n 0, 1) := by decide +kernel
theorem dX10_best_289 : decode cX10_best 289 = .ok (.getfield 64, 3) := by decide +kernel
theorem dX10_best_292 : decode cX10_best 292 = .ok (.iload_n 3, 1) := by decide +kernel
theorem dX10_best_293 : decode cX10_best 293 = .ok (.iconst 1, 1) := by decide +kernel
theorem dX10_best_294 : decode cX10_best 294 = .ok (.iadd, 1) := by decide +kernel
theorem dX10_best_295 : decode cX10_best 295 = .ok (.bipush 14, 2) := by decide +kernel
theorem dX10_best_297 : decode cX10_best 297 = .ok (.ishl, 1) := by decide +kernel
theorem dX10_best_298 : decode cX10_best 298 = .ok (.iload_n 2, 1) := by decide +kernel
theorem dX10_best_299 : decode cX10_best 299 = .ok (.iconst 1, 1) := by decide +kernel
theorem dX10_best_300 : decode cX10_best 300 = .ok (.iload 6, 2) := by decide +kernel
theorem dX10_best_302 : decode cX10_best 302 = .ok (.ishl, 1) := by decide +kernel
theorem dX10_best_303 : decode cX10_best 303 = .ok (.ior, 1) := by decide +kernel
theorem dX10_best_304 : decode cX10_best 304 = .ok (.iadd, 1) := by decide +kernel
theorem dX10_best_305 : decode cX10_best 305 = .ok (.iaload, 1) := by decide +kernel
theorem dX10_best_306 : decode cX10_best 306 = .ok (.iadd, 1) := by decide +kernel
theorem dX10_best_307 : decode cX10_best 307 = .ok (.iload 4, 2) := by decide +kernel
theorem dX10_best_309 : decode cX10_best 309 = .ok (.if_icmp .ne 7, 3) := by decide +kernel
theorem dX10_best_312 : decode cX10_best 312 = .ok (.iload 6, 2) := by decide +kernel
theorem dX10_best_314 : decode cX10_best 314 = .ok (.istore 5, 2) := by decide +kernel
theorem dX10_best_316 : decode cX10_best 316 = .ok (.iinc 6 (-1), 3) := by decide +kernel
theorem dX10_best_319 : decode cX10_best 319 = .ok (.goto (-66), 3) := by decide +kernel
theorem dX10_best_322 : decode cX10_best 322 = .ok (.aload_n 0, 1) := by decide +kernel
theorem dX10_best_323 : decode cX10_best 323 = .ok (.getfield 67, 3) := by decide +kernel
theorem dX10_best_326 : decode cX10_best 326 = .ok (.iload_n 3, 1) := by decide +kernel
theorem dX10_best_327 : decode cX10_best 327 = .ok (.iload 5, 2) := by decide +kernel
theorem dX10_best_329 : decode cX10_best 329 = .ok (.iastore, 1) := by decide +kernel
theorem dX10_best_330 : decode cX10_best 330 = .ok (.aload_n 0, 1) := by decide +kernel
theorem dX10_best_331 : decode cX10_best 331 = .ok (.getfield 70, 3) := by decide +kernel
theorem dX10_best_334 : decode cX10_best 334 = .ok (.iload_n 3, 1) := by decide +kernel
theorem dX10_best_335 : decode cX10_best 335 = .ok (.aload_n 0, 1) := by decide +kernel
theorem dX10_best_336 : decode cX10_best 336 = .ok (.getfield 70, 3) := by decide +kernel
theorem dX10_best_339 : decode cX10_best 339 = .ok (.iload_n 3, 1) := by decide +kernel
theorem dX10_best_340 : decode cX10_best 340 = .ok (.baload, 1) := by decide +kernel
theorem dX10_best_341 : decode cX10_best 341 = .ok (.ifCond .eq 11, 3) := by decide +kernel
theorem dX10_best_344 : decode cX10_best 344 = .ok (.iload_n 1, 1) := by decide +kernel
theorem dX10_best_345 : decode cX10_best 345 = .ok (.ifCond .eq 7, 3) := by decide +kernel
theorem dX10_best_348 : decode cX10_best 348 = .ok (.iconst 1, 1) := by decide +kernel
theorem dX10_best_349 : decode cX10_best 349 = .ok (.goto 4, 3) := by decide +kernel
theorem dX10_best_352 : decode cX10_best 352 = .ok (.iconst 0, 1) := by decide +kernel
theorem dX10_best_353 : decode cX10_best 353 = .ok (.bastore, 1) := by decide +kernel
theorem dX10_best_354 : decode cX10_best 354 = .ok (.iload_n 2, 1) := by decide +kernel
theorem dX10_best_355 : decode cX10_best 355 = .ok (.iload 5, 2) := by decide +kernel
theorem dX10_best_357 : decode cX10_best 357 = .ok (.ifCond .lt 10, 3) := by decide +kernel
theorem dX10_best_360 : decode cX10_best 360 = .ok (.iconst 1, 1) := by decide +kernel
theorem dX10_best_361 : decode cX10_best 361 = .ok (.iload 5, 2) := by decide +kernel
theorem dX10_best_363 : decode cX10_best 363 = .ok (.ishl, 1) := by decide +kernel
theorem dX10_best_364 : decode cX10_best 364 = .ok (.goto 4, 3) := by decide +kernel
theorem dX10_best_367 : decode cX10_best 367 = .ok (.iconst 0, 1) := by decide +kernel
theorem dX10_best_368 : decode cX10_best 368 = .ok (.ior, 1) := by decide +kernel
theorem dX10_best_369 : decode cX10_best 369 = .ok (.istore_n 2, 1) := by decide +kernel
theorem dX10_best_370 : decode cX10_best 370 = .ok (.iinc 3 1, 3) := by decide +kernel
theorem dX10_best_373 : decode cX10_best 373 = .ok (.goto (-152), 3) := by decide +kernel
theorem dX10_best_376 : decode cX10_best 376 = .ok (.aload_n 0, 1) := by decide +kernel
theorem dX10_best_377 : decode cX10_best 377 = .ok (.iconst 1, 1) := by decide +kernel
theorem dX10_best_378 : decode cX10_best 378 = .ok (.putfield 123, 3) := by decide +kernel
theorem dX10_best_381 : decode cX10_best 381 = .ok (.aload_n 0, 1) := by decide +kernel
theorem dX10_best_382 : decode cX10_best 382 = .ok (.getfield 178, 3) := by decide +kernel
theorem dX10_best_385 : decode cX10_best 385 = .ok (.ireturn, 1) := by decide +kernel
theorem dX10_paired_0 : decode cX10_paired 0 = .ok (.iconst 0, 1) := by decide +kernel
theorem dX10_paired_1 : decode cX10_paired 1 = .ok (.istore_n 2, 1) := by decide +kernel
theorem dX10_paired_2 : decode cX10_paired 2 = .ok (.aload_n 0, 1) := by decide +kernel
theorem dX10_paired_3 : decode cX10_paired 3 = .ok (.getfield 123, 3) := by decide +kernel
theorem dX10_paired_6 : decode cX10_paired 6 = .ok (.ifCond .eq 38, 3) := by decide +kernel
theorem dX10_paired_9 : decode cX10_paired 9 = .ok (.iload_n 2, 1) := by decide +kernel
theorem dX10_paired_10 : decode cX10_paired 10 = .ok (.aload_n 0, 1) := by decide +kernel
theorem dX10_paired_11 : decode cX10_paired 11 = .ok (.getfield 168, 3) := by decide +kernel
theorem dX10_paired_14 : decode cX10_paired 14 = .ok (.if_icmp .ge 30, 3) := by decide +kernel
theorem dX10_paired_17 : decode cX10_paired 17 = .ok (.aload_n 0, 1) := by decide +kernel
theorem dX10_paired_18 : decode cX10_paired 18 = .ok (.getfield 54, 3) := by decide +kernel
theorem dX10_paired_21 : decode cX10_paired 21 = .ok (.iload_n 2, 1) := by decide +kernel
theorem dX10_paired_22 : decode cX10_paired 22 = .ok (.iaload, 1) := by decide +kernel
theorem dX10_paired_23 : decode cX10_paired 23 = .ok (.iload_n 1, 1) := by decide +kernel
theorem dX10_paired_24 : decode cX10_paired 24 = .ok (.if_icmp .ne 14, 3) := by decide +kernel
theorem dX10_paired_27 : decode cX10_paired 27 = .ok (.aload_n 0, 1) := by decide +kernel
theorem dX10_paired_28 : decode cX10_paired 28 = .ok (.getfield 67, 3) := by decide +kernel
theorem dX10_paired_31 : decode cX10_paired 31 = .ok (.iload_n 2, 1) := by decide +kernel
theorem dX10_paired_32 : decode cX10_paired 32 = .ok (.iaload, 1) := by decide +kernel
theorem dX10_paired_33 : decode cX10_paired 33 = .ok (.ifCond .lt 5, 3) := by decide +kernel
theorem dX10_paired_36 : decode cX10_paired 36 = .ok (.iload_n 2, 1) := by decide +kernel
theorem dX10_paired_37 : decode cX10_paired 37 = .ok (.ireturn, 1) := by decide +kernel
theorem dX10_paired_38 : decode cX10_paired 38 = .ok (.iinc 2 1, 3) := by decide +kernel
theorem dX10_paired_41 : decode cX10_paired 41 = .ok (.goto (-39), 3) := by decide +kernel
theorem dX10_paired_44 : decode cX10_paired 44 = .ok (.iconst (-1), 1) := by decide +kernel
theorem dX10_paired_45 : decode cX10_paired 45 = .ok (.ireturn, 1) := by decide +kernel
theorem dX10_with_0 : decode cX10_with 0 = .ok (.aload_n 0, 1) := by decide +kernel
theorem dX10_with_1 : decode cX10_with 1 = .ok (.iload_n 1, 1) := by decide +kernel
theorem dX10_with_2 : decode cX10_with 2 = .ok (.invokevirtual 181, 3) := by decide +kernel
theorem dX10_with_5 : decode cX10_with 5 = .ok (.istore_n 2, 1) := by decide +kernel
theorem dX10_with_6 : decode cX10_with 6 = .ok (.iload_n 2, 1) := by decide +kernel
theorem dX10_with_7 : decode cX10_with 7 = .ok (.ifCond .ge 7, 3) := by decide +kernel
theorem dX10_with_10 : decode cX10_with 10 = .ok (.iconst (-1), 1) := by decide +kernel
theorem dX10_with_11 : decode cX10_with 11 = .ok (.goto 14, 3) := by decide +kernel
theorem dX10_with_14 : decode cX10_with 14 = .ok (.aload_n 0, 1) := by decide +kernel
theorem dX10_with_15 : decode cX10_with 15 = .ok (.getfield 57, 3) := by decide +kernel
theorem dX10_with_18 : decode cX10_with 18 = .ok (.aload_n 0, 1) := by decide +kernel
theorem dX10_with_19 : decode cX10_with 19 = .ok (.getfield 67, 3) := by decide +kernel
theorem dX10_with_22 : decode cX10_with 22 = .ok (.iload_n 2, 1) := by decide +kernel
theorem dX10_with_23 : decode cX10_with 23 = .ok (.iaload, 1) := by decide +kernel
theorem dX10_with_24 : decode cX10_with 24 = .ok (.iaload, 1) := by decide +kernel
theorem dX10_with_25 : decode cX10_with 25 = .ok (.ireturn, 1) := by decide +kernel
theorem dX10_rival_0 : decode cX10_rival 0 = .ok (.aload_n 0, 1) := by decide +kernel
theorem dX10_rival_1 : decode cX10_rival 1 = .ok (.iload_n 1, 1) := by decide +kernel
theorem dX10_rival_2 : decode cX10_rival 2 = .ok (.invokevirtual 181, 3) := by decide +kernel
theorem dX10_rival_5 : decode cX10_rival 5 = .ok (.istore_n 2, 1) := by decide +kernel
theorem dX10_rival_6 : decode cX10_rival 6 = .ok (.iload_n 2, 1) := by decide +kernel
theorem dX10_rival_7 : decode cX10_rival 7 = .ok (.ifCond .ge 7, 3) := by decide +kernel
theorem dX10_rival_10 : decode cX10_rival 10 = .ok (.iconst 1, 1) := by decide +kernel
theorem dX10_rival_11 : decode cX10_rival 11 = .ok (.goto 13, 3) := by decide +kernel
theorem dX10_rival_14 : decode cX10_rival 14 = .ok (.aload_n 0, 1) := by decide +kernel
theorem dX10_rival_15 : decode cX10_rival 15 = .ok (.iload_n 2, 1) := by decide +kernel
theorem dX10_rival_16 : decode cX10_rival 16 = .ok (.invokevirtual 185, 3) := by decide +kernel
theorem dX10_rival_19 : decode cX10_rival 19 = .ok (.aload_n 0, 1) := by decide +kernel
theorem dX10_rival_20 : decode cX10_rival 20 = .ok (.getfield 178, 3) := by decide +kernel
theorem dX10_rival_23 : decode cX10_rival 23 = .ok (.isub, 1) := by decide +kernel
theorem dX10_rival_24 : decode cX10_rival 24 = .ok (.ireturn, 1) := by decide +kernel
theorem dX10_withoutPair_0 : decode cX10_withoutPair 0 = .ok (.aload_n 0, 1) := by decide +kernel
theorem dX10_withoutPair_1 : decode cX10_withoutPair 1 = .ok (.getfield 70, 3) := by decide +kernel
theorem dX10_withoutPair_4 : decode cX10_withoutPair 4 = .ok (.iload_n 1, 1) := by decide +kernel
theorem dX10_withoutPair_5 : decode cX10_withoutPair 5 = .ok (.baload, 1) := by decide +kernel
theorem dX10_withoutPair_6 : decode cX10_withoutPair 6 = .ok (.ifCond .ne 27, 3) := by decide +kernel
theorem dX10_withoutPair_9 : decode cX10_withoutPair 9 = .ok (.aload_n 0, 1) := by decide +kernel
theorem dX10_withoutPair_10 : decode cX10_withoutPair 10 = .ok (.getfield 79, 3) := by decide +kernel
theorem dX10_withoutPair_13 : decode cX10_withoutPair 13 = .ok (.iload_n 1, 1) := by decide +kernel
theorem dX10_withoutPair_14 : decode cX10_withoutPair 14 = .ok (.aload_n 0, 1) := by decide +kernel
theorem dX10_withoutPair_15 : decode cX10_withoutPair 15 = .ok (.iload_n 1, 1) := by decide +kernel
theorem dX10_withoutPair_16 : decode cX10_withoutPair 16 = .ok (.aload_n 0, 1) := by decide +kernel
theorem dX10_withoutPair_17 : decode cX10_withoutPair 17 = .ok (.getfield 67, 3) := by decide +kernel
theorem dX10_withoutPair_20 : decode cX10_withoutPair 20 = .ok (.iload_n 1, 1) := by decide +kernel
theorem dX10_withoutPair_21 : decode cX10_withoutPair 21 = .ok (.iaload, 1) := by decide +kernel
theorem dX10_withoutPair_22 : decode cX10_withoutPair 22 = .ok (.invokevirtual 175, 3) := by decide +kernel
theorem dX10_withoutPair_25 : decode cX10_withoutPair 25 = .ok (.iastore, 1) := by decide +kernel
theorem dX10_withoutPair_26 : decode cX10_withoutPair 26 = .ok (.aload_n 0, 1) := by decide +kernel
theorem dX10_withoutPair_27 : decode cX10_withoutPair 27 = .ok (.getfield 70, 3) := by decide +kernel
theorem dX10_withoutPair_30 : decode cX10_withoutPair 30 = .ok (.iload_n 1, 1) := by decide +kernel
theorem dX10_withoutPair_31 : decode cX10_withoutPair 31 = .ok (.iconst 1, 1) := by decide +kernel
theorem dX10_withoutPair_32 : decode cX10_withoutPair 32 = .ok (.bastore, 1) := by decide +kernel
theorem dX10_withoutPair_33 : decode cX10_withoutPair 33 = .ok (.aload_n 0, 1) := by decide +kernel
theorem dX10_withoutPair_34 : decode cX10_withoutPair 34 = .ok (.getfield 79, 3) := by decide +kernel
theorem dX10_withoutPair_37 : decode cX10_withoutPair 37 = .ok (.iload_n 1, 1) := by decide +kernel
theorem dX10_withoutPair_38 : decode cX10_withoutPair 38 = .ok (.iaload, 1) := by decide +kernel
theorem dX10_withoutPair_39 : decode cX10_withoutPair 39 = .ok (.ireturn, 1) := by decide +kernel
theorem dX10_newGroup_0 : decode cX10_newGroup 0 = .ok (.aload_n 0, 1) := by decide +kernel
theorem dX10_newGroup_1 : decode cX10_newGroup 1 = .ok (.getfield 120, 3) := by decide +kernel
theorem dX10_newGroup_4 : decode cX10_newGroup 4 = .ok (.istore_n 2, 1) := by decide +kernel
theorem dX10_newGroup_5 : decode cX10_newGroup 5 = .ok (.aload_n 0, 1) := by decide +kernel
theorem dX10_newGroup_6 : decode cX10_newGroup 6 = .ok (.getfield 35, 3) := by decide +kernel
theorem dX10_newGroup_9 : decode cX10_newGroup 9 = .ok (.iload_n 2, 1) := by decide +kernel
theorem dX10_newGroup_10 : decode cX10_newGroup 10 = .ok (.iload_n 1, 1) := by decide +kernel
theorem dX10_newGroup_11 : decode cX10_newGroup 11 = .ok (.iastore, 1) := by decide +kernel
theorem dX10_newGroup_12 : decode cX10_newGroup 12 = .ok (.aload_n 0, 1) := by decide +kernel
theorem dX10_newGroup_13 : decode cX10_newGroup 13 = .ok (.getfield 41, 3) := by decide +kernel
theorem dX10_newGroup_16 : decode cX10_newGroup 16 = .ok (.iload_n 2, 1) := by decide +kernel
theorem dX10_newGroup_17 : decode cX10_newGroup 17 = .ok (.iconst 0, 1) := by decide +kernel
theorem dX10_newGroup_18 : decode cX10_newGroup 18 = .ok (.iastore, 1) := by decide +kernel
theorem dX10_newGroup_19 : decode cX10_newGroup 19 = .ok (.aload_n 0, 1) := by decide +kernel
theorem dX10_newGroup_20 : decode cX10_newGroup 20 = .ok (.getfield 44, 3) := by decide +kernel
theorem dX10_newGroup_23 : decode cX10_newGroup 23 = .ok (.iload_n 2, 1) := by decide +kernel
theorem dX10_newGroup_24 : decode cX10_newGroup 24 = .ok (.aload_n 0, 1) := by decide +kernel
theorem dX10_newGroup_25 : decode cX10_newGroup 25 = .ok (.getfield 136, 3) := by decide +kernel
theorem dX10_newGroup_28 : decode cX10_newGroup 28 = .ok (.iastore, 1) := by decide +kernel
theorem dX10_newGroup_29 : decode cX10_newGroup 29 = .ok (.aload_n 0, 1) := by decide +kernel
theorem dX10_newGroup_30 : decode cX10_newGroup 30 = .ok (.getfield 47, 3) := by decide +kernel
theorem dX10_newGroup_33 : decode cX10_newGroup 33 = .ok (.iload_n 2, 1) := by decide +kernel
theorem dX10_newGroup_34 : decode cX10_newGroup 34 = .ok (.iconst (-1), 1) := by decide +kernel
theorem dX10_newGroup_35 : decode cX10_newGroup 35 = .ok (.iastore, 1) := by decide +kernel
theorem dX10_newGroup_36 : decode cX10_newGroup 36 = .ok (.aload_n 0, 1) := by decide +kernel
theorem dX10_newGroup_37 : decode cX10_newGroup 37 = .ok (.getfield 50, 3) := by decide +kernel
theorem dX10_newGroup_40 : decode cX10_newGroup 40 = .ok (.iload_n 2, 1) := by decide +kernel
theorem dX10_newGroup_41 : decode cX10_newGroup 41 = .ok (.iconst 0, 1) := by decide +kernel
theorem dX10_newGroup_42 : decode cX10_newGroup 42 = .ok (.bastore, 1) := by decide +kernel
theorem dX10_newGroup_43 : decode cX10_newGroup 43 = .ok (.aload_n 0, 1) := by decide +kernel
theorem dX10_newGroup_44 : decode cX10_newGroup 44 = .ok (.dup, 1) := by decide +kernel
theorem dX10_newGroup_45 : decode cX10_newGroup 45 = .ok (.getfield 120, 3) := by decide +kernel
theorem dX10_newGroup_48 : decode cX10_newGroup 48 = .ok (.iconst 1, 1) := by decide +kernel
theorem dX10_newGroup_49 : decode cX10_newGroup 49 = .ok (.iadd, 1) := by decide +kernel
theorem dX10_newGroup_50 : decode cX10_newGroup 50 = .ok (.putfield 120, 3) := by decide +kernel
theorem dX10_newGroup_53 : decode cX10_newGroup 53 = .ok (.iload_n 2, 1) := by decide +kernel
theorem dX10_newGroup_54 : decode cX10_newGroup 54 = .ok (.ireturn, 1) := by decide +kernel
theorem dX10_add_0 : decode cX10_add 0 = .ok (.aload_n 0, 1) := by decide +kernel
theorem dX10_add_1 : decode cX10_add 1 = .ok (.getfield 38, 3) := by decide +kernel
theorem dX10_add_4 : decode cX10_add 4 = .ok (.bipush 8, 2) := by decide +kernel
theorem dX10_add_6 : decode cX10_add 6 = .ok (.iload_n 1, 1) := by decide +kernel
theorem dX10_add_7 : decode cX10_add 7 = .ok (.imul, 1) := by decide +kernel
theorem dX10_add_8 : decode cX10_add 8 = .ok (.aload_n 0, 1) := by decide +kernel
theorem dX10_add_9 : decode cX10_add 9 = .ok (.getfield 41, 3) := by decide +kernel
theorem dX10_add_12 : decode cX10_add 12 = .ok (.iload_n 1, 1) := by decide +kernel
theorem dX10_add_13 : decode cX10_add 13 = .ok (.iaload, 1) := by decide +kernel
theorem dX10_add_14 : decode cX10_add 14 = .ok (.iadd, 1) := by decide +kernel
theorem dX10_add_15 : decode cX10_add 15 = .ok (.iload_n 2, 1) := by decide +kernel
theorem dX10_add_16 : decode cX10_add 16 = .ok (.iastore, 1) := by decide +kernel
theorem dX10_add_17 : decode cX10_add 17 = .ok (.aload_n 0, 1) := by decide +kernel
theorem dX10_add_18 : decode cX10_add 18 = .ok (.getfield 41, 3) := by decide +kernel
theorem dX10_add_21 : decode cX10_add 21 = .ok (.iload_n 1, 1) := by decide +kernel
theorem dX10_add_22 : decode cX10_add 22 = .ok (.dup2, 1) := by decide +kernel
theorem dX10_add_23 : decode cX10_add 23 = .ok (.iaload, 1) := by decide +kernel
theorem dX10_add_24 : decode cX10_add 24 = .ok (.iconst 1, 1) := by decide +kernel
theorem dX10_add_25 : decode cX10_add 25 = .ok (.iadd, 1) := by decide +kernel
theorem dX10_add_26 : decode cX10_add 26 = .ok (.iastore, 1) := by decide +kernel
theorem dX10_add_27 : decode cX10_add 27 = .ok (.aload_n 0, 1) := by decide +kernel
theorem dX10_add_28 : decode cX10_add 28 = .ok (.getfield 25, 3) := by decide +kernel
theorem dX10_add_31 : decode cX10_add 31 = .ok (.iload_n 2, 1) := by decide +kernel
theorem dX10_add_32 : decode cX10_add 32 = .ok (.iload_n 1, 1) := by decide +kernel
theorem dX10_add_33 : decode cX10_add 33 = .ok (.iastore, 1) := by decide +kernel
theorem dX10_add_34 : decode cX10_add 34 = .ok (.return_, 1) := by decide +kernel
theorem dX10_pair_0 : decode cX10_pair 0 = .ok (.iload_n 1, 1) := by decide +kernel
theorem dX10_pair_1 : decode cX10_pair 1 = .ok (.iconst 0, 1) := by decide +kernel
theorem dX10_pair_2 : decode cX10_pair 2 = .ok (.sipush 1000, 3) := by decide +kernel
theorem dX10_pair_5 : decode cX10_pair 5 = .ok (.invokestatic 116, 3) := by decide +kernel
theorem dX10_pair_8 : decode cX10_pair 8 = .ok (.ifCond .eq 10, 3) := by decide +kernel
theorem dX10_pair_11 : decode cX10_pair 11 = .ok (.aload_n 0, 1) := by decide +kernel
theorem dX10_pair_12 : decode cX10_pair 12 = .ok (.getfield 123, 3) := by decide +kernel
theorem dX10_pair_15 : decode cX10_pair 15 = .ok (.ifCond .ne 5, 3) := by decide +kernel
theorem dX10_pair_18 : decode cX10_pair 18 = .ok (.iconst (-1), 1) := by decide +kernel
theorem dX10_pair_19 : decode cX10_pair 19 = .ok (.ireturn, 1) := by decide +kernel
theorem dX10_pair_20 : decode cX10_pair 20 = .ok (.iconst 0, 1) := by decide +kernel
theorem dX10_pair_21 : decode cX10_pair 21 = .ok (.istore_n 2, 1) := by decide +kernel
theorem dX10_pair_22 : decode cX10_pair 22 = .ok (.iconst 0, 1) := by decide +kernel
theorem dX10_pair_23 : decode cX10_pair 23 = .ok (.istore_n 3, 1) := by decide +kernel
theorem dX10_pair_24 : decode cX10_pair 24 = .ok (.iconst 0, 1) := by decide +kernel
theorem dX10_pair_25 : decode cX10_pair 25 = .ok (.istore 4, 2) := by decide +kernel
theorem dX10_pair_27 : decode cX10_pair 27 = .ok (.iload 4, 2) := by decide +kernel
theorem dX10_pair_29 : decode cX10_pair 29 = .ok (.aload_n 0, 1) := by decide +kernel
theorem dX10_pair_30 : decode cX10_pair 30 = .ok (.getfield 168, 3) := by decide +kernel
theorem dX10_pair_33 : decode cX10_pair 33 = .ok (.if_icmp .ge 45, 3) := by decide +kernel
theorem dX10_pair_36 : decode cX10_pair 36 = .ok (.aload_n 0, 1) := by decide +kernel
theorem dX10_pair_37 : decode cX10_pair 37 = .ok (.getfield 67, 3) := by decide +kernel
theorem dX10_pair_40 : decode cX10_pair 40 = .ok (.iload 4, 2) := by decide +kernel
theorem dX10_pair_42 : decode cX10_pair 42 = .ok (.iaload, 1) := by decide +kernel
theorem dX10_pair_43 : decode cX10_pair 43 = .ok (.ifCond .lt 29, 3) := by decide +kernel
theorem dX10_pair_46 : decode cX10_pair 46 = .ok (.aload_n 0, 1) := by decide +kernel
theorem dX10_pair_47 : decode cX10_pair 47 = .ok (.iload 4, 2) := by decide +kernel
theorem dX10_pair_49 : decode cX10_pair 49 = .ok (.invokevirtual 185, 3) := by decide +kernel
theorem dX10_pair_52 : decode cX10_pair 52 = .ok (.aload_n 0, 1) := by decide +kernel
theorem dX10_pair_53 : decode cX10_pair 53 = .ok (.getfield 178, 3) := by decide +kernel
theorem dX10_pair_56 : decode cX10_pair 56 = .ok (.isub, 1) := by decide +kernel
theorem dX10_pair_57 : decode cX10_pair 57 = .ok (.iload_n 1, 1) := by decide +kernel
theorem dX10_pair_58 : decode cX10_pair 58 = .ok (.ineg, 1) := by decide +kernel
theorem dX10_pair_59 : decode cX10_pair 59 = .ok (.if_icmp .gt 13, 3) := by decide +kernel
theorem dX10_pair_62 : decode cX10_pair 62 = .ok (.iload_n 3, 1) := by decide +kernel
theorem dX10_pair_63 : decode cX10_pair 63 = .ok (.iconst 1, 1) := by decide +kernel
theorem dX10_pair_64 : decode cX10_pair 64 = .ok (.iload 4, 2) := by decide +kernel
theorem dX10_pair_66 : decode cX10_pair 66 = .ok (.ishl, 1) := by decide +kernel
theorem dX10_pair_67 : decode cX10_pair 67 = .ok (.ior, 1) := by decide +kernel
theorem dX10_pair_68 : decode cX10_pair 68 = .ok (.istore_n 3, 1) := by decide +kernel
theorem dX10_pair_69 : decode cX10_pair 69 = .ok (.iinc 2 1, 3) := by decide +kernel
theorem dX10_pair_72 : decode cX10_pair 72 = .ok (.iinc 4 1, 3) := by decide +kernel
theorem dX10_pair_75 : decode cX10_pair 75 = .ok (.goto (-48), 3) := by decide +kernel
theorem dX10_pair_78 : decode cX10_pair 78 = .ok (.aload_n 0, 1) := by decide +kernel
theorem dX10_pair_79 : decode cX10_pair 79 = .ok (.getfield 120, 3) := by decide +kernel
theorem dX10_pair_82 : decode cX10_pair 82 = .ok (.sipush 200, 3) := by decide +kernel
theorem dX10_pair_85 : decode cX10_pair 85 = .ok (.if_icmp .eq 15, 3) := by decide +kernel
theorem dX10_pair_88 : decode cX10_pair 88 = .ok (.aload_n 0, 1) := by decide +kernel
theorem dX10_pair_89 : decode cX10_pair 89 = .ok (.getfield 120, 3) := by decide +kernel
theorem dX10_pair_92 : decode cX10_pair 92 = .ok (.iload_n 2, 1) := by decide +kernel
theorem dX10_pair_93 : decode cX10_pair 93 = .ok (.iadd, 1) := by decide +kernel
theorem dX10_pair_94 : decode cX10_pair 94 = .ok (.sipush 200, 3) := by decide +kernel
theorem dX10_pair_97 : decode cX10_pair 97 = .ok (.if_icmp .le 6, 3) := by decide +kernel
theorem dX10_pair_100 : decode cX10_pair 100 = .ok (.bipush (-5), 2) := by decide +kernel
theorem dX10_pair_102 : decode cX10_pair 102 = .ok (.ireturn, 1) := by decide +kernel
theorem dX10_pair_103 : decode cX10_pair 103 = .ok (.iconst 0, 1) := by decide +kernel
theorem dX10_pair_104 : decode cX10_pair 104 = .ok (.istore 4, 2) := by decide +kernel
theorem dX10_pair_106 : decode cX10_pair 106 = .ok (.iload 4, 2) := by decide +kernel
theorem dX10_pair_108 : decode cX10_pair 108 = .ok (.aload_n 0, 1) := by decide +kernel
theorem dX10_pair_109 : decode cX10_pair 109 = .ok (.getfield 168, 3) := by decide +kernel
theorem dX10_pair_112 : decode cX10_pair 112 = .ok (.if_icmp .ge 68, 3) := by decide +kernel
theorem dX10_pair_115 : decode cX10_pair 115 = .ok (.iload_n 3, 1) := by decide +kernel
theorem dX10_pair_116 : decode cX10_pair 116 = .ok (.iload 4, 2) := by decide +kernel
theorem dX10_pair_118 : decode cX10_pair 118 = .ok (.ishr, 1) := by decide +kernel
theorem dX10_pair_119 : decode cX10_pair 119 = .ok (.iconst 1, 1) := by decide +kernel
theorem dX10_pair_120 : decode cX10_pair 120 = .ok (.iand, 1) := by decide +kernel
theorem dX10_pair_121 : decode cX10_pair 121 = .ok (.iconst 1, 1) := by decide +kernel
theorem dX10_pair_122 : decode cX10_pair 122 = .ok (.if_icmp .ne 52, 3) := by decide +kernel
theorem dX10_pair_125 : decode cX10_pair 125 = .ok (.aload_n 0, 1) := by decide +kernel
theorem dX10_pair_126 : decode cX10_pair 126 = .ok (.iconst 0, 1) := by decide +kernel
theorem dX10_pair_127 : decode cX10_pair 127 = .ok (.invokevirtual 188, 3) := by decide +kernel
theorem dX10_pair_130 : decode cX10_pair 130 = .ok (.istore 5, 2) := by decide +kernel
theorem dX10_pair_132 : decode cX10_pair 132 = .ok (.aload_n 0, 1) := by decide +kernel
theorem dX10_pair_133 : decode cX10_pair 133 = .ok (.iload 5, 2) := by decide +kernel
theorem dX10_pair_135 : decode cX10_pair 135 = .ok (.aload_n 0, 1) := by decide +kernel
theorem dX10_pair_136 : decode cX10_pair 136 = .ok (.getfield 54, 3) := by decide +kernel
theorem dX10_pair_139 : decode cX10_pair 139 = .ok (.iload 4, 2) := by decide +kernel
theorem dX10_pair_141 : decode cX10_pair 141 = .ok (.iaload, 1) := by decide +kernel
theorem dX10_pair_142 : decode cX10_pair 142 = .ok (.invokevirtual 191, 3) := by decide +kernel
theorem dX10_pair_145 : decode cX10_pair 145 = .ok (.aload_n 0, 1) := by decide +kernel
theorem dX10_pair_146 : decode cX10_pair 146 = .ok (.iload 5, 2) := by decide +kernel
theorem dX10_pair_148 : decode cX10_pair 148 = .ok (.bipush 80, 2) := by decide +kernel
theorem dX10_pair_150 : decode cX10_pair 150 = .ok (.aload_n 0, 1) := by decide +kernel
theorem dX10_pair_151 : decode cX10_pair 151 = .ok (.getfield 57, 3) := by decide +kernel
theorem dX10_pair_154 : decode cX10_pair 154 = .ok (.aload_n 0, 1) := by decide +kernel
theorem dX10_pair_155 : decode cX10_pair 155 = .ok (.getfield 67, 3) := by decide +kernel
theorem dX10_pair_158 : decode cX10_pair 158 = .ok (.iload 4, 2) := by decide +kernel
theorem dX10_pair_160 : decode cX10_pair 160 = .ok (.iaload, 1) := by decide +kernel
theorem dX10_pair_161 : decode cX10_pair 161 = .ok (.iaload, 1) := by decide +kernel
theorem dX10_pair_162 : decode cX10_pair 162 = .ok (.iadd, 1) := by decide +kernel
theorem dX10_pair_163 : decode cX10_pair 163 = .ok (.invokevirtual 191, 3) := by decide +kernel
theorem dX10_pair_166 : decode cX10_pair 166 = .ok (.aload_n 0, 1) := by decide +kernel
theorem dX10_pair_167 : decode cX10_pair 167 = .ok (.iconst 1, 1) := by decide +kernel
theorem dX10_pair_168 : decode cX10_pair 168 = .ok (.iload 5, 2) := by decide +kernel
theorem dX10_pair_170 : decode cX10_pair 170 = .ok (.iconst 0, 1) := by decide +kernel
theorem dX10_pair_171 : decode cX10_pair 171 = .ok (.invokevirtual 139, 3) := by decide +kernel
theorem dX10_pair_174 : decode cX10_pair 174 = .ok (.iinc 4 1, 3) := by decide +kernel
theorem dX10_pair_177 : decode cX10_pair 177 = .ok (.goto (-71), 3) := by decide +kernel
theorem dX10_pair_180 : decode cX10_pair 180 = .ok (.iload_n 2, 1) := by decide +kernel
theorem dX10_pair_181 : decode cX10_pair 181 = .ok (.ireturn, 1) := by decide +kernel
theorem dX10_choose_0 : decode cX10_choose 0 = .ok (.iload_n 3, 1) := by decide +kernel
theorem dX10_choose_1 : decode cX10_choose 1 = .ok (.ifCond .ne 94, 3) := by decide +kernel
theorem dX10_choose_4 : decode cX10_choose 4 = .ok (.lload 5, 2) := by decide +kernel
theorem dX10_choose_6 : decode cX10_choose 6 = .ok (.lconst 0, 1) := by decide +kernel
theorem dX10_choose_7 : decode cX10_choose 7 = .ok (.lcmp, 1) := by decide +kernel
theorem dX10_choose_8 : decode cX10_choose 8 = .ok (.ifCond .ge 9, 3) := by decide +kernel
theorem dX10_choose_11 : decode cX10_choose 11 = .ok (.lload 5, 2) := by decide +kernel
theorem dX10_choose_13 : decode cX10_choose 13 = .ok (.lneg, 1) := by decide +kernel
theorem dX10_choose_14 : decode cX10_choose 14 = .ok (.goto 5, 3) := by decide +kernel
theorem dX10_choose_17 : decode cX10_choose 17 = .ok (.lload 5, 2) := by decide +kernel
theorem dX10_choose_19 : decode cX10_choose 19 = .ok (.iload 7, 2) := by decide +kernel
theorem dX10_choose_21 : decode cX10_choose 21 = .ok (.i2l, 1) := by decide +kernel
theorem dX10_choose_22 : decode cX10_choose 22 = .ok (.lcmp, 1) := by decide +kernel
theorem dX10_choose_23 : decode cX10_choose 23 = .ok (.ifCond .gt 71, 3) := by decide +kernel
theorem dX10_choose_26 : decode cX10_choose 26 = .ok (.aload_n 0, 1) := by decide +kernel
theorem dX10_choose_27 : decode cX10_choose 27 = .ok (.getfield 195, 3) := by decide +kernel
theorem dX10_choose_30 : decode cX10_choose 30 = .ok (.sipush 5000, 3) := by decide +kernel
theorem dX10_choose_33 : decode cX10_choose 33 = .ok (.if_icmp .ge 61, 3) := by decide +kernel
theorem dX10_choose_36 : decode cX10_choose 36 = .ok (.aload_n 0, 1) := by decide +kernel
theorem dX10_choose_37 : decode cX10_choose 37 = .ok (.getfield 82, 3) := by decide +kernel
theorem dX10_choose_40 : decode cX10_choose 40 = .ok (.aload_n 0, 1) := by decide +kernel
theorem dX10_choose_41 : decode cX10_choose 41 = .ok (.getfield 195, 3) := by decide +kernel
theorem dX10_choose_44 : decode cX10_choose 44 = .ok (.iload 4, 2) := by decide +kernel
theorem dX10_choose_46 : decode cX10_choose 46 = .ok (.iastore, 1) := by decide +kernel
theorem dX10_choose_47 : decode cX10_choose 47 = .ok (.iconst 0, 1) := by decide +kernel
theorem dX10_choose_48 : decode cX10_choose 48 = .ok (.istore 8, 2) := by decide +kernel
theorem dX10_choose_50 : decode cX10_choose 50 = .ok (.iload 8, 2) := by decide +kernel
theorem dX10_choose_52 : decode cX10_choose 52 = .ok (.iload 4, 2) := by decide +kernel
theorem dX10_choose_54 : decode cX10_choose 54 = .ok (.if_icmp .ge 30, 3) := by decide +kernel
theorem dX10_choose_57 : decode cX10_choose 57 = .ok (.aload_n 0, 1) := by decide +kernel
theorem dX10_choose_58 : decode cX10_choose 58 = .ok (.getfield 85, 3) := by decide +kernel
theorem dX10_choose_61 : decode cX10_choose 61 = .ok (.iconst 4, 1) := by decide +kernel
theorem dX10_choose_62 : decode cX10_choose 62 = .ok (.aload_n 0, 1) := by decide +kernel
theorem dX10_choose_63 : decode cX10_choose 63 = .ok (.getfield 195, 3) := by decide +kernel
theorem dX10_choose_66 : decode cX10_choose 66 = .ok (.imul, 1) := by decide +kernel
theorem dX10_choose_67 : decode cX10_choose 67 = .ok (.iload 8, 2) := by decide +kernel
theorem dX10_choose_69 : decode cX10_choose 69 = .ok (.iadd, 1) := by decide +kernel
theorem dX10_choose_70 : decode cX10_choose 70 = .ok (.aload_n 0, 1) := by decide +kernel
theorem dX10_choose_71 : decode cX10_choose 71 = .ok (.getfield 88, 3) := by decide +kernel
theorem dX10_choose_74 : decode cX10_choose 74 = .ok (.iload 8, 2) := by decide +kernel
theorem dX10_choose_76 : decode cX10_choose 76 = .ok (.iaload, 1) := by decide +kernel
theorem dX10_choose_77 : decode cX10_choose 77 = .ok (.iastore, 1) := by decide +kernel
theorem dX10_choose_78 : decode cX10_choose 78 = .ok (.iinc 8 1, 3) := by decide +kernel
theorem dX10_choose_81 : decode cX10_choose 81 = .ok (.goto (-31), 3) := by decide +kernel
theorem dX10_choose_84 : decode cX10_choose 84 = .ok (.aload_n 0, 1) := by decide +kernel
theorem dX10_choose_85 : decode cX10_choose 85 = .ok (.dup, 1) := by decide +kernel
theorem dX10_choose_86 : decode cX10_choose 86 = .ok (.getfield 195, 3) := by decide +kernel
theorem dX10_choose_89 : decode cX10_choose 89 = .ok (.iconst 1, 1) := by decide +kernel
theorem dX10_choose_90 : decode cX10_choose 90 = .ok (.iadd, 1) := by decide +kernel
theorem dX10_choose_91 : decode cX10_choose 91 = .ok (.putfield 195, 3) := by decide +kernel
theorem dX10_choose_94 : decode cX10_choose 94 = .ok (.return_, 1) := by decide +kernel
theorem dX10_choose_95 : decode cX10_choose 95 = .ok (.bipush 80, 2) := by decide +kernel
theorem dX10_choose_97 : decode cX10_choose 97 = .ok (.aload_n 0, 1) := by decide +kernel
theorem dX10_choose_98 : decode cX10_choose 98 = .ok (.getfield 198, 3) := by decide +kernel
theorem dX10_choose_101 : decode cX10_choose 101 = .ok (.imul, 1) := by decide +kernel
theorem dX10_choose_102 : decode cX10_choose 102 = .ok (.aload_n 0, 1) := by decide +kernel
theorem dX10_choose_103 : decode cX10_choose 103 = .ok (.getfield 201, 3) := by decide +kernel
theorem dX10_choose_106 : decode cX10_choose 106 = .ok (.iadd, 1) := by decide +kernel
theorem dX10_choose_107 : decode cX10_choose 107 = .ok (.istore 8, 2) := by decide +kernel
theorem dX10_choose_109 : decode cX10_choose 109 = .ok (.iload_n 2, 1) := by decide +kernel
theorem dX10_choose_110 : decode cX10_choose 110 = .ok (.istore 9, 2) := by decide +kernel
theorem dX10_choose_112 : decode cX10_choose 112 = .ok (.iload 9, 2) := by decide +kernel
theorem dX10_choose_114 : decode cX10_choose 114 = .ok (.aload_n 0, 1) := by decide +kernel
theorem dX10_choose_115 : decode cX10_choose 115 = .ok (.getfield 28, 3) := by decide +kernel
theorem dX10_choose_118 : decode cX10_choose 118 = .ok (.iload_n 1, 1) := by decide +kernel
theorem dX10_choose_119 : decode cX10_choose 119 = .ok (.iaload, 1) := by decide +kernel
theorem dX10_choose_120 : decode cX10_choose 120 = .ok (.if_icmp .ge 100, 3) := by decide +kernel
theorem dX10_choose_123 : decode cX10_choose 123 = .ok (.aload_n 0, 1) := by decide +kernel
theorem dX10_choose_124 : decode cX10_choose 124 = .ok (.getfield 195, 3) := by decide +kernel
theorem dX10_choose_127 : decode cX10_choose 127 = .ok (.sipush 5000, 3) := by decide +kernel
theorem dX10_choose_130 : decode cX10_choose 130 = .ok (.if_icmp .ge 90, 3) := by decide +kernel
theorem dX10_choose_133 : decode cX10_choose 133 = .ok (.bipush 80, 2) := by decide +kernel
theorem dX10_choose_135 : decode cX10_choose 135 = .ok (.iload_n 1, 1) := by decide +kernel
theorem dX10_choose_136 : decode cX10_choose 136 = .ok (.imul, 1) := by decide +kernel
theorem dX10_choose_137 : decode cX10_choose 137 = .ok (.iload 9, 2) := by decide +kernel
theorem dX10_choose_139 : decode cX10_choose 139 = .ok (.iadd, 1) := by decide +kernel
theorem dX10_choose_140 : decode cX10_choose 140 = .ok (.istore 10, 2) := by decide +kernel
theorem dX10_choose_142 : decode cX10_choose 142 = .ok (.aload_n 0, 1) := by decide +kernel
theorem dX10_choose_143 : decode cX10_choose 143 = .ok (.getfield 25, 3) := by decide +kernel
theorem dX10_choose_146 : decode cX10_choose 146 = .ok (.iload 10, 2) := by decide +kernel
theorem dX10_choose_148 : decode cX10_choose 148 = .ok (.iaload, 1) := by decide +kernel
theorem dX10_choose_149 : decode cX10_choose 149 = .ok (.ifCond .ge 65, 3) := by decide +kernel
theorem dX10_choose_152 : decode cX10_choose 152 = .ok (.aload_n 0, 1) := by decide +kernel
theorem dX10_choose_153 : decode cX10_choose 153 = .ok (.getfield 13, 3) := by decide +kernel
theorem dX10_choose_156 : decode cX10_choose 156 = .ok (.iload 10, 2) := by decide +kernel
theorem dX10_choose_158 : decode cX10_choose 158 = .ok (.iaload, 1) := by decide +kernel
theorem dX10_choose_159 : decode cX10_choose 159 = .ok (.aload_n 0, 1) := by decide +kernel
theorem dX10_choose_160 : decode cX10_choose 160 = .ok (.getfield 13, 3) := by decide +kernel
theorem dX10_choose_163 : decode cX10_choose 163 = .ok (.iload 8, 2) := by decide +kernel
theorem dX10_choose_165 : decode cX10_choose 165 = .ok (.iaload, 1) := by decide +kernel
theorem dX10_choose_166 : decode cX10_choose 166 = .ok (.invokestatic 155, 3) := by decide +kernel
theorem dX10_choose_169 : decode cX10_choose 169 = .ok (.aload_n 0, 1) := by decide +kernel
theorem dX10_choose_170 : decode cX10_choose 170 = .ok (.getfield 31, 3) := by decide +kernel
theorem dX10_choose_173 : decode cX10_choose 173 = .ok (.if_icmp .gt 41, 3) := by decide +kernel
theorem dX10_choose_176 : decode cX10_choose 176 = .ok (.aload_n 0, 1) := by decide +kernel
theorem dX10_choose_177 : decode cX10_choose 177 = .ok (.getfield 88, 3) := by decide +kernel
theorem dX10_choose_180 : decode cX10_choose 180 = .ok (.iload 4, 2) := by decide +kernel
theorem dX10_choose_182 : decode cX10_choose 182 = .ok (.iload_n 3, 1) := by decide +kernel
theorem dX10_choose_183 : decode cX10_choose 183 = .ok (.isub, 1) := by decide +kernel
theorem dX10_choose_184 : decode cX10_choose 184 = .ok (.iload 9, 2) := by decide +kernel
theorem dX10_choose_186 : decode cX10_choose 186 = .ok (.iastore, 1) := by decide +kernel
theorem dX10_choose_187 : decode cX10_choose 187 = .ok (.aload_n 0, 1) := by decide +kernel
theorem dX10_choose_188 : decode cX10_choose 188 = .ok (.iload_n 1, 1) := by decide +kernel
theorem dX10_choose_189 : decode cX10_choose 189 = .ok (.iload 9, 2) := by decide +kernel
theorem dX10_choose_191 : decode cX10_choose 191 = .ok (.iconst 1, 1) := by decide +kernel
theorem dX10_choose_192 : decode cX10_choose 192 = .ok (.iadd, 1) := by decide +kernel
theorem dX10_choose_193 : decode cX10_choose 193 = .ok (.iload_n 3, 1) := by decide +kernel
theorem dX10_choose_194 : decode cX10_choose 194 = .ok (.iconst 1, 1) := by decide +kernel
theorem dX10_choose_195 : decode cX10_choose 195 = .ok (.isub, 1) := by decide +kernel
theorem dX10_choose_196 : decode cX10_choose 196 = .ok (.iload 4, 2) := by decide +kernel
theorem dX10_choose_198 : decode cX10_choose 198 = .ok (.lload 5, 2) := by decide +kernel
theorem dX10_choose_200 : decode cX10_choose 200 = .ok (.aload_n 0, 1) := by decide +kernel
theorem dX10_choose_201 : decode cX10_choose 201 = .ok (.getfield 9, 3) := by decide +kernel
theorem dX10_choose_204 : decode cX10_choose 204 = .ok (.iload 10, 2) := by decide +kernel
theorem dX10_choose_206 : decode cX10_choose 206 = .ok (.iaload, 1) := by decide +kernel
theorem dX10_choose_207 : decode cX10_choose 207 = .ok (.i2l, 1) := by decide +kernel
theorem dX10_choose_208 : decode cX10_choose 208 = .ok (.lsub, 1) := by decide +kernel
theorem dX10_choose_209 : decode cX10_choose 209 = .ok (.iload 7, 2) := by decide +kernel
theorem dX10_choose_211 : decode cX10_choose 211 = .ok (.invokevirtual 204, 3) := by decide +kernel
theorem dX10_choose_214 : decode cX10_choose 214 = .ok (.iinc 9 1, 3) := by decide +kernel
theorem dX10_choose_217 : decode cX10_choose 217 = .ok (.goto (-105), 3) := by decide +kernel
theorem dX10_choose_220 : decode cX10_choose 220 = .ok (.return_, 1) := by decide +kernel
theorem dX10_sets_0 : decode cX10_sets 0 = .ok (.aload_n 0, 1) := by decide +kernel
theorem dX10_sets_1 : decode cX10_sets 1 = .ok (.iload_n 1, 1) := by decide +kernel
theorem dX10_sets_2 : decode cX10_sets 2 = .ok (.iload_n 2, 1) := by decide +kernel
theorem dX10_sets_3 : decode cX10_sets 3 = .ok (.invokevirtual 150, 3) := by decide +kernel
theorem dX10_sets_6 : decode cX10_sets 6 = .ok (.ifCond .eq 24, 3) := by decide +kernel
theorem dX10_sets_9 : decode cX10_sets 9 = .ok (.iload_n 3, 1) := by decide +kernel
theorem dX10_sets_10 : decode cX10_sets 10 = .ok (.iconst 1, 1) := by decide +kernel
theorem dX10_sets_11 : decode cX10_sets 11 = .ok (.iconst 4, 1) := by decide +kernel
theorem dX10_sets_12 : decode cX10_sets 12 = .ok (.invokestatic 116, 3) := by decide +kernel
theorem dX10_sets_15 : decode cX10_sets 15 = .ok (.ifCond .eq 15, 3) := by decide +kernel
theorem dX10_sets_18 : decode cX10_sets 18 = .ok (.iload 4, 2) := by decide +kernel
theorem dX10_sets_20 : decode cX10_sets 20 = .ok (.iconst 0, 1) := by decide +kernel
theorem dX10_sets_21 : decode cX10_sets 21 = .ok (.sipush 10000, 3) := by decide +kernel
theorem dX10_sets_24 : decode cX10_sets 24 = .ok (.invokestatic 116, 3) := by decide +kernel
theorem dX10_sets_27 : decode cX10_sets 27 = .ok (.ifCond .ne 5, 3) := by decide +kernel
theorem dX10_sets_30 : decode cX10_sets 30 = .ok (.iconst (-1), 1) := by decide +kernel
theorem dX10_sets_31 : decode cX10_sets 31 = .ok (.ireturn, 1) := by decide +kernel
theorem dX10_sets_32 : decode cX10_sets 32 = .ok (.aload_n 0, 1) := by decide +kernel
theorem dX10_sets_33 : decode cX10_sets 33 = .ok (.getfield 25, 3) := by decide +kernel
theorem dX10_sets_36 : decode cX10_sets 36 = .ok (.bipush 80, 2) := by decide +kernel
theorem dX10_sets_38 : decode cX10_sets 38 = .ok (.iload_n 1, 1) := by decide +kernel
theorem dX10_sets_39 : decode cX10_sets 39 = .ok (.imul, 1) := by decide +kernel
theorem dX10_sets_40 : decode cX10_sets 40 = .ok (.iload_n 2, 1) := by decide +kernel
theorem dX10_sets_41 : decode cX10_sets 41 = .ok (.iadd, 1) := by decide +kernel
theorem dX10_sets_42 : decode cX10_sets 42 = .ok (.iaload, 1) := by decide +kernel
theorem dX10_sets_43 : decode cX10_sets 43 = .ok (.ifCond .lt 6, 3) := by decide +kernel
theorem dX10_sets_46 : decode cX10_sets 46 = .ok (.bipush (-2), 2) := by decide +kernel
theorem dX10_sets_48 : decode cX10_sets 48 = .ok (.ireturn, 1) := by decide +kernel
theorem dX10_sets_49 : decode cX10_sets 49 = .ok (.aload_n 0, 1) := by decide +kernel
theorem dX10_sets_50 : decode cX10_sets 50 = .ok (.iconst 0, 1) := by decide +kernel
theorem dX10_sets_51 : decode cX10_sets 51 = .ok (.putfield 195, 3) := by decide +kernel
theorem dX10_sets_54 : decode cX10_sets 54 = .ok (.aload_n 0, 1) := by decide +kernel
theorem dX10_sets_55 : decode cX10_sets 55 = .ok (.iload_n 1, 1) := by decide +kernel
theorem dX10_sets_56 : decode cX10_sets 56 = .ok (.putfield 198, 3) := by decide +kernel
theorem dX10_sets_59 : decode cX10_sets 59 = .ok (.aload_n 0, 1) := by decide +kernel
theorem dX10_sets_60 : decode cX10_sets 60 = .ok (.iload_n 2, 1) := by decide +kernel
theorem dX10_sets_61 : decode cX10_sets 61 = .ok (.putfield 201, 3) := by decide +kernel
theorem dX10_sets_64 : decode cX10_sets 64 = .ok (.aload_n 0, 1) := by decide +kernel
theorem dX10_sets_65 : decode cX10_sets 65 = .ok (.iconst 1, 1) := by decide +kernel
theorem dX10_sets_66 : decode cX10_sets 66 = .ok (.putfield 127, 3) := by decide +kernel
theorem dX10_sets_69 : decode cX10_sets 69 = .ok (.iconst 1, 1) := by decide +kernel
theorem dX10_sets_70 : decode cX10_sets 70 = .ok (.istore 5, 2) := by decide +kernel
theorem dX10_sets_72 : decode cX10_sets 72 = .ok (.iload 5, 2) := by decide +kernel
theorem dX10_sets_74 : decode cX10_sets 74 = .ok (.iload_n 3, 1) := by decide +kernel
theorem dX10_sets_75 : decode cX10_sets 75 = .ok (.if_icmp .gt 35, 3) := by decide +kernel
theorem dX10_sets_78 : decode cX10_sets 78 = .ok (.aload_n 0, 1) := by decide +kernel
theorem dX10_sets_79 : decode cX10_sets 79 = .ok (.iconst 1, 1) := by decide +kernel
theorem dX10_sets_80 : decode cX10_sets 80 = .ok (.iload_n 1, 1) := by decide +kernel
theorem dX10_sets_81 : decode cX10_sets 81 = .ok (.isub, 1) := by decide +kernel
theorem dX10_sets_82 : decode cX10_sets 82 = .ok (.iconst 0, 1) := by decide +kernel
theorem dX10_sets_83 : decode cX10_sets 83 = .ok (.iload 5, 2) := by decide +kernel
theorem dX10_sets_85 : decode cX10_sets 85 = .ok (.iload 5, 2) := by decide +kernel
theorem dX10_sets_87 : decode cX10_sets 87 = .ok (.aload_n 0, 1) := by decide +kernel
theorem dX10_sets_88 : decode cX10_sets 88 = .ok (.getfield 9, 3) := by decide +kernel
theorem dX10_sets_91 : decode cX10_sets 91 = .ok (.bipush 80, 2) := by decide +kernel
theorem dX10_sets_93 : decode cX10_sets 93 = .ok (.iload_n 1, 1) := by decide +kernel
theorem dX10_sets_94 : decode cX10_sets 94 = .ok (.imul, 1) := by decide +kernel
theorem dX10_sets_95 : decode cX10_sets 95 = .ok (.iload_n 2, 1) := by decide +kernel
theorem dX10_sets_96 : decode cX10_sets 96 = .ok (.iadd, 1) := by decide +kernel
theorem dX10_sets_97 : decode cX10_sets 97 = .ok (.iaload, 1) := by decide +kernel
theorem dX10_sets_98 : decode cX10_sets 98 = .ok (.i2l, 1) := by decide +kernel
theorem dX10_sets_99 : decode cX10_sets 99 = .ok (.iload 4, 2) := by decide +kernel
theorem dX10_sets_101 : decode cX10_sets 101 = .ok (.invokevirtual 204, 3) := by decide +kernel
theorem dX10_sets_104 : decode cX10_sets 104 = .ok (.iinc 5 1, 3) := by decide +kernel
theorem dX10_sets_107 : decode cX10_sets 107 = .ok (.goto (-35), 3) := by decide +kernel
theorem dX10_sets_110 : decode cX10_sets 110 = .ok (.aload_n 0, 1) := by decide +kernel
theorem dX10_sets_111 : decode cX10_sets 111 = .ok (.getfield 195, 3) := by decide +kernel
theorem dX10_sets_114 : decode cX10_sets 114 = .ok (.ireturn, 1) := by decide +kernel
theorem dX10_size_0 : decode cX10_size 0 = .ok (.iload_n 1, 1) := by decide +kernel
theorem dX10_size_1 : decode cX10_size 1 = .ok (.ifCond .lt 20, 3) := by decide +kernel
theorem dX10_size_4 : decode cX10_size 4 = .ok (.iload_n 1, 1) := by decide +kernel
theorem dX10_size_5 : decode cX10_size 5 = .ok (.aload_n 0, 1) := by decide +kernel
theorem dX10_size_6 : decode cX10_size 6 = .ok (.getfield 195, 3) := by decide +kernel
theorem dX10_size_9 : decode cX10_size 9 = .ok (.if_icmp .ge 12, 3) := by decide +kernel
theorem dX10_size_12 : decode cX10_size 12 = .ok (.aload_n 0, 1) := by decide +kernel
theorem dX10_size_13 : decode cX10_size 13 = .ok (.getfield 82, 3) := by decide +kernel
theorem dX10_size_16 : decode cX10_size 16 = .ok (.iload_n 1, 1) := by decide +kernel
theorem dX10_size_17 : decode cX10_size 17 = .ok (.iaload, 1) := by decide +kernel
theorem dX10_size_18 : decode cX10_size 18 = .ok (.goto 4, 3) := by decide +kernel
theorem dX10_size_21 : decode cX10_size 21 = .ok (.iconst (-1), 1) := by decide +kernel
theorem dX10_size_22 : decode cX10_size 22 = .ok (.ireturn, 1) := by decide +kernel
theorem dX10_in_0 : decode cX10_in 0 = .ok (.iload_n 1, 1) := by decide +kernel
theorem dX10_in_1 : decode cX10_in 1 = .ok (.ifCond .lt 38, 3) := by decide +kernel
theorem dX10_in_4 : decode cX10_in 4 = .ok (.iload_n 1, 1) := by decide +kernel
theorem dX10_in_5 : decode cX10_in 5 = .ok (.aload_n 0, 1) := by decide +kernel
theorem dX10_in_6 : decode cX10_in 6 = .ok (.getfield 195, 3) := by decide +kernel
theorem dX10_in_9 : decode cX10_in 9 = .ok (.if_icmp .ge 30, 3) := by decide +kernel
theorem dX10_in_12 : decode cX10_in 12 = .ok (.iload_n 2, 1) := by decide +kernel
theorem dX10_in_13 : decode cX10_in 13 = .ok (.ifCond .lt 26, 3) := by decide +kernel
theorem dX10_in_16 : decode cX10_in 16 = .ok (.iload_n 2, 1) := by decide +kernel
theorem dX10_in_17 : decode cX10_in 17 = .ok (.aload_n 0, 1) := by decide +kernel
theorem dX10_in_18 : decode cX10_in 18 = .ok (.getfield 82, 3) := by decide +kernel
theorem dX10_in_21 : decode cX10_in 21 = .ok (.iload_n 1, 1) := by decide +kernel
theorem dX10_in_22 : decode cX10_in 22 = .ok (.iaload, 1) := by decide +kernel
theorem dX10_in_23 : decode cX10_in 23 = .ok (.if_icmp .ge 16, 3) := by decide +kernel
theorem dX10_in_26 : decode cX10_in 26 = .ok (.aload_n 0, 1) := by decide +kernel
theorem dX10_in_27 : decode cX10_in 27 = .ok (.getfield 85, 3) := by decide +kernel
theorem dX10_in_30 : decode cX10_in 30 = .ok (.iconst 4, 1) := by decide +kernel
theorem dX10_in_31 : decode cX10_in 31 = .ok (.iload_n 1, 1) := by decide +kernel
theorem dX10_in_32 : decode cX10_in 32 = .ok (.imul, 1) := by decide +kernel
theorem dX10_in_33 : decode cX10_in 33 = .ok (.iload_n 2, 1) := by decide +kernel
theorem dX10_in_34 : decode cX10_in 34 = .ok (.iadd, 1) := by decide +kernel
theorem dX10_in_35 : decode cX10_in 35 = .ok (.iaload, 1) := by decide +kernel
theorem dX10_in_36 : decode cX10_in 36 = .ok (.goto 4, 3) := by decide +kernel
theorem dX10_in_39 : decode cX10_in 39 = .ok (.iconst (-1), 1) := by decide +kernel
theorem dX10_in_40 : decode cX10_in 40 = .ok (.ireturn, 1) := by decide +kernel
theorem dX10_set_0 : decode cX10_set 0 = .ok (.aload_n 0, 1) := by decide +kernel
theorem dX10_set_1 : decode cX10_set 1 = .ok (.getfield 127, 3) := by decide +kernel
theorem dX10_set_4 : decode cX10_set 4 = .ok (.ifCond .eq 15, 3) := by decide +kernel
theorem dX10_set_7 : decode cX10_set 7 = .ok (.iload_n 1, 1) := by decide +kernel
theorem dX10_set_8 : decode cX10_set 8 = .ok (.ifCond .lt 11, 3) := by decide +kernel
theorem dX10_set_11 : decode cX10_set 11 = .ok (.iload_n 1, 1) := by decide +kernel
theorem dX10_set_12 : decode cX10_set 12 = .ok (.aload_n 0, 1) := by decide +kernel
theorem dX10_set_13 : decode cX10_set 13 = .ok (.getfield 195, 3) := by decide +kernel
theorem dX10_set_16 : decode cX10_set 16 = .ok (.if_icmp .lt 5, 3) := by decide +kernel
theorem dX10_set_19 : decode cX10_set 19 = .ok (.iconst (-1), 1) := by decide +kernel
theorem dX10_set_20 : decode cX10_set 20 = .ok (.ireturn, 1) := by decide +kernel
theorem dX10_set_21 : decode cX10_set 21 = .ok (.aload_n 0, 1) := by decide +kernel
theorem dX10_set_22 : decode cX10_set 22 = .ok (.getfield 120, 3) := by decide +kernel
theorem dX10_set_25 : decode cX10_set 25 = .ok (.sipush 200, 3) := by decide +kernel
theorem dX10_set_28 : decode cX10_set 28 = .ok (.if_icmp .ne 6, 3) := by decide +kernel
theorem dX10_set_31 : decode cX10_set 31 = .ok (.bipush (-5), 2) := by decide +kernel
theorem dX10_set_33 : decode cX10_set 33 = .ok (.ireturn, 1) := by decide +kernel
theorem dX10_set_34 : decode cX10_set 34 = .ok (.aload_n 0, 1) := by decide +kernel
theorem dX10_set_35 : decode cX10_set 35 = .ok (.iconst 1, 1) := by decide +kernel
theorem dX10_set_36 : decode cX10_set 36 = .ok (.invokevirtual 188, 3) := by decide +kernel
theorem dX10_set_39 : decode cX10_set 39 = .ok (.istore_n 2, 1) := by decide +kernel
theorem dX10_set_40 : decode cX10_set 40 = .ok (.aload_n 0, 1) := by decide +kernel
theorem dX10_set_41 : decode cX10_set 41 = .ok (.iload_n 2, 1) := by decide +kernel
theorem dX10_set_42 : decode cX10_set 42 = .ok (.bipush 80, 2) := by decide +kernel
theorem dX10_set_44 : decode cX10_set 44 = .ok (.aload_n 0, 1) := by decide +kernel
theorem dX10_set_45 : decode cX10_set 45 = .ok (.getfield 198, 3) := by decide +kernel
theorem dX10_set_48 : decode cX10_set 48 = .ok (.imul, 1) := by decide +kernel
theorem dX10_set_49 : decode cX10_set 49 = .ok (.aload_n 0, 1) := by decide +kernel
theorem dX10_set_50 : decode cX10_set 50 = .ok (.getfield 201, 3) := by decide +kernel
theorem dX10_set_53 : decode cX10_set 53 = .ok (.iadd, 1) := by decide +kernel
theorem dX10_set_54 : decode cX10_set 54 = .ok (.invokevirtual 191, 3) := by decide +kernel
theorem dX10_set_57 : decode cX10_set 57 = .ok (.iconst 0, 1) := by decide +kernel
theorem dX10_set_58 : decode cX10_set 58 = .ok (.istore_n 3, 1) := by decide +kernel
theorem dX10_set_59 : decode cX10_set 59 = .ok (.iload_n 3, 1) := by decide +kernel
theorem dX10_set_60 : decode cX10_set 60 = .ok (.aload_n 0, 1) := by decide +kernel
theorem dX10_set_61 : decode cX10_set 61 = .ok (.getfield 82, 3) := by decide +kernel
theorem dX10_set_64 : decode cX10_set 64 = .ok (.iload_n 1, 1) := by decide +kernel
theorem dX10_set_65 : decode cX10_set 65 = .ok (.iaload, 1) := by decide +kernel
theorem dX10_set_66 : decode cX10_set 66 = .ok (.if_icmp .ge 34, 3) := by decide +kernel
theorem dX10_set_69 : decode cX10_set 69 = .ok (.aload_n 0, 1) := by decide +kernel
theorem dX10_set_70 : decode cX10_set 70 = .ok (.iload_n 2, 1) := by decide +kernel
theorem dX10_set_71 : decode cX10_set 71 = .ok (.bipush 80, 2) := by decide +kernel
theorem dX10_set_73 : decode cX10_set 73 = .ok (.iconst 1, 1) := by decide +kernel
theorem dX10_set_74 : decode cX10_set 74 = .ok (.aload_n 0, 1) := by decide +kernel
theorem dX10_set_75 : decode cX10_set 75 = .ok (.getfield 198, 3) := by decide +kernel
theorem dX10_set_78 : decode cX10_set 78 = .ok (.isub, 1) := by decide +kernel
theorem dX10_set_79 : decode cX10_set 79 = .ok (.imul, 1) := by decide +kernel
theorem dX10_set_80 : decode cX10_set 80 = .ok (.aload_n 0, 1) := by decide +kernel
theorem dX10_set_81 : decode cX10_set 81 = .ok (.getfield 85, 3) := by decide +kernel
theorem dX10_set_84 : decode cX10_set 84 = .ok (.iconst 4, 1) := by decide +kernel
theorem dX10_set_85 : decode cX10_set 85 = .ok (.iload_n 1, 1) := by decide +kernel
theorem dX10_set_86 : decode cX10_set 86 = .ok (.imul, 1) := by decide +kernel
theorem dX10_set_87 : decode cX10_set 87 = .ok (.iload_n 3, 1) := by decide +kernel
theorem dX10_set_88 : decode cX10_set 88 = .ok (.iadd, 1) := by decide +kernel
theorem dX10_set_89 : decode cX10_set 89 = .ok (.iaload, 1) := by decide +kernel
theorem dX10_set_90 : decode cX10_set 90 = .ok (.iadd, 1) := by decide +kernel
theorem dX10_set_91 : decode cX10_set 91 = .ok (.invokevirtual 191, 3) := by decide +kernel
theorem dX10_set_94 : decode cX10_set 94 = .ok (.iinc 3 1, 3) := by decide +kernel
theorem dX10_set_97 : decode cX10_set 97 = .ok (.goto (-38), 3) := by decide +kernel
theorem dX10_set_100 : decode cX10_set 100 = .ok (.aload_n 0, 1) := by decide +kernel
theorem dX10_set_101 : decode cX10_set 101 = .ok (.iconst 1, 1) := by decide +kernel
theorem dX10_set_102 : decode cX10_set 102 = .ok (.iload_n 2, 1) := by decide +kernel
theorem dX10_set_103 : decode cX10_set 103 = .ok (.iconst 0, 1) := by decide +kernel
theorem dX10_set_104 : decode cX10_set 104 = .ok (.invokevirtual 139, 3) := by decide +kernel
theorem dX10_set_107 : decode cX10_set 107 = .ok (.iload_n 2, 1) := by decide +kernel
theorem dX10_set_108 : decode cX10_set 108 = .ok (.ireturn, 1) := by decide +kernel
theorem dX10_hand_0 : decode cX10_hand 0 = .ok (.aload_n 0, 1) := by decide +kernel
theorem dX10_hand_1 : decode cX10_hand 1 = .ok (.iconst 0, 1) := by decide +kernel
theorem dX10_hand_2 : decode cX10_hand 2 = .ok (.iload_n 1, 1) := by decide +kernel
theorem dX10_hand_3 : decode cX10_hand 3 = .ok (.invokevirtual 150, 3) := by decide +kernel
theorem dX10_hand_6 : decode cX10_hand 6 = .ok (.ifCond .eq 12, 3) := by decide +kernel
theorem dX10_hand_9 : decode cX10_hand 9 = .ok (.aload_n 0, 1) := by decide +kernel
theorem dX10_hand_10 : decode cX10_hand 10 = .ok (.iconst 1, 1) := by decide +kernel
theorem dX10_hand_11 : decode cX10_hand 11 = .ok (.iload_n 2, 1) := by decide +kernel
theorem dX10_hand_12 : decode cX10_hand 12 = .ok (.invokevirtual 150, 3) := by decide +kernel
theorem dX10_hand_15 : decode cX10_hand 15 = .ok (.ifCond .ne 5, 3) := by decide +kernel
theorem dX10_hand_18 : decode cX10_hand 18 = .ok (.iconst (-1), 1) := by decide +kernel
theorem dX10_hand_19 : decode cX10_hand 19 = .ok (.ireturn, 1) := by decide +kernel
theorem dX10_hand_20 : decode cX10_hand 20 = .ok (.aload_n 0, 1) := by decide +kernel
theorem dX10_hand_21 : decode cX10_hand 21 = .ok (.getfield 25, 3) := by decide +kernel
theorem dX10_hand_24 : decode cX10_hand 24 = .ok (.iload_n 1, 1) := by decide +kernel
theorem dX10_hand_25 : decode cX10_hand 25 = .ok (.iaload, 1) := by decide +kernel
theorem dX10_hand_26 : decode cX10_hand 26 = .ok (.ifCond .ge 15, 3) := by decide +kernel
theorem dX10_hand_29 : decode cX10_hand 29 = .ok (.aload_n 0, 1) := by decide +kernel
theorem dX10_hand_30 : decode cX10_hand 30 = .ok (.getfield 25, 3) := by decide +kernel
theorem dX10_hand_33 : decode cX10_hand 33 = .ok (.bipush 80, 2) := by decide +kernel
theorem dX10_hand_35 : decode cX10_hand 35 = .ok (.iload_n 2, 1) := by decide +kernel
theorem dX10_hand_36 : decode cX10_hand 36 = .ok (.iadd, 1) := by decide +kernel
theorem dX10_hand_37 : decode cX10_hand 37 = .ok (.iaload, 1) := by decide +kernel
theorem dX10_hand_38 : decode cX10_hand 38 = .ok (.ifCond .lt 6, 3) := by decide +kernel
theorem dX10_hand_41 : decode cX10_hand 41 = .ok (.bipush (-2), 2) := by decide +kernel
theorem dX10_hand_43 : decode cX10_hand 43 = .ok (.ireturn, 1) := by decide +kernel
theorem dX10_hand_44 : decode cX10_hand 44 = .ok (.aload_n 0, 1) := by decide +kernel
theorem dX10_hand_45 : decode cX10_hand 45 = .ok (.getfield 120, 3) := by decide +kernel
theorem dX10_hand_48 : decode cX10_hand 48 = .ok (.sipush 200, 3) := by decide +kernel
theorem dX10_hand_51 : decode cX10_hand 51 = .ok (.if_icmp .ne 6, 3) := by decide +kernel
theorem dX10_hand_54 : decode cX10_hand 54 = .ok (.bipush (-5), 2) := by decide +kernel
theorem dX10_hand_56 : decode cX10_hand 56 = .ok (.ireturn, 1) := by decide +kernel
theorem dX10_hand_57 : decode cX10_hand 57 = .ok (.aload_n 0, 1) := by decide +kernel
theorem dX10_hand_58 : decode cX10_hand 58 = .ok (.iconst 2, 1) := by decide +kernel
theorem dX10_hand_59 : decode cX10_hand 59 = .ok (.invokevirtual 188, 3) := by decide +kernel
theorem dX10_hand_62 : decode cX10_hand 62 = .ok (.istore_n 3, 1) := by decide +kernel
theorem dX10_hand_63 : decode cX10_hand 63 = .ok (.aload_n 0, 1) := by decide +kernel
theorem dX10_hand_64 : decode cX10_hand 64 = .ok (.iload_n 3, 1) := by decide +kernel
theorem dX10_hand_65 : decode cX10_hand 65 = .ok (.iload_n 1, 1) := by decide +kernel
theorem dX10_hand_66 : decode cX10_hand 66 = .ok (.invokevirtual 191, 3) := by decide +kernel
theorem dX10_hand_69 : decode cX10_hand 69 = .ok (.aload_n 0, 1) := by decide +kernel
theorem dX10_hand_70 : decode cX10_hand 70 = .ok (.iload_n 3, 1) := by decide +kernel
theorem dX10_hand_71 : decode cX10_hand 71 = .ok (.bipush 80, 2) := by decide +kernel
theorem dX10_hand_73 : decode cX10_hand 73 = .ok (.iload_n 2, 1) := by decide +kernel
theorem dX10_hand_74 : decode cX10_hand 74 = .ok (.iadd, 1) := by decide +kernel
theorem dX10_hand_75 : decode cX10_hand 75 = .ok (.invokevirtual 191, 3) := by decide +kernel
theorem dX10_hand_78 : decode cX10_hand 78 = .ok (.aload_n 0, 1) := by decide +kernel
theorem dX10_hand_79 : decode cX10_hand 79 = .ok (.iconst 1, 1) := by decide +kernel
theorem dX10_hand_80 : decode cX10_hand 80 = .ok (.iload_n 3, 1) := by decide +kernel
theorem dX10_hand_81 : decode cX10_hand 81 = .ok (.iconst 0, 1) := by decide +kernel
theorem dX10_hand_82 : decode cX10_hand 82 = .ok (.invokevirtual 139, 3) := by decide +kernel
theorem dX10_hand_85 : decode cX10_hand 85 = .ok (.iload_n 3, 1) := by decide +kernel
theorem dX10_hand_86 : decode cX10_hand 86 = .ok (.ireturn, 1) := by decide +kernel
theorem dX10_join_0 : decode cX10_join 0 = .ok (.aload_n 0, 1) := by decide +kernel
theorem dX10_join_1 : decode cX10_join 1 = .ok (.iload_n 1, 1) := by decide +kernel
theorem dX10_join_2 : decode cX10_join 2 = .ok (.invokevirtual 208, 3) := by decide +kernel
theorem dX10_join_5 : decode cX10_join 5 = .ok (.ifCond .eq 12, 3) := by decide +kernel
theorem dX10_join_8 : decode cX10_join 8 = .ok (.aload_n 0, 1) := by decide +kernel
theorem dX10_join_9 : decode cX10_join 9 = .ok (.iload_n 2, 1) := by decide +kernel
theorem dX10_join_10 : decode cX10_join 10 = .ok (.iload_n 3, 1) := by decide +kernel
theorem dX10_join_11 : decode cX10_join 11 = .ok (.invokevirtual 150, 3) := by decide +kernel
theorem dX10_join_14 : decode cX10_join 14 = .ok (.ifCond .ne 5, 3) := by decide +kernel
theorem dX10_join_17 : decode cX10_join 17 = .ok (.iconst (-1), 1) := by decide +kernel
theorem dX10_join_18 : decode cX10_join 18 = .ok (.ireturn, 1) := by decide +kernel
theorem dX10_join_19 : decode cX10_join 19 = .ok (.aload_n 0, 1) := by decide +kernel
theorem dX10_join_20 : decode cX10_join 20 = .ok (.getfield 25, 3) := by decide +kernel
theorem dX10_join_23 : decode cX10_join 23 = .ok (.bipush 80, 2) := by decide +kernel
theorem dX10_join_25 : decode cX10_join 25 = .ok (.iload_n 2, 1) := by decide +kernel
theorem dX10_join_26 : decode cX10_join 26 = .ok (.imul, 1) := by decide +kernel
theorem dX10_join_27 : decode cX10_join 27 = .ok (.iload_n 3, 1) := by decide +kernel
theorem dX10_join_28 : decode cX10_join 28 = .ok (.iadd, 1) := by decide +kernel
theorem dX10_join_29 : decode cX10_join 29 = .ok (.iaload, 1) := by decide +kernel
theorem dX10_join_30 : decode cX10_join 30 = .ok (.ifCond .lt 6, 3) := by decide +kernel
theorem dX10_join_33 : decode cX10_join 33 = .ok (.bipush (-2), 2) := by decide +kernel
theorem dX10_join_35 : decode cX10_join 35 = .ok (.ireturn, 1) := by decide +kernel
theorem dX10_join_36 : decode cX10_join 36 = .ok (.aload_n 0, 1) := by decide +kernel
theorem dX10_join_37 : decode cX10_join 37 = .ok (.getfield 50, 3) := by decide +kernel
theorem dX10_join_40 : decode cX10_join 40 = .ok (.iload_n 1, 1) := by decide +kernel
theorem dX10_join_41 : decode cX10_join 41 = .ok (.baload, 1) := by decide +kernel
theorem dX10_join_42 : decode cX10_join 42 = .ok (.ifCond .eq 6, 3) := by decide +kernel
theorem dX10_join_45 : decode cX10_join 45 = .ok (.bipush (-3), 2) := by decide +kernel
theorem dX10_join_47 : decode cX10_join 47 = .ok (.ireturn, 1) := by decide +kernel
theorem dX10_join_48 : decode cX10_join 48 = .ok (.aload_n 0, 1) := by decide +kernel
theorem dX10_join_49 : decode cX10_join 49 = .ok (.getfield 41, 3) := by decide +kernel
theorem dX10_join_52 : decode cX10_join 52 = .ok (.iload_n 1, 1) := by decide +kernel
theorem dX10_join_53 : decode cX10_join 53 = .ok (.iaload, 1) := by decide +kernel
theorem dX10_join_54 : decode cX10_join 54 = .ok (.bipush 8, 2) := by decide +kernel
theorem dX10_join_56 : decode cX10_join 56 = .ok (.if_icmp .ne 6, 3) := by decide +kernel
theorem dX10_join_59 : decode cX10_join 59 = .ok (.bipush (-5), 2) := by decide +kernel
theorem dX10_join_61 : decode cX10_join 61 = .ok (.ireturn, 1) := by decide +kernel
theorem dX10_join_62 : decode cX10_join 62 = .ok (.aload_n 0, 1) := by decide +kernel
theorem dX10_join_63 : decode cX10_join 63 = .ok (.iload_n 1, 1) := by decide +kernel
theorem dX10_join_64 : decode cX10_join 64 = .ok (.bipush 80, 2) := by decide +kernel
theorem dX10_join_66 : decode cX10_join 66 = .ok (.iload_n 2, 1) := by decide +kernel
theorem dX10_join_67 : decode cX10_join 67 = .ok (.imul, 1) := by decide +kernel
theorem dX10_join_68 : decode cX10_join 68 = .ok (.iload_n 3, 1) := by decide +kernel
theorem dX10_join_69 : decode cX10_join 69 = .ok (.iadd, 1) := by decide +kernel
theorem dX10_join_70 : decode cX10_join 70 = .ok (.invokevirtual 191, 3) := by decide +kernel
theorem dX10_join_73 : decode cX10_join 73 = .ok (.aload_n 0, 1) := by decide +kernel
theorem dX10_join_74 : decode cX10_join 74 = .ok (.iconst 2, 1) := by decide +kernel
theorem dX10_join_75 : decode cX10_join 75 = .ok (.iload_n 1, 1) := by decide +kernel
theorem dX10_join_76 : decode cX10_join 76 = .ok (.aload_n 0, 1) := by decide +kernel
theorem dX10_join_77 : decode cX10_join 77 = .ok (.getfield 35, 3) := by decide +kernel
theorem dX10_join_80 : decode cX10_join 80 = .ok (.iload_n 1, 1) := by decide +kernel
theorem dX10_join_81 : decode cX10_join 81 = .ok (.iaload, 1) := by decide +kernel
theorem dX10_join_82 : decode cX10_join 82 = .ok (.invokevirtual 139, 3) := by decide +kernel
theorem dX10_join_85 : decode cX10_join 85 = .ok (.aload_n 0, 1) := by decide +kernel
theorem dX10_join_86 : decode cX10_join 86 = .ok (.getfield 35, 3) := by decide +kernel
theorem dX10_join_89 : decode cX10_join 89 = .ok (.iload_n 1, 1) := by decide +kernel
theorem dX10_join_90 : decode cX10_join 90 = .ok (.iconst 2, 1) := by decide +kernel
theorem dX10_join_91 : decode cX10_join 91 = .ok (.iastore, 1) := by decide +kernel
theorem dX10_join_92 : decode cX10_join 92 = .ok (.aload_n 0, 1) := by decide +kernel
theorem dX10_join_93 : decode cX10_join 93 = .ok (.getfield 41, 3) := by decide +kernel
theorem dX10_join_96 : decode cX10_join 96 = .ok (.iload_n 1, 1) := by decide +kernel
theorem dX10_join_97 : decode cX10_join 97 = .ok (.iaload, 1) := by decide +kernel
theorem dX10_join_98 : decode cX10_join 98 = .ok (.ireturn, 1) := by decide +kernel
theorem dX10_part_0 : decode cX10_part 0 = .ok (.aload_n 0, 1) := by decide +kernel
theorem dX10_part_1 : decode cX10_part 1 = .ok (.iload_n 1, 1) := by decide +kernel
theorem dX10_part_2 : decode cX10_part 2 = .ok (.invokevirtual 208, 3) := by decide +kernel
theorem dX10_part_5 : decode cX10_part 5 = .ok (.ifCond .ne 5, 3) := by decide +kernel
theorem dX10_part_8 : decode cX10_part 8 = .ok (.iconst (-1), 1) := by decide +kernel
theorem dX10_part_9 : decode cX10_part 9 = .ok (.ireturn, 1) := by decide +kernel
theorem dX10_part_10 : decode cX10_part 10 = .ok (.aload_n 0, 1) := by decide +kernel
theorem dX10_part_11 : decode cX10_part 11 = .ok (.getfield 50, 3) := by decide +kernel
theorem dX10_part_14 : decode cX10_part 14 = .ok (.iload_n 1, 1) := by decide +kernel
theorem dX10_part_15 : decode cX10_part 15 = .ok (.baload, 1) := by decide +kernel
theorem dX10_part_16 : decode cX10_part 16 = .ok (.ifCond .eq 6, 3) := by decide +kernel
theorem dX10_part_19 : decode cX10_part 19 = .ok (.bipush (-3), 2) := by decide +kernel
theorem dX10_part_21 : decode cX10_part 21 = .ok (.ireturn, 1) := by decide +kernel
theorem dX10_part_22 : decode cX10_part 22 = .ok (.aload_n 0, 1) := by decide +kernel
theorem dX10_part_23 : decode cX10_part 23 = .ok (.getfield 47, 3) := by decide +kernel
theorem dX10_part_26 : decode cX10_part 26 = .ok (.iload_n 1, 1) := by decide +kernel
theorem dX10_part_27 : decode cX10_part 27 = .ok (.aload_n 0, 1) := by decide +kernel
theorem dX10_part_28 : decode cX10_part 28 = .ok (.getfield 136, 3) := by decide +kernel
theorem dX10_part_31 : decode cX10_part 31 = .ok (.iastore, 1) := by decide +kernel
theorem dX10_part_32 : decode cX10_part 32 = .ok (.iconst 0, 1) := by decide +kernel
theorem dX10_part_33 : decode cX10_part 33 = .ok (.istore_n 2, 1) := by decide +kernel
theorem dX10_part_34 : decode cX10_part 34 = .ok (.iload_n 2, 1) := by decide +kernel
theorem dX10_part_35 : decode cX10_part 35 = .ok (.aload_n 0, 1) := by decide +kernel
theorem dX10_part_36 : decode cX10_part 36 = .ok (.getfield 41, 3) := by decide +kernel
theorem dX10_part_39 : decode cX10_part 39 = .ok (.iload_n 1, 1) := by decide +kernel
theorem dX10_part_40 : decode cX10_part 40 = .ok (.iaload, 1) := by decide +kernel
theorem dX10_part_41 : decode cX10_part 41 = .ok (.if_icmp .ge 26, 3) := by decide +kernel
theorem dX10_part_44 : decode cX10_part 44 = .ok (.aload_n 0, 1) := by decide +kernel
theorem dX10_part_45 : decode cX10_part 45 = .ok (.getfield 25, 3) := by decide +kernel
theorem dX10_part_48 : decode cX10_part 48 = .ok (.aload_n 0, 1) := by decide +kernel
theorem dX10_part_49 : decode cX10_part 49 = .ok (.getfield 38, 3) := by decide +kernel
theorem dX10_part_52 : decode cX10_part 52 = .ok (.bipush 8, 2) := by decide +kernel
theorem dX10_part_54 : decode cX10_part 54 = .ok (.iload_n 1, 1) := by decide +kernel
theorem dX10_part_55 : decode cX10_part 55 = .ok (.imul, 1) := by decide +kernel
theorem dX10_part_56 : decode cX10_part 56 = .ok (.iload_n 2, 1) := by decide +kernel
theorem dX10_part_57 : decode cX10_part 57 = .ok (.iadd, 1) := by decide +kernel
theorem dX10_part_58 : decode cX10_part 58 = .ok (.iaload, 1) := by decide +kernel
theorem dX10_part_59 : decode cX10_part 59 = .ok (.iconst (-1), 1) := by decide +kernel
theorem dX10_part_60 : decode cX10_part 60 = .ok (.iastore, 1) := by decide +kernel
theorem dX10_part_61 : decode cX10_part 61 = .ok (.iinc 2 1, 3) := by decide +kernel
theorem dX10_part_64 : decode cX10_part 64 = .ok (.goto (-30), 3) := by decide +kernel
theorem dX10_part_67 : decode cX10_part 67 = .ok (.aload_n 0, 1) := by decide +kernel
theorem dX10_part_68 : decode cX10_part 68 = .ok (.iconst 3, 1) := by decide +kernel
theorem dX10_part_69 : decode cX10_part 69 = .ok (.iload_n 1, 1) := by decide +kernel
theorem dX10_part_70 : decode cX10_part 70 = .ok (.iconst 0, 1) := by decide +kernel
theorem dX10_part_71 : decode cX10_part 71 = .ok (.invokevirtual 139, 3) := by decide +kernel
theorem dX10_part_74 : decode cX10_part 74 = .ok (.aload_n 0, 1) := by decide +kernel
theorem dX10_part_75 : decode cX10_part 75 = .ok (.getfield 41, 3) := by decide +kernel
theorem dX10_part_78 : decode cX10_part 78 = .ok (.iload_n 1, 1) := by decide +kernel
theorem dX10_part_79 : decode cX10_part 79 = .ok (.iaload, 1) := by decide +kernel
theorem dX10_part_80 : decode cX10_part 80 = .ok (.ireturn, 1) := by decide +kernel
theorem dX10_lock_0 : decode cX10_lock 0 = .ok (.aload_n 0, 1) := by decide +kernel
theorem dX10_lock_1 : decode cX10_lock 1 = .ok (.iload_n 1, 1) := by decide +kernel
theorem dX10_lock_2 : decode cX10_lock 2 = .ok (.invokevirtual 208, 3) := by decide +kernel
theorem dX10_lock_5 : decode cX10_lock 5 = .ok (.ifCond .eq 12, 3) := by decide +kernel
theorem dX10_lock_8 : decode cX10_lock 8 = .ok (.iload_n 2, 1) := by decide +kernel
theorem dX10_lock_9 : decode cX10_lock 9 = .ok (.iconst 0, 1) := by decide +kernel
theorem dX10_lock_10 : decode cX10_lock 10 = .ok (.iconst 1, 1) := by decide +kernel
theorem dX10_lock_11 : decode cX10_lock 11 = .ok (.invokestatic 116, 3) := by decide +kernel
theorem dX10_lock_14 : decode cX10_lock 14 = .ok (.ifCond .ne 5, 3) := by decide +kernel
theorem dX10_lock_17 : decode cX10_lock 17 = .ok (.iconst (-1), 1) := by decide +kernel
theorem dX10_lock_18 : decode cX10_lock 18 = .ok (.ireturn, 1) := by decide +kernel
theorem dX10_lock_19 : decode cX10_lock 19 = .ok (.aload_n 0, 1) := by decide +kernel
theorem dX10_lock_20 : decode cX10_lock 20 = .ok (.getfield 50, 3) := by decide +kernel
theorem dX10_lock_23 : decode cX10_lock 23 = .ok (.iload_n 1, 1) := by decide +kernel
theorem dX10_lock_24 : decode cX10_lock 24 = .ok (.baload, 1) := by decide +kernel
theorem dX10_lock_25 : decode cX10_lock 25 = .ok (.ifCond .eq 7, 3) := by decide +kernel
theorem dX10_lock_28 : decode cX10_lock 28 = .ok (.iconst 1, 1) := by decide +kernel
theorem dX10_lock_29 : decode cX10_lock 29 = .ok (.goto 4, 3) := by decide +kernel
theorem dX10_lock_32 : decode cX10_lock 32 = .ok (.iconst 0, 1) := by decide +kernel
theorem dX10_lock_33 : decode cX10_lock 33 = .ok (.istore_n 3, 1) := by decide +kernel
theorem dX10_lock_34 : decode cX10_lock 34 = .ok (.aload_n 0, 1) := by decide +kernel
theorem dX10_lock_35 : decode cX10_lock 35 = .ok (.getfield 50, 3) := by decide +kernel
theorem dX10_lock_38 : decode cX10_lock 38 = .ok (.iload_n 1, 1) := by decide +kernel
theorem dX10_lock_39 : decode cX10_lock 39 = .ok (.iload_n 2, 1) := by decide +kernel
theorem dX10_lock_40 : decode cX10_lock 40 = .ok (.iconst 1, 1) := by decide +kernel
theorem dX10_lock_41 : decode cX10_lock 41 = .ok (.if_icmp .ne 7, 3) := by decide +kernel
theorem dX10_lock_44 : decode cX10_lock 44 = .ok (.iconst 1, 1) := by decide +kernel
theorem dX10_lock_45 : decode cX10_lock 45 = .ok (.goto 4, 3) := by decide +kernel
theorem dX10_lock_48 : decode cX10_lock 48 = .ok (.iconst 0, 1) := by decide +kernel
theorem dX10_lock_49 : decode cX10_lock 49 = .ok (.bastore, 1) := by decide +kernel
theorem dX10_lock_50 : decode cX10_lock 50 = .ok (.aload_n 0, 1) := by decide +kernel
theorem dX10_lock_51 : decode cX10_lock 51 = .ok (.iconst 4, 1) := by decide +kernel
theorem dX10_lock_52 : decode cX10_lock 52 = .ok (.iload_n 1, 1) := by decide +kernel
theorem dX10_lock_53 : decode cX10_lock 53 = .ok (.iload_n 3, 1) := by decide +kernel
theorem dX10_lock_54 : decode cX10_lock 54 = .ok (.invokevirtual 139, 3) := by decide +kernel
theorem dX10_lock_57 : decode cX10_lock 57 = .ok (.iload_n 3, 1) := by decide +kernel
theorem dX10_lock_58 : decode cX10_lock 58 = .ok (.ireturn, 1) := by decide +kernel
theorem dX10_differenceOf_0 : decode cX10_differenceOf 0 = .ok (.lconst 0, 1) := by decide +kernel
theorem dX10_differenceOf_1 : decode cX10_differenceOf 1 = .ok (.lstore_n 2, 1) := by decide +kernel
theorem dX10_differenceOf_2 : decode cX10_differenceOf 2 = .ok (.iconst 0, 1) := by decide +kernel
theorem dX10_differenceOf_3 : decode cX10_differenceOf 3 = .ok (.istore 4, 2) := by decide +kernel
theorem dX10_differenceOf_5 : decode cX10_differenceOf 5 = .ok (.iload 4, 2) := by decide +kernel
theorem dX10_differenceOf_7 : decode cX10_differenceOf 7 = .ok (.aload_n 0, 1) := by decide +kernel
theorem dX10_differenceOf_8 : decode cX10_differenceOf 8 = .ok (.getfield 41, 3) := by decide +kernel
theorem dX10_differenceOf_11 : decode cX10_differenceOf 11 = .ok (.iload_n 1, 1) := by decide +kernel
theorem dX10_differenceOf_12 : decode cX10_differenceOf 12 = .ok (.iaload, 1) := by decide +kernel
theorem dX10_differenceOf_13 : decode cX10_differenceOf 13 = .ok (.if_icmp .ge 53, 3) := by decide +kernel
theorem dX10_differenceOf_16 : decode cX10_differenceOf 16 = .ok (.aload_n 0, 1) := by decide +kernel
theorem dX10_differenceOf_17 : decode cX10_differenceOf 17 = .ok (.getfield 38, 3) := by decide +kernel
theorem dX10_differenceOf_20 : decode cX10_differenceOf 20 = .ok (.bipush 8, 2) := by decide +kernel
theorem dX10_differenceOf_22 : decode cX10_differenceOf 22 = .ok (.iload_n 1, 1) := by decide +kernel
theorem dX10_differenceOf_23 : decode cX10_differenceOf 23 = .ok (.imul, 1) := by decide +kernel
theorem dX10_differenceOf_24 : decode cX10_differenceOf 24 = .ok (.iload 4, 2) := by decide +kernel
theorem dX10_differenceOf_26 : decode cX10_differenceOf 26 = .ok (.iadd, 1) := by decide +kernel
theorem dX10_differenceOf_27 : decode cX10_differenceOf 27 = .ok (.iaload, 1) := by decide +kernel
theorem dX10_differenceOf_28 : decode cX10_differenceOf 28 = .ok (.istore 5, 2) := by decide +kernel
theorem dX10_differenceOf_30 : decode cX10_differenceOf 30 = .ok (.lload_n 2, 1) := by decide +kernel
theorem dX10_differenceOf_31 : decode cX10_differenceOf 31 = .ok (.iload 5, 2) := by decide +kernel
theorem dX10_differenceOf_33 : decode cX10_differenceOf 33 = .ok (.bipush 80, 2) := by decide +kernel
theorem dX10_differenceOf_35 : decode cX10_differenceOf 35 = .ok (.if_icmp .ge 14, 3) := by decide +kernel
theorem dX10_differenceOf_38 : decode cX10_differenceOf 38 = .ok (.aload_n 0, 1) := by decide +kernel
theorem dX10_differenceOf_39 : decode cX10_differenceOf 39 = .ok (.getfield 9, 3) := by decide +kernel
theorem dX10_differenceOf_42 : decode cX10_differenceOf 42 = .ok (.iload 5, 2) := by decide +kernel
theorem dX10_differenceOf_44 : decode cX10_differenceOf 44 = .ok (.iaload, 1) := by decide +kernel
theorem dX10_differenceOf_45 : decode cX10_differenceOf 45 = .ok (.i2l, 1) := by decide +kernel
theorem dX10_differenceOf_46 : decode cX10_differenceOf 46 = .ok (.goto 12, 3) := by decide +kernel
theorem dX10_differenceOf_49 : decode cX10_differenceOf 49 = .ok (.aload_n 0, 1) := by decide +kernel
theorem dX10_differenceOf_50 : decode cX10_differenceOf 50 = .ok (.getfield 9, 3) := by decide +kernel
theorem dX10_differenceOf_53 : decode cX10_differenceOf 53 = .ok (.iload 5, 2) := by decide +kernel
theorem dX10_differenceOf_55 : decode cX10_differenceOf 55 = .ok (.iaload, 1) := by decide +kernel
theorem dX10_differenceOf_56 : decode cX10_differenceOf 56 = .ok (.ineg, 1) := by decide +kernel
theorem dX10_differenceOf_57 : decode cX10_differenceOf 57 = .ok (.i2l, 1) := by decide +kernel
theorem dX10_differenceOf_58 : decode cX10_differenceOf 58 = .ok (.ladd, 1) := by decide +kernel
theorem dX10_differenceOf_59 : decode cX10_differenceOf 59 = .ok (.lstore_n 2, 1) := by decide +kernel
theorem dX10_differenceOf_60 : decode cX10_differenceOf 60 = .ok (.iinc 4 1, 3) := by decide +kernel
theorem dX10_differenceOf_63 : decode cX10_differenceOf 63 = .ok (.goto (-58), 3) := by decide +kernel
theorem dX10_differenceOf_66 : decode cX10_differenceOf 66 = .ok (.lload_n 2, 1) := by decide +kernel
theorem dX10_differenceOf_67 : decode cX10_differenceOf 67 = .ok (.lreturn, 1) := by decide +kernel
theorem dX10_group_0 : decode cX10_group 0 = .ok (.iload_n 1, 1) := by decide +kernel
theorem dX10_group_1 : decode cX10_group 1 = .ok (.ifCond .lt 11, 3) := by decide +kernel
theorem dX10_group_4 : decode cX10_group 4 = .ok (.iload_n 1, 1) := by decide +kernel
theorem dX10_group_5 : decode cX10_group 5 = .ok (.aload_n 0, 1) := by decide +kernel
theorem dX10_group_6 : decode cX10_group 6 = .ok (.getfield 120, 3) := by decide +kernel
theorem dX10_group_9 : decode cX10_group 9 = .ok (.if_icmp .lt 6, 3) := by decide +kernel
theorem dX10_group_12 : decode cX10_group 12 = .ok (.ldc 212, 2) := by decide +kernel
theorem dX10_group_14 : decode cX10_group 14 = .ok (.ireturn, 1) := by decide +kernel
theorem dX10_group_15 : decode cX10_group 15 = .ok (.iload_n 2, 1) := by decide +kernel
theorem dX10_group_16 : decode cX10_group 16 = .ok (.tableswitch 90 0 5 #[40, 47, 54, 61, 68, 75], 40) := by decide +kernel
theorem dX10_group_56 : decode cX10_group 56 = .ok (.aload_n 0, 1) := by decide +kernel
theorem dX10_group_57 : decode cX10_group 57 = .ok (.getfield 35, 3) := by decide +kernel
theorem dX10_group_60 : decode cX10_group 60 = .ok (.iload_n 1, 1) := by decide +kernel
theorem dX10_group_61 : decode cX10_group 61 = .ok (.iaload, 1) := by decide +kernel
theorem dX10_group_62 : decode cX10_group 62 = .ok (.ireturn, 1) := by decide +kernel
theorem dX10_group_63 : decode cX10_group 63 = .ok (.aload_n 0, 1) := by decide +kernel
theorem dX10_group_64 : decode cX10_group 64 = .ok (.getfield 41, 3) := by decide +kernel
theorem dX10_group_67 : decode cX10_group 67 = .ok (.iload_n 1, 1) := by decide +kernel
theorem dX10_group_68 : decode cX10_group 68 = .ok (.iaload, 1) := by decide +kernel
theorem dX10_group_69 : decode cX10_group 69 = .ok (.ireturn, 1) := by decide +kernel
theorem dX10_group_70 : decode cX10_group 70 = .ok (.aload_n 0, 1) := by decide +kernel
theorem dX10_group_71 : decode cX10_group 71 = .ok (.iload_n 1, 1) := by decide +kernel
theorem dX10_group_72 : decode cX10_group 72 = .ok (.invokevirtual 213, 3) := by decide +kernel
theorem dX10_group_75 : decode cX10_group 75 = .ok (.l2i, 1) := by decide +kernel
theorem dX10_group_76 : decode cX10_group 76 = .ok (.ireturn, 1) := by decide +kernel
theorem dX10_group_77 : decode cX10_group 77 = .ok (.aload_n 0, 1) := by decide +kernel
theorem dX10_group_78 : decode cX10_group 78 = .ok (.getfield 44, 3) := by decide +kernel
theorem dX10_group_81 : decode cX10_group 81 = .ok (.iload_n 1, 1) := by decide +kernel
theorem dX10_group_82 : decode cX10_group 82 = .ok (.iaload, 1) := by decide +kernel
theorem dX10_group_83 : decode cX10_group 83 = .ok (.ireturn, 1) := by decide +kernel
theorem dX10_group_84 : decode cX10_group 84 = .ok (.aload_n 0, 1) := by decide +kernel
theorem dX10_group_85 : decode cX10_group 85 = .ok (.getfield 47, 3) := by decide +kernel
theorem dX10_group_88 : decode cX10_group 88 = .ok (.iload_n 1, 1) := by decide +kernel
theorem dX10_group_89 : decode cX10_group 89 = .ok (.iaload, 1) := by decide +kernel
theorem dX10_group_90 : decode cX10_group 90 = .ok (.ireturn, 1) := by decide +kernel
theorem dX10_group_91 : decode cX10_group 91 = .ok (.aload_n 0, 1) := by decide +kernel
theorem dX10_group_92 : decode cX10_group 92 = .ok (.getfield 50, 3) := by decide +kernel
theorem dX10_group_95 : decode cX10_group 95 = .ok (.iload_n 1, 1) := by decide +kernel
theorem dX10_group_96 : decode cX10_group 96 = .ok (.baload, 1) := by decide +kernel
theorem dX10_group_97 : decode cX10_group 97 = .ok (.ifCond .eq 7, 3) := by decide +kernel
theorem dX10_group_100 : decode cX10_group 100 = .ok (.iconst 1, 1) := by decide +kernel
theorem dX10_group_101 : decode cX10_group 101 = .ok (.goto 4, 3) := by decide +kernel
theorem dX10_group_104 : decode cX10_group 104 = .ok (.iconst 0, 1) := by decide +kernel
theorem dX10_group_105 : decode cX10_group 105 = .ok (.ireturn, 1) := by decide +kernel
theorem dX10_group_106 : decode cX10_group 106 = .ok (.ldc 212, 2) := by decide +kernel
theorem dX10_group_108 : decode cX10_group 108 = .ok (.ireturn, 1) := by decide +kernel
theorem dX10_breaks_0 : decode cX10_breaks 0 = .ok (.iload_n 1, 1) := by decide +kernel
theorem dX10_breaks_1 : decode cX10_breaks 1 = .ok (.iconst 0, 1) := by decide +kernel
theorem dX10_breaks_2 : decode cX10_breaks 2 = .ok (.iconst 1, 1) := by decide +kernel
theorem dX10_breaks_3 : decode cX10_breaks 3 = .ok (.invokestatic 116, 3) := by decide +kernel
theorem dX10_breaks_6 : decode cX10_breaks 6 = .ok (.ifCond .eq 7, 3) := by decide +kernel
theorem dX10_breaks_9 : decode cX10_breaks 9 = .ok (.iload_n 2, 1) := by decide +kernel
theorem dX10_breaks_10 : decode cX10_breaks 10 = .ok (.ifCond .ge 5, 3) := by decide +kernel
theorem dX10_breaks_13 : decode cX10_breaks 13 = .ok (.iconst (-1), 1) := by decide +kernel
theorem dX10_breaks_14 : decode cX10_breaks 14 = .ok (.ireturn, 1) := by decide +kernel
theorem dX10_breaks_15 : decode cX10_breaks 15 = .ok (.iconst 0, 1) := by decide +kernel
theorem dX10_breaks_16 : decode cX10_breaks 16 = .ok (.istore_n 3, 1) := by decide +kernel
theorem dX10_breaks_17 : decode cX10_breaks 17 = .ok (.iconst 0, 1) := by decide +kernel
theorem dX10_breaks_18 : decode cX10_breaks 18 = .ok (.istore 4, 2) := by decide +kernel
theorem dX10_breaks_20 : decode cX10_breaks 20 = .ok (.iload 4, 2) := by decide +kernel
theorem dX10_breaks_22 : decode cX10_breaks 22 = .ok (.aload_n 0, 1) := by decide +kernel
theorem dX10_breaks_23 : decode cX10_breaks 23 = .ok (.getfield 28, 3) := by decide +kernel
theorem dX10_breaks_26 : decode cX10_breaks 26 = .ok (.iload_n 1, 1) := by decide +kernel
theorem dX10_breaks_27 : decode cX10_breaks 27 = .ok (.iaload, 1) := by decide +kernel
theorem dX10_breaks_28 : decode cX10_breaks 28 = .ok (.if_icmp .ge 52, 3) := by decide +kernel
theorem dX10_breaks_31 : decode cX10_breaks 31 = .ok (.bipush 80, 2) := by decide +kernel
theorem dX10_breaks_33 : decode cX10_breaks 33 = .ok (.iload_n 1, 1) := by decide +kernel
theorem dX10_breaks_34 : decode cX10_breaks 34 = .ok (.imul, 1) := by decide +kernel
theorem dX10_breaks_35 : decode cX10_breaks 35 = .ok (.iload 4, 2) := by decide +kernel
theorem dX10_breaks_37 : decode cX10_breaks 37 = .ok (.iadd, 1) := by decide +kernel
theorem dX10_breaks_38 : decode cX10_breaks 38 = .ok (.istore 5, 2) := by decide +kernel
theorem dX10_breaks_40 : decode cX10_breaks 40 = .ok (.iload_n 3, 1) := by decide +kernel
theorem dX10_breaks_41 : decode cX10_breaks 41 = .ok (.aload_n 0, 1) := by decide +kernel
theorem dX10_breaks_42 : decode cX10_breaks 42 = .ok (.getfield 25, 3) := by decide +kernel
theorem dX10_breaks_45 : decode cX10_breaks 45 = .ok (.iload 5, 2) := by decide +kernel
theorem dX10_breaks_47 : decode cX10_breaks 47 = .ok (.iaload, 1) := by decide +kernel
theorem dX10_breaks_48 : decode cX10_breaks 48 = .ok (.ifCond .ge 23, 3) := by decide +kernel
theorem dX10_breaks_51 : decode cX10_breaks 51 = .ok (.aload_n 0, 1) := by decide +kernel
theorem dX10_breaks_52 : decode cX10_breaks 52 = .ok (.getfield 136, 3) := by decide +kernel
theorem dX10_breaks_55 : decode cX10_breaks 55 = .ok (.aload_n 0, 1) := by decide +kernel
theorem dX10_breaks_56 : decode cX10_breaks 56 = .ok (.getfield 22, 3) := by decide +kernel
theorem dX10_breaks_59 : decode cX10_breaks 59 = .ok (.iload 5, 2) := by decide +kernel
theorem dX10_breaks_61 : decode cX10_breaks 61 = .ok (.iaload, 1) := by decide +kernel
theorem dX10_breaks_62 : decode cX10_breaks 62 = .ok (.isub, 1) := by decide +kernel
theorem dX10_breaks_63 : decode cX10_breaks 63 = .ok (.iload_n 2, 1) := by decide +kernel
theorem dX10_breaks_64 : decode cX10_breaks 64 = .ok (.if_icmp .lt 7, 3) := by decide +kernel
theorem dX10_breaks_67 : decode cX10_breaks 67 = .ok (.iconst 1, 1) := by decide +kernel
theorem dX10_breaks_68 : decode cX10_breaks 68 = .ok (.goto 4, 3) := by decide +kernel
theorem dX10_breaks_71 : decode cX10_breaks 71 = .ok (.iconst 0, 1) := by decide +kernel
theorem dX10_breaks_72 : decode cX10_breaks 72 = .ok (.iadd, 1) := by decide +kernel
theorem dX10_breaks_73 : decode cX10_breaks 73 = .ok (.istore_n 3, 1) := by decide +kernel
theorem dX10_breaks_74 : decode cX10_breaks 74 = .ok (.iinc 4 1, 3) := by decide +kernel
theorem dX10_breaks_77 : decode cX10_breaks 77 = .ok (.goto (-57), 3) := by decide +kernel
theorem dX10_breaks_80 : decode cX10_breaks 80 = .ok (.iload_n 3, 1) := by decide +kernel
theorem dX10_breaks_81 : decode cX10_breaks 81 = .ok (.ireturn, 1) := by decide +kernel
theorem dX10_broken_0 : decode cX10_broken 0 = .ok (.iload_n 1, 1) := by decide +kernel
theorem dX10_broken_1 : decode cX10_broken 1 = .ok (.iconst 0, 1) := by decide +kernel
theorem dX10_broken_2 : decode cX10_broken 2 = .ok (.iconst 1, 1) := by decide +kernel
theorem dX10_broken_3 : decode cX10_broken 3 = .ok (.invokestatic 116, 3) := by decide +kernel
theorem dX10_broken_6 : decode cX10_broken 6 = .ok (.ifCond .eq 7, 3) := by decide +kernel
theorem dX10_broken_9 : decode cX10_broken 9 = .ok (.iload_n 2, 1) := by decide +kernel
theorem dX10_broken_10 : decode cX10_broken 10 = .ok (.ifCond .ge 5, 3) := by decide +kernel
theorem dX10_broken_13 : decode cX10_broken 13 = .ok (.iconst (-1), 1) := by decide +kernel
theorem dX10_broken_14 : decode cX10_broken 14 = .ok (.ireturn, 1) := by decide +kernel
theorem dX10_broken_15 : decode cX10_broken 15 = .ok (.iload_n 2, 1) := by decide +kernel
theorem dX10_broken_16 : decode cX10_broken 16 = .ok (.istore_n 3, 1) := by decide +kernel
theorem dX10_broken_17 : decode cX10_broken 17 = .ok (.iconst 0, 1) := by decide +kernel
theorem dX10_broken_18 : decode cX10_broken 18 = .ok (.istore 4, 2) := by decide +kernel
theorem dX10_broken_20 : decode cX10_broken 20 = .ok (.iload 4, 2) := by decide +kernel
theorem dX10_broken_22 : decode cX10_broken 22 = .ok (.aload_n 0, 1) := by decide +kernel
theorem dX10_broken_23 : decode cX10_broken 23 = .ok (.getfield 28, 3) := by decide +kernel
theorem dX10_broken_26 : decode cX10_broken 26 = .ok (.iload_n 1, 1) := by decide +kernel
theorem dX10_broken_27 : decode cX10_broken 27 = .ok (.iaload, 1) := by decide +kernel
theorem dX10_broken_28 : decode cX10_broken 28 = .ok (.if_icmp .ge 34, 3) := by decide +kernel
theorem dX10_broken_31 : decode cX10_broken 31 = .ok (.aload_n 0, 1) := by decide +kernel
theorem dX10_broken_32 : decode cX10_broken 32 = .ok (.getfield 25, 3) := by decide +kernel
theorem dX10_broken_35 : decode cX10_broken 35 = .ok (.bipush 80, 2) := by decide +kernel
theorem dX10_broken_37 : decode cX10_broken 37 = .ok (.iload_n 1, 1) := by decide +kernel
theorem dX10_broken_38 : decode cX10_broken 38 = .ok (.imul, 1) := by decide +kernel
theorem dX10_broken_39 : decode cX10_broken 39 = .ok (.iload 4, 2) := by decide +kernel
theorem dX10_broken_41 : decode cX10_broken 41 = .ok (.iadd, 1) := by decide +kernel
theorem dX10_broken_42 : decode cX10_broken 42 = .ok (.iaload, 1) := by decide +kernel
theorem dX10_broken_43 : decode cX10_broken 43 = .ok (.ifCond .ge 13, 3) := by decide +kernel
theorem dX10_broken_46 : decode cX10_broken 46 = .ok (.iload_n 3, 1) := by decide +kernel
theorem dX10_broken_47 : decode cX10_broken 47 = .ok (.ifCond .ne 6, 3) := by decide +kernel
theorem dX10_broken_50 : decode cX10_broken 50 = .ok (.iload 4, 2) := by decide +kernel
theorem dX10_broken_52 : decode cX10_broken 52 = .ok (.ireturn, 1) := by decide +kernel
theorem dX10_broken_53 : decode cX10_broken 53 = .ok (.iinc 3 (-1), 3) := by decide +kernel
theorem dX10_broken_56 : decode cX10_broken 56 = .ok (.iinc 4 1, 3) := by decide +kernel
theorem dX10_broken_59 : decode cX10_broken 59 = .ok (.goto (-39), 3) := by decide +kernel
theorem dX10_broken_62 : decode cX10_broken 62 = .ok (.iconst (-1), 1) := by decide +kernel
theorem dX10_broken_63 : decode cX10_broken 63 = .ok (.ireturn, 1) := by decide +kernel
theorem dX10_sum_0 : decode cX10_sum 0 = .ok (.lconst 0, 1) := by decide +kernel
theorem dX10_sum_1 : decode cX10_sum 1 = .ok (.lstore_n 2, 1) := by decide +kernel
theorem dX10_sum_2 : decode cX10_sum 2 = .ok (.iconst 0, 1) := by decide +kernel
theorem dX10_sum_3 : decode cX10_sum 3 = .ok (.istore 4, 2) := by decide +kernel
theorem dX10_sum_5 : decode cX10_sum 5 = .ok (.iload 4, 2) := by decide +kernel
theorem dX10_sum_7 : decode cX10_sum 7 = .ok (.sipush 160, 3) := by decide +kernel
theorem dX10_sum_10 : decode cX10_sum 10 = .ok (.if_icmp .ge 96, 3) := by decide +kernel
theorem dX10_sum_13 : decode cX10_sum 13 = .ok (.iload 4, 2) := by decide +kernel
theorem dX10_sum_15 : decode cX10_sum 15 = .ok (.bipush 80, 2) := by decide +kernel
theorem dX10_sum_17 : decode cX10_sum 17 = .ok (.idiv, 1) := by decide +kernel
theorem dX10_sum_18 : decode cX10_sum 18 = .ok (.istore 5, 2) := by decide +kernel
theorem dX10_sum_20 : decode cX10_sum 20 = .ok (.iload 4, 2) := by decide +kernel
theorem dX10_sum_22 : decode cX10_sum 22 = .ok (.bipush 80, 2) := by decide +kernel
theorem dX10_sum_24 : decode cX10_sum 24 = .ok (.irem, 1) := by decide +kernel
theorem dX10_sum_25 : decode cX10_sum 25 = .ok (.aload_n 0, 1) := by decide +kernel
theorem dX10_sum_26 : decode cX10_sum 26 = .ok (.getfield 28, 3) := by decide +kernel
theorem dX10_sum_29 : decode cX10_sum 29 = .ok (.iload 5, 2) := by decide +kernel
theorem dX10_sum_31 : decode cX10_sum 31 = .ok (.iaload, 1) := by decide +kernel
theorem dX10_sum_32 : decode cX10_sum 32 = .ok (.if_icmp .ge 68, 3) := by decide +kernel
