theorem dX9_cheapest_248 : decode cX9_cheapest 248 = .ok (.ifCond .lt 34, 3) := by decide +kernel
theorem dX9_cheapest_251 : decode cX9_cheapest 251 = .ok (.aload_n 0, 1) := by decide +kernel
theorem dX9_cheapest_252 : decode cX9_cheapest 252 = .ok (.getfield 78, 3) := by decide +kernel
theorem dX9_cheapest_255 : decode cX9_cheapest 255 = .ok (.iconst 0, 1) := by decide +kernel
theorem dX9_cheapest_256 : decode cX9_cheapest 256 = .ok (.laload, 1) := by decide +kernel
theorem dX9_cheapest_257 : decode cX9_cheapest 257 = .ok (.lload 4, 2) := by decide +kernel
theorem dX9_cheapest_259 : decode cX9_cheapest 259 = .ok (.lcmp, 1) := by decide +kernel
theorem dX9_cheapest_260 : decode cX9_cheapest 260 = .ok (.ifCond .lt 22, 3) := by decide +kernel
theorem dX9_cheapest_263 : decode cX9_cheapest 263 = .ok (.aload_n 0, 1) := by decide +kernel
theorem dX9_cheapest_264 : decode cX9_cheapest 264 = .ok (.getfield 78, 3) := by decide +kernel
theorem dX9_cheapest_267 : decode cX9_cheapest 267 = .ok (.iconst 0, 1) := by decide +kernel
theorem dX9_cheapest_268 : decode cX9_cheapest 268 = .ok (.laload, 1) := by decide +kernel
theorem dX9_cheapest_269 : decode cX9_cheapest 269 = .ok (.lload 4, 2) := by decide +kernel
theorem dX9_cheapest_271 : decode cX9_cheapest 271 = .ok (.lcmp, 1) := by decide +kernel
theorem dX9_cheapest_272 : decode cX9_cheapest 272 = .ok (.ifCond .ne 22, 3) := by decide +kernel
theorem dX9_cheapest_275 : decode cX9_cheapest 275 = .ok (.iload 8, 2) := by decide +kernel
theorem dX9_cheapest_277 : decode cX9_cheapest 277 = .ok (.iload 6, 2) := by decide +kernel
theorem dX9_cheapest_279 : decode cX9_cheapest 279 = .ok (.if_icmp .ge 15, 3) := by decide +kernel
theorem dX9_cheapest_282 : decode cX9_cheapest 282 = .ok (.aload_n 0, 1) := by decide +kernel
theorem dX9_cheapest_283 : decode cX9_cheapest 283 = .ok (.getfield 78, 3) := by decide +kernel
theorem dX9_cheapest_286 : decode cX9_cheapest 286 = .ok (.iconst 0, 1) := by decide +kernel
theorem dX9_cheapest_287 : decode cX9_cheapest 287 = .ok (.laload, 1) := by decide +kernel
theorem dX9_cheapest_288 : decode cX9_cheapest 288 = .ok (.lstore 4, 2) := by decide +kernel
theorem dX9_cheapest_290 : decode cX9_cheapest 290 = .ok (.iload 8, 2) := by decide +kernel
theorem dX9_cheapest_292 : decode cX9_cheapest 292 = .ok (.istore 6, 2) := by decide +kernel
theorem dX9_cheapest_294 : decode cX9_cheapest 294 = .ok (.iconst 0, 1) := by decide +kernel
theorem dX9_cheapest_295 : decode cX9_cheapest 295 = .ok (.istore 7, 2) := by decide +kernel
theorem dX9_cheapest_297 : decode cX9_cheapest 297 = .ok (.iload 7, 2) := by decide +kernel
theorem dX9_cheapest_299 : decode cX9_cheapest 299 = .ok (.aload_n 0, 1) := by decide +kernel
theorem dX9_cheapest_300 : decode cX9_cheapest 300 = .ok (.getfield 110, 3) := by decide +kernel
theorem dX9_cheapest_303 : decode cX9_cheapest 303 = .ok (.if_icmp .ge 30, 3) := by decide +kernel
theorem dX9_cheapest_306 : decode cX9_cheapest 306 = .ok (.aload_n 0, 1) := by decide +kernel
theorem dX9_cheapest_307 : decode cX9_cheapest 307 = .ok (.getfield 68, 3) := by decide +kernel
theorem dX9_cheapest_310 : decode cX9_cheapest 310 = .ok (.iload 7, 2) := by decide +kernel
theorem dX9_cheapest_312 : decode cX9_cheapest 312 = .ok (.iaload, 1) := by decide +kernel
theorem dX9_cheapest_313 : decode cX9_cheapest 313 = .ok (.iload_n 3, 1) := by decide +kernel
theorem dX9_cheapest_314 : decode cX9_cheapest 314 = .ok (.iconst 1, 1) := by decide +kernel
theorem dX9_cheapest_315 : decode cX9_cheapest 315 = .ok (.isub, 1) := by decide +kernel
theorem dX9_cheapest_316 : decode cX9_cheapest 316 = .ok (.if_icmp .ne 17, 3) := by decide +kernel
theorem dX9_cheapest_319 : decode cX9_cheapest 319 = .ok (.aload_n 0, 1) := by decide +kernel
theorem dX9_cheapest_320 : decode cX9_cheapest 320 = .ok (.getfield 68, 3) := by decide +kernel
theorem dX9_cheapest_323 : decode cX9_cheapest 323 = .ok (.iload 7, 2) := by decide +kernel
theorem dX9_cheapest_325 : decode cX9_cheapest 325 = .ok (.iconst 0, 1) := by decide +kernel
theorem dX9_cheapest_326 : decode cX9_cheapest 326 = .ok (.iastore, 1) := by decide +kernel
theorem dX9_cheapest_327 : decode cX9_cheapest 327 = .ok (.iinc 7 1, 3) := by decide +kernel
theorem dX9_cheapest_330 : decode cX9_cheapest 330 = .ok (.goto (-33), 3) := by decide +kernel
theorem dX9_cheapest_333 : decode cX9_cheapest 333 = .ok (.iload 7, 2) := by decide +kernel
theorem dX9_cheapest_335 : decode cX9_cheapest 335 = .ok (.aload_n 0, 1) := by decide +kernel
theorem dX9_cheapest_336 : decode cX9_cheapest 336 = .ok (.getfield 110, 3) := by decide +kernel
theorem dX9_cheapest_339 : decode cX9_cheapest 339 = .ok (.if_icmp .ge 14, 3) := by decide +kernel
theorem dX9_cheapest_342 : decode cX9_cheapest 342 = .ok (.aload_n 0, 1) := by decide +kernel
theorem dX9_cheapest_343 : decode cX9_cheapest 343 = .ok (.getfield 68, 3) := by decide +kernel
theorem dX9_cheapest_346 : decode cX9_cheapest 346 = .ok (.iload 7, 2) := by decide +kernel
theorem dX9_cheapest_348 : decode cX9_cheapest 348 = .ok (.dup2, 1) := by decide +kernel
theorem dX9_cheapest_349 : decode cX9_cheapest 349 = .ok (.iaload, 1) := by decide +kernel
theorem dX9_cheapest_350 : decode cX9_cheapest 350 = .ok (.iconst 1, 1) := by decide +kernel
theorem dX9_cheapest_351 : decode cX9_cheapest 351 = .ok (.iadd, 1) := by decide +kernel
theorem dX9_cheapest_352 : decode cX9_cheapest 352 = .ok (.iastore, 1) := by decide +kernel
theorem dX9_cheapest_353 : decode cX9_cheapest 353 = .ok (.iload 7, 2) := by decide +kernel
theorem dX9_cheapest_355 : decode cX9_cheapest 355 = .ok (.aload_n 0, 1) := by decide +kernel
theorem dX9_cheapest_356 : decode cX9_cheapest 356 = .ok (.getfield 110, 3) := by decide +kernel
theorem dX9_cheapest_359 : decode cX9_cheapest 359 = .ok (.if_icmp .ge 8, 3) := by decide +kernel
theorem dX9_cheapest_362 : decode cX9_cheapest 362 = .ok (.iload 7, 2) := by decide +kernel
theorem dX9_cheapest_364 : decode cX9_cheapest 364 = .ok (.goto 9, 3) := by decide +kernel
theorem dX9_cheapest_367 : decode cX9_cheapest 367 = .ok (.aload_n 0, 1) := by decide +kernel
theorem dX9_cheapest_368 : decode cX9_cheapest 368 = .ok (.getfield 110, 3) := by decide +kernel
theorem dX9_cheapest_371 : decode cX9_cheapest 371 = .ok (.iconst 1, 1) := by decide +kernel
theorem dX9_cheapest_372 : decode cX9_cheapest 372 = .ok (.isub, 1) := by decide +kernel
theorem dX9_cheapest_373 : decode cX9_cheapest 373 = .ok (.istore 10, 2) := by decide +kernel
theorem dX9_cheapest_375 : decode cX9_cheapest 375 = .ok (.iload 10, 2) := by decide +kernel
theorem dX9_cheapest_377 : decode cX9_cheapest 377 = .ok (.ifCond .lt 16, 3) := by decide +kernel
theorem dX9_cheapest_380 : decode cX9_cheapest 380 = .ok (.aload_n 0, 1) := by decide +kernel
theorem dX9_cheapest_381 : decode cX9_cheapest 381 = .ok (.iload 10, 2) := by decide +kernel
theorem dX9_cheapest_383 : decode cX9_cheapest 383 = .ok (.iload_n 2, 1) := by decide +kernel
theorem dX9_cheapest_384 : decode cX9_cheapest 384 = .ok (.invokevirtual 184, 3) := by decide +kernel
theorem dX9_cheapest_387 : decode cX9_cheapest 387 = .ok (.iinc 10 (-1), 3) := by decide +kernel
theorem dX9_cheapest_390 : decode cX9_cheapest 390 = .ok (.goto (-15), 3) := by decide +kernel
theorem dX9_cheapest_393 : decode cX9_cheapest 393 = .ok (.goto (-227), 3) := by decide +kernel
theorem dX9_cheapest_396 : decode cX9_cheapest 396 = .ok (.lload 4, 2) := by decide +kernel
theorem dX9_cheapest_398 : decode cX9_cheapest 398 = .ok (.lconst 0, 1) := by decide +kernel
theorem dX9_cheapest_399 : decode cX9_cheapest 399 = .ok (.lcmp, 1) := by decide +kernel
theorem dX9_cheapest_400 : decode cX9_cheapest 400 = .ok (.ifCond .ge 6, 3) := by decide +kernel
theorem dX9_cheapest_403 : decode cX9_cheapest 403 = .ok (.bipush (-5), 2) := by decide +kernel
theorem dX9_cheapest_405 : decode cX9_cheapest 405 = .ok (.ireturn, 1) := by decide +kernel
theorem dX9_cheapest_406 : decode cX9_cheapest 406 = .ok (.aload_n 0, 1) := by decide +kernel
theorem dX9_cheapest_407 : decode cX9_cheapest 407 = .ok (.aload_n 0, 1) := by decide +kernel
theorem dX9_cheapest_408 : decode cX9_cheapest 408 = .ok (.getfield 110, 3) := by decide +kernel
theorem dX9_cheapest_411 : decode cX9_cheapest 411 = .ok (.putfield 188, 3) := by decide +kernel
theorem dX9_cheapest_414 : decode cX9_cheapest 414 = .ok (.iload 6, 2) := by decide +kernel
theorem dX9_cheapest_416 : decode cX9_cheapest 416 = .ok (.istore 8, 2) := by decide +kernel
theorem dX9_cheapest_418 : decode cX9_cheapest 418 = .ok (.aload_n 0, 1) := by decide +kernel
theorem dX9_cheapest_419 : decode cX9_cheapest 419 = .ok (.getfield 110, 3) := by decide +kernel
theorem dX9_cheapest_422 : decode cX9_cheapest 422 = .ok (.iconst 1, 1) := by decide +kernel
theorem dX9_cheapest_423 : decode cX9_cheapest 423 = .ok (.isub, 1) := by decide +kernel
theorem dX9_cheapest_424 : decode cX9_cheapest 424 = .ok (.istore 9, 2) := by decide +kernel
theorem dX9_cheapest_426 : decode cX9_cheapest 426 = .ok (.iload 9, 2) := by decide +kernel
theorem dX9_cheapest_428 : decode cX9_cheapest 428 = .ok (.ifCond .lt 28, 3) := by decide +kernel
theorem dX9_cheapest_431 : decode cX9_cheapest 431 = .ok (.aload_n 0, 1) := by decide +kernel
theorem dX9_cheapest_432 : decode cX9_cheapest 432 = .ok (.getfield 65, 3) := by decide +kernel
theorem dX9_cheapest_435 : decode cX9_cheapest 435 = .ok (.iload 9, 2) := by decide +kernel
theorem dX9_cheapest_437 : decode cX9_cheapest 437 = .ok (.iload 8, 2) := by decide +kernel
theorem dX9_cheapest_439 : decode cX9_cheapest 439 = .ok (.bipush 18, 2) := by decide +kernel
theorem dX9_cheapest_441 : decode cX9_cheapest 441 = .ok (.irem, 1) := by decide +kernel
theorem dX9_cheapest_442 : decode cX9_cheapest 442 = .ok (.iastore, 1) := by decide +kernel
theorem dX9_cheapest_443 : decode cX9_cheapest 443 = .ok (.iload 8, 2) := by decide +kernel
theorem dX9_cheapest_445 : decode cX9_cheapest 445 = .ok (.bipush 18, 2) := by decide +kernel
theorem dX9_cheapest_447 : decode cX9_cheapest 447 = .ok (.idiv, 1) := by decide +kernel
theorem dX9_cheapest_448 : decode cX9_cheapest 448 = .ok (.istore 8, 2) := by decide +kernel
theorem dX9_cheapest_450 : decode cX9_cheapest 450 = .ok (.iinc 9 (-1), 3) := by decide +kernel
theorem dX9_cheapest_453 : decode cX9_cheapest 453 = .ok (.goto (-27), 3) := by decide +kernel
theorem dX9_cheapest_456 : decode cX9_cheapest 456 = .ok (.lload 4, 2) := by decide +kernel
theorem dX9_cheapest_458 : decode cX9_cheapest 458 = .ok (.l2i, 1) := by decide +kernel
theorem dX9_cheapest_459 : decode cX9_cheapest 459 = .ok (.ireturn, 1) := by decide +kernel
theorem dX9_chosen_0 : decode cX9_chosen 0 = .ok (.iload_n 1, 1) := by decide +kernel
theorem dX9_chosen_1 : decode cX9_chosen 1 = .ok (.i2l, 1) := by decide +kernel
theorem dX9_chosen_2 : decode cX9_chosen 2 = .ok (.lconst 0, 1) := by decide +kernel
theorem dX9_chosen_3 : decode cX9_chosen 3 = .ok (.aload_n 0, 1) := by decide +kernel
theorem dX9_chosen_4 : decode cX9_chosen 4 = .ok (.getfield 188, 3) := by decide +kernel
theorem dX9_chosen_7 : decode cX9_chosen 7 = .ok (.iconst 1, 1) := by decide +kernel
theorem dX9_chosen_8 : decode cX9_chosen 8 = .ok (.isub, 1) := by decide +kernel
theorem dX9_chosen_9 : decode cX9_chosen 9 = .ok (.i2l, 1) := by decide +kernel
theorem dX9_chosen_10 : decode cX9_chosen 10 = .ok (.invokestatic 115, 3) := by decide +kernel
theorem dX9_chosen_13 : decode cX9_chosen 13 = .ok (.ifCond .eq 13, 3) := by decide +kernel
theorem dX9_chosen_16 : decode cX9_chosen 16 = .ok (.iload_n 2, 1) := by decide +kernel
theorem dX9_chosen_17 : decode cX9_chosen 17 = .ok (.i2l, 1) := by decide +kernel
theorem dX9_chosen_18 : decode cX9_chosen 18 = .ok (.lconst 0, 1) := by decide +kernel
theorem dX9_chosen_19 : decode cX9_chosen 19 = .ok (.lconst 1, 1) := by decide +kernel
theorem dX9_chosen_20 : decode cX9_chosen 20 = .ok (.invokestatic 115, 3) := by decide +kernel
theorem dX9_chosen_23 : decode cX9_chosen 23 = .ok (.ifCond .ne 5, 3) := by decide +kernel
theorem dX9_chosen_26 : decode cX9_chosen 26 = .ok (.iconst (-1), 1) := by decide +kernel
theorem dX9_chosen_27 : decode cX9_chosen 27 = .ok (.ireturn, 1) := by decide +kernel
theorem dX9_chosen_28 : decode cX9_chosen 28 = .ok (.iload_n 2, 1) := by decide +kernel
theorem dX9_chosen_29 : decode cX9_chosen 29 = .ok (.ifCond .ne 14, 3) := by decide +kernel
theorem dX9_chosen_32 : decode cX9_chosen 32 = .ok (.aload_n 0, 1) := by decide +kernel
theorem dX9_chosen_33 : decode cX9_chosen 33 = .ok (.getfield 65, 3) := by decide +kernel
theorem dX9_chosen_36 : decode cX9_chosen 36 = .ok (.iload_n 1, 1) := by decide +kernel
theorem dX9_chosen_37 : decode cX9_chosen 37 = .ok (.iaload, 1) := by decide +kernel
theorem dX9_chosen_38 : decode cX9_chosen 38 = .ok (.iconst 3, 1) := by decide +kernel
theorem dX9_chosen_39 : decode cX9_chosen 39 = .ok (.idiv, 1) := by decide +kernel
theorem dX9_chosen_40 : decode cX9_chosen 40 = .ok (.goto 13, 3) := by decide +kernel
theorem dX9_chosen_43 : decode cX9_chosen 43 = .ok (.aload_n 0, 1) := by decide +kernel
theorem dX9_chosen_44 : decode cX9_chosen 44 = .ok (.getfield 65, 3) := by decide +kernel
theorem dX9_chosen_47 : decode cX9_chosen 47 = .ok (.iload_n 1, 1) := by decide +kernel
theorem dX9_chosen_48 : decode cX9_chosen 48 = .ok (.iaload, 1) := by decide +kernel
theorem dX9_chosen_49 : decode cX9_chosen 49 = .ok (.iconst 3, 1) := by decide +kernel
theorem dX9_chosen_50 : decode cX9_chosen 50 = .ok (.irem, 1) := by decide +kernel
theorem dX9_chosen_51 : decode cX9_chosen 51 = .ok (.iconst 1, 1) := by decide +kernel
theorem dX9_chosen_52 : decode cX9_chosen 52 = .ok (.iadd, 1) := by decide +kernel
theorem dX9_chosen_53 : decode cX9_chosen 53 = .ok (.ireturn, 1) := by decide +kernel
theorem dX9_air_0 : decode cX9_air 0 = .ok (.iload_n 1, 1) := by decide +kernel
theorem dX9_air_1 : decode cX9_air 1 = .ok (.i2l, 1) := by decide +kernel
theorem dX9_air_2 : decode cX9_air 2 = .ok (.lconst 0, 1) := by decide +kernel
theorem dX9_air_3 : decode cX9_air 3 = .ok (.ldc2_w 127, 3) := by decide +kernel
theorem dX9_air_6 : decode cX9_air 6 = .ok (.invokestatic 115, 3) := by decide +kernel
theorem dX9_air_9 : decode cX9_air 9 = .ok (.ifCond .ne 5, 3) := by decide +kernel
theorem dX9_air_12 : decode cX9_air 12 = .ok (.iconst (-1), 1) := by decide +kernel
theorem dX9_air_13 : decode cX9_air 13 = .ok (.ireturn, 1) := by decide +kernel
theorem dX9_air_14 : decode cX9_air 14 = .ok (.iload_n 2, 1) := by decide +kernel
theorem dX9_air_15 : decode cX9_air 15 = .ok (.i2l, 1) := by decide +kernel
theorem dX9_air_16 : decode cX9_air 16 = .ok (.lconst 0, 1) := by decide +kernel
theorem dX9_air_17 : decode cX9_air 17 = .ok (.ldc2_w 113, 3) := by decide +kernel
theorem dX9_air_20 : decode cX9_air 20 = .ok (.invokestatic 115, 3) := by decide +kernel
theorem dX9_air_23 : decode cX9_air 23 = .ok (.ifCond .ne 6, 3) := by decide +kernel
theorem dX9_air_26 : decode cX9_air 26 = .ok (.bipush (-2), 2) := by decide +kernel
theorem dX9_air_28 : decode cX9_air 28 = .ok (.ireturn, 1) := by decide +kernel
theorem dX9_air_29 : decode cX9_air 29 = .ok (.aload_n 0, 1) := by decide +kernel
theorem dX9_air_30 : decode cX9_air 30 = .ok (.getfield 40, 3) := by decide +kernel
theorem dX9_air_33 : decode cX9_air 33 = .ok (.iload_n 1, 1) := by decide +kernel
theorem dX9_air_34 : decode cX9_air 34 = .ok (.iaload, 1) := by decide +kernel
theorem dX9_air_35 : decode cX9_air 35 = .ok (.istore_n 3, 1) := by decide +kernel
theorem dX9_air_36 : decode cX9_air 36 = .ok (.aload_n 0, 1) := by decide +kernel
theorem dX9_air_37 : decode cX9_air 37 = .ok (.getfield 40, 3) := by decide +kernel
theorem dX9_air_40 : decode cX9_air 40 = .ok (.iload_n 1, 1) := by decide +kernel
theorem dX9_air_41 : decode cX9_air 41 = .ok (.iload_n 2, 1) := by decide +kernel
theorem dX9_air_42 : decode cX9_air 42 = .ok (.iastore, 1) := by decide +kernel
theorem dX9_air_43 : decode cX9_air 43 = .ok (.iload_n 3, 1) := by decide +kernel
theorem dX9_air_44 : decode cX9_air 44 = .ok (.ireturn, 1) := by decide +kernel
theorem dX9_limit_0 : decode cX9_limit 0 = .ok (.iload_n 1, 1) := by decide +kernel
theorem dX9_limit_1 : decode cX9_limit 1 = .ok (.i2l, 1) := by decide +kernel
theorem dX9_limit_2 : decode cX9_limit 2 = .ok (.lconst 0, 1) := by decide +kernel
theorem dX9_limit_3 : decode cX9_limit 3 = .ok (.ldc2_w 134, 3) := by decide +kernel
theorem dX9_limit_6 : decode cX9_limit 6 = .ok (.invokestatic 115, 3) := by decide +kernel
theorem dX9_limit_9 : decode cX9_limit 9 = .ok (.ifCond .ne 5, 3) := by decide +kernel
theorem dX9_limit_12 : decode cX9_limit 12 = .ok (.iconst (-1), 1) := by decide +kernel
theorem dX9_limit_13 : decode cX9_limit 13 = .ok (.ireturn, 1) := by decide +kernel
theorem dX9_limit_14 : decode cX9_limit 14 = .ok (.iload_n 2, 1) := by decide +kernel
theorem dX9_limit_15 : decode cX9_limit 15 = .ok (.i2l, 1) := by decide +kernel
theorem dX9_limit_16 : decode cX9_limit 16 = .ok (.lconst 0, 1) := by decide +kernel
theorem dX9_limit_17 : decode cX9_limit 17 = .ok (.ldc2_w 180, 3) := by decide +kernel
theorem dX9_limit_20 : decode cX9_limit 20 = .ok (.invokestatic 115, 3) := by decide +kernel
theorem dX9_limit_23 : decode cX9_limit 23 = .ok (.ifCond .ne 6, 3) := by decide +kernel
theorem dX9_limit_26 : decode cX9_limit 26 = .ok (.bipush (-2), 2) := by decide +kernel
theorem dX9_limit_28 : decode cX9_limit 28 = .ok (.ireturn, 1) := by decide +kernel
theorem dX9_limit_29 : decode cX9_limit 29 = .ok (.aload_n 0, 1) := by decide +kernel
theorem dX9_limit_30 : decode cX9_limit 30 = .ok (.getfield 43, 3) := by decide +kernel
theorem dX9_limit_33 : decode cX9_limit 33 = .ok (.iload_n 1, 1) := by decide +kernel
theorem dX9_limit_34 : decode cX9_limit 34 = .ok (.iaload, 1) := by decide +kernel
theorem dX9_limit_35 : decode cX9_limit 35 = .ok (.istore_n 3, 1) := by decide +kernel
theorem dX9_limit_36 : decode cX9_limit 36 = .ok (.aload_n 0, 1) := by decide +kernel
theorem dX9_limit_37 : decode cX9_limit 37 = .ok (.getfield 43, 3) := by decide +kernel
theorem dX9_limit_40 : decode cX9_limit 40 = .ok (.iload_n 1, 1) := by decide +kernel
theorem dX9_limit_41 : decode cX9_limit 41 = .ok (.iload_n 2, 1) := by decide +kernel
theorem dX9_limit_42 : decode cX9_limit 42 = .ok (.iastore, 1) := by decide +kernel
theorem dX9_limit_43 : decode cX9_limit 43 = .ok (.iload_n 3, 1) := by decide +kernel
theorem dX9_limit_44 : decode cX9_limit 44 = .ok (.ireturn, 1) := by decide +kernel
theorem dX9_hasStuff_0 : decode cX9_hasStuff 0 = .ok (.iconst 0, 1) := by decide +kernel
theorem dX9_hasStuff_1 : decode cX9_hasStuff 1 = .ok (.istore_n 1, 1) := by decide +kernel
theorem dX9_hasStuff_2 : decode cX9_hasStuff 2 = .ok (.iconst 0, 1) := by decide +kernel
theorem dX9_hasStuff_3 : decode cX9_hasStuff 3 = .ok (.istore_n 2, 1) := by decide +kernel
theorem dX9_hasStuff_4 : decode cX9_hasStuff 4 = .ok (.iload_n 2, 1) := by decide +kernel
theorem dX9_hasStuff_5 : decode cX9_hasStuff 5 = .ok (.aload_n 0, 1) := by decide +kernel
theorem dX9_hasStuff_6 : decode cX9_hasStuff 6 = .ok (.getfield 110, 3) := by decide +kernel
theorem dX9_hasStuff_9 : decode cX9_hasStuff 9 = .ok (.if_icmp .ge 28, 3) := by decide +kernel
theorem dX9_hasStuff_12 : decode cX9_hasStuff 12 = .ok (.iload_n 1, 1) := by decide +kernel
theorem dX9_hasStuff_13 : decode cX9_hasStuff 13 = .ok (.ifCond .ne 12, 3) := by decide +kernel
theorem dX9_hasStuff_16 : decode cX9_hasStuff 16 = .ok (.aload_n 0, 1) := by decide +kernel
theorem dX9_hasStuff_17 : decode cX9_hasStuff 17 = .ok (.getfield 34, 3) := by decide +kernel
theorem dX9_hasStuff_20 : decode cX9_hasStuff 20 = .ok (.iload_n 2, 1) := by decide +kernel
theorem dX9_hasStuff_21 : decode cX9_hasStuff 21 = .ok (.iaload, 1) := by decide +kernel
theorem dX9_hasStuff_22 : decode cX9_hasStuff 22 = .ok (.ifCond .le 7, 3) := by decide +kernel
theorem dX9_hasStuff_25 : decode cX9_hasStuff 25 = .ok (.iconst 1, 1) := by decide +kernel
theorem dX9_hasStuff_26 : decode cX9_hasStuff 26 = .ok (.goto 4, 3) := by decide +kernel
theorem dX9_hasStuff_29 : decode cX9_hasStuff 29 = .ok (.iconst 0, 1) := by decide +kernel
theorem dX9_hasStuff_30 : decode cX9_hasStuff 30 = .ok (.istore_n 1, 1) := by decide +kernel
theorem dX9_hasStuff_31 : decode cX9_hasStuff 31 = .ok (.iinc 2 1, 3) := by decide +kernel
theorem dX9_hasStuff_34 : decode cX9_hasStuff 34 = .ok (.goto (-30), 3) := by decide +kernel
theorem dX9_hasStuff_37 : decode cX9_hasStuff 37 = .ok (.iload_n 1, 1) := by decide +kernel
theorem dX9_hasStuff_38 : decode cX9_hasStuff 38 = .ok (.ireturn, 1) := by decide +kernel
theorem dX9_finds_0 : decode cX9_finds 0 = .ok (.aload_n 0, 1) := by decide +kernel
theorem dX9_finds_1 : decode cX9_finds 1 = .ok (.getfield 191, 3) := by decide +kernel
theorem dX9_finds_4 : decode cX9_finds 4 = .ok (.istore_n 1, 1) := by decide +kernel
theorem dX9_finds_5 : decode cX9_finds 5 = .ok (.iload_n 1, 1) := by decide +kernel
theorem dX9_finds_6 : decode cX9_finds 6 = .ok (.aload_n 0, 1) := by decide +kernel
theorem dX9_finds_7 : decode cX9_finds 7 = .ok (.getfield 110, 3) := by decide +kernel
theorem dX9_finds_10 : decode cX9_finds 10 = .ok (.if_icmp .ge 18, 3) := by decide +kernel
theorem dX9_finds_13 : decode cX9_finds 13 = .ok (.aload_n 0, 1) := by decide +kernel
theorem dX9_finds_14 : decode cX9_finds 14 = .ok (.getfield 85, 3) := by decide +kernel
theorem dX9_finds_17 : decode cX9_finds 17 = .ok (.iload_n 1, 1) := by decide +kernel
theorem dX9_finds_18 : decode cX9_finds 18 = .ok (.iaload, 1) := by decide +kernel
theorem dX9_finds_19 : decode cX9_finds 19 = .ok (.ifCond .ne 9, 3) := by decide +kernel
theorem dX9_finds_22 : decode cX9_finds 22 = .ok (.iinc 1 1, 3) := by decide +kernel
theorem dX9_finds_25 : decode cX9_finds 25 = .ok (.goto (-20), 3) := by decide +kernel
theorem dX9_finds_28 : decode cX9_finds 28 = .ok (.iload_n 1, 1) := by decide +kernel
theorem dX9_finds_29 : decode cX9_finds 29 = .ok (.aload_n 0, 1) := by decide +kernel
theorem dX9_finds_30 : decode cX9_finds 30 = .ok (.getfield 110, 3) := by decide +kernel
theorem dX9_finds_33 : decode cX9_finds 33 = .ok (.if_icmp .ne 5, 3) := by decide +kernel
theorem dX9_finds_36 : decode cX9_finds 36 = .ok (.iconst 0, 1) := by decide +kernel
theorem dX9_finds_37 : decode cX9_finds 37 = .ok (.ireturn, 1) := by decide +kernel
theorem dX9_finds_38 : decode cX9_finds 38 = .ok (.aload_n 0, 1) := by decide +kernel
theorem dX9_finds_39 : decode cX9_finds 39 = .ok (.dup, 1) := by decide +kernel
theorem dX9_finds_40 : decode cX9_finds 40 = .ok (.getfield 194, 3) := by decide +kernel
theorem dX9_finds_43 : decode cX9_finds 43 = .ok (.iload_n 1, 1) := by decide +kernel
theorem dX9_finds_44 : decode cX9_finds 44 = .ok (.aload_n 0, 1) := by decide +kernel
theorem dX9_finds_45 : decode cX9_finds 45 = .ok (.getfield 191, 3) := by decide +kernel
theorem dX9_finds_48 : decode cX9_finds 48 = .ok (.isub, 1) := by decide +kernel
theorem dX9_finds_49 : decode cX9_finds 49 = .ok (.iadd, 1) := by decide +kernel
theorem dX9_finds_50 : decode cX9_finds 50 = .ok (.putfield 194, 3) := by decide +kernel
theorem dX9_finds_53 : decode cX9_finds 53 = .ok (.iload_n 1, 1) := by decide +kernel
theorem dX9_finds_54 : decode cX9_finds 54 = .ok (.aload_n 0, 1) := by decide +kernel
theorem dX9_finds_55 : decode cX9_finds 55 = .ok (.getfield 191, 3) := by decide +kernel
theorem dX9_finds_58 : decode cX9_finds 58 = .ok (.if_icmp .le 13, 3) := by decide +kernel
theorem dX9_finds_61 : decode cX9_finds 61 = .ok (.aload_n 0, 1) := by decide +kernel
theorem dX9_finds_62 : decode cX9_finds 62 = .ok (.aload_n 0, 1) := by decide +kernel
theorem dX9_finds_63 : decode cX9_finds 63 = .ok (.getfield 31, 3) := by decide +kernel
theorem dX9_finds_66 : decode cX9_finds 66 = .ok (.iload_n 1, 1) := by decide +kernel
theorem dX9_finds_67 : decode cX9_finds 67 = .ok (.iaload, 1) := by decide +kernel
theorem dX9_finds_68 : decode cX9_finds 68 = .ok (.putfield 197, 3) := by decide +kernel
theorem dX9_finds_71 : decode cX9_finds 71 = .ok (.aload_n 0, 1) := by decide +kernel
theorem dX9_finds_72 : decode cX9_finds 72 = .ok (.iload_n 1, 1) := by decide +kernel
theorem dX9_finds_73 : decode cX9_finds 73 = .ok (.putfield 191, 3) := by decide +kernel
theorem dX9_finds_76 : decode cX9_finds 76 = .ok (.iconst 1, 1) := by decide +kernel
theorem dX9_finds_77 : decode cX9_finds 77 = .ok (.ireturn, 1) := by decide +kernel
theorem dX9_massNow_0 : decode cX9_massNow 0 = .ok (.aload_n 0, 1) := by decide +kernel
theorem dX9_massNow_1 : decode cX9_massNow 1 = .ok (.getfield 46, 3) := by decide +kernel
theorem dX9_massNow_4 : decode cX9_massNow 4 = .ok (.istore_n 1, 1) := by decide +kernel
theorem dX9_massNow_5 : decode cX9_massNow 5 = .ok (.aload_n 0, 1) := by decide +kernel
theorem dX9_massNow_6 : decode cX9_massNow 6 = .ok (.getfield 191, 3) := by decide +kernel
theorem dX9_massNow_9 : decode cX9_massNow 9 = .ok (.istore_n 2, 1) := by decide +kernel
theorem dX9_massNow_10 : decode cX9_massNow 10 = .ok (.iload_n 2, 1) := by decide +kernel
theorem dX9_massNow_11 : decode cX9_massNow 11 = .ok (.aload_n 0, 1) := by decide +kernel
theorem dX9_massNow_12 : decode cX9_massNow 12 = .ok (.getfield 110, 3) := by decide +kernel
theorem dX9_massNow_15 : decode cX9_massNow 15 = .ok (.if_icmp .ge 24, 3) := by decide +kernel
theorem dX9_massNow_18 : decode cX9_massNow 18 = .ok (.iload_n 1, 1) := by decide +kernel
theorem dX9_massNow_19 : decode cX9_massNow 19 = .ok (.aload_n 0, 1) := by decide +kernel
theorem dX9_massNow_20 : decode cX9_massNow 20 = .ok (.iload_n 2, 1) := by decide +kernel
theorem dX9_massNow_21 : decode cX9_massNow 21 = .ok (.invokevirtual 144, 3) := by decide +kernel
theorem dX9_massNow_24 : decode cX9_massNow 24 = .ok (.aload_n 0, 1) := by decide +kernel
theorem dX9_massNow_25 : decode cX9_massNow 25 = .ok (.getfield 85, 3) := by decide +kernel
theorem dX9_massNow_28 : decode cX9_massNow 28 = .ok (.iload_n 2, 1) := by decide +kernel
theorem dX9_massNow_29 : decode cX9_massNow 29 = .ok (.iaload, 1) := by decide +kernel
theorem dX9_massNow_30 : decode cX9_massNow 30 = .ok (.iadd, 1) := by decide +kernel
theorem dX9_massNow_31 : decode cX9_massNow 31 = .ok (.iadd, 1) := by decide +kernel
theorem dX9_massNow_32 : decode cX9_massNow 32 = .ok (.istore_n 1, 1) := by decide +kernel
theorem dX9_massNow_33 : decode cX9_massNow 33 = .ok (.iinc 2 1, 3) := by decide +kernel
theorem dX9_massNow_36 : decode cX9_massNow 36 = .ok (.goto (-26), 3) := by decide +kernel
theorem dX9_massNow_39 : decode cX9_massNow 39 = .ok (.iload_n 1, 1) := by decide +kernel
theorem dX9_massNow_40 : decode cX9_massNow 40 = .ok (.ireturn, 1) := by decide +kernel
theorem dX9_ticksOnce_0 : decode cX9_ticksOnce 0 = .ok (.aload_n 0, 1) := by decide +kernel
theorem dX9_ticksOnce_1 : decode cX9_ticksOnce 1 = .ok (.getfield 197, 3) := by decide +kernel
theorem dX9_ticksOnce_4 : decode cX9_ticksOnce 4 = .ok (.aload_n 0, 1) := by decide +kernel
theorem dX9_ticksOnce_5 : decode cX9_ticksOnce 5 = .ok (.getfield 85, 3) := by decide +kernel
theorem dX9_ticksOnce_8 : decode cX9_ticksOnce 8 = .ok (.aload_n 0, 1) := by decide +kernel
theorem dX9_ticksOnce_9 : decode cX9_ticksOnce 9 = .ok (.getfield 191, 3) := by decide +kernel
theorem dX9_ticksOnce_12 : decode cX9_ticksOnce 12 = .ok (.iaload, 1) := by decide +kernel
theorem dX9_ticksOnce_13 : decode cX9_ticksOnce 13 = .ok (.if_icmp .ge 10, 3) := by decide +kernel
theorem dX9_ticksOnce_16 : decode cX9_ticksOnce 16 = .ok (.aload_n 0, 1) := by decide +kernel
theorem dX9_ticksOnce_17 : decode cX9_ticksOnce 17 = .ok (.getfield 197, 3) := by decide +kernel
theorem dX9_ticksOnce_20 : decode cX9_ticksOnce 20 = .ok (.goto 12, 3) := by decide +kernel
theorem dX9_ticksOnce_23 : decode cX9_ticksOnce 23 = .ok (.aload_n 0, 1) := by decide +kernel
theorem dX9_ticksOnce_24 : decode cX9_ticksOnce 24 = .ok (.getfield 85, 3) := by decide +kernel
theorem dX9_ticksOnce_27 : decode cX9_ticksOnce 27 = .ok (.aload_n 0, 1) := by decide +kernel
theorem dX9_ticksOnce_28 : decode cX9_ticksOnce 28 = .ok (.getfield 191, 3) := by decide +kernel
theorem dX9_ticksOnce_31 : decode cX9_ticksOnce 31 = .ok (.iaload, 1) := by decide +kernel
theorem dX9_ticksOnce_32 : decode cX9_ticksOnce 32 = .ok (.istore_n 1, 1) := by decide +kernel
theorem dX9_ticksOnce_33 : decode cX9_ticksOnce 33 = .ok (.aload_n 0, 1) := by decide +kernel
theorem dX9_ticksOnce_34 : decode cX9_ticksOnce 34 = .ok (.invokevirtual 200, 3) := by decide +kernel
theorem dX9_ticksOnce_37 : decode cX9_ticksOnce 37 = .ok (.i2l, 1) := by decide +kernel
theorem dX9_ticksOnce_38 : decode cX9_ticksOnce 38 = .ok (.lstore_n 2, 1) := by decide +kernel
theorem dX9_ticksOnce_39 : decode cX9_ticksOnce 39 = .ok (.aload_n 0, 1) := by decide +kernel
theorem dX9_ticksOnce_40 : decode cX9_ticksOnce 40 = .ok (.getfield 7, 3) := by decide +kernel
theorem dX9_ticksOnce_43 : decode cX9_ticksOnce 43 = .ok (.aload_n 0, 1) := by decide +kernel
theorem dX9_ticksOnce_44 : decode cX9_ticksOnce 44 = .ok (.getfield 28, 3) := by decide +kernel
theorem dX9_ticksOnce_47 : decode cX9_ticksOnce 47 = .ok (.aload_n 0, 1) := by decide +kernel
theorem dX9_ticksOnce_48 : decode cX9_ticksOnce 48 = .ok (.getfield 191, 3) := by decide +kernel
theorem dX9_ticksOnce_51 : decode cX9_ticksOnce 51 = .ok (.iaload, 1) := by decide +kernel
theorem dX9_ticksOnce_52 : decode cX9_ticksOnce 52 = .ok (.iaload, 1) := by decide +kernel
theorem dX9_ticksOnce_53 : decode cX9_ticksOnce 53 = .ok (.i2l, 1) := by decide +kernel
theorem dX9_ticksOnce_54 : decode cX9_ticksOnce 54 = .ok (.iload_n 1, 1) := by decide +kernel
theorem dX9_ticksOnce_55 : decode cX9_ticksOnce 55 = .ok (.i2l, 1) := by decide +kernel
theorem dX9_ticksOnce_56 : decode cX9_ticksOnce 56 = .ok (.lmul, 1) := by decide +kernel
theorem dX9_ticksOnce_57 : decode cX9_ticksOnce 57 = .ok (.lstore 4, 2) := by decide +kernel
theorem dX9_ticksOnce_59 : decode cX9_ticksOnce 59 = .ok (.aload_n 0, 1) := by decide +kernel
theorem dX9_ticksOnce_60 : decode cX9_ticksOnce 60 = .ok (.getfield 204, 3) := by decide +kernel
theorem dX9_ticksOnce_63 : decode cX9_ticksOnce 63 = .ok (.ldc2_w 182, 3) := by decide +kernel
theorem dX9_ticksOnce_66 : decode cX9_ticksOnce 66 = .ok (.ldiv, 1) := by decide +kernel
theorem dX9_ticksOnce_67 : decode cX9_ticksOnce 67 = .ok (.lstore 6, 2) := by decide +kernel
theorem dX9_ticksOnce_69 : decode cX9_ticksOnce 69 = .ok (.lload 6, 2) := by decide +kernel
theorem dX9_ticksOnce_71 : decode cX9_ticksOnce 71 = .ok (.ldc2_w 127, 3) := by decide +kernel
theorem dX9_ticksOnce_74 : decode cX9_ticksOnce 74 = .ok (.lcmp, 1) := by decide +kernel
theorem dX9_ticksOnce_75 : decode cX9_ticksOnce 75 = .ok (.ifCond .le 7, 3) := by decide +kernel
theorem dX9_ticksOnce_78 : decode cX9_ticksOnce 78 = .ok (.lconst 0, 1) := by decide +kernel
theorem dX9_ticksOnce_79 : decode cX9_ticksOnce 79 = .ok (.goto 30, 3) := by decide +kernel
theorem dX9_ticksOnce_82 : decode cX9_ticksOnce 82 = .ok (.aload_n 0, 1) := by decide +kernel
theorem dX9_ticksOnce_83 : decode cX9_ticksOnce 83 = .ok (.getfield 208, 3) := by decide +kernel
theorem dX9_ticksOnce_86 : decode cX9_ticksOnce 86 = .ok (.aload_n 0, 1) := by decide +kernel
theorem dX9_ticksOnce_87 : decode cX9_ticksOnce 87 = .ok (.getfield 208, 3) := by decide +kernel
theorem dX9_ticksOnce_90 : decode cX9_ticksOnce 90 = .ok (.lmul, 1) := by decide +kernel
theorem dX9_ticksOnce_91 : decode cX9_ticksOnce 91 = .ok (.ldc2_w 138, 3) := by decide +kernel
theorem dX9_ticksOnce_94 : decode cX9_ticksOnce 94 = .ok (.ldiv, 1) := by decide +kernel
theorem dX9_ticksOnce_95 : decode cX9_ticksOnce 95 = .ok (.aload_n 0, 1) := by decide +kernel
theorem dX9_ticksOnce_96 : decode cX9_ticksOnce 96 = .ok (.getfield 40, 3) := by decide +kernel
theorem dX9_ticksOnce_99 : decode cX9_ticksOnce 99 = .ok (.lload 6, 2) := by decide +kernel
theorem dX9_ticksOnce_101 : decode cX9_ticksOnce 101 = .ok (.l2i, 1) := by decide +kernel
theorem dX9_ticksOnce_102 : decode cX9_ticksOnce 102 = .ok (.iaload, 1) := by decide +kernel
theorem dX9_ticksOnce_103 : decode cX9_ticksOnce 103 = .ok (.i2l, 1) := by decide +kernel
theorem dX9_ticksOnce_104 : decode cX9_ticksOnce 104 = .ok (.lmul, 1) := by decide +kernel
theorem dX9_ticksOnce_105 : decode cX9_ticksOnce 105 = .ok (.ldc2_w 138, 3) := by decide +kernel
theorem dX9_ticksOnce_108 : decode cX9_ticksOnce 108 = .ok (.ldiv, 1) := by decide +kernel
theorem dX9_ticksOnce_109 : decode cX9_ticksOnce 109 = .ok (.lstore 8, 2) := by decide +kernel
theorem dX9_ticksOnce_111 : decode cX9_ticksOnce 111 = .ok (.aload_n 0, 1) := by decide +kernel
theorem dX9_ticksOnce_112 : decode cX9_ticksOnce 112 = .ok (.getfield 211, 3) := by decide +kernel
theorem dX9_ticksOnce_115 : decode cX9_ticksOnce 115 = .ok (.ifCond .eq 14, 3) := by decide +kernel
theorem dX9_ticksOnce_118 : decode cX9_ticksOnce 118 = .ok (.lload 8, 2) := by decide +kernel
theorem dX9_ticksOnce_120 : decode cX9_ticksOnce 120 = .ok (.aload_n 0, 1) := by decide +kernel
theorem dX9_ticksOnce_121 : decode cX9_ticksOnce 121 = .ok (.getfield 214, 3) := by decide +kernel
theorem dX9_ticksOnce_124 : decode cX9_ticksOnce 124 = .ok (.i2l, 1) := by decide +kernel
theorem dX9_ticksOnce_125 : decode cX9_ticksOnce 125 = .ok (.lcmp, 1) := by decide +kernel
theorem dX9_ticksOnce_126 : decode cX9_ticksOnce 126 = .ok (.ifCond .le 18, 3) := by decide +kernel
theorem dX9_ticksOnce_129 : decode cX9_ticksOnce 129 = .ok (.aload_n 0, 1) := by decide +kernel
theorem dX9_ticksOnce_130 : decode cX9_ticksOnce 130 = .ok (.lload 8, 2) := by decide +kernel
theorem dX9_ticksOnce_132 : decode cX9_ticksOnce 132 = .ok (.l2i, 1) := by decide +kernel
theorem dX9_ticksOnce_133 : decode cX9_ticksOnce 133 = .ok (.putfield 214, 3) := by decide +kernel
theorem dX9_ticksOnce_136 : decode cX9_ticksOnce 136 = .ok (.aload_n 0, 1) := by decide +kernel
theorem dX9_ticksOnce_137 : decode cX9_ticksOnce 137 = .ok (.aload_n 0, 1) := by decide +kernel
theorem dX9_ticksOnce_138 : decode cX9_ticksOnce 138 = .ok (.getfield 211, 3) := by decide +kernel
theorem dX9_ticksOnce_141 : decode cX9_ticksOnce 141 = .ok (.putfield 217, 3) := by decide +kernel
theorem dX9_ticksOnce_144 : decode cX9_ticksOnce 144 = .ok (.lload 8, 2) := by decide +kernel
theorem dX9_ticksOnce_146 : decode cX9_ticksOnce 146 = .ok (.aload_n 0, 1) := by decide +kernel
theorem dX9_ticksOnce_147 : decode cX9_ticksOnce 147 = .ok (.getfield 43, 3) := by decide +kernel
theorem dX9_ticksOnce_150 : decode cX9_ticksOnce 150 = .ok (.iconst 0, 1) := by decide +kernel
theorem dX9_ticksOnce_151 : decode cX9_ticksOnce 151 = .ok (.iaload, 1) := by decide +kernel
theorem dX9_ticksOnce_152 : decode cX9_ticksOnce 152 = .ok (.i2l, 1) := by decide +kernel
theorem dX9_ticksOnce_153 : decode cX9_ticksOnce 153 = .ok (.lcmp, 1) := by decide +kernel
theorem dX9_ticksOnce_154 : decode cX9_ticksOnce 154 = .ok (.ifCond .le 18, 3) := by decide +kernel
theorem dX9_ticksOnce_157 : decode cX9_ticksOnce 157 = .ok (.aload_n 0, 1) := by decide +kernel
theorem dX9_ticksOnce_158 : decode cX9_ticksOnce 158 = .ok (.getfield 220, 3) := by decide +kernel
theorem dX9_ticksOnce_161 : decode cX9_ticksOnce 161 = .ok (.ifCond .ge 11, 3) := by decide +kernel
theorem dX9_ticksOnce_164 : decode cX9_ticksOnce 164 = .ok (.aload_n 0, 1) := by decide +kernel
theorem dX9_ticksOnce_165 : decode cX9_ticksOnce 165 = .ok (.aload_n 0, 1) := by decide +kernel
theorem dX9_ticksOnce_166 : decode cX9_ticksOnce 166 = .ok (.getfield 211, 3) := by decide +kernel
theorem dX9_ticksOnce_169 : decode cX9_ticksOnce 169 = .ok (.putfield 220, 3) := by decide +kernel
theorem dX9_ticksOnce_172 : decode cX9_ticksOnce 172 = .ok (.ldc2_w 138, 3) := by decide +kernel
theorem dX9_ticksOnce_175 : decode cX9_ticksOnce 175 = .ok (.lload 4, 2) := by decide +kernel
theorem dX9_ticksOnce_177 : decode cX9_ticksOnce 177 = .ok (.lmul, 1) := by decide +kernel
theorem dX9_ticksOnce_178 : decode cX9_ticksOnce 178 = .ok (.ldc2_w 138, 3) := by decide +kernel
theorem dX9_ticksOnce_181 : decode cX9_ticksOnce 181 = .ok (.lload_n 2, 1) := by decide +kernel
theorem dX9_ticksOnce_182 : decode cX9_ticksOnce 182 = .ok (.lmul, 1) := by decide +kernel
theorem dX9_ticksOnce_183 : decode cX9_ticksOnce 183 = .ok (.lsub, 1) := by decide +kernel
theorem dX9_ticksOnce_184 : decode cX9_ticksOnce 184 = .ok (.aload_n 0, 1) := by decide +kernel
theorem dX9_ticksOnce_185 : decode cX9_ticksOnce 185 = .ok (.getfield 208, 3) := by decide +kernel
theorem dX9_ticksOnce_188 : decode cX9_ticksOnce 188 = .ok (.lconst 0, 1) := by decide +kernel
theorem dX9_ticksOnce_189 : decode cX9_ticksOnce 189 = .ok (.lcmp, 1) := by decide +kernel
theorem dX9_ticksOnce_190 : decode cX9_ticksOnce 190 = .ok (.ifCond .ge 8, 3) := by decide +kernel
theorem dX9_ticksOnce_193 : decode cX9_ticksOnce 193 = .ok (.lload 8, 2) := by decide +kernel
theorem dX9_ticksOnce_195 : decode cX9_ticksOnce 195 = .ok (.goto 6, 3) := by decide +kernel
theorem dX9_ticksOnce_198 : decode cX9_ticksOnce 198 = .ok (.lload 8, 2) := by decide +kernel
theorem dX9_ticksOnce_200 : decode cX9_ticksOnce 200 = .ok (.lneg, 1) := by decide +kernel
theorem dX9_ticksOnce_201 : decode cX9_ticksOnce 201 = .ok (.ladd, 1) := by decide +kernel
theorem dX9_ticksOnce_202 : decode cX9_ticksOnce 202 = .ok (.lload_n 2, 1) := by decide +kernel
theorem dX9_ticksOnce_203 : decode cX9_ticksOnce 203 = .ok (.ldiv, 1) := by decide +kernel
theorem dX9_ticksOnce_204 : decode cX9_ticksOnce 204 = .ok (.lstore 10, 2) := by decide +kernel
theorem dX9_ticksOnce_206 : decode cX9_ticksOnce 206 = .ok (.aload_n 0, 1) := by decide +kernel
theorem dX9_ticksOnce_207 : decode cX9_ticksOnce 207 = .ok (.dup, 1) := by decide +kernel
theorem dX9_ticksOnce_208 : decode cX9_ticksOnce 208 = .ok (.getfield 208, 3) := by decide +kernel
theorem dX9_ticksOnce_211 : decode cX9_ticksOnce 211 = .ok (.lload 10, 2) := by decide +kernel
theorem dX9_ticksOnce_213 : decode cX9_ticksOnce 213 = .ok (.ladd, 1) := by decide +kernel
theorem dX9_ticksOnce_214 : decode cX9_ticksOnce 214 = .ok (.putfield 208, 3) := by decide +kernel
theorem dX9_ticksOnce_217 : decode cX9_ticksOnce 217 = .ok (.aload_n 0, 1) := by decide +kernel
theorem dX9_ticksOnce_218 : decode cX9_ticksOnce 218 = .ok (.aload_n 0, 1) := by decide +kernel
theorem dX9_ticksOnce_219 : decode cX9_ticksOnce 219 = .ok (.getfield 208, 3) := by decide +kernel
theorem dX9_ticksOnce_222 : decode cX9_ticksOnce 222 = .ok (.ldc2_w 223, 3) := by decide +kernel
theorem dX9_ticksOnce_225 : decode cX9_ticksOnce 225 = .ok (.lcmp, 1) := by decide +kernel
theorem dX9_ticksOnce_226 : decode cX9_ticksOnce 226 = .ok (.ifCond .le 9, 3) := by decide +kernel
theorem dX9_ticksOnce_229 : decode cX9_ticksOnce 229 = .ok (.ldc2_w 223, 3) := by decide +kernel
theorem dX9_ticksOnce_232 : decode cX9_ticksOnce 232 = .ok (.goto 24, 3) := by decide +kernel
theorem dX9_ticksOnce_235 : decode cX9_ticksOnce 235 = .ok (.aload_n 0, 1) := by decide +kernel
theorem dX9_ticksOnce_236 : decode cX9_ticksOnce 236 = .ok (.getfield 208, 3) := by decide +kernel
theorem dX9_ticksOnce_239 : decode cX9_ticksOnce 239 = .ok (.ldc2_w 225, 3) := by decide +kernel
theorem dX9_ticksOnce_242 : decode cX9_ticksOnce 242 = .ok (.lcmp, 1) := by decide +kernel
theorem dX9_ticksOnce_243 : decode cX9_ticksOnce 243 = .ok (.ifCond .ge 9, 3) := by decide +kernel
theorem dX9_ticksOnce_246 : decode cX9_ticksOnce 246 = .ok (.ldc2_w 225, 3) := by decide +kernel
theorem dX9_ticksOnce_249 : decode cX9_ticksOnce 249 = .ok (.goto 7, 3) := by decide +kernel
theorem dX9_ticksOnce_252 : decode cX9_ticksOnce 252 = .ok (.aload_n 0, 1) := by decide +kernel
theorem dX9_ticksOnce_253 : decode cX9_ticksOnce 253 = .ok (.getfield 208, 3) := by decide +kernel
theorem dX9_ticksOnce_256 : decode cX9_ticksOnce 256 = .ok (.putfield 208, 3) := by decide +kernel
theorem dX9_ticksOnce_259 : decode cX9_ticksOnce 259 = .ok (.aload_n 0, 1) := by decide +kernel
theorem dX9_ticksOnce_260 : decode cX9_ticksOnce 260 = .ok (.dup, 1) := by decide +kernel
theorem dX9_ticksOnce_261 : decode cX9_ticksOnce 261 = .ok (.getfield 204, 3) := by decide +kernel
theorem dX9_ticksOnce_264 : decode cX9_ticksOnce 264 = .ok (.aload_n 0, 1) := by decide +kernel
theorem dX9_ticksOnce_265 : decode cX9_ticksOnce 265 = .ok (.getfield 208, 3) := by decide +kernel
theorem dX9_ticksOnce_268 : decode cX9_ticksOnce 268 = .ok (.ladd, 1) := by decide +kernel
theorem dX9_ticksOnce_269 : decode cX9_ticksOnce 269 = .ok (.putfield 204, 3) := by decide +kernel
theorem dX9_ticksOnce_272 : decode cX9_ticksOnce 272 = .ok (.aload_n 0, 1) := by decide +kernel
theorem dX9_ticksOnce_273 : decode cX9_ticksOnce 273 = .ok (.getfield 204, 3) := by decide +kernel
theorem dX9_ticksOnce_276 : decode cX9_ticksOnce 276 = .ok (.lconst 0, 1) := by decide +kernel
theorem dX9_ticksOnce_277 : decode cX9_ticksOnce 277 = .ok (.lcmp, 1) := by decide +kernel
theorem dX9_ticksOnce_278 : decode cX9_ticksOnce 278 = .ok (.ifCond .ge 13, 3) := by decide +kernel
theorem dX9_ticksOnce_281 : decode cX9_ticksOnce 281 = .ok (.aload_n 0, 1) := by decide +kernel
theorem dX9_ticksOnce_282 : decode cX9_ticksOnce 282 = .ok (.lconst 0, 1) := by decide +kernel
theorem dX9_ticksOnce_283 : decode cX9_ticksOnce 283 = .ok (.putfield 204, 3) := by decide +kernel
theorem dX9_ticksOnce_286 : decode cX9_ticksOnce 286 = .ok (.aload_n 0, 1) := by decide +kernel
theorem dX9_ticksOnce_287 : decode cX9_ticksOnce 287 = .ok (.lconst 0, 1) := by decide +kernel
theorem dX9_ticksOnce_288 : decode cX9_ticksOnce 288 = .ok (.putfield 208, 3) := by decide +kernel
theorem dX9_ticksOnce_291 : decode cX9_ticksOnce 291 = .ok (.aload_n 0, 1) := by decide +kernel
theorem dX9_ticksOnce_292 : decode cX9_ticksOnce 292 = .ok (.getfield 85, 3) := by decide +kernel
theorem dX9_ticksOnce_295 : decode cX9_ticksOnce 295 = .ok (.aload_n 0, 1) := by decide +kernel
theorem dX9_ticksOnce_296 : decode cX9_ticksOnce 296 = .ok (.getfield 191, 3) := by decide +kernel
theorem dX9_ticksOnce_299 : decode cX9_ticksOnce 299 = .ok (.dup2, 1) := by decide +kernel
theorem dX9_ticksOnce_300 : decode cX9_ticksOnce 300 = .ok (.iaload, 1) := by decide +kernel
theorem dX9_ticksOnce_301 : decode cX9_ticksOnce 301 = .ok (.iload_n 1, 1) := by decide +kernel
theorem dX9_ticksOnce_302 : decode cX9_ticksOnce 302 = .ok (.isub, 1) := by decide +kernel
theorem dX9_ticksOnce_303 : decode cX9_ticksOnce 303 = .ok (.iastore, 1) := by decide +kernel
theorem dX9_ticksOnce_304 : decode cX9_ticksOnce 304 = .ok (.aload_n 0, 1) := by decide +kernel
theorem dX9_ticksOnce_305 : decode cX9_ticksOnce 305 = .ok (.dup, 1) := by decide +kernel
theorem dX9_ticksOnce_306 : decode cX9_ticksOnce 306 = .ok (.getfield 211, 3) := by decide +kernel
theorem dX9_ticksOnce_309 : decode cX9_ticksOnce 309 = .ok (.iconst 1, 1) := by decide +kernel
theorem dX9_ticksOnce_310 : decode cX9_ticksOnce 310 = .ok (.iadd, 1) := by decide +kernel
theorem dX9_ticksOnce_311 : decode cX9_ticksOnce 311 = .ok (.putfield 211, 3) := by decide +kernel
theorem dX9_ticksOnce_314 : decode cX9_ticksOnce 314 = .ok (.aload_n 0, 1) := by decide +kernel
theorem dX9_ticksOnce_315 : decode cX9_ticksOnce 315 = .ok (.getfield 85, 3) := by decide +kernel
theorem dX9_ticksOnce_318 : decode cX9_ticksOnce 318 = .ok (.aload_n 0, 1) := by decide +kernel
theorem dX9_ticksOnce_319 : decode cX9_ticksOnce 319 = .ok (.getfield 191, 3) := by decide +kernel
theorem dX9_ticksOnce_322 : decode cX9_ticksOnce 322 = .ok (.iaload, 1) := by decide +kernel
theorem dX9_ticksOnce_323 : decode cX9_ticksOnce 323 = .ok (.ifCond .le 4, 3) := by decide +kernel
theorem dX9_ticksOnce_326 : decode cX9_ticksOnce 326 = .ok (.return_, 1) := by decide +kernel
theorem dX9_ticksOnce_327 : decode cX9_ticksOnce 327 = .ok (.aload_n 0, 1) := by decide +kernel
theorem dX9_ticksOnce_328 : decode cX9_ticksOnce 328 = .ok (.dup, 1) := by decide +kernel
theorem dX9_ticksOnce_329 : decode cX9_ticksOnce 329 = .ok (.getfield 194, 3) := by decide +kernel
theorem dX9_ticksOnce_332 : decode cX9_ticksOnce 332 = .ok (.iconst 1, 1) := by decide +kernel
theorem dX9_ticksOnce_333 : decode cX9_ticksOnce 333 = .ok (.iadd, 1) := by decide +kernel
theorem dX9_ticksOnce_334 : decode cX9_ticksOnce 334 = .ok (.putfield 194, 3) := by decide +kernel
theorem dX9_ticksOnce_337 : decode cX9_ticksOnce 337 = .ok (.aload_n 0, 1) := by decide +kernel
theorem dX9_ticksOnce_338 : decode cX9_ticksOnce 338 = .ok (.dup, 1) := by decide +kernel
theorem dX9_ticksOnce_339 : decode cX9_ticksOnce 339 = .ok (.getfield 191, 3) := by decide +kernel
theorem dX9_ticksOnce_342 : decode cX9_ticksOnce 342 = .ok (.iconst 1, 1) := by decide +kernel
theorem dX9_ticksOnce_343 : decode cX9_ticksOnce 343 = .ok (.iadd, 1) := by decide +kernel
theorem dX9_ticksOnce_344 : decode cX9_ticksOnce 344 = .ok (.putfield 191, 3) := by decide +kernel
theorem dX9_ticksOnce_347 : decode cX9_ticksOnce 347 = .ok (.aload_n 0, 1) := by decide +kernel
theorem dX9_ticksOnce_348 : decode cX9_ticksOnce 348 = .ok (.getfield 191, 3) := by decide +kernel
theorem dX9_ticksOnce_351 : decode cX9_ticksOnce 351 = .ok (.aload_n 0, 1) := by decide +kernel
theorem dX9_ticksOnce_352 : decode cX9_ticksOnce 352 = .ok (.getfield 110, 3) := by decide +kernel
theorem dX9_ticksOnce_355 : decode cX9_ticksOnce 355 = .ok (.if_icmp .ge 16, 3) := by decide +kernel
theorem dX9_ticksOnce_358 : decode cX9_ticksOnce 358 = .ok (.aload_n 0, 1) := by decide +kernel
theorem dX9_ticksOnce_359 : decode cX9_ticksOnce 359 = .ok (.aload_n 0, 1) := by decide +kernel
theorem dX9_ticksOnce_360 : decode cX9_ticksOnce 360 = .ok (.getfield 31, 3) := by decide +kernel
theorem dX9_ticksOnce_363 : decode cX9_ticksOnce 363 = .ok (.aload_n 0, 1) := by decide +kernel
theorem dX9_ticksOnce_364 : decode cX9_ticksOnce 364 = .ok (.getfield 191, 3) := by decide +kernel
theorem dX9_ticksOnce_367 : decode cX9_ticksOnce 367 = .ok (.iaload, 1) := by decide +kernel
theorem dX9_ticksOnce_368 : decode cX9_ticksOnce 368 = .ok (.putfield 197, 3) := by decide +kernel
theorem dX9_ticksOnce_371 : decode cX9_ticksOnce 371 = .ok (.return_, 1) := by decide +kernel
theorem dX9_flies_0 : decode cX9_flies 0 = .ok (.iconst 0, 1) := by decide +kernel
theorem dX9_flies_1 : decode cX9_flies 1 = .ok (.istore_n 2, 1) := by decide +kernel
theorem dX9_flies_2 : decode cX9_flies 2 = .ok (.iload_n 2, 1) := by decide +kernel
theorem dX9_flies_3 : decode cX9_flies 3 = .ok (.aload_n 0, 1) := by decide +kernel
theorem dX9_flies_4 : decode cX9_flies 4 = .ok (.getfield 110, 3) := by decide +kernel
theorem dX9_flies_7 : decode cX9_flies 7 = .ok (.if_icmp .ge 21, 3) := by decide +kernel
theorem dX9_flies_10 : decode cX9_flies 10 = .ok (.aload_n 0, 1) := by decide +kernel
theorem dX9_flies_11 : decode cX9_flies 11 = .ok (.getfield 85, 3) := by decide +kernel
theorem dX9_flies_14 : decode cX9_flies 14 = .ok (.iload_n 2, 1) := by decide +kernel
theorem dX9_flies_15 : decode cX9_flies 15 = .ok (.aload_n 0, 1) := by decide +kernel
theorem dX9_flies_16 : decode cX9_flies 16 = .ok (.getfield 34, 3) := by decide +kernel
theorem dX9_flies_19 : decode cX9_flies 19 = .ok (.iload_n 2, 1) := by decide +kernel
theorem dX9_flies_20 : decode cX9_flies 20 = .ok (.iaload, 1) := by decide +kernel
theorem dX9_flies_21 : decode cX9_flies 21 = .ok (.iastore, 1) := by decide +kernel
theorem dX9_flies_22 : decode cX9_flies 22 = .ok (.iinc 2 1, 3) := by decide +kernel
theorem dX9_flies_25 : decode cX9_flies 25 = .ok (.goto (-23), 3) := by decide +kernel
theorem dX9_flies_28 : decode cX9_flies 28 = .ok (.aload_n 0, 1) := by decide +kernel
theorem dX9_flies_29 : decode cX9_flies 29 = .ok (.iconst 0, 1) := by decide +kernel
theorem dX9_flies_30 : decode cX9_flies 30 = .ok (.putfield 191, 3) := by decide +kernel
theorem dX9_flies_33 : decode cX9_flies 33 = .ok (.aload_n 0, 1) := by decide +kernel
theorem dX9_flies_34 : decode cX9_flies 34 = .ok (.aload_n 0, 1) := by decide +kernel
theorem dX9_flies_35 : decode cX9_flies 35 = .ok (.getfield 31, 3) := by decide +kernel
theorem dX9_flies_38 : decode cX9_flies 38 = .ok (.iconst 0, 1) := by decide +kernel
theorem dX9_flies_39 : decode cX9_flies 39 = .ok (.iaload, 1) := by decide +kernel
theorem dX9_flies_40 : decode cX9_flies 40 = .ok (.putfield 197, 3) := by decide +kernel
theorem dX9_flies_43 : decode cX9_flies 43 = .ok (.aload_n 0, 1) := by decide +kernel
theorem dX9_flies_44 : decode cX9_flies 44 = .ok (.iconst 0, 1) := by decide +kernel
theorem dX9_flies_45 : decode cX9_flies 45 = .ok (.putfield 211, 3) := by decide +kernel
theorem dX9_flies_48 : decode cX9_flies 48 = .ok (.aload_n 0, 1) := by decide +kernel
theorem dX9_flies_49 : decode cX9_flies 49 = .ok (.iconst 0, 1) := by decide +kernel
theorem dX9_flies_50 : decode cX9_flies 50 = .ok (.putfield 214, 3) := by decide +kernel
theorem dX9_flies_53 : decode cX9_flies 53 = .ok (.aload_n 0, 1) := by decide +kernel
theorem dX9_flies_54 : decode cX9_flies 54 = .ok (.iconst 0, 1) := by decide +kernel
theorem dX9_flies_55 : decode cX9_flies 55 = .ok (.putfield 217, 3) := by decide +kernel
theorem dX9_flies_58 : decode cX9_flies 58 = .ok (.aload_n 0, 1) := by decide +kernel
theorem dX9_flies_59 : decode cX9_flies 59 = .ok (.iconst (-1), 1) := by decide +kernel
theorem dX9_flies_60 : decode cX9_flies 60 = .ok (.putfield 220, 3) := by decide +kernel
theorem dX9_flies_63 : decode cX9_flies 63 = .ok (.aload_n 0, 1) := by decide +kernel
theorem dX9_flies_64 : decode cX9_flies 64 = .ok (.iconst 0, 1) := by decide +kernel
theorem dX9_flies_65 : decode cX9_flies 65 = .ok (.putfield 194, 3) := by decide +kernel
theorem dX9_flies_68 : decode cX9_flies 68 = .ok (.aload_n 0, 1) := by decide +kernel
theorem dX9_flies_69 : decode cX9_flies 69 = .ok (.lconst 0, 1) := by decide +kernel
theorem dX9_flies_70 : decode cX9_flies 70 = .ok (.putfield 204, 3) := by decide +kernel
theorem dX9_flies_73 : decode cX9_flies 73 = .ok (.aload_n 0, 1) := by decide +kernel
theorem dX9_flies_74 : decode cX9_flies 74 = .ok (.lconst 0, 1) := by decide +kernel
theorem dX9_flies_75 : decode cX9_flies 75 = .ok (.putfield 208, 3) := by decide +kernel
theorem dX9_flies_78 : decode cX9_flies 78 = .ok (.aload_n 0, 1) := by decide +kernel
theorem dX9_flies_79 : decode cX9_flies 79 = .ok (.getfield 211, 3) := by decide +kernel
theorem dX9_flies_82 : decode cX9_flies 82 = .ok (.sipush 2000, 3) := by decide +kernel
theorem dX9_flies_85 : decode cX9_flies 85 = .ok (.if_icmp .ge 106, 3) := by decide +kernel
theorem dX9_flies_88 : decode cX9_flies 88 = .ok (.aload_n 0, 1) := by decide +kernel
theorem dX9_flies_89 : decode cX9_flies 89 = .ok (.invokevirtual 227, 3) := by decide +kernel
theorem dX9_flies_92 : decode cX9_flies 92 = .ok (.ifCond .eq 99, 3) := by decide +kernel
theorem dX9_flies_95 : decode cX9_flies 95 = .ok (.aload_n 0, 1) := by decide +kernel
theorem dX9_flies_96 : decode cX9_flies 96 = .ok (.getfield 211, 3) := by decide +kernel
theorem dX9_flies_99 : decode cX9_flies 99 = .ok (.iload_n 1, 1) := by decide +kernel
theorem dX9_flies_100 : decode cX9_flies 100 = .ok (.if_icmp .ne 84, 3) := by decide +kernel
theorem dX9_flies_103 : decode cX9_flies 103 = .ok (.aload_n 0, 1) := by decide +kernel
theorem dX9_flies_104 : decode cX9_flies 104 = .ok (.dup, 1) := by decide +kernel
theorem dX9_flies_105 : decode cX9_flies 105 = .ok (.getfield 197, 3) := by decide +kernel
theorem dX9_flies_108 : decode cX9_flies 108 = .ok (.iconst 1, 1) := by decide +kernel
theorem dX9_flies_109 : decode cX9_flies 109 = .ok (.isub, 1) := by decide +kernel
theorem dX9_flies_110 : decode cX9_flies 110 = .ok (.putfield 197, 3) := by decide +kernel
theorem dX9_flies_113 : decode cX9_flies 113 = .ok (.aload_n 0, 1) := by decide +kernel
theorem dX9_flies_114 : decode cX9_flies 114 = .ok (.getfield 197, 3) := by decide +kernel
theorem dX9_flies_117 : decode cX9_flies 117 = .ok (.ifCond .ne 67, 3) := by decide +kernel
theorem dX9_flies_120 : decode cX9_flies 120 = .ok (.aload_n 0, 1) := by decide +kernel
theorem dX9_flies_121 : decode cX9_flies 121 = .ok (.getfield 85, 3) := by decide +kernel
theorem dX9_flies_124 : decode cX9_flies 124 = .ok (.aload_n 0, 1) := by decide +kernel
theorem dX9_flies_125 : decode cX9_flies 125 = .ok (.getfield 191, 3) := by decide +kernel
theorem dX9_flies_128 : decode cX9_flies 128 = .ok (.iconst 0, 1) := by decide +kernel
theorem dX9_flies_129 : decode cX9_flies 129 = .ok (.iastore, 1) := by decide +kernel
theorem dX9_flies_130 : decode cX9_flies 130 = .ok (.aload_n 0, 1) := by decide +kernel
theorem dX9_flies_131 : decode cX9_flies 131 = .ok (.dup, 1) := by decide +kernel
theorem dX9_flies_132 : decode cX9_flies 132 = .ok (.getfield 194, 3) := by decide +kernel
theorem dX9_flies_135 : decode cX9_flies 135 = .ok (.iconst 1, 1) := by decide +kernel
theorem dX9_flies_136 : decode cX9_flies 136 = .ok (.iadd, 1) := by decide +kernel
theorem dX9_flies_137 : decode cX9_flies 137 = .ok (.putfield 194, 3) := by decide +kernel
theorem dX9_flies_140 : decode cX9_flies 140 = .ok (.aload_n 0, 1) := by decide +kernel
theorem dX9_flies_141 : decode cX9_flies 141 = .ok (.dup, 1) := by decide +kernel
theorem dX9_flies_142 : decode cX9_flies 142 = .ok (.getfield 191, 3) := by decide +kernel
theorem dX9_flies_145 : decode cX9_flies 145 = .ok (.iconst 1, 1) := by decide +kernel
theorem dX9_flies_146 : decode cX9_flies 146 = .ok (.iadd, 1) := by decide +kernel
theorem dX9_flies_147 : decode cX9_flies 147 = .ok (.putfield 191, 3) := by decide +kernel
theorem dX9_flies_150 : decode cX9_flies 150 = .ok (.aload_n 0, 1) := by decide +kernel
theorem dX9_flies_151 : decode cX9_flies 151 = .ok (.getfield 191, 3) := by decide +kernel
theorem dX9_flies_154 : decode cX9_flies 154 = .ok (.aload_n 0, 1) := by decide +kernel
theorem dX9_flies_155 : decode cX9_flies 155 = .ok (.getfield 110, 3) := by decide +kernel
theorem dX9_flies_158 : decode cX9_flies 158 = .ok (.if_icmp .ge 16, 3) := by decide +kernel
theorem dX9_flies_161 : decode cX9_flies 161 = .ok (.aload_n 0, 1) := by decide +kernel
theorem dX9_flies_162 : decode cX9_flies 162 = .ok (.aload_n 0, 1) := by decide +kernel
theorem dX9_flies_163 : decode cX9_flies 163 = .ok (.getfield 31, 3) := by decide +kernel
theorem dX9_flies_166 : decode cX9_flies 166 = .ok (.aload_n 0, 1) := by decide +kernel
theorem dX9_flies_167 : decode cX9_flies 167 = .ok (.getfield 191, 3) := by decide +kernel
theorem dX9_flies_170 : decode cX9_flies 170 = .ok (.iaload, 1) := by decide +kernel
theorem dX9_flies_171 : decode cX9_flies 171 = .ok (.putfield 197, 3) := by decide +kernel
theorem dX9_flies_174 : decode cX9_flies 174 = .ok (.aload_n 0, 1) := by decide +kernel
theorem dX9_flies_175 : decode cX9_flies 175 = .ok (.invokevirtual 227, 3) := by decide +kernel
theorem dX9_flies_178 : decode cX9_flies 178 = .ok (.ifCond .ne 6, 3) := by decide +kernel
theorem dX9_flies_181 : decode cX9_flies 181 = .ok (.goto 10, 3) := by decide +kernel
theorem dX9_flies_184 : decode cX9_flies 184 = .ok (.aload_n 0, 1) := by decide +kernel
theorem dX9_flies_185 : decode cX9_flies 185 = .ok (.invokevirtual 231, 3) := by decide +kernel
theorem dX9_flies_188 : decode cX9_flies 188 = .ok (.goto (-110), 3) := by decide +kernel
theorem dX9_flies_191 : decode cX9_flies 191 = .ok (.aload_n 0, 1) := by decide +kernel
theorem dX9_flies_192 : decode cX9_flies 192 = .ok (.getfield 220, 3) := by decide +kernel
theorem dX9_flies_195 : decode cX9_flies 195 = .ok (.ifCond .lt 5, 3) := by decide +kernel
theorem dX9_flies_198 : decode cX9_flies 198 = .ok (.iconst 1, 1) := by decide +kernel
theorem dX9_flies_199 : decode cX9_flies 199 = .ok (.ireturn, 1) := by decide +kernel
theorem dX9_flies_200 : decode cX9_flies 200 = .ok (.aload_n 0, 1) := by decide +kernel
theorem dX9_flies_201 : decode cX9_flies 201 = .ok (.getfield 204, 3) := by decide +kernel
theorem dX9_flies_204 : decode cX9_flies 204 = .ok (.aload_n 0, 1) := by decide +kernel
theorem dX9_flies_205 : decode cX9_flies 205 = .ok (.getfield 43, 3) := by decide +kernel
theorem dX9_flies_208 : decode cX9_flies 208 = .ok (.iconst 1, 1) := by decide +kernel
theorem dX9_flies_209 : decode cX9_flies 209 = .ok (.iaload, 1) := by decide +kernel
theorem dX9_flies_210 : decode cX9_flies 210 = .ok (.i2l, 1) := by decide +kernel
theorem dX9_flies_211 : decode cX9_flies 211 = .ok (.lcmp, 1) := by decide +kernel
theorem dX9_flies_212 : decode cX9_flies 212 = .ok (.ifCond .ge 7, 3) := by decide +kernel
theorem dX9_flies_215 : decode cX9_flies 215 = .ok (.iconst 2, 1) := by decide +kernel
theorem dX9_flies_216 : decode cX9_flies 216 = .ok (.goto 23, 3) := by decide +kernel
theorem dX9_flies_219 : decode cX9_flies 219 = .ok (.aload_n 0, 1) := by decide +kernel
theorem dX9_flies_220 : decode cX9_flies 220 = .ok (.getfield 208, 3) := by decide +kernel
theorem dX9_flies_223 : decode cX9_flies 223 = .ok (.aload_n 0, 1) := by decide +kernel
theorem dX9_flies_224 : decode cX9_flies 224 = .ok (.getfield 43, 3) := by decide +kernel
theorem dX9_flies_227 : decode cX9_flies 227 = .ok (.iconst 2, 1) := by decide +kernel
theorem dX9_flies_228 : decode cX9_flies 228 = .ok (.iaload, 1) := by decide +kernel
theorem dX9_flies_229 : decode cX9_flies 229 = .ok (.i2l, 1) := by decide +kernel
theorem dX9_flies_230 : decode cX9_flies 230 = .ok (.lcmp, 1) := by decide +kernel
theorem dX9_flies_231 : decode cX9_flies 231 = .ok (.ifCond .ge 7, 3) := by decide +kernel
theorem dX9_flies_234 : decode cX9_flies 234 = .ok (.iconst 3, 1) := by decide +kernel
theorem dX9_flies_235 : decode cX9_flies 235 = .ok (.goto 4, 3) := by decide +kernel
theorem dX9_flies_238 : decode cX9_flies 238 = .ok (.iconst 0, 1) := by decide +kernel
theorem dX9_flies_239 : decode cX9_flies 239 = .ok (.ireturn, 1) := by decide +kernel
theorem dX9_fly_0 : decode cX9_fly 0 = .ok (.aload_n 0, 1) := by decide +kernel
theorem dX9_fly_1 : decode cX9_fly 1 = .ok (.invokevirtual 234, 3) := by decide +kernel
theorem dX9_fly_4 : decode cX9_fly 4 = .ok (.ifCond .ne 6, 3) := by decide +kernel
theorem dX9_fly_7 : decode cX9_fly 7 = .ok (.bipush (-3), 2) := by decide +kernel
theorem dX9_fly_9 : decode cX9_fly 9 = .ok (.ireturn, 1) := by decide +kernel
theorem dX9_fly_10 : decode cX9_fly 10 = .ok (.aload_n 0, 1) := by decide +kernel
theorem dX9_fly_11 : decode cX9_fly 11 = .ok (.iconst (-1), 1) := by decide +kernel
theorem dX9_fly_12 : decode cX9_fly 12 = .ok (.invokevirtual 237, 3) := by decide +kernel
theorem dX9_fly_15 : decode cX9_fly 15 = .ok (.istore_n 1, 1) := by decide +kernel
theorem dX9_fly_16 : decode cX9_fly 16 = .ok (.aload_n 0, 1) := by decide +kernel
theorem dX9_fly_17 : decode cX9_fly 17 = .ok (.getfield 88, 3) := by decide +kernel
theorem dX9_fly_20 : decode cX9_fly 20 = .ok (.iconst 0, 1) := by decide +kernel
theorem dX9_fly_21 : decode cX9_fly 21 = .ok (.aload_n 0, 1) := by decide +kernel
theorem dX9_fly_22 : decode cX9_fly 22 = .ok (.getfield 211, 3) := by decide +kernel
theorem dX9_fly_25 : decode cX9_fly 25 = .ok (.iastore, 1) := by decide +kernel
theorem dX9_fly_26 : decode cX9_fly 26 = .ok (.aload_n 0, 1) := by decide +kernel
theorem dX9_fly_27 : decode cX9_fly 27 = .ok (.getfield 88, 3) := by decide +kernel
theorem dX9_fly_30 : decode cX9_fly 30 = .ok (.iconst 1, 1) := by decide +kernel
theorem dX9_fly_31 : decode cX9_fly 31 = .ok (.aload_n 0, 1) := by decide +kernel
theorem dX9_fly_32 : decode cX9_fly 32 = .ok (.getfield 204, 3) := by decide +kernel
theorem dX9_fly_35 : decode cX9_fly 35 = .ok (.l2i, 1) := by decide +kernel
theorem dX9_fly_36 : decode cX9_fly 36 = .ok (.iastore, 1) := by decide +kernel
theorem dX9_fly_37 : decode cX9_fly 37 = .ok (.aload_n 0, 1) := by decide +kernel
theorem dX9_fly_38 : decode cX9_fly 38 = .ok (.getfield 88, 3) := by decide +kernel
theorem dX9_fly_41 : decode cX9_fly 41 = .ok (.iconst 2, 1) := by decide +kernel
theorem dX9_fly_42 : decode cX9_fly 42 = .ok (.aload_n 0, 1) := by decide +kernel
theorem dX9_fly_43 : decode cX9_fly 43 = .ok (.getfield 208, 3) := by decide +kernel
theorem dX9_fly_46 : decode cX9_fly 46 = .ok (.l2i, 1) := by decide +kernel
theorem dX9_fly_47 : decode cX9_fly 47 = .ok (.iastore, 1) := by decide +kernel
theorem dX9_fly_48 : decode cX9_fly 48 = .ok (.aload_n 0, 1) := by decide +kernel
theorem dX9_fly_49 : decode cX9_fly 49 = .ok (.getfield 88, 3) := by decide +kernel
theorem dX9_fly_52 : decode cX9_fly 52 = .ok (.iconst 3, 1) := by decide +kernel
theorem dX9_fly_53 : decode cX9_fly 53 = .ok (.aload_n 0, 1) := by decide +kernel
theorem dX9_fly_54 : decode cX9_fly 54 = .ok (.getfield 214, 3) := by decide +kernel
theorem dX9_fly_57 : decode cX9_fly 57 = .ok (.iastore, 1) := by decide +kernel
theorem dX9_fly_58 : decode cX9_fly 58 = .ok (.aload_n 0, 1) := by decide +kernel
theorem dX9_fly_59 : decode cX9_fly 59 = .ok (.getfield 88, 3) := by decide +kernel
theorem dX9_fly_62 : decode cX9_fly 62 = .ok (.iconst 4, 1) := by decide +kernel
theorem dX9_fly_63 : decode cX9_fly 63 = .ok (.aload_n 0, 1) := by decide +kernel
theorem dX9_fly_64 : decode cX9_fly 64 = .ok (.getfield 217, 3) := by decide +kernel
theorem dX9_fly_67 : decode cX9_fly 67 = .ok (.iastore, 1) := by decide +kernel
theorem dX9_fly_68 : decode cX9_fly 68 = .ok (.aload_n 0, 1) := by decide +kernel
theorem dX9_fly_69 : decode cX9_fly 69 = .ok (.getfield 88, 3) := by decide +kernel
theorem dX9_fly_72 : decode cX9_fly 72 = .ok (.iconst 5, 1) := by decide +kernel
theorem dX9_fly_73 : decode cX9_fly 73 = .ok (.aload_n 0, 1) := by decide +kernel
theorem dX9_fly_74 : decode cX9_fly 74 = .ok (.getfield 220, 3) := by decide +kernel
theorem dX9_fly_77 : decode cX9_fly 77 = .ok (.ifCond .ge 7, 3) := by decide +kernel
theorem dX9_fly_80 : decode cX9_fly 80 = .ok (.iconst (-1), 1) := by decide +kernel
theorem dX9_fly_81 : decode cX9_fly 81 = .ok (.goto 7, 3) := by decide +kernel
theorem dX9_fly_84 : decode cX9_fly 84 = .ok (.aload_n 0, 1) := by decide +kernel
theorem dX9_fly_85 : decode cX9_fly 85 = .ok (.getfield 220, 3) := by decide +kernel
theorem dX9_fly_88 : decode cX9_fly 88 = .ok (.iastore, 1) := by decide +kernel
theorem dX9_fly_89 : decode cX9_fly 89 = .ok (.aload_n 0, 1) := by decide +kernel
theorem dX9_fly_90 : decode cX9_fly 90 = .ok (.getfield 88, 3) := by decide +kernel
theorem dX9_fly_93 : decode cX9_fly 93 = .ok (.bipush 6, 2) := by decide +kernel
theorem dX9_fly_95 : decode cX9_fly 95 = .ok (.aload_n 0, 1) := by decide +kernel
theorem dX9_fly_96 : decode cX9_fly 96 = .ok (.getfield 194, 3) := by decide +kernel
theorem dX9_fly_99 : decode cX9_fly 99 = .ok (.iastore, 1) := by decide +kernel
theorem dX9_fly_100 : decode cX9_fly 100 = .ok (.aload_n 0, 1) := by decide +kernel
theorem dX9_fly_101 : decode cX9_fly 101 = .ok (.iconst 1, 1) := by decide +kernel
theorem dX9_fly_102 : decode cX9_fly 102 = .ok (.putfield 240, 3) := by decide +kernel
theorem dX9_fly_105 : decode cX9_fly 105 = .ok (.iload_n 1, 1) := by decide +kernel
theorem dX9_fly_106 : decode cX9_fly 106 = .ok (.ireturn, 1) := by decide +kernel
theorem dX9_flown_0 : decode cX9_flown 0 = .ok (.aload_n 0, 1) := by decide +kernel
theorem dX9_flown_1 : decode cX9_flown 1 = .ok (.getfield 240, 3) := by decide +kernel
theorem dX9_flown_4 : decode cX9_flown 4 = .ok (.ifCond .eq 24, 3) := by decide +kernel
theorem dX9_flown_7 : decode cX9_flown 7 = .ok (.iload_n 1, 1) := by decide +kernel
theorem dX9_flown_8 : decode cX9_flown 8 = .ok (.i2l, 1) := by decide +kernel
theorem dX9_flown_9 : decode cX9_flown 9 = .ok (.lconst 0, 1) := by decide +kernel
theorem dX9_flown_10 : decode cX9_flown 10 = .ok (.ldc2_w 244, 3) := by decide +kernel
theorem dX9_flown_13 : decode cX9_flown 13 = .ok (.invokestatic 115, 3) := by decide +kernel
theorem dX9_flown_16 : decode cX9_flown 16 = .ok (.ifCond .eq 12, 3) := by decide +kernel
theorem dX9_flown_19 : decode cX9_flown 19 = .ok (.aload_n 0, 1) := by decide +kernel
theorem dX9_flown_20 : decode cX9_flown 20 = .ok (.getfield 88, 3) := by decide +kernel
theorem dX9_flown_23 : decode cX9_flown 23 = .ok (.iload_n 1, 1) := by decide +kernel
theorem dX9_flown_24 : decode cX9_flown 24 = .ok (.iaload, 1) := by decide +kernel
theorem dX9_flown_25 : decode cX9_flown 25 = .ok (.goto 4, 3) := by decide +kernel
theorem dX9_flown_28 : decode cX9_flown 28 = .ok (.iconst (-1), 1) := by decide +kernel
theorem dX9_flown_29 : decode cX9_flown 29 = .ok (.ireturn, 1) := by decide +kernel
theorem dX9_out_0 : decode cX9_out 0 = .ok (.iload_n 1, 1) := by decide +kernel
theorem dX9_out_1 : decode cX9_out 1 = .ok (.i2l, 1) := by decide +kernel
theorem dX9_out_2 : decode cX9_out 2 = .ok (.lconst 0, 1) := by decide +kernel
theorem dX9_out_3 : decode cX9_out 3 = .ok (.ldc2_w 246, 3) := by decide +kernel
theorem dX9_out_6 : decode cX9_out 6 = .ok (.invokestatic 115, 3) := by decide +kernel
theorem dX9_out_9 : decode cX9_out 9 = .ok (.ifCond .ne 6, 3) := by decide +kernel
theorem dX9_out_12 : decode cX9_out 12 = .ok (.bipush (-2), 2) := by decide +kernel
theorem dX9_out_14 : decode cX9_out 14 = .ok (.ireturn, 1) := by decide +kernel
theorem dX9_out_15 : decode cX9_out 15 = .ok (.aload_n 0, 1) := by decide +kernel
theorem dX9_out_16 : decode cX9_out 16 = .ok (.invokevirtual 234, 3) := by decide +kernel
theorem dX9_out_19 : decode cX9_out 19 = .ok (.ifCond .eq 11, 3) := by decide +kernel
theorem dX9_out_22 : decode cX9_out 22 = .ok (.aload_n 0, 1) := by decide +kernel
theorem dX9_out_23 : decode cX9_out 23 = .ok (.iload_n 1, 1) := by decide +kernel
theorem dX9_out_24 : decode cX9_out 24 = .ok (.invokevirtual 237, 3) := by decide +kernel
theorem dX9_out_27 : decode cX9_out 27 = .ok (.goto 5, 3) := by decide +kernel
theorem dX9_out_30 : decode cX9_out 30 = .ok (.bipush (-3), 2) := by decide +kernel
theorem dX9_out_32 : decode cX9_out 32 = .ok (.ireturn, 1) := by decide +kernel
theorem dX9_safe_0 : decode cX9_safe 0 = .ok (.aload_n 0, 1) := by decide +kernel
theorem dX9_safe_1 : decode cX9_safe 1 = .ok (.invokevirtual 234, 3) := by decide +kernel
theorem dX9_safe_4 : decode cX9_safe 4 = .ok (.ifCond .ne 6, 3) := by decide +kernel
theorem dX9_safe_7 : decode cX9_safe 7 = .ok (.bipush (-3), 2) := by decide +kernel
theorem dX9_safe_9 : decode cX9_safe 9 = .ok (.ireturn, 1) := by decide +kernel
theorem dX9_safe_10 : decode cX9_safe 10 = .ok (.aload_n 0, 1) := by decide +kernel
theorem dX9_safe_11 : decode cX9_safe 11 = .ok (.iconst (-1), 1) := by decide +kernel
theorem dX9_safe_12 : decode cX9_safe 12 = .ok (.invokevirtual 237, 3) := by decide +kernel
theorem dX9_safe_15 : decode cX9_safe 15 = .ok (.istore_n 1, 1) := by decide +kernel
theorem dX9_safe_16 : decode cX9_safe 16 = .ok (.aload_n 0, 1) := by decide +kernel
theorem dX9_safe_17 : decode cX9_safe 17 = .ok (.getfield 211, 3) := by decide +kernel
theorem dX9_safe_20 : decode cX9_safe 20 = .ok (.istore_n 2, 1) := by decide +kernel
theorem dX9_safe_21 : decode cX9_safe 21 = .ok (.iconst 0, 1) := by decide +kernel
theorem dX9_safe_22 : decode cX9_safe 22 = .ok (.istore_n 3, 1) := by decide +kernel
theorem dX9_safe_23 : decode cX9_safe 23 = .ok (.iconst 0, 1) := by decide +kernel
theorem dX9_safe_24 : decode cX9_safe 24 = .ok (.istore 4, 2) := by decide +kernel
theorem dX9_safe_26 : decode cX9_safe 26 = .ok (.iload 4, 2) := by decide +kernel
theorem dX9_safe_28 : decode cX9_safe 28 = .ok (.iload_n 2, 1) := by decide +kernel
theorem dX9_safe_29 : decode cX9_safe 29 = .ok (.if_icmp .ge 26, 3) := by decide +kernel
theorem dX9_safe_32 : decode cX9_safe 32 = .ok (.iload_n 3, 1) := by decide +kernel
theorem dX9_safe_33 : decode cX9_safe 33 = .ok (.aload_n 0, 1) := by decide +kernel
theorem dX9_safe_34 : decode cX9_safe 34 = .ok (.iload 4, 2) := by decide +kernel
theorem dX9_safe_36 : decode cX9_safe 36 = .ok (.invokevirtual 237, 3) := by decide +kernel
theorem dX9_safe_39 : decode cX9_safe 39 = .ok (.ifCond .ne 7, 3) := by decide +kernel
theorem dX9_safe_42 : decode cX9_safe 42 = .ok (.iconst 1, 1) := by decide +kernel
theorem dX9_safe_43 : decode cX9_safe 43 = .ok (.goto 4, 3) := by decide +kernel
theorem dX9_safe_46 : decode cX9_safe 46 = .ok (.iconst 0, 1) := by decide +kernel
theorem dX9_safe_47 : decode cX9_safe 47 = .ok (.iadd, 1) := by decide +kernel
theorem dX9_safe_48 : decode cX9_safe 48 = .ok (.istore_n 3, 1) := by decide +kernel
theorem dX9_safe_49 : decode cX9_safe 49 = .ok (.iinc 4 1, 3) := by decide +kernel
theorem dX9_safe_52 : decode cX9_safe 52 = .ok (.goto (-26), 3) := by decide +kernel
theorem dX9_safe_55 : decode cX9_safe 55 = .ok (.iload_n 3, 1) := by decide +kernel
theorem dX9_safe_56 : decode cX9_safe 56 = .ok (.ireturn, 1) := by decide +kernel
theorem dX9_costOf_0 : decode cX9_costOf 0 = .ok (.aload_n 0, 1) := by decide +kernel
theorem dX9_costOf_1 : decode cX9_costOf 1 = .ok (.getfield 19, 3) := by decide +kernel
theorem dX9_costOf_4 : decode cX9_costOf 4 = .ok (.iload_n 1, 1) := by decide +kernel
theorem dX9_costOf_5 : decode cX9_costOf 5 = .ok (.iaload, 1) := by decide +kernel
theorem dX9_costOf_6 : decode cX9_costOf 6 = .ok (.istore_n 3, 1) := by decide +kernel
theorem dX9_costOf_7 : decode cX9_costOf 7 = .ok (.iconst 0, 1) := by decide +kernel
theorem dX9_costOf_8 : decode cX9_costOf 8 = .ok (.istore 4, 2) := by decide +kernel
theorem dX9_costOf_10 : decode cX9_costOf 10 = .ok (.iload 4, 2) := by decide +kernel
theorem dX9_costOf_12 : decode cX9_costOf 12 = .ok (.iload_n 2, 1) := by decide +kernel
theorem dX9_costOf_13 : decode cX9_costOf 13 = .ok (.if_icmp .ge 23, 3) := by decide +kernel
theorem dX9_costOf_16 : decode cX9_costOf 16 = .ok (.iload_n 3, 1) := by decide +kernel
theorem dX9_costOf_17 : decode cX9_costOf 17 = .ok (.ifCond .le 19, 3) := by decide +kernel
theorem dX9_costOf_20 : decode cX9_costOf 20 = .ok (.iload_n 3, 1) := by decide +kernel
theorem dX9_costOf_21 : decode cX9_costOf 21 = .ok (.aload_n 0, 1) := by decide +kernel
theorem dX9_costOf_22 : decode cX9_costOf 22 = .ok (.getfield 53, 3) := by decide +kernel
theorem dX9_costOf_25 : decode cX9_costOf 25 = .ok (.imul, 1) := by decide +kernel
theorem dX9_costOf_26 : decode cX9_costOf 26 = .ok (.bipush 100, 2) := by decide +kernel
theorem dX9_costOf_28 : decode cX9_costOf 28 = .ok (.idiv, 1) := by decide +kernel
theorem dX9_costOf_29 : decode cX9_costOf 29 = .ok (.istore_n 3, 1) := by decide +kernel
theorem dX9_costOf_30 : decode cX9_costOf 30 = .ok (.iinc 4 1, 3) := by decide +kernel
theorem dX9_costOf_33 : decode cX9_costOf 33 = .ok (.goto (-23), 3) := by decide +kernel
theorem dX9_costOf_36 : decode cX9_costOf 36 = .ok (.iload_n 3, 1) := by decide +kernel
theorem dX9_costOf_37 : decode cX9_costOf 37 = .ok (.iconst 1, 1) := by decide +kernel
theorem dX9_costOf_38 : decode cX9_costOf 38 = .ok (.if_icmp .ge 7, 3) := by decide +kernel
theorem dX9_costOf_41 : decode cX9_costOf 41 = .ok (.iconst 1, 1) := by decide +kernel
theorem dX9_costOf_42 : decode cX9_costOf 42 = .ok (.goto 4, 3) := by decide +kernel
theorem dX9_costOf_45 : decode cX9_costOf 45 = .ok (.iload_n 3, 1) := by decide +kernel
theorem dX9_costOf_46 : decode cX9_costOf 46 = .ok (.ireturn, 1) := by decide +kernel
theorem dX9_cost_0 : decode cX9_cost 0 = .ok (.aload_n 0, 1) := by decide +kernel
theorem dX9_cost_1 : decode cX9_cost 1 = .ok (.iload_n 1, 1) := by decide +kernel
theorem dX9_cost_2 : decode cX9_cost 2 = .ok (.invokevirtual 123, 3) := by decide +kernel
theorem dX9_cost_5 : decode cX9_cost 5 = .ok (.ifCond .ne 5, 3) := by decide +kernel
theorem dX9_cost_8 : decode cX9_cost 8 = .ok (.iconst (-1), 1) := by decide +kernel
theorem dX9_cost_9 : decode cX9_cost 9 = .ok (.ireturn, 1) := by decide +kernel
theorem dX9_cost_10 : decode cX9_cost 10 = .ok (.iload_n 2, 1) := by decide +kernel
theorem dX9_cost_11 : decode cX9_cost 11 = .ok (.i2l, 1) := by decide +kernel
theorem dX9_cost_12 : decode cX9_cost 12 = .ok (.lconst 0, 1) := by decide +kernel
theorem dX9_cost_13 : decode cX9_cost 13 = .ok (.ldc2_w 113, 3) := by decide +kernel
theorem dX9_cost_16 : decode cX9_cost 16 = .ok (.invokestatic 115, 3) := by decide +kernel
theorem dX9_cost_19 : decode cX9_cost 19 = .ok (.ifCond .eq 12, 3) := by decide +kernel
theorem dX9_cost_22 : decode cX9_cost 22 = .ok (.aload_n 0, 1) := by decide +kernel
theorem dX9_cost_23 : decode cX9_cost 23 = .ok (.iload_n 1, 1) := by decide +kernel
theorem dX9_cost_24 : decode cX9_cost 24 = .ok (.iload_n 2, 1) := by decide +kernel
theorem dX9_cost_25 : decode cX9_cost 25 = .ok (.invokevirtual 248, 3) := by decide +kernel
theorem dX9_cost_28 : decode cX9_cost 28 = .ok (.goto 5, 3) := by decide +kernel
theorem dX9_cost_31 : decode cX9_cost 31 = .ok (.bipush (-2), 2) := by decide +kernel
theorem dX9_cost_33 : decode cX9_cost 33 = .ok (.ireturn, 1) := by decide +kernel
theorem dX9_costs_0 : decode cX9_costs 0 = .ok (.iconst 0, 1) := by decide +kernel
theorem dX9_costs_1 : decode cX9_costs 1 = .ok (.istore_n 1, 1) := by decide +kernel
theorem dX9_costs_2 : decode cX9_costs 2 = .ok (.iconst 0, 1) := by decide +kernel
theorem dX9_costs_3 : decode cX9_costs 3 = .ok (.istore_n 2, 1) := by decide +kernel
theorem dX9_costs_4 : decode cX9_costs 4 = .ok (.iload_n 2, 1) := by decide +kernel
theorem dX9_costs_5 : decode cX9_costs 5 = .ok (.bipush 6, 2) := by decide +kernel
theorem dX9_costs_7 : decode cX9_costs 7 = .ok (.if_icmp .ge 16, 3) := by decide +kernel
theorem dX9_costs_10 : decode cX9_costs 10 = .ok (.aload_n 0, 1) := by decide +kernel
theorem dX9_costs_11 : decode cX9_costs 11 = .ok (.getfield 91, 3) := by decide +kernel
theorem dX9_costs_14 : decode cX9_costs 14 = .ok (.iload_n 2, 1) := by decide +kernel
theorem dX9_costs_15 : decode cX9_costs 15 = .ok (.iconst 0, 1) := by decide +kernel
theorem dX9_costs_16 : decode cX9_costs 16 = .ok (.iastore, 1) := by decide +kernel
theorem dX9_costs_17 : decode cX9_costs 17 = .ok (.iinc 2 1, 3) := by decide +kernel
theorem dX9_costs_20 : decode cX9_costs 20 = .ok (.goto (-16), 3) := by decide +kernel
theorem dX9_costs_23 : decode cX9_costs 23 = .ok (.iconst 0, 1) := by decide +kernel
theorem dX9_costs_24 : decode cX9_costs 24 = .ok (.istore_n 2, 1) := by decide +kernel
theorem dX9_costs_25 : decode cX9_costs 25 = .ok (.iload_n 2, 1) := by decide +kernel
theorem dX9_costs_26 : decode cX9_costs 26 = .ok (.aload_n 0, 1) := by decide +kernel
theorem dX9_costs_27 : decode cX9_costs 27 = .ok (.getfield 110, 3) := by decide +kernel
theorem dX9_costs_30 : decode cX9_costs 30 = .ok (.if_icmp .ge 56, 3) := by decide +kernel
theorem dX9_costs_33 : decode cX9_costs 33 = .ok (.aload_n 0, 1) := by decide +kernel
theorem dX9_costs_34 : decode cX9_costs 34 = .ok (.getfield 91, 3) := by decide +kernel
theorem dX9_costs_37 : decode cX9_costs 37 = .ok (.aload_n 0, 1) := by decide +kernel
theorem dX9_costs_38 : decode cX9_costs 38 = .ok (.getfield 28, 3) := by decide +kernel
theorem dX9_costs_41 : decode cX9_costs 41 = .ok (.iload_n 2, 1) := by decide +kernel
theorem dX9_costs_42 : decode cX9_costs 42 = .ok (.iaload, 1) := by decide +kernel
theorem dX9_costs_43 : decode cX9_costs 43 = .ok (.dup2, 1) := by decide +kernel
theorem dX9_costs_44 : decode cX9_costs 44 = .ok (.iaload, 1) := by decide +kernel
theorem dX9_costs_45 : decode cX9_costs 45 = .ok (.aload_n 0, 1) := by decide +kernel
theorem dX9_costs_46 : decode cX9_costs 46 = .ok (.getfield 31, 3) := by decide +kernel
theorem dX9_costs_49 : decode cX9_costs 49 = .ok (.iload_n 2, 1) := by decide +kernel
theorem dX9_costs_50 : decode cX9_costs 50 = .ok (.iaload, 1) := by decide +kernel
theorem dX9_costs_51 : decode cX9_costs 51 = .ok (.iadd, 1) := by decide +kernel
theorem dX9_costs_52 : decode cX9_costs 52 = .ok (.iastore, 1) := by decide +kernel
theorem dX9_costs_53 : decode cX9_costs 53 = .ok (.iload_n 1, 1) := by decide +kernel
theorem dX9_costs_54 : decode cX9_costs 54 = .ok (.aload_n 0, 1) := by decide +kernel
theorem dX9_costs_55 : decode cX9_costs 55 = .ok (.getfield 37, 3) := by decide +kernel
theorem dX9_costs_58 : decode cX9_costs 58 = .ok (.iload_n 2, 1) := by decide +kernel
theorem dX9_costs_59 : decode cX9_costs 59 = .ok (.iaload, 1) := by decide +kernel
theorem dX9_costs_60 : decode cX9_costs 60 = .ok (.aload_n 0, 1) := by decide +kernel
theorem dX9_costs_61 : decode cX9_costs 61 = .ok (.getfield 34, 3) := by decide +kernel
theorem dX9_costs_64 : decode cX9_costs 64 = .ok (.iload_n 2, 1) := by decide +kernel
theorem dX9_costs_65 : decode cX9_costs 65 = .ok (.iaload, 1) := by decide +kernel
theorem dX9_costs_66 : decode cX9_costs 66 = .ok (.ifCond .le 10, 3) := by decide +kernel
theorem dX9_costs_69 : decode cX9_costs 69 = .ok (.aload_n 0, 1) := by decide +kernel
theorem dX9_costs_70 : decode cX9_costs 70 = .ok (.getfield 50, 3) := by decide +kernel
theorem dX9_costs_73 : decode cX9_costs 73 = .ok (.goto 4, 3) := by decide +kernel
theorem dX9_costs_76 : decode cX9_costs 76 = .ok (.iconst 0, 1) := by decide +kernel
theorem dX9_costs_77 : decode cX9_costs 77 = .ok (.iadd, 1) := by decide +kernel
theorem dX9_costs_78 : decode cX9_costs 78 = .ok (.iadd, 1) := by decide +kernel
theorem dX9_costs_79 : decode cX9_costs 79 = .ok (.istore_n 1, 1) := by decide +kernel
theorem dX9_costs_80 : decode cX9_costs 80 = .ok (.iinc 2 1, 3) := by decide +kernel
theorem dX9_costs_83 : decode cX9_costs 83 = .ok (.goto (-58), 3) := by decide +kernel
theorem dX9_costs_86 : decode cX9_costs 86 = .ok (.iconst 0, 1) := by decide +kernel
theorem dX9_costs_87 : decode cX9_costs 87 = .ok (.istore_n 2, 1) := by decide +kernel
theorem dX9_costs_88 : decode cX9_costs 88 = .ok (.iload_n 2, 1) := by decide +kernel
theorem dX9_costs_89 : decode cX9_costs 89 = .ok (.aload_n 0, 1) := by decide +kernel
theorem dX9_costs_90 : decode cX9_costs 90 = .ok (.getfield 107, 3) := by decide +kernel
theorem dX9_costs_93 : decode cX9_costs 93 = .ok (.if_icmp .ge 55, 3) := by decide +kernel
theorem dX9_costs_96 : decode cX9_costs 96 = .ok (.aload_n 0, 1) := by decide +kernel
theorem dX9_costs_97 : decode cX9_costs 97 = .ok (.getfield 91, 3) := by decide +kernel
theorem dX9_costs_100 : decode cX9_costs 100 = .ok (.iload_n 2, 1) := by decide +kernel
theorem dX9_costs_101 : decode cX9_costs 101 = .ok (.iaload, 1) := by decide +kernel
theorem dX9_costs_102 : decode cX9_costs 102 = .ok (.aload_n 0, 1) := by decide +kernel
theorem dX9_costs_103 : decode cX9_costs 103 = .ok (.getfield 22, 3) := by decide +kernel
theorem dX9_costs_106 : decode cX9_costs 106 = .ok (.iload_n 2, 1) := by decide +kernel
theorem dX9_costs_107 : decode cX9_costs 107 = .ok (.iaload, 1) := by decide +kernel
theorem dX9_costs_108 : decode cX9_costs 108 = .ok (.isub, 1) := by decide +kernel
theorem dX9_costs_109 : decode cX9_costs 109 = .ok (.istore_n 3, 1) := by decide +kernel
theorem dX9_costs_110 : decode cX9_costs 110 = .ok (.iconst 0, 1) := by decide +kernel
theorem dX9_costs_111 : decode cX9_costs 111 = .ok (.istore 4, 2) := by decide +kernel
theorem dX9_costs_113 : decode cX9_costs 113 = .ok (.iload 4, 2) := by decide +kernel
theorem dX9_costs_115 : decode cX9_costs 115 = .ok (.iload_n 3, 1) := by decide +kernel
theorem dX9_costs_116 : decode cX9_costs 116 = .ok (.if_icmp .ge 26, 3) := by decide +kernel
theorem dX9_costs_119 : decode cX9_costs 119 = .ok (.iload_n 1, 1) := by decide +kernel
theorem dX9_costs_120 : decode cX9_costs 120 = .ok (.aload_n 0, 1) := by decide +kernel
theorem dX9_costs_121 : decode cX9_costs 121 = .ok (.iload_n 2, 1) := by decide +kernel
theorem dX9_costs_122 : decode cX9_costs 122 = .ok (.aload_n 0, 1) := by decide +kernel
theorem dX9_costs_123 : decode cX9_costs 123 = .ok (.getfield 25, 3) := by decide +kernel
theorem dX9_costs_126 : decode cX9_costs 126 = .ok (.iload_n 2, 1) := by decide +kernel
theorem dX9_costs_127 : decode cX9_costs 127 = .ok (.iaload, 1) := by decide +kernel
theorem dX9_costs_128 : decode cX9_costs 128 = .ok (.iload 4, 2) := by decide +kernel
theorem dX9_costs_130 : decode cX9_costs 130 = .ok (.iadd, 1) := by decide +kernel
theorem dX9_costs_131 : decode cX9_costs 131 = .ok (.invokevirtual 248, 3) := by decide +kernel
theorem dX9_costs_134 : decode cX9_costs 134 = .ok (.iadd, 1) := by decide +kernel
theorem dX9_costs_135 : decode cX9_costs 135 = .ok (.istore_n 1, 1) := by decide +kernel
theorem dX9_costs_136 : decode cX9_costs 136 = .ok (.iinc 4 1, 3) := by decide +kernel
theorem dX9_costs_139 : decode cX9_costs 139 = .ok (.goto (-26), 3) := by decide +kernel
theorem dX9_costs_142 : decode cX9_costs 142 = .ok (.iinc 2 1, 3) := by decide +kernel
theorem dX9_costs_145 : decode cX9_costs 145 = .ok (.goto (-57), 3) := by decide +kernel
theorem dX9_costs_148 : decode cX9_costs 148 = .ok (.iload_n 1, 1) := by decide +kernel
theorem dX9_costs_149 : decode cX9_costs 149 = .ok (.ireturn, 1) := by decide +kernel
theorem dX9_price_0 : decode cX9_price 0 = .ok (.aload_n 0, 1) := by decide +kernel
theorem dX9_price_1 : decode cX9_price 1 = .ok (.getfield 110, 3) := by decide +kernel
theorem dX9_price_4 : decode cX9_price 4 = .ok (.ifCond .ne 8, 3) := by decide +kernel
theorem dX9_price_7 : decode cX9_price 7 = .ok (.bipush (-3), 2) := by decide +kernel
theorem dX9_price_9 : decode cX9_price 9 = .ok (.goto 7, 3) := by decide +kernel
theorem dX9_price_12 : decode cX9_price 12 = .ok (.aload_n 0, 1) := by decide +kernel
theorem dX9_price_13 : decode cX9_price 13 = .ok (.invokevirtual 252, 3) := by decide +kernel
theorem dX9_price_16 : decode cX9_price 16 = .ok (.ireturn, 1) := by decide +kernel
theorem dX9_buy_0 : decode cX9_buy 0 = .ok (.aload_n 0, 1) := by decide +kernel
theorem dX9_buy_1 : decode cX9_buy 1 = .ok (.getfield 110, 3) := by decide +kernel
theorem dX9_buy_4 : decode cX9_buy 4 = .ok (.ifCond .ne 6, 3) := by decide +kernel
theorem dX9_buy_7 : decode cX9_buy 7 = .ok (.bipush (-3), 2) := by decide +kernel
theorem dX9_buy_9 : decode cX9_buy 9 = .ok (.ireturn, 1) := by decide +kernel
theorem dX9_buy_10 : decode cX9_buy 10 = .ok (.aload_n 0, 1) := by decide +kernel
theorem dX9_buy_11 : decode cX9_buy 11 = .ok (.invokevirtual 252, 3) := by decide +kernel
theorem dX9_buy_14 : decode cX9_buy 14 = .ok (.istore_n 1, 1) := by decide +kernel
theorem dX9_buy_15 : decode cX9_buy 15 = .ok (.iconst 0, 1) := by decide +kernel
theorem dX9_buy_16 : decode cX9_buy 16 = .ok (.istore_n 2, 1) := by decide +kernel
theorem dX9_buy_17 : decode cX9_buy 17 = .ok (.iload_n 2, 1) := by decide +kernel
theorem dX9_buy_18 : decode cX9_buy 18 = .ok (.aload_n 0, 1) := by decide +kernel
theorem dX9_buy_19 : decode cX9_buy 19 = .ok (.getfield 107, 3) := by decide +kernel
theorem dX9_buy_22 : decode cX9_buy 22 = .ok (.if_icmp .ge 44, 3) := by decide +kernel
theorem dX9_buy_25 : decode cX9_buy 25 = .ok (.aload_n 0, 1) := by decide +kernel
theorem dX9_buy_26 : decode cX9_buy 26 = .ok (.getfield 91, 3) := by decide +kernel
theorem dX9_buy_29 : decode cX9_buy 29 = .ok (.iload_n 2, 1) := by decide +kernel
theorem dX9_buy_30 : decode cX9_buy 30 = .ok (.iaload, 1) := by decide +kernel
theorem dX9_buy_31 : decode cX9_buy 31 = .ok (.aload_n 0, 1) := by decide +kernel
theorem dX9_buy_32 : decode cX9_buy 32 = .ok (.getfield 22, 3) := by decide +kernel
theorem dX9_buy_35 : decode cX9_buy 35 = .ok (.iload_n 2, 1) := by decide +kernel
theorem dX9_buy_36 : decode cX9_buy 36 = .ok (.iaload, 1) := by decide +kernel
theorem dX9_buy_37 : decode cX9_buy 37 = .ok (.isub, 1) := by decide +kernel
theorem dX9_buy_38 : decode cX9_buy 38 = .ok (.istore_n 3, 1) := by decide +kernel
theorem dX9_buy_39 : decode cX9_buy 39 = .ok (.iload_n 3, 1) := by decide +kernel
theorem dX9_buy_40 : decode cX9_buy 40 = .ok (.ifCond .le 20, 3) := by decide +kernel
theorem dX9_buy_43 : decode cX9_buy 43 = .ok (.aload_n 0, 1) := by decide +kernel
theorem dX9_buy_44 : decode cX9_buy 44 = .ok (.getfield 25, 3) := by decide +kernel
theorem dX9_buy_47 : decode cX9_buy 47 = .ok (.iload_n 2, 1) := by decide +kernel
theorem dX9_buy_48 : decode cX9_buy 48 = .ok (.iaload, 1) := by decide +kernel
theorem dX9_buy_49 : decode cX9_buy 49 = .ok (.iload_n 3, 1) := by decide +kernel
theorem dX9_buy_50 : decode cX9_buy 50 = .ok (.iadd, 1) := by decide +kernel
theorem dX9_buy_51 : decode cX9_buy 51 = .ok (.sipush 900, 3) := by decide +kernel
theorem dX9_buy_54 : decode cX9_buy 54 = .ok (.if_icmp .le 6, 3) := by decide +kernel
theorem dX9_buy_57 : decode cX9_buy 57 = .ok (.bipush (-4), 2) := by decide +kernel
theorem dX9_buy_59 : decode cX9_buy 59 = .ok (.ireturn, 1) := by decide +kernel
theorem dX9_buy_60 : decode cX9_buy 60 = .ok (.iinc 2 1, 3) := by decide +kernel
theorem dX9_buy_63 : decode cX9_buy 63 = .ok (.goto (-46), 3) := by decide +kernel
theorem dX9_buy_66 : decode cX9_buy 66 = .ok (.iconst 0, 1) := by decide +kernel
theorem dX9_buy_67 : decode cX9_buy 67 = .ok (.istore_n 2, 1) := by decide +kernel
theorem dX9_buy_68 : decode cX9_buy 68 = .ok (.iload_n 2, 1) := by decide +kernel
theorem dX9_buy_69 : decode cX9_buy 69 = .ok (.aload_n 0, 1) := by decide +kernel
theorem dX9_buy_70 : decode cX9_buy 70 = .ok (.getfield 107, 3) := by decide +kernel
theorem dX9_buy_73 : decode cX9_buy 73 = .ok (.if_icmp .ge 57, 3) := by decide +kernel
theorem dX9_buy_76 : decode cX9_buy 76 = .ok (.aload_n 0, 1) := by decide +kernel
theorem dX9_buy_77 : decode cX9_buy 77 = .ok (.getfield 91, 3) := by decide +kernel
theorem dX9_buy_80 : decode cX9_buy 80 = .ok (.iload_n 2, 1) := by decide +kernel
theorem dX9_buy_81 : decode cX9_buy 81 = .ok (.iaload, 1) := by decide +kernel
theorem dX9_buy_82 : decode cX9_buy 82 = .ok (.aload_n 0, 1) := by decide +kernel
theorem dX9_buy_83 : decode cX9_buy 83 = .ok (.getfield 22, 3) := by decide +kernel
theorem dX9_buy_86 : decode cX9_buy 86 = .ok (.iload_n 2, 1) := by decide +kernel
theorem dX9_buy_87 : decode cX9_buy 87 = .ok (.iaload, 1) := by decide +kernel
theorem dX9_buy_88 : decode cX9_buy 88 = .ok (.isub, 1) := by decide +kernel
theorem dX9_buy_89 : decode cX9_buy 89 = .ok (.istore_n 3, 1) := by decide +kernel
theorem dX9_buy_90 : decode cX9_buy 90 = .ok (.aload_n 0, 1) := by decide +kernel
theorem dX9_buy_91 : decode cX9_buy 91 = .ok (.getfield 25, 3) := by decide +kernel
theorem dX9_buy_94 : decode cX9_buy 94 = .ok (.iload_n 2, 1) := by decide +kernel
theorem dX9_buy_95 : decode cX9_buy 95 = .ok (.dup2, 1) := by decide +kernel
theorem dX9_buy_96 : decode cX9_buy 96 = .ok (.iaload, 1) := by decide +kernel
theorem dX9_buy_97 : decode cX9_buy 97 = .ok (.iload_n 3, 1) := by decide +kernel
theorem dX9_buy_98 : decode cX9_buy 98 = .ok (.ifCond .le 7, 3) := by decide +kernel
theorem dX9_buy_101 : decode cX9_buy 101 = .ok (.iload_n 3, 1) := by decide +kernel
theorem dX9_buy_102 : decode cX9_buy 102 = .ok (.goto 4, 3) := by decide +kernel
theorem dX9_buy_105 : decode cX9_buy 105 = .ok (.iconst 0, 1) := by decide +kernel
theorem dX9_buy_106 : decode cX9_buy 106 = .ok (.iadd, 1) := by decide +kernel
theorem dX9_buy_107 : decode cX9_buy 107 = .ok (.iastore, 1) := by decide +kernel
theorem dX9_buy_108 : decode cX9_buy 108 = .ok (.aload_n 0, 1) := by decide +kernel
theorem dX9_buy_109 : decode cX9_buy 109 = .ok (.getfield 22, 3) := by decide +kernel
theorem dX9_buy_112 : decode cX9_buy 112 = .ok (.iload_n 2, 1) := by decide +kernel
theorem dX9_buy_113 : decode cX9_buy 113 = .ok (.iload_n 3, 1) := by decide +kernel
theorem dX9_buy_114 : decode cX9_buy 114 = .ok (.ifCond .le 7, 3) := by decide +kernel
theorem dX9_buy_117 : decode cX9_buy 117 = .ok (.iconst 0, 1) := by decide +kernel
theorem dX9_buy_118 : decode cX9_buy 118 = .ok (.goto 5, 3) := by decide +kernel
theorem dX9_buy_121 : decode cX9_buy 121 = .ok (.iload_n 3, 1) := by decide +kernel
theorem dX9_buy_122 : decode cX9_buy 122 = .ok (.ineg, 1) := by decide +kernel
theorem dX9_buy_123 : decode cX9_buy 123 = .ok (.iastore, 1) := by decide +kernel
theorem dX9_buy_124 : decode cX9_buy 124 = .ok (.iinc 2 1, 3) := by decide +kernel
theorem dX9_buy_127 : decode cX9_buy 127 = .ok (.goto (-59), 3) := by decide +kernel
theorem dX9_buy_130 : decode cX9_buy 130 = .ok (.iload_n 1, 1) := by decide +kernel
theorem dX9_buy_131 : decode cX9_buy 131 = .ok (.ireturn, 1) := by decide +kernel
theorem dX9_keeping_0 : decode cX9_keeping 0 = .ok (.aload_n 0, 1) := by decide +kernel
theorem dX9_keeping_1 : decode cX9_keeping 1 = .ok (.iload_n 1, 1) := by decide +kernel
theorem dX9_keeping_2 : decode cX9_keeping 2 = .ok (.invokevirtual 131, 3) := by decide +kernel
theorem dX9_keeping_5 : decode cX9_keeping 5 = .ok (.ifCond .ne 5, 3) := by decide +kernel
theorem dX9_keeping_8 : decode cX9_keeping 8 = .ok (.iconst (-1), 1) := by decide +kernel
theorem dX9_keeping_9 : decode cX9_keeping 9 = .ok (.ireturn, 1) := by decide +kernel
theorem dX9_keeping_10 : decode cX9_keeping 10 = .ok (.iload_n 2, 1) := by decide +kernel
theorem dX9_keeping_11 : decode cX9_keeping 11 = .ok (.i2l, 1) := by decide +kernel
theorem dX9_keeping_12 : decode cX9_keeping 12 = .ok (.lconst 0, 1) := by decide +kernel
theorem dX9_keeping_13 : decode cX9_keeping 13 = .ok (.ldc2_w 138, 3) := by decide +kernel
theorem dX9_keeping_16 : decode cX9_keeping 16 = .ok (.invokestatic 115, 3) := by decide +kernel
theorem dX9_keeping_19 : decode cX9_keeping 19 = .ok (.ifCond .eq 13, 3) := by decide +kernel
theorem dX9_keeping_22 : decode cX9_keeping 22 = .ok (.iload_n 2, 1) := by decide +kernel
theorem dX9_keeping_23 : decode cX9_keeping 23 = .ok (.aload_n 0, 1) := by decide +kernel
theorem dX9_keeping_24 : decode cX9_keeping 24 = .ok (.getfield 34, 3) := by decide +kernel
theorem dX9_keeping_27 : decode cX9_keeping 27 = .ok (.iload_n 1, 1) := by decide +kernel
theorem dX9_keeping_28 : decode cX9_keeping 28 = .ok (.iaload, 1) := by decide +kernel
theorem dX9_keeping_29 : decode cX9_keeping 29 = .ok (.if_icmp .le 6, 3) := by decide +kernel
theorem dX9_keeping_32 : decode cX9_keeping 32 = .ok (.bipush (-2), 2) := by decide +kernel
theorem dX9_keeping_34 : decode cX9_keeping 34 = .ok (.ireturn, 1) := by decide +kernel
theorem dX9_keeping_35 : decode cX9_keeping 35 = .ok (.aload_n 0, 1) := by decide +kernel
theorem dX9_keeping_36 : decode cX9_keeping 36 = .ok (.getfield 13, 3) := by decide +kernel
theorem dX9_keeping_39 : decode cX9_keeping 39 = .ok (.aload_n 0, 1) := by decide +kernel
theorem dX9_keeping_40 : decode cX9_keeping 40 = .ok (.getfield 28, 3) := by decide +kernel
theorem dX9_keeping_43 : decode cX9_keeping 43 = .ok (.iload_n 1, 1) := by decide +kernel
theorem dX9_keeping_44 : decode cX9_keeping 44 = .ok (.iaload, 1) := by decide +kernel
theorem dX9_keeping_45 : decode cX9_keeping 45 = .ok (.iaload, 1) := by decide +kernel
theorem dX9_keeping_46 : decode cX9_keeping 46 = .ok (.aload_n 0, 1) := by decide +kernel
theorem dX9_keeping_47 : decode cX9_keeping 47 = .ok (.iload_n 1, 1) := by decide +kernel
theorem dX9_keeping_48 : decode cX9_keeping 48 = .ok (.invokevirtual 150, 3) := by decide +kernel
theorem dX9_keeping_51 : decode cX9_keeping 51 = .ok (.aload_n 0, 1) := by decide +kernel
theorem dX9_keeping_52 : decode cX9_keeping 52 = .ok (.getfield 34, 3) := by decide +kernel
theorem dX9_keeping_55 : decode cX9_keeping 55 = .ok (.iload_n 1, 1) := by decide +kernel
theorem dX9_keeping_56 : decode cX9_keeping 56 = .ok (.iaload, 1) := by decide +kernel
theorem dX9_keeping_57 : decode cX9_keeping 57 = .ok (.iload_n 2, 1) := by decide +kernel
theorem dX9_keeping_58 : decode cX9_keeping 58 = .ok (.isub, 1) := by decide +kernel
theorem dX9_keeping_59 : decode cX9_keeping 59 = .ok (.invokestatic 153, 3) := by decide +kernel
theorem dX9_keeping_62 : decode cX9_keeping 62 = .ok (.l2i, 1) := by decide +kernel
theorem dX9_keeping_63 : decode cX9_keeping 63 = .ok (.ireturn, 1) := by decide +kernel
theorem dX9_even_0 : decode cX9_even 0 = .ok (.aload_n 0, 1) := by decide +kernel
theorem dX9_even_1 : decode cX9_even 1 = .ok (.iload_n 1, 1) := by decide +kernel
theorem dX9_even_2 : decode cX9_even 2 = .ok (.invokevirtual 131, 3) := by decide +kernel
theorem dX9_even_5 : decode cX9_even 5 = .ok (.ifCond .ne 5, 3) := by decide +kernel
theorem dX9_even_8 : decode cX9_even 8 = .ok (.iconst (-1), 1) := by decide +kernel
theorem dX9_even_9 : decode cX9_even 9 = .ok (.ireturn, 1) := by decide +kernel
theorem dX9_even_10 : decode cX9_even 10 = .ok (.iload_n 2, 1) := by decide +kernel
theorem dX9_even_11 : decode cX9_even 11 = .ok (.i2l, 1) := by decide +kernel
theorem dX9_even_12 : decode cX9_even 12 = .ok (.lconst 0, 1) := by decide +kernel
theorem dX9_even_13 : decode cX9_even 13 = .ok (.ldc2_w 255, 3) := by decide +kernel
theorem dX9_even_16 : decode cX9_even 16 = .ok (.invokestatic 115, 3) := by decide +kernel
theorem dX9_even_19 : decode cX9_even 19 = .ok (.ifCond .eq 15, 3) := by decide +kernel
theorem dX9_even_22 : decode cX9_even 22 = .ok (.iload_n 3, 1) := by decide +kernel
theorem dX9_even_23 : decode cX9_even 23 = .ok (.i2l, 1) := by decide +kernel
theorem dX9_even_24 : decode cX9_even 24 = .ok (.lconst 0, 1) := by decide +kernel
theorem dX9_even_25 : decode cX9_even 25 = .ok (.ldc2_w 257, 3) := by decide +kernel
theorem dX9_even_28 : decode cX9_even 28 = .ok (.invokestatic 115, 3) := by decide +kernel
theorem dX9_even_31 : decode cX9_even 31 = .ok (.ifCond .ne 6, 3) := by decide +kernel
theorem dX9_even_34 : decode cX9_even 34 = .ok (.bipush (-2), 2) := by decide +kernel
theorem dX9_even_36 : decode cX9_even 36 = .ok (.ireturn, 1) := by decide +kernel
theorem dX9_even_37 : decode cX9_even 37 = .ok (.aload_n 0, 1) := by decide +kernel
theorem dX9_even_38 : decode cX9_even 38 = .ok (.getfield 19, 3) := by decide +kernel
theorem dX9_even_41 : decode cX9_even 41 = .ok (.aload_n 0, 1) := by decide +kernel
theorem dX9_even_42 : decode cX9_even 42 = .ok (.getfield 28, 3) := by decide +kernel
theorem dX9_even_45 : decode cX9_even 45 = .ok (.iload_n 1, 1) := by decide +kernel
theorem dX9_even_46 : decode cX9_even 46 = .ok (.iaload, 1) := by decide +kernel
theorem dX9_even_47 : decode cX9_even 47 = .ok (.iaload, 1) := by decide +kernel
theorem dX9_even_48 : decode cX9_even 48 = .ok (.i2l, 1) := by decide +kernel
theorem dX9_even_49 : decode cX9_even 49 = .ok (.aload_n 0, 1) := by decide +kernel
theorem dX9_even_50 : decode cX9_even 50 = .ok (.getfield 31, 3) := by decide +kernel
theorem dX9_even_53 : decode cX9_even 53 = .ok (.iload_n 1, 1) := by decide +kernel
theorem dX9_even_54 : decode cX9_even 54 = .ok (.iaload, 1) := by decide +kernel
theorem dX9_even_55 : decode cX9_even 55 = .ok (.i2l, 1) := by decide +kernel
theorem dX9_even_56 : decode cX9_even 56 = .ok (.lmul, 1) := by decide +kernel
theorem dX9_even_57 : decode cX9_even 57 = .ok (.lstore 4, 2) := by decide +kernel
theorem dX9_even_59 : decode cX9_even 59 = .ok (.iconst 1, 1) := by decide +kernel
theorem dX9_even_60 : decode cX9_even 60 = .ok (.istore 6, 2) := by decide +kernel
theorem dX9_even_62 : decode cX9_even 62 = .ok (.iload 6, 2) := by decide +kernel
theorem dX9_even_64 : decode cX9_even 64 = .ok (.bipush 100, 2) := by decide +kernel
theorem dX9_even_66 : decode cX9_even 66 = .ok (.if_icmp .gt 50, 3) := by decide +kernel
theorem dX9_even_69 : decode cX9_even 69 = .ok (.ldc2_w 138, 3) := by decide +kernel
theorem dX9_even_72 : decode cX9_even 72 = .ok (.lload 4, 2) := by decide +kernel
theorem dX9_even_74 : decode cX9_even 74 = .ok (.lmul, 1) := by decide +kernel
theorem dX9_even_75 : decode cX9_even 75 = .ok (.ldc2_w 138, 3) := by decide +kernel
theorem dX9_even_78 : decode cX9_even 78 = .ok (.iload_n 3, 1) := by decide +kernel
theorem dX9_even_79 : decode cX9_even 79 = .ok (.i2l, 1) := by decide +kernel
theorem dX9_even_80 : decode cX9_even 80 = .ok (.lmul, 1) := by decide +kernel
theorem dX9_even_81 : decode cX9_even 81 = .ok (.ladd, 1) := by decide +kernel
theorem dX9_even_82 : decode cX9_even 82 = .ok (.iload 6, 2) := by decide +kernel
theorem dX9_even_84 : decode cX9_even 84 = .ok (.iconst 1, 1) := by decide +kernel
theorem dX9_even_85 : decode cX9_even 85 = .ok (.isub, 1) := by decide +kernel
theorem dX9_even_86 : decode cX9_even 86 = .ok (.iload_n 2, 1) := by decide +kernel
theorem dX9_even_87 : decode cX9_even 87 = .ok (.imul, 1) := by decide +kernel
theorem dX9_even_88 : decode cX9_even 88 = .ok (.i2l, 1) := by decide +kernel
theorem dX9_even_89 : decode cX9_even 89 = .ok (.lload 4, 2) := by decide +kernel
theorem dX9_even_91 : decode cX9_even 91 = .ok (.lmul, 1) := by decide +kernel
theorem dX9_even_92 : decode cX9_even 92 = .ok (.ladd, 1) := by decide +kernel
theorem dX9_even_93 : decode cX9_even 93 = .ok (.ldc2_w 138, 3) := by decide +kernel
theorem dX9_even_96 : decode cX9_even 96 = .ok (.iload 6, 2) := by decide +kernel
theorem dX9_even_98 : decode cX9_even 98 = .ok (.i2l, 1) := by decide +kernel
theorem dX9_even_99 : decode cX9_even 99 = .ok (.lmul, 1) := by decide +kernel
theorem dX9_even_100 : decode cX9_even 100 = .ok (.lload 4, 2) := by decide +kernel
theorem dX9_even_102 : decode cX9_even 102 = .ok (.lmul, 1) := by decide +kernel
theorem dX9_even_103 : decode cX9_even 103 = .ok (.lcmp, 1) := by decide +kernel
theorem dX9_even_104 : decode cX9_even 104 = .ok (.ifCond .ge 6, 3) := by decide +kernel
theorem dX9_even_107 : decode cX9_even 107 = .ok (.iload 6, 2) := by decide +kernel
theorem dX9_even_109 : decode cX9_even 109 = .ok (.ireturn, 1) := by decide +kernel
theorem dX9_even_110 : decode cX9_even 110 = .ok (.iinc 6 1, 3) := by decide +kernel
theorem dX9_even_113 : decode cX9_even 113 = .ok (.goto (-51), 3) := by decide +kernel
theorem dX9_even_116 : decode cX9_even 116 = .ok (.bipush (-5), 2) := by decide +kernel
theorem dX9_even_118 : decode cX9_even 118 = .ok (.ireturn, 1) := by decide +kernel
theorem dX9_flight_0 : decode cX9_flight 0 = .ok (.iload_n 1, 1) := by decide +kernel
theorem dX9_flight_1 : decode cX9_flight 1 = .ok (.i2l, 1) := by decide +kernel
