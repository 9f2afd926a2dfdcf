theorem dX9_mayBegin_287 : decode cX9_mayBegin 287 = .ok (.iconst 0, 1) := by decide +kernel
theorem dX9_mayBegin_288 : decode cX9_mayBegin 288 = .ok (.istore_n 3, 1) := by decide +kernel
theorem dX9_mayBegin_289 : decode cX9_mayBegin 289 = .ok (.aload_n 0, 1) := by decide +kernel
theorem dX9_mayBegin_290 : decode cX9_mayBegin 290 = .ok (.getfield 63, 3) := by decide +kernel
theorem dX9_mayBegin_293 : decode cX9_mayBegin 293 = .ok (.iload 4, 2) := by decide +kernel
theorem dX9_mayBegin_295 : decode cX9_mayBegin 295 = .ok (.iaload, 1) := by decide +kernel
theorem dX9_mayBegin_296 : decode cX9_mayBegin 296 = .ok (.iload_n 1, 1) := by decide +kernel
theorem dX9_mayBegin_297 : decode cX9_mayBegin 297 = .ok (.if_icmp .ne 71, 3) := by decide +kernel
theorem dX9_mayBegin_300 : decode cX9_mayBegin 300 = .ok (.aload_n 0, 1) := by decide +kernel
theorem dX9_mayBegin_301 : decode cX9_mayBegin 301 = .ok (.aload_n 0, 1) := by decide +kernel
theorem dX9_mayBegin_302 : decode cX9_mayBegin 302 = .ok (.getfield 60, 3) := by decide +kernel
theorem dX9_mayBegin_305 : decode cX9_mayBegin 305 = .ok (.iload 4, 2) := by decide +kernel
theorem dX9_mayBegin_307 : decode cX9_mayBegin 307 = .ok (.iaload, 1) := by decide +kernel
theorem dX9_mayBegin_308 : decode cX9_mayBegin 308 = .ok (.invokevirtual 193, 3) := by decide +kernel
theorem dX9_mayBegin_311 : decode cX9_mayBegin 311 = .ok (.ifCond .eq 57, 3) := by decide +kernel
theorem dX9_mayBegin_314 : decode cX9_mayBegin 314 = .ok (.aload_n 0, 1) := by decide +kernel
theorem dX9_mayBegin_315 : decode cX9_mayBegin 315 = .ok (.getfield 48, 3) := by decide +kernel
theorem dX9_mayBegin_318 : decode cX9_mayBegin 318 = .ok (.aload_n 0, 1) := by decide +kernel
theorem dX9_mayBegin_319 : decode cX9_mayBegin 319 = .ok (.getfield 60, 3) := by decide +kernel
theorem dX9_mayBegin_322 : decode cX9_mayBegin 322 = .ok (.iload 4, 2) := by decide +kernel
theorem dX9_mayBegin_324 : decode cX9_mayBegin 324 = .ok (.iaload, 1) := by decide +kernel
theorem dX9_mayBegin_325 : decode cX9_mayBegin 325 = .ok (.iaload, 1) := by decide +kernel
theorem dX9_mayBegin_326 : decode cX9_mayBegin 326 = .ok (.ifCond .eq 42, 3) := by decide +kernel
theorem dX9_mayBegin_329 : decode cX9_mayBegin 329 = .ok (.iload_n 3, 1) := by decide +kernel
theorem dX9_mayBegin_330 : decode cX9_mayBegin 330 = .ok (.ifCond .eq 36, 3) := by decide +kernel
theorem dX9_mayBegin_333 : decode cX9_mayBegin 333 = .ok (.iload_n 2, 1) := by decide +kernel
theorem dX9_mayBegin_334 : decode cX9_mayBegin 334 = .ok (.aload_n 0, 1) := by decide +kernel
theorem dX9_mayBegin_335 : decode cX9_mayBegin 335 = .ok (.getfield 51, 3) := by decide +kernel
theorem dX9_mayBegin_338 : decode cX9_mayBegin 338 = .ok (.aload_n 0, 1) := by decide +kernel
theorem dX9_mayBegin_339 : decode cX9_mayBegin 339 = .ok (.getfield 60, 3) := by decide +kernel
theorem dX9_mayBegin_342 : decode cX9_mayBegin 342 = .ok (.iload 4, 2) := by decide +kernel
theorem dX9_mayBegin_344 : decode cX9_mayBegin 344 = .ok (.iaload, 1) := by decide +kernel
theorem dX9_mayBegin_345 : decode cX9_mayBegin 345 = .ok (.iaload, 1) := by decide +kernel
theorem dX9_mayBegin_346 : decode cX9_mayBegin 346 = .ok (.aload_n 0, 1) := by decide +kernel
theorem dX9_mayBegin_347 : decode cX9_mayBegin 347 = .ok (.getfield 42, 3) := by decide +kernel
theorem dX9_mayBegin_350 : decode cX9_mayBegin 350 = .ok (.aload_n 0, 1) := by decide +kernel
theorem dX9_mayBegin_351 : decode cX9_mayBegin 351 = .ok (.getfield 60, 3) := by decide +kernel
theorem dX9_mayBegin_354 : decode cX9_mayBegin 354 = .ok (.iload 4, 2) := by decide +kernel
theorem dX9_mayBegin_356 : decode cX9_mayBegin 356 = .ok (.iaload, 1) := by decide +kernel
theorem dX9_mayBegin_357 : decode cX9_mayBegin 357 = .ok (.iaload, 1) := by decide +kernel
theorem dX9_mayBegin_358 : decode cX9_mayBegin 358 = .ok (.iadd, 1) := by decide +kernel
theorem dX9_mayBegin_359 : decode cX9_mayBegin 359 = .ok (.if_icmp .lt 7, 3) := by decide +kernel
theorem dX9_mayBegin_362 : decode cX9_mayBegin 362 = .ok (.iconst 1, 1) := by decide +kernel
theorem dX9_mayBegin_363 : decode cX9_mayBegin 363 = .ok (.goto 4, 3) := by decide +kernel
theorem dX9_mayBegin_366 : decode cX9_mayBegin 366 = .ok (.iconst 0, 1) := by decide +kernel
theorem dX9_mayBegin_367 : decode cX9_mayBegin 367 = .ok (.istore_n 3, 1) := by decide +kernel
theorem dX9_mayBegin_368 : decode cX9_mayBegin 368 = .ok (.iinc 4 1, 3) := by decide +kernel
theorem dX9_mayBegin_371 : decode cX9_mayBegin 371 = .ok (.goto (-178), 3) := by decide +kernel
theorem dX9_mayBegin_374 : decode cX9_mayBegin 374 = .ok (.iload_n 3, 1) := by decide +kernel
theorem dX9_mayBegin_375 : decode cX9_mayBegin 375 = .ok (.ireturn, 1) := by decide +kernel
theorem dX9_may_0 : decode cX9_may 0 = .ok (.aload_n 0, 1) := by decide +kernel
theorem dX9_may_1 : decode cX9_may 1 = .ok (.iconst 0, 1) := by decide +kernel
theorem dX9_may_2 : decode cX9_may 2 = .ok (.putfield 131, 3) := by decide +kernel
theorem dX9_may_5 : decode cX9_may 5 = .ok (.aload_n 0, 1) := by decide +kernel
theorem dX9_may_6 : decode cX9_may 6 = .ok (.iload_n 1, 1) := by decide +kernel
theorem dX9_may_7 : decode cX9_may 7 = .ok (.invokevirtual 193, 3) := by decide +kernel
theorem dX9_may_10 : decode cX9_may 10 = .ok (.ifCond .eq 20, 3) := by decide +kernel
theorem dX9_may_13 : decode cX9_may 13 = .ok (.aload_n 0, 1) := by decide +kernel
theorem dX9_may_14 : decode cX9_may 14 = .ok (.getfield 48, 3) := by decide +kernel
theorem dX9_may_17 : decode cX9_may 17 = .ok (.iload_n 1, 1) := by decide +kernel
theorem dX9_may_18 : decode cX9_may 18 = .ok (.iaload, 1) := by decide +kernel
theorem dX9_may_19 : decode cX9_may 19 = .ok (.iconst 2, 1) := by decide +kernel
theorem dX9_may_20 : decode cX9_may 20 = .ok (.if_icmp .eq 10, 3) := by decide +kernel
theorem dX9_may_23 : decode cX9_may 23 = .ok (.iload_n 2, 1) := by decide +kernel
theorem dX9_may_24 : decode cX9_may 24 = .ok (.invokestatic 151, 3) := by decide +kernel
theorem dX9_may_27 : decode cX9_may 27 = .ok (.ifCond .ne 5, 3) := by decide +kernel
theorem dX9_may_30 : decode cX9_may 30 = .ok (.iconst (-1), 1) := by decide +kernel
theorem dX9_may_31 : decode cX9_may 31 = .ok (.ireturn, 1) := by decide +kernel
theorem dX9_may_32 : decode cX9_may 32 = .ok (.aload_n 0, 1) := by decide +kernel
theorem dX9_may_33 : decode cX9_may 33 = .ok (.iload_n 1, 1) := by decide +kernel
theorem dX9_may_34 : decode cX9_may 34 = .ok (.iload_n 2, 1) := by decide +kernel
theorem dX9_may_35 : decode cX9_may 35 = .ok (.invokevirtual 220, 3) := by decide +kernel
theorem dX9_may_38 : decode cX9_may 38 = .ok (.ifCond .eq 7, 3) := by decide +kernel
theorem dX9_may_41 : decode cX9_may 41 = .ok (.iconst 1, 1) := by decide +kernel
theorem dX9_may_42 : decode cX9_may 42 = .ok (.goto 4, 3) := by decide +kernel
theorem dX9_may_45 : decode cX9_may 45 = .ok (.iconst 0, 1) := by decide +kernel
theorem dX9_may_46 : decode cX9_may 46 = .ok (.ireturn, 1) := by decide +kernel
theorem dX9_put_0 : decode cX9_put 0 = .ok (.aload_n 0, 1) := by decide +kernel
theorem dX9_put_1 : decode cX9_put 1 = .ok (.iconst 0, 1) := by decide +kernel
theorem dX9_put_2 : decode cX9_put 2 = .ok (.putfield 131, 3) := by decide +kernel
theorem dX9_put_5 : decode cX9_put 5 = .ok (.aload_n 0, 1) := by decide +kernel
theorem dX9_put_6 : decode cX9_put 6 = .ok (.iload_n 1, 1) := by decide +kernel
theorem dX9_put_7 : decode cX9_put 7 = .ok (.invokevirtual 193, 3) := by decide +kernel
theorem dX9_put_10 : decode cX9_put 10 = .ok (.ifCond .ne 10, 3) := by decide +kernel
theorem dX9_put_13 : decode cX9_put 13 = .ok (.aload_n 0, 1) := by decide +kernel
theorem dX9_put_14 : decode cX9_put 14 = .ok (.bipush (-2), 2) := by decide +kernel
theorem dX9_put_16 : decode cX9_put 16 = .ok (.invokevirtual 162, 3) := by decide +kernel
theorem dX9_put_19 : decode cX9_put 19 = .ok (.ireturn, 1) := by decide +kernel
theorem dX9_put_20 : decode cX9_put 20 = .ok (.aload_n 0, 1) := by decide +kernel
theorem dX9_put_21 : decode cX9_put 21 = .ok (.getfield 48, 3) := by decide +kernel
theorem dX9_put_24 : decode cX9_put 24 = .ok (.iload_n 1, 1) := by decide +kernel
theorem dX9_put_25 : decode cX9_put 25 = .ok (.iaload, 1) := by decide +kernel
theorem dX9_put_26 : decode cX9_put 26 = .ok (.iconst 2, 1) := by decide +kernel
theorem dX9_put_27 : decode cX9_put 27 = .ok (.if_icmp .ne 10, 3) := by decide +kernel
theorem dX9_put_30 : decode cX9_put 30 = .ok (.aload_n 0, 1) := by decide +kernel
theorem dX9_put_31 : decode cX9_put 31 = .ok (.bipush (-3), 2) := by decide +kernel
theorem dX9_put_33 : decode cX9_put 33 = .ok (.invokevirtual 162, 3) := by decide +kernel
theorem dX9_put_36 : decode cX9_put 36 = .ok (.ireturn, 1) := by decide +kernel
theorem dX9_put_37 : decode cX9_put 37 = .ok (.aload_n 0, 1) := by decide +kernel
theorem dX9_put_38 : decode cX9_put 38 = .ok (.iload_n 1, 1) := by decide +kernel
theorem dX9_put_39 : decode cX9_put 39 = .ok (.iload_n 2, 1) := by decide +kernel
theorem dX9_put_40 : decode cX9_put 40 = .ok (.invokevirtual 220, 3) := by decide +kernel
theorem dX9_put_43 : decode cX9_put 43 = .ok (.ifCond .ne 10, 3) := by decide +kernel
theorem dX9_put_46 : decode cX9_put 46 = .ok (.aload_n 0, 1) := by decide +kernel
theorem dX9_put_47 : decode cX9_put 47 = .ok (.bipush (-6), 2) := by decide +kernel
theorem dX9_put_49 : decode cX9_put 49 = .ok (.invokevirtual 162, 3) := by decide +kernel
theorem dX9_put_52 : decode cX9_put 52 = .ok (.ireturn, 1) := by decide +kernel
theorem dX9_put_53 : decode cX9_put 53 = .ok (.aload_n 0, 1) := by decide +kernel
theorem dX9_put_54 : decode cX9_put 54 = .ok (.getfield 48, 3) := by decide +kernel
theorem dX9_put_57 : decode cX9_put 57 = .ok (.iload_n 1, 1) := by decide +kernel
theorem dX9_put_58 : decode cX9_put 58 = .ok (.iconst 1, 1) := by decide +kernel
theorem dX9_put_59 : decode cX9_put 59 = .ok (.iastore, 1) := by decide +kernel
theorem dX9_put_60 : decode cX9_put 60 = .ok (.aload_n 0, 1) := by decide +kernel
theorem dX9_put_61 : decode cX9_put 61 = .ok (.getfield 51, 3) := by decide +kernel
theorem dX9_put_64 : decode cX9_put 64 = .ok (.iload_n 1, 1) := by decide +kernel
theorem dX9_put_65 : decode cX9_put 65 = .ok (.iload_n 2, 1) := by decide +kernel
theorem dX9_put_66 : decode cX9_put 66 = .ok (.iastore, 1) := by decide +kernel
theorem dX9_put_67 : decode cX9_put 67 = .ok (.aload_n 0, 1) := by decide +kernel
theorem dX9_put_68 : decode cX9_put 68 = .ok (.iconst 0, 1) := by decide +kernel
theorem dX9_put_69 : decode cX9_put 69 = .ok (.invokevirtual 162, 3) := by decide +kernel
theorem dX9_put_72 : decode cX9_put 72 = .ok (.ireturn, 1) := by decide +kernel
theorem dX9_costAt_0 : decode cX9_costAt 0 = .ok (.lconst 0, 1) := by decide +kernel
theorem dX9_costAt_1 : decode cX9_costAt 1 = .ok (.lstore 4, 2) := by decide +kernel
theorem dX9_costAt_3 : decode cX9_costAt 3 = .ok (.iconst 0, 1) := by decide +kernel
theorem dX9_costAt_4 : decode cX9_costAt 4 = .ok (.istore 6, 2) := by decide +kernel
theorem dX9_costAt_6 : decode cX9_costAt 6 = .ok (.iload 6, 2) := by decide +kernel
theorem dX9_costAt_8 : decode cX9_costAt 8 = .ok (.aload_n 0, 1) := by decide +kernel
theorem dX9_costAt_9 : decode cX9_costAt 9 = .ok (.getfield 42, 3) := by decide +kernel
theorem dX9_costAt_12 : decode cX9_costAt 12 = .ok (.iload_n 1, 1) := by decide +kernel
theorem dX9_costAt_13 : decode cX9_costAt 13 = .ok (.iaload, 1) := by decide +kernel
theorem dX9_costAt_14 : decode cX9_costAt 14 = .ok (.if_icmp .ge 47, 3) := by decide +kernel
theorem dX9_costAt_17 : decode cX9_costAt 17 = .ok (.iload_n 2, 1) := by decide +kernel
theorem dX9_costAt_18 : decode cX9_costAt 18 = .ok (.iload 6, 2) := by decide +kernel
theorem dX9_costAt_20 : decode cX9_costAt 20 = .ok (.iadd, 1) := by decide +kernel
theorem dX9_costAt_21 : decode cX9_costAt 21 = .ok (.sipush 168, 3) := by decide +kernel
theorem dX9_costAt_24 : decode cX9_costAt 24 = .ok (.if_icmp .ge 37, 3) := by decide +kernel
theorem dX9_costAt_27 : decode cX9_costAt 27 = .ok (.lload 4, 2) := by decide +kernel
theorem dX9_costAt_29 : decode cX9_costAt 29 = .ok (.aload_n 0, 1) := by decide +kernel
theorem dX9_costAt_30 : decode cX9_costAt 30 = .ok (.getfield 45, 3) := by decide +kernel
theorem dX9_costAt_33 : decode cX9_costAt 33 = .ok (.iconst 4, 1) := by decide +kernel
theorem dX9_costAt_34 : decode cX9_costAt 34 = .ok (.iload_n 1, 1) := by decide +kernel
theorem dX9_costAt_35 : decode cX9_costAt 35 = .ok (.imul, 1) := by decide +kernel
theorem dX9_costAt_36 : decode cX9_costAt 36 = .ok (.iload 6, 2) := by decide +kernel
theorem dX9_costAt_38 : decode cX9_costAt 38 = .ok (.iadd, 1) := by decide +kernel
theorem dX9_costAt_39 : decode cX9_costAt 39 = .ok (.iaload, 1) := by decide +kernel
theorem dX9_costAt_40 : decode cX9_costAt 40 = .ok (.i2l, 1) := by decide +kernel
theorem dX9_costAt_41 : decode cX9_costAt 41 = .ok (.aload_n 0, 1) := by decide +kernel
theorem dX9_costAt_42 : decode cX9_costAt 42 = .ok (.iload_n 2, 1) := by decide +kernel
theorem dX9_costAt_43 : decode cX9_costAt 43 = .ok (.iload 6, 2) := by decide +kernel
theorem dX9_costAt_45 : decode cX9_costAt 45 = .ok (.iadd, 1) := by decide +kernel
theorem dX9_costAt_46 : decode cX9_costAt 46 = .ok (.iload_n 3, 1) := by decide +kernel
theorem dX9_costAt_47 : decode cX9_costAt 47 = .ok (.invokevirtual 176, 3) := by decide +kernel
theorem dX9_costAt_50 : decode cX9_costAt 50 = .ok (.i2l, 1) := by decide +kernel
theorem dX9_costAt_51 : decode cX9_costAt 51 = .ok (.lmul, 1) := by decide +kernel
theorem dX9_costAt_52 : decode cX9_costAt 52 = .ok (.ladd, 1) := by decide +kernel
theorem dX9_costAt_53 : decode cX9_costAt 53 = .ok (.lstore 4, 2) := by decide +kernel
theorem dX9_costAt_55 : decode cX9_costAt 55 = .ok (.iinc 6 1, 3) := by decide +kernel
theorem dX9_costAt_58 : decode cX9_costAt 58 = .ok (.goto (-52), 3) := by decide +kernel
theorem dX9_costAt_61 : decode cX9_costAt 61 = .ok (.lload 4, 2) := by decide +kernel
theorem dX9_costAt_63 : decode cX9_costAt 63 = .ok (.lreturn, 1) := by decide +kernel
theorem dX9_whole_0 : decode cX9_whole 0 = .ok (.aload_n 0, 1) := by decide +kernel
theorem dX9_whole_1 : decode cX9_whole 1 = .ok (.iconst 0, 1) := by decide +kernel
theorem dX9_whole_2 : decode cX9_whole 2 = .ok (.putfield 131, 3) := by decide +kernel
theorem dX9_whole_5 : decode cX9_whole 5 = .ok (.iconst 0, 1) := by decide +kernel
theorem dX9_whole_6 : decode cX9_whole 6 = .ok (.istore_n 1, 1) := by decide +kernel
theorem dX9_whole_7 : decode cX9_whole 7 = .ok (.iconst 0, 1) := by decide +kernel
theorem dX9_whole_8 : decode cX9_whole 8 = .ok (.istore_n 2, 1) := by decide +kernel
theorem dX9_whole_9 : decode cX9_whole 9 = .ok (.iload_n 2, 1) := by decide +kernel
theorem dX9_whole_10 : decode cX9_whole 10 = .ok (.aload_n 0, 1) := by decide +kernel
theorem dX9_whole_11 : decode cX9_whole 11 = .ok (.getfield 148, 3) := by decide +kernel
theorem dX9_whole_14 : decode cX9_whole 14 = .ok (.if_icmp .ge 44, 3) := by decide +kernel
theorem dX9_whole_17 : decode cX9_whole 17 = .ok (.aload_n 0, 1) := by decide +kernel
theorem dX9_whole_18 : decode cX9_whole 18 = .ok (.getfield 48, 3) := by decide +kernel
theorem dX9_whole_21 : decode cX9_whole 21 = .ok (.iload_n 2, 1) := by decide +kernel
theorem dX9_whole_22 : decode cX9_whole 22 = .ok (.iaload, 1) := by decide +kernel
theorem dX9_whole_23 : decode cX9_whole 23 = .ok (.iconst 2, 1) := by decide +kernel
theorem dX9_whole_24 : decode cX9_whole 24 = .ok (.if_icmp .eq 28, 3) := by decide +kernel
theorem dX9_whole_27 : decode cX9_whole 27 = .ok (.iload_n 1, 1) := by decide +kernel
theorem dX9_whole_28 : decode cX9_whole 28 = .ok (.iconst 5, 1) := by decide +kernel
theorem dX9_whole_29 : decode cX9_whole 29 = .ok (.if_icmp .ne 13, 3) := by decide +kernel
theorem dX9_whole_32 : decode cX9_whole 32 = .ok (.aload_n 0, 1) := by decide +kernel
theorem dX9_whole_33 : decode cX9_whole 33 = .ok (.bipush (-5), 2) := by decide +kernel
theorem dX9_whole_35 : decode cX9_whole 35 = .ok (.putfield 134, 3) := by decide +kernel
theorem dX9_whole_38 : decode cX9_whole 38 = .ok (.ldc2_w 223, 3) := by decide +kernel
theorem dX9_whole_41 : decode cX9_whole 41 = .ok (.lreturn, 1) := by decide +kernel
theorem dX9_whole_42 : decode cX9_whole 42 = .ok (.aload_n 0, 1) := by decide +kernel
theorem dX9_whole_43 : decode cX9_whole 43 = .ok (.getfield 69, 3) := by decide +kernel
theorem dX9_whole_46 : decode cX9_whole 46 = .ok (.iload_n 1, 1) := by decide +kernel
theorem dX9_whole_47 : decode cX9_whole 47 = .ok (.iload_n 2, 1) := by decide +kernel
theorem dX9_whole_48 : decode cX9_whole 48 = .ok (.iastore, 1) := by decide +kernel
theorem dX9_whole_49 : decode cX9_whole 49 = .ok (.iinc 1 1, 3) := by decide +kernel
theorem dX9_whole_52 : decode cX9_whole 52 = .ok (.iinc 2 1, 3) := by decide +kernel
theorem dX9_whole_55 : decode cX9_whole 55 = .ok (.goto (-46), 3) := by decide +kernel
theorem dX9_whole_58 : decode cX9_whole 58 = .ok (.iconst 0, 1) := by decide +kernel
theorem dX9_whole_59 : decode cX9_whole 59 = .ok (.istore_n 2, 1) := by decide +kernel
theorem dX9_whole_60 : decode cX9_whole 60 = .ok (.iload_n 2, 1) := by decide +kernel
theorem dX9_whole_61 : decode cX9_whole 61 = .ok (.aload_n 0, 1) := by decide +kernel
theorem dX9_whole_62 : decode cX9_whole 62 = .ok (.getfield 148, 3) := by decide +kernel
theorem dX9_whole_65 : decode cX9_whole 65 = .ok (.if_icmp .ge 54, 3) := by decide +kernel
theorem dX9_whole_68 : decode cX9_whole 68 = .ok (.aload_n 0, 1) := by decide +kernel
theorem dX9_whole_69 : decode cX9_whole 69 = .ok (.getfield 72, 3) := by decide +kernel
theorem dX9_whole_72 : decode cX9_whole 72 = .ok (.iload_n 2, 1) := by decide +kernel
theorem dX9_whole_73 : decode cX9_whole 73 = .ok (.aload_n 0, 1) := by decide +kernel
theorem dX9_whole_74 : decode cX9_whole 74 = .ok (.getfield 48, 3) := by decide +kernel
theorem dX9_whole_77 : decode cX9_whole 77 = .ok (.iload_n 2, 1) := by decide +kernel
theorem dX9_whole_78 : decode cX9_whole 78 = .ok (.iaload, 1) := by decide +kernel
theorem dX9_whole_79 : decode cX9_whole 79 = .ok (.iastore, 1) := by decide +kernel
theorem dX9_whole_80 : decode cX9_whole 80 = .ok (.aload_n 0, 1) := by decide +kernel
theorem dX9_whole_81 : decode cX9_whole 81 = .ok (.getfield 75, 3) := by decide +kernel
theorem dX9_whole_84 : decode cX9_whole 84 = .ok (.iload_n 2, 1) := by decide +kernel
theorem dX9_whole_85 : decode cX9_whole 85 = .ok (.aload_n 0, 1) := by decide +kernel
theorem dX9_whole_86 : decode cX9_whole 86 = .ok (.getfield 51, 3) := by decide +kernel
theorem dX9_whole_89 : decode cX9_whole 89 = .ok (.iload_n 2, 1) := by decide +kernel
theorem dX9_whole_90 : decode cX9_whole 90 = .ok (.iaload, 1) := by decide +kernel
theorem dX9_whole_91 : decode cX9_whole 91 = .ok (.iastore, 1) := by decide +kernel
theorem dX9_whole_92 : decode cX9_whole 92 = .ok (.aload_n 0, 1) := by decide +kernel
theorem dX9_whole_93 : decode cX9_whole 93 = .ok (.getfield 48, 3) := by decide +kernel
theorem dX9_whole_96 : decode cX9_whole 96 = .ok (.iload_n 2, 1) := by decide +kernel
theorem dX9_whole_97 : decode cX9_whole 97 = .ok (.aload_n 0, 1) := by decide +kernel
theorem dX9_whole_98 : decode cX9_whole 98 = .ok (.getfield 48, 3) := by decide +kernel
theorem dX9_whole_101 : decode cX9_whole 101 = .ok (.iload_n 2, 1) := by decide +kernel
theorem dX9_whole_102 : decode cX9_whole 102 = .ok (.iaload, 1) := by decide +kernel
theorem dX9_whole_103 : decode cX9_whole 103 = .ok (.iconst 2, 1) := by decide +kernel
theorem dX9_whole_104 : decode cX9_whole 104 = .ok (.if_icmp .ne 7, 3) := by decide +kernel
theorem dX9_whole_107 : decode cX9_whole 107 = .ok (.iconst 2, 1) := by decide +kernel
theorem dX9_whole_108 : decode cX9_whole 108 = .ok (.goto 4, 3) := by decide +kernel
theorem dX9_whole_111 : decode cX9_whole 111 = .ok (.iconst 0, 1) := by decide +kernel
theorem dX9_whole_112 : decode cX9_whole 112 = .ok (.iastore, 1) := by decide +kernel
theorem dX9_whole_113 : decode cX9_whole 113 = .ok (.iinc 2 1, 3) := by decide +kernel
theorem dX9_whole_116 : decode cX9_whole 116 = .ok (.goto (-56), 3) := by decide +kernel
theorem dX9_whole_119 : decode cX9_whole 119 = .ok (.aload_n 0, 1) := by decide +kernel
theorem dX9_whole_120 : decode cX9_whole 120 = .ok (.iload_n 1, 1) := by decide +kernel
theorem dX9_whole_121 : decode cX9_whole 121 = .ok (.invokevirtual 225, 3) := by decide +kernel
theorem dX9_whole_124 : decode cX9_whole 124 = .ok (.lstore_n 2, 1) := by decide +kernel
theorem dX9_whole_125 : decode cX9_whole 125 = .ok (.lload_n 2, 1) := by decide +kernel
theorem dX9_whole_126 : decode cX9_whole 126 = .ok (.ldc2_w 229, 3) := by decide +kernel
theorem dX9_whole_129 : decode cX9_whole 129 = .ok (.lcmp, 1) := by decide +kernel
theorem dX9_whole_130 : decode cX9_whole 130 = .ok (.ifCond .ne 59, 3) := by decide +kernel
theorem dX9_whole_133 : decode cX9_whole 133 = .ok (.iconst 0, 1) := by decide +kernel
theorem dX9_whole_134 : decode cX9_whole 134 = .ok (.istore 4, 2) := by decide +kernel
theorem dX9_whole_136 : decode cX9_whole 136 = .ok (.iload 4, 2) := by decide +kernel
theorem dX9_whole_138 : decode cX9_whole 138 = .ok (.aload_n 0, 1) := by decide +kernel
theorem dX9_whole_139 : decode cX9_whole 139 = .ok (.getfield 148, 3) := by decide +kernel
theorem dX9_whole_142 : decode cX9_whole 142 = .ok (.if_icmp .ge 37, 3) := by decide +kernel
theorem dX9_whole_145 : decode cX9_whole 145 = .ok (.aload_n 0, 1) := by decide +kernel
theorem dX9_whole_146 : decode cX9_whole 146 = .ok (.getfield 48, 3) := by decide +kernel
theorem dX9_whole_149 : decode cX9_whole 149 = .ok (.iload 4, 2) := by decide +kernel
theorem dX9_whole_151 : decode cX9_whole 151 = .ok (.aload_n 0, 1) := by decide +kernel
theorem dX9_whole_152 : decode cX9_whole 152 = .ok (.getfield 72, 3) := by decide +kernel
theorem dX9_whole_155 : decode cX9_whole 155 = .ok (.iload 4, 2) := by decide +kernel
theorem dX9_whole_157 : decode cX9_whole 157 = .ok (.iaload, 1) := by decide +kernel
theorem dX9_whole_158 : decode cX9_whole 158 = .ok (.iastore, 1) := by decide +kernel
theorem dX9_whole_159 : decode cX9_whole 159 = .ok (.aload_n 0, 1) := by decide +kernel
theorem dX9_whole_160 : decode cX9_whole 160 = .ok (.getfield 51, 3) := by decide +kernel
theorem dX9_whole_163 : decode cX9_whole 163 = .ok (.iload 4, 2) := by decide +kernel
theorem dX9_whole_165 : decode cX9_whole 165 = .ok (.aload_n 0, 1) := by decide +kernel
theorem dX9_whole_166 : decode cX9_whole 166 = .ok (.getfield 75, 3) := by decide +kernel
theorem dX9_whole_169 : decode cX9_whole 169 = .ok (.iload 4, 2) := by decide +kernel
theorem dX9_whole_171 : decode cX9_whole 171 = .ok (.iaload, 1) := by decide +kernel
theorem dX9_whole_172 : decode cX9_whole 172 = .ok (.iastore, 1) := by decide +kernel
theorem dX9_whole_173 : decode cX9_whole 173 = .ok (.iinc 4 1, 3) := by decide +kernel
theorem dX9_whole_176 : decode cX9_whole 176 = .ok (.goto (-40), 3) := by decide +kernel
theorem dX9_whole_179 : decode cX9_whole 179 = .ok (.aload_n 0, 1) := by decide +kernel
theorem dX9_whole_180 : decode cX9_whole 180 = .ok (.bipush (-6), 2) := by decide +kernel
theorem dX9_whole_182 : decode cX9_whole 182 = .ok (.putfield 134, 3) := by decide +kernel
theorem dX9_whole_185 : decode cX9_whole 185 = .ok (.ldc2_w 231, 3) := by decide +kernel
theorem dX9_whole_188 : decode cX9_whole 188 = .ok (.lreturn, 1) := by decide +kernel
theorem dX9_whole_189 : decode cX9_whole 189 = .ok (.iconst 0, 1) := by decide +kernel
theorem dX9_whole_190 : decode cX9_whole 190 = .ok (.istore 4, 2) := by decide +kernel
theorem dX9_whole_192 : decode cX9_whole 192 = .ok (.iload 4, 2) := by decide +kernel
theorem dX9_whole_194 : decode cX9_whole 194 = .ok (.iload_n 1, 1) := by decide +kernel
theorem dX9_whole_195 : decode cX9_whole 195 = .ok (.if_icmp .ge 41, 3) := by decide +kernel
theorem dX9_whole_198 : decode cX9_whole 198 = .ok (.aload_n 0, 1) := by decide +kernel
theorem dX9_whole_199 : decode cX9_whole 199 = .ok (.getfield 48, 3) := by decide +kernel
theorem dX9_whole_202 : decode cX9_whole 202 = .ok (.aload_n 0, 1) := by decide +kernel
theorem dX9_whole_203 : decode cX9_whole 203 = .ok (.getfield 69, 3) := by decide +kernel
theorem dX9_whole_206 : decode cX9_whole 206 = .ok (.iload 4, 2) := by decide +kernel
theorem dX9_whole_208 : decode cX9_whole 208 = .ok (.iaload, 1) := by decide +kernel
theorem dX9_whole_209 : decode cX9_whole 209 = .ok (.iconst 1, 1) := by decide +kernel
theorem dX9_whole_210 : decode cX9_whole 210 = .ok (.iastore, 1) := by decide +kernel
theorem dX9_whole_211 : decode cX9_whole 211 = .ok (.aload_n 0, 1) := by decide +kernel
theorem dX9_whole_212 : decode cX9_whole 212 = .ok (.getfield 51, 3) := by decide +kernel
theorem dX9_whole_215 : decode cX9_whole 215 = .ok (.aload_n 0, 1) := by decide +kernel
theorem dX9_whole_216 : decode cX9_whole 216 = .ok (.getfield 69, 3) := by decide +kernel
theorem dX9_whole_219 : decode cX9_whole 219 = .ok (.iload 4, 2) := by decide +kernel
theorem dX9_whole_221 : decode cX9_whole 221 = .ok (.iaload, 1) := by decide +kernel
theorem dX9_whole_222 : decode cX9_whole 222 = .ok (.aload_n 0, 1) := by decide +kernel
theorem dX9_whole_223 : decode cX9_whole 223 = .ok (.getfield 85, 3) := by decide +kernel
theorem dX9_whole_226 : decode cX9_whole 226 = .ok (.iload 4, 2) := by decide +kernel
theorem dX9_whole_228 : decode cX9_whole 228 = .ok (.iaload, 1) := by decide +kernel
theorem dX9_whole_229 : decode cX9_whole 229 = .ok (.iastore, 1) := by decide +kernel
theorem dX9_whole_230 : decode cX9_whole 230 = .ok (.iinc 4 1, 3) := by decide +kernel
theorem dX9_whole_233 : decode cX9_whole 233 = .ok (.goto (-41), 3) := by decide +kernel
theorem dX9_whole_236 : decode cX9_whole 236 = .ok (.aload_n 0, 1) := by decide +kernel
theorem dX9_whole_237 : decode cX9_whole 237 = .ok (.iconst 0, 1) := by decide +kernel
theorem dX9_whole_238 : decode cX9_whole 238 = .ok (.putfield 134, 3) := by decide +kernel
theorem dX9_whole_241 : decode cX9_whole 241 = .ok (.lload_n 2, 1) := by decide +kernel
theorem dX9_whole_242 : decode cX9_whole 242 = .ok (.lreturn, 1) := by decide +kernel
theorem dX9_findLeast_0 : decode cX9_findLeast 0 = .ok (.aload_n 0, 1) := by decide +kernel
theorem dX9_findLeast_1 : decode cX9_findLeast 1 = .ok (.getfield 82, 3) := by decide +kernel
theorem dX9_findLeast_4 : decode cX9_findLeast 4 = .ok (.iload_n 1, 1) := by decide +kernel
theorem dX9_findLeast_5 : decode cX9_findLeast 5 = .ok (.lconst 0, 1) := by decide +kernel
theorem dX9_findLeast_6 : decode cX9_findLeast 6 = .ok (.lastore, 1) := by decide +kernel
theorem dX9_findLeast_7 : decode cX9_findLeast 7 = .ok (.iload_n 1, 1) := by decide +kernel
theorem dX9_findLeast_8 : decode cX9_findLeast 8 = .ok (.iconst 1, 1) := by decide +kernel
theorem dX9_findLeast_9 : decode cX9_findLeast 9 = .ok (.isub, 1) := by decide +kernel
theorem dX9_findLeast_10 : decode cX9_findLeast 10 = .ok (.istore_n 2, 1) := by decide +kernel
theorem dX9_findLeast_11 : decode cX9_findLeast 11 = .ok (.iload_n 2, 1) := by decide +kernel
theorem dX9_findLeast_12 : decode cX9_findLeast 12 = .ok (.ifCond .lt 123, 3) := by decide +kernel
theorem dX9_findLeast_15 : decode cX9_findLeast 15 = .ok (.aload_n 0, 1) := by decide +kernel
theorem dX9_findLeast_16 : decode cX9_findLeast 16 = .ok (.getfield 69, 3) := by decide +kernel
theorem dX9_findLeast_19 : decode cX9_findLeast 19 = .ok (.iload_n 2, 1) := by decide +kernel
theorem dX9_findLeast_20 : decode cX9_findLeast 20 = .ok (.iaload, 1) := by decide +kernel
theorem dX9_findLeast_21 : decode cX9_findLeast 21 = .ok (.istore_n 3, 1) := by decide +kernel
theorem dX9_findLeast_22 : decode cX9_findLeast 22 = .ok (.lconst 0, 1) := by decide +kernel
theorem dX9_findLeast_23 : decode cX9_findLeast 23 = .ok (.lstore 4, 2) := by decide +kernel
theorem dX9_findLeast_25 : decode cX9_findLeast 25 = .ok (.aload_n 0, 1) := by decide +kernel
theorem dX9_findLeast_26 : decode cX9_findLeast 26 = .ok (.getfield 36, 3) := by decide +kernel
theorem dX9_findLeast_29 : decode cX9_findLeast 29 = .ok (.iload_n 3, 1) := by decide +kernel
theorem dX9_findLeast_30 : decode cX9_findLeast 30 = .ok (.iaload, 1) := by decide +kernel
theorem dX9_findLeast_31 : decode cX9_findLeast 31 = .ok (.istore 6, 2) := by decide +kernel
theorem dX9_findLeast_33 : decode cX9_findLeast 33 = .ok (.iload 6, 2) := by decide +kernel
theorem dX9_findLeast_35 : decode cX9_findLeast 35 = .ok (.aload_n 0, 1) := by decide +kernel
theorem dX9_findLeast_36 : decode cX9_findLeast 36 = .ok (.getfield 39, 3) := by decide +kernel
theorem dX9_findLeast_39 : decode cX9_findLeast 39 = .ok (.iload_n 3, 1) := by decide +kernel
theorem dX9_findLeast_40 : decode cX9_findLeast 40 = .ok (.iaload, 1) := by decide +kernel
theorem dX9_findLeast_41 : decode cX9_findLeast 41 = .ok (.if_icmp .gt 71, 3) := by decide +kernel
theorem dX9_findLeast_44 : decode cX9_findLeast 44 = .ok (.aload_n 0, 1) := by decide +kernel
theorem dX9_findLeast_45 : decode cX9_findLeast 45 = .ok (.iload_n 3, 1) := by decide +kernel
theorem dX9_findLeast_46 : decode cX9_findLeast 46 = .ok (.iload 6, 2) := by decide +kernel
theorem dX9_findLeast_48 : decode cX9_findLeast 48 = .ok (.aload_n 0, 1) := by decide +kernel
theorem dX9_findLeast_49 : decode cX9_findLeast 49 = .ok (.getfield 173, 3) := by decide +kernel
theorem dX9_findLeast_52 : decode cX9_findLeast 52 = .ok (.invokevirtual 233, 3) := by decide +kernel
theorem dX9_findLeast_55 : decode cX9_findLeast 55 = .ok (.lstore 7, 2) := by decide +kernel
theorem dX9_findLeast_57 : decode cX9_findLeast 57 = .ok (.aload_n 0, 1) := by decide +kernel
theorem dX9_findLeast_58 : decode cX9_findLeast 58 = .ok (.getfield 78, 3) := by decide +kernel
theorem dX9_findLeast_61 : decode cX9_findLeast 61 = .ok (.bipush 24, 2) := by decide +kernel
theorem dX9_findLeast_63 : decode cX9_findLeast 63 = .ok (.iload_n 2, 1) := by decide +kernel
theorem dX9_findLeast_64 : decode cX9_findLeast 64 = .ok (.imul, 1) := by decide +kernel
theorem dX9_findLeast_65 : decode cX9_findLeast 65 = .ok (.iload 6, 2) := by decide +kernel
theorem dX9_findLeast_67 : decode cX9_findLeast 67 = .ok (.iadd, 1) := by decide +kernel
theorem dX9_findLeast_68 : decode cX9_findLeast 68 = .ok (.aload_n 0, 1) := by decide +kernel
theorem dX9_findLeast_69 : decode cX9_findLeast 69 = .ok (.getfield 36, 3) := by decide +kernel
theorem dX9_findLeast_72 : decode cX9_findLeast 72 = .ok (.iload_n 3, 1) := by decide +kernel
theorem dX9_findLeast_73 : decode cX9_findLeast 73 = .ok (.iaload, 1) := by decide +kernel
theorem dX9_findLeast_74 : decode cX9_findLeast 74 = .ok (.isub, 1) := by decide +kernel
theorem dX9_findLeast_75 : decode cX9_findLeast 75 = .ok (.lload 7, 2) := by decide +kernel
theorem dX9_findLeast_77 : decode cX9_findLeast 77 = .ok (.lastore, 1) := by decide +kernel
theorem dX9_findLeast_78 : decode cX9_findLeast 78 = .ok (.iload 6, 2) := by decide +kernel
theorem dX9_findLeast_80 : decode cX9_findLeast 80 = .ok (.aload_n 0, 1) := by decide +kernel
theorem dX9_findLeast_81 : decode cX9_findLeast 81 = .ok (.getfield 36, 3) := by decide +kernel
theorem dX9_findLeast_84 : decode cX9_findLeast 84 = .ok (.iload_n 3, 1) := by decide +kernel
theorem dX9_findLeast_85 : decode cX9_findLeast 85 = .ok (.iaload, 1) := by decide +kernel
theorem dX9_findLeast_86 : decode cX9_findLeast 86 = .ok (.if_icmp .eq 11, 3) := by decide +kernel
theorem dX9_findLeast_89 : decode cX9_findLeast 89 = .ok (.lload 7, 2) := by decide +kernel
theorem dX9_findLeast_91 : decode cX9_findLeast 91 = .ok (.lload 4, 2) := by decide +kernel
theorem dX9_findLeast_93 : decode cX9_findLeast 93 = .ok (.lcmp, 1) := by decide +kernel
theorem dX9_findLeast_94 : decode cX9_findLeast 94 = .ok (.ifCond .ge 8, 3) := by decide +kernel
theorem dX9_findLeast_97 : decode cX9_findLeast 97 = .ok (.lload 7, 2) := by decide +kernel
theorem dX9_findLeast_99 : decode cX9_findLeast 99 = .ok (.goto 5, 3) := by decide +kernel
theorem dX9_findLeast_102 : decode cX9_findLeast 102 = .ok (.lload 4, 2) := by decide +kernel
theorem dX9_findLeast_104 : decode cX9_findLeast 104 = .ok (.lstore 4, 2) := by decide +kernel
theorem dX9_findLeast_106 : decode cX9_findLeast 106 = .ok (.iinc 6 1, 3) := by decide +kernel
theorem dX9_findLeast_109 : decode cX9_findLeast 109 = .ok (.goto (-76), 3) := by decide +kernel
theorem dX9_findLeast_112 : decode cX9_findLeast 112 = .ok (.aload_n 0, 1) := by decide +kernel
theorem dX9_findLeast_113 : decode cX9_findLeast 113 = .ok (.getfield 82, 3) := by decide +kernel
theorem dX9_findLeast_116 : decode cX9_findLeast 116 = .ok (.iload_n 2, 1) := by decide +kernel
theorem dX9_findLeast_117 : decode cX9_findLeast 117 = .ok (.lload 4, 2) := by decide +kernel
theorem dX9_findLeast_119 : decode cX9_findLeast 119 = .ok (.aload_n 0, 1) := by decide +kernel
theorem dX9_findLeast_120 : decode cX9_findLeast 120 = .ok (.getfield 82, 3) := by decide +kernel
theorem dX9_findLeast_123 : decode cX9_findLeast 123 = .ok (.iload_n 2, 1) := by decide +kernel
theorem dX9_findLeast_124 : decode cX9_findLeast 124 = .ok (.iconst 1, 1) := by decide +kernel
theorem dX9_findLeast_125 : decode cX9_findLeast 125 = .ok (.iadd, 1) := by decide +kernel
theorem dX9_findLeast_126 : decode cX9_findLeast 126 = .ok (.laload, 1) := by decide +kernel
theorem dX9_findLeast_127 : decode cX9_findLeast 127 = .ok (.ladd, 1) := by decide +kernel
theorem dX9_findLeast_128 : decode cX9_findLeast 128 = .ok (.lastore, 1) := by decide +kernel
theorem dX9_findLeast_129 : decode cX9_findLeast 129 = .ok (.iinc 2 (-1), 3) := by decide +kernel
theorem dX9_findLeast_132 : decode cX9_findLeast 132 = .ok (.goto (-121), 3) := by decide +kernel
theorem dX9_findLeast_135 : decode cX9_findLeast 135 = .ok (.return_, 1) := by decide +kernel
theorem dX9_search_0 : decode cX9_search 0 = .ok (.aload_n 0, 1) := by decide +kernel
theorem dX9_search_1 : decode cX9_search 1 = .ok (.iload_n 1, 1) := by decide +kernel
theorem dX9_search_2 : decode cX9_search 2 = .ok (.invokevirtual 237, 3) := by decide +kernel
theorem dX9_search_5 : decode cX9_search 5 = .ok (.ldc2_w 229, 3) := by decide +kernel
theorem dX9_search_8 : decode cX9_search 8 = .ok (.lstore_n 2, 1) := by decide +kernel
theorem dX9_search_9 : decode cX9_search 9 = .ok (.iconst 0, 1) := by decide +kernel
theorem dX9_search_10 : decode cX9_search 10 = .ok (.istore 4, 2) := by decide +kernel
theorem dX9_search_12 : decode cX9_search 12 = .ok (.lconst 0, 1) := by decide +kernel
theorem dX9_search_13 : decode cX9_search 13 = .ok (.lstore 5, 2) := by decide +kernel
theorem dX9_search_15 : decode cX9_search 15 = .ok (.iconst 0, 1) := by decide +kernel
theorem dX9_search_16 : decode cX9_search 16 = .ok (.istore 7, 2) := by decide +kernel
theorem dX9_search_18 : decode cX9_search 18 = .ok (.iload_n 1, 1) := by decide +kernel
theorem dX9_search_19 : decode cX9_search 19 = .ok (.ifCond .ne 7, 3) := by decide +kernel
theorem dX9_search_22 : decode cX9_search 22 = .ok (.iconst 0, 1) := by decide +kernel
theorem dX9_search_23 : decode cX9_search 23 = .ok (.goto 14, 3) := by decide +kernel
theorem dX9_search_26 : decode cX9_search 26 = .ok (.aload_n 0, 1) := by decide +kernel
theorem dX9_search_27 : decode cX9_search 27 = .ok (.getfield 36, 3) := by decide +kernel
theorem dX9_search_30 : decode cX9_search 30 = .ok (.aload_n 0, 1) := by decide +kernel
theorem dX9_search_31 : decode cX9_search 31 = .ok (.getfield 69, 3) := by decide +kernel
theorem dX9_search_34 : decode cX9_search 34 = .ok (.iconst 0, 1) := by decide +kernel
theorem dX9_search_35 : decode cX9_search 35 = .ok (.iaload, 1) := by decide +kernel
theorem dX9_search_36 : decode cX9_search 36 = .ok (.iaload, 1) := by decide +kernel
theorem dX9_search_37 : decode cX9_search 37 = .ok (.istore 8, 2) := by decide +kernel
theorem dX9_search_39 : decode cX9_search 39 = .ok (.iload_n 1, 1) := by decide +kernel
theorem dX9_search_40 : decode cX9_search 40 = .ok (.ifCond .ne 5, 3) := by decide +kernel
theorem dX9_search_43 : decode cX9_search 43 = .ok (.lconst 0, 1) := by decide +kernel
theorem dX9_search_44 : decode cX9_search 44 = .ok (.lreturn, 1) := by decide +kernel
theorem dX9_search_45 : decode cX9_search 45 = .ok (.iload 7, 2) := by decide +kernel
theorem dX9_search_47 : decode cX9_search 47 = .ok (.ifCond .lt 305, 3) := by decide +kernel
theorem dX9_search_50 : decode cX9_search 50 = .ok (.aload_n 0, 1) := by decide +kernel
theorem dX9_search_51 : decode cX9_search 51 = .ok (.getfield 69, 3) := by decide +kernel
theorem dX9_search_54 : decode cX9_search 54 = .ok (.iload 7, 2) := by decide +kernel
theorem dX9_search_56 : decode cX9_search 56 = .ok (.iaload, 1) := by decide +kernel
theorem dX9_search_57 : decode cX9_search 57 = .ok (.istore 9, 2) := by decide +kernel
theorem dX9_search_59 : decode cX9_search 59 = .ok (.iconst 0, 1) := by decide +kernel
theorem dX9_search_60 : decode cX9_search 60 = .ok (.istore 10, 2) := by decide +kernel
theorem dX9_search_62 : decode cX9_search 62 = .ok (.iload 8, 2) := by decide +kernel
theorem dX9_search_64 : decode cX9_search 64 = .ok (.aload_n 0, 1) := by decide +kernel
theorem dX9_search_65 : decode cX9_search 65 = .ok (.getfield 39, 3) := by decide +kernel
theorem dX9_search_68 : decode cX9_search 68 = .ok (.iload 9, 2) := by decide +kernel
theorem dX9_search_70 : decode cX9_search 70 = .ok (.iaload, 1) := by decide +kernel
theorem dX9_search_71 : decode cX9_search 71 = .ok (.if_icmp .gt 92, 3) := by decide +kernel
theorem dX9_search_74 : decode cX9_search 74 = .ok (.iload 10, 2) := by decide +kernel
theorem dX9_search_76 : decode cX9_search 76 = .ok (.ifCond .ne 87, 3) := by decide +kernel
theorem dX9_search_79 : decode cX9_search 79 = .ok (.lload 5, 2) := by decide +kernel
theorem dX9_search_81 : decode cX9_search 81 = .ok (.aload_n 0, 1) := by decide +kernel
theorem dX9_search_82 : decode cX9_search 82 = .ok (.getfield 78, 3) := by decide +kernel
theorem dX9_search_85 : decode cX9_search 85 = .ok (.bipush 24, 2) := by decide +kernel
theorem dX9_search_87 : decode cX9_search 87 = .ok (.iload 7, 2) := by decide +kernel
theorem dX9_search_89 : decode cX9_search 89 = .ok (.imul, 1) := by decide +kernel
theorem dX9_search_90 : decode cX9_search 90 = .ok (.iload 8, 2) := by decide +kernel
theorem dX9_search_92 : decode cX9_search 92 = .ok (.iadd, 1) := by decide +kernel
theorem dX9_search_93 : decode cX9_search 93 = .ok (.aload_n 0, 1) := by decide +kernel
theorem dX9_search_94 : decode cX9_search 94 = .ok (.getfield 36, 3) := by decide +kernel
theorem dX9_search_97 : decode cX9_search 97 = .ok (.iload 9, 2) := by decide +kernel
theorem dX9_search_99 : decode cX9_search 99 = .ok (.iaload, 1) := by decide +kernel
theorem dX9_search_100 : decode cX9_search 100 = .ok (.isub, 1) := by decide +kernel
theorem dX9_search_101 : decode cX9_search 101 = .ok (.laload, 1) := by decide +kernel
theorem dX9_search_102 : decode cX9_search 102 = .ok (.ladd, 1) := by decide +kernel
theorem dX9_search_103 : decode cX9_search 103 = .ok (.lstore 11, 2) := by decide +kernel
theorem dX9_search_105 : decode cX9_search 105 = .ok (.iload 4, 2) := by decide +kernel
theorem dX9_search_107 : decode cX9_search 107 = .ok (.ifCond .eq 20, 3) := by decide +kernel
theorem dX9_search_110 : decode cX9_search 110 = .ok (.lload 11, 2) := by decide +kernel
theorem dX9_search_112 : decode cX9_search 112 = .ok (.aload_n 0, 1) := by decide +kernel
theorem dX9_search_113 : decode cX9_search 113 = .ok (.getfield 82, 3) := by decide +kernel
theorem dX9_search_116 : decode cX9_search 116 = .ok (.iload 7, 2) := by decide +kernel
theorem dX9_search_118 : decode cX9_search 118 = .ok (.iconst 1, 1) := by decide +kernel
theorem dX9_search_119 : decode cX9_search 119 = .ok (.iadd, 1) := by decide +kernel
theorem dX9_search_120 : decode cX9_search 120 = .ok (.laload, 1) := by decide +kernel
theorem dX9_search_121 : decode cX9_search 121 = .ok (.ladd, 1) := by decide +kernel
theorem dX9_search_122 : decode cX9_search 122 = .ok (.lload_n 2, 1) := by decide +kernel
theorem dX9_search_123 : decode cX9_search 123 = .ok (.lcmp, 1) := by decide +kernel
theorem dX9_search_124 : decode cX9_search 124 = .ok (.ifCond .ge 18, 3) := by decide +kernel
theorem dX9_search_127 : decode cX9_search 127 = .ok (.aload_n 0, 1) := by decide +kernel
theorem dX9_search_128 : decode cX9_search 128 = .ok (.iload 9, 2) := by decide +kernel
theorem dX9_search_130 : decode cX9_search 130 = .ok (.iload 8, 2) := by decide +kernel
theorem dX9_search_132 : decode cX9_search 132 = .ok (.invokevirtual 220, 3) := by decide +kernel
theorem dX9_search_135 : decode cX9_search 135 = .ok (.ifCond .eq 7, 3) := by decide +kernel
theorem dX9_search_138 : decode cX9_search 138 = .ok (.iconst 1, 1) := by decide +kernel
theorem dX9_search_139 : decode cX9_search 139 = .ok (.goto 4, 3) := by decide +kernel
theorem dX9_search_142 : decode cX9_search 142 = .ok (.iconst 0, 1) := by decide +kernel
theorem dX9_search_143 : decode cX9_search 143 = .ok (.istore 10, 2) := by decide +kernel
theorem dX9_search_145 : decode cX9_search 145 = .ok (.iload 8, 2) := by decide +kernel
theorem dX9_search_147 : decode cX9_search 147 = .ok (.iload 10, 2) := by decide +kernel
theorem dX9_search_149 : decode cX9_search 149 = .ok (.ifCond .eq 7, 3) := by decide +kernel
theorem dX9_search_152 : decode cX9_search 152 = .ok (.iconst 0, 1) := by decide +kernel
theorem dX9_search_153 : decode cX9_search 153 = .ok (.goto 4, 3) := by decide +kernel
theorem dX9_search_156 : decode cX9_search 156 = .ok (.iconst 1, 1) := by decide +kernel
theorem dX9_search_157 : decode cX9_search 157 = .ok (.iadd, 1) := by decide +kernel
theorem dX9_search_158 : decode cX9_search 158 = .ok (.istore 8, 2) := by decide +kernel
theorem dX9_search_160 : decode cX9_search 160 = .ok (.goto (-98), 3) := by decide +kernel
theorem dX9_search_163 : decode cX9_search 163 = .ok (.iload 10, 2) := by decide +kernel
theorem dX9_search_165 : decode cX9_search 165 = .ok (.ifCond .eq 117, 3) := by decide +kernel
theorem dX9_search_168 : decode cX9_search 168 = .ok (.aload_n 0, 1) := by decide +kernel
theorem dX9_search_169 : decode cX9_search 169 = .ok (.getfield 48, 3) := by decide +kernel
theorem dX9_search_172 : decode cX9_search 172 = .ok (.iload 9, 2) := by decide +kernel
theorem dX9_search_174 : decode cX9_search 174 = .ok (.iconst 1, 1) := by decide +kernel
theorem dX9_search_175 : decode cX9_search 175 = .ok (.iastore, 1) := by decide +kernel
theorem dX9_search_176 : decode cX9_search 176 = .ok (.aload_n 0, 1) := by decide +kernel
theorem dX9_search_177 : decode cX9_search 177 = .ok (.getfield 51, 3) := by decide +kernel
theorem dX9_search_180 : decode cX9_search 180 = .ok (.iload 9, 2) := by decide +kernel
theorem dX9_search_182 : decode cX9_search 182 = .ok (.iload 8, 2) := by decide +kernel
theorem dX9_search_184 : decode cX9_search 184 = .ok (.iastore, 1) := by decide +kernel
theorem dX9_search_185 : decode cX9_search 185 = .ok (.lload 5, 2) := by decide +kernel
theorem dX9_search_187 : decode cX9_search 187 = .ok (.aload_n 0, 1) := by decide +kernel
theorem dX9_search_188 : decode cX9_search 188 = .ok (.getfield 78, 3) := by decide +kernel
theorem dX9_search_191 : decode cX9_search 191 = .ok (.bipush 24, 2) := by decide +kernel
theorem dX9_search_193 : decode cX9_search 193 = .ok (.iload 7, 2) := by decide +kernel
theorem dX9_search_195 : decode cX9_search 195 = .ok (.imul, 1) := by decide +kernel
theorem dX9_search_196 : decode cX9_search 196 = .ok (.iload 8, 2) := by decide +kernel
theorem dX9_search_198 : decode cX9_search 198 = .ok (.iadd, 1) := by decide +kernel
theorem dX9_search_199 : decode cX9_search 199 = .ok (.aload_n 0, 1) := by decide +kernel
theorem dX9_search_200 : decode cX9_search 200 = .ok (.getfield 36, 3) := by decide +kernel
theorem dX9_search_203 : decode cX9_search 203 = .ok (.iload 9, 2) := by decide +kernel
theorem dX9_search_205 : decode cX9_search 205 = .ok (.iaload, 1) := by decide +kernel
theorem dX9_search_206 : decode cX9_search 206 = .ok (.isub, 1) := by decide +kernel
theorem dX9_search_207 : decode cX9_search 207 = .ok (.laload, 1) := by decide +kernel
theorem dX9_search_208 : decode cX9_search 208 = .ok (.ladd, 1) := by decide +kernel
theorem dX9_search_209 : decode cX9_search 209 = .ok (.lstore 5, 2) := by decide +kernel
theorem dX9_search_211 : decode cX9_search 211 = .ok (.iload 7, 2) := by decide +kernel
theorem dX9_search_213 : decode cX9_search 213 = .ok (.iload_n 1, 1) := by decide +kernel
theorem dX9_search_214 : decode cX9_search 214 = .ok (.iconst 1, 1) := by decide +kernel
theorem dX9_search_215 : decode cX9_search 215 = .ok (.isub, 1) := by decide +kernel
theorem dX9_search_216 : decode cX9_search 216 = .ok (.if_icmp .ne 46, 3) := by decide +kernel
theorem dX9_search_219 : decode cX9_search 219 = .ok (.iconst 1, 1) := by decide +kernel
theorem dX9_search_220 : decode cX9_search 220 = .ok (.istore 4, 2) := by decide +kernel
theorem dX9_search_222 : decode cX9_search 222 = .ok (.lload 5, 2) := by decide +kernel
theorem dX9_search_224 : decode cX9_search 224 = .ok (.lstore_n 2, 1) := by decide +kernel
theorem dX9_search_225 : decode cX9_search 225 = .ok (.iconst 0, 1) := by decide +kernel
theorem dX9_search_226 : decode cX9_search 226 = .ok (.istore 11, 2) := by decide +kernel
theorem dX9_search_228 : decode cX9_search 228 = .ok (.iload 11, 2) := by decide +kernel
theorem dX9_search_230 : decode cX9_search 230 = .ok (.iload_n 1, 1) := by decide +kernel
theorem dX9_search_231 : decode cX9_search 231 = .ok (.if_icmp .ge 28, 3) := by decide +kernel
theorem dX9_search_234 : decode cX9_search 234 = .ok (.aload_n 0, 1) := by decide +kernel
theorem dX9_search_235 : decode cX9_search 235 = .ok (.getfield 85, 3) := by decide +kernel
theorem dX9_search_238 : decode cX9_search 238 = .ok (.iload 11, 2) := by decide +kernel
theorem dX9_search_240 : decode cX9_search 240 = .ok (.aload_n 0, 1) := by decide +kernel
theorem dX9_search_241 : decode cX9_search 241 = .ok (.getfield 51, 3) := by decide +kernel
theorem dX9_search_244 : decode cX9_search 244 = .ok (.aload_n 0, 1) := by decide +kernel
theorem dX9_search_245 : decode cX9_search 245 = .ok (.getfield 69, 3) := by decide +kernel
theorem dX9_search_248 : decode cX9_search 248 = .ok (.iload 11, 2) := by decide +kernel
theorem dX9_search_250 : decode cX9_search 250 = .ok (.iaload, 1) := by decide +kernel
theorem dX9_search_251 : decode cX9_search 251 = .ok (.iaload, 1) := by decide +kernel
theorem dX9_search_252 : decode cX9_search 252 = .ok (.iastore, 1) := by decide +kernel
theorem dX9_search_253 : decode cX9_search 253 = .ok (.iinc 11 1, 3) := by decide +kernel
theorem dX9_search_256 : decode cX9_search 256 = .ok (.goto (-28), 3) := by decide +kernel
theorem dX9_search_259 : decode cX9_search 259 = .ok (.goto 26, 3) := by decide +kernel
theorem dX9_search_262 : decode cX9_search 262 = .ok (.iinc 7 1, 3) := by decide +kernel
theorem dX9_search_265 : decode cX9_search 265 = .ok (.aload_n 0, 1) := by decide +kernel
theorem dX9_search_266 : decode cX9_search 266 = .ok (.getfield 36, 3) := by decide +kernel
theorem dX9_search_269 : decode cX9_search 269 = .ok (.aload_n 0, 1) := by decide +kernel
theorem dX9_search_270 : decode cX9_search 270 = .ok (.getfield 69, 3) := by decide +kernel
theorem dX9_search_273 : decode cX9_search 273 = .ok (.iload 7, 2) := by decide +kernel
theorem dX9_search_275 : decode cX9_search 275 = .ok (.iaload, 1) := by decide +kernel
theorem dX9_search_276 : decode cX9_search 276 = .ok (.iaload, 1) := by decide +kernel
theorem dX9_search_277 : decode cX9_search 277 = .ok (.istore 8, 2) := by decide +kernel
theorem dX9_search_279 : decode cX9_search 279 = .ok (.goto (-234), 3) := by decide +kernel
theorem dX9_search_282 : decode cX9_search 282 = .ok (.iinc 7 (-1), 3) := by decide +kernel
theorem dX9_search_285 : decode cX9_search 285 = .ok (.iload 7, 2) := by decide +kernel
theorem dX9_search_287 : decode cX9_search 287 = .ok (.ifCond .lt 62, 3) := by decide +kernel
theorem dX9_search_290 : decode cX9_search 290 = .ok (.aload_n 0, 1) := by decide +kernel
theorem dX9_search_291 : decode cX9_search 291 = .ok (.getfield 69, 3) := by decide +kernel
theorem dX9_search_294 : decode cX9_search 294 = .ok (.iload 7, 2) := by decide +kernel
theorem dX9_search_296 : decode cX9_search 296 = .ok (.iaload, 1) := by decide +kernel
theorem dX9_search_297 : decode cX9_search 297 = .ok (.istore 9, 2) := by decide +kernel
theorem dX9_search_299 : decode cX9_search 299 = .ok (.lload 5, 2) := by decide +kernel
theorem dX9_search_301 : decode cX9_search 301 = .ok (.aload_n 0, 1) := by decide +kernel
theorem dX9_search_302 : decode cX9_search 302 = .ok (.getfield 78, 3) := by decide +kernel
theorem dX9_search_305 : decode cX9_search 305 = .ok (.bipush 24, 2) := by decide +kernel
theorem dX9_search_307 : decode cX9_search 307 = .ok (.iload 7, 2) := by decide +kernel
theorem dX9_search_309 : decode cX9_search 309 = .ok (.imul, 1) := by decide +kernel
theorem dX9_search_310 : decode cX9_search 310 = .ok (.aload_n 0, 1) := by decide +kernel
theorem dX9_search_311 : decode cX9_search 311 = .ok (.getfield 51, 3) := by decide +kernel
theorem dX9_search_314 : decode cX9_search 314 = .ok (.iload 9, 2) := by decide +kernel
theorem dX9_search_316 : decode cX9_search 316 = .ok (.iaload, 1) := by decide +kernel
theorem dX9_search_317 : decode cX9_search 317 = .ok (.iadd, 1) := by decide +kernel
theorem dX9_search_318 : decode cX9_search 318 = .ok (.aload_n 0, 1) := by decide +kernel
theorem dX9_search_319 : decode cX9_search 319 = .ok (.getfield 36, 3) := by decide +kernel
theorem dX9_search_322 : decode cX9_search 322 = .ok (.iload 9, 2) := by decide +kernel
theorem dX9_search_324 : decode cX9_search 324 = .ok (.iaload, 1) := by decide +kernel
theorem dX9_search_325 : decode cX9_search 325 = .ok (.isub, 1) := by decide +kernel
theorem dX9_search_326 : decode cX9_search 326 = .ok (.laload, 1) := by decide +kernel
theorem dX9_search_327 : decode cX9_search 327 = .ok (.lsub, 1) := by decide +kernel
theorem dX9_search_328 : decode cX9_search 328 = .ok (.lstore 5, 2) := by decide +kernel
theorem dX9_search_330 : decode cX9_search 330 = .ok (.aload_n 0, 1) := by decide +kernel
theorem dX9_search_331 : decode cX9_search 331 = .ok (.getfield 48, 3) := by decide +kernel
theorem dX9_search_334 : decode cX9_search 334 = .ok (.iload 9, 2) := by decide +kernel
theorem dX9_search_336 : decode cX9_search 336 = .ok (.iconst 0, 1) := by decide +kernel
theorem dX9_search_337 : decode cX9_search 337 = .ok (.iastore, 1) := by decide +kernel
theorem dX9_search_338 : decode cX9_search 338 = .ok (.aload_n 0, 1) := by decide +kernel
theorem dX9_search_339 : decode cX9_search 339 = .ok (.getfield 51, 3) := by decide +kernel
theorem dX9_search_342 : decode cX9_search 342 = .ok (.iload 9, 2) := by decide +kernel
theorem dX9_search_344 : decode cX9_search 344 = .ok (.iaload, 1) := by decide +kernel
theorem dX9_search_345 : decode cX9_search 345 = .ok (.iconst 1, 1) := by decide +kernel
theorem dX9_search_346 : decode cX9_search 346 = .ok (.iadd, 1) := by decide +kernel
theorem dX9_search_347 : decode cX9_search 347 = .ok (.istore 8, 2) := by decide +kernel
theorem dX9_search_349 : decode cX9_search 349 = .ok (.goto (-304), 3) := by decide +kernel
theorem dX9_search_352 : decode cX9_search 352 = .ok (.iload 4, 2) := by decide +kernel
theorem dX9_search_354 : decode cX9_search 354 = .ok (.ifCond .eq 7, 3) := by decide +kernel
theorem dX9_search_357 : decode cX9_search 357 = .ok (.lload_n 2, 1) := by decide +kernel
theorem dX9_search_358 : decode cX9_search 358 = .ok (.goto 6, 3) := by decide +kernel
theorem dX9_search_361 : decode cX9_search 361 = .ok (.ldc2_w 229, 3) := by decide +kernel
theorem dX9_search_364 : decode cX9_search 364 = .ok (.lreturn, 1) := by decide +kernel
theorem dX9_each_0 : decode cX9_each 0 = .ok (.aload_n 0, 1) := by decide +kernel
theorem dX9_each_1 : decode cX9_each 1 = .ok (.iconst 0, 1) := by decide +kernel
theorem dX9_each_2 : decode cX9_each 2 = .ok (.putfield 131, 3) := by decide +kernel
theorem dX9_each_5 : decode cX9_each 5 = .ok (.iconst 0, 1) := by decide +kernel
theorem dX9_each_6 : decode cX9_each 6 = .ok (.istore_n 1, 1) := by decide +kernel
theorem dX9_each_7 : decode cX9_each 7 = .ok (.iconst 0, 1) := by decide +kernel
theorem dX9_each_8 : decode cX9_each 8 = .ok (.istore_n 2, 1) := by decide +kernel
theorem dX9_each_9 : decode cX9_each 9 = .ok (.iload_n 2, 1) := by decide +kernel
theorem dX9_each_10 : decode cX9_each 10 = .ok (.aload_n 0, 1) := by decide +kernel
theorem dX9_each_11 : decode cX9_each 11 = .ok (.getfield 148, 3) := by decide +kernel
theorem dX9_each_14 : decode cX9_each 14 = .ok (.if_icmp .ge 30, 3) := by decide +kernel
theorem dX9_each_17 : decode cX9_each 17 = .ok (.aload_n 0, 1) := by decide +kernel
theorem dX9_each_18 : decode cX9_each 18 = .ok (.getfield 48, 3) := by decide +kernel
theorem dX9_each_21 : decode cX9_each 21 = .ok (.iload_n 2, 1) := by decide +kernel
theorem dX9_each_22 : decode cX9_each 22 = .ok (.aload_n 0, 1) := by decide +kernel
theorem dX9_each_23 : decode cX9_each 23 = .ok (.getfield 48, 3) := by decide +kernel
theorem dX9_each_26 : decode cX9_each 26 = .ok (.iload_n 2, 1) := by decide +kernel
theorem dX9_each_27 : decode cX9_each 27 = .ok (.iaload, 1) := by decide +kernel
theorem dX9_each_28 : decode cX9_each 28 = .ok (.iconst 2, 1) := by decide +kernel
theorem dX9_each_29 : decode cX9_each 29 = .ok (.if_icmp .ne 7, 3) := by decide +kernel
theorem dX9_each_32 : decode cX9_each 32 = .ok (.iconst 2, 1) := by decide +kernel
theorem dX9_each_33 : decode cX9_each 33 = .ok (.goto 4, 3) := by decide +kernel
theorem dX9_each_36 : decode cX9_each 36 = .ok (.iconst 0, 1) := by decide +kernel
theorem dX9_each_37 : decode cX9_each 37 = .ok (.iastore, 1) := by decide +kernel
theorem dX9_each_38 : decode cX9_each 38 = .ok (.iinc 2 1, 3) := by decide +kernel
theorem dX9_each_41 : decode cX9_each 41 = .ok (.goto (-32), 3) := by decide +kernel
theorem dX9_each_44 : decode cX9_each 44 = .ok (.iconst 0, 1) := by decide +kernel
theorem dX9_each_45 : decode cX9_each 45 = .ok (.istore_n 2, 1) := by decide +kernel
theorem dX9_each_46 : decode cX9_each 46 = .ok (.iload_n 2, 1) := by decide +kernel
theorem dX9_each_47 : decode cX9_each 47 = .ok (.aload_n 0, 1) := by decide +kernel
theorem dX9_each_48 : decode cX9_each 48 = .ok (.getfield 148, 3) := by decide +kernel
theorem dX9_each_51 : decode cX9_each 51 = .ok (.if_icmp .ge 124, 3) := by decide +kernel
theorem dX9_each_54 : decode cX9_each 54 = .ok (.aload_n 0, 1) := by decide +kernel
theorem dX9_each_55 : decode cX9_each 55 = .ok (.getfield 48, 3) := by decide +kernel
theorem dX9_each_58 : decode cX9_each 58 = .ok (.iload_n 2, 1) := by decide +kernel
theorem dX9_each_59 : decode cX9_each 59 = .ok (.iaload, 1) := by decide +kernel
theorem dX9_each_60 : decode cX9_each 60 = .ok (.iconst 2, 1) := by decide +kernel
theorem dX9_each_61 : decode cX9_each 61 = .ok (.if_icmp .ne 6, 3) := by decide +kernel
theorem dX9_each_64 : decode cX9_each 64 = .ok (.goto 105, 3) := by decide +kernel
theorem dX9_each_67 : decode cX9_each 67 = .ok (.iconst (-1), 1) := by decide +kernel
theorem dX9_each_68 : decode cX9_each 68 = .ok (.istore_n 3, 1) := by decide +kernel
theorem dX9_each_69 : decode cX9_each 69 = .ok (.lconst 0, 1) := by decide +kernel
theorem dX9_each_70 : decode cX9_each 70 = .ok (.lstore 4, 2) := by decide +kernel
theorem dX9_each_72 : decode cX9_each 72 = .ok (.aload_n 0, 1) := by decide +kernel
theorem dX9_each_73 : decode cX9_each 73 = .ok (.getfield 36, 3) := by decide +kernel
theorem dX9_each_76 : decode cX9_each 76 = .ok (.iload_n 2, 1) := by decide +kernel
theorem dX9_each_77 : decode cX9_each 77 = .ok (.iaload, 1) := by decide +kernel
theorem dX9_each_78 : decode cX9_each 78 = .ok (.istore 6, 2) := by decide +kernel
theorem dX9_each_80 : decode cX9_each 80 = .ok (.iload 6, 2) := by decide +kernel
theorem dX9_each_82 : decode cX9_each 82 = .ok (.aload_n 0, 1) := by decide +kernel
theorem dX9_each_83 : decode cX9_each 83 = .ok (.getfield 39, 3) := by decide +kernel
theorem dX9_each_86 : decode cX9_each 86 = .ok (.iload_n 2, 1) := by decide +kernel
theorem dX9_each_87 : decode cX9_each 87 = .ok (.iaload, 1) := by decide +kernel
theorem dX9_each_88 : decode cX9_each 88 = .ok (.if_icmp .gt 51, 3) := by decide +kernel
theorem dX9_each_91 : decode cX9_each 91 = .ok (.aload_n 0, 1) := by decide +kernel
theorem dX9_each_92 : decode cX9_each 92 = .ok (.iload_n 2, 1) := by decide +kernel
theorem dX9_each_93 : decode cX9_each 93 = .ok (.iload 6, 2) := by decide +kernel
theorem dX9_each_95 : decode cX9_each 95 = .ok (.invokevirtual 220, 3) := by decide +kernel
theorem dX9_each_98 : decode cX9_each 98 = .ok (.ifCond .eq 35, 3) := by decide +kernel
theorem dX9_each_101 : decode cX9_each 101 = .ok (.aload_n 0, 1) := by decide +kernel
theorem dX9_each_102 : decode cX9_each 102 = .ok (.iload_n 2, 1) := by decide +kernel
theorem dX9_each_103 : decode cX9_each 103 = .ok (.iload 6, 2) := by decide +kernel
theorem dX9_each_105 : decode cX9_each 105 = .ok (.aload_n 0, 1) := by decide +kernel
theorem dX9_each_106 : decode cX9_each 106 = .ok (.getfield 173, 3) := by decide +kernel
theorem dX9_each_109 : decode cX9_each 109 = .ok (.invokevirtual 233, 3) := by decide +kernel
theorem dX9_each_112 : decode cX9_each 112 = .ok (.lstore 7, 2) := by decide +kernel
theorem dX9_each_114 : decode cX9_each 114 = .ok (.iload_n 3, 1) := by decide +kernel
theorem dX9_each_115 : decode cX9_each 115 = .ok (.ifCond .lt 11, 3) := by decide +kernel
theorem dX9_each_118 : decode cX9_each 118 = .ok (.lload 7, 2) := by decide +kernel
theorem dX9_each_120 : decode cX9_each 120 = .ok (.lload 4, 2) := by decide +kernel
theorem dX9_each_122 : decode cX9_each 122 = .ok (.lcmp, 1) := by decide +kernel
theorem dX9_each_123 : decode cX9_each 123 = .ok (.ifCond .ge 10, 3) := by decide +kernel
theorem dX9_each_126 : decode cX9_each 126 = .ok (.iload 6, 2) := by decide +kernel
theorem dX9_each_128 : decode cX9_each 128 = .ok (.istore_n 3, 1) := by decide +kernel
theorem dX9_each_129 : decode cX9_each 129 = .ok (.lload 7, 2) := by decide +kernel
theorem dX9_each_131 : decode cX9_each 131 = .ok (.lstore 4, 2) := by decide +kernel
theorem dX9_each_133 : decode cX9_each 133 = .ok (.iinc 6 1, 3) := by decide +kernel
theorem dX9_each_136 : decode cX9_each 136 = .ok (.goto (-56), 3) := by decide +kernel
theorem dX9_each_139 : decode cX9_each 139 = .ok (.iload_n 3, 1) := by decide +kernel
theorem dX9_each_140 : decode cX9_each 140 = .ok (.ifCond .lt 17, 3) := by decide +kernel
theorem dX9_each_143 : decode cX9_each 143 = .ok (.aload_n 0, 1) := by decide +kernel
theorem dX9_each_144 : decode cX9_each 144 = .ok (.getfield 48, 3) := by decide +kernel
theorem dX9_each_147 : decode cX9_each 147 = .ok (.iload_n 2, 1) := by decide +kernel
theorem dX9_each_148 : decode cX9_each 148 = .ok (.iconst 1, 1) := by decide +kernel
theorem dX9_each_149 : decode cX9_each 149 = .ok (.iastore, 1) := by decide +kernel
theorem dX9_each_150 : decode cX9_each 150 = .ok (.aload_n 0, 1) := by decide +kernel
theorem dX9_each_151 : decode cX9_each 151 = .ok (.getfield 51, 3) := by decide +kernel
theorem dX9_each_154 : decode cX9_each 154 = .ok (.iload_n 2, 1) := by decide +kernel
theorem dX9_each_155 : decode cX9_each 155 = .ok (.iload_n 3, 1) := by decide +kernel
theorem dX9_each_156 : decode cX9_each 156 = .ok (.iastore, 1) := by decide +kernel
theorem dX9_each_157 : decode cX9_each 157 = .ok (.iload_n 1, 1) := by decide +kernel
theorem dX9_each_158 : decode cX9_each 158 = .ok (.iload_n 3, 1) := by decide +kernel
theorem dX9_each_159 : decode cX9_each 159 = .ok (.ifCond .ge 7, 3) := by decide +kernel
theorem dX9_each_162 : decode cX9_each 162 = .ok (.iconst 1, 1) := by decide +kernel
theorem dX9_each_163 : decode cX9_each 163 = .ok (.goto 4, 3) := by decide +kernel
theorem dX9_each_166 : decode cX9_each 166 = .ok (.iconst 0, 1) := by decide +kernel
theorem dX9_each_167 : decode cX9_each 167 = .ok (.iadd, 1) := by decide +kernel
theorem dX9_each_168 : decode cX9_each 168 = .ok (.istore_n 1, 1) := by decide +kernel
theorem dX9_each_169 : decode cX9_each 169 = .ok (.iinc 2 1, 3) := by decide +kernel
theorem dX9_each_172 : decode cX9_each 172 = .ok (.goto (-126), 3) := by decide +kernel
theorem dX9_each_175 : decode cX9_each 175 = .ok (.iload_n 1, 1) := by decide +kernel
theorem dX9_each_176 : decode cX9_each 176 = .ok (.ireturn, 1) := by decide +kernel
theorem dX9_go_0 : decode cX9_go 0 = .ok (.aload_n 0, 1) := by decide +kernel
theorem dX9_go_1 : decode cX9_go 1 = .ok (.iconst 0, 1) := by decide +kernel
theorem dX9_go_2 : decode cX9_go 2 = .ok (.putfield 131, 3) := by decide +kernel
theorem dX9_go_5 : decode cX9_go 5 = .ok (.iload_n 1, 1) := by decide +kernel
theorem dX9_go_6 : decode cX9_go 6 = .ok (.i2l, 1) := by decide +kernel
theorem dX9_go_7 : decode cX9_go 7 = .ok (.lconst 1, 1) := by decide +kernel
theorem dX9_go_8 : decode cX9_go 8 = .ok (.ldc2_w 241, 3) := by decide +kernel
theorem dX9_go_11 : decode cX9_go 11 = .ok (.invokestatic 139, 3) := by decide +kernel
theorem dX9_go_14 : decode cX9_go 14 = .ok (.ifCond .eq 15, 3) := by decide +kernel
theorem dX9_go_17 : decode cX9_go 17 = .ok (.aload_n 0, 1) := by decide +kernel
theorem dX9_go_18 : decode cX9_go 18 = .ok (.getfield 173, 3) := by decide +kernel
theorem dX9_go_21 : decode cX9_go 21 = .ok (.iload_n 1, 1) := by decide +kernel
theorem dX9_go_22 : decode cX9_go 22 = .ok (.iadd, 1) := by decide +kernel
theorem dX9_go_23 : decode cX9_go 23 = .ok (.sipush 167, 3) := by decide +kernel
theorem dX9_go_26 : decode cX9_go 26 = .ok (.if_icmp .le 9, 3) := by decide +kernel
theorem dX9_go_29 : decode cX9_go 29 = .ok (.aload_n 0, 1) := by decide +kernel
theorem dX9_go_30 : decode cX9_go 30 = .ok (.iconst (-1), 1) := by decide +kernel
theorem dX9_go_31 : decode cX9_go 31 = .ok (.invokevirtual 162, 3) := by decide +kernel
theorem dX9_go_34 : decode cX9_go 34 = .ok (.ireturn, 1) := by decide +kernel
theorem dX9_go_35 : decode cX9_go 35 = .ok (.iconst 0, 1) := by decide +kernel
theorem dX9_go_36 : decode cX9_go 36 = .ok (.istore_n 2, 1) := by decide +kernel
theorem dX9_go_37 : decode cX9_go 37 = .ok (.iload_n 2, 1) := by decide +kernel
theorem dX9_go_38 : decode cX9_go 38 = .ok (.iload_n 1, 1) := by decide +kernel
theorem dX9_go_39 : decode cX9_go 39 = .ok (.if_icmp .ge 74, 3) := by decide +kernel
theorem dX9_go_42 : decode cX9_go 42 = .ok (.iconst 0, 1) := by decide +kernel
theorem dX9_go_43 : decode cX9_go 43 = .ok (.istore_n 3, 1) := by decide +kernel
theorem dX9_go_44 : decode cX9_go 44 = .ok (.iload_n 3, 1) := by decide +kernel
theorem dX9_go_45 : decode cX9_go 45 = .ok (.aload_n 0, 1) := by decide +kernel
theorem dX9_go_46 : decode cX9_go 46 = .ok (.getfield 148, 3) := by decide +kernel
theorem dX9_go_49 : decode cX9_go 49 = .ok (.if_icmp .ge 48, 3) := by decide +kernel
theorem dX9_go_52 : decode cX9_go 52 = .ok (.aload_n 0, 1) := by decide +kernel
theorem dX9_go_53 : decode cX9_go 53 = .ok (.getfield 48, 3) := by decide +kernel
theorem dX9_go_56 : decode cX9_go 56 = .ok (.iload_n 3, 1) := by decide +kernel
theorem dX9_go_57 : decode cX9_go 57 = .ok (.aload_n 0, 1) := by decide +kernel
theorem dX9_go_58 : decode cX9_go 58 = .ok (.getfield 48, 3) := by decide +kernel
theorem dX9_go_61 : decode cX9_go 61 = .ok (.iload_n 3, 1) := by decide +kernel
theorem dX9_go_62 : decode cX9_go 62 = .ok (.iaload, 1) := by decide +kernel
theorem dX9_go_63 : decode cX9_go 63 = .ok (.iconst 1, 1) := by decide +kernel
theorem dX9_go_64 : decode cX9_go 64 = .ok (.if_icmp .ne 20, 3) := by decide +kernel
theorem dX9_go_67 : decode cX9_go 67 = .ok (.aload_n 0, 1) := by decide +kernel
theorem dX9_go_68 : decode cX9_go 68 = .ok (.getfield 51, 3) := by decide +kernel
theorem dX9_go_71 : decode cX9_go 71 = .ok (.iload_n 3, 1) := by decide +kernel
theorem dX9_go_72 : decode cX9_go 72 = .ok (.iaload, 1) := by decide +kernel
theorem dX9_go_73 : decode cX9_go 73 = .ok (.aload_n 0, 1) := by decide +kernel
theorem dX9_go_74 : decode cX9_go 74 = .ok (.getfield 173, 3) := by decide +kernel
theorem dX9_go_77 : decode cX9_go 77 = .ok (.if_icmp .ne 7, 3) := by decide +kernel
theorem dX9_go_80 : decode cX9_go 80 = .ok (.iconst 2, 1) := by decide +kernel
theorem dX9_go_81 : decode cX9_go 81 = .ok (.goto 9, 3) := by decide +kernel
theorem dX9_go_84 : decode cX9_go 84 = .ok (.aload_n 0, 1) := by decide +kernel
theorem dX9_go_85 : decode cX9_go 85 = .ok (.getfield 48, 3) := by decide +kernel
theorem dX9_go_88 : decode cX9_go 88 = .ok (.iload_n 3, 1) := by decide +kernel
theorem dX9_go_89 : decode cX9_go 89 = .ok (.iaload, 1) := by decide +kernel
theorem dX9_go_90 : decode cX9_go 90 = .ok (.iastore, 1) := by decide +kernel
theorem dX9_go_91 : decode cX9_go 91 = .ok (.iinc 3 1, 3) := by decide +kernel
theorem dX9_go_94 : decode cX9_go 94 = .ok (.goto (-50), 3) := by decide +kernel
theorem dX9_go_97 : decode cX9_go 97 = .ok (.aload_n 0, 1) := by decide +kernel
theorem dX9_go_98 : decode cX9_go 98 = .ok (.dup, 1) := by decide +kernel
theorem dX9_go_99 : decode cX9_go 99 = .ok (.getfield 173, 3) := by decide +kernel
theorem dX9_go_102 : decode cX9_go 102 = .ok (.iconst 1, 1) := by decide +kernel
theorem dX9_go_103 : decode cX9_go 103 = .ok (.iadd, 1) := by decide +kernel
theorem dX9_go_104 : decode cX9_go 104 = .ok (.putfield 173, 3) := by decide +kernel
theorem dX9_go_107 : decode cX9_go 107 = .ok (.iinc 2 1, 3) := by decide +kernel
theorem dX9_go_110 : decode cX9_go 110 = .ok (.goto (-73), 3) := by decide +kernel
theorem dX9_go_113 : decode cX9_go 113 = .ok (.aload_n 0, 1) := by decide +kernel
theorem dX9_go_114 : decode cX9_go 114 = .ok (.iconst 0, 1) := by decide +kernel
theorem dX9_go_115 : decode cX9_go 115 = .ok (.putfield 169, 3) := by decide +kernel
theorem dX9_go_118 : decode cX9_go 118 = .ok (.aload_n 0, 1) := by decide +kernel
theorem dX9_go_119 : decode cX9_go 119 = .ok (.aload_n 0, 1) := by decide +kernel
theorem dX9_go_120 : decode cX9_go 120 = .ok (.getfield 173, 3) := by decide +kernel
theorem dX9_go_123 : decode cX9_go 123 = .ok (.invokevirtual 162, 3) := by decide +kernel
theorem dX9_go_126 : decode cX9_go 126 = .ok (.ireturn, 1) := by decide +kernel
theorem dX9_cost_0 : decode cX9_cost 0 = .ok (.aload_n 0, 1) := by decide +kernel
theorem dX9_cost_1 : decode cX9_cost 1 = .ok (.iconst 0, 1) := by decide +kernel
theorem dX9_cost_2 : decode cX9_cost 2 = .ok (.putfield 131, 3) := by decide +kernel
theorem dX9_cost_5 : decode cX9_cost 5 = .ok (.aload_n 0, 1) := by decide +kernel
theorem dX9_cost_6 : decode cX9_cost 6 = .ok (.iload_n 1, 1) := by decide +kernel
theorem dX9_cost_7 : decode cX9_cost 7 = .ok (.invokevirtual 193, 3) := by decide +kernel
theorem dX9_cost_10 : decode cX9_cost 10 = .ok (.ifCond .eq 34, 3) := by decide +kernel
theorem dX9_cost_13 : decode cX9_cost 13 = .ok (.aload_n 0, 1) := by decide +kernel
theorem dX9_cost_14 : decode cX9_cost 14 = .ok (.getfield 48, 3) := by decide +kernel
theorem dX9_cost_17 : decode cX9_cost 17 = .ok (.iload_n 1, 1) := by decide +kernel
theorem dX9_cost_18 : decode cX9_cost 18 = .ok (.iaload, 1) := by decide +kernel
theorem dX9_cost_19 : decode cX9_cost 19 = .ok (.ifCond .eq 25, 3) := by decide +kernel
theorem dX9_cost_22 : decode cX9_cost 22 = .ok (.iload_n 2, 1) := by decide +kernel
theorem dX9_cost_23 : decode cX9_cost 23 = .ok (.invokestatic 159, 3) := by decide +kernel
theorem dX9_cost_26 : decode cX9_cost 26 = .ok (.ifCond .eq 18, 3) := by decide +kernel
theorem dX9_cost_29 : decode cX9_cost 29 = .ok (.aload_n 0, 1) := by decide +kernel
theorem dX9_cost_30 : decode cX9_cost 30 = .ok (.iload_n 1, 1) := by decide +kernel
theorem dX9_cost_31 : decode cX9_cost 31 = .ok (.aload_n 0, 1) := by decide +kernel
theorem dX9_cost_32 : decode cX9_cost 32 = .ok (.getfield 51, 3) := by decide +kernel
theorem dX9_cost_35 : decode cX9_cost 35 = .ok (.iload_n 1, 1) := by decide +kernel
theorem dX9_cost_36 : decode cX9_cost 36 = .ok (.iaload, 1) := by decide +kernel
theorem dX9_cost_37 : decode cX9_cost 37 = .ok (.iload_n 2, 1) := by decide +kernel
theorem dX9_cost_38 : decode cX9_cost 38 = .ok (.invokevirtual 233, 3) := by decide +kernel
theorem dX9_cost_41 : decode cX9_cost 41 = .ok (.goto 4, 3) := by decide +kernel
theorem dX9_cost_44 : decode cX9_cost 44 = .ok (.lconst 0, 1) := by decide +kernel
theorem dX9_cost_45 : decode cX9_cost 45 = .ok (.lreturn, 1) := by decide +kernel
theorem dX9_saved_0 : decode cX9_saved 0 = .ok (.aload_n 0, 1) := by decide +kernel
theorem dX9_saved_1 : decode cX9_saved 1 = .ok (.iconst 0, 1) := by decide +kernel
theorem dX9_saved_2 : decode cX9_saved 2 = .ok (.putfield 131, 3) := by decide +kernel
theorem dX9_saved_5 : decode cX9_saved 5 = .ok (.lconst 0, 1) := by decide +kernel
theorem dX9_saved_6 : decode cX9_saved 6 = .ok (.lstore_n 2, 1) := by decide +kernel
theorem dX9_saved_7 : decode cX9_saved 7 = .ok (.iconst 0, 1) := by decide +kernel
theorem dX9_saved_8 : decode cX9_saved 8 = .ok (.istore 4, 2) := by decide +kernel
theorem dX9_saved_10 : decode cX9_saved 10 = .ok (.iload 4, 2) := by decide +kernel
theorem dX9_saved_12 : decode cX9_saved 12 = .ok (.aload_n 0, 1) := by decide +kernel
theorem dX9_saved_13 : decode cX9_saved 13 = .ok (.getfield 148, 3) := by decide +kernel
theorem dX9_saved_16 : decode cX9_saved 16 = .ok (.if_icmp .ge 63, 3) := by decide +kernel
theorem dX9_saved_19 : decode cX9_saved 19 = .ok (.iload_n 1, 1) := by decide +kernel
theorem dX9_saved_20 : decode cX9_saved 20 = .ok (.invokestatic 159, 3) := by decide +kernel
theorem dX9_saved_23 : decode cX9_saved 23 = .ok (.ifCond .eq 56, 3) := by decide +kernel
theorem dX9_saved_26 : decode cX9_saved 26 = .ok (.lload_n 2, 1) := by decide +kernel
theorem dX9_saved_27 : decode cX9_saved 27 = .ok (.aload_n 0, 1) := by decide +kernel
theorem dX9_saved_28 : decode cX9_saved 28 = .ok (.getfield 48, 3) := by decide +kernel
theorem dX9_saved_31 : decode cX9_saved 31 = .ok (.iload 4, 2) := by decide +kernel
theorem dX9_saved_33 : decode cX9_saved 33 = .ok (.iaload, 1) := by decide +kernel
theorem dX9_saved_34 : decode cX9_saved 34 = .ok (.iconst 2, 1) := by decide +kernel
theorem dX9_saved_35 : decode cX9_saved 35 = .ok (.if_icmp .ne 35, 3) := by decide +kernel
theorem dX9_saved_38 : decode cX9_saved 38 = .ok (.aload_n 0, 1) := by decide +kernel
theorem dX9_saved_39 : decode cX9_saved 39 = .ok (.iload 4, 2) := by decide +kernel
theorem dX9_saved_41 : decode cX9_saved 41 = .ok (.aload_n 0, 1) := by decide +kernel
theorem dX9_saved_42 : decode cX9_saved 42 = .ok (.getfield 36, 3) := by decide +kernel
theorem dX9_saved_45 : decode cX9_saved 45 = .ok (.iload 4, 2) := by decide +kernel
theorem dX9_saved_47 : decode cX9_saved 47 = .ok (.iaload, 1) := by decide +kernel
theorem dX9_saved_48 : decode cX9_saved 48 = .ok (.iload_n 1, 1) := by decide +kernel
theorem dX9_saved_49 : decode cX9_saved 49 = .ok (.invokevirtual 233, 3) := by decide +kernel
theorem dX9_saved_52 : decode cX9_saved 52 = .ok (.aload_n 0, 1) := by decide +kernel
theorem dX9_saved_53 : decode cX9_saved 53 = .ok (.iload 4, 2) := by decide +kernel
theorem dX9_saved_55 : decode cX9_saved 55 = .ok (.aload_n 0, 1) := by decide +kernel
theorem dX9_saved_56 : decode cX9_saved 56 = .ok (.getfield 51, 3) := by decide +kernel
theorem dX9_saved_59 : decode cX9_saved 59 = .ok (.iload 4, 2) := by decide +kernel
theorem dX9_saved_61 : decode cX9_saved 61 = .ok (.iaload, 1) := by decide +kernel
theorem dX9_saved_62 : decode cX9_saved 62 = .ok (.iload_n 1, 1) := by decide +kernel
theorem dX9_saved_63 : decode cX9_saved 63 = .ok (.invokevirtual 233, 3) := by decide +kernel
theorem dX9_saved_66 : decode cX9_saved 66 = .ok (.lsub, 1) := by decide +kernel
theorem dX9_saved_67 : decode cX9_saved 67 = .ok (.goto 4, 3) := by decide +kernel
theorem dX9_saved_70 : decode cX9_saved 70 = .ok (.lconst 0, 1) := by decide +kernel
theorem dX9_saved_71 : decode cX9_saved 71 = .ok (.ladd, 1) := by decide +kernel
theorem dX9_saved_72 : decode cX9_saved 72 = .ok (.lstore_n 2, 1) := by decide +kernel
theorem dX9_saved_73 : decode cX9_saved 73 = .ok (.iinc 4 1, 3) := by decide +kernel
theorem dX9_saved_76 : decode cX9_saved 76 = .ok (.goto (-66), 3) := by decide +kernel
theorem dX9_saved_79 : decode cX9_saved 79 = .ok (.lload_n 2, 1) := by decide +kernel
theorem dX9_saved_80 : decode cX9_saved 80 = .ok (.lreturn, 1) := by decide +kernel
theorem dX9_four_0 : decode cX9_four 0 = .ok (.bipush 24, 2) := by decide +kernel
theorem dX9_four_2 : decode cX9_four 2 = .ok (.istore_n 2, 1) := by decide +kernel
theorem dX9_four_3 : decode cX9_four 3 = .ok (.iload_n 2, 1) := by decide +kernel
theorem dX9_four_4 : decode cX9_four 4 = .ok (.ifCond .lt 35, 3) := by decide +kernel
theorem dX9_four_7 : decode cX9_four 7 = .ok (.aload_n 0, 1) := by decide +kernel
theorem dX9_four_8 : decode cX9_four 8 = .ok (.getfield 91, 3) := by decide +kernel
theorem dX9_four_11 : decode cX9_four 11 = .ok (.aload_n 0, 1) := by decide +kernel
theorem dX9_four_12 : decode cX9_four 12 = .ok (.getfield 243, 3) := by decide +kernel
theorem dX9_four_15 : decode cX9_four 15 = .ok (.iload_n 1, 1) := by decide +kernel
theorem dX9_four_16 : decode cX9_four 16 = .ok (.iload_n 2, 1) := by decide +kernel
theorem dX9_four_17 : decode cX9_four 17 = .ok (.ishr, 1) := by decide +kernel
theorem dX9_four_18 : decode cX9_four 18 = .ok (.sipush 255, 3) := by decide +kernel
theorem dX9_four_21 : decode cX9_four 21 = .ok (.iand, 1) := by decide +kernel
theorem dX9_four_22 : decode cX9_four 22 = .ok (.iastore, 1) := by decide +kernel
theorem dX9_four_23 : decode cX9_four 23 = .ok (.aload_n 0, 1) := by decide +kernel
theorem dX9_four_24 : decode cX9_four 24 = .ok (.dup, 1) := by decide +kernel
theorem dX9_four_25 : decode cX9_four 25 = .ok (.getfield 243, 3) := by decide +kernel
theorem dX9_four_28 : decode cX9_four 28 = .ok (.iconst 1, 1) := by decide +kernel
theorem dX9_four_29 : decode cX9_four 29 = .ok (.iadd, 1) := by decide +kernel
theorem dX9_four_30 : decode cX9_four 30 = .ok (.putfield 243, 3) := by decide +kernel
theorem dX9_four_33 : decode cX9_four 33 = .ok (.iinc 2 (-8), 3) := by decide +kernel
theorem dX9_four_36 : decode cX9_four 36 = .ok (.goto (-33), 3) := by decide +kernel
theorem dX9_four_39 : decode cX9_four 39 = .ok (.return_, 1) := by decide +kernel
theorem dX9_feed_0 : decode cX9_feed 0 = .ok (.aload_n 0, 1) := by decide +kernel
theorem dX9_feed_1 : decode cX9_feed 1 = .ok (.iconst 0, 1) := by decide +kernel
theorem dX9_feed_2 : decode cX9_feed 2 = .ok (.putfield 131, 3) := by decide +kernel
theorem dX9_feed_5 : decode cX9_feed 5 = .ok (.aload_n 0, 1) := by decide +kernel
theorem dX9_feed_6 : decode cX9_feed 6 = .ok (.getfield 243, 3) := by decide +kernel
theorem dX9_feed_9 : decode cX9_feed 9 = .ok (.bipush 20, 2) := by decide +kernel
theorem dX9_feed_11 : decode cX9_feed 11 = .ok (.iadd, 1) := by decide +kernel
theorem dX9_feed_12 : decode cX9_feed 12 = .ok (.sipush 300, 3) := by decide +kernel
theorem dX9_feed_15 : decode cX9_feed 15 = .ok (.if_icmp .le 5, 3) := by decide +kernel
theorem dX9_feed_18 : decode cX9_feed 18 = .ok (.iconst (-1), 1) := by decide +kernel
theorem dX9_feed_19 : decode cX9_feed 19 = .ok (.ireturn, 1) := by decide +kernel
theorem dX9_feed_20 : decode cX9_feed 20 = .ok (.aload_n 0, 1) := by decide +kernel
theorem dX9_feed_21 : decode cX9_feed 21 = .ok (.iload_n 1, 1) := by decide +kernel
theorem dX9_feed_22 : decode cX9_feed 22 = .ok (.invokevirtual 246, 3) := by decide +kernel
theorem dX9_feed_25 : decode cX9_feed 25 = .ok (.aload_n 0, 1) := by decide +kernel
theorem dX9_feed_26 : decode cX9_feed 26 = .ok (.iload_n 2, 1) := by decide +kernel
theorem dX9_feed_27 : decode cX9_feed 27 = .ok (.invokevirtual 246, 3) := by decide +kernel
theorem dX9_feed_30 : decode cX9_feed 30 = .ok (.aload_n 0, 1) := by decide +kernel
theorem dX9_feed_31 : decode cX9_feed 31 = .ok (.iload_n 3, 1) := by decide +kernel
theorem dX9_feed_32 : decode cX9_feed 32 = .ok (.invokevirtual 246, 3) := by decide +kernel
theorem dX9_feed_35 : decode cX9_feed 35 = .ok (.aload_n 0, 1) := by decide +kernel
theorem dX9_feed_36 : decode cX9_feed 36 = .ok (.iload 4, 2) := by decide +kernel
theorem dX9_feed_38 : decode cX9_feed 38 = .ok (.invokevirtual 246, 3) := by decide +kernel
theorem dX9_feed_41 : decode cX9_feed 41 = .ok (.aload_n 0, 1) := by decide +kernel
theorem dX9_feed_42 : decode cX9_feed 42 = .ok (.iload 5, 2) := by decide +kernel
theorem dX9_feed_44 : decode cX9_feed 44 = .ok (.invokevirtual 246, 3) := by decide +kernel
theorem dX9_feed_47 : decode cX9_feed 47 = .ok (.aload_n 0, 1) := by decide +kernel
theorem dX9_feed_48 : decode cX9_feed 48 = .ok (.getfield 243, 3) := by decide +kernel
theorem dX9_feed_51 : decode cX9_feed 51 = .ok (.ireturn, 1) := by decide +kernel
theorem dX9_end_0 : decode cX9_end 0 = .ok (.aload_n 0, 1) := by decide +kernel
theorem dX9_end_1 : decode cX9_end 1 = .ok (.iconst 0, 1) := by decide +kernel
theorem dX9_end_2 : decode cX9_end 2 = .ok (.putfield 131, 3) := by decide +kernel
theorem dX9_end_5 : decode cX9_end 5 = .ok (.iload_n 1, 1) := by decide +kernel
theorem dX9_end_6 : decode cX9_end 6 = .ok (.ifCond .lt 11, 3) := by decide +kernel
theorem dX9_end_9 : decode cX9_end 9 = .ok (.iload_n 1, 1) := by decide +kernel
theorem dX9_end_10 : decode cX9_end 10 = .ok (.aload_n 0, 1) := by decide +kernel
theorem dX9_end_11 : decode cX9_end 11 = .ok (.getfield 243, 3) := by decide +kernel
theorem dX9_end_14 : decode cX9_end 14 = .ok (.if_icmp .le 5, 3) := by decide +kernel
theorem dX9_end_17 : decode cX9_end 17 = .ok (.iconst (-1), 1) := by decide +kernel
theorem dX9_end_18 : decode cX9_end 18 = .ok (.ireturn, 1) := by decide +kernel
theorem dX9_end_19 : decode cX9_end 19 = .ok (.aload_n 0, 1) := by decide +kernel
theorem dX9_end_20 : decode cX9_end 20 = .ok (.iload_n 1, 1) := by decide +kernel
theorem dX9_end_21 : decode cX9_end 21 = .ok (.putfield 243, 3) := by decide +kernel
theorem dX9_end_24 : decode cX9_end 24 = .ok (.iload_n 1, 1) := by decide +kernel
theorem dX9_end_25 : decode cX9_end 25 = .ok (.ireturn, 1) := by decide +kernel
theorem dX9_isSmall_0 : decode cX9_isSmall 0 = .ok (.iload_n 0, 1) := by decide +kernel
theorem dX9_isSmall_1 : decode cX9_isSmall 1 = .ok (.bipush 97, 2) := by decide +kernel
theorem dX9_isSmall_3 : decode cX9_isSmall 3 = .ok (.if_icmp .lt 13, 3) := by decide +kernel
theorem dX9_isSmall_6 : decode cX9_isSmall 6 = .ok (.iload_n 0, 1) := by decide +kernel
theorem dX9_isSmall_7 : decode cX9_isSmall 7 = .ok (.bipush 122, 2) := by decide +kernel
theorem dX9_isSmall_9 : decode cX9_isSmall 9 = .ok (.if_icmp .gt 7, 3) := by decide +kernel
theorem dX9_isSmall_12 : decode cX9_isSmall 12 = .ok (.iconst 1, 1) := by decide +kernel
theorem dX9_isSmall_13 : decode cX9_isSmall 13 = .ok (.goto 4, 3) := by decide +kernel
theorem dX9_isSmall_16 : decode cX9_isSmall 16 = .ok (.iconst 0, 1) := by decide +kernel
theorem dX9_isSmall_17 : decode cX9_isSmall 17 = .ok (.ireturn, 1) := by decide +kernel
theorem dX9_isDigit_0 : decode cX9_isDigit 0 = .ok (.iload_n 0, 1) := by decide +kernel
theorem dX9_isDigit_1 : decode cX9_isDigit 1 = .ok (.bipush 48, 2) := by decide +kernel
theorem dX9_isDigit_3 : decode cX9_isDigit 3 = .ok (.if_icmp .lt 13, 3) := by decide +kernel
theorem dX9_isDigit_6 : decode cX9_isDigit 6 = .ok (.iload_n 0, 1) := by decide +kernel
theorem dX9_isDigit_7 : decode cX9_isDigit 7 = .ok (.bipush 57, 2) := by decide +kernel
theorem dX9_isDigit_9 : decode cX9_isDigit 9 = .ok (.if_icmp .gt 7, 3) := by decide +kernel
theorem dX9_isDigit_12 : decode cX9_isDigit 12 = .ok (.iconst 1, 1) := by decide +kernel
theorem dX9_isDigit_13 : decode cX9_isDigit 13 = .ok (.goto 4, 3) := by decide +kernel
theorem dX9_isDigit_16 : decode cX9_isDigit 16 = .ok (.iconst 0, 1) := by decide +kernel
theorem dX9_isDigit_17 : decode cX9_isDigit 17 = .ok (.ireturn, 1) := by decide +kernel
theorem dX9_next_0 : decode cX9_next 0 = .ok (.aload_n 0, 1) := by decide +kernel
theorem dX9_next_1 : decode cX9_next 1 = .ok (.aload_n 0, 1) := by decide +kernel
theorem dX9_next_2 : decode cX9_next 2 = .ok (.getfield 249, 3) := by decide +kernel
theorem dX9_next_5 : decode cX9_next 5 = .ok (.putfield 252, 3) := by decide +kernel
theorem dX9_next_8 : decode cX9_next 8 = .ok (.aload_n 0, 1) := by decide +kernel
theorem dX9_next_9 : decode cX9_next 9 = .ok (.getfield 252, 3) := by decide +kernel
theorem dX9_next_12 : decode cX9_next 12 = .ok (.aload_n 0, 1) := by decide +kernel
theorem dX9_next_13 : decode cX9_next 13 = .ok (.getfield 243, 3) := by decide +kernel
theorem dX9_next_16 : decode cX9_next 16 = .ok (.if_icmp .ge 30, 3) := by decide +kernel
theorem dX9_next_19 : decode cX9_next 19 = .ok (.aload_n 0, 1) := by decide +kernel
theorem dX9_next_20 : decode cX9_next 20 = .ok (.getfield 91, 3) := by decide +kernel
theorem dX9_next_23 : decode cX9_next 23 = .ok (.aload_n 0, 1) := by decide +kernel
theorem dX9_next_24 : decode cX9_next 24 = .ok (.getfield 252, 3) := by decide +kernel
theorem dX9_next_27 : decode cX9_next 27 = .ok (.iaload, 1) := by decide +kernel
theorem dX9_next_28 : decode cX9_next 28 = .ok (.bipush 32, 2) := by decide +kernel
theorem dX9_next_30 : decode cX9_next 30 = .ok (.if_icmp .ne 16, 3) := by decide +kernel
theorem dX9_next_33 : decode cX9_next 33 = .ok (.aload_n 0, 1) := by decide +kernel
theorem dX9_next_34 : decode cX9_next 34 = .ok (.dup, 1) := by decide +kernel
theorem dX9_next_35 : decode cX9_next 35 = .ok (.getfield 252, 3) := by decide +kernel
theorem dX9_next_38 : decode cX9_next 38 = .ok (.iconst 1, 1) := by decide +kernel
theorem dX9_next_39 : decode cX9_next 39 = .ok (.iadd, 1) := by decide +kernel
theorem dX9_next_40 : decode cX9_next 40 = .ok (.putfield 252, 3) := by decide +kernel
theorem dX9_next_43 : decode cX9_next 43 = .ok (.goto (-35), 3) := by decide +kernel
theorem dX9_next_46 : decode cX9_next 46 = .ok (.aload_n 0, 1) := by decide +kernel
theorem dX9_next_47 : decode cX9_next 47 = .ok (.aload_n 0, 1) := by decide +kernel
theorem dX9_next_48 : decode cX9_next 48 = .ok (.getfield 252, 3) := by decide +kernel
theorem dX9_next_51 : decode cX9_next 51 = .ok (.putfield 249, 3) := by decide +kernel
theorem dX9_next_54 : decode cX9_next 54 = .ok (.aload_n 0, 1) := by decide +kernel
theorem dX9_next_55 : decode cX9_next 55 = .ok (.lconst 0, 1) := by decide +kernel
theorem dX9_next_56 : decode cX9_next 56 = .ok (.putfield 255, 3) := by decide +kernel
theorem dX9_next_59 : decode cX9_next 59 = .ok (.aload_n 0, 1) := by decide +kernel
theorem dX9_next_60 : decode cX9_next 60 = .ok (.aload_n 0, 1) := by decide +kernel
theorem dX9_next_61 : decode cX9_next 61 = .ok (.getfield 252, 3) := by decide +kernel
theorem dX9_next_64 : decode cX9_next 64 = .ok (.aload_n 0, 1) := by decide +kernel
theorem dX9_next_65 : decode cX9_next 65 = .ok (.getfield 243, 3) := by decide +kernel
theorem dX9_next_68 : decode cX9_next 68 = .ok (.if_icmp .ne 7, 3) := by decide +kernel
theorem dX9_next_71 : decode cX9_next 71 = .ok (.iconst 0, 1) := by decide +kernel
theorem dX9_next_72 : decode cX9_next 72 = .ok (.goto 42, 3) := by decide +kernel
theorem dX9_next_75 : decode cX9_next 75 = .ok (.aload_n 0, 1) := by decide +kernel
theorem dX9_next_76 : decode cX9_next 76 = .ok (.getfield 91, 3) := by decide +kernel
theorem dX9_next_79 : decode cX9_next 79 = .ok (.aload_n 0, 1) := by decide +kernel
theorem dX9_next_80 : decode cX9_next 80 = .ok (.getfield 252, 3) := by decide +kernel
theorem dX9_next_83 : decode cX9_next 83 = .ok (.iaload, 1) := by decide +kernel
theorem dX9_next_84 : decode cX9_next 84 = .ok (.invokestatic 259, 3) := by decide +kernel
theorem dX9_next_87 : decode cX9_next 87 = .ok (.ifCond .eq 7, 3) := by decide +kernel
theorem dX9_next_90 : decode cX9_next 90 = .ok (.iconst 1, 1) := by decide +kernel
theorem dX9_next_91 : decode cX9_next 91 = .ok (.goto 23, 3) := by decide +kernel
theorem dX9_next_94 : decode cX9_next 94 = .ok (.aload_n 0, 1) := by decide +kernel
theorem dX9_next_95 : decode cX9_next 95 = .ok (.getfield 91, 3) := by decide +kernel
theorem dX9_next_98 : decode cX9_next 98 = .ok (.aload_n 0, 1) := by decide +kernel
theorem dX9_next_99 : decode cX9_next 99 = .ok (.getfield 252, 3) := by decide +kernel
theorem dX9_next_102 : decode cX9_next 102 = .ok (.iaload, 1) := by decide +kernel
theorem dX9_next_103 : decode cX9_next 103 = .ok (.invokestatic 262, 3) := by decide +kernel
theorem dX9_next_106 : decode cX9_next 106 = .ok (.ifCond .eq 7, 3) := by decide +kernel
theorem dX9_next_109 : decode cX9_next 109 = .ok (.iconst 2, 1) := by decide +kernel
theorem dX9_next_110 : decode cX9_next 110 = .ok (.goto 4, 3) := by decide +kernel
theorem dX9_next_113 : decode cX9_next 113 = .ok (.iconst 3, 1) := by decide +kernel
theorem dX9_next_114 : decode cX9_next 114 = .ok (.putfield 265, 3) := by decide +kernel
theorem dX9_next_117 : decode cX9_next 117 = .ok (.aload_n 0, 1) := by decide +kernel
theorem dX9_next_118 : decode cX9_next 118 = .ok (.getfield 265, 3) := by decide +kernel
theorem dX9_next_121 : decode cX9_next 121 = .ok (.iconst 3, 1) := by decide +kernel
theorem dX9_next_122 : decode cX9_next 122 = .ok (.if_icmp .ne 27, 3) := by decide +kernel
theorem dX9_next_125 : decode cX9_next 125 = .ok (.aload_n 0, 1) := by decide +kernel
theorem dX9_next_126 : decode cX9_next 126 = .ok (.aload_n 0, 1) := by decide +kernel
theorem dX9_next_127 : decode cX9_next 127 = .ok (.getfield 91, 3) := by decide +kernel
theorem dX9_next_130 : decode cX9_next 130 = .ok (.aload_n 0, 1) := by decide +kernel
theorem dX9_next_131 : decode cX9_next 131 = .ok (.getfield 252, 3) := by decide +kernel
theorem dX9_next_134 : decode cX9_next 134 = .ok (.iaload, 1) := by decide +kernel
theorem dX9_next_135 : decode cX9_next 135 = .ok (.i2l, 1) := by decide +kernel
theorem dX9_next_136 : decode cX9_next 136 = .ok (.putfield 255, 3) := by decide +kernel
theorem dX9_next_139 : decode cX9_next 139 = .ok (.aload_n 0, 1) := by decide +kernel
theorem dX9_next_140 : decode cX9_next 140 = .ok (.dup, 1) := by decide +kernel
theorem dX9_next_141 : decode cX9_next 141 = .ok (.getfield 249, 3) := by decide +kernel
theorem dX9_next_144 : decode cX9_next 144 = .ok (.iconst 1, 1) := by decide +kernel
theorem dX9_next_145 : decode cX9_next 145 = .ok (.iadd, 1) := by decide +kernel
theorem dX9_next_146 : decode cX9_next 146 = .ok (.putfield 249, 3) := by decide +kernel
theorem dX9_next_149 : decode cX9_next 149 = .ok (.aload_n 0, 1) := by decide +kernel
theorem dX9_next_150 : decode cX9_next 150 = .ok (.getfield 265, 3) := by decide +kernel
theorem dX9_next_153 : decode cX9_next 153 = .ok (.iconst 1, 1) := by decide +kernel
theorem dX9_next_154 : decode cX9_next 154 = .ok (.if_icmp .ne 89, 3) := by decide +kernel
theorem dX9_next_157 : decode cX9_next 157 = .ok (.aload_n 0, 1) := by decide +kernel
theorem dX9_next_158 : decode cX9_next 158 = .ok (.getfield 249, 3) := by decide +kernel
theorem dX9_next_161 : decode cX9_next 161 = .ok (.aload_n 0, 1) := by decide +kernel
theorem dX9_next_162 : decode cX9_next 162 = .ok (.getfield 243, 3) := by decide +kernel
theorem dX9_next_165 : decode cX9_next 165 = .ok (.if_icmp .ge 78, 3) := by decide +kernel
theorem dX9_next_168 : decode cX9_next 168 = .ok (.aload_n 0, 1) := by decide +kernel
theorem dX9_next_169 : decode cX9_next 169 = .ok (.getfield 91, 3) := by decide +kernel
theorem dX9_next_172 : decode cX9_next 172 = .ok (.aload_n 0, 1) := by decide +kernel
theorem dX9_next_173 : decode cX9_next 173 = .ok (.getfield 249, 3) := by decide +kernel
theorem dX9_next_176 : decode cX9_next 176 = .ok (.iaload, 1) := by decide +kernel
theorem dX9_next_177 : decode cX9_next 177 = .ok (.invokestatic 259, 3) := by decide +kernel
theorem dX9_next_180 : decode cX9_next 180 = .ok (.ifCond .eq 63, 3) := by decide +kernel
theorem dX9_next_183 : decode cX9_next 183 = .ok (.aload_n 0, 1) := by decide +kernel
theorem dX9_next_184 : decode cX9_next 184 = .ok (.aload_n 0, 1) := by decide +kernel
theorem dX9_next_185 : decode cX9_next 185 = .ok (.getfield 249, 3) := by decide +kernel
theorem dX9_next_188 : decode cX9_next 188 = .ok (.aload_n 0, 1) := by decide +kernel
theorem dX9_next_189 : decode cX9_next 189 = .ok (.getfield 252, 3) := by decide +kernel
theorem dX9_next_192 : decode cX9_next 192 = .ok (.isub, 1) := by decide +kernel
theorem dX9_next_193 : decode cX9_next 193 = .ok (.bipush 7, 2) := by decide +kernel
theorem dX9_next_195 : decode cX9_next 195 = .ok (.if_icmp .ge 29, 3) := by decide +kernel
theorem dX9_next_198 : decode cX9_next 198 = .ok (.aload_n 0, 1) := by decide +kernel
theorem dX9_next_199 : decode cX9_next 199 = .ok (.getfield 255, 3) := by decide +kernel
theorem dX9_next_202 : decode cX9_next 202 = .ok (.ldc2_w 268, 3) := by decide +kernel
theorem dX9_next_205 : decode cX9_next 205 = .ok (.lmul, 1) := by decide +kernel
theorem dX9_next_206 : decode cX9_next 206 = .ok (.aload_n 0, 1) := by decide +kernel
theorem dX9_next_207 : decode cX9_next 207 = .ok (.getfield 91, 3) := by decide +kernel
theorem dX9_next_210 : decode cX9_next 210 = .ok (.aload_n 0, 1) := by decide +kernel
theorem dX9_next_211 : decode cX9_next 211 = .ok (.getfield 249, 3) := by decide +kernel
theorem dX9_next_214 : decode cX9_next 214 = .ok (.iaload, 1) := by decide +kernel
theorem dX9_next_215 : decode cX9_next 215 = .ok (.i2l, 1) := by decide +kernel
theorem dX9_next_216 : decode cX9_next 216 = .ok (.ladd, 1) := by decide +kernel
theorem dX9_next_217 : decode cX9_next 217 = .ok (.ldc2_w 270, 3) := by decide +kernel
theorem dX9_next_220 : decode cX9_next 220 = .ok (.lsub, 1) := by decide +kernel
theorem dX9_next_221 : decode cX9_next 221 = .ok (.goto 6, 3) := by decide +kernel
theorem dX9_next_224 : decode cX9_next 224 = .ok (.ldc2_w 272, 3) := by decide +kernel
theorem dX9_next_227 : decode cX9_next 227 = .ok (.putfield 255, 3) := by decide +kernel
theorem dX9_next_230 : decode cX9_next 230 = .ok (.aload_n 0, 1) := by decide +kernel
theorem dX9_next_231 : decode cX9_next 231 = .ok (.dup, 1) := by decide +kernel
theorem dX9_next_232 : decode cX9_next 232 = .ok (.getfield 249, 3) := by decide +kernel
theorem dX9_next_235 : decode cX9_next 235 = .ok (.iconst 1, 1) := by decide +kernel
theorem dX9_next_236 : decode cX9_next 236 = .ok (.iadd, 1) := by decide +kernel
theorem dX9_next_237 : decode cX9_next 237 = .ok (.putfield 249, 3) := by decide +kernel
theorem dX9_next_240 : decode cX9_next 240 = .ok (.goto (-91), 3) := by decide +kernel
theorem dX9_next_243 : decode cX9_next 243 = .ok (.aload_n 0, 1) := by decide +kernel
theorem dX9_next_244 : decode cX9_next 244 = .ok (.getfield 265, 3) := by decide +kernel
theorem dX9_next_247 : decode cX9_next 247 = .ok (.iconst 2, 1) := by decide +kernel
theorem dX9_next_248 : decode cX9_next 248 = .ok (.if_icmp .ne 87, 3) := by decide +kernel
theorem dX9_next_251 : decode cX9_next 251 = .ok (.aload_n 0, 1) := by decide +kernel
theorem dX9_next_252 : decode cX9_next 252 = .ok (.getfield 249, 3) := by decide +kernel
theorem dX9_next_255 : decode cX9_next 255 = .ok (.aload_n 0, 1) := by decide +kernel
theorem dX9_next_256 : decode cX9_next 256 = .ok (.getfield 243, 3) := by decide +kernel
theorem dX9_next_259 : decode cX9_next 259 = .ok (.if_icmp .ge 76, 3) := by decide +kernel
theorem dX9_next_262 : decode cX9_next 262 = .ok (.aload_n 0, 1) := by decide +kernel
theorem dX9_next_263 : decode cX9_next 263 = .ok (.getfield 91, 3) := by decide +kernel
theorem dX9_next_266 : decode cX9_next 266 = .ok (.aload_n 0, 1) := by decide +kernel
theorem dX9_next_267 : decode cX9_next 267 = .ok (.getfield 249, 3) := by decide +kernel
theorem dX9_next_270 : decode cX9_next 270 = .ok (.iaload, 1) := by decide +kernel
theorem dX9_next_271 : decode cX9_next 271 = .ok (.invokestatic 262, 3) := by decide +kernel
theorem dX9_next_274 : decode cX9_next 274 = .ok (.ifCond .eq 61, 3) := by decide +kernel
theorem dX9_next_277 : decode cX9_next 277 = .ok (.aload_n 0, 1) := by decide +kernel
theorem dX9_next_278 : decode cX9_next 278 = .ok (.aload_n 0, 1) := by decide +kernel
theorem dX9_next_279 : decode cX9_next 279 = .ok (.getfield 255, 3) := by decide +kernel
theorem dX9_next_282 : decode cX9_next 282 = .ok (.ldc2_w 157, 3) := by decide +kernel
theorem dX9_next_285 : decode cX9_next 285 = .ok (.lcmp, 1) := by decide +kernel
theorem dX9_next_286 : decode cX9_next 286 = .ok (.ifCond .le 10, 3) := by decide +kernel
theorem dX9_next_289 : decode cX9_next 289 = .ok (.aload_n 0, 1) := by decide +kernel
theorem dX9_next_290 : decode cX9_next 290 = .ok (.getfield 255, 3) := by decide +kernel
theorem dX9_next_293 : decode cX9_next 293 = .ok (.goto 26, 3) := by decide +kernel
theorem dX9_next_296 : decode cX9_next 296 = .ok (.aload_n 0, 1) := by decide +kernel
theorem dX9_next_297 : decode cX9_next 297 = .ok (.getfield 255, 3) := by decide +kernel
theorem dX9_next_300 : decode cX9_next 300 = .ok (.ldc2_w 196, 3) := by decide +kernel
theorem dX9_next_303 : decode cX9_next 303 = .ok (.lmul, 1) := by decide +kernel
theorem dX9_next_304 : decode cX9_next 304 = .ok (.aload_n 0, 1) := by decide +kernel
theorem dX9_next_305 : decode cX9_next 305 = .ok (.getfield 91, 3) := by decide +kernel
theorem dX9_next_308 : decode cX9_next 308 = .ok (.aload_n 0, 1) := by decide +kernel
theorem dX9_next_309 : decode cX9_next 309 = .ok (.getfield 249, 3) := by decide +kernel
theorem dX9_next_312 : decode cX9_next 312 = .ok (.iaload, 1) := by decide +kernel
theorem dX9_next_313 : decode cX9_next 313 = .ok (.i2l, 1) := by decide +kernel
theorem dX9_next_314 : decode cX9_next 314 = .ok (.ladd, 1) := by decide +kernel
theorem dX9_next_315 : decode cX9_next 315 = .ok (.ldc2_w 241, 3) := by decide +kernel
theorem dX9_next_318 : decode cX9_next 318 = .ok (.lsub, 1) := by decide +kernel
theorem dX9_next_319 : decode cX9_next 319 = .ok (.putfield 255, 3) := by decide +kernel
theorem dX9_next_322 : decode cX9_next 322 = .ok (.aload_n 0, 1) := by decide +kernel
theorem dX9_next_323 : decode cX9_next 323 = .ok (.dup, 1) := by decide +kernel
theorem dX9_next_324 : decode cX9_next 324 = .ok (.getfield 249, 3) := by decide +kernel
theorem dX9_next_327 : decode cX9_next 327 = .ok (.iconst 1, 1) := by decide +kernel
theorem dX9_next_328 : decode cX9_next 328 = .ok (.iadd, 1) := by decide +kernel
theorem dX9_next_329 : decode cX9_next 329 = .ok (.putfield 249, 3) := by decide +kernel
theorem dX9_next_332 : decode cX9_next 332 = .ok (.goto (-89), 3) := by decide +kernel
theorem dX9_next_335 : decode cX9_next 335 = .ok (.return_, 1) := by decide +kernel
theorem dX9_isWord_0 : decode cX9_isWord 0 = .ok (.iload_n 1, 1) := by decide +kernel
theorem dX9_isWord_1 : decode cX9_isWord 1 = .ok (.i2l, 1) := by decide +kernel
theorem dX9_isWord_2 : decode cX9_isWord 2 = .ok (.ldc2_w 270, 3) := by decide +kernel
theorem dX9_isWord_5 : decode cX9_isWord 5 = .ok (.lsub, 1) := by decide +kernel
theorem dX9_isWord_6 : decode cX9_isWord 6 = .ok (.ldc2_w 268, 3) := by decide +kernel
theorem dX9_isWord_9 : decode cX9_isWord 9 = .ok (.lmul, 1) := by decide +kernel
theorem dX9_isWord_10 : decode cX9_isWord 10 = .ok (.iload_n 2, 1) := by decide +kernel
theorem dX9_isWord_11 : decode cX9_isWord 11 = .ok (.i2l, 1) := by decide +kernel
theorem dX9_isWord_12 : decode cX9_isWord 12 = .ok (.ladd, 1) := by decide +kernel
theorem dX9_isWord_13 : decode cX9_isWord 13 = .ok (.ldc2_w 270, 3) := by decide +kernel
theorem dX9_isWord_16 : decode cX9_isWord 16 = .ok (.lsub, 1) := by decide +kernel
theorem dX9_isWord_17 : decode cX9_isWord 17 = .ok (.lstore 7, 2) := by decide +kernel
theorem dX9_isWord_19 : decode cX9_isWord 19 = .ok (.iload_n 3, 1) := by decide +kernel
theorem dX9_isWord_20 : decode cX9_isWord 20 = .ok (.ifCond .ne 8, 3) := by decide +kernel
theorem dX9_isWord_23 : decode cX9_isWord 23 = .ok (.lload 7, 2) := by decide +kernel
theorem dX9_isWord_25 : decode cX9_isWord 25 = .ok (.goto 16, 3) := by decide +kernel
theorem dX9_isWord_28 : decode cX9_isWord 28 = .ok (.lload 7, 2) := by decide +kernel
theorem dX9_isWord_30 : decode cX9_isWord 30 = .ok (.ldc2_w 268, 3) := by decide +kernel
theorem dX9_isWord_33 : decode cX9_isWord 33 = .ok (.lmul, 1) := by decide +kernel
theorem dX9_isWord_34 : decode cX9_isWord 34 = .ok (.iload_n 3, 1) := by decide +kernel
theorem dX9_isWord_35 : decode cX9_isWord 35 = .ok (.i2l, 1) := by decide +kernel
theorem dX9_isWord_36 : decode cX9_isWord 36 = .ok (.ladd, 1) := by decide +kernel
theorem dX9_isWord_37 : decode cX9_isWord 37 = .ok (.ldc2_w 270, 3) := by decide +kernel
theorem dX9_isWord_40 : decode cX9_isWord 40 = .ok (.lsub, 1) := by decide +kernel
theorem dX9_isWord_41 : decode cX9_isWord 41 = .ok (.lstore 7, 2) := by decide +kernel
theorem dX9_isWord_43 : decode cX9_isWord 43 = .ok (.iload 4, 2) := by decide +kernel
theorem dX9_isWord_45 : decode cX9_isWord 45 = .ok (.ifCond .ne 8, 3) := by decide +kernel
