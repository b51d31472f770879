/-! the instructions of the methods -/
theorem dc_203_305 : am_dc 203 305 = some (.iastore, 306, 0) := by decide +kernel
theorem dc_203_306 : am_dc 203 306 = some (.iinc 4 1, 309, 0) := by decide +kernel
theorem dc_203_309 : am_dc 203 309 = some (.goto (-50), 312, 259) := by decide +kernel
theorem dc_203_312 : am_dc 203 312 = some (.iload_n 2, 313, 0) := by decide +kernel
theorem dc_203_313 : am_dc 203 313 = some (.iconst 4, 314, 0) := by decide +kernel
theorem dc_203_314 : am_dc 203 314 = some (.if_icmp .ne 61, 317, 375) := by decide +kernel
theorem dc_203_317 : am_dc 203 317 = some (.aload_n 0, 318, 0) := by decide +kernel
theorem dc_203_318 : am_dc 203 318 = some (.getfield 9, 321, 0) := by decide +kernel
theorem dc_203_321 : am_dc 203 321 = some (.bipush 18, 323, 0) := by decide +kernel
theorem dc_203_323 : am_dc 203 323 = some (.aload_n 0, 324, 0) := by decide +kernel
theorem dc_203_324 : am_dc 203 324 = some (.getfield 126, 327, 0) := by decide +kernel
theorem dc_203_327 : am_dc 203 327 = some (.imul, 328, 0) := by decide +kernel
theorem dc_203_328 : am_dc 203 328 = some (.iconst 5, 329, 0) := by decide +kernel
theorem dc_203_329 : am_dc 203 329 = some (.iadd, 330, 0) := by decide +kernel
theorem dc_203_330 : am_dc 203 330 = some (.iload_n 1, 331, 0) := by decide +kernel
theorem dc_203_331 : am_dc 203 331 = some (.iastore, 332, 0) := by decide +kernel
theorem dc_203_332 : am_dc 203 332 = some (.iconst 0, 333, 0) := by decide +kernel
theorem dc_203_333 : am_dc 203 333 = some (.istore 4, 335, 0) := by decide +kernel
theorem dc_203_335 : am_dc 203 335 = some (.iload 4, 337, 0) := by decide +kernel
theorem dc_203_337 : am_dc 203 337 = some (.aload_n 0, 338, 0) := by decide +kernel
theorem dc_203_338 : am_dc 203 338 = some (.getfield 106, 341, 0) := by decide +kernel
theorem dc_203_341 : am_dc 203 341 = some (.if_icmp .ge 34, 344, 375) := by decide +kernel
theorem dc_203_344 : am_dc 203 344 = some (.aload_n 0, 345, 0) := by decide +kernel
theorem dc_203_345 : am_dc 203 345 = some (.getfield 9, 348, 0) := by decide +kernel
theorem dc_203_348 : am_dc 203 348 = some (.bipush 18, 350, 0) := by decide +kernel
theorem dc_203_350 : am_dc 203 350 = some (.aload_n 0, 351, 0) := by decide +kernel
theorem dc_203_351 : am_dc 203 351 = some (.getfield 126, 354, 0) := by decide +kernel
theorem dc_203_354 : am_dc 203 354 = some (.imul, 355, 0) := by decide +kernel
theorem dc_203_355 : am_dc 203 355 = some (.bipush 14, 357, 0) := by decide +kernel
theorem dc_203_357 : am_dc 203 357 = some (.iadd, 358, 0) := by decide +kernel
theorem dc_203_358 : am_dc 203 358 = some (.iload 4, 360, 0) := by decide +kernel
theorem dc_203_360 : am_dc 203 360 = some (.iadd, 361, 0) := by decide +kernel
theorem dc_203_361 : am_dc 203 361 = some (.aload_n 0, 362, 0) := by decide +kernel
theorem dc_203_362 : am_dc 203 362 = some (.getfield 46, 365, 0) := by decide +kernel
theorem dc_203_365 : am_dc 203 365 = some (.iload 4, 367, 0) := by decide +kernel
theorem dc_203_367 : am_dc 203 367 = some (.iaload, 368, 0) := by decide +kernel
theorem dc_203_368 : am_dc 203 368 = some (.iastore, 369, 0) := by decide +kernel
theorem dc_203_369 : am_dc 203 369 = some (.iinc 4 1, 372, 0) := by decide +kernel
theorem dc_203_372 : am_dc 203 372 = some (.goto (-37), 375, 335) := by decide +kernel
theorem dc_203_375 : am_dc 203 375 = some (.aload_n 0, 376, 0) := by decide +kernel
theorem dc_203_376 : am_dc 203 376 = some (.getfield 9, 379, 0) := by decide +kernel
theorem dc_203_379 : am_dc 203 379 = some (.bipush 116, 381, 0) := by decide +kernel
theorem dc_203_381 : am_dc 203 381 = some (.dup2, 382, 0) := by decide +kernel
theorem dc_203_382 : am_dc 203 382 = some (.iaload, 383, 0) := by decide +kernel
theorem dc_203_383 : am_dc 203 383 = some (.iconst 1, 384, 0) := by decide +kernel
theorem dc_203_384 : am_dc 203 384 = some (.iadd, 385, 0) := by decide +kernel
theorem dc_203_385 : am_dc 203 385 = some (.iastore, 386, 0) := by decide +kernel
theorem dc_203_386 : am_dc 203 386 = some (.iconst 0, 387, 0) := by decide +kernel
theorem dc_203_387 : am_dc 203 387 = some (.istore 4, 389, 0) := by decide +kernel
theorem dc_203_389 : am_dc 203 389 = some (.iload 4, 391, 0) := by decide +kernel
theorem dc_203_391 : am_dc 203 391 = some (.iconst 5, 392, 0) := by decide +kernel
theorem dc_203_392 : am_dc 203 392 = some (.if_icmp .ge 16, 395, 408) := by decide +kernel
theorem dc_203_395 : am_dc 203 395 = some (.aload_n 0, 396, 0) := by decide +kernel
theorem dc_203_396 : am_dc 203 396 = some (.iload 4, 398, 0) := by decide +kernel
theorem dc_203_398 : am_dc 203 398 = some (.iconst 0, 399, 0) := by decide +kernel
theorem dc_203_399 : am_dc 203 399 = some (.invokevirtual 154, 402, 0) := by decide +kernel
theorem dc_203_402 : am_dc 203 402 = some (.iinc 4 1, 405, 0) := by decide +kernel
theorem dc_203_405 : am_dc 203 405 = some (.goto (-16), 408, 389) := by decide +kernel
theorem dc_203_408 : am_dc 203 408 = some (.aload_n 0, 409, 0) := by decide +kernel
theorem dc_203_409 : am_dc 203 409 = some (.getfield 9, 412, 0) := by decide +kernel
theorem dc_203_412 : am_dc 203 412 = some (.bipush 115, 414, 0) := by decide +kernel
theorem dc_203_414 : am_dc 203 414 = some (.iconst 0, 415, 0) := by decide +kernel
theorem dc_203_415 : am_dc 203 415 = some (.iastore, 416, 0) := by decide +kernel
theorem dc_203_416 : am_dc 203 416 = some (.iconst 1, 417, 0) := by decide +kernel
theorem dc_203_417 : am_dc 203 417 = some (.ireturn, 418, 0) := by decide +kernel
theorem dc_204_0 : am_dc 204 0 = some (.iconst 0, 1, 0) := by decide +kernel
theorem dc_204_1 : am_dc 204 1 = some (.istore_n 1, 2, 0) := by decide +kernel
theorem dc_204_2 : am_dc 204 2 = some (.aload_n 0, 3, 0) := by decide +kernel
theorem dc_204_3 : am_dc 204 3 = some (.getfield 103, 6, 0) := by decide +kernel
theorem dc_204_6 : am_dc 204 6 = some (.i2l, 7, 0) := by decide +kernel
theorem dc_204_7 : am_dc 204 7 = some (.lconst 1, 8, 0) := by decide +kernel
theorem dc_204_8 : am_dc 204 8 = some (.ldc2_w 132, 11, 0) := by decide +kernel
theorem dc_204_11 : am_dc 204 11 = some (.invokestatic 73, 14, 0) := by decide +kernel
theorem dc_204_14 : am_dc 204 14 = some (.ifCond .ne 5, 17, 19) := by decide +kernel
theorem dc_204_17 : am_dc 204 17 = some (.iconst 0, 18, 0) := by decide +kernel
theorem dc_204_18 : am_dc 204 18 = some (.ireturn, 19, 0) := by decide +kernel
theorem dc_204_19 : am_dc 204 19 = some (.iconst 0, 20, 0) := by decide +kernel
theorem dc_204_20 : am_dc 204 20 = some (.istore_n 2, 21, 0) := by decide +kernel
theorem dc_204_21 : am_dc 204 21 = some (.iload_n 2, 22, 0) := by decide +kernel
theorem dc_204_22 : am_dc 204 22 = some (.aload_n 0, 23, 0) := by decide +kernel
theorem dc_204_23 : am_dc 204 23 = some (.getfield 103, 26, 0) := by decide +kernel
theorem dc_204_26 : am_dc 204 26 = some (.if_icmp .ge 58, 29, 84) := by decide +kernel
theorem dc_204_29 : am_dc 204 29 = some (.aload_n 0, 30, 0) := by decide +kernel
theorem dc_204_30 : am_dc 204 30 = some (.getfield 43, 33, 0) := by decide +kernel
theorem dc_204_33 : am_dc 204 33 = some (.iload_n 2, 34, 0) := by decide +kernel
theorem dc_204_34 : am_dc 204 34 = some (.iaload, 35, 0) := by decide +kernel
theorem dc_204_35 : am_dc 204 35 = some (.i2l, 36, 0) := by decide +kernel
theorem dc_204_36 : am_dc 204 36 = some (.lconst 1, 37, 0) := by decide +kernel
theorem dc_204_37 : am_dc 204 37 = some (.ldc2_w 134, 40, 0) := by decide +kernel
theorem dc_204_40 : am_dc 204 40 = some (.invokestatic 73, 43, 0) := by decide +kernel
theorem dc_204_43 : am_dc 204 43 = some (.ifCond .eq 24, 46, 67) := by decide +kernel
theorem dc_204_46 : am_dc 204 46 = some (.iload_n 2, 47, 0) := by decide +kernel
theorem dc_204_47 : am_dc 204 47 = some (.ifCond .le 22, 50, 69) := by decide +kernel
theorem dc_204_50 : am_dc 204 50 = some (.aload_n 0, 51, 0) := by decide +kernel
theorem dc_204_51 : am_dc 204 51 = some (.getfield 40, 54, 0) := by decide +kernel
theorem dc_204_54 : am_dc 204 54 = some (.iload_n 2, 55, 0) := by decide +kernel
theorem dc_204_55 : am_dc 204 55 = some (.iaload, 56, 0) := by decide +kernel
theorem dc_204_56 : am_dc 204 56 = some (.aload_n 0, 57, 0) := by decide +kernel
theorem dc_204_57 : am_dc 204 57 = some (.getfield 40, 60, 0) := by decide +kernel
theorem dc_204_60 : am_dc 204 60 = some (.iload_n 2, 61, 0) := by decide +kernel
theorem dc_204_61 : am_dc 204 61 = some (.iconst 1, 62, 0) := by decide +kernel
theorem dc_204_62 : am_dc 204 62 = some (.isub, 63, 0) := by decide +kernel
theorem dc_204_63 : am_dc 204 63 = some (.iaload, 64, 0) := by decide +kernel
theorem dc_204_64 : am_dc 204 64 = some (.if_icmp .lt 5, 67, 69) := by decide +kernel
theorem dc_204_67 : am_dc 204 67 = some (.iconst 0, 68, 0) := by decide +kernel
theorem dc_204_68 : am_dc 204 68 = some (.ireturn, 69, 0) := by decide +kernel
theorem dc_204_69 : am_dc 204 69 = some (.iload_n 1, 70, 0) := by decide +kernel
theorem dc_204_70 : am_dc 204 70 = some (.aload_n 0, 71, 0) := by decide +kernel
theorem dc_204_71 : am_dc 204 71 = some (.getfield 43, 74, 0) := by decide +kernel
theorem dc_204_74 : am_dc 204 74 = some (.iload_n 2, 75, 0) := by decide +kernel
theorem dc_204_75 : am_dc 204 75 = some (.iaload, 76, 0) := by decide +kernel
theorem dc_204_76 : am_dc 204 76 = some (.iadd, 77, 0) := by decide +kernel
theorem dc_204_77 : am_dc 204 77 = some (.istore_n 1, 78, 0) := by decide +kernel
theorem dc_204_78 : am_dc 204 78 = some (.iinc 2 1, 81, 0) := by decide +kernel
theorem dc_204_81 : am_dc 204 81 = some (.goto (-60), 84, 21) := by decide +kernel
theorem dc_204_84 : am_dc 204 84 = some (.iload_n 1, 85, 0) := by decide +kernel
theorem dc_204_85 : am_dc 204 85 = some (.bipush 100, 87, 0) := by decide +kernel
theorem dc_204_87 : am_dc 204 87 = some (.if_icmp .ne 7, 90, 94) := by decide +kernel
theorem dc_204_90 : am_dc 204 90 = some (.iconst 1, 91, 0) := by decide +kernel
theorem dc_204_91 : am_dc 204 91 = some (.goto 4, 94, 95) := by decide +kernel
theorem dc_204_94 : am_dc 204 94 = some (.iconst 0, 95, 0) := by decide +kernel
theorem dc_204_95 : am_dc 204 95 = some (.ireturn, 96, 0) := by decide +kernel
theorem dc_205_0 : am_dc 205 0 = some (.iload_n 1, 1, 0) := by decide +kernel
theorem dc_205_1 : am_dc 205 1 = some (.i2l, 2, 0) := by decide +kernel
theorem dc_205_2 : am_dc 205 2 = some (.lconst 0, 3, 0) := by decide +kernel
theorem dc_205_3 : am_dc 205 3 = some (.aload_n 0, 4, 0) := by decide +kernel
theorem dc_205_4 : am_dc 205 4 = some (.getfield 9, 7, 0) := by decide +kernel
theorem dc_205_7 : am_dc 205 7 = some (.bipush 116, 9, 0) := by decide +kernel
theorem dc_205_9 : am_dc 205 9 = some (.iaload, 10, 0) := by decide +kernel
theorem dc_205_10 : am_dc 205 10 = some (.iconst 1, 11, 0) := by decide +kernel
theorem dc_205_11 : am_dc 205 11 = some (.isub, 12, 0) := by decide +kernel
theorem dc_205_12 : am_dc 205 12 = some (.i2l, 13, 0) := by decide +kernel
theorem dc_205_13 : am_dc 205 13 = some (.invokestatic 73, 16, 0) := by decide +kernel
theorem dc_205_16 : am_dc 205 16 = some (.ireturn, 17, 0) := by decide +kernel
theorem dc_206_0 : am_dc 206 0 = some (.aload_n 0, 1, 0) := by decide +kernel
theorem dc_206_1 : am_dc 206 1 = some (.aload_n 0, 2, 0) := by decide +kernel
theorem dc_206_2 : am_dc 206 2 = some (.getfield 126, 5, 0) := by decide +kernel
theorem dc_206_5 : am_dc 206 5 = some (.invokevirtual 136, 8, 0) := by decide +kernel
theorem dc_206_8 : am_dc 206 8 = some (.ifCond .eq 42, 11, 50) := by decide +kernel
theorem dc_206_11 : am_dc 206 11 = some (.aload_n 0, 12, 0) := by decide +kernel
theorem dc_206_12 : am_dc 206 12 = some (.aload_n 0, 13, 0) := by decide +kernel
theorem dc_206_13 : am_dc 206 13 = some (.getfield 126, 16, 0) := by decide +kernel
theorem dc_206_16 : am_dc 206 16 = some (.invokevirtual 139, 19, 0) := by decide +kernel
theorem dc_206_19 : am_dc 206 19 = some (.iconst 1, 20, 0) := by decide +kernel
theorem dc_206_20 : am_dc 206 20 = some (.if_icmp .eq 30, 23, 50) := by decide +kernel
theorem dc_206_23 : am_dc 206 23 = some (.aload_n 0, 24, 0) := by decide +kernel
theorem dc_206_24 : am_dc 206 24 = some (.aload_n 0, 25, 0) := by decide +kernel
theorem dc_206_25 : am_dc 206 25 = some (.getfield 126, 28, 0) := by decide +kernel
theorem dc_206_28 : am_dc 206 28 = some (.iconst 5, 29, 0) := by decide +kernel
theorem dc_206_29 : am_dc 206 29 = some (.invokevirtual 79, 32, 0) := by decide +kernel
theorem dc_206_32 : am_dc 206 32 = some (.ifCond .ge 18, 35, 50) := by decide +kernel
theorem dc_206_35 : am_dc 206 35 = some (.aload_n 0, 36, 0) := by decide +kernel
theorem dc_206_36 : am_dc 206 36 = some (.getfield 106, 39, 0) := by decide +kernel
theorem dc_206_39 : am_dc 206 39 = some (.aload_n 0, 40, 0) := by decide +kernel
theorem dc_206_40 : am_dc 206 40 = some (.aload_n 0, 41, 0) := by decide +kernel
theorem dc_206_41 : am_dc 206 41 = some (.getfield 126, 44, 0) := by decide +kernel
theorem dc_206_44 : am_dc 206 44 = some (.invokevirtual 143, 47, 0) := by decide +kernel
theorem dc_206_47 : am_dc 206 47 = some (.if_icmp .eq 5, 50, 52) := by decide +kernel
theorem dc_206_50 : am_dc 206 50 = some (.iconst 0, 51, 0) := by decide +kernel
theorem dc_206_51 : am_dc 206 51 = some (.ireturn, 52, 0) := by decide +kernel
theorem dc_206_52 : am_dc 206 52 = some (.iconst 0, 53, 0) := by decide +kernel
theorem dc_206_53 : am_dc 206 53 = some (.istore_n 1, 54, 0) := by decide +kernel
theorem dc_206_54 : am_dc 206 54 = some (.iconst 0, 55, 0) := by decide +kernel
theorem dc_206_55 : am_dc 206 55 = some (.istore_n 2, 56, 0) := by decide +kernel
theorem dc_206_56 : am_dc 206 56 = some (.iload_n 2, 57, 0) := by decide +kernel
theorem dc_206_57 : am_dc 206 57 = some (.aload_n 0, 58, 0) := by decide +kernel
theorem dc_206_58 : am_dc 206 58 = some (.getfield 106, 61, 0) := by decide +kernel
theorem dc_206_61 : am_dc 206 61 = some (.if_icmp .ge 31, 64, 92) := by decide +kernel
theorem dc_206_64 : am_dc 206 64 = some (.aload_n 0, 65, 0) := by decide +kernel
theorem dc_206_65 : am_dc 206 65 = some (.getfield 46, 68, 0) := by decide +kernel
theorem dc_206_68 : am_dc 206 68 = some (.iload_n 2, 69, 0) := by decide +kernel
theorem dc_206_69 : am_dc 206 69 = some (.iaload, 70, 0) := by decide +kernel
theorem dc_206_70 : am_dc 206 70 = some (.bipush 100, 72, 0) := by decide +kernel
theorem dc_206_72 : am_dc 206 72 = some (.if_icmp .le 5, 75, 77) := by decide +kernel
theorem dc_206_75 : am_dc 206 75 = some (.iconst 0, 76, 0) := by decide +kernel
theorem dc_206_76 : am_dc 206 76 = some (.ireturn, 77, 0) := by decide +kernel
theorem dc_206_77 : am_dc 206 77 = some (.iload_n 1, 78, 0) := by decide +kernel
theorem dc_206_78 : am_dc 206 78 = some (.aload_n 0, 79, 0) := by decide +kernel
theorem dc_206_79 : am_dc 206 79 = some (.getfield 46, 82, 0) := by decide +kernel
theorem dc_206_82 : am_dc 206 82 = some (.iload_n 2, 83, 0) := by decide +kernel
theorem dc_206_83 : am_dc 206 83 = some (.iaload, 84, 0) := by decide +kernel
theorem dc_206_84 : am_dc 206 84 = some (.iadd, 85, 0) := by decide +kernel
theorem dc_206_85 : am_dc 206 85 = some (.istore_n 1, 86, 0) := by decide +kernel
theorem dc_206_86 : am_dc 206 86 = some (.iinc 2 1, 89, 0) := by decide +kernel
theorem dc_206_89 : am_dc 206 89 = some (.goto (-33), 92, 56) := by decide +kernel
theorem dc_206_92 : am_dc 206 92 = some (.iload_n 1, 93, 0) := by decide +kernel
theorem dc_206_93 : am_dc 206 93 = some (.bipush 100, 95, 0) := by decide +kernel
theorem dc_206_95 : am_dc 206 95 = some (.if_icmp .ne 7, 98, 102) := by decide +kernel
theorem dc_206_98 : am_dc 206 98 = some (.iconst 1, 99, 0) := by decide +kernel
theorem dc_206_99 : am_dc 206 99 = some (.goto 4, 102, 103) := by decide +kernel
theorem dc_206_102 : am_dc 206 102 = some (.iconst 0, 103, 0) := by decide +kernel
theorem dc_206_103 : am_dc 206 103 = some (.ireturn, 104, 0) := by decide +kernel
theorem dc_207_0 : am_dc 207 0 = some (.aload_n 0, 1, 0) := by decide +kernel
theorem dc_207_1 : am_dc 207 1 = some (.iload_n 1, 2, 0) := by decide +kernel
theorem dc_207_2 : am_dc 207 2 = some (.iconst 0, 3, 0) := by decide +kernel
theorem dc_207_3 : am_dc 207 3 = some (.invokevirtual 79, 6, 0) := by decide +kernel
theorem dc_207_6 : am_dc 207 6 = some (.ireturn, 7, 0) := by decide +kernel
theorem dc_208_0 : am_dc 208 0 = some (.aload_n 0, 1, 0) := by decide +kernel
theorem dc_208_1 : am_dc 208 1 = some (.getfield 9, 4, 0) := by decide +kernel
theorem dc_208_4 : am_dc 208 4 = some (.bipush 18, 6, 0) := by decide +kernel
theorem dc_208_6 : am_dc 208 6 = some (.iload_n 1, 7, 0) := by decide +kernel
theorem dc_208_7 : am_dc 208 7 = some (.imul, 8, 0) := by decide +kernel
theorem dc_208_8 : am_dc 208 8 = some (.iload_n 2, 9, 0) := by decide +kernel
theorem dc_208_9 : am_dc 208 9 = some (.iadd, 10, 0) := by decide +kernel
theorem dc_208_10 : am_dc 208 10 = some (.iaload, 11, 0) := by decide +kernel
theorem dc_208_11 : am_dc 208 11 = some (.ireturn, 12, 0) := by decide +kernel
theorem dc_209_0 : am_dc 209 0 = some (.aload_n 0, 1, 0) := by decide +kernel
theorem dc_209_1 : am_dc 209 1 = some (.iload_n 1, 2, 0) := by decide +kernel
theorem dc_209_2 : am_dc 209 2 = some (.iconst 3, 3, 0) := by decide +kernel
theorem dc_209_3 : am_dc 209 3 = some (.invokevirtual 79, 6, 0) := by decide +kernel
theorem dc_209_6 : am_dc 209 6 = some (.ireturn, 7, 0) := by decide +kernel
theorem dc_210_0 : am_dc 210 0 = some (.aload_n 0, 1, 0) := by decide +kernel
theorem dc_210_1 : am_dc 210 1 = some (.getfield 9, 4, 0) := by decide +kernel
theorem dc_210_4 : am_dc 210 4 = some (.bipush 90, 6, 0) := by decide +kernel
theorem dc_210_6 : am_dc 210 6 = some (.iload_n 1, 7, 0) := by decide +kernel
theorem dc_210_7 : am_dc 210 7 = some (.iadd, 8, 0) := by decide +kernel
theorem dc_210_8 : am_dc 210 8 = some (.iload_n 2, 9, 0) := by decide +kernel
theorem dc_210_9 : am_dc 210 9 = some (.iastore, 10, 0) := by decide +kernel
theorem dc_210_10 : am_dc 210 10 = some (.return_, 11, 0) := by decide +kernel
theorem dc_211_0 : am_dc 211 0 = some (.aload_n 0, 1, 0) := by decide +kernel
theorem dc_211_1 : am_dc 211 1 = some (.iload_n 1, 2, 0) := by decide +kernel
theorem dc_211_2 : am_dc 211 2 = some (.invokevirtual 136, 5, 0) := by decide +kernel
theorem dc_211_5 : am_dc 211 5 = some (.ifCond .eq 24, 8, 29) := by decide +kernel
theorem dc_211_8 : am_dc 211 8 = some (.iload_n 2, 9, 0) := by decide +kernel
theorem dc_211_9 : am_dc 211 9 = some (.i2l, 10, 0) := by decide +kernel
theorem dc_211_10 : am_dc 211 10 = some (.lconst 0, 11, 0) := by decide +kernel
theorem dc_211_11 : am_dc 211 11 = some (.ldc2_w 174, 14, 0) := by decide +kernel
theorem dc_211_14 : am_dc 211 14 = some (.invokestatic 73, 17, 0) := by decide +kernel
theorem dc_211_17 : am_dc 211 17 = some (.ifCond .eq 12, 20, 29) := by decide +kernel
theorem dc_211_20 : am_dc 211 20 = some (.aload_n 0, 21, 0) := by decide +kernel
theorem dc_211_21 : am_dc 211 21 = some (.iload_n 1, 22, 0) := by decide +kernel
theorem dc_211_22 : am_dc 211 22 = some (.iload_n 2, 23, 0) := by decide +kernel
theorem dc_211_23 : am_dc 211 23 = some (.invokevirtual 79, 26, 0) := by decide +kernel
theorem dc_211_26 : am_dc 211 26 = some (.goto 4, 29, 30) := by decide +kernel
theorem dc_211_29 : am_dc 211 29 = some (.iconst (-1), 30, 0) := by decide +kernel
theorem dc_211_30 : am_dc 211 30 = some (.ireturn, 31, 0) := by decide +kernel
theorem dc_212_0 : am_dc 212 0 = some (.aload_n 0, 1, 0) := by decide +kernel
theorem dc_212_1 : am_dc 212 1 = some (.iload_n 1, 2, 0) := by decide +kernel
theorem dc_212_2 : am_dc 212 2 = some (.invokevirtual 136, 5, 0) := by decide +kernel
theorem dc_212_5 : am_dc 212 5 = some (.ifCond .eq 32, 8, 37) := by decide +kernel
theorem dc_212_8 : am_dc 212 8 = some (.iload_n 2, 9, 0) := by decide +kernel
theorem dc_212_9 : am_dc 212 9 = some (.i2l, 10, 0) := by decide +kernel
theorem dc_212_10 : am_dc 212 10 = some (.lconst 0, 11, 0) := by decide +kernel
theorem dc_212_11 : am_dc 212 11 = some (.aload_n 0, 12, 0) := by decide +kernel
theorem dc_212_12 : am_dc 212 12 = some (.iload_n 1, 13, 0) := by decide +kernel
theorem dc_212_13 : am_dc 212 13 = some (.invokevirtual 143, 16, 0) := by decide +kernel
theorem dc_212_16 : am_dc 212 16 = some (.iconst 1, 17, 0) := by decide +kernel
theorem dc_212_17 : am_dc 212 17 = some (.isub, 18, 0) := by decide +kernel
theorem dc_212_18 : am_dc 212 18 = some (.i2l, 19, 0) := by decide +kernel
theorem dc_212_19 : am_dc 212 19 = some (.invokestatic 73, 22, 0) := by decide +kernel
theorem dc_212_22 : am_dc 212 22 = some (.ifCond .eq 15, 25, 37) := by decide +kernel
theorem dc_212_25 : am_dc 212 25 = some (.iload_n 3, 26, 0) := by decide +kernel
theorem dc_212_26 : am_dc 212 26 = some (.i2l, 27, 0) := by decide +kernel
theorem dc_212_27 : am_dc 212 27 = some (.lconst 0, 28, 0) := by decide +kernel
theorem dc_212_28 : am_dc 212 28 = some (.ldc2_w 176, 31, 0) := by decide +kernel
theorem dc_212_31 : am_dc 212 31 = some (.invokestatic 73, 34, 0) := by decide +kernel
theorem dc_212_34 : am_dc 212 34 = some (.ifCond .ne 5, 37, 39) := by decide +kernel
theorem dc_212_37 : am_dc 212 37 = some (.iconst (-1), 38, 0) := by decide +kernel
theorem dc_212_38 : am_dc 212 38 = some (.ireturn, 39, 0) := by decide +kernel
theorem dc_212_39 : am_dc 212 39 = some (.iload_n 3, 40, 0) := by decide +kernel
theorem dc_212_40 : am_dc 212 40 = some (.iconst 2, 41, 0) := by decide +kernel
theorem dc_212_41 : am_dc 212 41 = some (.if_icmp .ge 19, 44, 60) := by decide +kernel
theorem dc_212_44 : am_dc 212 44 = some (.aload_n 0, 45, 0) := by decide +kernel
theorem dc_212_45 : am_dc 212 45 = some (.iload_n 1, 46, 0) := by decide +kernel
theorem dc_212_46 : am_dc 212 46 = some (.bipush 6, 48, 0) := by decide +kernel
theorem dc_212_48 : am_dc 212 48 = some (.iconst 4, 49, 0) := by decide +kernel
theorem dc_212_49 : am_dc 212 49 = some (.iload_n 3, 50, 0) := by decide +kernel
theorem dc_212_50 : am_dc 212 50 = some (.imul, 51, 0) := by decide +kernel
theorem dc_212_51 : am_dc 212 51 = some (.iadd, 52, 0) := by decide +kernel
theorem dc_212_52 : am_dc 212 52 = some (.iload_n 2, 53, 0) := by decide +kernel
theorem dc_212_53 : am_dc 212 53 = some (.iadd, 54, 0) := by decide +kernel
theorem dc_212_54 : am_dc 212 54 = some (.invokevirtual 79, 57, 0) := by decide +kernel
theorem dc_212_57 : am_dc 212 57 = some (.goto 26, 60, 83) := by decide +kernel
theorem dc_212_60 : am_dc 212 60 = some (.aload_n 0, 61, 0) := by decide +kernel
theorem dc_212_61 : am_dc 212 61 = some (.iload_n 1, 62, 0) := by decide +kernel
theorem dc_212_62 : am_dc 212 62 = some (.iconst 5, 63, 0) := by decide +kernel
theorem dc_212_63 : am_dc 212 63 = some (.invokevirtual 79, 66, 0) := by decide +kernel
theorem dc_212_66 : am_dc 212 66 = some (.ifCond .ge 8, 69, 74) := by decide +kernel
theorem dc_212_69 : am_dc 212 69 = some (.bipush (-4), 71, 0) := by decide +kernel
theorem dc_212_71 : am_dc 212 71 = some (.goto 12, 74, 83) := by decide +kernel
theorem dc_212_74 : am_dc 212 74 = some (.aload_n 0, 75, 0) := by decide +kernel
theorem dc_212_75 : am_dc 212 75 = some (.iload_n 1, 76, 0) := by decide +kernel
theorem dc_212_76 : am_dc 212 76 = some (.bipush 14, 78, 0) := by decide +kernel
theorem dc_212_78 : am_dc 212 78 = some (.iload_n 2, 79, 0) := by decide +kernel
theorem dc_212_79 : am_dc 212 79 = some (.iadd, 80, 0) := by decide +kernel
theorem dc_212_80 : am_dc 212 80 = some (.invokevirtual 79, 83, 0) := by decide +kernel
theorem dc_212_83 : am_dc 212 83 = some (.ireturn, 84, 0) := by decide +kernel
theorem dc_213_0 : am_dc 213 0 = some (.aload_n 0, 1, 0) := by decide +kernel
theorem dc_213_1 : am_dc 213 1 = some (.iload_n 1, 2, 0) := by decide +kernel
theorem dc_213_2 : am_dc 213 2 = some (.invokevirtual 136, 5, 0) := by decide +kernel
theorem dc_213_5 : am_dc 213 5 = some (.ifCond .eq 29, 8, 34) := by decide +kernel
theorem dc_213_8 : am_dc 213 8 = some (.iload_n 2, 9, 0) := by decide +kernel
theorem dc_213_9 : am_dc 213 9 = some (.i2l, 10, 0) := by decide +kernel
theorem dc_213_10 : am_dc 213 10 = some (.lconst 0, 11, 0) := by decide +kernel
theorem dc_213_11 : am_dc 213 11 = some (.ldc2_w 178, 14, 0) := by decide +kernel
theorem dc_213_14 : am_dc 213 14 = some (.invokestatic 73, 17, 0) := by decide +kernel
theorem dc_213_17 : am_dc 213 17 = some (.ifCond .eq 17, 20, 34) := by decide +kernel
theorem dc_213_20 : am_dc 213 20 = some (.aload_n 0, 21, 0) := by decide +kernel
theorem dc_213_21 : am_dc 213 21 = some (.bipush 18, 23, 0) := by decide +kernel
theorem dc_213_23 : am_dc 213 23 = some (.iload_n 1, 24, 0) := by decide +kernel
theorem dc_213_24 : am_dc 213 24 = some (.imul, 25, 0) := by decide +kernel
theorem dc_213_25 : am_dc 213 25 = some (.iconst 1, 26, 0) := by decide +kernel
theorem dc_213_26 : am_dc 213 26 = some (.iadd, 27, 0) := by decide +kernel
theorem dc_213_27 : am_dc 213 27 = some (.iload_n 2, 28, 0) := by decide +kernel
theorem dc_213_28 : am_dc 213 28 = some (.invokevirtual 180, 31, 0) := by decide +kernel
theorem dc_213_31 : am_dc 213 31 = some (.goto 4, 34, 35) := by decide +kernel
theorem dc_213_34 : am_dc 213 34 = some (.iconst (-1), 35, 0) := by decide +kernel
theorem dc_213_35 : am_dc 213 35 = some (.ireturn, 36, 0) := by decide +kernel
theorem dc_214_0 : am_dc 214 0 = some (.aload_n 0, 1, 0) := by decide +kernel
theorem dc_214_1 : am_dc 214 1 = some (.getfield 9, 4, 0) := by decide +kernel
theorem dc_214_4 : am_dc 214 4 = some (.iload_n 1, 5, 0) := by decide +kernel
theorem dc_214_5 : am_dc 214 5 = some (.iaload, 6, 0) := by decide +kernel
theorem dc_214_6 : am_dc 214 6 = some (.istore_n 3, 7, 0) := by decide +kernel
theorem dc_214_7 : am_dc 214 7 = some (.aload_n 0, 8, 0) := by decide +kernel
theorem dc_214_8 : am_dc 214 8 = some (.getfield 9, 11, 0) := by decide +kernel
theorem dc_214_11 : am_dc 214 11 = some (.iload_n 1, 12, 0) := by decide +kernel
theorem dc_214_12 : am_dc 214 12 = some (.iload_n 2, 13, 0) := by decide +kernel
theorem dc_214_13 : am_dc 214 13 = some (.iastore, 14, 0) := by decide +kernel
theorem dc_214_14 : am_dc 214 14 = some (.aload_n 0, 15, 0) := by decide +kernel
theorem dc_214_15 : am_dc 214 15 = some (.iconst 0, 16, 0) := by decide +kernel
theorem dc_214_16 : am_dc 214 16 = some (.putfield 170, 19, 0) := by decide +kernel
theorem dc_214_19 : am_dc 214 19 = some (.iload_n 3, 20, 0) := by decide +kernel
theorem dc_214_20 : am_dc 214 20 = some (.ireturn, 21, 0) := by decide +kernel
theorem dc_215_0 : am_dc 215 0 = some (.iload_n 1, 1, 0) := by decide +kernel
theorem dc_215_1 : am_dc 215 1 = some (.i2l, 2, 0) := by decide +kernel
theorem dc_215_2 : am_dc 215 2 = some (.lconst 0, 3, 0) := by decide +kernel
theorem dc_215_3 : am_dc 215 3 = some (.ldc2_w 152, 6, 0) := by decide +kernel
theorem dc_215_6 : am_dc 215 6 = some (.invokestatic 73, 9, 0) := by decide +kernel
theorem dc_215_9 : am_dc 215 9 = some (.ifCond .eq 13, 12, 22) := by decide +kernel
theorem dc_215_12 : am_dc 215 12 = some (.aload_n 0, 13, 0) := by decide +kernel
theorem dc_215_13 : am_dc 215 13 = some (.bipush 117, 15, 0) := by decide +kernel
theorem dc_215_15 : am_dc 215 15 = some (.iload_n 1, 16, 0) := by decide +kernel
theorem dc_215_16 : am_dc 215 16 = some (.invokevirtual 180, 19, 0) := by decide +kernel
theorem dc_215_19 : am_dc 215 19 = some (.goto 4, 22, 23) := by decide +kernel
theorem dc_215_22 : am_dc 215 22 = some (.iconst (-1), 23, 0) := by decide +kernel
theorem dc_215_23 : am_dc 215 23 = some (.ireturn, 24, 0) := by decide +kernel
theorem dc_216_0 : am_dc 216 0 = some (.aload_n 0, 1, 0) := by decide +kernel
theorem dc_216_1 : am_dc 216 1 = some (.iload_n 1, 2, 0) := by decide +kernel
theorem dc_216_2 : am_dc 216 2 = some (.invokevirtual 136, 5, 0) := by decide +kernel
theorem dc_216_5 : am_dc 216 5 = some (.ifCond .eq 24, 8, 29) := by decide +kernel
theorem dc_216_8 : am_dc 216 8 = some (.aload_n 0, 9, 0) := by decide +kernel
theorem dc_216_9 : am_dc 216 9 = some (.iload_n 1, 10, 0) := by decide +kernel
theorem dc_216_10 : am_dc 216 10 = some (.invokevirtual 183, 13, 0) := by decide +kernel
theorem dc_216_13 : am_dc 216 13 = some (.iconst 4, 14, 0) := by decide +kernel
theorem dc_216_14 : am_dc 216 14 = some (.if_icmp .le 7, 17, 21) := by decide +kernel
theorem dc_216_17 : am_dc 216 17 = some (.iconst 4, 18, 0) := by decide +kernel
theorem dc_216_18 : am_dc 216 18 = some (.goto 12, 21, 30) := by decide +kernel
theorem dc_216_21 : am_dc 216 21 = some (.aload_n 0, 22, 0) := by decide +kernel
theorem dc_216_22 : am_dc 216 22 = some (.iload_n 1, 23, 0) := by decide +kernel
theorem dc_216_23 : am_dc 216 23 = some (.invokevirtual 183, 26, 0) := by decide +kernel
theorem dc_216_26 : am_dc 216 26 = some (.goto 4, 29, 30) := by decide +kernel
theorem dc_216_29 : am_dc 216 29 = some (.iconst (-1), 30, 0) := by decide +kernel
theorem dc_216_30 : am_dc 216 30 = some (.ireturn, 31, 0) := by decide +kernel
theorem dc_217_0 : am_dc 217 0 = some (.aload_n 0, 1, 0) := by decide +kernel
theorem dc_217_1 : am_dc 217 1 = some (.getfield 9, 4, 0) := by decide +kernel
theorem dc_217_4 : am_dc 217 4 = some (.bipush 90, 6, 0) := by decide +kernel
theorem dc_217_6 : am_dc 217 6 = some (.iload_n 1, 7, 0) := by decide +kernel
theorem dc_217_7 : am_dc 217 7 = some (.iadd, 8, 0) := by decide +kernel
theorem dc_217_8 : am_dc 217 8 = some (.iaload, 9, 0) := by decide +kernel
theorem dc_217_9 : am_dc 217 9 = some (.ireturn, 10, 0) := by decide +kernel
theorem dc_218_0 : am_dc 218 0 = some (.aload_n 0, 1, 0) := by decide +kernel
theorem dc_218_1 : am_dc 218 1 = some (.iload_n 1, 2, 0) := by decide +kernel
theorem dc_218_2 : am_dc 218 2 = some (.invokevirtual 136, 5, 0) := by decide +kernel
theorem dc_218_5 : am_dc 218 5 = some (.ifCond .eq 19, 8, 24) := by decide +kernel
theorem dc_218_8 : am_dc 218 8 = some (.aload_n 0, 9, 0) := by decide +kernel
theorem dc_218_9 : am_dc 218 9 = some (.iload_n 1, 10, 0) := by decide +kernel
theorem dc_218_10 : am_dc 218 10 = some (.invokevirtual 192, 13, 0) := by decide +kernel
theorem dc_218_13 : am_dc 218 13 = some (.ifCond .eq 7, 16, 20) := by decide +kernel
theorem dc_218_16 : am_dc 218 16 = some (.iconst 1, 17, 0) := by decide +kernel
theorem dc_218_17 : am_dc 218 17 = some (.goto 8, 20, 25) := by decide +kernel
theorem dc_218_20 : am_dc 218 20 = some (.iconst 0, 21, 0) := by decide +kernel
theorem dc_218_21 : am_dc 218 21 = some (.goto 4, 24, 25) := by decide +kernel
theorem dc_218_24 : am_dc 218 24 = some (.iconst (-1), 25, 0) := by decide +kernel
theorem dc_218_25 : am_dc 218 25 = some (.ireturn, 26, 0) := by decide +kernel
theorem dc_219_0 : am_dc 219 0 = some (.aload_n 0, 1, 0) := by decide +kernel
theorem dc_219_1 : am_dc 219 1 = some (.iload_n 1, 2, 0) := by decide +kernel
theorem dc_219_2 : am_dc 219 2 = some (.invokevirtual 183, 5, 0) := by decide +kernel
theorem dc_219_5 : am_dc 219 5 = some (.iconst 2, 6, 0) := by decide +kernel
theorem dc_219_6 : am_dc 219 6 = some (.if_icmp .gt 24, 9, 30) := by decide +kernel
theorem dc_219_9 : am_dc 219 9 = some (.aload_n 0, 10, 0) := by decide +kernel
theorem dc_219_10 : am_dc 219 10 = some (.invokevirtual 189, 13, 0) := by decide +kernel
theorem dc_219_13 : am_dc 219 13 = some (.aload_n 0, 14, 0) := by decide +kernel
theorem dc_219_14 : am_dc 219 14 = some (.iload_n 1, 15, 0) := by decide +kernel
theorem dc_219_15 : am_dc 219 15 = some (.iconst 2, 16, 0) := by decide +kernel
theorem dc_219_16 : am_dc 219 16 = some (.invokevirtual 79, 19, 0) := by decide +kernel
theorem dc_219_19 : am_dc 219 19 = some (.iadd, 20, 0) := by decide +kernel
theorem dc_219_20 : am_dc 219 20 = some (.aload_n 0, 21, 0) := by decide +kernel
theorem dc_219_21 : am_dc 219 21 = some (.getfield 9, 24, 0) := by decide +kernel
theorem dc_219_24 : am_dc 219 24 = some (.bipush 117, 26, 0) := by decide +kernel
theorem dc_219_26 : am_dc 219 26 = some (.iaload, 27, 0) := by decide +kernel
theorem dc_219_27 : am_dc 219 27 = some (.if_icmp .le 5, 30, 32) := by decide +kernel
theorem dc_219_30 : am_dc 219 30 = some (.iconst 0, 31, 0) := by decide +kernel
theorem dc_219_31 : am_dc 219 31 = some (.ireturn, 32, 0) := by decide +kernel
theorem dc_219_32 : am_dc 219 32 = some (.aload_n 0, 33, 0) := by decide +kernel
theorem dc_219_33 : am_dc 219 33 = some (.iload_n 1, 34, 0) := by decide +kernel
theorem dc_219_34 : am_dc 219 34 = some (.invokevirtual 139, 37, 0) := by decide +kernel
theorem dc_219_37 : am_dc 219 37 = some (.iconst 3, 38, 0) := by decide +kernel
theorem dc_219_38 : am_dc 219 38 = some (.if_icmp .ne 23, 41, 61) := by decide +kernel
theorem dc_219_41 : am_dc 219 41 = some (.aload_n 0, 42, 0) := by decide +kernel
theorem dc_219_42 : am_dc 219 42 = some (.aload_n 0, 43, 0) := by decide +kernel
theorem dc_219_43 : am_dc 219 43 = some (.iload_n 1, 44, 0) := by decide +kernel
theorem dc_219_44 : am_dc 219 44 = some (.iconst 4, 45, 0) := by decide +kernel
theorem dc_219_45 : am_dc 219 45 = some (.invokevirtual 79, 48, 0) := by decide +kernel
theorem dc_219_48 : am_dc 219 48 = some (.invokevirtual 183, 51, 0) := by decide +kernel
theorem dc_219_51 : am_dc 219 51 = some (.iconst 2, 52, 0) := by decide +kernel
theorem dc_219_52 : am_dc 219 52 = some (.if_icmp .le 7, 55, 59) := by decide +kernel
theorem dc_219_55 : am_dc 219 55 = some (.iconst 1, 56, 0) := by decide +kernel
theorem dc_219_56 : am_dc 219 56 = some (.goto 4, 59, 60) := by decide +kernel
theorem dc_219_59 : am_dc 219 59 = some (.iconst 0, 60, 0) := by decide +kernel
theorem dc_219_60 : am_dc 219 60 = some (.ireturn, 61, 0) := by decide +kernel
theorem dc_219_61 : am_dc 219 61 = some (.aload_n 0, 62, 0) := by decide +kernel
theorem dc_219_62 : am_dc 219 62 = some (.iload_n 1, 63, 0) := by decide +kernel
theorem dc_219_63 : am_dc 219 63 = some (.invokevirtual 139, 66, 0) := by decide +kernel
theorem dc_219_66 : am_dc 219 66 = some (.iconst 5, 67, 0) := by decide +kernel
theorem dc_219_67 : am_dc 219 67 = some (.if_icmp .ne 16, 70, 83) := by decide +kernel
theorem dc_219_70 : am_dc 219 70 = some (.aload_n 0, 71, 0) := by decide +kernel
theorem dc_219_71 : am_dc 219 71 = some (.invokevirtual 189, 74, 0) := by decide +kernel
theorem dc_219_74 : am_dc 219 74 = some (.aload_n 0, 75, 0) := by decide +kernel
theorem dc_219_75 : am_dc 219 75 = some (.iload_n 1, 76, 0) := by decide +kernel
theorem dc_219_76 : am_dc 219 76 = some (.iconst 4, 77, 0) := by decide +kernel
theorem dc_219_77 : am_dc 219 77 = some (.invokevirtual 79, 80, 0) := by decide +kernel
theorem dc_219_80 : am_dc 219 80 = some (.if_icmp .ge 7, 83, 87) := by decide +kernel
theorem dc_219_83 : am_dc 219 83 = some (.iconst 1, 84, 0) := by decide +kernel
theorem dc_219_84 : am_dc 219 84 = some (.goto 4, 87, 88) := by decide +kernel
theorem dc_219_87 : am_dc 219 87 = some (.iconst 0, 88, 0) := by decide +kernel
theorem dc_219_88 : am_dc 219 88 = some (.ireturn, 89, 0) := by decide +kernel
theorem dc_220_0 : am_dc 220 0 = some (.iconst 0, 1, 0) := by decide +kernel
theorem dc_220_1 : am_dc 220 1 = some (.istore_n 1, 2, 0) := by decide +kernel
theorem dc_220_2 : am_dc 220 2 = some (.iconst 0, 3, 0) := by decide +kernel
theorem dc_220_3 : am_dc 220 3 = some (.istore_n 2, 4, 0) := by decide +kernel
theorem dc_220_4 : am_dc 220 4 = some (.iload_n 2, 5, 0) := by decide +kernel
theorem dc_220_5 : am_dc 220 5 = some (.aload_n 0, 6, 0) := by decide +kernel
theorem dc_220_6 : am_dc 220 6 = some (.getfield 9, 9, 0) := by decide +kernel
theorem dc_220_9 : am_dc 220 9 = some (.bipush 116, 11, 0) := by decide +kernel
theorem dc_220_11 : am_dc 220 11 = some (.iaload, 12, 0) := by decide +kernel
theorem dc_220_12 : am_dc 220 12 = some (.if_icmp .ge 31, 15, 43) := by decide +kernel
theorem dc_220_15 : am_dc 220 15 = some (.iload_n 1, 16, 0) := by decide +kernel
theorem dc_220_16 : am_dc 220 16 = some (.aload_n 0, 17, 0) := by decide +kernel
theorem dc_220_17 : am_dc 220 17 = some (.iload_n 2, 18, 0) := by decide +kernel
theorem dc_220_18 : am_dc 220 18 = some (.invokevirtual 183, 21, 0) := by decide +kernel
theorem dc_220_21 : am_dc 220 21 = some (.iconst 2, 22, 0) := by decide +kernel
theorem dc_220_22 : am_dc 220 22 = some (.if_icmp .le 12, 25, 34) := by decide +kernel
theorem dc_220_25 : am_dc 220 25 = some (.aload_n 0, 26, 0) := by decide +kernel
theorem dc_220_26 : am_dc 220 26 = some (.iload_n 2, 27, 0) := by decide +kernel
theorem dc_220_27 : am_dc 220 27 = some (.iconst 2, 28, 0) := by decide +kernel
theorem dc_220_28 : am_dc 220 28 = some (.invokevirtual 79, 31, 0) := by decide +kernel
theorem dc_220_31 : am_dc 220 31 = some (.goto 4, 34, 35) := by decide +kernel
theorem dc_220_34 : am_dc 220 34 = some (.iconst 0, 35, 0) := by decide +kernel
theorem dc_220_35 : am_dc 220 35 = some (.iadd, 36, 0) := by decide +kernel
theorem dc_220_36 : am_dc 220 36 = some (.istore_n 1, 37, 0) := by decide +kernel
theorem dc_220_37 : am_dc 220 37 = some (.iinc 2 1, 40, 0) := by decide +kernel
theorem dc_220_40 : am_dc 220 40 = some (.goto (-36), 43, 4) := by decide +kernel
theorem dc_220_43 : am_dc 220 43 = some (.iload_n 1, 44, 0) := by decide +kernel
theorem dc_220_44 : am_dc 220 44 = some (.ireturn, 45, 0) := by decide +kernel
theorem dc_221_0 : am_dc 221 0 = some (.aload_n 0, 1, 0) := by decide +kernel
theorem dc_221_1 : am_dc 221 1 = some (.iload_n 1, 2, 0) := by decide +kernel
theorem dc_221_2 : am_dc 221 2 = some (.invokevirtual 136, 5, 0) := by decide +kernel
theorem dc_221_5 : am_dc 221 5 = some (.ifCond .eq 20, 8, 25) := by decide +kernel
theorem dc_221_8 : am_dc 221 8 = some (.iload_n 2, 9, 0) := by decide +kernel
theorem dc_221_9 : am_dc 221 9 = some (.i2l, 10, 0) := by decide +kernel
theorem dc_221_10 : am_dc 221 10 = some (.lconst 0, 11, 0) := by decide +kernel
theorem dc_221_11 : am_dc 221 11 = some (.aload_n 0, 12, 0) := by decide +kernel
theorem dc_221_12 : am_dc 221 12 = some (.iload_n 1, 13, 0) := by decide +kernel
theorem dc_221_13 : am_dc 221 13 = some (.invokevirtual 143, 16, 0) := by decide +kernel
theorem dc_221_16 : am_dc 221 16 = some (.iconst 1, 17, 0) := by decide +kernel
theorem dc_221_17 : am_dc 221 17 = some (.isub, 18, 0) := by decide +kernel
theorem dc_221_18 : am_dc 221 18 = some (.i2l, 19, 0) := by decide +kernel
theorem dc_221_19 : am_dc 221 19 = some (.invokestatic 73, 22, 0) := by decide +kernel
theorem dc_221_22 : am_dc 221 22 = some (.ifCond .ne 5, 25, 27) := by decide +kernel
theorem dc_221_25 : am_dc 221 25 = some (.iconst (-1), 26, 0) := by decide +kernel
theorem dc_221_26 : am_dc 221 26 = some (.ireturn, 27, 0) := by decide +kernel
theorem dc_221_27 : am_dc 221 27 = some (.aload_n 0, 28, 0) := by decide +kernel
theorem dc_221_28 : am_dc 221 28 = some (.iload_n 1, 29, 0) := by decide +kernel
theorem dc_221_29 : am_dc 221 29 = some (.invokevirtual 192, 32, 0) := by decide +kernel
theorem dc_221_32 : am_dc 221 32 = some (.ifCond .eq 12, 35, 44) := by decide +kernel
theorem dc_221_35 : am_dc 221 35 = some (.aload_n 0, 36, 0) := by decide +kernel
theorem dc_221_36 : am_dc 221 36 = some (.iload_n 1, 37, 0) := by decide +kernel
theorem dc_221_37 : am_dc 221 37 = some (.iload_n 2, 38, 0) := by decide +kernel
theorem dc_221_38 : am_dc 221 38 = some (.invokevirtual 198, 41, 0) := by decide +kernel
theorem dc_221_41 : am_dc 221 41 = some (.ifCond .ne 6, 44, 47) := by decide +kernel
theorem dc_221_44 : am_dc 221 44 = some (.bipush (-3), 46, 0) := by decide +kernel
theorem dc_221_46 : am_dc 221 46 = some (.ireturn, 47, 0) := by decide +kernel
theorem dc_221_47 : am_dc 221 47 = some (.aload_n 0, 48, 0) := by decide +kernel
theorem dc_221_48 : am_dc 221 48 = some (.iload_n 1, 49, 0) := by decide +kernel
theorem dc_221_49 : am_dc 221 49 = some (.iconst 3, 50, 0) := by decide +kernel
theorem dc_221_50 : am_dc 221 50 = some (.iload_n 2, 51, 0) := by decide +kernel
theorem dc_221_51 : am_dc 221 51 = some (.iadd, 52, 0) := by decide +kernel
theorem dc_221_52 : am_dc 221 52 = some (.invokevirtual 201, 55, 0) := by decide +kernel
theorem dc_221_55 : am_dc 221 55 = some (.aload_n 0, 56, 0) := by decide +kernel
theorem dc_221_56 : am_dc 221 56 = some (.invokevirtual 204, 59, 0) := by decide +kernel
theorem dc_221_59 : am_dc 221 59 = some (.ireturn, 60, 0) := by decide +kernel
theorem dc_222_0 : am_dc 222 0 = some (.aload_n 0, 1, 0) := by decide +kernel
theorem dc_222_1 : am_dc 222 1 = some (.iload_n 1, 2, 0) := by decide +kernel
theorem dc_222_2 : am_dc 222 2 = some (.invokevirtual 183, 5, 0) := by decide +kernel
theorem dc_222_5 : am_dc 222 5 = some (.iconst 1, 6, 0) := by decide +kernel
theorem dc_222_6 : am_dc 222 6 = some (.if_icmp .ne 7, 9, 13) := by decide +kernel
theorem dc_222_9 : am_dc 222 9 = some (.iload_n 2, 10, 0) := by decide +kernel
theorem dc_222_10 : am_dc 222 10 = some (.ifCond .gt 16, 13, 26) := by decide +kernel
theorem dc_222_13 : am_dc 222 13 = some (.aload_n 0, 14, 0) := by decide +kernel
theorem dc_222_14 : am_dc 222 14 = some (.iload_n 1, 15, 0) := by decide +kernel
theorem dc_222_15 : am_dc 222 15 = some (.invokevirtual 183, 18, 0) := by decide +kernel
theorem dc_222_18 : am_dc 222 18 = some (.iconst 2, 19, 0) := by decide +kernel
theorem dc_222_19 : am_dc 222 19 = some (.if_icmp .ne 11, 22, 30) := by decide +kernel
theorem dc_222_22 : am_dc 222 22 = some (.iload_n 2, 23, 0) := by decide +kernel
theorem dc_222_23 : am_dc 222 23 = some (.ifCond .ne 7, 26, 30) := by decide +kernel
theorem dc_222_26 : am_dc 222 26 = some (.iconst 0, 27, 0) := by decide +kernel
theorem dc_222_27 : am_dc 222 27 = some (.goto 9, 30, 36) := by decide +kernel
theorem dc_222_30 : am_dc 222 30 = some (.aload_n 0, 31, 0) := by decide +kernel
theorem dc_222_31 : am_dc 222 31 = some (.iload_n 1, 32, 0) := by decide +kernel
theorem dc_222_32 : am_dc 222 32 = some (.iload_n 2, 33, 0) := by decide +kernel
theorem dc_222_33 : am_dc 222 33 = some (.invokevirtual 195, 36, 0) := by decide +kernel
theorem dc_222_36 : am_dc 222 36 = some (.ireturn, 37, 0) := by decide +kernel
theorem dc_223_0 : am_dc 223 0 = some (.aload_n 0, 1, 0) := by decide +kernel
theorem dc_223_1 : am_dc 223 1 = some (.iload_n 1, 2, 0) := by decide +kernel
theorem dc_223_2 : am_dc 223 2 = some (.iconst 5, 3, 0) := by decide +kernel
theorem dc_223_3 : am_dc 223 3 = some (.invokevirtual 79, 6, 0) := by decide +kernel
theorem dc_223_6 : am_dc 223 6 = some (.istore_n 3, 7, 0) := by decide +kernel
theorem dc_223_7 : am_dc 223 7 = some (.iload_n 3, 8, 0) := by decide +kernel
theorem dc_223_8 : am_dc 223 8 = some (.ifCond .lt 24, 11, 32) := by decide +kernel
theorem dc_223_11 : am_dc 223 11 = some (.aload_n 0, 12, 0) := by decide +kernel
theorem dc_223_12 : am_dc 223 12 = some (.iload_n 3, 13, 0) := by decide +kernel
theorem dc_223_13 : am_dc 223 13 = some (.invokevirtual 183, 16, 0) := by decide +kernel
theorem dc_223_16 : am_dc 223 16 = some (.iconst 3, 17, 0) := by decide +kernel
theorem dc_223_17 : am_dc 223 17 = some (.if_icmp .ne 15, 20, 32) := by decide +kernel
theorem dc_223_20 : am_dc 223 20 = some (.aload_n 0, 21, 0) := by decide +kernel
theorem dc_223_21 : am_dc 223 21 = some (.iload_n 1, 22, 0) := by decide +kernel
theorem dc_223_22 : am_dc 223 22 = some (.bipush 14, 24, 0) := by decide +kernel
theorem dc_223_24 : am_dc 223 24 = some (.iload_n 2, 25, 0) := by decide +kernel
theorem dc_223_25 : am_dc 223 25 = some (.iadd, 26, 0) := by decide +kernel
theorem dc_223_26 : am_dc 223 26 = some (.invokevirtual 79, 29, 0) := by decide +kernel
theorem dc_223_29 : am_dc 223 29 = some (.goto 12, 32, 41) := by decide +kernel
theorem dc_223_32 : am_dc 223 32 = some (.aload_n 0, 33, 0) := by decide +kernel
theorem dc_223_33 : am_dc 223 33 = some (.iload_n 1, 34, 0) := by decide +kernel
theorem dc_223_34 : am_dc 223 34 = some (.bipush 10, 36, 0) := by decide +kernel
theorem dc_223_36 : am_dc 223 36 = some (.iload_n 2, 37, 0) := by decide +kernel
theorem dc_223_37 : am_dc 223 37 = some (.iadd, 38, 0) := by decide +kernel
theorem dc_223_38 : am_dc 223 38 = some (.invokevirtual 79, 41, 0) := by decide +kernel
theorem dc_223_41 : am_dc 223 41 = some (.ireturn, 42, 0) := by decide +kernel
theorem dc_224_0 : am_dc 224 0 = some (.aload_n 0, 1, 0) := by decide +kernel
theorem dc_224_1 : am_dc 224 1 = some (.getfield 9, 4, 0) := by decide +kernel
theorem dc_224_4 : am_dc 224 4 = some (.bipush 95, 6, 0) := by decide +kernel
theorem dc_224_6 : am_dc 224 6 = some (.iconst 2, 7, 0) := by decide +kernel
theorem dc_224_7 : am_dc 224 7 = some (.aload_n 0, 8, 0) := by decide +kernel
theorem dc_224_8 : am_dc 224 8 = some (.getfield 9, 11, 0) := by decide +kernel
theorem dc_224_11 : am_dc 224 11 = some (.bipush 115, 13, 0) := by decide +kernel
theorem dc_224_13 : am_dc 224 13 = some (.iaload, 14, 0) := by decide +kernel
theorem dc_224_14 : am_dc 224 14 = some (.imul, 15, 0) := by decide +kernel
theorem dc_224_15 : am_dc 224 15 = some (.iadd, 16, 0) := by decide +kernel
theorem dc_224_16 : am_dc 224 16 = some (.iload_n 1, 17, 0) := by decide +kernel
theorem dc_224_17 : am_dc 224 17 = some (.iastore, 18, 0) := by decide +kernel
theorem dc_224_18 : am_dc 224 18 = some (.aload_n 0, 19, 0) := by decide +kernel
theorem dc_224_19 : am_dc 224 19 = some (.getfield 9, 22, 0) := by decide +kernel
theorem dc_224_22 : am_dc 224 22 = some (.bipush 95, 24, 0) := by decide +kernel
theorem dc_224_24 : am_dc 224 24 = some (.iconst 2, 25, 0) := by decide +kernel
theorem dc_224_25 : am_dc 224 25 = some (.aload_n 0, 26, 0) := by decide +kernel
theorem dc_224_26 : am_dc 224 26 = some (.getfield 9, 29, 0) := by decide +kernel
theorem dc_224_29 : am_dc 224 29 = some (.bipush 115, 31, 0) := by decide +kernel
theorem dc_224_31 : am_dc 224 31 = some (.iaload, 32, 0) := by decide +kernel
theorem dc_224_32 : am_dc 224 32 = some (.imul, 33, 0) := by decide +kernel
theorem dc_224_33 : am_dc 224 33 = some (.iadd, 34, 0) := by decide +kernel
theorem dc_224_34 : am_dc 224 34 = some (.iconst 1, 35, 0) := by decide +kernel
theorem dc_224_35 : am_dc 224 35 = some (.iadd, 36, 0) := by decide +kernel
theorem dc_224_36 : am_dc 224 36 = some (.aload_n 0, 37, 0) := by decide +kernel
theorem dc_224_37 : am_dc 224 37 = some (.iload_n 1, 38, 0) := by decide +kernel
theorem dc_224_38 : am_dc 224 38 = some (.invokevirtual 183, 41, 0) := by decide +kernel
theorem dc_224_41 : am_dc 224 41 = some (.iastore, 42, 0) := by decide +kernel
theorem dc_224_42 : am_dc 224 42 = some (.aload_n 0, 43, 0) := by decide +kernel
theorem dc_224_43 : am_dc 224 43 = some (.getfield 9, 46, 0) := by decide +kernel
theorem dc_224_46 : am_dc 224 46 = some (.bipush 115, 48, 0) := by decide +kernel
theorem dc_224_48 : am_dc 224 48 = some (.dup2, 49, 0) := by decide +kernel
theorem dc_224_49 : am_dc 224 49 = some (.iaload, 50, 0) := by decide +kernel
theorem dc_224_50 : am_dc 224 50 = some (.iconst 1, 51, 0) := by decide +kernel
theorem dc_224_51 : am_dc 224 51 = some (.iadd, 52, 0) := by decide +kernel
theorem dc_224_52 : am_dc 224 52 = some (.iastore, 53, 0) := by decide +kernel
theorem dc_224_53 : am_dc 224 53 = some (.aload_n 0, 54, 0) := by decide +kernel
theorem dc_224_54 : am_dc 224 54 = some (.iload_n 1, 55, 0) := by decide +kernel
theorem dc_224_55 : am_dc 224 55 = some (.iload_n 2, 56, 0) := by decide +kernel
theorem dc_224_56 : am_dc 224 56 = some (.invokevirtual 154, 59, 0) := by decide +kernel
theorem dc_224_59 : am_dc 224 59 = some (.return_, 60, 0) := by decide +kernel
theorem dc_225_0 : am_dc 225 0 = some (.iconst 0, 1, 0) := by decide +kernel
theorem dc_225_1 : am_dc 225 1 = some (.istore_n 1, 2, 0) := by decide +kernel
theorem dc_225_2 : am_dc 225 2 = some (.iconst 0, 3, 0) := by decide +kernel
theorem dc_225_3 : am_dc 225 3 = some (.istore_n 2, 4, 0) := by decide +kernel
theorem dc_225_4 : am_dc 225 4 = some (.iload_n 2, 5, 0) := by decide +kernel
theorem dc_225_5 : am_dc 225 5 = some (.aload_n 0, 6, 0) := by decide +kernel
theorem dc_225_6 : am_dc 225 6 = some (.getfield 9, 9, 0) := by decide +kernel
theorem dc_225_9 : am_dc 225 9 = some (.bipush 116, 11, 0) := by decide +kernel
theorem dc_225_11 : am_dc 225 11 = some (.iaload, 12, 0) := by decide +kernel
theorem dc_225_12 : am_dc 225 12 = some (.if_icmp .ge 47, 15, 59) := by decide +kernel
theorem dc_225_15 : am_dc 225 15 = some (.aload_n 0, 16, 0) := by decide +kernel
theorem dc_225_16 : am_dc 225 16 = some (.iload_n 2, 17, 0) := by decide +kernel
theorem dc_225_17 : am_dc 225 17 = some (.invokevirtual 183, 20, 0) := by decide +kernel
theorem dc_225_20 : am_dc 225 20 = some (.iconst 2, 21, 0) := by decide +kernel
theorem dc_225_21 : am_dc 225 21 = some (.if_icmp .le 32, 24, 53) := by decide +kernel
theorem dc_225_24 : am_dc 225 24 = some (.aload_n 0, 25, 0) := by decide +kernel
theorem dc_225_25 : am_dc 225 25 = some (.iload_n 2, 26, 0) := by decide +kernel
theorem dc_225_26 : am_dc 225 26 = some (.aload_n 0, 27, 0) := by decide +kernel
theorem dc_225_27 : am_dc 225 27 = some (.iload_n 2, 28, 0) := by decide +kernel
theorem dc_225_28 : am_dc 225 28 = some (.invokevirtual 183, 31, 0) := by decide +kernel
theorem dc_225_31 : am_dc 225 31 = some (.iconst 3, 32, 0) := by decide +kernel
theorem dc_225_32 : am_dc 225 32 = some (.isub, 33, 0) := by decide +kernel
theorem dc_225_33 : am_dc 225 33 = some (.invokevirtual 186, 36, 0) := by decide +kernel
theorem dc_225_36 : am_dc 225 36 = some (.iload_n 1, 37, 0) := by decide +kernel
theorem dc_225_37 : am_dc 225 37 = some (.if_icmp .le 16, 40, 53) := by decide +kernel
theorem dc_225_40 : am_dc 225 40 = some (.aload_n 0, 41, 0) := by decide +kernel
theorem dc_225_41 : am_dc 225 41 = some (.iload_n 2, 42, 0) := by decide +kernel
theorem dc_225_42 : am_dc 225 42 = some (.aload_n 0, 43, 0) := by decide +kernel
theorem dc_225_43 : am_dc 225 43 = some (.iload_n 2, 44, 0) := by decide +kernel
theorem dc_225_44 : am_dc 225 44 = some (.invokevirtual 183, 47, 0) := by decide +kernel
theorem dc_225_47 : am_dc 225 47 = some (.iconst 3, 48, 0) := by decide +kernel
theorem dc_225_48 : am_dc 225 48 = some (.isub, 49, 0) := by decide +kernel
theorem dc_225_49 : am_dc 225 49 = some (.invokevirtual 186, 52, 0) := by decide +kernel
theorem dc_225_52 : am_dc 225 52 = some (.istore_n 1, 53, 0) := by decide +kernel
theorem dc_225_53 : am_dc 225 53 = some (.iinc 2 1, 56, 0) := by decide +kernel
theorem dc_225_56 : am_dc 225 56 = some (.goto (-52), 59, 4) := by decide +kernel
theorem dc_225_59 : am_dc 225 59 = some (.iload_n 1, 60, 0) := by decide +kernel
theorem dc_225_60 : am_dc 225 60 = some (.ireturn, 61, 0) := by decide +kernel
theorem dc_226_0 : am_dc 226 0 = some (.aload_n 0, 1, 0) := by decide +kernel
theorem dc_226_1 : am_dc 226 1 = some (.iload_n 1, 2, 0) := by decide +kernel
theorem dc_226_2 : am_dc 226 2 = some (.bipush 6, 4, 0) := by decide +kernel
theorem dc_226_4 : am_dc 226 4 = some (.iload_n 2, 5, 0) := by decide +kernel
theorem dc_226_5 : am_dc 226 5 = some (.iadd, 6, 0) := by decide +kernel
theorem dc_226_6 : am_dc 226 6 = some (.invokevirtual 79, 9, 0) := by decide +kernel
theorem dc_226_9 : am_dc 226 9 = some (.ireturn, 10, 0) := by decide +kernel
theorem dc_227_0 : am_dc 227 0 = some (.aload_n 0, 1, 0) := by decide +kernel
theorem dc_227_1 : am_dc 227 1 = some (.iload_n 1, 2, 0) := by decide +kernel
theorem dc_227_2 : am_dc 227 2 = some (.invokevirtual 136, 5, 0) := by decide +kernel
theorem dc_227_5 : am_dc 227 5 = some (.ifCond .ne 5, 8, 10) := by decide +kernel
theorem dc_227_8 : am_dc 227 8 = some (.iconst (-1), 9, 0) := by decide +kernel
theorem dc_227_9 : am_dc 227 9 = some (.ireturn, 10, 0) := by decide +kernel
theorem dc_227_10 : am_dc 227 10 = some (.aload_n 0, 11, 0) := by decide +kernel
theorem dc_227_11 : am_dc 227 11 = some (.iload_n 1, 12, 0) := by decide +kernel
theorem dc_227_12 : am_dc 227 12 = some (.invokevirtual 207, 15, 0) := by decide +kernel
theorem dc_227_15 : am_dc 227 15 = some (.ifCond .eq 18, 18, 33) := by decide +kernel
theorem dc_227_18 : am_dc 227 18 = some (.iload_n 2, 19, 0) := by decide +kernel
theorem dc_227_19 : am_dc 227 19 = some (.ifCond .ne 17, 22, 36) := by decide +kernel
theorem dc_227_22 : am_dc 227 22 = some (.aload_n 0, 23, 0) := by decide +kernel
theorem dc_227_23 : am_dc 227 23 = some (.iload_n 1, 24, 0) := by decide +kernel
theorem dc_227_24 : am_dc 227 24 = some (.iconst 0, 25, 0) := by decide +kernel
theorem dc_227_25 : am_dc 227 25 = some (.invokevirtual 195, 28, 0) := by decide +kernel
theorem dc_227_28 : am_dc 227 28 = some (.bipush 100, 30, 0) := by decide +kernel
theorem dc_227_30 : am_dc 227 30 = some (.if_icmp .ne 6, 33, 36) := by decide +kernel
theorem dc_227_33 : am_dc 227 33 = some (.bipush (-3), 35, 0) := by decide +kernel
theorem dc_227_35 : am_dc 227 35 = some (.ireturn, 36, 0) := by decide +kernel
theorem dc_227_36 : am_dc 227 36 = some (.aload_n 0, 37, 0) := by decide +kernel
theorem dc_227_37 : am_dc 227 37 = some (.iload_n 1, 38, 0) := by decide +kernel
theorem dc_227_38 : am_dc 227 38 = some (.iload_n 2, 39, 0) := by decide +kernel
theorem dc_227_39 : am_dc 227 39 = some (.ifCond .eq 7, 42, 46) := by decide +kernel
theorem dc_227_42 : am_dc 227 42 = some (.iconst 1, 43, 0) := by decide +kernel
theorem dc_227_43 : am_dc 227 43 = some (.goto 4, 46, 47) := by decide +kernel
theorem dc_227_46 : am_dc 227 46 = some (.iconst 2, 47, 0) := by decide +kernel
theorem dc_227_47 : am_dc 227 47 = some (.invokevirtual 201, 50, 0) := by decide +kernel
theorem dc_227_50 : am_dc 227 50 = some (.iconst 1, 51, 0) := by decide +kernel
theorem dc_227_51 : am_dc 227 51 = some (.ireturn, 52, 0) := by decide +kernel
theorem dc_228_0 : am_dc 228 0 = some (.aload_n 0, 1, 0) := by decide +kernel
theorem dc_228_1 : am_dc 228 1 = some (.iload_n 1, 2, 0) := by decide +kernel
theorem dc_228_2 : am_dc 228 2 = some (.invokevirtual 139, 5, 0) := by decide +kernel
theorem dc_228_5 : am_dc 228 5 = some (.iconst 1, 6, 0) := by decide +kernel
theorem dc_228_6 : am_dc 228 6 = some (.if_icmp .ne 23, 9, 29) := by decide +kernel
theorem dc_228_9 : am_dc 228 9 = some (.aload_n 0, 10, 0) := by decide +kernel
theorem dc_228_10 : am_dc 228 10 = some (.iload_n 1, 11, 0) := by decide +kernel
theorem dc_228_11 : am_dc 228 11 = some (.invokevirtual 183, 14, 0) := by decide +kernel
theorem dc_228_14 : am_dc 228 14 = some (.ifCond .ne 15, 17, 29) := by decide +kernel
theorem dc_228_17 : am_dc 228 17 = some (.aload_n 0, 18, 0) := by decide +kernel
theorem dc_228_18 : am_dc 228 18 = some (.iload_n 1, 19, 0) := by decide +kernel
theorem dc_228_19 : am_dc 228 19 = some (.invokevirtual 192, 22, 0) := by decide +kernel
theorem dc_228_22 : am_dc 228 22 = some (.ifCond .eq 7, 25, 29) := by decide +kernel
theorem dc_228_25 : am_dc 228 25 = some (.iconst 1, 26, 0) := by decide +kernel
theorem dc_228_26 : am_dc 228 26 = some (.goto 4, 29, 30) := by decide +kernel
theorem dc_228_29 : am_dc 228 29 = some (.iconst 0, 30, 0) := by decide +kernel
theorem dc_228_30 : am_dc 228 30 = some (.ireturn, 31, 0) := by decide +kernel
theorem dc_229_0 : am_dc 229 0 = some (.aload_n 0, 1, 0) := by decide +kernel
theorem dc_229_1 : am_dc 229 1 = some (.getfield 9, 4, 0) := by decide +kernel
theorem dc_229_4 : am_dc 229 4 = some (.bipush 115, 6, 0) := by decide +kernel
theorem dc_229_6 : am_dc 229 6 = some (.iaload, 7, 0) := by decide +kernel
theorem dc_229_7 : am_dc 229 7 = some (.ifCond .ne 6, 10, 13) := by decide +kernel
theorem dc_229_10 : am_dc 229 10 = some (.bipush (-3), 12, 0) := by decide +kernel
theorem dc_229_12 : am_dc 229 12 = some (.ireturn, 13, 0) := by decide +kernel
theorem dc_229_13 : am_dc 229 13 = some (.aload_n 0, 14, 0) := by decide +kernel
theorem dc_229_14 : am_dc 229 14 = some (.getfield 9, 17, 0) := by decide +kernel
theorem dc_229_17 : am_dc 229 17 = some (.bipush 115, 19, 0) := by decide +kernel
theorem dc_229_19 : am_dc 229 19 = some (.dup2, 20, 0) := by decide +kernel
theorem dc_229_20 : am_dc 229 20 = some (.iaload, 21, 0) := by decide +kernel
theorem dc_229_21 : am_dc 229 21 = some (.iconst 1, 22, 0) := by decide +kernel
theorem dc_229_22 : am_dc 229 22 = some (.isub, 23, 0) := by decide +kernel
theorem dc_229_23 : am_dc 229 23 = some (.iastore, 24, 0) := by decide +kernel
theorem dc_229_24 : am_dc 229 24 = some (.aload_n 0, 25, 0) := by decide +kernel
theorem dc_229_25 : am_dc 229 25 = some (.aload_n 0, 26, 0) := by decide +kernel
theorem dc_229_26 : am_dc 229 26 = some (.getfield 9, 29, 0) := by decide +kernel
theorem dc_229_29 : am_dc 229 29 = some (.bipush 95, 31, 0) := by decide +kernel
theorem dc_229_31 : am_dc 229 31 = some (.iconst 2, 32, 0) := by decide +kernel
theorem dc_229_32 : am_dc 229 32 = some (.aload_n 0, 33, 0) := by decide +kernel
theorem dc_229_33 : am_dc 229 33 = some (.getfield 9, 36, 0) := by decide +kernel
theorem dc_229_36 : am_dc 229 36 = some (.bipush 115, 38, 0) := by decide +kernel
theorem dc_229_38 : am_dc 229 38 = some (.iaload, 39, 0) := by decide +kernel
theorem dc_229_39 : am_dc 229 39 = some (.imul, 40, 0) := by decide +kernel
theorem dc_229_40 : am_dc 229 40 = some (.iadd, 41, 0) := by decide +kernel
theorem dc_229_41 : am_dc 229 41 = some (.iaload, 42, 0) := by decide +kernel
theorem dc_229_42 : am_dc 229 42 = some (.aload_n 0, 43, 0) := by decide +kernel
theorem dc_229_43 : am_dc 229 43 = some (.getfield 9, 46, 0) := by decide +kernel
theorem dc_229_46 : am_dc 229 46 = some (.bipush 95, 48, 0) := by decide +kernel
theorem dc_229_48 : am_dc 229 48 = some (.iconst 2, 49, 0) := by decide +kernel
theorem dc_229_49 : am_dc 229 49 = some (.aload_n 0, 50, 0) := by decide +kernel
theorem dc_229_50 : am_dc 229 50 = some (.getfield 9, 53, 0) := by decide +kernel
theorem dc_229_53 : am_dc 229 53 = some (.bipush 115, 55, 0) := by decide +kernel
theorem dc_229_55 : am_dc 229 55 = some (.iaload, 56, 0) := by decide +kernel
theorem dc_229_56 : am_dc 229 56 = some (.imul, 57, 0) := by decide +kernel
theorem dc_229_57 : am_dc 229 57 = some (.iadd, 58, 0) := by decide +kernel
theorem dc_229_58 : am_dc 229 58 = some (.iconst 1, 59, 0) := by decide +kernel
theorem dc_229_59 : am_dc 229 59 = some (.iadd, 60, 0) := by decide +kernel
theorem dc_229_60 : am_dc 229 60 = some (.iaload, 61, 0) := by decide +kernel
theorem dc_229_61 : am_dc 229 61 = some (.invokevirtual 154, 64, 0) := by decide +kernel
theorem dc_229_64 : am_dc 229 64 = some (.aload_n 0, 65, 0) := by decide +kernel
theorem dc_229_65 : am_dc 229 65 = some (.getfield 9, 68, 0) := by decide +kernel
theorem dc_229_68 : am_dc 229 68 = some (.bipush 115, 70, 0) := by decide +kernel
theorem dc_229_70 : am_dc 229 70 = some (.iaload, 71, 0) := by decide +kernel
theorem dc_229_71 : am_dc 229 71 = some (.ireturn, 72, 0) := by decide +kernel
theorem dc_230_0 : am_dc 230 0 = some (.iload_n 1, 1, 0) := by decide +kernel
theorem dc_230_1 : am_dc 230 1 = some (.tableswitch 55 0 3 #[31, 37, 42, 47], 32, 0) := by decide +kernel
theorem dc_230_32 : am_dc 230 32 = some (.aload_n 0, 33, 0) := by decide +kernel
theorem dc_230_33 : am_dc 230 33 = some (.iconst 5, 34, 0) := by decide +kernel
theorem dc_230_34 : am_dc 230 34 = some (.invokevirtual 210, 37, 0) := by decide +kernel
theorem dc_230_37 : am_dc 230 37 = some (.ireturn, 38, 0) := by decide +kernel
theorem dc_230_38 : am_dc 230 38 = some (.aload_n 0, 39, 0) := by decide +kernel
theorem dc_230_39 : am_dc 230 39 = some (.invokevirtual 204, 42, 0) := by decide +kernel
theorem dc_230_42 : am_dc 230 42 = some (.ireturn, 43, 0) := by decide +kernel
theorem dc_230_43 : am_dc 230 43 = some (.aload_n 0, 44, 0) := by decide +kernel
theorem dc_230_44 : am_dc 230 44 = some (.invokevirtual 189, 47, 0) := by decide +kernel
theorem dc_230_47 : am_dc 230 47 = some (.ireturn, 48, 0) := by decide +kernel
theorem dc_230_48 : am_dc 230 48 = some (.aload_n 0, 49, 0) := by decide +kernel
theorem dc_230_49 : am_dc 230 49 = some (.getfield 9, 52, 0) := by decide +kernel
theorem dc_230_52 : am_dc 230 52 = some (.bipush 115, 54, 0) := by decide +kernel
theorem dc_230_54 : am_dc 230 54 = some (.iaload, 55, 0) := by decide +kernel
theorem dc_230_55 : am_dc 230 55 = some (.ireturn, 56, 0) := by decide +kernel
theorem dc_230_56 : am_dc 230 56 = some (.iconst (-1), 57, 0) := by decide +kernel
theorem dc_230_57 : am_dc 230 57 = some (.ireturn, 58, 0) := by decide +kernel
theorem dc_231_0 : am_dc 231 0 = some (.iconst 0, 1, 0) := by decide +kernel
theorem dc_231_1 : am_dc 231 1 = some (.istore_n 2, 2, 0) := by decide +kernel
theorem dc_231_2 : am_dc 231 2 = some (.iconst 4, 3, 0) := by decide +kernel
theorem dc_231_3 : am_dc 231 3 = some (.istore_n 3, 4, 0) := by decide +kernel
theorem dc_231_4 : am_dc 231 4 = some (.iload_n 3, 5, 0) := by decide +kernel
theorem dc_231_5 : am_dc 231 5 = some (.ifCond .lt 37, 8, 42) := by decide +kernel
theorem dc_231_8 : am_dc 231 8 = some (.iload_n 1, 9, 0) := by decide +kernel
theorem dc_231_9 : am_dc 231 9 = some (.iload_n 2, 10, 0) := by decide +kernel
theorem dc_231_10 : am_dc 231 10 = some (.imul, 11, 0) := by decide +kernel
theorem dc_231_11 : am_dc 231 11 = some (.iload_n 1, 12, 0) := by decide +kernel
theorem dc_231_12 : am_dc 231 12 = some (.iconst 5, 13, 0) := by decide +kernel
theorem dc_231_13 : am_dc 231 13 = some (.if_icmp .ne 16, 16, 29) := by decide +kernel
theorem dc_231_16 : am_dc 231 16 = some (.aload_n 0, 17, 0) := by decide +kernel
theorem dc_231_17 : am_dc 231 17 = some (.iload_n 3, 18, 0) := by decide +kernel
theorem dc_231_18 : am_dc 231 18 = some (.invokevirtual 183, 21, 0) := by decide +kernel
theorem dc_231_21 : am_dc 231 21 = some (.iconst 4, 22, 0) := by decide +kernel
theorem dc_231_22 : am_dc 231 22 = some (.if_icmp .le 7, 25, 29) := by decide +kernel
theorem dc_231_25 : am_dc 231 25 = some (.iconst 4, 26, 0) := by decide +kernel
theorem dc_231_26 : am_dc 231 26 = some (.goto 8, 29, 34) := by decide +kernel
theorem dc_231_29 : am_dc 231 29 = some (.aload_n 0, 30, 0) := by decide +kernel
theorem dc_231_30 : am_dc 231 30 = some (.iload_n 3, 31, 0) := by decide +kernel
theorem dc_231_31 : am_dc 231 31 = some (.invokevirtual 183, 34, 0) := by decide +kernel
theorem dc_231_34 : am_dc 231 34 = some (.iadd, 35, 0) := by decide +kernel
theorem dc_231_35 : am_dc 231 35 = some (.istore_n 2, 36, 0) := by decide +kernel
theorem dc_231_36 : am_dc 231 36 = some (.iinc 3 (-1), 39, 0) := by decide +kernel
theorem dc_231_39 : am_dc 231 39 = some (.goto (-35), 42, 4) := by decide +kernel
theorem dc_231_42 : am_dc 231 42 = some (.iload_n 2, 43, 0) := by decide +kernel
theorem dc_231_43 : am_dc 231 43 = some (.ireturn, 44, 0) := by decide +kernel
theorem dc_232_0 : am_dc 232 0 = some (.aload_n 0, 1, 0) := by decide +kernel
theorem dc_232_1 : am_dc 232 1 = some (.invokevirtual 213, 4, 0) := by decide +kernel
theorem dc_232_4 : am_dc 232 4 = some (.lreturn, 5, 0) := by decide +kernel
theorem dc_233_0 : am_dc 233 0 = some (.lconst 1, 1, 0) := by decide +kernel
theorem dc_233_1 : am_dc 233 1 = some (.lstore_n 1, 2, 0) := by decide +kernel
theorem dc_233_2 : am_dc 233 2 = some (.iconst 0, 3, 0) := by decide +kernel
theorem dc_233_3 : am_dc 233 3 = some (.istore_n 3, 4, 0) := by decide +kernel
theorem dc_233_4 : am_dc 233 4 = some (.iload_n 3, 5, 0) := by decide +kernel
theorem dc_233_5 : am_dc 233 5 = some (.aload_n 0, 6, 0) := by decide +kernel
theorem dc_233_6 : am_dc 233 6 = some (.getfield 9, 9, 0) := by decide +kernel
theorem dc_233_9 : am_dc 233 9 = some (.bipush 116, 11, 0) := by decide +kernel
theorem dc_233_11 : am_dc 233 11 = some (.iaload, 12, 0) := by decide +kernel
theorem dc_233_12 : am_dc 233 12 = some (.if_icmp .ge 68, 15, 80) := by decide +kernel
theorem dc_233_15 : am_dc 233 15 = some (.lload_n 1, 16, 0) := by decide +kernel
theorem dc_233_16 : am_dc 233 16 = some (.aload_n 0, 17, 0) := by decide +kernel
theorem dc_233_17 : am_dc 233 17 = some (.iload_n 3, 18, 0) := by decide +kernel
theorem dc_233_18 : am_dc 233 18 = some (.invokevirtual 183, 21, 0) := by decide +kernel
theorem dc_233_21 : am_dc 233 21 = some (.ifCond .ne 9, 24, 30) := by decide +kernel
theorem dc_233_24 : am_dc 233 24 = some (.ldc2_w 134, 27, 0) := by decide +kernel
theorem dc_233_27 : am_dc 233 27 = some (.goto 45, 30, 72) := by decide +kernel
theorem dc_233_30 : am_dc 233 30 = some (.aload_n 0, 31, 0) := by decide +kernel
theorem dc_233_31 : am_dc 233 31 = some (.iload_n 3, 32, 0) := by decide +kernel
theorem dc_233_32 : am_dc 233 32 = some (.invokevirtual 183, 35, 0) := by decide +kernel
theorem dc_233_35 : am_dc 233 35 = some (.iconst 1, 36, 0) := by decide +kernel
theorem dc_233_36 : am_dc 233 36 = some (.if_icmp .ne 13, 39, 49) := by decide +kernel
theorem dc_233_39 : am_dc 233 39 = some (.aload_n 0, 40, 0) := by decide +kernel
theorem dc_233_40 : am_dc 233 40 = some (.iload_n 3, 41, 0) := by decide +kernel
theorem dc_233_41 : am_dc 233 41 = some (.iconst 0, 42, 0) := by decide +kernel
theorem dc_233_42 : am_dc 233 42 = some (.invokevirtual 195, 45, 0) := by decide +kernel
theorem dc_233_45 : am_dc 233 45 = some (.i2l, 46, 0) := by decide +kernel
theorem dc_233_46 : am_dc 233 46 = some (.goto 26, 49, 72) := by decide +kernel
theorem dc_233_49 : am_dc 233 49 = some (.aload_n 0, 50, 0) := by decide +kernel
theorem dc_233_50 : am_dc 233 50 = some (.iload_n 3, 51, 0) := by decide +kernel
theorem dc_233_51 : am_dc 233 51 = some (.invokevirtual 183, 54, 0) := by decide +kernel
theorem dc_233_54 : am_dc 233 54 = some (.iconst 2, 55, 0) := by decide +kernel
theorem dc_233_55 : am_dc 233 55 = some (.if_icmp .ne 16, 58, 71) := by decide +kernel
theorem dc_233_58 : am_dc 233 58 = some (.bipush 100, 60, 0) := by decide +kernel
theorem dc_233_60 : am_dc 233 60 = some (.aload_n 0, 61, 0) := by decide +kernel
theorem dc_233_61 : am_dc 233 61 = some (.iload_n 3, 62, 0) := by decide +kernel
theorem dc_233_62 : am_dc 233 62 = some (.iconst 0, 63, 0) := by decide +kernel
theorem dc_233_63 : am_dc 233 63 = some (.invokevirtual 195, 66, 0) := by decide +kernel
theorem dc_233_66 : am_dc 233 66 = some (.isub, 67, 0) := by decide +kernel
theorem dc_233_67 : am_dc 233 67 = some (.i2l, 68, 0) := by decide +kernel
theorem dc_233_68 : am_dc 233 68 = some (.goto 4, 71, 72) := by decide +kernel
theorem dc_233_71 : am_dc 233 71 = some (.lconst 1, 72, 0) := by decide +kernel
theorem dc_233_72 : am_dc 233 72 = some (.lmul, 73, 0) := by decide +kernel
theorem dc_233_73 : am_dc 233 73 = some (.lstore_n 1, 74, 0) := by decide +kernel
theorem dc_233_74 : am_dc 233 74 = some (.iinc 3 1, 77, 0) := by decide +kernel
theorem dc_233_77 : am_dc 233 77 = some (.goto (-73), 80, 4) := by decide +kernel
theorem dc_233_80 : am_dc 233 80 = some (.lload_n 1, 81, 0) := by decide +kernel
theorem dc_233_81 : am_dc 233 81 = some (.lreturn, 82, 0) := by decide +kernel
theorem dc_234_0 : am_dc 234 0 = some (.aload_n 0, 1, 0) := by decide +kernel
theorem dc_234_1 : am_dc 234 1 = some (.iload_n 1, 2, 0) := by decide +kernel
theorem dc_234_2 : am_dc 234 2 = some (.invokevirtual 136, 5, 0) := by decide +kernel
theorem dc_234_5 : am_dc 234 5 = some (.ifCond .eq 13, 8, 18) := by decide +kernel
theorem dc_234_8 : am_dc 234 8 = some (.iload_n 2, 9, 0) := by decide +kernel
theorem dc_234_9 : am_dc 234 9 = some (.i2l, 10, 0) := by decide +kernel
theorem dc_234_10 : am_dc 234 10 = some (.lconst 0, 11, 0) := by decide +kernel
theorem dc_234_11 : am_dc 234 11 = some (.lconst 1, 12, 0) := by decide +kernel
theorem dc_234_12 : am_dc 234 12 = some (.invokestatic 73, 15, 0) := by decide +kernel
theorem dc_234_15 : am_dc 234 15 = some (.ifCond .ne 7, 18, 22) := by decide +kernel
theorem dc_234_18 : am_dc 234 18 = some (.ldc2_w 230, 21, 0) := by decide +kernel
theorem dc_234_21 : am_dc 234 21 = some (.lreturn, 22, 0) := by decide +kernel
theorem dc_234_22 : am_dc 234 22 = some (.aload_n 0, 23, 0) := by decide +kernel
theorem dc_234_23 : am_dc 234 23 = some (.iload_n 1, 24, 0) := by decide +kernel
theorem dc_234_24 : am_dc 234 24 = some (.invokevirtual 232, 27, 0) := by decide +kernel
theorem dc_234_27 : am_dc 234 27 = some (.iload_n 2, 28, 0) := by decide +kernel
theorem dc_234_28 : am_dc 234 28 = some (.ifCond .ne 10, 31, 38) := by decide +kernel
theorem dc_234_31 : am_dc 234 31 = some (.aload_n 0, 32, 0) := by decide +kernel
theorem dc_234_32 : am_dc 234 32 = some (.getfield 219, 35, 0) := by decide +kernel
theorem dc_234_35 : am_dc 234 35 = some (.goto 7, 38, 42) := by decide +kernel
theorem dc_234_38 : am_dc 234 38 = some (.aload_n 0, 39, 0) := by decide +kernel
theorem dc_234_39 : am_dc 234 39 = some (.getfield 223, 42, 0) := by decide +kernel
theorem dc_234_42 : am_dc 234 42 = some (.lreturn, 43, 0) := by decide +kernel
theorem dc_235_0 : am_dc 235 0 = some (.ldc2_w 217, 3, 0) := by decide +kernel
theorem dc_235_3 : am_dc 235 3 = some (.aload_n 0, 4, 0) := by decide +kernel
theorem dc_235_4 : am_dc 235 4 = some (.iload_n 1, 5, 0) := by decide +kernel
theorem dc_235_5 : am_dc 235 5 = some (.iconst 1, 6, 0) := by decide +kernel
theorem dc_235_6 : am_dc 235 6 = some (.invokevirtual 79, 9, 0) := by decide +kernel
theorem dc_235_9 : am_dc 235 9 = some (.i2l, 10, 0) := by decide +kernel
theorem dc_235_10 : am_dc 235 10 = some (.lmul, 11, 0) := by decide +kernel
theorem dc_235_11 : am_dc 235 11 = some (.lstore_n 2, 12, 0) := by decide +kernel
theorem dc_235_12 : am_dc 235 12 = some (.lconst 0, 13, 0) := by decide +kernel
theorem dc_235_13 : am_dc 235 13 = some (.lstore 4, 15, 0) := by decide +kernel
theorem dc_235_15 : am_dc 235 15 = some (.aload_n 0, 16, 0) := by decide +kernel
theorem dc_235_16 : am_dc 235 16 = some (.lconst 0, 17, 0) := by decide +kernel
theorem dc_235_17 : am_dc 235 17 = some (.putfield 219, 20, 0) := by decide +kernel
theorem dc_235_20 : am_dc 235 20 = some (.aload_n 0, 21, 0) := by decide +kernel
theorem dc_235_21 : am_dc 235 21 = some (.lconst 0, 22, 0) := by decide +kernel
theorem dc_235_22 : am_dc 235 22 = some (.putfield 223, 25, 0) := by decide +kernel
theorem dc_235_25 : am_dc 235 25 = some (.iconst 0, 26, 0) := by decide +kernel
theorem dc_235_26 : am_dc 235 26 = some (.istore 6, 28, 0) := by decide +kernel
theorem dc_235_28 : am_dc 235 28 = some (.iload 6, 30, 0) := by decide +kernel
theorem dc_235_30 : am_dc 235 30 = some (.aload_n 0, 31, 0) := by decide +kernel
theorem dc_235_31 : am_dc 235 31 = some (.iload_n 1, 32, 0) := by decide +kernel
theorem dc_235_32 : am_dc 235 32 = some (.invokevirtual 143, 35, 0) := by decide +kernel
theorem dc_235_35 : am_dc 235 35 = some (.if_icmp .ge 89, 38, 124) := by decide +kernel
theorem dc_235_38 : am_dc 235 38 = some (.lload_n 2, 39, 0) := by decide +kernel
theorem dc_235_39 : am_dc 235 39 = some (.aload_n 0, 40, 0) := by decide +kernel
theorem dc_235_40 : am_dc 235 40 = some (.iload_n 1, 41, 0) := by decide +kernel
theorem dc_235_41 : am_dc 235 41 = some (.iload 6, 43, 0) := by decide +kernel
theorem dc_235_43 : am_dc 235 43 = some (.invokevirtual 195, 46, 0) := by decide +kernel
theorem dc_235_46 : am_dc 235 46 = some (.i2l, 47, 0) := by decide +kernel
theorem dc_235_47 : am_dc 235 47 = some (.aload_n 0, 48, 0) := by decide +kernel
theorem dc_235_48 : am_dc 235 48 = some (.iload_n 1, 49, 0) := by decide +kernel
theorem dc_235_49 : am_dc 235 49 = some (.iload 6, 51, 0) := by decide +kernel
theorem dc_235_51 : am_dc 235 51 = some (.invokevirtual 186, 54, 0) := by decide +kernel
theorem dc_235_54 : am_dc 235 54 = some (.i2l, 55, 0) := by decide +kernel
theorem dc_235_55 : am_dc 235 55 = some (.lmul, 56, 0) := by decide +kernel
theorem dc_235_56 : am_dc 235 56 = some (.ladd, 57, 0) := by decide +kernel
theorem dc_235_57 : am_dc 235 57 = some (.lstore_n 2, 58, 0) := by decide +kernel
theorem dc_235_58 : am_dc 235 58 = some (.lload 4, 60, 0) := by decide +kernel
theorem dc_235_60 : am_dc 235 60 = some (.aload_n 0, 61, 0) := by decide +kernel
theorem dc_235_61 : am_dc 235 61 = some (.iload_n 1, 62, 0) := by decide +kernel
theorem dc_235_62 : am_dc 235 62 = some (.iload 6, 64, 0) := by decide +kernel
theorem dc_235_64 : am_dc 235 64 = some (.invokevirtual 195, 67, 0) := by decide +kernel
theorem dc_235_67 : am_dc 235 67 = some (.i2l, 68, 0) := by decide +kernel
theorem dc_235_68 : am_dc 235 68 = some (.ladd, 69, 0) := by decide +kernel
theorem dc_235_69 : am_dc 235 69 = some (.lstore 4, 71, 0) := by decide +kernel
theorem dc_235_71 : am_dc 235 71 = some (.lload 4, 73, 0) := by decide +kernel
theorem dc_235_73 : am_dc 235 73 = some (.lconst 0, 74, 0) := by decide +kernel
theorem dc_235_74 : am_dc 235 74 = some (.lcmp, 75, 0) := by decide +kernel
theorem dc_235_75 : am_dc 235 75 = some (.ifCond .eq 43, 78, 118) := by decide +kernel
theorem dc_235_78 : am_dc 235 78 = some (.aload_n 0, 79, 0) := by decide +kernel
theorem dc_235_79 : am_dc 235 79 = some (.getfield 223, 82, 0) := by decide +kernel
theorem dc_235_82 : am_dc 235 82 = some (.lconst 0, 83, 0) := by decide +kernel
theorem dc_235_83 : am_dc 235 83 = some (.lcmp, 84, 0) := by decide +kernel
theorem dc_235_84 : am_dc 235 84 = some (.ifCond .le 23, 87, 107) := by decide +kernel
theorem dc_235_87 : am_dc 235 87 = some (.lload_n 2, 88, 0) := by decide +kernel
theorem dc_235_88 : am_dc 235 88 = some (.aload_n 0, 89, 0) := by decide +kernel
theorem dc_235_89 : am_dc 235 89 = some (.getfield 223, 92, 0) := by decide +kernel
theorem dc_235_92 : am_dc 235 92 = some (.lmul, 93, 0) := by decide +kernel
theorem dc_235_93 : am_dc 235 93 = some (.aload_n 0, 94, 0) := by decide +kernel
theorem dc_235_94 : am_dc 235 94 = some (.getfield 219, 97, 0) := by decide +kernel
theorem dc_235_97 : am_dc 235 97 = some (.lload 4, 99, 0) := by decide +kernel
theorem dc_235_99 : am_dc 235 99 = some (.lmul, 100, 0) := by decide +kernel
theorem dc_235_100 : am_dc 235 100 = some (.lcmp, 101, 0) := by decide +kernel
theorem dc_235_101 : am_dc 235 101 = some (.ifCond .gt 6, 104, 107) := by decide +kernel
theorem dc_235_104 : am_dc 235 104 = some (.goto 14, 107, 118) := by decide +kernel
theorem dc_235_107 : am_dc 235 107 = some (.aload_n 0, 108, 0) := by decide +kernel
theorem dc_235_108 : am_dc 235 108 = some (.lload_n 2, 109, 0) := by decide +kernel
theorem dc_235_109 : am_dc 235 109 = some (.putfield 219, 112, 0) := by decide +kernel
theorem dc_235_112 : am_dc 235 112 = some (.aload_n 0, 113, 0) := by decide +kernel
theorem dc_235_113 : am_dc 235 113 = some (.lload 4, 115, 0) := by decide +kernel
theorem dc_235_115 : am_dc 235 115 = some (.putfield 223, 118, 0) := by decide +kernel
theorem dc_235_118 : am_dc 235 118 = some (.iinc 6 1, 121, 0) := by decide +kernel
theorem dc_235_121 : am_dc 235 121 = some (.goto (-93), 124, 28) := by decide +kernel
theorem dc_235_124 : am_dc 235 124 = some (.aload_n 0, 125, 0) := by decide +kernel
theorem dc_235_125 : am_dc 235 125 = some (.getfield 219, 128, 0) := by decide +kernel
theorem dc_235_128 : am_dc 235 128 = some (.aload_n 0, 129, 0) := by decide +kernel
theorem dc_235_129 : am_dc 235 129 = some (.getfield 223, 132, 0) := by decide +kernel
theorem dc_235_132 : am_dc 235 132 = some (.invokestatic 226, 135, 0) := by decide +kernel
theorem dc_235_135 : am_dc 235 135 = some (.lstore 6, 137, 0) := by decide +kernel
theorem dc_235_137 : am_dc 235 137 = some (.aload_n 0, 138, 0) := by decide +kernel
theorem dc_235_138 : am_dc 235 138 = some (.dup, 139, 0) := by decide +kernel
theorem dc_235_139 : am_dc 235 139 = some (.getfield 219, 142, 0) := by decide +kernel
theorem dc_235_142 : am_dc 235 142 = some (.lload 6, 144, 0) := by decide +kernel
theorem dc_235_144 : am_dc 235 144 = some (.ldiv, 145, 0) := by decide +kernel
theorem dc_235_145 : am_dc 235 145 = some (.putfield 219, 148, 0) := by decide +kernel
theorem dc_235_148 : am_dc 235 148 = some (.aload_n 0, 149, 0) := by decide +kernel
theorem dc_235_149 : am_dc 235 149 = some (.dup, 150, 0) := by decide +kernel
theorem dc_235_150 : am_dc 235 150 = some (.getfield 223, 153, 0) := by decide +kernel
theorem dc_235_153 : am_dc 235 153 = some (.lload 6, 155, 0) := by decide +kernel
theorem dc_235_155 : am_dc 235 155 = some (.ldiv, 156, 0) := by decide +kernel
theorem dc_235_156 : am_dc 235 156 = some (.putfield 223, 159, 0) := by decide +kernel
theorem dc_235_159 : am_dc 235 159 = some (.return_, 160, 0) := by decide +kernel
theorem dc_236_0 : am_dc 236 0 = some (.lload_n 0, 1, 0) := by decide +kernel
theorem dc_236_1 : am_dc 236 1 = some (.lconst 0, 2, 0) := by decide +kernel
theorem dc_236_2 : am_dc 236 2 = some (.lcmp, 3, 0) := by decide +kernel
theorem dc_236_3 : am_dc 236 3 = some (.ifCond .ge 8, 6, 11) := by decide +kernel
theorem dc_236_6 : am_dc 236 6 = some (.lload_n 0, 7, 0) := by decide +kernel
theorem dc_236_7 : am_dc 236 7 = some (.lneg, 8, 0) := by decide +kernel
theorem dc_236_8 : am_dc 236 8 = some (.goto 4, 11, 12) := by decide +kernel
theorem dc_236_11 : am_dc 236 11 = some (.lload_n 0, 12, 0) := by decide +kernel
theorem dc_236_12 : am_dc 236 12 = some (.lstore 4, 14, 0) := by decide +kernel
theorem dc_236_14 : am_dc 236 14 = some (.lload_n 2, 15, 0) := by decide +kernel
theorem dc_236_15 : am_dc 236 15 = some (.lstore 6, 17, 0) := by decide +kernel
theorem dc_236_17 : am_dc 236 17 = some (.lload 6, 19, 0) := by decide +kernel
theorem dc_236_19 : am_dc 236 19 = some (.lconst 0, 20, 0) := by decide +kernel
theorem dc_236_20 : am_dc 236 20 = some (.lcmp, 21, 0) := by decide +kernel
theorem dc_236_21 : am_dc 236 21 = some (.ifCond .eq 21, 24, 42) := by decide +kernel
theorem dc_236_24 : am_dc 236 24 = some (.lload 4, 26, 0) := by decide +kernel
theorem dc_236_26 : am_dc 236 26 = some (.lload 6, 28, 0) := by decide +kernel
theorem dc_236_28 : am_dc 236 28 = some (.lrem, 29, 0) := by decide +kernel
theorem dc_236_29 : am_dc 236 29 = some (.lstore 8, 31, 0) := by decide +kernel
theorem dc_236_31 : am_dc 236 31 = some (.lload 6, 33, 0) := by decide +kernel
theorem dc_236_33 : am_dc 236 33 = some (.lstore 4, 35, 0) := by decide +kernel
theorem dc_236_35 : am_dc 236 35 = some (.lload 8, 37, 0) := by decide +kernel
theorem dc_236_37 : am_dc 236 37 = some (.lstore 6, 39, 0) := by decide +kernel
theorem dc_236_39 : am_dc 236 39 = some (.goto (-22), 42, 17) := by decide +kernel
theorem dc_236_42 : am_dc 236 42 = some (.lload 4, 44, 0) := by decide +kernel
theorem dc_236_44 : am_dc 236 44 = some (.lreturn, 45, 0) := by decide +kernel
theorem dc_237_0 : am_dc 237 0 = some (.aload_n 0, 1, 0) := by decide +kernel
theorem dc_237_1 : am_dc 237 1 = some (.invokevirtual 236, 4, 0) := by decide +kernel
theorem dc_237_4 : am_dc 237 4 = some (.ireturn, 5, 0) := by decide +kernel
theorem dc_238_0 : am_dc 238 0 = some (.bipush (-4), 2, 0) := by decide +kernel
theorem dc_238_2 : am_dc 238 2 = some (.istore_n 1, 3, 0) := by decide +kernel
theorem dc_238_3 : am_dc 238 3 = some (.lconst 0, 4, 0) := by decide +kernel
theorem dc_238_4 : am_dc 238 4 = some (.lstore_n 2, 5, 0) := by decide +kernel
theorem dc_238_5 : am_dc 238 5 = some (.lconst 1, 6, 0) := by decide +kernel
theorem dc_238_6 : am_dc 238 6 = some (.lstore 4, 8, 0) := by decide +kernel
theorem dc_238_8 : am_dc 238 8 = some (.iconst 0, 9, 0) := by decide +kernel
theorem dc_238_9 : am_dc 238 9 = some (.istore 6, 11, 0) := by decide +kernel
theorem dc_238_11 : am_dc 238 11 = some (.iload 6, 13, 0) := by decide +kernel
theorem dc_238_13 : am_dc 238 13 = some (.aload_n 0, 14, 0) := by decide +kernel
theorem dc_238_14 : am_dc 238 14 = some (.getfield 9, 17, 0) := by decide +kernel
theorem dc_238_17 : am_dc 238 17 = some (.bipush 116, 19, 0) := by decide +kernel
theorem dc_238_19 : am_dc 238 19 = some (.iaload, 20, 0) := by decide +kernel
theorem dc_238_20 : am_dc 238 20 = some (.if_icmp .ge 65, 23, 85) := by decide +kernel
theorem dc_238_23 : am_dc 238 23 = some (.aload_n 0, 24, 0) := by decide +kernel
theorem dc_238_24 : am_dc 238 24 = some (.iload 6, 26, 0) := by decide +kernel
theorem dc_238_26 : am_dc 238 26 = some (.invokevirtual 192, 29, 0) := by decide +kernel
theorem dc_238_29 : am_dc 238 29 = some (.ifCond .ne 6, 32, 35) := by decide +kernel
theorem dc_238_32 : am_dc 238 32 = some (.goto 47, 35, 79) := by decide +kernel
theorem dc_238_35 : am_dc 238 35 = some (.aload_n 0, 36, 0) := by decide +kernel
theorem dc_238_36 : am_dc 238 36 = some (.iload 6, 38, 0) := by decide +kernel
theorem dc_238_38 : am_dc 238 38 = some (.invokevirtual 232, 41, 0) := by decide +kernel
theorem dc_238_41 : am_dc 238 41 = some (.iload_n 1, 42, 0) := by decide +kernel
theorem dc_238_42 : am_dc 238 42 = some (.ifCond .lt 23, 45, 65) := by decide +kernel
theorem dc_238_45 : am_dc 238 45 = some (.aload_n 0, 46, 0) := by decide +kernel
theorem dc_238_46 : am_dc 238 46 = some (.getfield 219, 49, 0) := by decide +kernel
theorem dc_238_49 : am_dc 238 49 = some (.lload 4, 51, 0) := by decide +kernel
theorem dc_238_51 : am_dc 238 51 = some (.lmul, 52, 0) := by decide +kernel
theorem dc_238_52 : am_dc 238 52 = some (.lload_n 2, 53, 0) := by decide +kernel
theorem dc_238_53 : am_dc 238 53 = some (.aload_n 0, 54, 0) := by decide +kernel
theorem dc_238_54 : am_dc 238 54 = some (.getfield 223, 57, 0) := by decide +kernel
theorem dc_238_57 : am_dc 238 57 = some (.lmul, 58, 0) := by decide +kernel
theorem dc_238_58 : am_dc 238 58 = some (.lcmp, 59, 0) := by decide +kernel
theorem dc_238_59 : am_dc 238 59 = some (.ifCond .gt 6, 62, 65) := by decide +kernel
theorem dc_238_62 : am_dc 238 62 = some (.goto 17, 65, 79) := by decide +kernel
theorem dc_238_65 : am_dc 238 65 = some (.iload 6, 67, 0) := by decide +kernel
theorem dc_238_67 : am_dc 238 67 = some (.istore_n 1, 68, 0) := by decide +kernel
theorem dc_238_68 : am_dc 238 68 = some (.aload_n 0, 69, 0) := by decide +kernel
theorem dc_238_69 : am_dc 238 69 = some (.getfield 219, 72, 0) := by decide +kernel
theorem dc_238_72 : am_dc 238 72 = some (.lstore_n 2, 73, 0) := by decide +kernel
theorem dc_238_73 : am_dc 238 73 = some (.aload_n 0, 74, 0) := by decide +kernel
