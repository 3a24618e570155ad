theorem dX9_init_339 : decode cX9_init 339 = .ok (.putfield 66, 3) := by decide +kernel
theorem dX9_init_342 : decode cX9_init 342 = .ok (.aload_n 0, 1) := by decide +kernel
theorem dX9_init_343 : decode cX9_init 343 = .ok (.sipush 4000, 3) := by decide +kernel
theorem dX9_init_346 : decode cX9_init 346 = .ok (.newarray .int, 2) := by decide +kernel
theorem dX9_init_348 : decode cX9_init 348 = .ok (.putfield 69, 3) := by decide +kernel
theorem dX9_init_351 : decode cX9_init 351 = .ok (.aload_n 0, 1) := by decide +kernel
theorem dX9_init_352 : decode cX9_init 352 = .ok (.sipush 4000, 3) := by decide +kernel
theorem dX9_init_355 : decode cX9_init 355 = .ok (.newarray .boolean, 2) := by decide +kernel
theorem dX9_init_357 : decode cX9_init 357 = .ok (.putfield 72, 3) := by decide +kernel
theorem dX9_init_360 : decode cX9_init 360 = .ok (.aload_n 0, 1) := by decide +kernel
theorem dX9_init_361 : decode cX9_init 361 = .ok (.sipush 4000, 3) := by decide +kernel
theorem dX9_init_364 : decode cX9_init 364 = .ok (.newarray .boolean, 2) := by decide +kernel
theorem dX9_init_366 : decode cX9_init 366 = .ok (.putfield 76, 3) := by decide +kernel
theorem dX9_init_369 : decode cX9_init 369 = .ok (.return_, 1) := by decide +kernel
theorem dX9_within_0 : decode cX9_within 0 = .ok (.iload_n 0, 1) := by decide +kernel
theorem dX9_within_1 : decode cX9_within 1 = .ok (.iload_n 1, 1) := by decide +kernel
theorem dX9_within_2 : decode cX9_within 2 = .ok (.if_icmp .lt 12, 3) := by decide +kernel
theorem dX9_within_5 : decode cX9_within 5 = .ok (.iload_n 0, 1) := by decide +kernel
theorem dX9_within_6 : decode cX9_within 6 = .ok (.iload_n 2, 1) := by decide +kernel
theorem dX9_within_7 : decode cX9_within 7 = .ok (.if_icmp .gt 7, 3) := by decide +kernel
theorem dX9_within_10 : decode cX9_within 10 = .ok (.iconst 1, 1) := by decide +kernel
theorem dX9_within_11 : decode cX9_within 11 = .ok (.goto 4, 3) := by decide +kernel
theorem dX9_within_14 : decode cX9_within 14 = .ok (.iconst 0, 1) := by decide +kernel
theorem dX9_within_15 : decode cX9_within 15 = .ok (.ireturn, 1) := by decide +kernel
theorem dX9_vol_0 : decode cX9_vol 0 = .ok (.iload_n 0, 1) := by decide +kernel
theorem dX9_vol_1 : decode cX9_vol 1 = .ok (.i2l, 1) := by decide +kernel
theorem dX9_vol_2 : decode cX9_vol 2 = .ok (.iload 4, 2) := by decide +kernel
theorem dX9_vol_4 : decode cX9_vol 4 = .ok (.iload 8, 2) := by decide +kernel
theorem dX9_vol_6 : decode cX9_vol 6 = .ok (.imul, 1) := by decide +kernel
theorem dX9_vol_7 : decode cX9_vol 7 = .ok (.iload 5, 2) := by decide +kernel
theorem dX9_vol_9 : decode cX9_vol 9 = .ok (.iload 7, 2) := by decide +kernel
theorem dX9_vol_11 : decode cX9_vol 11 = .ok (.imul, 1) := by decide +kernel
theorem dX9_vol_12 : decode cX9_vol 12 = .ok (.isub, 1) := by decide +kernel
theorem dX9_vol_13 : decode cX9_vol 13 = .ok (.i2l, 1) := by decide +kernel
theorem dX9_vol_14 : decode cX9_vol 14 = .ok (.lmul, 1) := by decide +kernel
theorem dX9_vol_15 : decode cX9_vol 15 = .ok (.iload_n 1, 1) := by decide +kernel
theorem dX9_vol_16 : decode cX9_vol 16 = .ok (.i2l, 1) := by decide +kernel
theorem dX9_vol_17 : decode cX9_vol 17 = .ok (.iload 5, 2) := by decide +kernel
theorem dX9_vol_19 : decode cX9_vol 19 = .ok (.iload 6, 2) := by decide +kernel
theorem dX9_vol_21 : decode cX9_vol 21 = .ok (.imul, 1) := by decide +kernel
theorem dX9_vol_22 : decode cX9_vol 22 = .ok (.iload_n 3, 1) := by decide +kernel
theorem dX9_vol_23 : decode cX9_vol 23 = .ok (.iload 8, 2) := by decide +kernel
theorem dX9_vol_25 : decode cX9_vol 25 = .ok (.imul, 1) := by decide +kernel
theorem dX9_vol_26 : decode cX9_vol 26 = .ok (.isub, 1) := by decide +kernel
theorem dX9_vol_27 : decode cX9_vol 27 = .ok (.i2l, 1) := by decide +kernel
theorem dX9_vol_28 : decode cX9_vol 28 = .ok (.lmul, 1) := by decide +kernel
theorem dX9_vol_29 : decode cX9_vol 29 = .ok (.ladd, 1) := by decide +kernel
theorem dX9_vol_30 : decode cX9_vol 30 = .ok (.iload_n 2, 1) := by decide +kernel
theorem dX9_vol_31 : decode cX9_vol 31 = .ok (.i2l, 1) := by decide +kernel
theorem dX9_vol_32 : decode cX9_vol 32 = .ok (.iload_n 3, 1) := by decide +kernel
theorem dX9_vol_33 : decode cX9_vol 33 = .ok (.iload 7, 2) := by decide +kernel
theorem dX9_vol_35 : decode cX9_vol 35 = .ok (.imul, 1) := by decide +kernel
theorem dX9_vol_36 : decode cX9_vol 36 = .ok (.iload 4, 2) := by decide +kernel
theorem dX9_vol_38 : decode cX9_vol 38 = .ok (.iload 6, 2) := by decide +kernel
theorem dX9_vol_40 : decode cX9_vol 40 = .ok (.imul, 1) := by decide +kernel
theorem dX9_vol_41 : decode cX9_vol 41 = .ok (.isub, 1) := by decide +kernel
theorem dX9_vol_42 : decode cX9_vol 42 = .ok (.i2l, 1) := by decide +kernel
theorem dX9_vol_43 : decode cX9_vol 43 = .ok (.lmul, 1) := by decide +kernel
theorem dX9_vol_44 : decode cX9_vol 44 = .ok (.ladd, 1) := by decide +kernel
theorem dX9_vol_45 : decode cX9_vol 45 = .ok (.lreturn, 1) := by decide +kernel
theorem dX9_isPoint_0 : decode cX9_isPoint 0 = .ok (.iload_n 1, 1) := by decide +kernel
theorem dX9_isPoint_1 : decode cX9_isPoint 1 = .ok (.iconst 0, 1) := by decide +kernel
theorem dX9_isPoint_2 : decode cX9_isPoint 2 = .ok (.aload_n 0, 1) := by decide +kernel
theorem dX9_isPoint_3 : decode cX9_isPoint 3 = .ok (.getfield 79, 3) := by decide +kernel
theorem dX9_isPoint_6 : decode cX9_isPoint 6 = .ok (.iconst 1, 1) := by decide +kernel
theorem dX9_isPoint_7 : decode cX9_isPoint 7 = .ok (.isub, 1) := by decide +kernel
theorem dX9_isPoint_8 : decode cX9_isPoint 8 = .ok (.invokestatic 82, 3) := by decide +kernel
theorem dX9_isPoint_11 : decode cX9_isPoint 11 = .ok (.ireturn, 1) := by decide +kernel
theorem dX9_isFace_0 : decode cX9_isFace 0 = .ok (.iload_n 1, 1) := by decide +kernel
theorem dX9_isFace_1 : decode cX9_isFace 1 = .ok (.iconst 0, 1) := by decide +kernel
theorem dX9_isFace_2 : decode cX9_isFace 2 = .ok (.aload_n 0, 1) := by decide +kernel
theorem dX9_isFace_3 : decode cX9_isFace 3 = .ok (.getfield 86, 3) := by decide +kernel
theorem dX9_isFace_6 : decode cX9_isFace 6 = .ok (.iconst 1, 1) := by decide +kernel
theorem dX9_isFace_7 : decode cX9_isFace 7 = .ok (.isub, 1) := by decide +kernel
theorem dX9_isFace_8 : decode cX9_isFace 8 = .ok (.invokestatic 82, 3) := by decide +kernel
theorem dX9_isFace_11 : decode cX9_isFace 11 = .ok (.ireturn, 1) := by decide +kernel
theorem dX9_pointAt_0 : decode cX9_pointAt 0 = .ok (.iconst 0, 1) := by decide +kernel
theorem dX9_pointAt_1 : decode cX9_pointAt 1 = .ok (.istore 4, 2) := by decide +kernel
theorem dX9_pointAt_3 : decode cX9_pointAt 3 = .ok (.iload 4, 2) := by decide +kernel
theorem dX9_pointAt_5 : decode cX9_pointAt 5 = .ok (.aload_n 0, 1) := by decide +kernel
theorem dX9_pointAt_6 : decode cX9_pointAt 6 = .ok (.getfield 79, 3) := by decide +kernel
theorem dX9_pointAt_9 : decode cX9_pointAt 9 = .ok (.if_icmp .ge 45, 3) := by decide +kernel
theorem dX9_pointAt_12 : decode cX9_pointAt 12 = .ok (.aload_n 0, 1) := by decide +kernel
theorem dX9_pointAt_13 : decode cX9_pointAt 13 = .ok (.getfield 7, 3) := by decide +kernel
theorem dX9_pointAt_16 : decode cX9_pointAt 16 = .ok (.iload 4, 2) := by decide +kernel
theorem dX9_pointAt_18 : decode cX9_pointAt 18 = .ok (.iaload, 1) := by decide +kernel
theorem dX9_pointAt_19 : decode cX9_pointAt 19 = .ok (.iload_n 1, 1) := by decide +kernel
theorem dX9_pointAt_20 : decode cX9_pointAt 20 = .ok (.if_icmp .ne 28, 3) := by decide +kernel
theorem dX9_pointAt_23 : decode cX9_pointAt 23 = .ok (.aload_n 0, 1) := by decide +kernel
theorem dX9_pointAt_24 : decode cX9_pointAt 24 = .ok (.getfield 13, 3) := by decide +kernel
theorem dX9_pointAt_27 : decode cX9_pointAt 27 = .ok (.iload 4, 2) := by decide +kernel
theorem dX9_pointAt_29 : decode cX9_pointAt 29 = .ok (.iaload, 1) := by decide +kernel
theorem dX9_pointAt_30 : decode cX9_pointAt 30 = .ok (.iload_n 2, 1) := by decide +kernel
theorem dX9_pointAt_31 : decode cX9_pointAt 31 = .ok (.if_icmp .ne 17, 3) := by decide +kernel
theorem dX9_pointAt_34 : decode cX9_pointAt 34 = .ok (.aload_n 0, 1) := by decide +kernel
theorem dX9_pointAt_35 : decode cX9_pointAt 35 = .ok (.getfield 16, 3) := by decide +kernel
theorem dX9_pointAt_38 : decode cX9_pointAt 38 = .ok (.iload 4, 2) := by decide +kernel
theorem dX9_pointAt_40 : decode cX9_pointAt 40 = .ok (.iaload, 1) := by decide +kernel
theorem dX9_pointAt_41 : decode cX9_pointAt 41 = .ok (.iload_n 3, 1) := by decide +kernel
theorem dX9_pointAt_42 : decode cX9_pointAt 42 = .ok (.if_icmp .ne 6, 3) := by decide +kernel
theorem dX9_pointAt_45 : decode cX9_pointAt 45 = .ok (.iload 4, 2) := by decide +kernel
theorem dX9_pointAt_47 : decode cX9_pointAt 47 = .ok (.ireturn, 1) := by decide +kernel
theorem dX9_pointAt_48 : decode cX9_pointAt 48 = .ok (.iinc 4 1, 3) := by decide +kernel
theorem dX9_pointAt_51 : decode cX9_pointAt 51 = .ok (.goto (-48), 3) := by decide +kernel
theorem dX9_pointAt_54 : decode cX9_pointAt 54 = .ok (.bipush (-9), 2) := by decide +kernel
theorem dX9_pointAt_56 : decode cX9_pointAt 56 = .ok (.ireturn, 1) := by decide +kernel
theorem dX9_comes_0 : decode cX9_comes 0 = .ok (.aload_n 0, 1) := by decide +kernel
theorem dX9_comes_1 : decode cX9_comes 1 = .ok (.getfield 7, 3) := by decide +kernel
theorem dX9_comes_4 : decode cX9_comes 4 = .ok (.aload_n 0, 1) := by decide +kernel
theorem dX9_comes_5 : decode cX9_comes 5 = .ok (.getfield 79, 3) := by decide +kernel
theorem dX9_comes_8 : decode cX9_comes 8 = .ok (.iload_n 1, 1) := by decide +kernel
theorem dX9_comes_9 : decode cX9_comes 9 = .ok (.iastore, 1) := by decide +kernel
theorem dX9_comes_10 : decode cX9_comes 10 = .ok (.aload_n 0, 1) := by decide +kernel
theorem dX9_comes_11 : decode cX9_comes 11 = .ok (.getfield 13, 3) := by decide +kernel
theorem dX9_comes_14 : decode cX9_comes 14 = .ok (.aload_n 0, 1) := by decide +kernel
theorem dX9_comes_15 : decode cX9_comes 15 = .ok (.getfield 79, 3) := by decide +kernel
theorem dX9_comes_18 : decode cX9_comes 18 = .ok (.iload_n 2, 1) := by decide +kernel
theorem dX9_comes_19 : decode cX9_comes 19 = .ok (.iastore, 1) := by decide +kernel
theorem dX9_comes_20 : decode cX9_comes 20 = .ok (.aload_n 0, 1) := by decide +kernel
theorem dX9_comes_21 : decode cX9_comes 21 = .ok (.getfield 16, 3) := by decide +kernel
theorem dX9_comes_24 : decode cX9_comes 24 = .ok (.aload_n 0, 1) := by decide +kernel
theorem dX9_comes_25 : decode cX9_comes 25 = .ok (.getfield 79, 3) := by decide +kernel
theorem dX9_comes_28 : decode cX9_comes 28 = .ok (.iload_n 3, 1) := by decide +kernel
theorem dX9_comes_29 : decode cX9_comes 29 = .ok (.iastore, 1) := by decide +kernel
theorem dX9_comes_30 : decode cX9_comes 30 = .ok (.aload_n 0, 1) := by decide +kernel
theorem dX9_comes_31 : decode cX9_comes 31 = .ok (.dup, 1) := by decide +kernel
theorem dX9_comes_32 : decode cX9_comes 32 = .ok (.getfield 79, 3) := by decide +kernel
theorem dX9_comes_35 : decode cX9_comes 35 = .ok (.iconst 1, 1) := by decide +kernel
theorem dX9_comes_36 : decode cX9_comes 36 = .ok (.iadd, 1) := by decide +kernel
theorem dX9_comes_37 : decode cX9_comes 37 = .ok (.putfield 79, 3) := by decide +kernel
theorem dX9_comes_40 : decode cX9_comes 40 = .ok (.aload_n 0, 1) := by decide +kernel
theorem dX9_comes_41 : decode cX9_comes 41 = .ok (.iconst 0, 1) := by decide +kernel
theorem dX9_comes_42 : decode cX9_comes 42 = .ok (.putfield 89, 3) := by decide +kernel
theorem dX9_comes_45 : decode cX9_comes 45 = .ok (.return_, 1) := by decide +kernel
theorem dX9_isPlace_0 : decode cX9_isPlace 0 = .ok (.iload_n 0, 1) := by decide +kernel
theorem dX9_isPlace_1 : decode cX9_isPlace 1 = .ok (.bipush (-9), 2) := by decide +kernel
theorem dX9_isPlace_3 : decode cX9_isPlace 3 = .ok (.bipush 9, 2) := by decide +kernel
theorem dX9_isPlace_5 : decode cX9_isPlace 5 = .ok (.invokestatic 82, 3) := by decide +kernel
theorem dX9_isPlace_8 : decode cX9_isPlace 8 = .ok (.ifCond .eq 29, 3) := by decide +kernel
theorem dX9_isPlace_11 : decode cX9_isPlace 11 = .ok (.iload_n 1, 1) := by decide +kernel
theorem dX9_isPlace_12 : decode cX9_isPlace 12 = .ok (.bipush (-9), 2) := by decide +kernel
theorem dX9_isPlace_14 : decode cX9_isPlace 14 = .ok (.bipush 9, 2) := by decide +kernel
theorem dX9_isPlace_16 : decode cX9_isPlace 16 = .ok (.invokestatic 82, 3) := by decide +kernel
theorem dX9_isPlace_19 : decode cX9_isPlace 19 = .ok (.ifCond .eq 18, 3) := by decide +kernel
theorem dX9_isPlace_22 : decode cX9_isPlace 22 = .ok (.iload_n 2, 1) := by decide +kernel
theorem dX9_isPlace_23 : decode cX9_isPlace 23 = .ok (.bipush (-9), 2) := by decide +kernel
theorem dX9_isPlace_25 : decode cX9_isPlace 25 = .ok (.bipush 9, 2) := by decide +kernel
theorem dX9_isPlace_27 : decode cX9_isPlace 27 = .ok (.invokestatic 82, 3) := by decide +kernel
theorem dX9_isPlace_30 : decode cX9_isPlace 30 = .ok (.ifCond .eq 7, 3) := by decide +kernel
theorem dX9_isPlace_33 : decode cX9_isPlace 33 = .ok (.iconst 1, 1) := by decide +kernel
theorem dX9_isPlace_34 : decode cX9_isPlace 34 = .ok (.goto 4, 3) := by decide +kernel
theorem dX9_isPlace_37 : decode cX9_isPlace 37 = .ok (.iconst 0, 1) := by decide +kernel
theorem dX9_isPlace_38 : decode cX9_isPlace 38 = .ok (.ireturn, 1) := by decide +kernel
theorem dX9_point_0 : decode cX9_point 0 = .ok (.iload_n 1, 1) := by decide +kernel
theorem dX9_point_1 : decode cX9_point 1 = .ok (.iload_n 2, 1) := by decide +kernel
theorem dX9_point_2 : decode cX9_point 2 = .ok (.iload_n 3, 1) := by decide +kernel
theorem dX9_point_3 : decode cX9_point 3 = .ok (.invokestatic 93, 3) := by decide +kernel
theorem dX9_point_6 : decode cX9_point 6 = .ok (.ifCond .ne 6, 3) := by decide +kernel
theorem dX9_point_9 : decode cX9_point 9 = .ok (.bipush (-2), 2) := by decide +kernel
theorem dX9_point_11 : decode cX9_point 11 = .ok (.ireturn, 1) := by decide +kernel
theorem dX9_point_12 : decode cX9_point 12 = .ok (.aload_n 0, 1) := by decide +kernel
theorem dX9_point_13 : decode cX9_point 13 = .ok (.iload_n 1, 1) := by decide +kernel
theorem dX9_point_14 : decode cX9_point 14 = .ok (.iload_n 2, 1) := by decide +kernel
theorem dX9_point_15 : decode cX9_point 15 = .ok (.iload_n 3, 1) := by decide +kernel
theorem dX9_point_16 : decode cX9_point 16 = .ok (.invokevirtual 96, 3) := by decide +kernel
theorem dX9_point_19 : decode cX9_point 19 = .ok (.bipush (-9), 2) := by decide +kernel
theorem dX9_point_21 : decode cX9_point 21 = .ok (.if_icmp .eq 6, 3) := by decide +kernel
theorem dX9_point_24 : decode cX9_point 24 = .ok (.bipush (-3), 2) := by decide +kernel
theorem dX9_point_26 : decode cX9_point 26 = .ok (.ireturn, 1) := by decide +kernel
theorem dX9_point_27 : decode cX9_point 27 = .ok (.aload_n 0, 1) := by decide +kernel
theorem dX9_point_28 : decode cX9_point 28 = .ok (.getfield 79, 3) := by decide +kernel
theorem dX9_point_31 : decode cX9_point 31 = .ok (.bipush 16, 2) := by decide +kernel
theorem dX9_point_33 : decode cX9_point 33 = .ok (.if_icmp .ne 6, 3) := by decide +kernel
theorem dX9_point_36 : decode cX9_point 36 = .ok (.bipush (-4), 2) := by decide +kernel
theorem dX9_point_38 : decode cX9_point 38 = .ok (.ireturn, 1) := by decide +kernel
theorem dX9_point_39 : decode cX9_point 39 = .ok (.aload_n 0, 1) := by decide +kernel
theorem dX9_point_40 : decode cX9_point 40 = .ok (.iload_n 1, 1) := by decide +kernel
theorem dX9_point_41 : decode cX9_point 41 = .ok (.iload_n 2, 1) := by decide +kernel
theorem dX9_point_42 : decode cX9_point 42 = .ok (.iload_n 3, 1) := by decide +kernel
theorem dX9_point_43 : decode cX9_point 43 = .ok (.invokevirtual 100, 3) := by decide +kernel
theorem dX9_point_46 : decode cX9_point 46 = .ok (.aload_n 0, 1) := by decide +kernel
theorem dX9_point_47 : decode cX9_point 47 = .ok (.getfield 79, 3) := by decide +kernel
theorem dX9_point_50 : decode cX9_point 50 = .ok (.iconst 1, 1) := by decide +kernel
theorem dX9_point_51 : decode cX9_point 51 = .ok (.isub, 1) := by decide +kernel
theorem dX9_point_52 : decode cX9_point 52 = .ok (.ireturn, 1) := by decide +kernel
theorem dX9_volBy_0 : decode cX9_volBy 0 = .ok (.aload_n 0, 1) := by decide +kernel
theorem dX9_volBy_1 : decode cX9_volBy 1 = .ok (.getfield 7, 3) := by decide +kernel
theorem dX9_volBy_4 : decode cX9_volBy 4 = .ok (.iload_n 2, 1) := by decide +kernel
theorem dX9_volBy_5 : decode cX9_volBy 5 = .ok (.iaload, 1) := by decide +kernel
theorem dX9_volBy_6 : decode cX9_volBy 6 = .ok (.aload_n 0, 1) := by decide +kernel
theorem dX9_volBy_7 : decode cX9_volBy 7 = .ok (.getfield 7, 3) := by decide +kernel
theorem dX9_volBy_10 : decode cX9_volBy 10 = .ok (.iload_n 1, 1) := by decide +kernel
theorem dX9_volBy_11 : decode cX9_volBy 11 = .ok (.iaload, 1) := by decide +kernel
theorem dX9_volBy_12 : decode cX9_volBy 12 = .ok (.isub, 1) := by decide +kernel
theorem dX9_volBy_13 : decode cX9_volBy 13 = .ok (.aload_n 0, 1) := by decide +kernel
theorem dX9_volBy_14 : decode cX9_volBy 14 = .ok (.getfield 13, 3) := by decide +kernel
theorem dX9_volBy_17 : decode cX9_volBy 17 = .ok (.iload_n 2, 1) := by decide +kernel
theorem dX9_volBy_18 : decode cX9_volBy 18 = .ok (.iaload, 1) := by decide +kernel
theorem dX9_volBy_19 : decode cX9_volBy 19 = .ok (.aload_n 0, 1) := by decide +kernel
theorem dX9_volBy_20 : decode cX9_volBy 20 = .ok (.getfield 13, 3) := by decide +kernel
theorem dX9_volBy_23 : decode cX9_volBy 23 = .ok (.iload_n 1, 1) := by decide +kernel
theorem dX9_volBy_24 : decode cX9_volBy 24 = .ok (.iaload, 1) := by decide +kernel
theorem dX9_volBy_25 : decode cX9_volBy 25 = .ok (.isub, 1) := by decide +kernel
theorem dX9_volBy_26 : decode cX9_volBy 26 = .ok (.aload_n 0, 1) := by decide +kernel
theorem dX9_volBy_27 : decode cX9_volBy 27 = .ok (.getfield 16, 3) := by decide +kernel
theorem dX9_volBy_30 : decode cX9_volBy 30 = .ok (.iload_n 2, 1) := by decide +kernel
theorem dX9_volBy_31 : decode cX9_volBy 31 = .ok (.iaload, 1) := by decide +kernel
theorem dX9_volBy_32 : decode cX9_volBy 32 = .ok (.aload_n 0, 1) := by decide +kernel
theorem dX9_volBy_33 : decode cX9_volBy 33 = .ok (.getfield 16, 3) := by decide +kernel
theorem dX9_volBy_36 : decode cX9_volBy 36 = .ok (.iload_n 1, 1) := by decide +kernel
theorem dX9_volBy_37 : decode cX9_volBy 37 = .ok (.iaload, 1) := by decide +kernel
theorem dX9_volBy_38 : decode cX9_volBy 38 = .ok (.isub, 1) := by decide +kernel
theorem dX9_volBy_39 : decode cX9_volBy 39 = .ok (.iload_n 3, 1) := by decide +kernel
theorem dX9_volBy_40 : decode cX9_volBy 40 = .ok (.iload 4, 2) := by decide +kernel
theorem dX9_volBy_42 : decode cX9_volBy 42 = .ok (.iload 5, 2) := by decide +kernel
theorem dX9_volBy_44 : decode cX9_volBy 44 = .ok (.iload 6, 2) := by decide +kernel
theorem dX9_volBy_46 : decode cX9_volBy 46 = .ok (.iload 7, 2) := by decide +kernel
theorem dX9_volBy_48 : decode cX9_volBy 48 = .ok (.iload 8, 2) := by decide +kernel
theorem dX9_volBy_50 : decode cX9_volBy 50 = .ok (.invokestatic 104, 3) := by decide +kernel
theorem dX9_volBy_53 : decode cX9_volBy 53 = .ok (.lreturn, 1) := by decide +kernel
theorem dX9_isStraight_0 : decode cX9_isStraight 0 = .ok (.aload_n 0, 1) := by decide +kernel
theorem dX9_isStraight_1 : decode cX9_isStraight 1 = .ok (.getfield 7, 3) := by decide +kernel
theorem dX9_isStraight_4 : decode cX9_isStraight 4 = .ok (.iload_n 2, 1) := by decide +kernel
theorem dX9_isStraight_5 : decode cX9_isStraight 5 = .ok (.iaload, 1) := by decide +kernel
theorem dX9_isStraight_6 : decode cX9_isStraight 6 = .ok (.aload_n 0, 1) := by decide +kernel
theorem dX9_isStraight_7 : decode cX9_isStraight 7 = .ok (.getfield 7, 3) := by decide +kernel
theorem dX9_isStraight_10 : decode cX9_isStraight 10 = .ok (.iload_n 1, 1) := by decide +kernel
theorem dX9_isStraight_11 : decode cX9_isStraight 11 = .ok (.iaload, 1) := by decide +kernel
theorem dX9_isStraight_12 : decode cX9_isStraight 12 = .ok (.isub, 1) := by decide +kernel
theorem dX9_isStraight_13 : decode cX9_isStraight 13 = .ok (.istore 4, 2) := by decide +kernel
theorem dX9_isStraight_15 : decode cX9_isStraight 15 = .ok (.aload_n 0, 1) := by decide +kernel
theorem dX9_isStraight_16 : decode cX9_isStraight 16 = .ok (.getfield 13, 3) := by decide +kernel
theorem dX9_isStraight_19 : decode cX9_isStraight 19 = .ok (.iload_n 2, 1) := by decide +kernel
theorem dX9_isStraight_20 : decode cX9_isStraight 20 = .ok (.iaload, 1) := by decide +kernel
theorem dX9_isStraight_21 : decode cX9_isStraight 21 = .ok (.aload_n 0, 1) := by decide +kernel
theorem dX9_isStraight_22 : decode cX9_isStraight 22 = .ok (.getfield 13, 3) := by decide +kernel
theorem dX9_isStraight_25 : decode cX9_isStraight 25 = .ok (.iload_n 1, 1) := by decide +kernel
theorem dX9_isStraight_26 : decode cX9_isStraight 26 = .ok (.iaload, 1) := by decide +kernel
theorem dX9_isStraight_27 : decode cX9_isStraight 27 = .ok (.isub, 1) := by decide +kernel
theorem dX9_isStraight_28 : decode cX9_isStraight 28 = .ok (.istore 5, 2) := by decide +kernel
theorem dX9_isStraight_30 : decode cX9_isStraight 30 = .ok (.aload_n 0, 1) := by decide +kernel
theorem dX9_isStraight_31 : decode cX9_isStraight 31 = .ok (.getfield 16, 3) := by decide +kernel
theorem dX9_isStraight_34 : decode cX9_isStraight 34 = .ok (.iload_n 2, 1) := by decide +kernel
theorem dX9_isStraight_35 : decode cX9_isStraight 35 = .ok (.iaload, 1) := by decide +kernel
theorem dX9_isStraight_36 : decode cX9_isStraight 36 = .ok (.aload_n 0, 1) := by decide +kernel
theorem dX9_isStraight_37 : decode cX9_isStraight 37 = .ok (.getfield 16, 3) := by decide +kernel
theorem dX9_isStraight_40 : decode cX9_isStraight 40 = .ok (.iload_n 1, 1) := by decide +kernel
theorem dX9_isStraight_41 : decode cX9_isStraight 41 = .ok (.iaload, 1) := by decide +kernel
theorem dX9_isStraight_42 : decode cX9_isStraight 42 = .ok (.isub, 1) := by decide +kernel
theorem dX9_isStraight_43 : decode cX9_isStraight 43 = .ok (.istore 6, 2) := by decide +kernel
theorem dX9_isStraight_45 : decode cX9_isStraight 45 = .ok (.aload_n 0, 1) := by decide +kernel
theorem dX9_isStraight_46 : decode cX9_isStraight 46 = .ok (.getfield 7, 3) := by decide +kernel
theorem dX9_isStraight_49 : decode cX9_isStraight 49 = .ok (.iload_n 3, 1) := by decide +kernel
theorem dX9_isStraight_50 : decode cX9_isStraight 50 = .ok (.iaload, 1) := by decide +kernel
theorem dX9_isStraight_51 : decode cX9_isStraight 51 = .ok (.aload_n 0, 1) := by decide +kernel
theorem dX9_isStraight_52 : decode cX9_isStraight 52 = .ok (.getfield 7, 3) := by decide +kernel
theorem dX9_isStraight_55 : decode cX9_isStraight 55 = .ok (.iload_n 1, 1) := by decide +kernel
theorem dX9_isStraight_56 : decode cX9_isStraight 56 = .ok (.iaload, 1) := by decide +kernel
theorem dX9_isStraight_57 : decode cX9_isStraight 57 = .ok (.isub, 1) := by decide +kernel
theorem dX9_isStraight_58 : decode cX9_isStraight 58 = .ok (.istore 7, 2) := by decide +kernel
theorem dX9_isStraight_60 : decode cX9_isStraight 60 = .ok (.aload_n 0, 1) := by decide +kernel
theorem dX9_isStraight_61 : decode cX9_isStraight 61 = .ok (.getfield 13, 3) := by decide +kernel
theorem dX9_isStraight_64 : decode cX9_isStraight 64 = .ok (.iload_n 3, 1) := by decide +kernel
theorem dX9_isStraight_65 : decode cX9_isStraight 65 = .ok (.iaload, 1) := by decide +kernel
theorem dX9_isStraight_66 : decode cX9_isStraight 66 = .ok (.aload_n 0, 1) := by decide +kernel
theorem dX9_isStraight_67 : decode cX9_isStraight 67 = .ok (.getfield 13, 3) := by decide +kernel
theorem dX9_isStraight_70 : decode cX9_isStraight 70 = .ok (.iload_n 1, 1) := by decide +kernel
theorem dX9_isStraight_71 : decode cX9_isStraight 71 = .ok (.iaload, 1) := by decide +kernel
theorem dX9_isStraight_72 : decode cX9_isStraight 72 = .ok (.isub, 1) := by decide +kernel
theorem dX9_isStraight_73 : decode cX9_isStraight 73 = .ok (.istore 8, 2) := by decide +kernel
theorem dX9_isStraight_75 : decode cX9_isStraight 75 = .ok (.aload_n 0, 1) := by decide +kernel
theorem dX9_isStraight_76 : decode cX9_isStraight 76 = .ok (.getfield 16, 3) := by decide +kernel
theorem dX9_isStraight_79 : decode cX9_isStraight 79 = .ok (.iload_n 3, 1) := by decide +kernel
theorem dX9_isStraight_80 : decode cX9_isStraight 80 = .ok (.iaload, 1) := by decide +kernel
theorem dX9_isStraight_81 : decode cX9_isStraight 81 = .ok (.aload_n 0, 1) := by decide +kernel
theorem dX9_isStraight_82 : decode cX9_isStraight 82 = .ok (.getfield 16, 3) := by decide +kernel
theorem dX9_isStraight_85 : decode cX9_isStraight 85 = .ok (.iload_n 1, 1) := by decide +kernel
theorem dX9_isStraight_86 : decode cX9_isStraight 86 = .ok (.iaload, 1) := by decide +kernel
theorem dX9_isStraight_87 : decode cX9_isStraight 87 = .ok (.isub, 1) := by decide +kernel
theorem dX9_isStraight_88 : decode cX9_isStraight 88 = .ok (.istore 9, 2) := by decide +kernel
theorem dX9_isStraight_90 : decode cX9_isStraight 90 = .ok (.iload 5, 2) := by decide +kernel
theorem dX9_isStraight_92 : decode cX9_isStraight 92 = .ok (.iload 9, 2) := by decide +kernel
theorem dX9_isStraight_94 : decode cX9_isStraight 94 = .ok (.imul, 1) := by decide +kernel
theorem dX9_isStraight_95 : decode cX9_isStraight 95 = .ok (.iload 6, 2) := by decide +kernel
theorem dX9_isStraight_97 : decode cX9_isStraight 97 = .ok (.iload 8, 2) := by decide +kernel
theorem dX9_isStraight_99 : decode cX9_isStraight 99 = .ok (.imul, 1) := by decide +kernel
theorem dX9_isStraight_100 : decode cX9_isStraight 100 = .ok (.if_icmp .ne 33, 3) := by decide +kernel
theorem dX9_isStraight_103 : decode cX9_isStraight 103 = .ok (.iload 6, 2) := by decide +kernel
theorem dX9_isStraight_105 : decode cX9_isStraight 105 = .ok (.iload 7, 2) := by decide +kernel
theorem dX9_isStraight_107 : decode cX9_isStraight 107 = .ok (.imul, 1) := by decide +kernel
theorem dX9_isStraight_108 : decode cX9_isStraight 108 = .ok (.iload 4, 2) := by decide +kernel
theorem dX9_isStraight_110 : decode cX9_isStraight 110 = .ok (.iload 9, 2) := by decide +kernel
theorem dX9_isStraight_112 : decode cX9_isStraight 112 = .ok (.imul, 1) := by decide +kernel
theorem dX9_isStraight_113 : decode cX9_isStraight 113 = .ok (.if_icmp .ne 20, 3) := by decide +kernel
theorem dX9_isStraight_116 : decode cX9_isStraight 116 = .ok (.iload 4, 2) := by decide +kernel
theorem dX9_isStraight_118 : decode cX9_isStraight 118 = .ok (.iload 8, 2) := by decide +kernel
theorem dX9_isStraight_120 : decode cX9_isStraight 120 = .ok (.imul, 1) := by decide +kernel
theorem dX9_isStraight_121 : decode cX9_isStraight 121 = .ok (.iload 5, 2) := by decide +kernel
theorem dX9_isStraight_123 : decode cX9_isStraight 123 = .ok (.iload 7, 2) := by decide +kernel
theorem dX9_isStraight_125 : decode cX9_isStraight 125 = .ok (.imul, 1) := by decide +kernel
theorem dX9_isStraight_126 : decode cX9_isStraight 126 = .ok (.if_icmp .ne 7, 3) := by decide +kernel
theorem dX9_isStraight_129 : decode cX9_isStraight 129 = .ok (.iconst 1, 1) := by decide +kernel
theorem dX9_isStraight_130 : decode cX9_isStraight 130 = .ok (.goto 4, 3) := by decide +kernel
theorem dX9_isStraight_133 : decode cX9_isStraight 133 = .ok (.iconst 0, 1) := by decide +kernel
theorem dX9_isStraight_134 : decode cX9_isStraight 134 = .ok (.ireturn, 1) := by decide +kernel
theorem dX9_hasCorner_0 : decode cX9_hasCorner 0 = .ok (.aload_n 0, 1) := by decide +kernel
theorem dX9_hasCorner_1 : decode cX9_hasCorner 1 = .ok (.getfield 19, 3) := by decide +kernel
theorem dX9_hasCorner_4 : decode cX9_hasCorner 4 = .ok (.iconst 3, 1) := by decide +kernel
theorem dX9_hasCorner_5 : decode cX9_hasCorner 5 = .ok (.iload_n 1, 1) := by decide +kernel
theorem dX9_hasCorner_6 : decode cX9_hasCorner 6 = .ok (.imul, 1) := by decide +kernel
theorem dX9_hasCorner_7 : decode cX9_hasCorner 7 = .ok (.iaload, 1) := by decide +kernel
theorem dX9_hasCorner_8 : decode cX9_hasCorner 8 = .ok (.iload_n 2, 1) := by decide +kernel
theorem dX9_hasCorner_9 : decode cX9_hasCorner 9 = .ok (.if_icmp .eq 31, 3) := by decide +kernel
theorem dX9_hasCorner_12 : decode cX9_hasCorner 12 = .ok (.aload_n 0, 1) := by decide +kernel
theorem dX9_hasCorner_13 : decode cX9_hasCorner 13 = .ok (.getfield 19, 3) := by decide +kernel
theorem dX9_hasCorner_16 : decode cX9_hasCorner 16 = .ok (.iconst 3, 1) := by decide +kernel
theorem dX9_hasCorner_17 : decode cX9_hasCorner 17 = .ok (.iload_n 1, 1) := by decide +kernel
theorem dX9_hasCorner_18 : decode cX9_hasCorner 18 = .ok (.imul, 1) := by decide +kernel
theorem dX9_hasCorner_19 : decode cX9_hasCorner 19 = .ok (.iconst 1, 1) := by decide +kernel
theorem dX9_hasCorner_20 : decode cX9_hasCorner 20 = .ok (.iadd, 1) := by decide +kernel
theorem dX9_hasCorner_21 : decode cX9_hasCorner 21 = .ok (.iaload, 1) := by decide +kernel
theorem dX9_hasCorner_22 : decode cX9_hasCorner 22 = .ok (.iload_n 2, 1) := by decide +kernel
theorem dX9_hasCorner_23 : decode cX9_hasCorner 23 = .ok (.if_icmp .eq 17, 3) := by decide +kernel
theorem dX9_hasCorner_26 : decode cX9_hasCorner 26 = .ok (.aload_n 0, 1) := by decide +kernel
theorem dX9_hasCorner_27 : decode cX9_hasCorner 27 = .ok (.getfield 19, 3) := by decide +kernel
theorem dX9_hasCorner_30 : decode cX9_hasCorner 30 = .ok (.iconst 3, 1) := by decide +kernel
theorem dX9_hasCorner_31 : decode cX9_hasCorner 31 = .ok (.iload_n 1, 1) := by decide +kernel
theorem dX9_hasCorner_32 : decode cX9_hasCorner 32 = .ok (.imul, 1) := by decide +kernel
theorem dX9_hasCorner_33 : decode cX9_hasCorner 33 = .ok (.iconst 2, 1) := by decide +kernel
theorem dX9_hasCorner_34 : decode cX9_hasCorner 34 = .ok (.iadd, 1) := by decide +kernel
theorem dX9_hasCorner_35 : decode cX9_hasCorner 35 = .ok (.iaload, 1) := by decide +kernel
theorem dX9_hasCorner_36 : decode cX9_hasCorner 36 = .ok (.iload_n 2, 1) := by decide +kernel
theorem dX9_hasCorner_37 : decode cX9_hasCorner 37 = .ok (.if_icmp .ne 7, 3) := by decide +kernel
theorem dX9_hasCorner_40 : decode cX9_hasCorner 40 = .ok (.iconst 1, 1) := by decide +kernel
theorem dX9_hasCorner_41 : decode cX9_hasCorner 41 = .ok (.goto 4, 3) := by decide +kernel
theorem dX9_hasCorner_44 : decode cX9_hasCorner 44 = .ok (.iconst 0, 1) := by decide +kernel
theorem dX9_hasCorner_45 : decode cX9_hasCorner 45 = .ok (.ireturn, 1) := by decide +kernel
theorem dX9_isFaceOf_0 : decode cX9_isFaceOf 0 = .ok (.iconst 0, 1) := by decide +kernel
theorem dX9_isFaceOf_1 : decode cX9_isFaceOf 1 = .ok (.istore 4, 2) := by decide +kernel
theorem dX9_isFaceOf_3 : decode cX9_isFaceOf 3 = .ok (.iload 4, 2) := by decide +kernel
theorem dX9_isFaceOf_5 : decode cX9_isFaceOf 5 = .ok (.aload_n 0, 1) := by decide +kernel
theorem dX9_isFaceOf_6 : decode cX9_isFaceOf 6 = .ok (.getfield 86, 3) := by decide +kernel
theorem dX9_isFaceOf_9 : decode cX9_isFaceOf 9 = .ok (.if_icmp .ge 41, 3) := by decide +kernel
theorem dX9_isFaceOf_12 : decode cX9_isFaceOf 12 = .ok (.aload_n 0, 1) := by decide +kernel
theorem dX9_isFaceOf_13 : decode cX9_isFaceOf 13 = .ok (.iload 4, 2) := by decide +kernel
theorem dX9_isFaceOf_15 : decode cX9_isFaceOf 15 = .ok (.iload_n 1, 1) := by decide +kernel
theorem dX9_isFaceOf_16 : decode cX9_isFaceOf 16 = .ok (.invokevirtual 108, 3) := by decide +kernel
theorem dX9_isFaceOf_19 : decode cX9_isFaceOf 19 = .ok (.ifCond .eq 25, 3) := by decide +kernel
theorem dX9_isFaceOf_22 : decode cX9_isFaceOf 22 = .ok (.aload_n 0, 1) := by decide +kernel
theorem dX9_isFaceOf_23 : decode cX9_isFaceOf 23 = .ok (.iload 4, 2) := by decide +kernel
theorem dX9_isFaceOf_25 : decode cX9_isFaceOf 25 = .ok (.iload_n 2, 1) := by decide +kernel
theorem dX9_isFaceOf_26 : decode cX9_isFaceOf 26 = .ok (.invokevirtual 108, 3) := by decide +kernel
theorem dX9_isFaceOf_29 : decode cX9_isFaceOf 29 = .ok (.ifCond .eq 15, 3) := by decide +kernel
theorem dX9_isFaceOf_32 : decode cX9_isFaceOf 32 = .ok (.aload_n 0, 1) := by decide +kernel
theorem dX9_isFaceOf_33 : decode cX9_isFaceOf 33 = .ok (.iload 4, 2) := by decide +kernel
theorem dX9_isFaceOf_35 : decode cX9_isFaceOf 35 = .ok (.iload_n 3, 1) := by decide +kernel
theorem dX9_isFaceOf_36 : decode cX9_isFaceOf 36 = .ok (.invokevirtual 108, 3) := by decide +kernel
theorem dX9_isFaceOf_39 : decode cX9_isFaceOf 39 = .ok (.ifCond .eq 5, 3) := by decide +kernel
theorem dX9_isFaceOf_42 : decode cX9_isFaceOf 42 = .ok (.iconst 1, 1) := by decide +kernel
theorem dX9_isFaceOf_43 : decode cX9_isFaceOf 43 = .ok (.ireturn, 1) := by decide +kernel
theorem dX9_isFaceOf_44 : decode cX9_isFaceOf 44 = .ok (.iinc 4 1, 3) := by decide +kernel
theorem dX9_isFaceOf_47 : decode cX9_isFaceOf 47 = .ok (.goto (-44), 3) := by decide +kernel
theorem dX9_isFaceOf_50 : decode cX9_isFaceOf 50 = .ok (.iconst 0, 1) := by decide +kernel
theorem dX9_isFaceOf_51 : decode cX9_isFaceOf 51 = .ok (.ireturn, 1) := by decide +kernel
theorem dX9_faceComes_0 : decode cX9_faceComes 0 = .ok (.aload_n 0, 1) := by decide +kernel
theorem dX9_faceComes_1 : decode cX9_faceComes 1 = .ok (.getfield 19, 3) := by decide +kernel
theorem dX9_faceComes_4 : decode cX9_faceComes 4 = .ok (.iconst 3, 1) := by decide +kernel
theorem dX9_faceComes_5 : decode cX9_faceComes 5 = .ok (.aload_n 0, 1) := by decide +kernel
theorem dX9_faceComes_6 : decode cX9_faceComes 6 = .ok (.getfield 86, 3) := by decide +kernel
theorem dX9_faceComes_9 : decode cX9_faceComes 9 = .ok (.imul, 1) := by decide +kernel
theorem dX9_faceComes_10 : decode cX9_faceComes 10 = .ok (.iload_n 1, 1) := by decide +kernel
theorem dX9_faceComes_11 : decode cX9_faceComes 11 = .ok (.iastore, 1) := by decide +kernel
theorem dX9_faceComes_12 : decode cX9_faceComes 12 = .ok (.aload_n 0, 1) := by decide +kernel
theorem dX9_faceComes_13 : decode cX9_faceComes 13 = .ok (.getfield 19, 3) := by decide +kernel
theorem dX9_faceComes_16 : decode cX9_faceComes 16 = .ok (.iconst 3, 1) := by decide +kernel
theorem dX9_faceComes_17 : decode cX9_faceComes 17 = .ok (.aload_n 0, 1) := by decide +kernel
theorem dX9_faceComes_18 : decode cX9_faceComes 18 = .ok (.getfield 86, 3) := by decide +kernel
theorem dX9_faceComes_21 : decode cX9_faceComes 21 = .ok (.imul, 1) := by decide +kernel
theorem dX9_faceComes_22 : decode cX9_faceComes 22 = .ok (.iconst 1, 1) := by decide +kernel
theorem dX9_faceComes_23 : decode cX9_faceComes 23 = .ok (.iadd, 1) := by decide +kernel
theorem dX9_faceComes_24 : decode cX9_faceComes 24 = .ok (.iload_n 2, 1) := by decide +kernel
theorem dX9_faceComes_25 : decode cX9_faceComes 25 = .ok (.iastore, 1) := by decide +kernel
theorem dX9_faceComes_26 : decode cX9_faceComes 26 = .ok (.aload_n 0, 1) := by decide +kernel
theorem dX9_faceComes_27 : decode cX9_faceComes 27 = .ok (.getfield 19, 3) := by decide +kernel
theorem dX9_faceComes_30 : decode cX9_faceComes 30 = .ok (.iconst 3, 1) := by decide +kernel
theorem dX9_faceComes_31 : decode cX9_faceComes 31 = .ok (.aload_n 0, 1) := by decide +kernel
theorem dX9_faceComes_32 : decode cX9_faceComes 32 = .ok (.getfield 86, 3) := by decide +kernel
theorem dX9_faceComes_35 : decode cX9_faceComes 35 = .ok (.imul, 1) := by decide +kernel
theorem dX9_faceComes_36 : decode cX9_faceComes 36 = .ok (.iconst 2, 1) := by decide +kernel
theorem dX9_faceComes_37 : decode cX9_faceComes 37 = .ok (.iadd, 1) := by decide +kernel
theorem dX9_faceComes_38 : decode cX9_faceComes 38 = .ok (.iload_n 3, 1) := by decide +kernel
theorem dX9_faceComes_39 : decode cX9_faceComes 39 = .ok (.iastore, 1) := by decide +kernel
theorem dX9_faceComes_40 : decode cX9_faceComes 40 = .ok (.aload_n 0, 1) := by decide +kernel
theorem dX9_faceComes_41 : decode cX9_faceComes 41 = .ok (.dup, 1) := by decide +kernel
theorem dX9_faceComes_42 : decode cX9_faceComes 42 = .ok (.getfield 86, 3) := by decide +kernel
theorem dX9_faceComes_45 : decode cX9_faceComes 45 = .ok (.iconst 1, 1) := by decide +kernel
theorem dX9_faceComes_46 : decode cX9_faceComes 46 = .ok (.iadd, 1) := by decide +kernel
theorem dX9_faceComes_47 : decode cX9_faceComes 47 = .ok (.putfield 86, 3) := by decide +kernel
theorem dX9_faceComes_50 : decode cX9_faceComes 50 = .ok (.aload_n 0, 1) := by decide +kernel
theorem dX9_faceComes_51 : decode cX9_faceComes 51 = .ok (.iconst 0, 1) := by decide +kernel
theorem dX9_faceComes_52 : decode cX9_faceComes 52 = .ok (.putfield 89, 3) := by decide +kernel
theorem dX9_faceComes_55 : decode cX9_faceComes 55 = .ok (.return_, 1) := by decide +kernel
theorem dX9_face_0 : decode cX9_face 0 = .ok (.aload_n 0, 1) := by decide +kernel
theorem dX9_face_1 : decode cX9_face 1 = .ok (.iload_n 1, 1) := by decide +kernel
theorem dX9_face_2 : decode cX9_face 2 = .ok (.invokevirtual 112, 3) := by decide +kernel
theorem dX9_face_5 : decode cX9_face 5 = .ok (.ifCond .eq 19, 3) := by decide +kernel
theorem dX9_face_8 : decode cX9_face 8 = .ok (.aload_n 0, 1) := by decide +kernel
theorem dX9_face_9 : decode cX9_face 9 = .ok (.iload_n 2, 1) := by decide +kernel
theorem dX9_face_10 : decode cX9_face 10 = .ok (.invokevirtual 112, 3) := by decide +kernel
theorem dX9_face_13 : decode cX9_face 13 = .ok (.ifCond .eq 11, 3) := by decide +kernel
theorem dX9_face_16 : decode cX9_face 16 = .ok (.aload_n 0, 1) := by decide +kernel
theorem dX9_face_17 : decode cX9_face 17 = .ok (.iload_n 3, 1) := by decide +kernel
theorem dX9_face_18 : decode cX9_face 18 = .ok (.invokevirtual 112, 3) := by decide +kernel
theorem dX9_face_21 : decode cX9_face 21 = .ok (.ifCond .ne 5, 3) := by decide +kernel
theorem dX9_face_24 : decode cX9_face 24 = .ok (.iconst (-1), 1) := by decide +kernel
theorem dX9_face_25 : decode cX9_face 25 = .ok (.ireturn, 1) := by decide +kernel
theorem dX9_face_26 : decode cX9_face 26 = .ok (.aload_n 0, 1) := by decide +kernel
theorem dX9_face_27 : decode cX9_face 27 = .ok (.iload_n 1, 1) := by decide +kernel
theorem dX9_face_28 : decode cX9_face 28 = .ok (.iload_n 2, 1) := by decide +kernel
theorem dX9_face_29 : decode cX9_face 29 = .ok (.iload_n 3, 1) := by decide +kernel
theorem dX9_face_30 : decode cX9_face 30 = .ok (.invokevirtual 116, 3) := by decide +kernel
theorem dX9_face_33 : decode cX9_face 33 = .ok (.ifCond .ne 13, 3) := by decide +kernel
theorem dX9_face_36 : decode cX9_face 36 = .ok (.aload_n 0, 1) := by decide +kernel
theorem dX9_face_37 : decode cX9_face 37 = .ok (.iload_n 1, 1) := by decide +kernel
theorem dX9_face_38 : decode cX9_face 38 = .ok (.iload_n 2, 1) := by decide +kernel
theorem dX9_face_39 : decode cX9_face 39 = .ok (.iload_n 3, 1) := by decide +kernel
theorem dX9_face_40 : decode cX9_face 40 = .ok (.invokevirtual 119, 3) := by decide +kernel
theorem dX9_face_43 : decode cX9_face 43 = .ok (.ifCond .eq 6, 3) := by decide +kernel
theorem dX9_face_46 : decode cX9_face 46 = .ok (.bipush (-3), 2) := by decide +kernel
theorem dX9_face_48 : decode cX9_face 48 = .ok (.ireturn, 1) := by decide +kernel
theorem dX9_face_49 : decode cX9_face 49 = .ok (.aload_n 0, 1) := by decide +kernel
theorem dX9_face_50 : decode cX9_face 50 = .ok (.getfield 86, 3) := by decide +kernel
theorem dX9_face_53 : decode cX9_face 53 = .ok (.bipush 24, 2) := by decide +kernel
theorem dX9_face_55 : decode cX9_face 55 = .ok (.if_icmp .ne 6, 3) := by decide +kernel
theorem dX9_face_58 : decode cX9_face 58 = .ok (.bipush (-4), 2) := by decide +kernel
theorem dX9_face_60 : decode cX9_face 60 = .ok (.ireturn, 1) := by decide +kernel
theorem dX9_face_61 : decode cX9_face 61 = .ok (.aload_n 0, 1) := by decide +kernel
theorem dX9_face_62 : decode cX9_face 62 = .ok (.iload_n 1, 1) := by decide +kernel
theorem dX9_face_63 : decode cX9_face 63 = .ok (.iload_n 2, 1) := by decide +kernel
theorem dX9_face_64 : decode cX9_face 64 = .ok (.iload_n 3, 1) := by decide +kernel
theorem dX9_face_65 : decode cX9_face 65 = .ok (.invokevirtual 122, 3) := by decide +kernel
theorem dX9_face_68 : decode cX9_face 68 = .ok (.aload_n 0, 1) := by decide +kernel
theorem dX9_face_69 : decode cX9_face 69 = .ok (.getfield 86, 3) := by decide +kernel
theorem dX9_face_72 : decode cX9_face 72 = .ok (.iconst 1, 1) := by decide +kernel
theorem dX9_face_73 : decode cX9_face 73 = .ok (.isub, 1) := by decide +kernel
theorem dX9_face_74 : decode cX9_face 74 = .ok (.ireturn, 1) := by decide +kernel
theorem dX9_isWire_0 : decode cX9_isWire 0 = .ok (.iconst 0, 1) := by decide +kernel
theorem dX9_isWire_1 : decode cX9_isWire 1 = .ok (.istore_n 3, 1) := by decide +kernel
theorem dX9_isWire_2 : decode cX9_isWire 2 = .ok (.iload_n 3, 1) := by decide +kernel
theorem dX9_isWire_3 : decode cX9_isWire 3 = .ok (.aload_n 0, 1) := by decide +kernel
theorem dX9_isWire_4 : decode cX9_isWire 4 = .ok (.getfield 125, 3) := by decide +kernel
theorem dX9_isWire_7 : decode cX9_isWire 7 = .ok (.if_icmp .ge 51, 3) := by decide +kernel
theorem dX9_isWire_10 : decode cX9_isWire 10 = .ok (.aload_n 0, 1) := by decide +kernel
theorem dX9_isWire_11 : decode cX9_isWire 11 = .ok (.getfield 22, 3) := by decide +kernel
theorem dX9_isWire_14 : decode cX9_isWire 14 = .ok (.iload_n 3, 1) := by decide +kernel
theorem dX9_isWire_15 : decode cX9_isWire 15 = .ok (.iaload, 1) := by decide +kernel
theorem dX9_isWire_16 : decode cX9_isWire 16 = .ok (.iload_n 1, 1) := by decide +kernel
theorem dX9_isWire_17 : decode cX9_isWire 17 = .ok (.if_icmp .ne 13, 3) := by decide +kernel
theorem dX9_isWire_20 : decode cX9_isWire 20 = .ok (.aload_n 0, 1) := by decide +kernel
theorem dX9_isWire_21 : decode cX9_isWire 21 = .ok (.getfield 25, 3) := by decide +kernel
theorem dX9_isWire_24 : decode cX9_isWire 24 = .ok (.iload_n 3, 1) := by decide +kernel
theorem dX9_isWire_25 : decode cX9_isWire 25 = .ok (.iaload, 1) := by decide +kernel
theorem dX9_isWire_26 : decode cX9_isWire 26 = .ok (.iload_n 2, 1) := by decide +kernel
theorem dX9_isWire_27 : decode cX9_isWire 27 = .ok (.if_icmp .eq 23, 3) := by decide +kernel
theorem dX9_isWire_30 : decode cX9_isWire 30 = .ok (.aload_n 0, 1) := by decide +kernel
theorem dX9_isWire_31 : decode cX9_isWire 31 = .ok (.getfield 22, 3) := by decide +kernel
theorem dX9_isWire_34 : decode cX9_isWire 34 = .ok (.iload_n 3, 1) := by decide +kernel
theorem dX9_isWire_35 : decode cX9_isWire 35 = .ok (.iaload, 1) := by decide +kernel
theorem dX9_isWire_36 : decode cX9_isWire 36 = .ok (.iload_n 2, 1) := by decide +kernel
theorem dX9_isWire_37 : decode cX9_isWire 37 = .ok (.if_icmp .ne 15, 3) := by decide +kernel
theorem dX9_isWire_40 : decode cX9_isWire 40 = .ok (.aload_n 0, 1) := by decide +kernel
theorem dX9_isWire_41 : decode cX9_isWire 41 = .ok (.getfield 25, 3) := by decide +kernel
theorem dX9_isWire_44 : decode cX9_isWire 44 = .ok (.iload_n 3, 1) := by decide +kernel
theorem dX9_isWire_45 : decode cX9_isWire 45 = .ok (.iaload, 1) := by decide +kernel
theorem dX9_isWire_46 : decode cX9_isWire 46 = .ok (.iload_n 1, 1) := by decide +kernel
theorem dX9_isWire_47 : decode cX9_isWire 47 = .ok (.if_icmp .ne 5, 3) := by decide +kernel
theorem dX9_isWire_50 : decode cX9_isWire 50 = .ok (.iconst 1, 1) := by decide +kernel
theorem dX9_isWire_51 : decode cX9_isWire 51 = .ok (.ireturn, 1) := by decide +kernel
theorem dX9_isWire_52 : decode cX9_isWire 52 = .ok (.iinc 3 1, 3) := by decide +kernel
theorem dX9_isWire_55 : decode cX9_isWire 55 = .ok (.goto (-53), 3) := by decide +kernel
theorem dX9_isWire_58 : decode cX9_isWire 58 = .ok (.iconst 0, 1) := by decide +kernel
theorem dX9_isWire_59 : decode cX9_isWire 59 = .ok (.ireturn, 1) := by decide +kernel
theorem dX9_wire_0 : decode cX9_wire 0 = .ok (.aload_n 0, 1) := by decide +kernel
theorem dX9_wire_1 : decode cX9_wire 1 = .ok (.iload_n 1, 1) := by decide +kernel
theorem dX9_wire_2 : decode cX9_wire 2 = .ok (.invokevirtual 112, 3) := by decide +kernel
theorem dX9_wire_5 : decode cX9_wire 5 = .ok (.ifCond .eq 11, 3) := by decide +kernel
theorem dX9_wire_8 : decode cX9_wire 8 = .ok (.aload_n 0, 1) := by decide +kernel
theorem dX9_wire_9 : decode cX9_wire 9 = .ok (.iload_n 2, 1) := by decide +kernel
theorem dX9_wire_10 : decode cX9_wire 10 = .ok (.invokevirtual 112, 3) := by decide +kernel
theorem dX9_wire_13 : decode cX9_wire 13 = .ok (.ifCond .ne 5, 3) := by decide +kernel
theorem dX9_wire_16 : decode cX9_wire 16 = .ok (.iconst (-1), 1) := by decide +kernel
theorem dX9_wire_17 : decode cX9_wire 17 = .ok (.ireturn, 1) := by decide +kernel
theorem dX9_wire_18 : decode cX9_wire 18 = .ok (.iload_n 1, 1) := by decide +kernel
theorem dX9_wire_19 : decode cX9_wire 19 = .ok (.iload_n 2, 1) := by decide +kernel
theorem dX9_wire_20 : decode cX9_wire 20 = .ok (.if_icmp .eq 12, 3) := by decide +kernel
theorem dX9_wire_23 : decode cX9_wire 23 = .ok (.aload_n 0, 1) := by decide +kernel
theorem dX9_wire_24 : decode cX9_wire 24 = .ok (.iload_n 1, 1) := by decide +kernel
theorem dX9_wire_25 : decode cX9_wire 25 = .ok (.iload_n 2, 1) := by decide +kernel
theorem dX9_wire_26 : decode cX9_wire 26 = .ok (.invokevirtual 128, 3) := by decide +kernel
theorem dX9_wire_29 : decode cX9_wire 29 = .ok (.ifCond .eq 6, 3) := by decide +kernel
theorem dX9_wire_32 : decode cX9_wire 32 = .ok (.bipush (-3), 2) := by decide +kernel
theorem dX9_wire_34 : decode cX9_wire 34 = .ok (.ireturn, 1) := by decide +kernel
theorem dX9_wire_35 : decode cX9_wire 35 = .ok (.aload_n 0, 1) := by decide +kernel
theorem dX9_wire_36 : decode cX9_wire 36 = .ok (.getfield 125, 3) := by decide +kernel
theorem dX9_wire_39 : decode cX9_wire 39 = .ok (.bipush 8, 2) := by decide +kernel
theorem dX9_wire_41 : decode cX9_wire 41 = .ok (.if_icmp .ne 6, 3) := by decide +kernel
theorem dX9_wire_44 : decode cX9_wire 44 = .ok (.bipush (-4), 2) := by decide +kernel
theorem dX9_wire_46 : decode cX9_wire 46 = .ok (.ireturn, 1) := by decide +kernel
theorem dX9_wire_47 : decode cX9_wire 47 = .ok (.aload_n 0, 1) := by decide +kernel
theorem dX9_wire_48 : decode cX9_wire 48 = .ok (.getfield 22, 3) := by decide +kernel
theorem dX9_wire_51 : decode cX9_wire 51 = .ok (.aload_n 0, 1) := by decide +kernel
theorem dX9_wire_52 : decode cX9_wire 52 = .ok (.getfield 125, 3) := by decide +kernel
theorem dX9_wire_55 : decode cX9_wire 55 = .ok (.iload_n 1, 1) := by decide +kernel
theorem dX9_wire_56 : decode cX9_wire 56 = .ok (.iastore, 1) := by decide +kernel
theorem dX9_wire_57 : decode cX9_wire 57 = .ok (.aload_n 0, 1) := by decide +kernel
theorem dX9_wire_58 : decode cX9_wire 58 = .ok (.getfield 25, 3) := by decide +kernel
theorem dX9_wire_61 : decode cX9_wire 61 = .ok (.aload_n 0, 1) := by decide +kernel
theorem dX9_wire_62 : decode cX9_wire 62 = .ok (.getfield 125, 3) := by decide +kernel
theorem dX9_wire_65 : decode cX9_wire 65 = .ok (.iload_n 2, 1) := by decide +kernel
theorem dX9_wire_66 : decode cX9_wire 66 = .ok (.iastore, 1) := by decide +kernel
theorem dX9_wire_67 : decode cX9_wire 67 = .ok (.aload_n 0, 1) := by decide +kernel
theorem dX9_wire_68 : decode cX9_wire 68 = .ok (.dup, 1) := by decide +kernel
theorem dX9_wire_69 : decode cX9_wire 69 = .ok (.getfield 125, 3) := by decide +kernel
theorem dX9_wire_72 : decode cX9_wire 72 = .ok (.iconst 1, 1) := by decide +kernel
theorem dX9_wire_73 : decode cX9_wire 73 = .ok (.iadd, 1) := by decide +kernel
theorem dX9_wire_74 : decode cX9_wire 74 = .ok (.putfield 125, 3) := by decide +kernel
theorem dX9_wire_77 : decode cX9_wire 77 = .ok (.aload_n 0, 1) := by decide +kernel
theorem dX9_wire_78 : decode cX9_wire 78 = .ok (.iconst 0, 1) := by decide +kernel
theorem dX9_wire_79 : decode cX9_wire 79 = .ok (.putfield 89, 3) := by decide +kernel
theorem dX9_wire_82 : decode cX9_wire 82 = .ok (.aload_n 0, 1) := by decide +kernel
theorem dX9_wire_83 : decode cX9_wire 83 = .ok (.getfield 125, 3) := by decide +kernel
theorem dX9_wire_86 : decode cX9_wire 86 = .ok (.ireturn, 1) := by decide +kernel
theorem dX9_isBlockThere_0 : decode cX9_isBlockThere 0 = .ok (.iconst 0, 1) := by decide +kernel
theorem dX9_isBlockThere_1 : decode cX9_isBlockThere 1 = .ok (.istore_n 1, 1) := by decide +kernel
theorem dX9_isBlockThere_2 : decode cX9_isBlockThere 2 = .ok (.iload_n 1, 1) := by decide +kernel
theorem dX9_isBlockThere_3 : decode cX9_isBlockThere 3 = .ok (.bipush 12, 2) := by decide +kernel
theorem dX9_isBlockThere_5 : decode cX9_isBlockThere 5 = .ok (.if_icmp .ge 88, 3) := by decide +kernel
theorem dX9_isBlockThere_8 : decode cX9_isBlockThere 8 = .ok (.aload_n 0, 1) := by decide +kernel
theorem dX9_isBlockThere_9 : decode cX9_isBlockThere 9 = .ok (.getfield 35, 3) := by decide +kernel
theorem dX9_isBlockThere_12 : decode cX9_isBlockThere 12 = .ok (.aload_n 0, 1) := by decide +kernel
theorem dX9_isBlockThere_13 : decode cX9_isBlockThere 13 = .ok (.getfield 32, 3) := by decide +kernel
theorem dX9_isBlockThere_16 : decode cX9_isBlockThere 16 = .ok (.iconst 3, 1) := by decide +kernel
theorem dX9_isBlockThere_17 : decode cX9_isBlockThere 17 = .ok (.iload_n 1, 1) := by decide +kernel
theorem dX9_isBlockThere_18 : decode cX9_isBlockThere 18 = .ok (.imul, 1) := by decide +kernel
theorem dX9_isBlockThere_19 : decode cX9_isBlockThere 19 = .ok (.iaload, 1) := by decide +kernel
theorem dX9_isBlockThere_20 : decode cX9_isBlockThere 20 = .ok (.iaload, 1) := by decide +kernel
theorem dX9_isBlockThere_21 : decode cX9_isBlockThere 21 = .ok (.istore_n 2, 1) := by decide +kernel
theorem dX9_isBlockThere_22 : decode cX9_isBlockThere 22 = .ok (.aload_n 0, 1) := by decide +kernel
theorem dX9_isBlockThere_23 : decode cX9_isBlockThere 23 = .ok (.getfield 35, 3) := by decide +kernel
theorem dX9_isBlockThere_26 : decode cX9_isBlockThere 26 = .ok (.aload_n 0, 1) := by decide +kernel
theorem dX9_isBlockThere_27 : decode cX9_isBlockThere 27 = .ok (.getfield 32, 3) := by decide +kernel
theorem dX9_isBlockThere_30 : decode cX9_isBlockThere 30 = .ok (.iconst 3, 1) := by decide +kernel
theorem dX9_isBlockThere_31 : decode cX9_isBlockThere 31 = .ok (.iload_n 1, 1) := by decide +kernel
theorem dX9_isBlockThere_32 : decode cX9_isBlockThere 32 = .ok (.imul, 1) := by decide +kernel
theorem dX9_isBlockThere_33 : decode cX9_isBlockThere 33 = .ok (.iconst 1, 1) := by decide +kernel
theorem dX9_isBlockThere_34 : decode cX9_isBlockThere 34 = .ok (.iadd, 1) := by decide +kernel
theorem dX9_isBlockThere_35 : decode cX9_isBlockThere 35 = .ok (.iaload, 1) := by decide +kernel
theorem dX9_isBlockThere_36 : decode cX9_isBlockThere 36 = .ok (.iaload, 1) := by decide +kernel
theorem dX9_isBlockThere_37 : decode cX9_isBlockThere 37 = .ok (.istore_n 3, 1) := by decide +kernel
theorem dX9_isBlockThere_38 : decode cX9_isBlockThere 38 = .ok (.aload_n 0, 1) := by decide +kernel
theorem dX9_isBlockThere_39 : decode cX9_isBlockThere 39 = .ok (.getfield 35, 3) := by decide +kernel
theorem dX9_isBlockThere_42 : decode cX9_isBlockThere 42 = .ok (.aload_n 0, 1) := by decide +kernel
theorem dX9_isBlockThere_43 : decode cX9_isBlockThere 43 = .ok (.getfield 32, 3) := by decide +kernel
theorem dX9_isBlockThere_46 : decode cX9_isBlockThere 46 = .ok (.iconst 3, 1) := by decide +kernel
theorem dX9_isBlockThere_47 : decode cX9_isBlockThere 47 = .ok (.iload_n 1, 1) := by decide +kernel
theorem dX9_isBlockThere_48 : decode cX9_isBlockThere 48 = .ok (.imul, 1) := by decide +kernel
theorem dX9_isBlockThere_49 : decode cX9_isBlockThere 49 = .ok (.iconst 2, 1) := by decide +kernel
theorem dX9_isBlockThere_50 : decode cX9_isBlockThere 50 = .ok (.iadd, 1) := by decide +kernel
theorem dX9_isBlockThere_51 : decode cX9_isBlockThere 51 = .ok (.iaload, 1) := by decide +kernel
theorem dX9_isBlockThere_52 : decode cX9_isBlockThere 52 = .ok (.iaload, 1) := by decide +kernel
theorem dX9_isBlockThere_53 : decode cX9_isBlockThere 53 = .ok (.istore 4, 2) := by decide +kernel
theorem dX9_isBlockThere_55 : decode cX9_isBlockThere 55 = .ok (.iload_n 2, 1) := by decide +kernel
theorem dX9_isBlockThere_56 : decode cX9_isBlockThere 56 = .ok (.bipush (-9), 2) := by decide +kernel
theorem dX9_isBlockThere_58 : decode cX9_isBlockThere 58 = .ok (.if_icmp .eq 29, 3) := by decide +kernel
theorem dX9_isBlockThere_61 : decode cX9_isBlockThere 61 = .ok (.iload_n 3, 1) := by decide +kernel
theorem dX9_isBlockThere_62 : decode cX9_isBlockThere 62 = .ok (.bipush (-9), 2) := by decide +kernel
theorem dX9_isBlockThere_64 : decode cX9_isBlockThere 64 = .ok (.if_icmp .eq 23, 3) := by decide +kernel
theorem dX9_isBlockThere_67 : decode cX9_isBlockThere 67 = .ok (.iload 4, 2) := by decide +kernel
theorem dX9_isBlockThere_69 : decode cX9_isBlockThere 69 = .ok (.bipush (-9), 2) := by decide +kernel
theorem dX9_isBlockThere_71 : decode cX9_isBlockThere 71 = .ok (.if_icmp .eq 16, 3) := by decide +kernel
theorem dX9_isBlockThere_74 : decode cX9_isBlockThere 74 = .ok (.aload_n 0, 1) := by decide +kernel
theorem dX9_isBlockThere_75 : decode cX9_isBlockThere 75 = .ok (.iload_n 2, 1) := by decide +kernel
theorem dX9_isBlockThere_76 : decode cX9_isBlockThere 76 = .ok (.iload_n 3, 1) := by decide +kernel
theorem dX9_isBlockThere_77 : decode cX9_isBlockThere 77 = .ok (.iload 4, 2) := by decide +kernel
theorem dX9_isBlockThere_79 : decode cX9_isBlockThere 79 = .ok (.invokevirtual 119, 3) := by decide +kernel
theorem dX9_isBlockThere_82 : decode cX9_isBlockThere 82 = .ok (.ifCond .eq 5, 3) := by decide +kernel
theorem dX9_isBlockThere_85 : decode cX9_isBlockThere 85 = .ok (.iconst 1, 1) := by decide +kernel
theorem dX9_isBlockThere_86 : decode cX9_isBlockThere 86 = .ok (.ireturn, 1) := by decide +kernel
theorem dX9_isBlockThere_87 : decode cX9_isBlockThere 87 = .ok (.iinc 1 1, 3) := by decide +kernel
theorem dX9_isBlockThere_90 : decode cX9_isBlockThere 90 = .ok (.goto (-88), 3) := by decide +kernel
theorem dX9_isBlockThere_93 : decode cX9_isBlockThere 93 = .ok (.iconst 0, 1) := by decide +kernel
theorem dX9_isBlockThere_94 : decode cX9_isBlockThere 94 = .ok (.ireturn, 1) := by decide +kernel
theorem dX9_block_0 : decode cX9_block 0 = .ok (.iload_n 1, 1) := by decide +kernel
theorem dX9_block_1 : decode cX9_block 1 = .ok (.iload_n 2, 1) := by decide +kernel
theorem dX9_block_2 : decode cX9_block 2 = .ok (.iload_n 3, 1) := by decide +kernel
theorem dX9_block_3 : decode cX9_block 3 = .ok (.invokestatic 93, 3) := by decide +kernel
theorem dX9_block_6 : decode cX9_block 6 = .ok (.ifCond .eq 54, 3) := by decide +kernel
theorem dX9_block_9 : decode cX9_block 9 = .ok (.iload 4, 2) := by decide +kernel
theorem dX9_block_11 : decode cX9_block 11 = .ok (.iconst 1, 1) := by decide +kernel
theorem dX9_block_12 : decode cX9_block 12 = .ok (.bipush 9, 2) := by decide +kernel
theorem dX9_block_14 : decode cX9_block 14 = .ok (.invokestatic 82, 3) := by decide +kernel
theorem dX9_block_17 : decode cX9_block 17 = .ok (.ifCond .eq 43, 3) := by decide +kernel
theorem dX9_block_20 : decode cX9_block 20 = .ok (.iload 5, 2) := by decide +kernel
theorem dX9_block_22 : decode cX9_block 22 = .ok (.iconst 1, 1) := by decide +kernel
theorem dX9_block_23 : decode cX9_block 23 = .ok (.bipush 9, 2) := by decide +kernel
theorem dX9_block_25 : decode cX9_block 25 = .ok (.invokestatic 82, 3) := by decide +kernel
theorem dX9_block_28 : decode cX9_block 28 = .ok (.ifCond .eq 32, 3) := by decide +kernel
theorem dX9_block_31 : decode cX9_block 31 = .ok (.iload 6, 2) := by decide +kernel
theorem dX9_block_33 : decode cX9_block 33 = .ok (.iconst 1, 1) := by decide +kernel
theorem dX9_block_34 : decode cX9_block 34 = .ok (.bipush 9, 2) := by decide +kernel
theorem dX9_block_36 : decode cX9_block 36 = .ok (.invokestatic 82, 3) := by decide +kernel
theorem dX9_block_39 : decode cX9_block 39 = .ok (.ifCond .eq 21, 3) := by decide +kernel
theorem dX9_block_42 : decode cX9_block 42 = .ok (.iload_n 1, 1) := by decide +kernel
theorem dX9_block_43 : decode cX9_block 43 = .ok (.iload 4, 2) := by decide +kernel
theorem dX9_block_45 : decode cX9_block 45 = .ok (.iadd, 1) := by decide +kernel
theorem dX9_block_46 : decode cX9_block 46 = .ok (.iload_n 2, 1) := by decide +kernel
theorem dX9_block_47 : decode cX9_block 47 = .ok (.iload 5, 2) := by decide +kernel
theorem dX9_block_49 : decode cX9_block 49 = .ok (.iadd, 1) := by decide +kernel
theorem dX9_block_50 : decode cX9_block 50 = .ok (.iload_n 3, 1) := by decide +kernel
theorem dX9_block_51 : decode cX9_block 51 = .ok (.iload 6, 2) := by decide +kernel
theorem dX9_block_53 : decode cX9_block 53 = .ok (.iadd, 1) := by decide +kernel
theorem dX9_block_54 : decode cX9_block 54 = .ok (.invokestatic 93, 3) := by decide +kernel
theorem dX9_block_57 : decode cX9_block 57 = .ok (.ifCond .ne 6, 3) := by decide +kernel
theorem dX9_block_60 : decode cX9_block 60 = .ok (.bipush (-2), 2) := by decide +kernel
theorem dX9_block_62 : decode cX9_block 62 = .ok (.ireturn, 1) := by decide +kernel
theorem dX9_block_63 : decode cX9_block 63 = .ok (.iconst 0, 1) := by decide +kernel
theorem dX9_block_64 : decode cX9_block 64 = .ok (.istore 7, 2) := by decide +kernel
theorem dX9_block_66 : decode cX9_block 66 = .ok (.iconst 0, 1) := by decide +kernel
theorem dX9_block_67 : decode cX9_block 67 = .ok (.istore 8, 2) := by decide +kernel
theorem dX9_block_69 : decode cX9_block 69 = .ok (.iload 8, 2) := by decide +kernel
theorem dX9_block_71 : decode cX9_block 71 = .ok (.bipush 8, 2) := by decide +kernel
theorem dX9_block_73 : decode cX9_block 73 = .ok (.if_icmp .ge 71, 3) := by decide +kernel
theorem dX9_block_76 : decode cX9_block 76 = .ok (.aload_n 0, 1) := by decide +kernel
theorem dX9_block_77 : decode cX9_block 77 = .ok (.getfield 35, 3) := by decide +kernel
theorem dX9_block_80 : decode cX9_block 80 = .ok (.iload 8, 2) := by decide +kernel
theorem dX9_block_82 : decode cX9_block 82 = .ok (.aload_n 0, 1) := by decide +kernel
theorem dX9_block_83 : decode cX9_block 83 = .ok (.iload_n 1, 1) := by decide +kernel
theorem dX9_block_84 : decode cX9_block 84 = .ok (.iload 4, 2) := by decide +kernel
theorem dX9_block_86 : decode cX9_block 86 = .ok (.iload 8, 2) := by decide +kernel
theorem dX9_block_88 : decode cX9_block 88 = .ok (.iconst 1, 1) := by decide +kernel
theorem dX9_block_89 : decode cX9_block 89 = .ok (.iand, 1) := by decide +kernel
theorem dX9_block_90 : decode cX9_block 90 = .ok (.imul, 1) := by decide +kernel
theorem dX9_block_91 : decode cX9_block 91 = .ok (.iadd, 1) := by decide +kernel
theorem dX9_block_92 : decode cX9_block 92 = .ok (.iload_n 2, 1) := by decide +kernel
theorem dX9_block_93 : decode cX9_block 93 = .ok (.iload 5, 2) := by decide +kernel
theorem dX9_block_95 : decode cX9_block 95 = .ok (.iload 8, 2) := by decide +kernel
theorem dX9_block_97 : decode cX9_block 97 = .ok (.iconst 1, 1) := by decide +kernel
theorem dX9_block_98 : decode cX9_block 98 = .ok (.ishr, 1) := by decide +kernel
theorem dX9_block_99 : decode cX9_block 99 = .ok (.iconst 1, 1) := by decide +kernel
theorem dX9_block_100 : decode cX9_block 100 = .ok (.iand, 1) := by decide +kernel
theorem dX9_block_101 : decode cX9_block 101 = .ok (.imul, 1) := by decide +kernel
theorem dX9_block_102 : decode cX9_block 102 = .ok (.iadd, 1) := by decide +kernel
theorem dX9_block_103 : decode cX9_block 103 = .ok (.iload_n 3, 1) := by decide +kernel
theorem dX9_block_104 : decode cX9_block 104 = .ok (.iload 6, 2) := by decide +kernel
theorem dX9_block_106 : decode cX9_block 106 = .ok (.iload 8, 2) := by decide +kernel
theorem dX9_block_108 : decode cX9_block 108 = .ok (.iconst 2, 1) := by decide +kernel
theorem dX9_block_109 : decode cX9_block 109 = .ok (.ishr, 1) := by decide +kernel
theorem dX9_block_110 : decode cX9_block 110 = .ok (.imul, 1) := by decide +kernel
theorem dX9_block_111 : decode cX9_block 111 = .ok (.iadd, 1) := by decide +kernel
theorem dX9_block_112 : decode cX9_block 112 = .ok (.invokevirtual 96, 3) := by decide +kernel
theorem dX9_block_115 : decode cX9_block 115 = .ok (.iastore, 1) := by decide +kernel
theorem dX9_block_116 : decode cX9_block 116 = .ok (.iload 7, 2) := by decide +kernel
theorem dX9_block_118 : decode cX9_block 118 = .ok (.aload_n 0, 1) := by decide +kernel
theorem dX9_block_119 : decode cX9_block 119 = .ok (.getfield 35, 3) := by decide +kernel
theorem dX9_block_122 : decode cX9_block 122 = .ok (.iload 8, 2) := by decide +kernel
theorem dX9_block_124 : decode cX9_block 124 = .ok (.iaload, 1) := by decide +kernel
theorem dX9_block_125 : decode cX9_block 125 = .ok (.bipush (-9), 2) := by decide +kernel
theorem dX9_block_127 : decode cX9_block 127 = .ok (.if_icmp .ne 7, 3) := by decide +kernel
theorem dX9_block_130 : decode cX9_block 130 = .ok (.iconst 1, 1) := by decide +kernel
theorem dX9_block_131 : decode cX9_block 131 = .ok (.goto 4, 3) := by decide +kernel
theorem dX9_block_134 : decode cX9_block 134 = .ok (.iconst 0, 1) := by decide +kernel
theorem dX9_block_135 : decode cX9_block 135 = .ok (.iadd, 1) := by decide +kernel
theorem dX9_block_136 : decode cX9_block 136 = .ok (.istore 7, 2) := by decide +kernel
theorem dX9_block_138 : decode cX9_block 138 = .ok (.iinc 8 1, 3) := by decide +kernel
theorem dX9_block_141 : decode cX9_block 141 = .ok (.goto (-72), 3) := by decide +kernel
theorem dX9_block_144 : decode cX9_block 144 = .ok (.aload_n 0, 1) := by decide +kernel
theorem dX9_block_145 : decode cX9_block 145 = .ok (.invokevirtual 131, 3) := by decide +kernel
theorem dX9_block_148 : decode cX9_block 148 = .ok (.ifCond .eq 6, 3) := by decide +kernel
theorem dX9_block_151 : decode cX9_block 151 = .ok (.bipush (-3), 2) := by decide +kernel
theorem dX9_block_153 : decode cX9_block 153 = .ok (.ireturn, 1) := by decide +kernel
theorem dX9_block_154 : decode cX9_block 154 = .ok (.aload_n 0, 1) := by decide +kernel
theorem dX9_block_155 : decode cX9_block 155 = .ok (.getfield 79, 3) := by decide +kernel
theorem dX9_block_158 : decode cX9_block 158 = .ok (.iload 7, 2) := by decide +kernel
theorem dX9_block_160 : decode cX9_block 160 = .ok (.iadd, 1) := by decide +kernel
theorem dX9_block_161 : decode cX9_block 161 = .ok (.bipush 16, 2) := by decide +kernel
theorem dX9_block_163 : decode cX9_block 163 = .ok (.if_icmp .gt 15, 3) := by decide +kernel
theorem dX9_block_166 : decode cX9_block 166 = .ok (.aload_n 0, 1) := by decide +kernel
theorem dX9_block_167 : decode cX9_block 167 = .ok (.getfield 86, 3) := by decide +kernel
theorem dX9_block_170 : decode cX9_block 170 = .ok (.bipush 12, 2) := by decide +kernel
theorem dX9_block_172 : decode cX9_block 172 = .ok (.iadd, 1) := by decide +kernel
theorem dX9_block_173 : decode cX9_block 173 = .ok (.bipush 24, 2) := by decide +kernel
theorem dX9_block_175 : decode cX9_block 175 = .ok (.if_icmp .le 6, 3) := by decide +kernel
theorem dX9_block_178 : decode cX9_block 178 = .ok (.bipush (-4), 2) := by decide +kernel
theorem dX9_block_180 : decode cX9_block 180 = .ok (.ireturn, 1) := by decide +kernel
theorem dX9_block_181 : decode cX9_block 181 = .ok (.iconst 0, 1) := by decide +kernel
theorem dX9_block_182 : decode cX9_block 182 = .ok (.istore 8, 2) := by decide +kernel
theorem dX9_block_184 : decode cX9_block 184 = .ok (.iload 8, 2) := by decide +kernel
theorem dX9_block_186 : decode cX9_block 186 = .ok (.bipush 8, 2) := by decide +kernel
theorem dX9_block_188 : decode cX9_block 188 = .ok (.if_icmp .ge 65, 3) := by decide +kernel
theorem dX9_block_191 : decode cX9_block 191 = .ok (.aload_n 0, 1) := by decide +kernel
theorem dX9_block_192 : decode cX9_block 192 = .ok (.getfield 35, 3) := by decide +kernel
theorem dX9_block_195 : decode cX9_block 195 = .ok (.iload 8, 2) := by decide +kernel
theorem dX9_block_197 : decode cX9_block 197 = .ok (.iaload, 1) := by decide +kernel
theorem dX9_block_198 : decode cX9_block 198 = .ok (.bipush (-9), 2) := by decide +kernel
theorem dX9_block_200 : decode cX9_block 200 = .ok (.if_icmp .ne 47, 3) := by decide +kernel
theorem dX9_block_203 : decode cX9_block 203 = .ok (.aload_n 0, 1) := by decide +kernel
theorem dX9_block_204 : decode cX9_block 204 = .ok (.getfield 35, 3) := by decide +kernel
theorem dX9_block_207 : decode cX9_block 207 = .ok (.iload 8, 2) := by decide +kernel
theorem dX9_block_209 : decode cX9_block 209 = .ok (.aload_n 0, 1) := by decide +kernel
theorem dX9_block_210 : decode cX9_block 210 = .ok (.getfield 79, 3) := by decide +kernel
theorem dX9_block_213 : decode cX9_block 213 = .ok (.iastore, 1) := by decide +kernel
theorem dX9_block_214 : decode cX9_block 214 = .ok (.aload_n 0, 1) := by decide +kernel
theorem dX9_block_215 : decode cX9_block 215 = .ok (.iload_n 1, 1) := by decide +kernel
theorem dX9_block_216 : decode cX9_block 216 = .ok (.iload 4, 2) := by decide +kernel
theorem dX9_block_218 : decode cX9_block 218 = .ok (.iload 8, 2) := by decide +kernel
theorem dX9_block_220 : decode cX9_block 220 = .ok (.iconst 1, 1) := by decide +kernel
theorem dX9_block_221 : decode cX9_block 221 = .ok (.iand, 1) := by decide +kernel
theorem dX9_block_222 : decode cX9_block 222 = .ok (.imul, 1) := by decide +kernel
theorem dX9_block_223 : decode cX9_block 223 = .ok (.iadd, 1) := by decide +kernel
theorem dX9_block_224 : decode cX9_block 224 = .ok (.iload_n 2, 1) := by decide +kernel
theorem dX9_block_225 : decode cX9_block 225 = .ok (.iload 5, 2) := by decide +kernel
theorem dX9_block_227 : decode cX9_block 227 = .ok (.iload 8, 2) := by decide +kernel
theorem dX9_block_229 : decode cX9_block 229 = .ok (.iconst 1, 1) := by decide +kernel
theorem dX9_block_230 : decode cX9_block 230 = .ok (.ishr, 1) := by decide +kernel
theorem dX9_block_231 : decode cX9_block 231 = .ok (.iconst 1, 1) := by decide +kernel
theorem dX9_block_232 : decode cX9_block 232 = .ok (.iand, 1) := by decide +kernel
theorem dX9_block_233 : decode cX9_block 233 = .ok (.imul, 1) := by decide +kernel
theorem dX9_block_234 : decode cX9_block 234 = .ok (.iadd, 1) := by decide +kernel
theorem dX9_block_235 : decode cX9_block 235 = .ok (.iload_n 3, 1) := by decide +kernel
theorem dX9_block_236 : decode cX9_block 236 = .ok (.iload 6, 2) := by decide +kernel
theorem dX9_block_238 : decode cX9_block 238 = .ok (.iload 8, 2) := by decide +kernel
theorem dX9_block_240 : decode cX9_block 240 = .ok (.iconst 2, 1) := by decide +kernel
theorem dX9_block_241 : decode cX9_block 241 = .ok (.ishr, 1) := by decide +kernel
theorem dX9_block_242 : decode cX9_block 242 = .ok (.imul, 1) := by decide +kernel
theorem dX9_block_243 : decode cX9_block 243 = .ok (.iadd, 1) := by decide +kernel
theorem dX9_block_244 : decode cX9_block 244 = .ok (.invokevirtual 100, 3) := by decide +kernel
theorem dX9_block_247 : decode cX9_block 247 = .ok (.iinc 8 1, 3) := by decide +kernel
theorem dX9_block_250 : decode cX9_block 250 = .ok (.goto (-66), 3) := by decide +kernel
theorem dX9_block_253 : decode cX9_block 253 = .ok (.iconst 0, 1) := by decide +kernel
theorem dX9_block_254 : decode cX9_block 254 = .ok (.istore 8, 2) := by decide +kernel
theorem dX9_block_256 : decode cX9_block 256 = .ok (.iload 8, 2) := by decide +kernel
theorem dX9_block_258 : decode cX9_block 258 = .ok (.bipush 12, 2) := by decide +kernel
theorem dX9_block_260 : decode cX9_block 260 = .ok (.if_icmp .ge 59, 3) := by decide +kernel
theorem dX9_block_263 : decode cX9_block 263 = .ok (.aload_n 0, 1) := by decide +kernel
theorem dX9_block_264 : decode cX9_block 264 = .ok (.aload_n 0, 1) := by decide +kernel
theorem dX9_block_265 : decode cX9_block 265 = .ok (.getfield 35, 3) := by decide +kernel
theorem dX9_block_268 : decode cX9_block 268 = .ok (.aload_n 0, 1) := by decide +kernel
theorem dX9_block_269 : decode cX9_block 269 = .ok (.getfield 32, 3) := by decide +kernel
theorem dX9_block_272 : decode cX9_block 272 = .ok (.iconst 3, 1) := by decide +kernel
theorem dX9_block_273 : decode cX9_block 273 = .ok (.iload 8, 2) := by decide +kernel
theorem dX9_block_275 : decode cX9_block 275 = .ok (.imul, 1) := by decide +kernel
theorem dX9_block_276 : decode cX9_block 276 = .ok (.iaload, 1) := by decide +kernel
theorem dX9_block_277 : decode cX9_block 277 = .ok (.iaload, 1) := by decide +kernel
theorem dX9_block_278 : decode cX9_block 278 = .ok (.aload_n 0, 1) := by decide +kernel
theorem dX9_block_279 : decode cX9_block 279 = .ok (.getfield 35, 3) := by decide +kernel
theorem dX9_block_282 : decode cX9_block 282 = .ok (.aload_n 0, 1) := by decide +kernel
theorem dX9_block_283 : decode cX9_block 283 = .ok (.getfield 32, 3) := by decide +kernel
theorem dX9_block_286 : decode cX9_block 286 = .ok (.iconst 3, 1) := by decide +kernel
theorem dX9_block_287 : decode cX9_block 287 = .ok (.iload 8, 2) := by decide +kernel
theorem dX9_block_289 : decode cX9_block 289 = .ok (.imul, 1) := by decide +kernel
theorem dX9_block_290 : decode cX9_block 290 = .ok (.iconst 1, 1) := by decide +kernel
theorem dX9_block_291 : decode cX9_block 291 = .ok (.iadd, 1) := by decide +kernel
theorem dX9_block_292 : decode cX9_block 292 = .ok (.iaload, 1) := by decide +kernel
theorem dX9_block_293 : decode cX9_block 293 = .ok (.iaload, 1) := by decide +kernel
theorem dX9_block_294 : decode cX9_block 294 = .ok (.aload_n 0, 1) := by decide +kernel
theorem dX9_block_295 : decode cX9_block 295 = .ok (.getfield 35, 3) := by decide +kernel
theorem dX9_block_298 : decode cX9_block 298 = .ok (.aload_n 0, 1) := by decide +kernel
theorem dX9_block_299 : decode cX9_block 299 = .ok (.getfield 32, 3) := by decide +kernel
theorem dX9_block_302 : decode cX9_block 302 = .ok (.iconst 3, 1) := by decide +kernel
theorem dX9_block_303 : decode cX9_block 303 = .ok (.iload 8, 2) := by decide +kernel
theorem dX9_block_305 : decode cX9_block 305 = .ok (.imul, 1) := by decide +kernel
theorem dX9_block_306 : decode cX9_block 306 = .ok (.iconst 2, 1) := by decide +kernel
theorem dX9_block_307 : decode cX9_block 307 = .ok (.iadd, 1) := by decide +kernel
theorem dX9_block_308 : decode cX9_block 308 = .ok (.iaload, 1) := by decide +kernel
theorem dX9_block_309 : decode cX9_block 309 = .ok (.iaload, 1) := by decide +kernel
theorem dX9_block_310 : decode cX9_block 310 = .ok (.invokevirtual 122, 3) := by decide +kernel
theorem dX9_block_313 : decode cX9_block 313 = .ok (.iinc 8 1, 3) := by decide +kernel
theorem dX9_block_316 : decode cX9_block 316 = .ok (.goto (-60), 3) := by decide +kernel
theorem dX9_block_319 : decode cX9_block 319 = .ok (.iload 7, 2) := by decide +kernel
theorem dX9_block_321 : decode cX9_block 321 = .ok (.ireturn, 1) := by decide +kernel
theorem dX9_cut_0 : decode cX9_cut 0 = .ok (.aload_n 0, 1) := by decide +kernel
theorem dX9_cut_1 : decode cX9_cut 1 = .ok (.getfield 86, 3) := by decide +kernel
theorem dX9_cut_4 : decode cX9_cut 4 = .ok (.ifCond .ne 6, 3) := by decide +kernel
theorem dX9_cut_7 : decode cX9_cut 7 = .ok (.bipush (-3), 2) := by decide +kernel
theorem dX9_cut_9 : decode cX9_cut 9 = .ok (.ireturn, 1) := by decide +kernel
theorem dX9_cut_10 : decode cX9_cut 10 = .ok (.aload_n 0, 1) := by decide +kernel
theorem dX9_cut_11 : decode cX9_cut 11 = .ok (.dup, 1) := by decide +kernel
theorem dX9_cut_12 : decode cX9_cut 12 = .ok (.getfield 86, 3) := by decide +kernel
theorem dX9_cut_15 : decode cX9_cut 15 = .ok (.iconst 1, 1) := by decide +kernel
theorem dX9_cut_16 : decode cX9_cut 16 = .ok (.isub, 1) := by decide +kernel
theorem dX9_cut_17 : decode cX9_cut 17 = .ok (.putfield 86, 3) := by decide +kernel
theorem dX9_cut_20 : decode cX9_cut 20 = .ok (.aload_n 0, 1) := by decide +kernel
theorem dX9_cut_21 : decode cX9_cut 21 = .ok (.iconst 0, 1) := by decide +kernel
theorem dX9_cut_22 : decode cX9_cut 22 = .ok (.putfield 89, 3) := by decide +kernel
theorem dX9_cut_25 : decode cX9_cut 25 = .ok (.aload_n 0, 1) := by decide +kernel
theorem dX9_cut_26 : decode cX9_cut 26 = .ok (.getfield 86, 3) := by decide +kernel
theorem dX9_cut_29 : decode cX9_cut 29 = .ok (.ireturn, 1) := by decide +kernel
theorem dX9_clear_0 : decode cX9_clear 0 = .ok (.aload_n 0, 1) := by decide +kernel
theorem dX9_clear_1 : decode cX9_clear 1 = .ok (.getfield 86, 3) := by decide +kernel
theorem dX9_clear_4 : decode cX9_clear 4 = .ok (.istore_n 1, 1) := by decide +kernel
theorem dX9_clear_5 : decode cX9_clear 5 = .ok (.aload_n 0, 1) := by decide +kernel
theorem dX9_clear_6 : decode cX9_clear 6 = .ok (.iconst 0, 1) := by decide +kernel
theorem dX9_clear_7 : decode cX9_clear 7 = .ok (.putfield 79, 3) := by decide +kernel
theorem dX9_clear_10 : decode cX9_clear 10 = .ok (.aload_n 0, 1) := by decide +kernel
theorem dX9_clear_11 : decode cX9_clear 11 = .ok (.iconst 0, 1) := by decide +kernel
theorem dX9_clear_12 : decode cX9_clear 12 = .ok (.putfield 86, 3) := by decide +kernel
theorem dX9_clear_15 : decode cX9_clear 15 = .ok (.aload_n 0, 1) := by decide +kernel
theorem dX9_clear_16 : decode cX9_clear 16 = .ok (.iconst 0, 1) := by decide +kernel
theorem dX9_clear_17 : decode cX9_clear 17 = .ok (.putfield 125, 3) := by decide +kernel
theorem dX9_clear_20 : decode cX9_clear 20 = .ok (.aload_n 0, 1) := by decide +kernel
theorem dX9_clear_21 : decode cX9_clear 21 = .ok (.iconst 0, 1) := by decide +kernel
theorem dX9_clear_22 : decode cX9_clear 22 = .ok (.putfield 89, 3) := by decide +kernel
theorem dX9_clear_25 : decode cX9_clear 25 = .ok (.iload_n 1, 1) := by decide +kernel
theorem dX9_clear_26 : decode cX9_clear 26 = .ok (.ireturn, 1) := by decide +kernel
theorem dX9_view_0 : decode cX9_view 0 = .ok (.iload_n 1, 1) := by decide +kernel
theorem dX9_view_1 : decode cX9_view 1 = .ok (.bipush (-3), 2) := by decide +kernel
theorem dX9_view_3 : decode cX9_view 3 = .ok (.iconst 3, 1) := by decide +kernel
theorem dX9_view_4 : decode cX9_view 4 = .ok (.invokestatic 82, 3) := by decide +kernel
theorem dX9_view_7 : decode cX9_view 7 = .ok (.ifCond .eq 27, 3) := by decide +kernel
theorem dX9_view_10 : decode cX9_view 10 = .ok (.iload_n 2, 1) := by decide +kernel
theorem dX9_view_11 : decode cX9_view 11 = .ok (.bipush (-3), 2) := by decide +kernel
theorem dX9_view_13 : decode cX9_view 13 = .ok (.iconst 3, 1) := by decide +kernel
theorem dX9_view_14 : decode cX9_view 14 = .ok (.invokestatic 82, 3) := by decide +kernel
theorem dX9_view_17 : decode cX9_view 17 = .ok (.ifCond .eq 17, 3) := by decide +kernel
theorem dX9_view_20 : decode cX9_view 20 = .ok (.iload_n 3, 1) := by decide +kernel
theorem dX9_view_21 : decode cX9_view 21 = .ok (.bipush (-3), 2) := by decide +kernel
theorem dX9_view_23 : decode cX9_view 23 = .ok (.iconst 3, 1) := by decide +kernel
theorem dX9_view_24 : decode cX9_view 24 = .ok (.invokestatic 82, 3) := by decide +kernel
theorem dX9_view_27 : decode cX9_view 27 = .ok (.ifCond .eq 7, 3) := by decide +kernel
theorem dX9_view_30 : decode cX9_view 30 = .ok (.iconst 1, 1) := by decide +kernel
theorem dX9_view_31 : decode cX9_view 31 = .ok (.goto 4, 3) := by decide +kernel
theorem dX9_view_34 : decode cX9_view 34 = .ok (.iconst 0, 1) := by decide +kernel
theorem dX9_view_35 : decode cX9_view 35 = .ok (.istore 4, 2) := by decide +kernel
theorem dX9_view_37 : decode cX9_view 37 = .ok (.iload 4, 2) := by decide +kernel
theorem dX9_view_39 : decode cX9_view 39 = .ok (.ifCond .eq 15, 3) := by decide +kernel
theorem dX9_view_42 : decode cX9_view 42 = .ok (.iload_n 1, 1) := by decide +kernel
theorem dX9_view_43 : decode cX9_view 43 = .ok (.ifCond .ne 14, 3) := by decide +kernel
theorem dX9_view_46 : decode cX9_view 46 = .ok (.iload_n 2, 1) := by decide +kernel
theorem dX9_view_47 : decode cX9_view 47 = .ok (.ifCond .ne 10, 3) := by decide +kernel
theorem dX9_view_50 : decode cX9_view 50 = .ok (.iload_n 3, 1) := by decide +kernel
theorem dX9_view_51 : decode cX9_view 51 = .ok (.ifCond .ne 6, 3) := by decide +kernel
theorem dX9_view_54 : decode cX9_view 54 = .ok (.bipush (-2), 2) := by decide +kernel
theorem dX9_view_56 : decode cX9_view 56 = .ok (.ireturn, 1) := by decide +kernel
theorem dX9_view_57 : decode cX9_view 57 = .ok (.aload_n 0, 1) := by decide +kernel
theorem dX9_view_58 : decode cX9_view 58 = .ok (.iload_n 1, 1) := by decide +kernel
theorem dX9_view_59 : decode cX9_view 59 = .ok (.putfield 135, 3) := by decide +kernel
theorem dX9_view_62 : decode cX9_view 62 = .ok (.aload_n 0, 1) := by decide +kernel
theorem dX9_view_63 : decode cX9_view 63 = .ok (.iload_n 2, 1) := by decide +kernel
theorem dX9_view_64 : decode cX9_view 64 = .ok (.putfield 138, 3) := by decide +kernel
theorem dX9_view_67 : decode cX9_view 67 = .ok (.aload_n 0, 1) := by decide +kernel
theorem dX9_view_68 : decode cX9_view 68 = .ok (.iload_n 3, 1) := by decide +kernel
theorem dX9_view_69 : decode cX9_view 69 = .ok (.putfield 28, 3) := by decide +kernel
theorem dX9_view_72 : decode cX9_view 72 = .ok (.aload_n 0, 1) := by decide +kernel
theorem dX9_view_73 : decode cX9_view 73 = .ok (.iconst 0, 1) := by decide +kernel
theorem dX9_view_74 : decode cX9_view 74 = .ok (.putfield 89, 3) := by decide +kernel
theorem dX9_view_77 : decode cX9_view 77 = .ok (.iconst 1, 1) := by decide +kernel
theorem dX9_view_78 : decode cX9_view 78 = .ok (.ireturn, 1) := by decide +kernel
theorem dX9_turn_0 : decode cX9_turn 0 = .ok (.iload_n 1, 1) := by decide +kernel
theorem dX9_turn_1 : decode cX9_turn 1 = .ok (.iconst 0, 1) := by decide +kernel
theorem dX9_turn_2 : decode cX9_turn 2 = .ok (.iconst 3, 1) := by decide +kernel
theorem dX9_turn_3 : decode cX9_turn 3 = .ok (.invokestatic 82, 3) := by decide +kernel
theorem dX9_turn_6 : decode cX9_turn 6 = .ok (.ifCond .ne 6, 3) := by decide +kernel
theorem dX9_turn_9 : decode cX9_turn 9 = .ok (.bipush (-2), 2) := by decide +kernel
theorem dX9_turn_11 : decode cX9_turn 11 = .ok (.ireturn, 1) := by decide +kernel
theorem dX9_turn_12 : decode cX9_turn 12 = .ok (.iconst 0, 1) := by decide +kernel
theorem dX9_turn_13 : decode cX9_turn 13 = .ok (.istore_n 2, 1) := by decide +kernel
theorem dX9_turn_14 : decode cX9_turn 14 = .ok (.iconst 0, 1) := by decide +kernel
theorem dX9_turn_15 : decode cX9_turn 15 = .ok (.istore_n 3, 1) := by decide +kernel
theorem dX9_turn_16 : decode cX9_turn 16 = .ok (.iload_n 3, 1) := by decide +kernel
theorem dX9_turn_17 : decode cX9_turn 17 = .ok (.aload_n 0, 1) := by decide +kernel
theorem dX9_turn_18 : decode cX9_turn 18 = .ok (.getfield 79, 3) := by decide +kernel
theorem dX9_turn_21 : decode cX9_turn 21 = .ok (.if_icmp .ge 170, 3) := by decide +kernel
theorem dX9_turn_24 : decode cX9_turn 24 = .ok (.aload_n 0, 1) := by decide +kernel
theorem dX9_turn_25 : decode cX9_turn 25 = .ok (.getfield 7, 3) := by decide +kernel
theorem dX9_turn_28 : decode cX9_turn 28 = .ok (.iload_n 3, 1) := by decide +kernel
theorem dX9_turn_29 : decode cX9_turn 29 = .ok (.iaload, 1) := by decide +kernel
theorem dX9_turn_30 : decode cX9_turn 30 = .ok (.istore 4, 2) := by decide +kernel
theorem dX9_turn_32 : decode cX9_turn 32 = .ok (.aload_n 0, 1) := by decide +kernel
theorem dX9_turn_33 : decode cX9_turn 33 = .ok (.getfield 13, 3) := by decide +kernel
theorem dX9_turn_36 : decode cX9_turn 36 = .ok (.iload_n 3, 1) := by decide +kernel
theorem dX9_turn_37 : decode cX9_turn 37 = .ok (.iaload, 1) := by decide +kernel
theorem dX9_turn_38 : decode cX9_turn 38 = .ok (.istore 5, 2) := by decide +kernel
theorem dX9_turn_40 : decode cX9_turn 40 = .ok (.aload_n 0, 1) := by decide +kernel
theorem dX9_turn_41 : decode cX9_turn 41 = .ok (.getfield 16, 3) := by decide +kernel
theorem dX9_turn_44 : decode cX9_turn 44 = .ok (.iload_n 3, 1) := by decide +kernel
theorem dX9_turn_45 : decode cX9_turn 45 = .ok (.iaload, 1) := by decide +kernel
theorem dX9_turn_46 : decode cX9_turn 46 = .ok (.istore 6, 2) := by decide +kernel
theorem dX9_turn_48 : decode cX9_turn 48 = .ok (.aload_n 0, 1) := by decide +kernel
theorem dX9_turn_49 : decode cX9_turn 49 = .ok (.getfield 7, 3) := by decide +kernel
theorem dX9_turn_52 : decode cX9_turn 52 = .ok (.iload_n 3, 1) := by decide +kernel
theorem dX9_turn_53 : decode cX9_turn 53 = .ok (.iload_n 1, 1) := by decide +kernel
theorem dX9_turn_54 : decode cX9_turn 54 = .ok (.iconst 1, 1) := by decide +kernel
theorem dX9_turn_55 : decode cX9_turn 55 = .ok (.if_icmp .ne 8, 3) := by decide +kernel
theorem dX9_turn_58 : decode cX9_turn 58 = .ok (.iload 6, 2) := by decide +kernel
theorem dX9_turn_60 : decode cX9_turn 60 = .ok (.goto 16, 3) := by decide +kernel
theorem dX9_turn_63 : decode cX9_turn 63 = .ok (.iload_n 1, 1) := by decide +kernel
theorem dX9_turn_64 : decode cX9_turn 64 = .ok (.iconst 2, 1) := by decide +kernel
theorem dX9_turn_65 : decode cX9_turn 65 = .ok (.if_icmp .ne 9, 3) := by decide +kernel
theorem dX9_turn_68 : decode cX9_turn 68 = .ok (.iload 5, 2) := by decide +kernel
theorem dX9_turn_70 : decode cX9_turn 70 = .ok (.ineg, 1) := by decide +kernel
theorem dX9_turn_71 : decode cX9_turn 71 = .ok (.goto 5, 3) := by decide +kernel
theorem dX9_turn_74 : decode cX9_turn 74 = .ok (.iload 4, 2) := by decide +kernel
theorem dX9_turn_76 : decode cX9_turn 76 = .ok (.iastore, 1) := by decide +kernel
theorem dX9_turn_77 : decode cX9_turn 77 = .ok (.aload_n 0, 1) := by decide +kernel
theorem dX9_turn_78 : decode cX9_turn 78 = .ok (.getfield 13, 3) := by decide +kernel
theorem dX9_turn_81 : decode cX9_turn 81 = .ok (.iload_n 3, 1) := by decide +kernel
theorem dX9_turn_82 : decode cX9_turn 82 = .ok (.iload_n 1, 1) := by decide +kernel
theorem dX9_turn_83 : decode cX9_turn 83 = .ok (.ifCond .ne 9, 3) := by decide +kernel
theorem dX9_turn_86 : decode cX9_turn 86 = .ok (.iload 6, 2) := by decide +kernel
theorem dX9_turn_88 : decode cX9_turn 88 = .ok (.ineg, 1) := by decide +kernel
theorem dX9_turn_89 : decode cX9_turn 89 = .ok (.goto 15, 3) := by decide +kernel
theorem dX9_turn_92 : decode cX9_turn 92 = .ok (.iload_n 1, 1) := by decide +kernel
theorem dX9_turn_93 : decode cX9_turn 93 = .ok (.iconst 2, 1) := by decide +kernel
theorem dX9_turn_94 : decode cX9_turn 94 = .ok (.if_icmp .ne 8, 3) := by decide +kernel
theorem dX9_turn_97 : decode cX9_turn 97 = .ok (.iload 4, 2) := by decide +kernel
theorem dX9_turn_99 : decode cX9_turn 99 = .ok (.goto 5, 3) := by decide +kernel
theorem dX9_turn_102 : decode cX9_turn 102 = .ok (.iload 5, 2) := by decide +kernel
theorem dX9_turn_104 : decode cX9_turn 104 = .ok (.iastore, 1) := by decide +kernel
theorem dX9_turn_105 : decode cX9_turn 105 = .ok (.aload_n 0, 1) := by decide +kernel
theorem dX9_turn_106 : decode cX9_turn 106 = .ok (.getfield 16, 3) := by decide +kernel
theorem dX9_turn_109 : decode cX9_turn 109 = .ok (.iload_n 3, 1) := by decide +kernel
theorem dX9_turn_110 : decode cX9_turn 110 = .ok (.iload_n 1, 1) := by decide +kernel
theorem dX9_turn_111 : decode cX9_turn 111 = .ok (.ifCond .ne 8, 3) := by decide +kernel
theorem dX9_turn_114 : decode cX9_turn 114 = .ok (.iload 5, 2) := by decide +kernel
theorem dX9_turn_116 : decode cX9_turn 116 = .ok (.goto 27, 3) := by decide +kernel
theorem dX9_turn_119 : decode cX9_turn 119 = .ok (.iload_n 1, 1) := by decide +kernel
theorem dX9_turn_120 : decode cX9_turn 120 = .ok (.iconst 1, 1) := by decide +kernel
theorem dX9_turn_121 : decode cX9_turn 121 = .ok (.if_icmp .ne 9, 3) := by decide +kernel
theorem dX9_turn_124 : decode cX9_turn 124 = .ok (.iload 4, 2) := by decide +kernel
theorem dX9_turn_126 : decode cX9_turn 126 = .ok (.ineg, 1) := by decide +kernel
theorem dX9_turn_127 : decode cX9_turn 127 = .ok (.goto 16, 3) := by decide +kernel
theorem dX9_turn_130 : decode cX9_turn 130 = .ok (.iload_n 1, 1) := by decide +kernel
theorem dX9_turn_131 : decode cX9_turn 131 = .ok (.iconst 3, 1) := by decide +kernel
theorem dX9_turn_132 : decode cX9_turn 132 = .ok (.if_icmp .ne 9, 3) := by decide +kernel
theorem dX9_turn_135 : decode cX9_turn 135 = .ok (.iload 6, 2) := by decide +kernel
theorem dX9_turn_137 : decode cX9_turn 137 = .ok (.ineg, 1) := by decide +kernel
theorem dX9_turn_138 : decode cX9_turn 138 = .ok (.goto 5, 3) := by decide +kernel
theorem dX9_turn_141 : decode cX9_turn 141 = .ok (.iload 6, 2) := by decide +kernel
theorem dX9_turn_143 : decode cX9_turn 143 = .ok (.iastore, 1) := by decide +kernel
theorem dX9_turn_144 : decode cX9_turn 144 = .ok (.iload_n 2, 1) := by decide +kernel
theorem dX9_turn_145 : decode cX9_turn 145 = .ok (.iload 4, 2) := by decide +kernel
theorem dX9_turn_147 : decode cX9_turn 147 = .ok (.aload_n 0, 1) := by decide +kernel
theorem dX9_turn_148 : decode cX9_turn 148 = .ok (.getfield 7, 3) := by decide +kernel
theorem dX9_turn_151 : decode cX9_turn 151 = .ok (.iload_n 3, 1) := by decide +kernel
theorem dX9_turn_152 : decode cX9_turn 152 = .ok (.iaload, 1) := by decide +kernel
theorem dX9_turn_153 : decode cX9_turn 153 = .ok (.if_icmp .ne 29, 3) := by decide +kernel
theorem dX9_turn_156 : decode cX9_turn 156 = .ok (.iload 5, 2) := by decide +kernel
theorem dX9_turn_158 : decode cX9_turn 158 = .ok (.aload_n 0, 1) := by decide +kernel
theorem dX9_turn_159 : decode cX9_turn 159 = .ok (.getfield 13, 3) := by decide +kernel
theorem dX9_turn_162 : decode cX9_turn 162 = .ok (.iload_n 3, 1) := by decide +kernel
theorem dX9_turn_163 : decode cX9_turn 163 = .ok (.iaload, 1) := by decide +kernel
theorem dX9_turn_164 : decode cX9_turn 164 = .ok (.if_icmp .ne 18, 3) := by decide +kernel
theorem dX9_turn_167 : decode cX9_turn 167 = .ok (.iload 6, 2) := by decide +kernel
theorem dX9_turn_169 : decode cX9_turn 169 = .ok (.aload_n 0, 1) := by decide +kernel
theorem dX9_turn_170 : decode cX9_turn 170 = .ok (.getfield 16, 3) := by decide +kernel
theorem dX9_turn_173 : decode cX9_turn 173 = .ok (.iload_n 3, 1) := by decide +kernel
theorem dX9_turn_174 : decode cX9_turn 174 = .ok (.iaload, 1) := by decide +kernel
theorem dX9_turn_175 : decode cX9_turn 175 = .ok (.if_icmp .ne 7, 3) := by decide +kernel
theorem dX9_turn_178 : decode cX9_turn 178 = .ok (.iconst 0, 1) := by decide +kernel
theorem dX9_turn_179 : decode cX9_turn 179 = .ok (.goto 4, 3) := by decide +kernel
theorem dX9_turn_182 : decode cX9_turn 182 = .ok (.iconst 1, 1) := by decide +kernel
theorem dX9_turn_183 : decode cX9_turn 183 = .ok (.iadd, 1) := by decide +kernel
theorem dX9_turn_184 : decode cX9_turn 184 = .ok (.istore_n 2, 1) := by decide +kernel
theorem dX9_turn_185 : decode cX9_turn 185 = .ok (.iinc 3 1, 3) := by decide +kernel
theorem dX9_turn_188 : decode cX9_turn 188 = .ok (.goto (-172), 3) := by decide +kernel
theorem dX9_turn_191 : decode cX9_turn 191 = .ok (.aload_n 0, 1) := by decide +kernel
theorem dX9_turn_192 : decode cX9_turn 192 = .ok (.iconst 0, 1) := by decide +kernel
theorem dX9_turn_193 : decode cX9_turn 193 = .ok (.putfield 89, 3) := by decide +kernel
theorem dX9_turn_196 : decode cX9_turn 196 = .ok (.iload_n 2, 1) := by decide +kernel
theorem dX9_turn_197 : decode cX9_turn 197 = .ok (.ireturn, 1) := by decide +kernel
theorem dX9_move_0 : decode cX9_move 0 = .ok (.iload_n 1, 1) := by decide +kernel
theorem dX9_move_1 : decode cX9_move 1 = .ok (.bipush (-18), 2) := by decide +kernel
theorem dX9_move_3 : decode cX9_move 3 = .ok (.bipush 18, 2) := by decide +kernel
theorem dX9_move_5 : decode cX9_move 5 = .ok (.invokestatic 82, 3) := by decide +kernel
theorem dX9_move_8 : decode cX9_move 8 = .ok (.ifCond .eq 25, 3) := by decide +kernel
theorem dX9_move_11 : decode cX9_move 11 = .ok (.iload_n 2, 1) := by decide +kernel
theorem dX9_move_12 : decode cX9_move 12 = .ok (.bipush (-18), 2) := by decide +kernel
theorem dX9_move_14 : decode cX9_move 14 = .ok (.bipush 18, 2) := by decide +kernel
theorem dX9_move_16 : decode cX9_move 16 = .ok (.invokestatic 82, 3) := by decide +kernel
theorem dX9_move_19 : decode cX9_move 19 = .ok (.ifCond .eq 14, 3) := by decide +kernel
theorem dX9_move_22 : decode cX9_move 22 = .ok (.iload_n 3, 1) := by decide +kernel
theorem dX9_move_23 : decode cX9_move 23 = .ok (.bipush (-18), 2) := by decide +kernel
theorem dX9_move_25 : decode cX9_move 25 = .ok (.bipush 18, 2) := by decide +kernel
theorem dX9_move_27 : decode cX9_move 27 = .ok (.invokestatic 82, 3) := by decide +kernel
theorem dX9_move_30 : decode cX9_move 30 = .ok (.ifCond .ne 6, 3) := by decide +kernel
theorem dX9_move_33 : decode cX9_move 33 = .ok (.bipush (-2), 2) := by decide +kernel
theorem dX9_move_35 : decode cX9_move 35 = .ok (.ireturn, 1) := by decide +kernel
theorem dX9_move_36 : decode cX9_move 36 = .ok (.iconst 0, 1) := by decide +kernel
theorem dX9_move_37 : decode cX9_move 37 = .ok (.istore 4, 2) := by decide +kernel
theorem dX9_move_39 : decode cX9_move 39 = .ok (.iload 4, 2) := by decide +kernel
theorem dX9_move_41 : decode cX9_move 41 = .ok (.aload_n 0, 1) := by decide +kernel
theorem dX9_move_42 : decode cX9_move 42 = .ok (.getfield 79, 3) := by decide +kernel
theorem dX9_move_45 : decode cX9_move 45 = .ok (.if_icmp .ge 45, 3) := by decide +kernel
theorem dX9_move_48 : decode cX9_move 48 = .ok (.aload_n 0, 1) := by decide +kernel
theorem dX9_move_49 : decode cX9_move 49 = .ok (.getfield 7, 3) := by decide +kernel
theorem dX9_move_52 : decode cX9_move 52 = .ok (.iload 4, 2) := by decide +kernel
theorem dX9_move_54 : decode cX9_move 54 = .ok (.iaload, 1) := by decide +kernel
theorem dX9_move_55 : decode cX9_move 55 = .ok (.iload_n 1, 1) := by decide +kernel
theorem dX9_move_56 : decode cX9_move 56 = .ok (.iadd, 1) := by decide +kernel
theorem dX9_move_57 : decode cX9_move 57 = .ok (.aload_n 0, 1) := by decide +kernel
theorem dX9_move_58 : decode cX9_move 58 = .ok (.getfield 13, 3) := by decide +kernel
theorem dX9_move_61 : decode cX9_move 61 = .ok (.iload 4, 2) := by decide +kernel
theorem dX9_move_63 : decode cX9_move 63 = .ok (.iaload, 1) := by decide +kernel
theorem dX9_move_64 : decode cX9_move 64 = .ok (.iload_n 2, 1) := by decide +kernel
theorem dX9_move_65 : decode cX9_move 65 = .ok (.iadd, 1) := by decide +kernel
theorem dX9_move_66 : decode cX9_move 66 = .ok (.aload_n 0, 1) := by decide +kernel
theorem dX9_move_67 : decode cX9_move 67 = .ok (.getfield 16, 3) := by decide +kernel
theorem dX9_move_70 : decode cX9_move 70 = .ok (.iload 4, 2) := by decide +kernel
theorem dX9_move_72 : decode cX9_move 72 = .ok (.iaload, 1) := by decide +kernel
theorem dX9_move_73 : decode cX9_move 73 = .ok (.iload_n 3, 1) := by decide +kernel
theorem dX9_move_74 : decode cX9_move 74 = .ok (.iadd, 1) := by decide +kernel
theorem dX9_move_75 : decode cX9_move 75 = .ok (.invokestatic 93, 3) := by decide +kernel
theorem dX9_move_78 : decode cX9_move 78 = .ok (.ifCond .ne 6, 3) := by decide +kernel
theorem dX9_move_81 : decode cX9_move 81 = .ok (.bipush (-3), 2) := by decide +kernel
theorem dX9_move_83 : decode cX9_move 83 = .ok (.ireturn, 1) := by decide +kernel
theorem dX9_move_84 : decode cX9_move 84 = .ok (.iinc 4 1, 3) := by decide +kernel
theorem dX9_move_87 : decode cX9_move 87 = .ok (.goto (-48), 3) := by decide +kernel
theorem dX9_move_90 : decode cX9_move 90 = .ok (.iconst 0, 1) := by decide +kernel
theorem dX9_move_91 : decode cX9_move 91 = .ok (.istore 4, 2) := by decide +kernel
theorem dX9_move_93 : decode cX9_move 93 = .ok (.iload 4, 2) := by decide +kernel
theorem dX9_move_95 : decode cX9_move 95 = .ok (.aload_n 0, 1) := by decide +kernel
theorem dX9_move_96 : decode cX9_move 96 = .ok (.getfield 79, 3) := by decide +kernel
theorem dX9_move_99 : decode cX9_move 99 = .ok (.if_icmp .ge 42, 3) := by decide +kernel
theorem dX9_move_102 : decode cX9_move 102 = .ok (.aload_n 0, 1) := by decide +kernel
theorem dX9_move_103 : decode cX9_move 103 = .ok (.getfield 7, 3) := by decide +kernel
theorem dX9_move_106 : decode cX9_move 106 = .ok (.iload 4, 2) := by decide +kernel
theorem dX9_move_108 : decode cX9_move 108 = .ok (.dup2, 1) := by decide +kernel
theorem dX9_move_109 : decode cX9_move 109 = .ok (.iaload, 1) := by decide +kernel
theorem dX9_move_110 : decode cX9_move 110 = .ok (.iload_n 1, 1) := by decide +kernel
theorem dX9_move_111 : decode cX9_move 111 = .ok (.iadd, 1) := by decide +kernel
theorem dX9_move_112 : decode cX9_move 112 = .ok (.iastore, 1) := by decide +kernel
theorem dX9_move_113 : decode cX9_move 113 = .ok (.aload_n 0, 1) := by decide +kernel
theorem dX9_move_114 : decode cX9_move 114 = .ok (.getfield 13, 3) := by decide +kernel
theorem dX9_move_117 : decode cX9_move 117 = .ok (.iload 4, 2) := by decide +kernel
theorem dX9_move_119 : decode cX9_move 119 = .ok (.dup2, 1) := by decide +kernel
theorem dX9_move_120 : decode cX9_move 120 = .ok (.iaload, 1) := by decide +kernel
theorem dX9_move_121 : decode cX9_move 121 = .ok (.iload_n 2, 1) := by decide +kernel
theorem dX9_move_122 : decode cX9_move 122 = .ok (.iadd, 1) := by decide +kernel
theorem dX9_move_123 : decode cX9_move 123 = .ok (.iastore, 1) := by decide +kernel
theorem dX9_move_124 : decode cX9_move 124 = .ok (.aload_n 0, 1) := by decide +kernel
theorem dX9_move_125 : decode cX9_move 125 = .ok (.getfield 16, 3) := by decide +kernel
theorem dX9_move_128 : decode cX9_move 128 = .ok (.iload 4, 2) := by decide +kernel
theorem dX9_move_130 : decode cX9_move 130 = .ok (.dup2, 1) := by decide +kernel
theorem dX9_move_131 : decode cX9_move 131 = .ok (.iaload, 1) := by decide +kernel
theorem dX9_move_132 : decode cX9_move 132 = .ok (.iload_n 3, 1) := by decide +kernel
theorem dX9_move_133 : decode cX9_move 133 = .ok (.iadd, 1) := by decide +kernel
theorem dX9_move_134 : decode cX9_move 134 = .ok (.iastore, 1) := by decide +kernel
theorem dX9_move_135 : decode cX9_move 135 = .ok (.iinc 4 1, 3) := by decide +kernel
theorem dX9_move_138 : decode cX9_move 138 = .ok (.goto (-45), 3) := by decide +kernel
theorem dX9_move_141 : decode cX9_move 141 = .ok (.aload_n 0, 1) := by decide +kernel
theorem dX9_move_142 : decode cX9_move 142 = .ok (.iconst 0, 1) := by decide +kernel
theorem dX9_move_143 : decode cX9_move 143 = .ok (.putfield 89, 3) := by decide +kernel
theorem dX9_move_146 : decode cX9_move 146 = .ok (.iconst 1, 1) := by decide +kernel
theorem dX9_move_147 : decode cX9_move 147 = .ok (.ireturn, 1) := by decide +kernel
theorem dX9_turnOf_0 : decode cX9_turnOf 0 = .ok (.aload_n 0, 1) := by decide +kernel
theorem dX9_turnOf_1 : decode cX9_turnOf 1 = .ok (.getfield 19, 3) := by decide +kernel
theorem dX9_turnOf_4 : decode cX9_turnOf 4 = .ok (.iconst 3, 1) := by decide +kernel
theorem dX9_turnOf_5 : decode cX9_turnOf 5 = .ok (.iload_n 1, 1) := by decide +kernel
theorem dX9_turnOf_6 : decode cX9_turnOf 6 = .ok (.imul, 1) := by decide +kernel
theorem dX9_turnOf_7 : decode cX9_turnOf 7 = .ok (.iaload, 1) := by decide +kernel
theorem dX9_turnOf_8 : decode cX9_turnOf 8 = .ok (.istore_n 2, 1) := by decide +kernel
theorem dX9_turnOf_9 : decode cX9_turnOf 9 = .ok (.aload_n 0, 1) := by decide +kernel
theorem dX9_turnOf_10 : decode cX9_turnOf 10 = .ok (.getfield 19, 3) := by decide +kernel
theorem dX9_turnOf_13 : decode cX9_turnOf 13 = .ok (.iconst 3, 1) := by decide +kernel
theorem dX9_turnOf_14 : decode cX9_turnOf 14 = .ok (.iload_n 1, 1) := by decide +kernel
theorem dX9_turnOf_15 : decode cX9_turnOf 15 = .ok (.imul, 1) := by decide +kernel
theorem dX9_turnOf_16 : decode cX9_turnOf 16 = .ok (.iconst 2, 1) := by decide +kernel
theorem dX9_turnOf_17 : decode cX9_turnOf 17 = .ok (.iadd, 1) := by decide +kernel
theorem dX9_turnOf_18 : decode cX9_turnOf 18 = .ok (.iaload, 1) := by decide +kernel
theorem dX9_turnOf_19 : decode cX9_turnOf 19 = .ok (.istore_n 3, 1) := by decide +kernel
theorem dX9_turnOf_20 : decode cX9_turnOf 20 = .ok (.aload_n 0, 1) := by decide +kernel
theorem dX9_turnOf_21 : decode cX9_turnOf 21 = .ok (.iload_n 2, 1) := by decide +kernel
theorem dX9_turnOf_22 : decode cX9_turnOf 22 = .ok (.aload_n 0, 1) := by decide +kernel
theorem dX9_turnOf_23 : decode cX9_turnOf 23 = .ok (.getfield 19, 3) := by decide +kernel
theorem dX9_turnOf_26 : decode cX9_turnOf 26 = .ok (.iconst 3, 1) := by decide +kernel
theorem dX9_turnOf_27 : decode cX9_turnOf 27 = .ok (.iload_n 1, 1) := by decide +kernel
theorem dX9_turnOf_28 : decode cX9_turnOf 28 = .ok (.imul, 1) := by decide +kernel
theorem dX9_turnOf_29 : decode cX9_turnOf 29 = .ok (.iconst 1, 1) := by decide +kernel
theorem dX9_turnOf_30 : decode cX9_turnOf 30 = .ok (.iadd, 1) := by decide +kernel
theorem dX9_turnOf_31 : decode cX9_turnOf 31 = .ok (.iaload, 1) := by decide +kernel
theorem dX9_turnOf_32 : decode cX9_turnOf 32 = .ok (.aload_n 0, 1) := by decide +kernel
theorem dX9_turnOf_33 : decode cX9_turnOf 33 = .ok (.getfield 7, 3) := by decide +kernel
theorem dX9_turnOf_36 : decode cX9_turnOf 36 = .ok (.iload_n 3, 1) := by decide +kernel
theorem dX9_turnOf_37 : decode cX9_turnOf 37 = .ok (.iaload, 1) := by decide +kernel
theorem dX9_turnOf_38 : decode cX9_turnOf 38 = .ok (.aload_n 0, 1) := by decide +kernel
theorem dX9_turnOf_39 : decode cX9_turnOf 39 = .ok (.getfield 7, 3) := by decide +kernel
theorem dX9_turnOf_42 : decode cX9_turnOf 42 = .ok (.iload_n 2, 1) := by decide +kernel
theorem dX9_turnOf_43 : decode cX9_turnOf 43 = .ok (.iaload, 1) := by decide +kernel
theorem dX9_turnOf_44 : decode cX9_turnOf 44 = .ok (.isub, 1) := by decide +kernel
theorem dX9_turnOf_45 : decode cX9_turnOf 45 = .ok (.aload_n 0, 1) := by decide +kernel
theorem dX9_turnOf_46 : decode cX9_turnOf 46 = .ok (.getfield 13, 3) := by decide +kernel
theorem dX9_turnOf_49 : decode cX9_turnOf 49 = .ok (.iload_n 3, 1) := by decide +kernel
theorem dX9_turnOf_50 : decode cX9_turnOf 50 = .ok (.iaload, 1) := by decide +kernel
theorem dX9_turnOf_51 : decode cX9_turnOf 51 = .ok (.aload_n 0, 1) := by decide +kernel
theorem dX9_turnOf_52 : decode cX9_turnOf 52 = .ok (.getfield 13, 3) := by decide +kernel
theorem dX9_turnOf_55 : decode cX9_turnOf 55 = .ok (.iload_n 2, 1) := by decide +kernel
theorem dX9_turnOf_56 : decode cX9_turnOf 56 = .ok (.iaload, 1) := by decide +kernel
theorem dX9_turnOf_57 : decode cX9_turnOf 57 = .ok (.isub, 1) := by decide +kernel
theorem dX9_turnOf_58 : decode cX9_turnOf 58 = .ok (.aload_n 0, 1) := by decide +kernel
theorem dX9_turnOf_59 : decode cX9_turnOf 59 = .ok (.getfield 16, 3) := by decide +kernel
theorem dX9_turnOf_62 : decode cX9_turnOf 62 = .ok (.iload_n 3, 1) := by decide +kernel
theorem dX9_turnOf_63 : decode cX9_turnOf 63 = .ok (.iaload, 1) := by decide +kernel
theorem dX9_turnOf_64 : decode cX9_turnOf 64 = .ok (.aload_n 0, 1) := by decide +kernel
theorem dX9_turnOf_65 : decode cX9_turnOf 65 = .ok (.getfield 16, 3) := by decide +kernel
theorem dX9_turnOf_68 : decode cX9_turnOf 68 = .ok (.iload_n 2, 1) := by decide +kernel
theorem dX9_turnOf_69 : decode cX9_turnOf 69 = .ok (.iaload, 1) := by decide +kernel
theorem dX9_turnOf_70 : decode cX9_turnOf 70 = .ok (.isub, 1) := by decide +kernel
theorem dX9_turnOf_71 : decode cX9_turnOf 71 = .ok (.aload_n 0, 1) := by decide +kernel
theorem dX9_turnOf_72 : decode cX9_turnOf 72 = .ok (.getfield 135, 3) := by decide +kernel
theorem dX9_turnOf_75 : decode cX9_turnOf 75 = .ok (.aload_n 0, 1) := by decide +kernel
theorem dX9_turnOf_76 : decode cX9_turnOf 76 = .ok (.getfield 138, 3) := by decide +kernel
theorem dX9_turnOf_79 : decode cX9_turnOf 79 = .ok (.aload_n 0, 1) := by decide +kernel
theorem dX9_turnOf_80 : decode cX9_turnOf 80 = .ok (.getfield 28, 3) := by decide +kernel
theorem dX9_turnOf_83 : decode cX9_turnOf 83 = .ok (.invokevirtual 141, 3) := by decide +kernel
theorem dX9_turnOf_86 : decode cX9_turnOf 86 = .ok (.lreturn, 1) := by decide +kernel
theorem dX9_against_0 : decode cX9_against 0 = .ok (.lconst 0, 1) := by decide +kernel
theorem dX9_against_1 : decode cX9_against 1 = .ok (.lstore 4, 2) := by decide +kernel
theorem dX9_against_3 : decode cX9_against 3 = .ok (.aload_n 0, 1) := by decide +kernel
theorem dX9_against_4 : decode cX9_against 4 = .ok (.getfield 19, 3) := by decide +kernel
theorem dX9_against_7 : decode cX9_against 7 = .ok (.iconst 3, 1) := by decide +kernel
theorem dX9_against_8 : decode cX9_against 8 = .ok (.iload_n 1, 1) := by decide +kernel
theorem dX9_against_9 : decode cX9_against 9 = .ok (.imul, 1) := by decide +kernel
theorem dX9_against_10 : decode cX9_against 10 = .ok (.iload_n 2, 1) := by decide +kernel
theorem dX9_against_11 : decode cX9_against 11 = .ok (.iconst 3, 1) := by decide +kernel
theorem dX9_against_12 : decode cX9_against 12 = .ok (.irem, 1) := by decide +kernel
theorem dX9_against_13 : decode cX9_against 13 = .ok (.iadd, 1) := by decide +kernel
theorem dX9_against_14 : decode cX9_against 14 = .ok (.iaload, 1) := by decide +kernel
theorem dX9_against_15 : decode cX9_against 15 = .ok (.istore 6, 2) := by decide +kernel
theorem dX9_against_17 : decode cX9_against 17 = .ok (.iload_n 2, 1) := by decide +kernel
theorem dX9_against_18 : decode cX9_against 18 = .ok (.iconst 3, 1) := by decide +kernel
theorem dX9_against_19 : decode cX9_against 19 = .ok (.if_icmp .ge 82, 3) := by decide +kernel
theorem dX9_against_22 : decode cX9_against 22 = .ok (.aload_n 0, 1) := by decide +kernel
theorem dX9_against_23 : decode cX9_against 23 = .ok (.iload 6, 2) := by decide +kernel
theorem dX9_against_25 : decode cX9_against 25 = .ok (.aload_n 0, 1) := by decide +kernel
theorem dX9_against_26 : decode cX9_against 26 = .ok (.getfield 19, 3) := by decide +kernel
theorem dX9_against_29 : decode cX9_against 29 = .ok (.iconst 3, 1) := by decide +kernel
theorem dX9_against_30 : decode cX9_against 30 = .ok (.iload_n 1, 1) := by decide +kernel
theorem dX9_against_31 : decode cX9_against 31 = .ok (.imul, 1) := by decide +kernel
theorem dX9_against_32 : decode cX9_against 32 = .ok (.iload_n 2, 1) := by decide +kernel
theorem dX9_against_33 : decode cX9_against 33 = .ok (.iconst 1, 1) := by decide +kernel
theorem dX9_against_34 : decode cX9_against 34 = .ok (.iadd, 1) := by decide +kernel
theorem dX9_against_35 : decode cX9_against 35 = .ok (.iconst 3, 1) := by decide +kernel
theorem dX9_against_36 : decode cX9_against 36 = .ok (.irem, 1) := by decide +kernel
theorem dX9_against_37 : decode cX9_against 37 = .ok (.iadd, 1) := by decide +kernel
theorem dX9_against_38 : decode cX9_against 38 = .ok (.iaload, 1) := by decide +kernel
theorem dX9_against_39 : decode cX9_against 39 = .ok (.aload_n 0, 1) := by decide +kernel
theorem dX9_against_40 : decode cX9_against 40 = .ok (.getfield 7, 3) := by decide +kernel
theorem dX9_against_43 : decode cX9_against 43 = .ok (.iload_n 3, 1) := by decide +kernel
theorem dX9_against_44 : decode cX9_against 44 = .ok (.iaload, 1) := by decide +kernel
theorem dX9_against_45 : decode cX9_against 45 = .ok (.aload_n 0, 1) := by decide +kernel
theorem dX9_against_46 : decode cX9_against 46 = .ok (.getfield 7, 3) := by decide +kernel
theorem dX9_against_49 : decode cX9_against 49 = .ok (.iload 6, 2) := by decide +kernel
theorem dX9_against_51 : decode cX9_against 51 = .ok (.iaload, 1) := by decide +kernel
theorem dX9_against_52 : decode cX9_against 52 = .ok (.isub, 1) := by decide +kernel
theorem dX9_against_53 : decode cX9_against 53 = .ok (.aload_n 0, 1) := by decide +kernel
theorem dX9_against_54 : decode cX9_against 54 = .ok (.getfield 13, 3) := by decide +kernel
theorem dX9_against_57 : decode cX9_against 57 = .ok (.iload_n 3, 1) := by decide +kernel
theorem dX9_against_58 : decode cX9_against 58 = .ok (.iaload, 1) := by decide +kernel
theorem dX9_against_59 : decode cX9_against 59 = .ok (.aload_n 0, 1) := by decide +kernel
theorem dX9_against_60 : decode cX9_against 60 = .ok (.getfield 13, 3) := by decide +kernel
theorem dX9_against_63 : decode cX9_against 63 = .ok (.iload 6, 2) := by decide +kernel
theorem dX9_against_65 : decode cX9_against 65 = .ok (.iaload, 1) := by decide +kernel
theorem dX9_against_66 : decode cX9_against 66 = .ok (.isub, 1) := by decide +kernel
theorem dX9_against_67 : decode cX9_against 67 = .ok (.aload_n 0, 1) := by decide +kernel
theorem dX9_against_68 : decode cX9_against 68 = .ok (.getfield 16, 3) := by decide +kernel
theorem dX9_against_71 : decode cX9_against 71 = .ok (.iload_n 3, 1) := by decide +kernel
theorem dX9_against_72 : decode cX9_against 72 = .ok (.iaload, 1) := by decide +kernel
theorem dX9_against_73 : decode cX9_against 73 = .ok (.aload_n 0, 1) := by decide +kernel
theorem dX9_against_74 : decode cX9_against 74 = .ok (.getfield 16, 3) := by decide +kernel
theorem dX9_against_77 : decode cX9_against 77 = .ok (.iload 6, 2) := by decide +kernel
theorem dX9_against_79 : decode cX9_against 79 = .ok (.iaload, 1) := by decide +kernel
theorem dX9_against_80 : decode cX9_against 80 = .ok (.isub, 1) := by decide +kernel
theorem dX9_against_81 : decode cX9_against 81 = .ok (.aload_n 0, 1) := by decide +kernel
theorem dX9_against_82 : decode cX9_against 82 = .ok (.getfield 135, 3) := by decide +kernel
theorem dX9_against_85 : decode cX9_against 85 = .ok (.aload_n 0, 1) := by decide +kernel
theorem dX9_against_86 : decode cX9_against 86 = .ok (.getfield 138, 3) := by decide +kernel
theorem dX9_against_89 : decode cX9_against 89 = .ok (.aload_n 0, 1) := by decide +kernel
theorem dX9_against_90 : decode cX9_against 90 = .ok (.getfield 28, 3) := by decide +kernel
theorem dX9_against_93 : decode cX9_against 93 = .ok (.invokevirtual 141, 3) := by decide +kernel
theorem dX9_against_96 : decode cX9_against 96 = .ok (.lstore 4, 2) := by decide +kernel
theorem dX9_against_98 : decode cX9_against 98 = .ok (.goto 120, 3) := by decide +kernel
theorem dX9_against_101 : decode cX9_against 101 = .ok (.aload_n 0, 1) := by decide +kernel
theorem dX9_against_102 : decode cX9_against 102 = .ok (.getfield 19, 3) := by decide +kernel
theorem dX9_against_105 : decode cX9_against 105 = .ok (.iconst 3, 1) := by decide +kernel
theorem dX9_against_106 : decode cX9_against 106 = .ok (.iload_n 1, 1) := by decide +kernel
theorem dX9_against_107 : decode cX9_against 107 = .ok (.imul, 1) := by decide +kernel
theorem dX9_against_108 : decode cX9_against 108 = .ok (.iconst 2, 1) := by decide +kernel
theorem dX9_against_109 : decode cX9_against 109 = .ok (.iadd, 1) := by decide +kernel
theorem dX9_against_110 : decode cX9_against 110 = .ok (.iaload, 1) := by decide +kernel
theorem dX9_against_111 : decode cX9_against 111 = .ok (.istore 7, 2) := by decide +kernel
theorem dX9_against_113 : decode cX9_against 113 = .ok (.aload_n 0, 1) := by decide +kernel
theorem dX9_against_114 : decode cX9_against 114 = .ok (.iload 6, 2) := by decide +kernel
theorem dX9_against_116 : decode cX9_against 116 = .ok (.aload_n 0, 1) := by decide +kernel
theorem dX9_against_117 : decode cX9_against 117 = .ok (.getfield 19, 3) := by decide +kernel
theorem dX9_against_120 : decode cX9_against 120 = .ok (.iconst 3, 1) := by decide +kernel
theorem dX9_against_121 : decode cX9_against 121 = .ok (.iload_n 1, 1) := by decide +kernel
theorem dX9_against_122 : decode cX9_against 122 = .ok (.imul, 1) := by decide +kernel
theorem dX9_against_123 : decode cX9_against 123 = .ok (.iconst 1, 1) := by decide +kernel
theorem dX9_against_124 : decode cX9_against 124 = .ok (.iadd, 1) := by decide +kernel
theorem dX9_against_125 : decode cX9_against 125 = .ok (.iaload, 1) := by decide +kernel
theorem dX9_against_126 : decode cX9_against 126 = .ok (.aload_n 0, 1) := by decide +kernel
theorem dX9_against_127 : decode cX9_against 127 = .ok (.getfield 7, 3) := by decide +kernel
theorem dX9_against_130 : decode cX9_against 130 = .ok (.iload 7, 2) := by decide +kernel
theorem dX9_against_132 : decode cX9_against 132 = .ok (.iaload, 1) := by decide +kernel
theorem dX9_against_133 : decode cX9_against 133 = .ok (.aload_n 0, 1) := by decide +kernel
theorem dX9_against_134 : decode cX9_against 134 = .ok (.getfield 7, 3) := by decide +kernel
theorem dX9_against_137 : decode cX9_against 137 = .ok (.iload 6, 2) := by decide +kernel
theorem dX9_against_139 : decode cX9_against 139 = .ok (.iaload, 1) := by decide +kernel
theorem dX9_against_140 : decode cX9_against 140 = .ok (.isub, 1) := by decide +kernel
theorem dX9_against_141 : decode cX9_against 141 = .ok (.aload_n 0, 1) := by decide +kernel
theorem dX9_against_142 : decode cX9_against 142 = .ok (.getfield 13, 3) := by decide +kernel
theorem dX9_against_145 : decode cX9_against 145 = .ok (.iload 7, 2) := by decide +kernel
theorem dX9_against_147 : decode cX9_against 147 = .ok (.iaload, 1) := by decide +kernel
theorem dX9_against_148 : decode cX9_against 148 = .ok (.aload_n 0, 1) := by decide +kernel
theorem dX9_against_149 : decode cX9_against 149 = .ok (.getfield 13, 3) := by decide +kernel
theorem dX9_against_152 : decode cX9_against 152 = .ok (.iload 6, 2) := by decide +kernel
theorem dX9_against_154 : decode cX9_against 154 = .ok (.iaload, 1) := by decide +kernel
theorem dX9_against_155 : decode cX9_against 155 = .ok (.isub, 1) := by decide +kernel
theorem dX9_against_156 : decode cX9_against 156 = .ok (.aload_n 0, 1) := by decide +kernel
theorem dX9_against_157 : decode cX9_against 157 = .ok (.getfield 16, 3) := by decide +kernel
theorem dX9_against_160 : decode cX9_against 160 = .ok (.iload 7, 2) := by decide +kernel
theorem dX9_against_162 : decode cX9_against 162 = .ok (.iaload, 1) := by decide +kernel
theorem dX9_against_163 : decode cX9_against 163 = .ok (.aload_n 0, 1) := by decide +kernel
theorem dX9_against_164 : decode cX9_against 164 = .ok (.getfield 16, 3) := by decide +kernel
theorem dX9_against_167 : decode cX9_against 167 = .ok (.iload 6, 2) := by decide +kernel
theorem dX9_against_169 : decode cX9_against 169 = .ok (.iaload, 1) := by decide +kernel
theorem dX9_against_170 : decode cX9_against 170 = .ok (.isub, 1) := by decide +kernel
theorem dX9_against_171 : decode cX9_against 171 = .ok (.aload_n 0, 1) := by decide +kernel
theorem dX9_against_172 : decode cX9_against 172 = .ok (.getfield 7, 3) := by decide +kernel
theorem dX9_against_175 : decode cX9_against 175 = .ok (.iload 6, 2) := by decide +kernel
theorem dX9_against_177 : decode cX9_against 177 = .ok (.iaload, 1) := by decide +kernel
theorem dX9_against_178 : decode cX9_against 178 = .ok (.aload_n 0, 1) := by decide +kernel
theorem dX9_against_179 : decode cX9_against 179 = .ok (.getfield 7, 3) := by decide +kernel
theorem dX9_against_182 : decode cX9_against 182 = .ok (.iload_n 3, 1) := by decide +kernel
theorem dX9_against_183 : decode cX9_against 183 = .ok (.iaload, 1) := by decide +kernel
theorem dX9_against_184 : decode cX9_against 184 = .ok (.isub, 1) := by decide +kernel
theorem dX9_against_185 : decode cX9_against 185 = .ok (.aload_n 0, 1) := by decide +kernel
theorem dX9_against_186 : decode cX9_against 186 = .ok (.getfield 13, 3) := by decide +kernel
theorem dX9_against_189 : decode cX9_against 189 = .ok (.iload 6, 2) := by decide +kernel
theorem dX9_against_191 : decode cX9_against 191 = .ok (.iaload, 1) := by decide +kernel
theorem dX9_against_192 : decode cX9_against 192 = .ok (.aload_n 0, 1) := by decide +kernel
theorem dX9_against_193 : decode cX9_against 193 = .ok (.getfield 13, 3) := by decide +kernel
theorem dX9_against_196 : decode cX9_against 196 = .ok (.iload_n 3, 1) := by decide +kernel
theorem dX9_against_197 : decode cX9_against 197 = .ok (.iaload, 1) := by decide +kernel
theorem dX9_against_198 : decode cX9_against 198 = .ok (.isub, 1) := by decide +kernel
theorem dX9_against_199 : decode cX9_against 199 = .ok (.aload_n 0, 1) := by decide +kernel
theorem dX9_against_200 : decode cX9_against 200 = .ok (.getfield 16, 3) := by decide +kernel
theorem dX9_against_203 : decode cX9_against 203 = .ok (.iload 6, 2) := by decide +kernel
theorem dX9_against_205 : decode cX9_against 205 = .ok (.iaload, 1) := by decide +kernel
theorem dX9_against_206 : decode cX9_against 206 = .ok (.aload_n 0, 1) := by decide +kernel
theorem dX9_against_207 : decode cX9_against 207 = .ok (.getfield 16, 3) := by decide +kernel
theorem dX9_against_210 : decode cX9_against 210 = .ok (.iload_n 3, 1) := by decide +kernel
theorem dX9_against_211 : decode cX9_against 211 = .ok (.iaload, 1) := by decide +kernel
theorem dX9_against_212 : decode cX9_against 212 = .ok (.isub, 1) := by decide +kernel
theorem dX9_against_213 : decode cX9_against 213 = .ok (.invokevirtual 141, 3) := by decide +kernel
theorem dX9_against_216 : decode cX9_against 216 = .ok (.lstore 4, 2) := by decide +kernel
theorem dX9_against_218 : decode cX9_against 218 = .ok (.aload_n 0, 1) := by decide +kernel
theorem dX9_against_219 : decode cX9_against 219 = .ok (.iload_n 1, 1) := by decide +kernel
theorem dX9_against_220 : decode cX9_against 220 = .ok (.invokevirtual 145, 3) := by decide +kernel
theorem dX9_against_223 : decode cX9_against 223 = .ok (.lconst 0, 1) := by decide +kernel
theorem dX9_against_224 : decode cX9_against 224 = .ok (.lcmp, 1) := by decide +kernel
theorem dX9_against_225 : decode cX9_against 225 = .ok (.ifCond .ge 9, 3) := by decide +kernel
theorem dX9_against_228 : decode cX9_against 228 = .ok (.lload 4, 2) := by decide +kernel
theorem dX9_against_230 : decode cX9_against 230 = .ok (.lneg, 1) := by decide +kernel
theorem dX9_against_231 : decode cX9_against 231 = .ok (.goto 5, 3) := by decide +kernel
theorem dX9_against_234 : decode cX9_against 234 = .ok (.lload 4, 2) := by decide +kernel
theorem dX9_against_236 : decode cX9_against 236 = .ok (.lreturn, 1) := by decide +kernel
theorem dX9_hidersOf_0 : decode cX9_hidersOf 0 = .ok (.iconst 0, 1) := by decide +kernel
theorem dX9_hidersOf_1 : decode cX9_hidersOf 1 = .ok (.istore_n 2, 1) := by decide +kernel
theorem dX9_hidersOf_2 : decode cX9_hidersOf 2 = .ok (.iconst 0, 1) := by decide +kernel
theorem dX9_hidersOf_3 : decode cX9_hidersOf 3 = .ok (.istore_n 3, 1) := by decide +kernel
theorem dX9_hidersOf_4 : decode cX9_hidersOf 4 = .ok (.iload_n 3, 1) := by decide +kernel
theorem dX9_hidersOf_5 : decode cX9_hidersOf 5 = .ok (.aload_n 0, 1) := by decide +kernel
theorem dX9_hidersOf_6 : decode cX9_hidersOf 6 = .ok (.getfield 86, 3) := by decide +kernel
theorem dX9_hidersOf_9 : decode cX9_hidersOf 9 = .ok (.if_icmp .ge 79, 3) := by decide +kernel
theorem dX9_hidersOf_12 : decode cX9_hidersOf 12 = .ok (.aload_n 0, 1) := by decide +kernel
theorem dX9_hidersOf_13 : decode cX9_hidersOf 13 = .ok (.iload_n 3, 1) := by decide +kernel
theorem dX9_hidersOf_14 : decode cX9_hidersOf 14 = .ok (.invokevirtual 145, 3) := by decide +kernel
theorem dX9_hidersOf_17 : decode cX9_hidersOf 17 = .ok (.lconst 0, 1) := by decide +kernel
theorem dX9_hidersOf_18 : decode cX9_hidersOf 18 = .ok (.lcmp, 1) := by decide +kernel
theorem dX9_hidersOf_19 : decode cX9_hidersOf 19 = .ok (.ifCond .eq 7, 3) := by decide +kernel
theorem dX9_hidersOf_22 : decode cX9_hidersOf 22 = .ok (.iconst 1, 1) := by decide +kernel
theorem dX9_hidersOf_23 : decode cX9_hidersOf 23 = .ok (.goto 4, 3) := by decide +kernel
theorem dX9_hidersOf_26 : decode cX9_hidersOf 26 = .ok (.iconst 0, 1) := by decide +kernel
theorem dX9_hidersOf_27 : decode cX9_hidersOf 27 = .ok (.istore 4, 2) := by decide +kernel
theorem dX9_hidersOf_29 : decode cX9_hidersOf 29 = .ok (.iconst 0, 1) := by decide +kernel
theorem dX9_hidersOf_30 : decode cX9_hidersOf 30 = .ok (.istore 5, 2) := by decide +kernel
theorem dX9_hidersOf_32 : decode cX9_hidersOf 32 = .ok (.iload 5, 2) := by decide +kernel
theorem dX9_hidersOf_34 : decode cX9_hidersOf 34 = .ok (.iconst 4, 1) := by decide +kernel
theorem dX9_hidersOf_35 : decode cX9_hidersOf 35 = .ok (.if_icmp .ge 34, 3) := by decide +kernel
theorem dX9_hidersOf_38 : decode cX9_hidersOf 38 = .ok (.iload 4, 2) := by decide +kernel
theorem dX9_hidersOf_40 : decode cX9_hidersOf 40 = .ok (.ifCond .eq 29, 3) := by decide +kernel
theorem dX9_hidersOf_43 : decode cX9_hidersOf 43 = .ok (.aload_n 0, 1) := by decide +kernel
theorem dX9_hidersOf_44 : decode cX9_hidersOf 44 = .ok (.iload_n 3, 1) := by decide +kernel
theorem dX9_hidersOf_45 : decode cX9_hidersOf 45 = .ok (.iload 5, 2) := by decide +kernel
theorem dX9_hidersOf_47 : decode cX9_hidersOf 47 = .ok (.iload_n 1, 1) := by decide +kernel
theorem dX9_hidersOf_48 : decode cX9_hidersOf 48 = .ok (.invokevirtual 149, 3) := by decide +kernel
theorem dX9_hidersOf_51 : decode cX9_hidersOf 51 = .ok (.lconst 0, 1) := by decide +kernel
theorem dX9_hidersOf_52 : decode cX9_hidersOf 52 = .ok (.lcmp, 1) := by decide +kernel
theorem dX9_hidersOf_53 : decode cX9_hidersOf 53 = .ok (.ifCond .le 7, 3) := by decide +kernel
