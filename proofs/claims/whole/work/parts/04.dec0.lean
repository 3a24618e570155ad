theorem dX0_init_0 : decode cX0_init 0 = .ok (.aload_n 0, 1) := by decide +kernel
theorem dX0_init_1 : decode cX0_init 1 = .ok (.invokespecial 3, 3) := by decide +kernel
theorem dX0_init_4 : decode cX0_init 4 = .ok (.aload_n 0, 1) := by decide +kernel
theorem dX0_init_5 : decode cX0_init 5 = .ok (.bipush 24, 2) := by decide +kernel
theorem dX0_init_7 : decode cX0_init 7 = .ok (.newarray .long, 2) := by decide +kernel
theorem dX0_init_9 : decode cX0_init 9 = .ok (.putfield 9, 3) := by decide +kernel
theorem dX0_init_12 : decode cX0_init 12 = .ok (.aload_n 0, 1) := by decide +kernel
theorem dX0_init_13 : decode cX0_init 13 = .ok (.bipush 24, 2) := by decide +kernel
theorem dX0_init_15 : decode cX0_init 15 = .ok (.newarray .long, 2) := by decide +kernel
theorem dX0_init_17 : decode cX0_init 17 = .ok (.putfield 15, 3) := by decide +kernel
theorem dX0_init_20 : decode cX0_init 20 = .ok (.aload_n 0, 1) := by decide +kernel
theorem dX0_init_21 : decode cX0_init 21 = .ok (.bipush (-9), 2) := by decide +kernel
theorem dX0_init_23 : decode cX0_init 23 = .ok (.putfield 18, 3) := by decide +kernel
theorem dX0_init_26 : decode cX0_init 26 = .ok (.aload_n 0, 1) := by decide +kernel
theorem dX0_init_27 : decode cX0_init 27 = .ok (.bipush 50, 2) := by decide +kernel
theorem dX0_init_29 : decode cX0_init 29 = .ok (.newarray .long, 2) := by decide +kernel
theorem dX0_init_31 : decode cX0_init 31 = .ok (.putfield 22, 3) := by decide +kernel
theorem dX0_init_34 : decode cX0_init 34 = .ok (.aload_n 0, 1) := by decide +kernel
theorem dX0_init_35 : decode cX0_init 35 = .ok (.bipush 50, 2) := by decide +kernel
theorem dX0_init_37 : decode cX0_init 37 = .ok (.newarray .int, 2) := by decide +kernel
theorem dX0_init_39 : decode cX0_init 39 = .ok (.putfield 25, 3) := by decide +kernel
theorem dX0_init_42 : decode cX0_init 42 = .ok (.return_, 1) := by decide +kernel
theorem dX0_unload_0 : decode cX0_unload 0 = .ok (.aload_n 0, 1) := by decide +kernel
theorem dX0_unload_1 : decode cX0_unload 1 = .ok (.bipush (-9), 2) := by decide +kernel
theorem dX0_unload_3 : decode cX0_unload 3 = .ok (.putfield 18, 3) := by decide +kernel
theorem dX0_unload_6 : decode cX0_unload 6 = .ok (.return_, 1) := by decide +kernel
theorem dX0_pieceCount_0 : decode cX0_pieceCount 0 = .ok (.aload_n 0, 1) := by decide +kernel
theorem dX0_pieceCount_1 : decode cX0_pieceCount 1 = .ok (.getfield 29, 3) := by decide +kernel
theorem dX0_pieceCount_4 : decode cX0_pieceCount 4 = .ok (.iconst 1, 1) := by decide +kernel
theorem dX0_pieceCount_5 : decode cX0_pieceCount 5 = .ok (.isub, 1) := by decide +kernel
theorem dX0_pieceCount_6 : decode cX0_pieceCount 6 = .ok (.ireturn, 1) := by decide +kernel
theorem dX0_load_0 : decode cX0_load 0 = .ok (.aload_n 0, 1) := by decide +kernel
theorem dX0_load_1 : decode cX0_load 1 = .ok (.getfield 18, 3) := by decide +kernel
theorem dX0_load_4 : decode cX0_load 4 = .ok (.iload_n 1, 1) := by decide +kernel
theorem dX0_load_5 : decode cX0_load 5 = .ok (.if_icmp .ne 4, 3) := by decide +kernel
theorem dX0_load_8 : decode cX0_load 8 = .ok (.return_, 1) := by decide +kernel
theorem dX0_load_9 : decode cX0_load 9 = .ok (.aload_n 0, 1) := by decide +kernel
theorem dX0_load_10 : decode cX0_load 10 = .ok (.getfield 22, 3) := by decide +kernel
theorem dX0_load_13 : decode cX0_load 13 = .ok (.iconst 0, 1) := by decide +kernel
theorem dX0_load_14 : decode cX0_load 14 = .ok (.lconst 1, 1) := by decide +kernel
theorem dX0_load_15 : decode cX0_load 15 = .ok (.lastore, 1) := by decide +kernel
theorem dX0_load_16 : decode cX0_load 16 = .ok (.aload_n 0, 1) := by decide +kernel
theorem dX0_load_17 : decode cX0_load 17 = .ok (.getfield 22, 3) := by decide +kernel
theorem dX0_load_20 : decode cX0_load 20 = .ok (.iconst 1, 1) := by decide +kernel
theorem dX0_load_21 : decode cX0_load 21 = .ok (.ldc2_w 34, 3) := by decide +kernel
theorem dX0_load_24 : decode cX0_load 24 = .ok (.lastore, 1) := by decide +kernel
theorem dX0_load_25 : decode cX0_load 25 = .ok (.aload_n 0, 1) := by decide +kernel
theorem dX0_load_26 : decode cX0_load 26 = .ok (.iconst 2, 1) := by decide +kernel
theorem dX0_load_27 : decode cX0_load 27 = .ok (.putfield 29, 3) := by decide +kernel
theorem dX0_load_30 : decode cX0_load 30 = .ok (.aload_n 0, 1) := by decide +kernel
theorem dX0_load_31 : decode cX0_load 31 = .ok (.iconst 0, 1) := by decide +kernel
theorem dX0_load_32 : decode cX0_load 32 = .ok (.putfield 36, 3) := by decide +kernel
theorem dX0_load_35 : decode cX0_load 35 = .ok (.iconst 0, 1) := by decide +kernel
theorem dX0_load_36 : decode cX0_load 36 = .ok (.istore 4, 2) := by decide +kernel
theorem dX0_load_38 : decode cX0_load 38 = .ok (.iload 4, 2) := by decide +kernel
theorem dX0_load_40 : decode cX0_load 40 = .ok (.aload_n 3, 1) := by decide +kernel
theorem dX0_load_41 : decode cX0_load 41 = .ok (.getfield 39, 3) := by decide +kernel
theorem dX0_load_44 : decode cX0_load 44 = .ok (.if_icmp .ge 28, 3) := by decide +kernel
theorem dX0_load_47 : decode cX0_load 47 = .ok (.aload_n 0, 1) := by decide +kernel
theorem dX0_load_48 : decode cX0_load 48 = .ok (.aload_n 3, 1) := by decide +kernel
theorem dX0_load_49 : decode cX0_load 49 = .ok (.aload_n 2, 1) := by decide +kernel
theorem dX0_load_50 : decode cX0_load 50 = .ok (.getfield 44, 3) := by decide +kernel
theorem dX0_load_53 : decode cX0_load 53 = .ok (.iload_n 1, 1) := by decide +kernel
theorem dX0_load_54 : decode cX0_load 54 = .ok (.iaload, 1) := by decide +kernel
theorem dX0_load_55 : decode cX0_load 55 = .ok (.aload_n 2, 1) := by decide +kernel
theorem dX0_load_56 : decode cX0_load 56 = .ok (.getfield 49, 3) := by decide +kernel
theorem dX0_load_59 : decode cX0_load 59 = .ok (.iload_n 1, 1) := by decide +kernel
theorem dX0_load_60 : decode cX0_load 60 = .ok (.iaload, 1) := by decide +kernel
theorem dX0_load_61 : decode cX0_load 61 = .ok (.iload 4, 2) := by decide +kernel
theorem dX0_load_63 : decode cX0_load 63 = .ok (.invokevirtual 52, 3) := by decide +kernel
theorem dX0_load_66 : decode cX0_load 66 = .ok (.iinc 4 1, 3) := by decide +kernel
theorem dX0_load_69 : decode cX0_load 69 = .ok (.goto (-31), 3) := by decide +kernel
theorem dX0_load_72 : decode cX0_load 72 = .ok (.aload_n 0, 1) := by decide +kernel
theorem dX0_load_73 : decode cX0_load 73 = .ok (.invokevirtual 56, 3) := by decide +kernel
theorem dX0_load_76 : decode cX0_load 76 = .ok (.aload_n 0, 1) := by decide +kernel
theorem dX0_load_77 : decode cX0_load 77 = .ok (.aload_n 2, 1) := by decide +kernel
theorem dX0_load_78 : decode cX0_load 78 = .ok (.getfield 59, 3) := by decide +kernel
theorem dX0_load_81 : decode cX0_load 81 = .ok (.iload_n 1, 1) := by decide +kernel
theorem dX0_load_82 : decode cX0_load 82 = .ok (.iaload, 1) := by decide +kernel
theorem dX0_load_83 : decode cX0_load 83 = .ok (.iconst 2, 1) := by decide +kernel
theorem dX0_load_84 : decode cX0_load 84 = .ok (.if_icmp .ne 7, 3) := by decide +kernel
theorem dX0_load_87 : decode cX0_load 87 = .ok (.lconst 0, 1) := by decide +kernel
theorem dX0_load_88 : decode cX0_load 88 = .ok (.goto 7, 3) := by decide +kernel
theorem dX0_load_91 : decode cX0_load 91 = .ok (.aload_n 0, 1) := by decide +kernel
theorem dX0_load_92 : decode cX0_load 92 = .ok (.invokevirtual 62, 3) := by decide +kernel
theorem dX0_load_95 : decode cX0_load 95 = .ok (.putfield 66, 3) := by decide +kernel
theorem dX0_load_98 : decode cX0_load 98 = .ok (.aload_n 0, 1) := by decide +kernel
theorem dX0_load_99 : decode cX0_load 99 = .ok (.iload_n 1, 1) := by decide +kernel
theorem dX0_load_100 : decode cX0_load 100 = .ok (.putfield 18, 3) := by decide +kernel
theorem dX0_load_103 : decode cX0_load 103 = .ok (.return_, 1) := by decide +kernel
theorem dX0_addStretch_0 : decode cX0_addStretch 0 = .ok (.aload_n 1, 1) := by decide +kernel
theorem dX0_addStretch_1 : decode cX0_addStretch 1 = .ok (.iload_n 2, 1) := by decide +kernel
theorem dX0_addStretch_2 : decode cX0_addStretch 2 = .ok (.iload_n 3, 1) := by decide +kernel
theorem dX0_addStretch_3 : decode cX0_addStretch 3 = .ok (.iload 4, 2) := by decide +kernel
theorem dX0_addStretch_5 : decode cX0_addStretch 5 = .ok (.invokevirtual 70, 3) := by decide +kernel
theorem dX0_addStretch_8 : decode cX0_addStretch 8 = .ok (.lstore 5, 2) := by decide +kernel
theorem dX0_addStretch_10 : decode cX0_addStretch 10 = .ok (.lload 5, 2) := by decide +kernel
theorem dX0_addStretch_12 : decode cX0_addStretch 12 = .ok (.lconst 1, 1) := by decide +kernel
theorem dX0_addStretch_13 : decode cX0_addStretch 13 = .ok (.lcmp, 1) := by decide +kernel
theorem dX0_addStretch_14 : decode cX0_addStretch 14 = .ok (.ifCond .ne 4, 3) := by decide +kernel
theorem dX0_addStretch_17 : decode cX0_addStretch 17 = .ok (.return_, 1) := by decide +kernel
theorem dX0_addStretch_18 : decode cX0_addStretch 18 = .ok (.aload_n 1, 1) := by decide +kernel
theorem dX0_addStretch_19 : decode cX0_addStretch 19 = .ok (.iload_n 2, 1) := by decide +kernel
theorem dX0_addStretch_20 : decode cX0_addStretch 20 = .ok (.iload_n 3, 1) := by decide +kernel
theorem dX0_addStretch_21 : decode cX0_addStretch 21 = .ok (.iload 4, 2) := by decide +kernel
theorem dX0_addStretch_23 : decode cX0_addStretch 23 = .ok (.invokevirtual 74, 3) := by decide +kernel
theorem dX0_addStretch_26 : decode cX0_addStretch 26 = .ok (.lstore 7, 2) := by decide +kernel
theorem dX0_addStretch_28 : decode cX0_addStretch 28 = .ok (.lload 7, 2) := by decide +kernel
theorem dX0_addStretch_30 : decode cX0_addStretch 30 = .ok (.lload 5, 2) := by decide +kernel
theorem dX0_addStretch_32 : decode cX0_addStretch 32 = .ok (.invokestatic 77, 3) := by decide +kernel
theorem dX0_addStretch_35 : decode cX0_addStretch 35 = .ok (.ifCond .eq 47, 3) := by decide +kernel
theorem dX0_addStretch_38 : decode cX0_addStretch 38 = .ok (.aload_n 0, 1) := by decide +kernel
theorem dX0_addStretch_39 : decode cX0_addStretch 39 = .ok (.getfield 9, 3) := by decide +kernel
theorem dX0_addStretch_42 : decode cX0_addStretch 42 = .ok (.aload_n 0, 1) := by decide +kernel
theorem dX0_addStretch_43 : decode cX0_addStretch 43 = .ok (.getfield 36, 3) := by decide +kernel
theorem dX0_addStretch_46 : decode cX0_addStretch 46 = .ok (.lload 7, 2) := by decide +kernel
theorem dX0_addStretch_48 : decode cX0_addStretch 48 = .ok (.lastore, 1) := by decide +kernel
theorem dX0_addStretch_49 : decode cX0_addStretch 49 = .ok (.aload_n 0, 1) := by decide +kernel
theorem dX0_addStretch_50 : decode cX0_addStretch 50 = .ok (.getfield 15, 3) := by decide +kernel
theorem dX0_addStretch_53 : decode cX0_addStretch 53 = .ok (.aload_n 0, 1) := by decide +kernel
theorem dX0_addStretch_54 : decode cX0_addStretch 54 = .ok (.getfield 36, 3) := by decide +kernel
theorem dX0_addStretch_57 : decode cX0_addStretch 57 = .ok (.lload 5, 2) := by decide +kernel
theorem dX0_addStretch_59 : decode cX0_addStretch 59 = .ok (.lastore, 1) := by decide +kernel
theorem dX0_addStretch_60 : decode cX0_addStretch 60 = .ok (.aload_n 0, 1) := by decide +kernel
theorem dX0_addStretch_61 : decode cX0_addStretch 61 = .ok (.dup, 1) := by decide +kernel
theorem dX0_addStretch_62 : decode cX0_addStretch 62 = .ok (.getfield 36, 3) := by decide +kernel
theorem dX0_addStretch_65 : decode cX0_addStretch 65 = .ok (.iconst 1, 1) := by decide +kernel
theorem dX0_addStretch_66 : decode cX0_addStretch 66 = .ok (.iadd, 1) := by decide +kernel
theorem dX0_addStretch_67 : decode cX0_addStretch 67 = .ok (.putfield 36, 3) := by decide +kernel
theorem dX0_addStretch_70 : decode cX0_addStretch 70 = .ok (.aload_n 0, 1) := by decide +kernel
theorem dX0_addStretch_71 : decode cX0_addStretch 71 = .ok (.lload 7, 2) := by decide +kernel
theorem dX0_addStretch_73 : decode cX0_addStretch 73 = .ok (.invokevirtual 81, 3) := by decide +kernel
theorem dX0_addStretch_76 : decode cX0_addStretch 76 = .ok (.aload_n 0, 1) := by decide +kernel
theorem dX0_addStretch_77 : decode cX0_addStretch 77 = .ok (.lload 5, 2) := by decide +kernel
theorem dX0_addStretch_79 : decode cX0_addStretch 79 = .ok (.invokevirtual 81, 3) := by decide +kernel
theorem dX0_addStretch_82 : decode cX0_addStretch 82 = .ok (.return_, 1) := by decide +kernel
theorem dX0_insert_0 : decode cX0_insert 0 = .ok (.iconst 0, 1) := by decide +kernel
theorem dX0_insert_1 : decode cX0_insert 1 = .ok (.istore_n 3, 1) := by decide +kernel
theorem dX0_insert_2 : decode cX0_insert 2 = .ok (.iload_n 3, 1) := by decide +kernel
theorem dX0_insert_3 : decode cX0_insert 3 = .ok (.aload_n 0, 1) := by decide +kernel
theorem dX0_insert_4 : decode cX0_insert 4 = .ok (.getfield 29, 3) := by decide +kernel
theorem dX0_insert_7 : decode cX0_insert 7 = .ok (.if_icmp .ge 22, 3) := by decide +kernel
theorem dX0_insert_10 : decode cX0_insert 10 = .ok (.aload_n 0, 1) := by decide +kernel
theorem dX0_insert_11 : decode cX0_insert 11 = .ok (.getfield 22, 3) := by decide +kernel
theorem dX0_insert_14 : decode cX0_insert 14 = .ok (.iload_n 3, 1) := by decide +kernel
theorem dX0_insert_15 : decode cX0_insert 15 = .ok (.laload, 1) := by decide +kernel
theorem dX0_insert_16 : decode cX0_insert 16 = .ok (.lload_n 1, 1) := by decide +kernel
theorem dX0_insert_17 : decode cX0_insert 17 = .ok (.invokestatic 77, 3) := by decide +kernel
theorem dX0_insert_20 : decode cX0_insert 20 = .ok (.ifCond .eq 9, 3) := by decide +kernel
theorem dX0_insert_23 : decode cX0_insert 23 = .ok (.iinc 3 1, 3) := by decide +kernel
theorem dX0_insert_26 : decode cX0_insert 26 = .ok (.goto (-24), 3) := by decide +kernel
theorem dX0_insert_29 : decode cX0_insert 29 = .ok (.iload_n 3, 1) := by decide +kernel
theorem dX0_insert_30 : decode cX0_insert 30 = .ok (.aload_n 0, 1) := by decide +kernel
theorem dX0_insert_31 : decode cX0_insert 31 = .ok (.getfield 29, 3) := by decide +kernel
theorem dX0_insert_34 : decode cX0_insert 34 = .ok (.if_icmp .ge 14, 3) := by decide +kernel
theorem dX0_insert_37 : decode cX0_insert 37 = .ok (.aload_n 0, 1) := by decide +kernel
theorem dX0_insert_38 : decode cX0_insert 38 = .ok (.getfield 22, 3) := by decide +kernel
theorem dX0_insert_41 : decode cX0_insert 41 = .ok (.iload_n 3, 1) := by decide +kernel
theorem dX0_insert_42 : decode cX0_insert 42 = .ok (.laload, 1) := by decide +kernel
theorem dX0_insert_43 : decode cX0_insert 43 = .ok (.lload_n 1, 1) := by decide +kernel
theorem dX0_insert_44 : decode cX0_insert 44 = .ok (.lcmp, 1) := by decide +kernel
theorem dX0_insert_45 : decode cX0_insert 45 = .ok (.ifCond .eq 12, 3) := by decide +kernel
theorem dX0_insert_48 : decode cX0_insert 48 = .ok (.aload_n 0, 1) := by decide +kernel
theorem dX0_insert_49 : decode cX0_insert 49 = .ok (.getfield 29, 3) := by decide +kernel
theorem dX0_insert_52 : decode cX0_insert 52 = .ok (.bipush 50, 2) := by decide +kernel
theorem dX0_insert_54 : decode cX0_insert 54 = .ok (.if_icmp .lt 4, 3) := by decide +kernel
theorem dX0_insert_57 : decode cX0_insert 57 = .ok (.return_, 1) := by decide +kernel
theorem dX0_insert_58 : decode cX0_insert 58 = .ok (.aload_n 0, 1) := by decide +kernel
theorem dX0_insert_59 : decode cX0_insert 59 = .ok (.getfield 29, 3) := by decide +kernel
theorem dX0_insert_62 : decode cX0_insert 62 = .ok (.istore 4, 2) := by decide +kernel
theorem dX0_insert_64 : decode cX0_insert 64 = .ok (.iload 4, 2) := by decide +kernel
theorem dX0_insert_66 : decode cX0_insert 66 = .ok (.iload_n 3, 1) := by decide +kernel
theorem dX0_insert_67 : decode cX0_insert 67 = .ok (.if_icmp .le 25, 3) := by decide +kernel
theorem dX0_insert_70 : decode cX0_insert 70 = .ok (.aload_n 0, 1) := by decide +kernel
theorem dX0_insert_71 : decode cX0_insert 71 = .ok (.getfield 22, 3) := by decide +kernel
theorem dX0_insert_74 : decode cX0_insert 74 = .ok (.iload 4, 2) := by decide +kernel
theorem dX0_insert_76 : decode cX0_insert 76 = .ok (.aload_n 0, 1) := by decide +kernel
theorem dX0_insert_77 : decode cX0_insert 77 = .ok (.getfield 22, 3) := by decide +kernel
theorem dX0_insert_80 : decode cX0_insert 80 = .ok (.iload 4, 2) := by decide +kernel
theorem dX0_insert_82 : decode cX0_insert 82 = .ok (.iconst 1, 1) := by decide +kernel
theorem dX0_insert_83 : decode cX0_insert 83 = .ok (.isub, 1) := by decide +kernel
theorem dX0_insert_84 : decode cX0_insert 84 = .ok (.laload, 1) := by decide +kernel
theorem dX0_insert_85 : decode cX0_insert 85 = .ok (.lastore, 1) := by decide +kernel
theorem dX0_insert_86 : decode cX0_insert 86 = .ok (.iinc 4 (-1), 3) := by decide +kernel
theorem dX0_insert_89 : decode cX0_insert 89 = .ok (.goto (-25), 3) := by decide +kernel
theorem dX0_insert_92 : decode cX0_insert 92 = .ok (.aload_n 0, 1) := by decide +kernel
theorem dX0_insert_93 : decode cX0_insert 93 = .ok (.getfield 22, 3) := by decide +kernel
theorem dX0_insert_96 : decode cX0_insert 96 = .ok (.iload_n 3, 1) := by decide +kernel
theorem dX0_insert_97 : decode cX0_insert 97 = .ok (.lload_n 1, 1) := by decide +kernel
theorem dX0_insert_98 : decode cX0_insert 98 = .ok (.lastore, 1) := by decide +kernel
theorem dX0_insert_99 : decode cX0_insert 99 = .ok (.aload_n 0, 1) := by decide +kernel
theorem dX0_insert_100 : decode cX0_insert 100 = .ok (.dup, 1) := by decide +kernel
theorem dX0_insert_101 : decode cX0_insert 101 = .ok (.getfield 29, 3) := by decide +kernel
theorem dX0_insert_104 : decode cX0_insert 104 = .ok (.iconst 1, 1) := by decide +kernel
theorem dX0_insert_105 : decode cX0_insert 105 = .ok (.iadd, 1) := by decide +kernel
theorem dX0_insert_106 : decode cX0_insert 106 = .ok (.putfield 29, 3) := by decide +kernel
theorem dX0_insert_109 : decode cX0_insert 109 = .ok (.return_, 1) := by decide +kernel
theorem dX0_countQuantities_0 : decode cX0_countQuantities 0 = .ok (.aload_n 0, 1) := by decide +kernel
theorem dX0_countQuantities_1 : decode cX0_countQuantities 1 = .ok (.getfield 25, 3) := by decide +kernel
theorem dX0_countQuantities_4 : decode cX0_countQuantities 4 = .ok (.iconst 0, 1) := by decide +kernel
theorem dX0_countQuantities_5 : decode cX0_countQuantities 5 = .ok (.invokestatic 85, 3) := by decide +kernel
theorem dX0_countQuantities_8 : decode cX0_countQuantities 8 = .ok (.iconst 0, 1) := by decide +kernel
theorem dX0_countQuantities_9 : decode cX0_countQuantities 9 = .ok (.istore_n 1, 1) := by decide +kernel
theorem dX0_countQuantities_10 : decode cX0_countQuantities 10 = .ok (.iload_n 1, 1) := by decide +kernel
theorem dX0_countQuantities_11 : decode cX0_countQuantities 11 = .ok (.aload_n 0, 1) := by decide +kernel
theorem dX0_countQuantities_12 : decode cX0_countQuantities 12 = .ok (.getfield 36, 3) := by decide +kernel
theorem dX0_countQuantities_15 : decode cX0_countQuantities 15 = .ok (.if_icmp .ge 85, 3) := by decide +kernel
theorem dX0_countQuantities_18 : decode cX0_countQuantities 18 = .ok (.iconst 0, 1) := by decide +kernel
theorem dX0_countQuantities_19 : decode cX0_countQuantities 19 = .ok (.istore_n 2, 1) := by decide +kernel
theorem dX0_countQuantities_20 : decode cX0_countQuantities 20 = .ok (.iconst 0, 1) := by decide +kernel
theorem dX0_countQuantities_21 : decode cX0_countQuantities 21 = .ok (.istore_n 3, 1) := by decide +kernel
theorem dX0_countQuantities_22 : decode cX0_countQuantities 22 = .ok (.iload_n 3, 1) := by decide +kernel
theorem dX0_countQuantities_23 : decode cX0_countQuantities 23 = .ok (.aload_n 0, 1) := by decide +kernel
theorem dX0_countQuantities_24 : decode cX0_countQuantities 24 = .ok (.getfield 29, 3) := by decide +kernel
theorem dX0_countQuantities_27 : decode cX0_countQuantities 27 = .ok (.iconst 1, 1) := by decide +kernel
theorem dX0_countQuantities_28 : decode cX0_countQuantities 28 = .ok (.isub, 1) := by decide +kernel
theorem dX0_countQuantities_29 : decode cX0_countQuantities 29 = .ok (.if_icmp .ge 65, 3) := by decide +kernel
theorem dX0_countQuantities_32 : decode cX0_countQuantities 32 = .ok (.aload_n 0, 1) := by decide +kernel
theorem dX0_countQuantities_33 : decode cX0_countQuantities 33 = .ok (.getfield 22, 3) := by decide +kernel
theorem dX0_countQuantities_36 : decode cX0_countQuantities 36 = .ok (.iload_n 3, 1) := by decide +kernel
theorem dX0_countQuantities_37 : decode cX0_countQuantities 37 = .ok (.laload, 1) := by decide +kernel
theorem dX0_countQuantities_38 : decode cX0_countQuantities 38 = .ok (.aload_n 0, 1) := by decide +kernel
theorem dX0_countQuantities_39 : decode cX0_countQuantities 39 = .ok (.getfield 9, 3) := by decide +kernel
theorem dX0_countQuantities_42 : decode cX0_countQuantities 42 = .ok (.iload_n 1, 1) := by decide +kernel
theorem dX0_countQuantities_43 : decode cX0_countQuantities 43 = .ok (.laload, 1) := by decide +kernel
theorem dX0_countQuantities_44 : decode cX0_countQuantities 44 = .ok (.lcmp, 1) := by decide +kernel
theorem dX0_countQuantities_45 : decode cX0_countQuantities 45 = .ok (.ifCond .eq 23, 3) := by decide +kernel
theorem dX0_countQuantities_48 : decode cX0_countQuantities 48 = .ok (.iload_n 2, 1) := by decide +kernel
theorem dX0_countQuantities_49 : decode cX0_countQuantities 49 = .ok (.ifCond .eq 23, 3) := by decide +kernel
theorem dX0_countQuantities_52 : decode cX0_countQuantities 52 = .ok (.aload_n 0, 1) := by decide +kernel
theorem dX0_countQuantities_53 : decode cX0_countQuantities 53 = .ok (.getfield 22, 3) := by decide +kernel
theorem dX0_countQuantities_56 : decode cX0_countQuantities 56 = .ok (.iload_n 3, 1) := by decide +kernel
theorem dX0_countQuantities_57 : decode cX0_countQuantities 57 = .ok (.laload, 1) := by decide +kernel
theorem dX0_countQuantities_58 : decode cX0_countQuantities 58 = .ok (.aload_n 0, 1) := by decide +kernel
theorem dX0_countQuantities_59 : decode cX0_countQuantities 59 = .ok (.getfield 15, 3) := by decide +kernel
theorem dX0_countQuantities_62 : decode cX0_countQuantities 62 = .ok (.iload_n 1, 1) := by decide +kernel
theorem dX0_countQuantities_63 : decode cX0_countQuantities 63 = .ok (.laload, 1) := by decide +kernel
theorem dX0_countQuantities_64 : decode cX0_countQuantities 64 = .ok (.lcmp, 1) := by decide +kernel
theorem dX0_countQuantities_65 : decode cX0_countQuantities 65 = .ok (.ifCond .eq 7, 3) := by decide +kernel
theorem dX0_countQuantities_68 : decode cX0_countQuantities 68 = .ok (.iconst 1, 1) := by decide +kernel
theorem dX0_countQuantities_69 : decode cX0_countQuantities 69 = .ok (.goto 4, 3) := by decide +kernel
theorem dX0_countQuantities_72 : decode cX0_countQuantities 72 = .ok (.iconst 0, 1) := by decide +kernel
theorem dX0_countQuantities_73 : decode cX0_countQuantities 73 = .ok (.istore_n 2, 1) := by decide +kernel
theorem dX0_countQuantities_74 : decode cX0_countQuantities 74 = .ok (.iload_n 2, 1) := by decide +kernel
theorem dX0_countQuantities_75 : decode cX0_countQuantities 75 = .ok (.ifCond .eq 13, 3) := by decide +kernel
theorem dX0_countQuantities_78 : decode cX0_countQuantities 78 = .ok (.aload_n 0, 1) := by decide +kernel
theorem dX0_countQuantities_79 : decode cX0_countQuantities 79 = .ok (.getfield 25, 3) := by decide +kernel
theorem dX0_countQuantities_82 : decode cX0_countQuantities 82 = .ok (.iload_n 3, 1) := by decide +kernel
theorem dX0_countQuantities_83 : decode cX0_countQuantities 83 = .ok (.dup2, 1) := by decide +kernel
theorem dX0_countQuantities_84 : decode cX0_countQuantities 84 = .ok (.iaload, 1) := by decide +kernel
theorem dX0_countQuantities_85 : decode cX0_countQuantities 85 = .ok (.iconst 1, 1) := by decide +kernel
theorem dX0_countQuantities_86 : decode cX0_countQuantities 86 = .ok (.iadd, 1) := by decide +kernel
theorem dX0_countQuantities_87 : decode cX0_countQuantities 87 = .ok (.iastore, 1) := by decide +kernel
theorem dX0_countQuantities_88 : decode cX0_countQuantities 88 = .ok (.iinc 3 1, 3) := by decide +kernel
theorem dX0_countQuantities_91 : decode cX0_countQuantities 91 = .ok (.goto (-69), 3) := by decide +kernel
theorem dX0_countQuantities_94 : decode cX0_countQuantities 94 = .ok (.iinc 1 1, 3) := by decide +kernel
theorem dX0_countQuantities_97 : decode cX0_countQuantities 97 = .ok (.goto (-87), 3) := by decide +kernel
theorem dX0_countQuantities_100 : decode cX0_countQuantities 100 = .ok (.return_, 1) := by decide +kernel
theorem dX0_bare_0 : decode cX0_bare 0 = .ok (.lconst 0, 1) := by decide +kernel
theorem dX0_bare_1 : decode cX0_bare 1 = .ok (.lstore_n 1, 1) := by decide +kernel
theorem dX0_bare_2 : decode cX0_bare 2 = .ok (.iconst 0, 1) := by decide +kernel
theorem dX0_bare_3 : decode cX0_bare 3 = .ok (.istore_n 3, 1) := by decide +kernel
theorem dX0_bare_4 : decode cX0_bare 4 = .ok (.iload_n 3, 1) := by decide +kernel
theorem dX0_bare_5 : decode cX0_bare 5 = .ok (.aload_n 0, 1) := by decide +kernel
theorem dX0_bare_6 : decode cX0_bare 6 = .ok (.getfield 29, 3) := by decide +kernel
theorem dX0_bare_9 : decode cX0_bare 9 = .ok (.iconst 1, 1) := by decide +kernel
theorem dX0_bare_10 : decode cX0_bare 10 = .ok (.isub, 1) := by decide +kernel
theorem dX0_bare_11 : decode cX0_bare 11 = .ok (.if_icmp .ge 24, 3) := by decide +kernel
theorem dX0_bare_14 : decode cX0_bare 14 = .ok (.aload_n 0, 1) := by decide +kernel
theorem dX0_bare_15 : decode cX0_bare 15 = .ok (.getfield 25, 3) := by decide +kernel
theorem dX0_bare_18 : decode cX0_bare 18 = .ok (.iload_n 3, 1) := by decide +kernel
theorem dX0_bare_19 : decode cX0_bare 19 = .ok (.iaload, 1) := by decide +kernel
theorem dX0_bare_20 : decode cX0_bare 20 = .ok (.ifCond .ne 9, 3) := by decide +kernel
theorem dX0_bare_23 : decode cX0_bare 23 = .ok (.lload_n 1, 1) := by decide +kernel
theorem dX0_bare_24 : decode cX0_bare 24 = .ok (.lconst 1, 1) := by decide +kernel
theorem dX0_bare_25 : decode cX0_bare 25 = .ok (.iload_n 3, 1) := by decide +kernel
theorem dX0_bare_26 : decode cX0_bare 26 = .ok (.lshl, 1) := by decide +kernel
theorem dX0_bare_27 : decode cX0_bare 27 = .ok (.lor, 1) := by decide +kernel
theorem dX0_bare_28 : decode cX0_bare 28 = .ok (.lstore_n 1, 1) := by decide +kernel
theorem dX0_bare_29 : decode cX0_bare 29 = .ok (.iinc 3 1, 3) := by decide +kernel
theorem dX0_bare_32 : decode cX0_bare 32 = .ok (.goto (-28), 3) := by decide +kernel
theorem dX0_bare_35 : decode cX0_bare 35 = .ok (.lload_n 1, 1) := by decide +kernel
theorem dX0_bare_36 : decode cX0_bare 36 = .ok (.lreturn, 1) := by decide +kernel
theorem dX1_init_0 : decode cX1_init 0 = .ok (.aload_n 0, 1) := by decide +kernel
theorem dX1_init_1 : decode cX1_init 1 = .ok (.invokespecial 3, 3) := by decide +kernel
theorem dX1_init_4 : decode cX1_init 4 = .ok (.aload_n 0, 1) := by decide +kernel
theorem dX1_init_5 : decode cX1_init 5 = .ok (.sipush 256, 3) := by decide +kernel
theorem dX1_init_8 : decode cX1_init 8 = .ok (.newarray .int, 2) := by decide +kernel
theorem dX1_init_10 : decode cX1_init 10 = .ok (.putfield 9, 3) := by decide +kernel
theorem dX1_init_13 : decode cX1_init 13 = .ok (.aload_n 0, 1) := by decide +kernel
theorem dX1_init_14 : decode cX1_init 14 = .ok (.sipush 256, 3) := by decide +kernel
theorem dX1_init_17 : decode cX1_init 17 = .ok (.newarray .int, 2) := by decide +kernel
theorem dX1_init_19 : decode cX1_init 19 = .ok (.putfield 15, 3) := by decide +kernel
theorem dX1_init_22 : decode cX1_init 22 = .ok (.aload_n 0, 1) := by decide +kernel
theorem dX1_init_23 : decode cX1_init 23 = .ok (.bipush 80, 2) := by decide +kernel
theorem dX1_init_25 : decode cX1_init 25 = .ok (.newarray .int, 2) := by decide +kernel
theorem dX1_init_27 : decode cX1_init 27 = .ok (.putfield 18, 3) := by decide +kernel
theorem dX1_init_30 : decode cX1_init 30 = .ok (.aload_n 0, 1) := by decide +kernel
theorem dX1_init_31 : decode cX1_init 31 = .ok (.bipush 80, 2) := by decide +kernel
theorem dX1_init_33 : decode cX1_init 33 = .ok (.newarray .int, 2) := by decide +kernel
theorem dX1_init_35 : decode cX1_init 35 = .ok (.putfield 21, 3) := by decide +kernel
theorem dX1_init_38 : decode cX1_init 38 = .ok (.aload_n 0, 1) := by decide +kernel
theorem dX1_init_39 : decode cX1_init 39 = .ok (.bipush 80, 2) := by decide +kernel
theorem dX1_init_41 : decode cX1_init 41 = .ok (.newarray .int, 2) := by decide +kernel
theorem dX1_init_43 : decode cX1_init 43 = .ok (.putfield 24, 3) := by decide +kernel
theorem dX1_init_46 : decode cX1_init 46 = .ok (.aload_n 0, 1) := by decide +kernel
theorem dX1_init_47 : decode cX1_init 47 = .ok (.bipush 80, 2) := by decide +kernel
theorem dX1_init_49 : decode cX1_init 49 = .ok (.newarray .int, 2) := by decide +kernel
theorem dX1_init_51 : decode cX1_init 51 = .ok (.putfield 27, 3) := by decide +kernel
theorem dX1_init_54 : decode cX1_init 54 = .ok (.return_, 1) := by decide +kernel
theorem dX1_has_0 : decode cX1_has 0 = .ok (.iload_n 1, 1) := by decide +kernel
theorem dX1_has_1 : decode cX1_has 1 = .ok (.ifCond .lt 15, 3) := by decide +kernel
theorem dX1_has_4 : decode cX1_has 4 = .ok (.iload_n 1, 1) := by decide +kernel
theorem dX1_has_5 : decode cX1_has 5 = .ok (.aload_n 0, 1) := by decide +kernel
theorem dX1_has_6 : decode cX1_has 6 = .ok (.getfield 30, 3) := by decide +kernel
theorem dX1_has_9 : decode cX1_has 9 = .ok (.if_icmp .ge 7, 3) := by decide +kernel
theorem dX1_has_12 : decode cX1_has 12 = .ok (.iconst 1, 1) := by decide +kernel
theorem dX1_has_13 : decode cX1_has 13 = .ok (.goto 4, 3) := by decide +kernel
theorem dX1_has_16 : decode cX1_has 16 = .ok (.iconst 0, 1) := by decide +kernel
theorem dX1_has_17 : decode cX1_has 17 = .ok (.ireturn, 1) := by decide +kernel
theorem dX1_between_0 : decode cX1_between 0 = .ok (.aload_n 0, 1) := by decide +kernel
theorem dX1_between_1 : decode cX1_between 1 = .ok (.getfield 9, 3) := by decide +kernel
theorem dX1_between_4 : decode cX1_between 4 = .ok (.iload_n 1, 1) := by decide +kernel
theorem dX1_between_5 : decode cX1_between 5 = .ok (.bipush 16, 2) := by decide +kernel
theorem dX1_between_7 : decode cX1_between 7 = .ok (.imul, 1) := by decide +kernel
theorem dX1_between_8 : decode cX1_between 8 = .ok (.iload_n 2, 1) := by decide +kernel
theorem dX1_between_9 : decode cX1_between 9 = .ok (.iadd, 1) := by decide +kernel
theorem dX1_between_10 : decode cX1_between 10 = .ok (.iaload, 1) := by decide +kernel
theorem dX1_between_11 : decode cX1_between 11 = .ok (.ireturn, 1) := by decide +kernel
theorem dX1_countAt_0 : decode cX1_countAt 0 = .ok (.iconst 0, 1) := by decide +kernel
theorem dX1_countAt_1 : decode cX1_countAt 1 = .ok (.istore_n 2, 1) := by decide +kernel
theorem dX1_countAt_2 : decode cX1_countAt 2 = .ok (.iconst 0, 1) := by decide +kernel
theorem dX1_countAt_3 : decode cX1_countAt 3 = .ok (.istore_n 3, 1) := by decide +kernel
theorem dX1_countAt_4 : decode cX1_countAt 4 = .ok (.iload_n 3, 1) := by decide +kernel
theorem dX1_countAt_5 : decode cX1_countAt 5 = .ok (.aload_n 0, 1) := by decide +kernel
theorem dX1_countAt_6 : decode cX1_countAt 6 = .ok (.getfield 30, 3) := by decide +kernel
theorem dX1_countAt_9 : decode cX1_countAt 9 = .ok (.if_icmp .ge 32, 3) := by decide +kernel
theorem dX1_countAt_12 : decode cX1_countAt 12 = .ok (.aload_n 0, 1) := by decide +kernel
theorem dX1_countAt_13 : decode cX1_countAt 13 = .ok (.getfield 18, 3) := by decide +kernel
theorem dX1_countAt_16 : decode cX1_countAt 16 = .ok (.iload_n 3, 1) := by decide +kernel
theorem dX1_countAt_17 : decode cX1_countAt 17 = .ok (.iaload, 1) := by decide +kernel
theorem dX1_countAt_18 : decode cX1_countAt 18 = .ok (.iload_n 1, 1) := by decide +kernel
theorem dX1_countAt_19 : decode cX1_countAt 19 = .ok (.if_icmp .eq 13, 3) := by decide +kernel
theorem dX1_countAt_22 : decode cX1_countAt 22 = .ok (.aload_n 0, 1) := by decide +kernel
theorem dX1_countAt_23 : decode cX1_countAt 23 = .ok (.getfield 21, 3) := by decide +kernel
theorem dX1_countAt_26 : decode cX1_countAt 26 = .ok (.iload_n 3, 1) := by decide +kernel
theorem dX1_countAt_27 : decode cX1_countAt 27 = .ok (.iaload, 1) := by decide +kernel
theorem dX1_countAt_28 : decode cX1_countAt 28 = .ok (.iload_n 1, 1) := by decide +kernel
theorem dX1_countAt_29 : decode cX1_countAt 29 = .ok (.if_icmp .ne 6, 3) := by decide +kernel
theorem dX1_countAt_32 : decode cX1_countAt 32 = .ok (.iinc 2 1, 3) := by decide +kernel
theorem dX1_countAt_35 : decode cX1_countAt 35 = .ok (.iinc 3 1, 3) := by decide +kernel
theorem dX1_countAt_38 : decode cX1_countAt 38 = .ok (.goto (-34), 3) := by decide +kernel
theorem dX1_countAt_41 : decode cX1_countAt 41 = .ok (.iload_n 2, 1) := by decide +kernel
theorem dX1_countAt_42 : decode cX1_countAt 42 = .ok (.ireturn, 1) := by decide +kernel
theorem dX1_countSort_0 : decode cX1_countSort 0 = .ok (.iconst 0, 1) := by decide +kernel
theorem dX1_countSort_1 : decode cX1_countSort 1 = .ok (.istore_n 2, 1) := by decide +kernel
theorem dX1_countSort_2 : decode cX1_countSort 2 = .ok (.iconst 0, 1) := by decide +kernel
theorem dX1_countSort_3 : decode cX1_countSort 3 = .ok (.istore_n 3, 1) := by decide +kernel
theorem dX1_countSort_4 : decode cX1_countSort 4 = .ok (.iload_n 3, 1) := by decide +kernel
theorem dX1_countSort_5 : decode cX1_countSort 5 = .ok (.aload_n 0, 1) := by decide +kernel
theorem dX1_countSort_6 : decode cX1_countSort 6 = .ok (.getfield 30, 3) := by decide +kernel
theorem dX1_countSort_9 : decode cX1_countSort 9 = .ok (.if_icmp .ge 22, 3) := by decide +kernel
theorem dX1_countSort_12 : decode cX1_countSort 12 = .ok (.aload_n 0, 1) := by decide +kernel
theorem dX1_countSort_13 : decode cX1_countSort 13 = .ok (.getfield 27, 3) := by decide +kernel
theorem dX1_countSort_16 : decode cX1_countSort 16 = .ok (.iload_n 3, 1) := by decide +kernel
theorem dX1_countSort_17 : decode cX1_countSort 17 = .ok (.iaload, 1) := by decide +kernel
theorem dX1_countSort_18 : decode cX1_countSort 18 = .ok (.iload_n 1, 1) := by decide +kernel
theorem dX1_countSort_19 : decode cX1_countSort 19 = .ok (.if_icmp .ne 6, 3) := by decide +kernel
theorem dX1_countSort_22 : decode cX1_countSort 22 = .ok (.iinc 2 1, 3) := by decide +kernel
theorem dX1_countSort_25 : decode cX1_countSort 25 = .ok (.iinc 3 1, 3) := by decide +kernel
theorem dX1_countSort_28 : decode cX1_countSort 28 = .ok (.goto (-24), 3) := by decide +kernel
theorem dX1_countSort_31 : decode cX1_countSort 31 = .ok (.iload_n 2, 1) := by decide +kernel
theorem dX1_countSort_32 : decode cX1_countSort 32 = .ok (.ireturn, 1) := by decide +kernel
theorem dX1_rebuild_0 : decode cX1_rebuild 0 = .ok (.aload_n 0, 1) := by decide +kernel
theorem dX1_rebuild_1 : decode cX1_rebuild 1 = .ok (.getfield 9, 3) := by decide +kernel
theorem dX1_rebuild_4 : decode cX1_rebuild 4 = .ok (.bipush (-9), 2) := by decide +kernel
theorem dX1_rebuild_6 : decode cX1_rebuild 6 = .ok (.invokestatic 34, 3) := by decide +kernel
theorem dX1_rebuild_9 : decode cX1_rebuild 9 = .ok (.aload_n 0, 1) := by decide +kernel
theorem dX1_rebuild_10 : decode cX1_rebuild 10 = .ok (.getfield 15, 3) := by decide +kernel
theorem dX1_rebuild_13 : decode cX1_rebuild 13 = .ok (.iconst 0, 1) := by decide +kernel
theorem dX1_rebuild_14 : decode cX1_rebuild 14 = .ok (.invokestatic 34, 3) := by decide +kernel
theorem dX1_rebuild_17 : decode cX1_rebuild 17 = .ok (.iconst 0, 1) := by decide +kernel
theorem dX1_rebuild_18 : decode cX1_rebuild 18 = .ok (.istore_n 3, 1) := by decide +kernel
theorem dX1_rebuild_19 : decode cX1_rebuild 19 = .ok (.iload_n 3, 1) := by decide +kernel
theorem dX1_rebuild_20 : decode cX1_rebuild 20 = .ok (.aload_n 1, 1) := by decide +kernel
theorem dX1_rebuild_21 : decode cX1_rebuild 21 = .ok (.getfield 40, 3) := by decide +kernel
theorem dX1_rebuild_24 : decode cX1_rebuild 24 = .ok (.if_icmp .ge 57, 3) := by decide +kernel
theorem dX1_rebuild_27 : decode cX1_rebuild 27 = .ok (.aload_n 0, 1) := by decide +kernel
theorem dX1_rebuild_28 : decode cX1_rebuild 28 = .ok (.aload_n 1, 1) := by decide +kernel
theorem dX1_rebuild_29 : decode cX1_rebuild 29 = .ok (.iload_n 3, 1) := by decide +kernel
theorem dX1_rebuild_30 : decode cX1_rebuild 30 = .ok (.iconst 0, 1) := by decide +kernel
theorem dX1_rebuild_31 : decode cX1_rebuild 31 = .ok (.invokevirtual 45, 3) := by decide +kernel
theorem dX1_rebuild_34 : decode cX1_rebuild 34 = .ok (.aload_n 1, 1) := by decide +kernel
theorem dX1_rebuild_35 : decode cX1_rebuild 35 = .ok (.iload_n 3, 1) := by decide +kernel
theorem dX1_rebuild_36 : decode cX1_rebuild 36 = .ok (.iconst 1, 1) := by decide +kernel
theorem dX1_rebuild_37 : decode cX1_rebuild 37 = .ok (.invokevirtual 45, 3) := by decide +kernel
theorem dX1_rebuild_40 : decode cX1_rebuild 40 = .ok (.invokevirtual 49, 3) := by decide +kernel
theorem dX1_rebuild_43 : decode cX1_rebuild 43 = .ok (.aload_n 0, 1) := by decide +kernel
theorem dX1_rebuild_44 : decode cX1_rebuild 44 = .ok (.aload_n 1, 1) := by decide +kernel
theorem dX1_rebuild_45 : decode cX1_rebuild 45 = .ok (.iload_n 3, 1) := by decide +kernel
theorem dX1_rebuild_46 : decode cX1_rebuild 46 = .ok (.iconst 1, 1) := by decide +kernel
theorem dX1_rebuild_47 : decode cX1_rebuild 47 = .ok (.invokevirtual 45, 3) := by decide +kernel
theorem dX1_rebuild_50 : decode cX1_rebuild 50 = .ok (.aload_n 1, 1) := by decide +kernel
theorem dX1_rebuild_51 : decode cX1_rebuild 51 = .ok (.iload_n 3, 1) := by decide +kernel
theorem dX1_rebuild_52 : decode cX1_rebuild 52 = .ok (.iconst 2, 1) := by decide +kernel
theorem dX1_rebuild_53 : decode cX1_rebuild 53 = .ok (.invokevirtual 45, 3) := by decide +kernel
theorem dX1_rebuild_56 : decode cX1_rebuild 56 = .ok (.invokevirtual 49, 3) := by decide +kernel
theorem dX1_rebuild_59 : decode cX1_rebuild 59 = .ok (.aload_n 0, 1) := by decide +kernel
theorem dX1_rebuild_60 : decode cX1_rebuild 60 = .ok (.aload_n 1, 1) := by decide +kernel
theorem dX1_rebuild_61 : decode cX1_rebuild 61 = .ok (.iload_n 3, 1) := by decide +kernel
theorem dX1_rebuild_62 : decode cX1_rebuild 62 = .ok (.iconst 2, 1) := by decide +kernel
theorem dX1_rebuild_63 : decode cX1_rebuild 63 = .ok (.invokevirtual 45, 3) := by decide +kernel
theorem dX1_rebuild_66 : decode cX1_rebuild 66 = .ok (.aload_n 1, 1) := by decide +kernel
theorem dX1_rebuild_67 : decode cX1_rebuild 67 = .ok (.iload_n 3, 1) := by decide +kernel
theorem dX1_rebuild_68 : decode cX1_rebuild 68 = .ok (.iconst 0, 1) := by decide +kernel
theorem dX1_rebuild_69 : decode cX1_rebuild 69 = .ok (.invokevirtual 45, 3) := by decide +kernel
theorem dX1_rebuild_72 : decode cX1_rebuild 72 = .ok (.invokevirtual 49, 3) := by decide +kernel
theorem dX1_rebuild_75 : decode cX1_rebuild 75 = .ok (.iinc 3 1, 3) := by decide +kernel
theorem dX1_rebuild_78 : decode cX1_rebuild 78 = .ok (.goto (-59), 3) := by decide +kernel
theorem dX1_rebuild_81 : decode cX1_rebuild 81 = .ok (.aload_n 0, 1) := by decide +kernel
theorem dX1_rebuild_82 : decode cX1_rebuild 82 = .ok (.iconst 0, 1) := by decide +kernel
theorem dX1_rebuild_83 : decode cX1_rebuild 83 = .ok (.putfield 30, 3) := by decide +kernel
theorem dX1_rebuild_86 : decode cX1_rebuild 86 = .ok (.iconst 0, 1) := by decide +kernel
theorem dX1_rebuild_87 : decode cX1_rebuild 87 = .ok (.istore_n 3, 1) := by decide +kernel
theorem dX1_rebuild_88 : decode cX1_rebuild 88 = .ok (.iload_n 3, 1) := by decide +kernel
theorem dX1_rebuild_89 : decode cX1_rebuild 89 = .ok (.aload_n 1, 1) := by decide +kernel
theorem dX1_rebuild_90 : decode cX1_rebuild 90 = .ok (.getfield 53, 3) := by decide +kernel
theorem dX1_rebuild_93 : decode cX1_rebuild 93 = .ok (.if_icmp .ge 70, 3) := by decide +kernel
theorem dX1_rebuild_96 : decode cX1_rebuild 96 = .ok (.iload_n 3, 1) := by decide +kernel
theorem dX1_rebuild_97 : decode cX1_rebuild 97 = .ok (.iconst 1, 1) := by decide +kernel
theorem dX1_rebuild_98 : decode cX1_rebuild 98 = .ok (.iadd, 1) := by decide +kernel
theorem dX1_rebuild_99 : decode cX1_rebuild 99 = .ok (.istore 4, 2) := by decide +kernel
theorem dX1_rebuild_101 : decode cX1_rebuild 101 = .ok (.iload 4, 2) := by decide +kernel
theorem dX1_rebuild_103 : decode cX1_rebuild 103 = .ok (.aload_n 1, 1) := by decide +kernel
theorem dX1_rebuild_104 : decode cX1_rebuild 104 = .ok (.getfield 53, 3) := by decide +kernel
theorem dX1_rebuild_107 : decode cX1_rebuild 107 = .ok (.if_icmp .ge 50, 3) := by decide +kernel
theorem dX1_rebuild_110 : decode cX1_rebuild 110 = .ok (.aload_n 0, 1) := by decide +kernel
theorem dX1_rebuild_111 : decode cX1_rebuild 111 = .ok (.getfield 30, 3) := by decide +kernel
theorem dX1_rebuild_114 : decode cX1_rebuild 114 = .ok (.bipush 80, 2) := by decide +kernel
theorem dX1_rebuild_116 : decode cX1_rebuild 116 = .ok (.if_icmp .ge 35, 3) := by decide +kernel
theorem dX1_rebuild_119 : decode cX1_rebuild 119 = .ok (.aload_n 0, 1) := by decide +kernel
theorem dX1_rebuild_120 : decode cX1_rebuild 120 = .ok (.getfield 15, 3) := by decide +kernel
theorem dX1_rebuild_123 : decode cX1_rebuild 123 = .ok (.iload_n 3, 1) := by decide +kernel
theorem dX1_rebuild_124 : decode cX1_rebuild 124 = .ok (.bipush 16, 2) := by decide +kernel
theorem dX1_rebuild_126 : decode cX1_rebuild 126 = .ok (.imul, 1) := by decide +kernel
theorem dX1_rebuild_127 : decode cX1_rebuild 127 = .ok (.iload 4, 2) := by decide +kernel
theorem dX1_rebuild_129 : decode cX1_rebuild 129 = .ok (.iadd, 1) := by decide +kernel
theorem dX1_rebuild_130 : decode cX1_rebuild 130 = .ok (.iaload, 1) := by decide +kernel
theorem dX1_rebuild_131 : decode cX1_rebuild 131 = .ok (.ifCond .gt 13, 3) := by decide +kernel
theorem dX1_rebuild_134 : decode cX1_rebuild 134 = .ok (.aload_n 1, 1) := by decide +kernel
theorem dX1_rebuild_135 : decode cX1_rebuild 135 = .ok (.iload_n 3, 1) := by decide +kernel
theorem dX1_rebuild_136 : decode cX1_rebuild 136 = .ok (.iload 4, 2) := by decide +kernel
theorem dX1_rebuild_138 : decode cX1_rebuild 138 = .ok (.invokevirtual 56, 3) := by decide +kernel
theorem dX1_rebuild_141 : decode cX1_rebuild 141 = .ok (.ifCond .eq 10, 3) := by decide +kernel
theorem dX1_rebuild_144 : decode cX1_rebuild 144 = .ok (.aload_n 0, 1) := by decide +kernel
theorem dX1_rebuild_145 : decode cX1_rebuild 145 = .ok (.iload_n 3, 1) := by decide +kernel
theorem dX1_rebuild_146 : decode cX1_rebuild 146 = .ok (.iload 4, 2) := by decide +kernel
theorem dX1_rebuild_148 : decode cX1_rebuild 148 = .ok (.invokevirtual 60, 3) := by decide +kernel
theorem dX1_rebuild_151 : decode cX1_rebuild 151 = .ok (.iinc 4 1, 3) := by decide +kernel
theorem dX1_rebuild_154 : decode cX1_rebuild 154 = .ok (.goto (-53), 3) := by decide +kernel
theorem dX1_rebuild_157 : decode cX1_rebuild 157 = .ok (.iinc 3 1, 3) := by decide +kernel
theorem dX1_rebuild_160 : decode cX1_rebuild 160 = .ok (.goto (-72), 3) := by decide +kernel
theorem dX1_rebuild_163 : decode cX1_rebuild 163 = .ok (.iconst 0, 1) := by decide +kernel
theorem dX1_rebuild_164 : decode cX1_rebuild 164 = .ok (.istore_n 3, 1) := by decide +kernel
theorem dX1_rebuild_165 : decode cX1_rebuild 165 = .ok (.iload_n 3, 1) := by decide +kernel
theorem dX1_rebuild_166 : decode cX1_rebuild 166 = .ok (.aload_n 0, 1) := by decide +kernel
theorem dX1_rebuild_167 : decode cX1_rebuild 167 = .ok (.getfield 30, 3) := by decide +kernel
theorem dX1_rebuild_170 : decode cX1_rebuild 170 = .ok (.if_icmp .ge 22, 3) := by decide +kernel
theorem dX1_rebuild_173 : decode cX1_rebuild 173 = .ok (.aload_n 0, 1) := by decide +kernel
theorem dX1_rebuild_174 : decode cX1_rebuild 174 = .ok (.getfield 27, 3) := by decide +kernel
theorem dX1_rebuild_177 : decode cX1_rebuild 177 = .ok (.iload_n 3, 1) := by decide +kernel
theorem dX1_rebuild_178 : decode cX1_rebuild 178 = .ok (.aload_n 0, 1) := by decide +kernel
theorem dX1_rebuild_179 : decode cX1_rebuild 179 = .ok (.aload_n 1, 1) := by decide +kernel
theorem dX1_rebuild_180 : decode cX1_rebuild 180 = .ok (.aload_n 2, 1) := by decide +kernel
theorem dX1_rebuild_181 : decode cX1_rebuild 181 = .ok (.iload_n 3, 1) := by decide +kernel
theorem dX1_rebuild_182 : decode cX1_rebuild 182 = .ok (.invokevirtual 63, 3) := by decide +kernel
theorem dX1_rebuild_185 : decode cX1_rebuild 185 = .ok (.iastore, 1) := by decide +kernel
theorem dX1_rebuild_186 : decode cX1_rebuild 186 = .ok (.iinc 3 1, 3) := by decide +kernel
theorem dX1_rebuild_189 : decode cX1_rebuild 189 = .ok (.goto (-24), 3) := by decide +kernel
theorem dX1_rebuild_192 : decode cX1_rebuild 192 = .ok (.return_, 1) := by decide +kernel
theorem dX1_share_0 : decode cX1_share 0 = .ok (.aload_n 0, 1) := by decide +kernel
theorem dX1_share_1 : decode cX1_share 1 = .ok (.getfield 15, 3) := by decide +kernel
theorem dX1_share_4 : decode cX1_share 4 = .ok (.iload_n 1, 1) := by decide +kernel
theorem dX1_share_5 : decode cX1_share 5 = .ok (.iload_n 2, 1) := by decide +kernel
theorem dX1_share_6 : decode cX1_share 6 = .ok (.invokestatic 67, 3) := by decide +kernel
theorem dX1_share_9 : decode cX1_share 9 = .ok (.bipush 16, 2) := by decide +kernel
theorem dX1_share_11 : decode cX1_share 11 = .ok (.imul, 1) := by decide +kernel
theorem dX1_share_12 : decode cX1_share 12 = .ok (.iload_n 1, 1) := by decide +kernel
theorem dX1_share_13 : decode cX1_share 13 = .ok (.iload_n 2, 1) := by decide +kernel
theorem dX1_share_14 : decode cX1_share 14 = .ok (.invokestatic 72, 3) := by decide +kernel
theorem dX1_share_17 : decode cX1_share 17 = .ok (.iadd, 1) := by decide +kernel
theorem dX1_share_18 : decode cX1_share 18 = .ok (.dup2, 1) := by decide +kernel
theorem dX1_share_19 : decode cX1_share 19 = .ok (.iaload, 1) := by decide +kernel
theorem dX1_share_20 : decode cX1_share 20 = .ok (.iconst 1, 1) := by decide +kernel
theorem dX1_share_21 : decode cX1_share 21 = .ok (.iadd, 1) := by decide +kernel
theorem dX1_share_22 : decode cX1_share 22 = .ok (.iastore, 1) := by decide +kernel
theorem dX1_share_23 : decode cX1_share 23 = .ok (.return_, 1) := by decide +kernel
theorem dX1_append_0 : decode cX1_append 0 = .ok (.aload_n 0, 1) := by decide +kernel
theorem dX1_append_1 : decode cX1_append 1 = .ok (.getfield 9, 3) := by decide +kernel
theorem dX1_append_4 : decode cX1_append 4 = .ok (.iload_n 1, 1) := by decide +kernel
theorem dX1_append_5 : decode cX1_append 5 = .ok (.bipush 16, 2) := by decide +kernel
theorem dX1_append_7 : decode cX1_append 7 = .ok (.imul, 1) := by decide +kernel
theorem dX1_append_8 : decode cX1_append 8 = .ok (.iload_n 2, 1) := by decide +kernel
theorem dX1_append_9 : decode cX1_append 9 = .ok (.iadd, 1) := by decide +kernel
theorem dX1_append_10 : decode cX1_append 10 = .ok (.aload_n 0, 1) := by decide +kernel
theorem dX1_append_11 : decode cX1_append 11 = .ok (.getfield 30, 3) := by decide +kernel
theorem dX1_append_14 : decode cX1_append 14 = .ok (.iastore, 1) := by decide +kernel
theorem dX1_append_15 : decode cX1_append 15 = .ok (.aload_n 0, 1) := by decide +kernel
theorem dX1_append_16 : decode cX1_append 16 = .ok (.getfield 9, 3) := by decide +kernel
theorem dX1_append_19 : decode cX1_append 19 = .ok (.iload_n 2, 1) := by decide +kernel
theorem dX1_append_20 : decode cX1_append 20 = .ok (.bipush 16, 2) := by decide +kernel
theorem dX1_append_22 : decode cX1_append 22 = .ok (.imul, 1) := by decide +kernel
theorem dX1_append_23 : decode cX1_append 23 = .ok (.iload_n 1, 1) := by decide +kernel
theorem dX1_append_24 : decode cX1_append 24 = .ok (.iadd, 1) := by decide +kernel
theorem dX1_append_25 : decode cX1_append 25 = .ok (.aload_n 0, 1) := by decide +kernel
theorem dX1_append_26 : decode cX1_append 26 = .ok (.getfield 30, 3) := by decide +kernel
theorem dX1_append_29 : decode cX1_append 29 = .ok (.iastore, 1) := by decide +kernel
theorem dX1_append_30 : decode cX1_append 30 = .ok (.aload_n 0, 1) := by decide +kernel
theorem dX1_append_31 : decode cX1_append 31 = .ok (.getfield 18, 3) := by decide +kernel
theorem dX1_append_34 : decode cX1_append 34 = .ok (.aload_n 0, 1) := by decide +kernel
theorem dX1_append_35 : decode cX1_append 35 = .ok (.getfield 30, 3) := by decide +kernel
theorem dX1_append_38 : decode cX1_append 38 = .ok (.iload_n 1, 1) := by decide +kernel
theorem dX1_append_39 : decode cX1_append 39 = .ok (.iastore, 1) := by decide +kernel
theorem dX1_append_40 : decode cX1_append 40 = .ok (.aload_n 0, 1) := by decide +kernel
theorem dX1_append_41 : decode cX1_append 41 = .ok (.getfield 21, 3) := by decide +kernel
theorem dX1_append_44 : decode cX1_append 44 = .ok (.aload_n 0, 1) := by decide +kernel
theorem dX1_append_45 : decode cX1_append 45 = .ok (.getfield 30, 3) := by decide +kernel
theorem dX1_append_48 : decode cX1_append 48 = .ok (.iload_n 2, 1) := by decide +kernel
theorem dX1_append_49 : decode cX1_append 49 = .ok (.iastore, 1) := by decide +kernel
theorem dX1_append_50 : decode cX1_append 50 = .ok (.aload_n 0, 1) := by decide +kernel
theorem dX1_append_51 : decode cX1_append 51 = .ok (.getfield 24, 3) := by decide +kernel
theorem dX1_append_54 : decode cX1_append 54 = .ok (.aload_n 0, 1) := by decide +kernel
theorem dX1_append_55 : decode cX1_append 55 = .ok (.getfield 30, 3) := by decide +kernel
theorem dX1_append_58 : decode cX1_append 58 = .ok (.aload_n 0, 1) := by decide +kernel
theorem dX1_append_59 : decode cX1_append 59 = .ok (.getfield 15, 3) := by decide +kernel
theorem dX1_append_62 : decode cX1_append 62 = .ok (.iload_n 1, 1) := by decide +kernel
theorem dX1_append_63 : decode cX1_append 63 = .ok (.bipush 16, 2) := by decide +kernel
theorem dX1_append_65 : decode cX1_append 65 = .ok (.imul, 1) := by decide +kernel
theorem dX1_append_66 : decode cX1_append 66 = .ok (.iload_n 2, 1) := by decide +kernel
theorem dX1_append_67 : decode cX1_append 67 = .ok (.iadd, 1) := by decide +kernel
theorem dX1_append_68 : decode cX1_append 68 = .ok (.iaload, 1) := by decide +kernel
theorem dX1_append_69 : decode cX1_append 69 = .ok (.iastore, 1) := by decide +kernel
theorem dX1_append_70 : decode cX1_append 70 = .ok (.aload_n 0, 1) := by decide +kernel
theorem dX1_append_71 : decode cX1_append 71 = .ok (.dup, 1) := by decide +kernel
theorem dX1_append_72 : decode cX1_append 72 = .ok (.getfield 30, 3) := by decide +kernel
theorem dX1_append_75 : decode cX1_append 75 = .ok (.iconst 1, 1) := by decide +kernel
theorem dX1_append_76 : decode cX1_append 76 = .ok (.iadd, 1) := by decide +kernel
theorem dX1_append_77 : decode cX1_append 77 = .ok (.putfield 30, 3) := by decide +kernel
theorem dX1_append_80 : decode cX1_append 80 = .ok (.return_, 1) := by decide +kernel
theorem dX1_sortOf_0 : decode cX1_sortOf 0 = .ok (.aload_n 0, 1) := by decide +kernel
theorem dX1_sortOf_1 : decode cX1_sortOf 1 = .ok (.getfield 24, 3) := by decide +kernel
theorem dX1_sortOf_4 : decode cX1_sortOf 4 = .ok (.iload_n 3, 1) := by decide +kernel
theorem dX1_sortOf_5 : decode cX1_sortOf 5 = .ok (.iaload, 1) := by decide +kernel
theorem dX1_sortOf_6 : decode cX1_sortOf 6 = .ok (.ifCond .ne 5, 3) := by decide +kernel
theorem dX1_sortOf_9 : decode cX1_sortOf 9 = .ok (.iconst 0, 1) := by decide +kernel
theorem dX1_sortOf_10 : decode cX1_sortOf 10 = .ok (.ireturn, 1) := by decide +kernel
theorem dX1_sortOf_11 : decode cX1_sortOf 11 = .ok (.aload_n 1, 1) := by decide +kernel
theorem dX1_sortOf_12 : decode cX1_sortOf 12 = .ok (.aload_n 0, 1) := by decide +kernel
theorem dX1_sortOf_13 : decode cX1_sortOf 13 = .ok (.getfield 18, 3) := by decide +kernel
theorem dX1_sortOf_16 : decode cX1_sortOf 16 = .ok (.iload_n 3, 1) := by decide +kernel
theorem dX1_sortOf_17 : decode cX1_sortOf 17 = .ok (.iaload, 1) := by decide +kernel
theorem dX1_sortOf_18 : decode cX1_sortOf 18 = .ok (.aload_n 0, 1) := by decide +kernel
theorem dX1_sortOf_19 : decode cX1_sortOf 19 = .ok (.getfield 21, 3) := by decide +kernel
theorem dX1_sortOf_22 : decode cX1_sortOf 22 = .ok (.iload_n 3, 1) := by decide +kernel
theorem dX1_sortOf_23 : decode cX1_sortOf 23 = .ok (.iaload, 1) := by decide +kernel
theorem dX1_sortOf_24 : decode cX1_sortOf 24 = .ok (.iconst 0, 1) := by decide +kernel
theorem dX1_sortOf_25 : decode cX1_sortOf 25 = .ok (.invokevirtual 75, 3) := by decide +kernel
theorem dX1_sortOf_28 : decode cX1_sortOf 28 = .ok (.istore 4, 2) := by decide +kernel
theorem dX1_sortOf_30 : decode cX1_sortOf 30 = .ok (.aload_n 1, 1) := by decide +kernel
theorem dX1_sortOf_31 : decode cX1_sortOf 31 = .ok (.aload_n 0, 1) := by decide +kernel
theorem dX1_sortOf_32 : decode cX1_sortOf 32 = .ok (.getfield 18, 3) := by decide +kernel
theorem dX1_sortOf_35 : decode cX1_sortOf 35 = .ok (.iload_n 3, 1) := by decide +kernel
theorem dX1_sortOf_36 : decode cX1_sortOf 36 = .ok (.iaload, 1) := by decide +kernel
theorem dX1_sortOf_37 : decode cX1_sortOf 37 = .ok (.aload_n 0, 1) := by decide +kernel
theorem dX1_sortOf_38 : decode cX1_sortOf 38 = .ok (.getfield 21, 3) := by decide +kernel
theorem dX1_sortOf_41 : decode cX1_sortOf 41 = .ok (.iload_n 3, 1) := by decide +kernel
theorem dX1_sortOf_42 : decode cX1_sortOf 42 = .ok (.iaload, 1) := by decide +kernel
theorem dX1_sortOf_43 : decode cX1_sortOf 43 = .ok (.iload 4, 2) := by decide +kernel
theorem dX1_sortOf_45 : decode cX1_sortOf 45 = .ok (.iconst 1, 1) := by decide +kernel
theorem dX1_sortOf_46 : decode cX1_sortOf 46 = .ok (.iadd, 1) := by decide +kernel
theorem dX1_sortOf_47 : decode cX1_sortOf 47 = .ok (.invokevirtual 75, 3) := by decide +kernel
theorem dX1_sortOf_50 : decode cX1_sortOf 50 = .ok (.istore 5, 2) := by decide +kernel
theorem dX1_sortOf_52 : decode cX1_sortOf 52 = .ok (.iload 4, 2) := by decide +kernel
theorem dX1_sortOf_54 : decode cX1_sortOf 54 = .ok (.ifCond .lt 8, 3) := by decide +kernel
theorem dX1_sortOf_57 : decode cX1_sortOf 57 = .ok (.iload 5, 2) := by decide +kernel
theorem dX1_sortOf_59 : decode cX1_sortOf 59 = .ok (.ifCond .ge 5, 3) := by decide +kernel
theorem dX1_sortOf_62 : decode cX1_sortOf 62 = .ok (.iconst 1, 1) := by decide +kernel
theorem dX1_sortOf_63 : decode cX1_sortOf 63 = .ok (.ireturn, 1) := by decide +kernel
theorem dX1_sortOf_64 : decode cX1_sortOf 64 = .ok (.aload_n 0, 1) := by decide +kernel
theorem dX1_sortOf_65 : decode cX1_sortOf 65 = .ok (.getfield 24, 3) := by decide +kernel
theorem dX1_sortOf_68 : decode cX1_sortOf 68 = .ok (.iload_n 3, 1) := by decide +kernel
theorem dX1_sortOf_69 : decode cX1_sortOf 69 = .ok (.iaload, 1) := by decide +kernel
theorem dX1_sortOf_70 : decode cX1_sortOf 70 = .ok (.iconst 2, 1) := by decide +kernel
theorem dX1_sortOf_71 : decode cX1_sortOf 71 = .ok (.if_icmp .le 5, 3) := by decide +kernel
theorem dX1_sortOf_74 : decode cX1_sortOf 74 = .ok (.iconst 5, 1) := by decide +kernel
theorem dX1_sortOf_75 : decode cX1_sortOf 75 = .ok (.ireturn, 1) := by decide +kernel
theorem dX1_sortOf_76 : decode cX1_sortOf 76 = .ok (.aload_n 1, 1) := by decide +kernel
theorem dX1_sortOf_77 : decode cX1_sortOf 77 = .ok (.aload_n 2, 1) := by decide +kernel
theorem dX1_sortOf_78 : decode cX1_sortOf 78 = .ok (.iload 4, 2) := by decide +kernel
theorem dX1_sortOf_80 : decode cX1_sortOf 80 = .ok (.iload 5, 2) := by decide +kernel
theorem dX1_sortOf_82 : decode cX1_sortOf 82 = .ok (.invokestatic 79, 3) := by decide +kernel
theorem dX1_sortOf_85 : decode cX1_sortOf 85 = .ok (.ifCond .eq 5, 3) := by decide +kernel
theorem dX1_sortOf_88 : decode cX1_sortOf 88 = .ok (.iconst 2, 1) := by decide +kernel
theorem dX1_sortOf_89 : decode cX1_sortOf 89 = .ok (.ireturn, 1) := by decide +kernel
theorem dX1_sortOf_90 : decode cX1_sortOf 90 = .ok (.aload_n 2, 1) := by decide +kernel
theorem dX1_sortOf_91 : decode cX1_sortOf 91 = .ok (.getfield 83, 3) := by decide +kernel
theorem dX1_sortOf_94 : decode cX1_sortOf 94 = .ok (.iload 4, 2) := by decide +kernel
theorem dX1_sortOf_96 : decode cX1_sortOf 96 = .ok (.iaload, 1) := by decide +kernel
theorem dX1_sortOf_97 : decode cX1_sortOf 97 = .ok (.ifCond .le 7, 3) := by decide +kernel
theorem dX1_sortOf_100 : decode cX1_sortOf 100 = .ok (.iconst 1, 1) := by decide +kernel
theorem dX1_sortOf_101 : decode cX1_sortOf 101 = .ok (.goto 4, 3) := by decide +kernel
theorem dX1_sortOf_104 : decode cX1_sortOf 104 = .ok (.iconst 0, 1) := by decide +kernel
theorem dX1_sortOf_105 : decode cX1_sortOf 105 = .ok (.aload_n 2, 1) := by decide +kernel
theorem dX1_sortOf_106 : decode cX1_sortOf 106 = .ok (.getfield 83, 3) := by decide +kernel
theorem dX1_sortOf_109 : decode cX1_sortOf 109 = .ok (.iload 5, 2) := by decide +kernel
theorem dX1_sortOf_111 : decode cX1_sortOf 111 = .ok (.iaload, 1) := by decide +kernel
theorem dX1_sortOf_112 : decode cX1_sortOf 112 = .ok (.ifCond .le 7, 3) := by decide +kernel
theorem dX1_sortOf_115 : decode cX1_sortOf 115 = .ok (.iconst 1, 1) := by decide +kernel
theorem dX1_sortOf_116 : decode cX1_sortOf 116 = .ok (.goto 4, 3) := by decide +kernel
theorem dX1_sortOf_119 : decode cX1_sortOf 119 = .ok (.iconst 0, 1) := by decide +kernel
theorem dX1_sortOf_120 : decode cX1_sortOf 120 = .ok (.if_icmp .eq 7, 3) := by decide +kernel
theorem dX1_sortOf_123 : decode cX1_sortOf 123 = .ok (.iconst 3, 1) := by decide +kernel
theorem dX1_sortOf_124 : decode cX1_sortOf 124 = .ok (.goto 4, 3) := by decide +kernel
theorem dX1_sortOf_127 : decode cX1_sortOf 127 = .ok (.iconst 4, 1) := by decide +kernel
theorem dX1_sortOf_128 : decode cX1_sortOf 128 = .ok (.ireturn, 1) := by decide +kernel
theorem dX1_inOnePlane_0 : decode cX1_inOnePlane 0 = .ok (.iconst 0, 1) := by decide +kernel
theorem dX1_inOnePlane_1 : decode cX1_inOnePlane 1 = .ok (.istore 4, 2) := by decide +kernel
theorem dX1_inOnePlane_3 : decode cX1_inOnePlane 3 = .ok (.iload 4, 2) := by decide +kernel
theorem dX1_inOnePlane_5 : decode cX1_inOnePlane 5 = .ok (.iconst 3, 1) := by decide +kernel
theorem dX1_inOnePlane_6 : decode cX1_inOnePlane 6 = .ok (.if_icmp .ge 27, 3) := by decide +kernel
theorem dX1_inOnePlane_9 : decode cX1_inOnePlane 9 = .ok (.aload_n 1, 1) := by decide +kernel
theorem dX1_inOnePlane_10 : decode cX1_inOnePlane 10 = .ok (.aload_n 0, 1) := by decide +kernel
theorem dX1_inOnePlane_11 : decode cX1_inOnePlane 11 = .ok (.iload_n 2, 1) := by decide +kernel
theorem dX1_inOnePlane_12 : decode cX1_inOnePlane 12 = .ok (.aload_n 0, 1) := by decide +kernel
theorem dX1_inOnePlane_13 : decode cX1_inOnePlane 13 = .ok (.iload_n 3, 1) := by decide +kernel
theorem dX1_inOnePlane_14 : decode cX1_inOnePlane 14 = .ok (.iload 4, 2) := by decide +kernel
theorem dX1_inOnePlane_16 : decode cX1_inOnePlane 16 = .ok (.invokevirtual 45, 3) := by decide +kernel
theorem dX1_inOnePlane_19 : decode cX1_inOnePlane 19 = .ok (.invokevirtual 88, 3) := by decide +kernel
theorem dX1_inOnePlane_22 : decode cX1_inOnePlane 22 = .ok (.ifCond .eq 5, 3) := by decide +kernel
theorem dX1_inOnePlane_25 : decode cX1_inOnePlane 25 = .ok (.iconst 0, 1) := by decide +kernel
theorem dX1_inOnePlane_26 : decode cX1_inOnePlane 26 = .ok (.ireturn, 1) := by decide +kernel
theorem dX1_inOnePlane_27 : decode cX1_inOnePlane 27 = .ok (.iinc 4 1, 3) := by decide +kernel
theorem dX1_inOnePlane_30 : decode cX1_inOnePlane 30 = .ok (.goto (-27), 3) := by decide +kernel
theorem dX1_inOnePlane_33 : decode cX1_inOnePlane 33 = .ok (.iconst 1, 1) := by decide +kernel
theorem dX1_inOnePlane_34 : decode cX1_inOnePlane 34 = .ok (.ireturn, 1) := by decide +kernel
theorem dX2_of_0 : decode cX2_of 0 = .ok (.iload_n 0, 1) := by decide +kernel
theorem dX2_of_1 : decode cX2_of 1 = .ok (.i2l, 1) := by decide +kernel
theorem dX2_of_2 : decode cX2_of 2 = .ok (.bipush 32, 2) := by decide +kernel
theorem dX2_of_4 : decode cX2_of 4 = .ok (.lshl, 1) := by decide +kernel
theorem dX2_of_5 : decode cX2_of 5 = .ok (.iload_n 1, 1) := by decide +kernel
theorem dX2_of_6 : decode cX2_of 6 = .ok (.i2l, 1) := by decide +kernel
theorem dX2_of_7 : decode cX2_of 7 = .ok (.lor, 1) := by decide +kernel
theorem dX2_of_8 : decode cX2_of 8 = .ok (.lreturn, 1) := by decide +kernel
theorem dX2_part_0 : decode cX2_part 0 = .ok (.iload_n 2, 1) := by decide +kernel
theorem dX2_part_1 : decode cX2_part 1 = .ok (.ifCond .ne 11, 3) := by decide +kernel
theorem dX2_part_4 : decode cX2_part 4 = .ok (.lload_n 0, 1) := by decide +kernel
theorem dX2_part_5 : decode cX2_part 5 = .ok (.bipush 32, 2) := by decide +kernel
theorem dX2_part_7 : decode cX2_part 7 = .ok (.lshr, 1) := by decide +kernel
theorem dX2_part_8 : decode cX2_part 8 = .ok (.l2i, 1) := by decide +kernel
theorem dX2_part_9 : decode cX2_part 9 = .ok (.goto 5, 3) := by decide +kernel
theorem dX2_part_12 : decode cX2_part 12 = .ok (.lload_n 0, 1) := by decide +kernel
theorem dX2_part_13 : decode cX2_part 13 = .ok (.l2i, 1) := by decide +kernel
theorem dX2_part_14 : decode cX2_part 14 = .ok (.ireturn, 1) := by decide +kernel
theorem dX2_less_0 : decode cX2_less 0 = .ok (.lload_n 0, 1) := by decide +kernel
theorem dX2_less_1 : decode cX2_less 1 = .ok (.bipush 32, 2) := by decide +kernel
theorem dX2_less_3 : decode cX2_less 3 = .ok (.lshr, 1) := by decide +kernel
theorem dX2_less_4 : decode cX2_less 4 = .ok (.lload_n 2, 1) := by decide +kernel
theorem dX2_less_5 : decode cX2_less 5 = .ok (.l2i, 1) := by decide +kernel
theorem dX2_less_6 : decode cX2_less 6 = .ok (.i2l, 1) := by decide +kernel
theorem dX2_less_7 : decode cX2_less 7 = .ok (.lmul, 1) := by decide +kernel
theorem dX2_less_8 : decode cX2_less 8 = .ok (.lload_n 2, 1) := by decide +kernel
theorem dX2_less_9 : decode cX2_less 9 = .ok (.bipush 32, 2) := by decide +kernel
theorem dX2_less_11 : decode cX2_less 11 = .ok (.lshr, 1) := by decide +kernel
theorem dX2_less_12 : decode cX2_less 12 = .ok (.lload_n 0, 1) := by decide +kernel
theorem dX2_less_13 : decode cX2_less 13 = .ok (.l2i, 1) := by decide +kernel
theorem dX2_less_14 : decode cX2_less 14 = .ok (.i2l, 1) := by decide +kernel
theorem dX2_less_15 : decode cX2_less 15 = .ok (.lmul, 1) := by decide +kernel
theorem dX2_less_16 : decode cX2_less 16 = .ok (.lcmp, 1) := by decide +kernel
theorem dX2_less_17 : decode cX2_less 17 = .ok (.ifCond .ge 7, 3) := by decide +kernel
theorem dX2_less_20 : decode cX2_less 20 = .ok (.iconst 1, 1) := by decide +kernel
theorem dX2_less_21 : decode cX2_less 21 = .ok (.goto 4, 3) := by decide +kernel
theorem dX2_less_24 : decode cX2_less 24 = .ok (.iconst 0, 1) := by decide +kernel
theorem dX2_less_25 : decode cX2_less 25 = .ok (.ireturn, 1) := by decide +kernel
theorem dX2_lowest_0 : decode cX2_lowest 0 = .ok (.lload_n 0, 1) := by decide +kernel
theorem dX2_lowest_1 : decode cX2_lowest 1 = .ok (.bipush 32, 2) := by decide +kernel
theorem dX2_lowest_3 : decode cX2_lowest 3 = .ok (.lshr, 1) := by decide +kernel
theorem dX2_lowest_4 : decode cX2_lowest 4 = .ok (.l2i, 1) := by decide +kernel
theorem dX2_lowest_5 : decode cX2_lowest 5 = .ok (.istore_n 2, 1) := by decide +kernel
theorem dX2_lowest_6 : decode cX2_lowest 6 = .ok (.lload_n 0, 1) := by decide +kernel
theorem dX2_lowest_7 : decode cX2_lowest 7 = .ok (.l2i, 1) := by decide +kernel
theorem dX2_lowest_8 : decode cX2_lowest 8 = .ok (.istore_n 3, 1) := by decide +kernel
theorem dX2_lowest_9 : decode cX2_lowest 9 = .ok (.iload_n 3, 1) := by decide +kernel
theorem dX2_lowest_10 : decode cX2_lowest 10 = .ok (.istore 4, 2) := by decide +kernel
theorem dX2_lowest_12 : decode cX2_lowest 12 = .ok (.iload_n 2, 1) := by decide +kernel
theorem dX2_lowest_13 : decode cX2_lowest 13 = .ok (.istore 5, 2) := by decide +kernel
theorem dX2_lowest_15 : decode cX2_lowest 15 = .ok (.iconst 0, 1) := by decide +kernel
theorem dX2_lowest_16 : decode cX2_lowest 16 = .ok (.istore 6, 2) := by decide +kernel
theorem dX2_lowest_18 : decode cX2_lowest 18 = .ok (.iload 6, 2) := by decide +kernel
theorem dX2_lowest_20 : decode cX2_lowest 20 = .ok (.bipush 64, 2) := by decide +kernel
theorem dX2_lowest_22 : decode cX2_lowest 22 = .ok (.if_icmp .ge 29, 3) := by decide +kernel
theorem dX2_lowest_25 : decode cX2_lowest 25 = .ok (.iload 5, 2) := by decide +kernel
theorem dX2_lowest_27 : decode cX2_lowest 27 = .ok (.ifCond .eq 24, 3) := by decide +kernel
theorem dX2_lowest_30 : decode cX2_lowest 30 = .ok (.iload 4, 2) := by decide +kernel
theorem dX2_lowest_32 : decode cX2_lowest 32 = .ok (.iload 5, 2) := by decide +kernel
theorem dX2_lowest_34 : decode cX2_lowest 34 = .ok (.irem, 1) := by decide +kernel
theorem dX2_lowest_35 : decode cX2_lowest 35 = .ok (.istore 7, 2) := by decide +kernel
theorem dX2_lowest_37 : decode cX2_lowest 37 = .ok (.iload 5, 2) := by decide +kernel
theorem dX2_lowest_39 : decode cX2_lowest 39 = .ok (.istore 4, 2) := by decide +kernel
theorem dX2_lowest_41 : decode cX2_lowest 41 = .ok (.iload 7, 2) := by decide +kernel
theorem dX2_lowest_43 : decode cX2_lowest 43 = .ok (.istore 5, 2) := by decide +kernel
theorem dX2_lowest_45 : decode cX2_lowest 45 = .ok (.iinc 6 1, 3) := by decide +kernel
theorem dX2_lowest_48 : decode cX2_lowest 48 = .ok (.goto (-30), 3) := by decide +kernel
theorem dX2_lowest_51 : decode cX2_lowest 51 = .ok (.iload 4, 2) := by decide +kernel
theorem dX2_lowest_53 : decode cX2_lowest 53 = .ok (.iconst 1, 1) := by decide +kernel
theorem dX2_lowest_54 : decode cX2_lowest 54 = .ok (.if_icmp .le 20, 3) := by decide +kernel
theorem dX2_lowest_57 : decode cX2_lowest 57 = .ok (.iload_n 2, 1) := by decide +kernel
theorem dX2_lowest_58 : decode cX2_lowest 58 = .ok (.iload 4, 2) := by decide +kernel
theorem dX2_lowest_60 : decode cX2_lowest 60 = .ok (.idiv, 1) := by decide +kernel
theorem dX2_lowest_61 : decode cX2_lowest 61 = .ok (.i2l, 1) := by decide +kernel
theorem dX2_lowest_62 : decode cX2_lowest 62 = .ok (.bipush 32, 2) := by decide +kernel
theorem dX2_lowest_64 : decode cX2_lowest 64 = .ok (.lshl, 1) := by decide +kernel
theorem dX2_lowest_65 : decode cX2_lowest 65 = .ok (.iload_n 3, 1) := by decide +kernel
theorem dX2_lowest_66 : decode cX2_lowest 66 = .ok (.iload 4, 2) := by decide +kernel
theorem dX2_lowest_68 : decode cX2_lowest 68 = .ok (.idiv, 1) := by decide +kernel
theorem dX2_lowest_69 : decode cX2_lowest 69 = .ok (.i2l, 1) := by decide +kernel
theorem dX2_lowest_70 : decode cX2_lowest 70 = .ok (.lor, 1) := by decide +kernel
theorem dX2_lowest_71 : decode cX2_lowest 71 = .ok (.goto 4, 3) := by decide +kernel
theorem dX2_lowest_74 : decode cX2_lowest 74 = .ok (.lload_n 0, 1) := by decide +kernel
theorem dX2_lowest_75 : decode cX2_lowest 75 = .ok (.lreturn, 1) := by decide +kernel
theorem dX3_init_0 : decode cX3_init 0 = .ok (.aload_n 0, 1) := by decide +kernel
theorem dX3_init_1 : decode cX3_init 1 = .ok (.invokespecial 1, 3) := by decide +kernel
theorem dX3_init_4 : decode cX3_init 4 = .ok (.return_, 1) := by decide +kernel
theorem dX3_find_0 : decode cX3_find 0 = .ok (.aload_n 3, 1) := by decide +kernel
theorem dX3_find_1 : decode cX3_find 1 = .ok (.getfield 7, 3) := by decide +kernel
theorem dX3_find_4 : decode cX3_find 4 = .ok (.iload_n 1, 1) := by decide +kernel
theorem dX3_find_5 : decode cX3_find 5 = .ok (.iaload, 1) := by decide +kernel
theorem dX3_find_6 : decode cX3_find 6 = .ok (.istore 5, 2) := by decide +kernel
theorem dX3_find_8 : decode cX3_find 8 = .ok (.aload_n 3, 1) := by decide +kernel
theorem dX3_find_9 : decode cX3_find 9 = .ok (.getfield 13, 3) := by decide +kernel
theorem dX3_find_12 : decode cX3_find 12 = .ok (.iload_n 1, 1) := by decide +kernel
theorem dX3_find_13 : decode cX3_find 13 = .ok (.iaload, 1) := by decide +kernel
theorem dX3_find_14 : decode cX3_find 14 = .ok (.istore 6, 2) := by decide +kernel
theorem dX3_find_16 : decode cX3_find 16 = .ok (.aload_n 3, 1) := by decide +kernel
theorem dX3_find_17 : decode cX3_find 17 = .ok (.getfield 7, 3) := by decide +kernel
theorem dX3_find_20 : decode cX3_find 20 = .ok (.iload_n 2, 1) := by decide +kernel
theorem dX3_find_21 : decode cX3_find 21 = .ok (.iaload, 1) := by decide +kernel
theorem dX3_find_22 : decode cX3_find 22 = .ok (.istore 7, 2) := by decide +kernel
theorem dX3_find_24 : decode cX3_find 24 = .ok (.aload_n 3, 1) := by decide +kernel
theorem dX3_find_25 : decode cX3_find 25 = .ok (.getfield 13, 3) := by decide +kernel
theorem dX3_find_28 : decode cX3_find 28 = .ok (.iload_n 2, 1) := by decide +kernel
theorem dX3_find_29 : decode cX3_find 29 = .ok (.iaload, 1) := by decide +kernel
theorem dX3_find_30 : decode cX3_find 30 = .ok (.istore 8, 2) := by decide +kernel
theorem dX3_find_32 : decode cX3_find 32 = .ok (.aload 4, 2) := by decide +kernel
theorem dX3_find_34 : decode cX3_find 34 = .ok (.iload 7, 2) := by decide +kernel
theorem dX3_find_36 : decode cX3_find 36 = .ok (.iload 8, 2) := by decide +kernel
theorem dX3_find_38 : decode cX3_find 38 = .ok (.iload 5, 2) := by decide +kernel
theorem dX3_find_40 : decode cX3_find 40 = .ok (.invokevirtual 16, 3) := by decide +kernel
theorem dX3_find_43 : decode cX3_find 43 = .ok (.istore 9, 2) := by decide +kernel
theorem dX3_find_45 : decode cX3_find 45 = .ok (.aload 4, 2) := by decide +kernel
theorem dX3_find_47 : decode cX3_find 47 = .ok (.iload 7, 2) := by decide +kernel
theorem dX3_find_49 : decode cX3_find 49 = .ok (.iload 8, 2) := by decide +kernel
theorem dX3_find_51 : decode cX3_find 51 = .ok (.iload 6, 2) := by decide +kernel
theorem dX3_find_53 : decode cX3_find 53 = .ok (.invokevirtual 16, 3) := by decide +kernel
theorem dX3_find_56 : decode cX3_find 56 = .ok (.istore 10, 2) := by decide +kernel
theorem dX3_find_58 : decode cX3_find 58 = .ok (.iload 9, 2) := by decide +kernel
theorem dX3_find_60 : decode cX3_find 60 = .ok (.iload 10, 2) := by decide +kernel
theorem dX3_find_62 : decode cX3_find 62 = .ok (.invokestatic 22, 3) := by decide +kernel
theorem dX3_find_65 : decode cX3_find 65 = .ok (.ifCond .ne 5, 3) := by decide +kernel
theorem dX3_find_68 : decode cX3_find 68 = .ok (.iconst 0, 1) := by decide +kernel
theorem dX3_find_69 : decode cX3_find 69 = .ok (.ireturn, 1) := by decide +kernel
theorem dX3_find_70 : decode cX3_find 70 = .ok (.aload 4, 2) := by decide +kernel
theorem dX3_find_72 : decode cX3_find 72 = .ok (.iload 5, 2) := by decide +kernel
theorem dX3_find_74 : decode cX3_find 74 = .ok (.iload 6, 2) := by decide +kernel
theorem dX3_find_76 : decode cX3_find 76 = .ok (.iload 7, 2) := by decide +kernel
theorem dX3_find_78 : decode cX3_find 78 = .ok (.invokevirtual 16, 3) := by decide +kernel
theorem dX3_find_81 : decode cX3_find 81 = .ok (.istore 11, 2) := by decide +kernel
theorem dX3_find_83 : decode cX3_find 83 = .ok (.aload 4, 2) := by decide +kernel
theorem dX3_find_85 : decode cX3_find 85 = .ok (.iload 5, 2) := by decide +kernel
theorem dX3_find_87 : decode cX3_find 87 = .ok (.iload 6, 2) := by decide +kernel
theorem dX3_find_89 : decode cX3_find 89 = .ok (.iload 8, 2) := by decide +kernel
theorem dX3_find_91 : decode cX3_find 91 = .ok (.invokevirtual 16, 3) := by decide +kernel
theorem dX3_find_94 : decode cX3_find 94 = .ok (.istore 12, 2) := by decide +kernel
theorem dX3_find_96 : decode cX3_find 96 = .ok (.iload 11, 2) := by decide +kernel
theorem dX3_find_98 : decode cX3_find 98 = .ok (.iload 12, 2) := by decide +kernel
theorem dX3_find_100 : decode cX3_find 100 = .ok (.invokestatic 22, 3) := by decide +kernel
theorem dX3_find_103 : decode cX3_find 103 = .ok (.ifCond .ne 5, 3) := by decide +kernel
theorem dX3_find_106 : decode cX3_find 106 = .ok (.iconst 0, 1) := by decide +kernel
theorem dX3_find_107 : decode cX3_find 107 = .ok (.ireturn, 1) := by decide +kernel
theorem dX3_find_108 : decode cX3_find 108 = .ok (.aload_n 0, 1) := by decide +kernel
theorem dX3_find_109 : decode cX3_find 109 = .ok (.iload 9, 2) := by decide +kernel
theorem dX3_find_111 : decode cX3_find 111 = .ok (.invokestatic 28, 3) := by decide +kernel
theorem dX3_find_114 : decode cX3_find 114 = .ok (.putfield 34, 3) := by decide +kernel
theorem dX3_find_117 : decode cX3_find 117 = .ok (.aload_n 0, 1) := by decide +kernel
theorem dX3_find_118 : decode cX3_find 118 = .ok (.iload 11, 2) := by decide +kernel
theorem dX3_find_120 : decode cX3_find 120 = .ok (.invokestatic 28, 3) := by decide +kernel
theorem dX3_find_123 : decode cX3_find 123 = .ok (.putfield 38, 3) := by decide +kernel
theorem dX3_find_126 : decode cX3_find 126 = .ok (.aload_n 0, 1) := by decide +kernel
theorem dX3_find_127 : decode cX3_find 127 = .ok (.iload 9, 2) := by decide +kernel
theorem dX3_find_129 : decode cX3_find 129 = .ok (.iload 10, 2) := by decide +kernel
theorem dX3_find_131 : decode cX3_find 131 = .ok (.isub, 1) := by decide +kernel
theorem dX3_find_132 : decode cX3_find 132 = .ok (.invokestatic 28, 3) := by decide +kernel
theorem dX3_find_135 : decode cX3_find 135 = .ok (.putfield 41, 3) := by decide +kernel
theorem dX3_find_138 : decode cX3_find 138 = .ok (.aload_n 0, 1) := by decide +kernel
theorem dX3_find_139 : decode cX3_find 139 = .ok (.aload 4, 2) := by decide +kernel
theorem dX3_find_141 : decode cX3_find 141 = .ok (.getfield 44, 3) := by decide +kernel
theorem dX3_find_144 : decode cX3_find 144 = .ok (.iload 5, 2) := by decide +kernel
theorem dX3_find_146 : decode cX3_find 146 = .ok (.iaload, 1) := by decide +kernel
theorem dX3_find_147 : decode cX3_find 147 = .ok (.aload_n 0, 1) := by decide +kernel
theorem dX3_find_148 : decode cX3_find 148 = .ok (.getfield 41, 3) := by decide +kernel
theorem dX3_find_151 : decode cX3_find 151 = .ok (.aload_n 0, 1) := by decide +kernel
theorem dX3_find_152 : decode cX3_find 152 = .ok (.getfield 34, 3) := by decide +kernel
theorem dX3_find_155 : decode cX3_find 155 = .ok (.isub, 1) := by decide +kernel
theorem dX3_find_156 : decode cX3_find 156 = .ok (.imul, 1) := by decide +kernel
theorem dX3_find_157 : decode cX3_find 157 = .ok (.aload 4, 2) := by decide +kernel
theorem dX3_find_159 : decode cX3_find 159 = .ok (.getfield 44, 3) := by decide +kernel
theorem dX3_find_162 : decode cX3_find 162 = .ok (.iload 6, 2) := by decide +kernel
theorem dX3_find_164 : decode cX3_find 164 = .ok (.iaload, 1) := by decide +kernel
theorem dX3_find_165 : decode cX3_find 165 = .ok (.aload_n 0, 1) := by decide +kernel
theorem dX3_find_166 : decode cX3_find 166 = .ok (.getfield 34, 3) := by decide +kernel
theorem dX3_find_169 : decode cX3_find 169 = .ok (.imul, 1) := by decide +kernel
theorem dX3_find_170 : decode cX3_find 170 = .ok (.iadd, 1) := by decide +kernel
theorem dX3_find_171 : decode cX3_find 171 = .ok (.aload 4, 2) := by decide +kernel
theorem dX3_find_173 : decode cX3_find 173 = .ok (.getfield 44, 3) := by decide +kernel
theorem dX3_find_176 : decode cX3_find 176 = .ok (.iload 7, 2) := by decide +kernel
theorem dX3_find_178 : decode cX3_find 178 = .ok (.iaload, 1) := by decide +kernel
theorem dX3_find_179 : decode cX3_find 179 = .ok (.aload_n 0, 1) := by decide +kernel
theorem dX3_find_180 : decode cX3_find 180 = .ok (.getfield 41, 3) := by decide +kernel
theorem dX3_find_183 : decode cX3_find 183 = .ok (.aload_n 0, 1) := by decide +kernel
theorem dX3_find_184 : decode cX3_find 184 = .ok (.getfield 38, 3) := by decide +kernel
theorem dX3_find_187 : decode cX3_find 187 = .ok (.isub, 1) := by decide +kernel
theorem dX3_find_188 : decode cX3_find 188 = .ok (.imul, 1) := by decide +kernel
theorem dX3_find_189 : decode cX3_find 189 = .ok (.isub, 1) := by decide +kernel
theorem dX3_find_190 : decode cX3_find 190 = .ok (.aload 4, 2) := by decide +kernel
theorem dX3_find_192 : decode cX3_find 192 = .ok (.getfield 44, 3) := by decide +kernel
theorem dX3_find_195 : decode cX3_find 195 = .ok (.iload 8, 2) := by decide +kernel
theorem dX3_find_197 : decode cX3_find 197 = .ok (.iaload, 1) := by decide +kernel
theorem dX3_find_198 : decode cX3_find 198 = .ok (.aload_n 0, 1) := by decide +kernel
theorem dX3_find_199 : decode cX3_find 199 = .ok (.getfield 38, 3) := by decide +kernel
theorem dX3_find_202 : decode cX3_find 202 = .ok (.imul, 1) := by decide +kernel
theorem dX3_find_203 : decode cX3_find 203 = .ok (.isub, 1) := by decide +kernel
theorem dX3_find_204 : decode cX3_find 204 = .ok (.putfield 47, 3) := by decide +kernel
theorem dX3_find_207 : decode cX3_find 207 = .ok (.iconst 1, 1) := by decide +kernel
theorem dX3_find_208 : decode cX3_find 208 = .ok (.ireturn, 1) := by decide +kernel
theorem dX3_countAll_0 : decode cX3_countAll 0 = .ok (.iconst 0, 1) := by decide +kernel
theorem dX3_countAll_1 : decode cX3_countAll 1 = .ok (.istore_n 3, 1) := by decide +kernel
theorem dX3_countAll_2 : decode cX3_countAll 2 = .ok (.iconst 0, 1) := by decide +kernel
theorem dX3_countAll_3 : decode cX3_countAll 3 = .ok (.istore 4, 2) := by decide +kernel
theorem dX3_countAll_5 : decode cX3_countAll 5 = .ok (.iload 4, 2) := by decide +kernel
theorem dX3_countAll_7 : decode cX3_countAll 7 = .ok (.aload_n 1, 1) := by decide +kernel
theorem dX3_countAll_8 : decode cX3_countAll 8 = .ok (.getfield 50, 3) := by decide +kernel
theorem dX3_countAll_11 : decode cX3_countAll 11 = .ok (.if_icmp .ge 46, 3) := by decide +kernel
theorem dX3_countAll_14 : decode cX3_countAll 14 = .ok (.iload 4, 2) := by decide +kernel
theorem dX3_countAll_16 : decode cX3_countAll 16 = .ok (.iconst 1, 1) := by decide +kernel
theorem dX3_countAll_17 : decode cX3_countAll 17 = .ok (.iadd, 1) := by decide +kernel
theorem dX3_countAll_18 : decode cX3_countAll 18 = .ok (.istore 5, 2) := by decide +kernel
theorem dX3_countAll_20 : decode cX3_countAll 20 = .ok (.iload 5, 2) := by decide +kernel
theorem dX3_countAll_22 : decode cX3_countAll 22 = .ok (.aload_n 1, 1) := by decide +kernel
theorem dX3_countAll_23 : decode cX3_countAll 23 = .ok (.getfield 50, 3) := by decide +kernel
theorem dX3_countAll_26 : decode cX3_countAll 26 = .ok (.if_icmp .ge 25, 3) := by decide +kernel
theorem dX3_countAll_29 : decode cX3_countAll 29 = .ok (.aload_n 0, 1) := by decide +kernel
theorem dX3_countAll_30 : decode cX3_countAll 30 = .ok (.iload 4, 2) := by decide +kernel
theorem dX3_countAll_32 : decode cX3_countAll 32 = .ok (.iload 5, 2) := by decide +kernel
theorem dX3_countAll_34 : decode cX3_countAll 34 = .ok (.aload_n 1, 1) := by decide +kernel
theorem dX3_countAll_35 : decode cX3_countAll 35 = .ok (.aload_n 2, 1) := by decide +kernel
theorem dX3_countAll_36 : decode cX3_countAll 36 = .ok (.invokevirtual 53, 3) := by decide +kernel
theorem dX3_countAll_39 : decode cX3_countAll 39 = .ok (.ifCond .eq 6, 3) := by decide +kernel
theorem dX3_countAll_42 : decode cX3_countAll 42 = .ok (.iinc 3 1, 3) := by decide +kernel
theorem dX3_countAll_45 : decode cX3_countAll 45 = .ok (.iinc 5 1, 3) := by decide +kernel
theorem dX3_countAll_48 : decode cX3_countAll 48 = .ok (.goto (-28), 3) := by decide +kernel
theorem dX3_countAll_51 : decode cX3_countAll 51 = .ok (.iinc 4 1, 3) := by decide +kernel
theorem dX3_countAll_54 : decode cX3_countAll 54 = .ok (.goto (-49), 3) := by decide +kernel
theorem dX3_countAll_57 : decode cX3_countAll 57 = .ok (.iload_n 3, 1) := by decide +kernel
theorem dX3_countAll_58 : decode cX3_countAll 58 = .ok (.ireturn, 1) := by decide +kernel
theorem dX3_areOpposite_0 : decode cX3_areOpposite 0 = .ok (.iload_n 0, 1) := by decide +kernel
theorem dX3_areOpposite_1 : decode cX3_areOpposite 1 = .ok (.ifCond .le 7, 3) := by decide +kernel
theorem dX3_areOpposite_4 : decode cX3_areOpposite 4 = .ok (.iload_n 1, 1) := by decide +kernel
theorem dX3_areOpposite_5 : decode cX3_areOpposite 5 = .ok (.ifCond .lt 11, 3) := by decide +kernel
theorem dX3_areOpposite_8 : decode cX3_areOpposite 8 = .ok (.iload_n 0, 1) := by decide +kernel
theorem dX3_areOpposite_9 : decode cX3_areOpposite 9 = .ok (.ifCond .ge 11, 3) := by decide +kernel
theorem dX3_areOpposite_12 : decode cX3_areOpposite 12 = .ok (.iload_n 1, 1) := by decide +kernel
theorem dX3_areOpposite_13 : decode cX3_areOpposite 13 = .ok (.ifCond .le 7, 3) := by decide +kernel
theorem dX3_areOpposite_16 : decode cX3_areOpposite 16 = .ok (.iconst 1, 1) := by decide +kernel
theorem dX3_areOpposite_17 : decode cX3_areOpposite 17 = .ok (.goto 4, 3) := by decide +kernel
theorem dX3_areOpposite_20 : decode cX3_areOpposite 20 = .ok (.iconst 0, 1) := by decide +kernel
theorem dX3_areOpposite_21 : decode cX3_areOpposite 21 = .ok (.ireturn, 1) := by decide +kernel
theorem dX4_init_0 : decode cX4_init 0 = .ok (.aload_n 0, 1) := by decide +kernel
theorem dX4_init_1 : decode cX4_init 1 = .ok (.invokespecial 3, 3) := by decide +kernel
theorem dX4_init_4 : decode cX4_init 4 = .ok (.aload_n 0, 1) := by decide +kernel
theorem dX4_init_5 : decode cX4_init 5 = .ok (.bipush 16, 2) := by decide +kernel
theorem dX4_init_7 : decode cX4_init 7 = .ok (.newarray .int, 2) := by decide +kernel
theorem dX4_init_9 : decode cX4_init 9 = .ok (.putfield 9, 3) := by decide +kernel
theorem dX4_init_12 : decode cX4_init 12 = .ok (.aload_n 0, 1) := by decide +kernel
theorem dX4_init_13 : decode cX4_init 13 = .ok (.bipush 16, 2) := by decide +kernel
theorem dX4_init_15 : decode cX4_init 15 = .ok (.newarray .int, 2) := by decide +kernel
theorem dX4_init_17 : decode cX4_init 17 = .ok (.putfield 15, 3) := by decide +kernel
theorem dX4_init_20 : decode cX4_init 20 = .ok (.aload_n 0, 1) := by decide +kernel
theorem dX4_init_21 : decode cX4_init 21 = .ok (.bipush 16, 2) := by decide +kernel
theorem dX4_init_23 : decode cX4_init 23 = .ok (.newarray .int, 2) := by decide +kernel
theorem dX4_init_25 : decode cX4_init 25 = .ok (.putfield 18, 3) := by decide +kernel
theorem dX4_init_28 : decode cX4_init 28 = .ok (.aload_n 0, 1) := by decide +kernel
theorem dX4_init_29 : decode cX4_init 29 = .ok (.bipush 72, 2) := by decide +kernel
theorem dX4_init_31 : decode cX4_init 31 = .ok (.newarray .int, 2) := by decide +kernel
theorem dX4_init_33 : decode cX4_init 33 = .ok (.putfield 21, 3) := by decide +kernel
theorem dX4_init_36 : decode cX4_init 36 = .ok (.aload_n 0, 1) := by decide +kernel
theorem dX4_init_37 : decode cX4_init 37 = .ok (.bipush 16, 2) := by decide +kernel
theorem dX4_init_39 : decode cX4_init 39 = .ok (.newarray .int, 2) := by decide +kernel
theorem dX4_init_41 : decode cX4_init 41 = .ok (.putfield 24, 3) := by decide +kernel
theorem dX4_init_44 : decode cX4_init 44 = .ok (.return_, 1) := by decide +kernel
theorem dX4_hasPoint_0 : decode cX4_hasPoint 0 = .ok (.iload_n 1, 1) := by decide +kernel
theorem dX4_hasPoint_1 : decode cX4_hasPoint 1 = .ok (.ifCond .lt 15, 3) := by decide +kernel
theorem dX4_hasPoint_4 : decode cX4_hasPoint 4 = .ok (.iload_n 1, 1) := by decide +kernel
theorem dX4_hasPoint_5 : decode cX4_hasPoint 5 = .ok (.aload_n 0, 1) := by decide +kernel
theorem dX4_hasPoint_6 : decode cX4_hasPoint 6 = .ok (.getfield 27, 3) := by decide +kernel
theorem dX4_hasPoint_9 : decode cX4_hasPoint 9 = .ok (.if_icmp .ge 7, 3) := by decide +kernel
theorem dX4_hasPoint_12 : decode cX4_hasPoint 12 = .ok (.iconst 1, 1) := by decide +kernel
theorem dX4_hasPoint_13 : decode cX4_hasPoint 13 = .ok (.goto 4, 3) := by decide +kernel
theorem dX4_hasPoint_16 : decode cX4_hasPoint 16 = .ok (.iconst 0, 1) := by decide +kernel
theorem dX4_hasPoint_17 : decode cX4_hasPoint 17 = .ok (.ireturn, 1) := by decide +kernel
theorem dX4_hasFace_0 : decode cX4_hasFace 0 = .ok (.iload_n 1, 1) := by decide +kernel
theorem dX4_hasFace_1 : decode cX4_hasFace 1 = .ok (.ifCond .lt 15, 3) := by decide +kernel
theorem dX4_hasFace_4 : decode cX4_hasFace 4 = .ok (.iload_n 1, 1) := by decide +kernel
theorem dX4_hasFace_5 : decode cX4_hasFace 5 = .ok (.aload_n 0, 1) := by decide +kernel
theorem dX4_hasFace_6 : decode cX4_hasFace 6 = .ok (.getfield 31, 3) := by decide +kernel
theorem dX4_hasFace_9 : decode cX4_hasFace 9 = .ok (.if_icmp .ge 7, 3) := by decide +kernel
theorem dX4_hasFace_12 : decode cX4_hasFace 12 = .ok (.iconst 1, 1) := by decide +kernel
theorem dX4_hasFace_13 : decode cX4_hasFace 13 = .ok (.goto 4, 3) := by decide +kernel
theorem dX4_hasFace_16 : decode cX4_hasFace 16 = .ok (.iconst 0, 1) := by decide +kernel
theorem dX4_hasFace_17 : decode cX4_hasFace 17 = .ok (.ireturn, 1) := by decide +kernel
theorem dX4_cornerOf_0 : decode cX4_cornerOf 0 = .ok (.aload_n 0, 1) := by decide +kernel
theorem dX4_cornerOf_1 : decode cX4_cornerOf 1 = .ok (.getfield 21, 3) := by decide +kernel
theorem dX4_cornerOf_4 : decode cX4_cornerOf 4 = .ok (.iconst 3, 1) := by decide +kernel
theorem dX4_cornerOf_5 : decode cX4_cornerOf 5 = .ok (.iload_n 1, 1) := by decide +kernel
theorem dX4_cornerOf_6 : decode cX4_cornerOf 6 = .ok (.imul, 1) := by decide +kernel
theorem dX4_cornerOf_7 : decode cX4_cornerOf 7 = .ok (.iload_n 2, 1) := by decide +kernel
theorem dX4_cornerOf_8 : decode cX4_cornerOf 8 = .ok (.iadd, 1) := by decide +kernel
theorem dX4_cornerOf_9 : decode cX4_cornerOf 9 = .ok (.iaload, 1) := by decide +kernel
theorem dX4_cornerOf_10 : decode cX4_cornerOf 10 = .ok (.ireturn, 1) := by decide +kernel
theorem dX4_pointAt_0 : decode cX4_pointAt 0 = .ok (.iconst 0, 1) := by decide +kernel
theorem dX4_pointAt_1 : decode cX4_pointAt 1 = .ok (.istore 4, 2) := by decide +kernel
theorem dX4_pointAt_3 : decode cX4_pointAt 3 = .ok (.iload 4, 2) := by decide +kernel
theorem dX4_pointAt_5 : decode cX4_pointAt 5 = .ok (.aload_n 0, 1) := by decide +kernel
theorem dX4_pointAt_6 : decode cX4_pointAt 6 = .ok (.getfield 27, 3) := by decide +kernel
theorem dX4_pointAt_9 : decode cX4_pointAt 9 = .ok (.if_icmp .ge 45, 3) := by decide +kernel
theorem dX4_pointAt_12 : decode cX4_pointAt 12 = .ok (.aload_n 0, 1) := by decide +kernel
theorem dX4_pointAt_13 : decode cX4_pointAt 13 = .ok (.getfield 9, 3) := by decide +kernel
theorem dX4_pointAt_16 : decode cX4_pointAt 16 = .ok (.iload 4, 2) := by decide +kernel
theorem dX4_pointAt_18 : decode cX4_pointAt 18 = .ok (.iaload, 1) := by decide +kernel
theorem dX4_pointAt_19 : decode cX4_pointAt 19 = .ok (.iload_n 1, 1) := by decide +kernel
theorem dX4_pointAt_20 : decode cX4_pointAt 20 = .ok (.if_icmp .ne 28, 3) := by decide +kernel
theorem dX4_pointAt_23 : decode cX4_pointAt 23 = .ok (.aload_n 0, 1) := by decide +kernel
theorem dX4_pointAt_24 : decode cX4_pointAt 24 = .ok (.getfield 15, 3) := by decide +kernel
theorem dX4_pointAt_27 : decode cX4_pointAt 27 = .ok (.iload 4, 2) := by decide +kernel
theorem dX4_pointAt_29 : decode cX4_pointAt 29 = .ok (.iaload, 1) := by decide +kernel
theorem dX4_pointAt_30 : decode cX4_pointAt 30 = .ok (.iload_n 2, 1) := by decide +kernel
theorem dX4_pointAt_31 : decode cX4_pointAt 31 = .ok (.if_icmp .ne 17, 3) := by decide +kernel
theorem dX4_pointAt_34 : decode cX4_pointAt 34 = .ok (.aload_n 0, 1) := by decide +kernel
theorem dX4_pointAt_35 : decode cX4_pointAt 35 = .ok (.getfield 18, 3) := by decide +kernel
theorem dX4_pointAt_38 : decode cX4_pointAt 38 = .ok (.iload 4, 2) := by decide +kernel
theorem dX4_pointAt_40 : decode cX4_pointAt 40 = .ok (.iaload, 1) := by decide +kernel
theorem dX4_pointAt_41 : decode cX4_pointAt 41 = .ok (.iload_n 3, 1) := by decide +kernel
theorem dX4_pointAt_42 : decode cX4_pointAt 42 = .ok (.if_icmp .ne 6, 3) := by decide +kernel
theorem dX4_pointAt_45 : decode cX4_pointAt 45 = .ok (.iload 4, 2) := by decide +kernel
theorem dX4_pointAt_47 : decode cX4_pointAt 47 = .ok (.ireturn, 1) := by decide +kernel
theorem dX4_pointAt_48 : decode cX4_pointAt 48 = .ok (.iinc 4 1, 3) := by decide +kernel
theorem dX4_pointAt_51 : decode cX4_pointAt 51 = .ok (.goto (-48), 3) := by decide +kernel
theorem dX4_pointAt_54 : decode cX4_pointAt 54 = .ok (.bipush (-9), 2) := by decide +kernel
theorem dX4_pointAt_56 : decode cX4_pointAt 56 = .ok (.ireturn, 1) := by decide +kernel
theorem dX4_addPoint_0 : decode cX4_addPoint 0 = .ok (.aload_n 0, 1) := by decide +kernel
theorem dX4_addPoint_1 : decode cX4_addPoint 1 = .ok (.aload_n 0, 1) := by decide +kernel
theorem dX4_addPoint_2 : decode cX4_addPoint 2 = .ok (.getfield 27, 3) := by decide +kernel
theorem dX4_addPoint_5 : decode cX4_addPoint 5 = .ok (.iload_n 1, 1) := by decide +kernel
theorem dX4_addPoint_6 : decode cX4_addPoint 6 = .ok (.iload_n 2, 1) := by decide +kernel
theorem dX4_addPoint_7 : decode cX4_addPoint 7 = .ok (.iload_n 3, 1) := by decide +kernel
theorem dX4_addPoint_8 : decode cX4_addPoint 8 = .ok (.invokevirtual 34, 3) := by decide +kernel
theorem dX4_addPoint_11 : decode cX4_addPoint 11 = .ok (.aload_n 0, 1) := by decide +kernel
theorem dX4_addPoint_12 : decode cX4_addPoint 12 = .ok (.dup, 1) := by decide +kernel
theorem dX4_addPoint_13 : decode cX4_addPoint 13 = .ok (.getfield 27, 3) := by decide +kernel
theorem dX4_addPoint_16 : decode cX4_addPoint 16 = .ok (.iconst 1, 1) := by decide +kernel
theorem dX4_addPoint_17 : decode cX4_addPoint 17 = .ok (.iadd, 1) := by decide +kernel
theorem dX4_addPoint_18 : decode cX4_addPoint 18 = .ok (.putfield 27, 3) := by decide +kernel
theorem dX4_addPoint_21 : decode cX4_addPoint 21 = .ok (.aload_n 0, 1) := by decide +kernel
theorem dX4_addPoint_22 : decode cX4_addPoint 22 = .ok (.getfield 27, 3) := by decide +kernel
theorem dX4_addPoint_25 : decode cX4_addPoint 25 = .ok (.iconst 1, 1) := by decide +kernel
theorem dX4_addPoint_26 : decode cX4_addPoint 26 = .ok (.isub, 1) := by decide +kernel
theorem dX4_addPoint_27 : decode cX4_addPoint 27 = .ok (.ireturn, 1) := by decide +kernel
theorem dX4_put_0 : decode cX4_put 0 = .ok (.aload_n 0, 1) := by decide +kernel
theorem dX4_put_1 : decode cX4_put 1 = .ok (.getfield 9, 3) := by decide +kernel
theorem dX4_put_4 : decode cX4_put 4 = .ok (.iload_n 1, 1) := by decide +kernel
theorem dX4_put_5 : decode cX4_put 5 = .ok (.iload_n 2, 1) := by decide +kernel
theorem dX4_put_6 : decode cX4_put 6 = .ok (.iastore, 1) := by decide +kernel
theorem dX4_put_7 : decode cX4_put 7 = .ok (.aload_n 0, 1) := by decide +kernel
theorem dX4_put_8 : decode cX4_put 8 = .ok (.getfield 15, 3) := by decide +kernel
theorem dX4_put_11 : decode cX4_put 11 = .ok (.iload_n 1, 1) := by decide +kernel
theorem dX4_put_12 : decode cX4_put 12 = .ok (.iload_n 3, 1) := by decide +kernel
theorem dX4_put_13 : decode cX4_put 13 = .ok (.iastore, 1) := by decide +kernel
theorem dX4_put_14 : decode cX4_put 14 = .ok (.aload_n 0, 1) := by decide +kernel
theorem dX4_put_15 : decode cX4_put 15 = .ok (.getfield 18, 3) := by decide +kernel
theorem dX4_put_18 : decode cX4_put 18 = .ok (.iload_n 1, 1) := by decide +kernel
theorem dX4_put_19 : decode cX4_put 19 = .ok (.iload 4, 2) := by decide +kernel
theorem dX4_put_21 : decode cX4_put 21 = .ok (.iastore, 1) := by decide +kernel
theorem dX4_put_22 : decode cX4_put 22 = .ok (.return_, 1) := by decide +kernel
theorem dX4_addFace_0 : decode cX4_addFace 0 = .ok (.aload_n 0, 1) := by decide +kernel
theorem dX4_addFace_1 : decode cX4_addFace 1 = .ok (.getfield 21, 3) := by decide +kernel
theorem dX4_addFace_4 : decode cX4_addFace 4 = .ok (.iconst 3, 1) := by decide +kernel
theorem dX4_addFace_5 : decode cX4_addFace 5 = .ok (.aload_n 0, 1) := by decide +kernel
theorem dX4_addFace_6 : decode cX4_addFace 6 = .ok (.getfield 31, 3) := by decide +kernel
theorem dX4_addFace_9 : decode cX4_addFace 9 = .ok (.imul, 1) := by decide +kernel
theorem dX4_addFace_10 : decode cX4_addFace 10 = .ok (.iload_n 1, 1) := by decide +kernel
theorem dX4_addFace_11 : decode cX4_addFace 11 = .ok (.iastore, 1) := by decide +kernel
theorem dX4_addFace_12 : decode cX4_addFace 12 = .ok (.aload_n 0, 1) := by decide +kernel
theorem dX4_addFace_13 : decode cX4_addFace 13 = .ok (.getfield 21, 3) := by decide +kernel
theorem dX4_addFace_16 : decode cX4_addFace 16 = .ok (.iconst 3, 1) := by decide +kernel
theorem dX4_addFace_17 : decode cX4_addFace 17 = .ok (.aload_n 0, 1) := by decide +kernel
theorem dX4_addFace_18 : decode cX4_addFace 18 = .ok (.getfield 31, 3) := by decide +kernel
theorem dX4_addFace_21 : decode cX4_addFace 21 = .ok (.imul, 1) := by decide +kernel
theorem dX4_addFace_22 : decode cX4_addFace 22 = .ok (.iconst 1, 1) := by decide +kernel
theorem dX4_addFace_23 : decode cX4_addFace 23 = .ok (.iadd, 1) := by decide +kernel
theorem dX4_addFace_24 : decode cX4_addFace 24 = .ok (.iload_n 2, 1) := by decide +kernel
theorem dX4_addFace_25 : decode cX4_addFace 25 = .ok (.iastore, 1) := by decide +kernel
theorem dX4_addFace_26 : decode cX4_addFace 26 = .ok (.aload_n 0, 1) := by decide +kernel
theorem dX4_addFace_27 : decode cX4_addFace 27 = .ok (.getfield 21, 3) := by decide +kernel
theorem dX4_addFace_30 : decode cX4_addFace 30 = .ok (.iconst 3, 1) := by decide +kernel
theorem dX4_addFace_31 : decode cX4_addFace 31 = .ok (.aload_n 0, 1) := by decide +kernel
theorem dX4_addFace_32 : decode cX4_addFace 32 = .ok (.getfield 31, 3) := by decide +kernel
theorem dX4_addFace_35 : decode cX4_addFace 35 = .ok (.imul, 1) := by decide +kernel
theorem dX4_addFace_36 : decode cX4_addFace 36 = .ok (.iconst 2, 1) := by decide +kernel
theorem dX4_addFace_37 : decode cX4_addFace 37 = .ok (.iadd, 1) := by decide +kernel
theorem dX4_addFace_38 : decode cX4_addFace 38 = .ok (.iload_n 3, 1) := by decide +kernel
theorem dX4_addFace_39 : decode cX4_addFace 39 = .ok (.iastore, 1) := by decide +kernel
theorem dX4_addFace_40 : decode cX4_addFace 40 = .ok (.aload_n 0, 1) := by decide +kernel
theorem dX4_addFace_41 : decode cX4_addFace 41 = .ok (.dup, 1) := by decide +kernel
theorem dX4_addFace_42 : decode cX4_addFace 42 = .ok (.getfield 31, 3) := by decide +kernel
theorem dX4_addFace_45 : decode cX4_addFace 45 = .ok (.iconst 1, 1) := by decide +kernel
theorem dX4_addFace_46 : decode cX4_addFace 46 = .ok (.iadd, 1) := by decide +kernel
theorem dX4_addFace_47 : decode cX4_addFace 47 = .ok (.putfield 31, 3) := by decide +kernel
theorem dX4_addFace_50 : decode cX4_addFace 50 = .ok (.aload_n 0, 1) := by decide +kernel
theorem dX4_addFace_51 : decode cX4_addFace 51 = .ok (.getfield 31, 3) := by decide +kernel
theorem dX4_addFace_54 : decode cX4_addFace 54 = .ok (.iconst 1, 1) := by decide +kernel
theorem dX4_addFace_55 : decode cX4_addFace 55 = .ok (.isub, 1) := by decide +kernel
theorem dX4_addFace_56 : decode cX4_addFace 56 = .ok (.ireturn, 1) := by decide +kernel
theorem dX4_addWire_0 : decode cX4_addWire 0 = .ok (.aload_n 0, 1) := by decide +kernel
theorem dX4_addWire_1 : decode cX4_addWire 1 = .ok (.getfield 24, 3) := by decide +kernel
theorem dX4_addWire_4 : decode cX4_addWire 4 = .ok (.iconst 2, 1) := by decide +kernel
theorem dX4_addWire_5 : decode cX4_addWire 5 = .ok (.aload_n 0, 1) := by decide +kernel
theorem dX4_addWire_6 : decode cX4_addWire 6 = .ok (.getfield 38, 3) := by decide +kernel
theorem dX4_addWire_9 : decode cX4_addWire 9 = .ok (.imul, 1) := by decide +kernel
theorem dX4_addWire_10 : decode cX4_addWire 10 = .ok (.iload_n 1, 1) := by decide +kernel
theorem dX4_addWire_11 : decode cX4_addWire 11 = .ok (.iastore, 1) := by decide +kernel
theorem dX4_addWire_12 : decode cX4_addWire 12 = .ok (.aload_n 0, 1) := by decide +kernel
theorem dX4_addWire_13 : decode cX4_addWire 13 = .ok (.getfield 24, 3) := by decide +kernel
theorem dX4_addWire_16 : decode cX4_addWire 16 = .ok (.iconst 2, 1) := by decide +kernel
theorem dX4_addWire_17 : decode cX4_addWire 17 = .ok (.aload_n 0, 1) := by decide +kernel
theorem dX4_addWire_18 : decode cX4_addWire 18 = .ok (.getfield 38, 3) := by decide +kernel
theorem dX4_addWire_21 : decode cX4_addWire 21 = .ok (.imul, 1) := by decide +kernel
theorem dX4_addWire_22 : decode cX4_addWire 22 = .ok (.iconst 1, 1) := by decide +kernel
theorem dX4_addWire_23 : decode cX4_addWire 23 = .ok (.iadd, 1) := by decide +kernel
theorem dX4_addWire_24 : decode cX4_addWire 24 = .ok (.iload_n 2, 1) := by decide +kernel
theorem dX4_addWire_25 : decode cX4_addWire 25 = .ok (.iastore, 1) := by decide +kernel
theorem dX4_addWire_26 : decode cX4_addWire 26 = .ok (.aload_n 0, 1) := by decide +kernel
theorem dX4_addWire_27 : decode cX4_addWire 27 = .ok (.dup, 1) := by decide +kernel
theorem dX4_addWire_28 : decode cX4_addWire 28 = .ok (.getfield 38, 3) := by decide +kernel
theorem dX4_addWire_31 : decode cX4_addWire 31 = .ok (.iconst 1, 1) := by decide +kernel
theorem dX4_addWire_32 : decode cX4_addWire 32 = .ok (.iadd, 1) := by decide +kernel
theorem dX4_addWire_33 : decode cX4_addWire 33 = .ok (.putfield 38, 3) := by decide +kernel
theorem dX4_addWire_36 : decode cX4_addWire 36 = .ok (.aload_n 0, 1) := by decide +kernel
theorem dX4_addWire_37 : decode cX4_addWire 37 = .ok (.getfield 38, 3) := by decide +kernel
theorem dX4_addWire_40 : decode cX4_addWire 40 = .ok (.ireturn, 1) := by decide +kernel
theorem dX4_onLine_0 : decode cX4_onLine 0 = .ok (.aload_n 0, 1) := by decide +kernel
theorem dX4_onLine_1 : decode cX4_onLine 1 = .ok (.getfield 15, 3) := by decide +kernel
theorem dX4_onLine_4 : decode cX4_onLine 4 = .ok (.aload_n 0, 1) := by decide +kernel
theorem dX4_onLine_5 : decode cX4_onLine 5 = .ok (.getfield 18, 3) := by decide +kernel
theorem dX4_onLine_8 : decode cX4_onLine 8 = .ok (.iload_n 1, 1) := by decide +kernel
theorem dX4_onLine_9 : decode cX4_onLine 9 = .ok (.iload_n 2, 1) := by decide +kernel
theorem dX4_onLine_10 : decode cX4_onLine 10 = .ok (.iload_n 3, 1) := by decide +kernel
theorem dX4_onLine_11 : decode cX4_onLine 11 = .ok (.invokestatic 41, 3) := by decide +kernel
theorem dX4_onLine_14 : decode cX4_onLine 14 = .ok (.ifCond .ne 41, 3) := by decide +kernel
theorem dX4_onLine_17 : decode cX4_onLine 17 = .ok (.aload_n 0, 1) := by decide +kernel
theorem dX4_onLine_18 : decode cX4_onLine 18 = .ok (.getfield 18, 3) := by decide +kernel
theorem dX4_onLine_21 : decode cX4_onLine 21 = .ok (.aload_n 0, 1) := by decide +kernel
theorem dX4_onLine_22 : decode cX4_onLine 22 = .ok (.getfield 9, 3) := by decide +kernel
theorem dX4_onLine_25 : decode cX4_onLine 25 = .ok (.iload_n 1, 1) := by decide +kernel
theorem dX4_onLine_26 : decode cX4_onLine 26 = .ok (.iload_n 2, 1) := by decide +kernel
theorem dX4_onLine_27 : decode cX4_onLine 27 = .ok (.iload_n 3, 1) := by decide +kernel
theorem dX4_onLine_28 : decode cX4_onLine 28 = .ok (.invokestatic 41, 3) := by decide +kernel
theorem dX4_onLine_31 : decode cX4_onLine 31 = .ok (.ifCond .ne 24, 3) := by decide +kernel
theorem dX4_onLine_34 : decode cX4_onLine 34 = .ok (.aload_n 0, 1) := by decide +kernel
theorem dX4_onLine_35 : decode cX4_onLine 35 = .ok (.getfield 9, 3) := by decide +kernel
theorem dX4_onLine_38 : decode cX4_onLine 38 = .ok (.aload_n 0, 1) := by decide +kernel
theorem dX4_onLine_39 : decode cX4_onLine 39 = .ok (.getfield 15, 3) := by decide +kernel
theorem dX4_onLine_42 : decode cX4_onLine 42 = .ok (.iload_n 1, 1) := by decide +kernel
theorem dX4_onLine_43 : decode cX4_onLine 43 = .ok (.iload_n 2, 1) := by decide +kernel
theorem dX4_onLine_44 : decode cX4_onLine 44 = .ok (.iload_n 3, 1) := by decide +kernel
theorem dX4_onLine_45 : decode cX4_onLine 45 = .ok (.invokestatic 41, 3) := by decide +kernel
theorem dX4_onLine_48 : decode cX4_onLine 48 = .ok (.ifCond .ne 7, 3) := by decide +kernel
theorem dX4_onLine_51 : decode cX4_onLine 51 = .ok (.iconst 1, 1) := by decide +kernel
theorem dX4_onLine_52 : decode cX4_onLine 52 = .ok (.goto 4, 3) := by decide +kernel
theorem dX4_onLine_55 : decode cX4_onLine 55 = .ok (.iconst 0, 1) := by decide +kernel
theorem dX4_onLine_56 : decode cX4_onLine 56 = .ok (.ireturn, 1) := by decide +kernel
theorem dX4_area_0 : decode cX4_area 0 = .ok (.aload_n 0, 1) := by decide +kernel
theorem dX4_area_1 : decode cX4_area 1 = .ok (.iload_n 3, 1) := by decide +kernel
theorem dX4_area_2 : decode cX4_area 2 = .ok (.iaload, 1) := by decide +kernel
theorem dX4_area_3 : decode cX4_area 3 = .ok (.aload_n 0, 1) := by decide +kernel
theorem dX4_area_4 : decode cX4_area 4 = .ok (.iload_n 2, 1) := by decide +kernel
theorem dX4_area_5 : decode cX4_area 5 = .ok (.iaload, 1) := by decide +kernel
theorem dX4_area_6 : decode cX4_area 6 = .ok (.isub, 1) := by decide +kernel
theorem dX4_area_7 : decode cX4_area 7 = .ok (.aload_n 1, 1) := by decide +kernel
theorem dX4_area_8 : decode cX4_area 8 = .ok (.iload 4, 2) := by decide +kernel
theorem dX4_area_10 : decode cX4_area 10 = .ok (.iaload, 1) := by decide +kernel
theorem dX4_area_11 : decode cX4_area 11 = .ok (.aload_n 1, 1) := by decide +kernel
theorem dX4_area_12 : decode cX4_area 12 = .ok (.iload_n 2, 1) := by decide +kernel
theorem dX4_area_13 : decode cX4_area 13 = .ok (.iaload, 1) := by decide +kernel
theorem dX4_area_14 : decode cX4_area 14 = .ok (.isub, 1) := by decide +kernel
theorem dX4_area_15 : decode cX4_area 15 = .ok (.imul, 1) := by decide +kernel
theorem dX4_area_16 : decode cX4_area 16 = .ok (.aload_n 1, 1) := by decide +kernel
theorem dX4_area_17 : decode cX4_area 17 = .ok (.iload_n 3, 1) := by decide +kernel
theorem dX4_area_18 : decode cX4_area 18 = .ok (.iaload, 1) := by decide +kernel
theorem dX4_area_19 : decode cX4_area 19 = .ok (.aload_n 1, 1) := by decide +kernel
theorem dX4_area_20 : decode cX4_area 20 = .ok (.iload_n 2, 1) := by decide +kernel
theorem dX4_area_21 : decode cX4_area 21 = .ok (.iaload, 1) := by decide +kernel
theorem dX4_area_22 : decode cX4_area 22 = .ok (.isub, 1) := by decide +kernel
theorem dX4_area_23 : decode cX4_area 23 = .ok (.aload_n 0, 1) := by decide +kernel
theorem dX4_area_24 : decode cX4_area 24 = .ok (.iload 4, 2) := by decide +kernel
theorem dX4_area_26 : decode cX4_area 26 = .ok (.iaload, 1) := by decide +kernel
theorem dX4_area_27 : decode cX4_area 27 = .ok (.aload_n 0, 1) := by decide +kernel
theorem dX4_area_28 : decode cX4_area 28 = .ok (.iload_n 2, 1) := by decide +kernel
theorem dX4_area_29 : decode cX4_area 29 = .ok (.iaload, 1) := by decide +kernel
theorem dX4_area_30 : decode cX4_area 30 = .ok (.isub, 1) := by decide +kernel
theorem dX4_area_31 : decode cX4_area 31 = .ok (.imul, 1) := by decide +kernel
theorem dX4_area_32 : decode cX4_area 32 = .ok (.isub, 1) := by decide +kernel
theorem dX4_area_33 : decode cX4_area 33 = .ok (.ireturn, 1) := by decide +kernel
theorem dX4_hasCorner_0 : decode cX4_hasCorner 0 = .ok (.aload_n 0, 1) := by decide +kernel
theorem dX4_hasCorner_1 : decode cX4_hasCorner 1 = .ok (.iload_n 1, 1) := by decide +kernel
theorem dX4_hasCorner_2 : decode cX4_hasCorner 2 = .ok (.iconst 0, 1) := by decide +kernel
theorem dX4_hasCorner_3 : decode cX4_hasCorner 3 = .ok (.invokevirtual 45, 3) := by decide +kernel
theorem dX4_hasCorner_6 : decode cX4_hasCorner 6 = .ok (.iload_n 2, 1) := by decide +kernel
theorem dX4_hasCorner_7 : decode cX4_hasCorner 7 = .ok (.if_icmp .eq 23, 3) := by decide +kernel
theorem dX4_hasCorner_10 : decode cX4_hasCorner 10 = .ok (.aload_n 0, 1) := by decide +kernel
theorem dX4_hasCorner_11 : decode cX4_hasCorner 11 = .ok (.iload_n 1, 1) := by decide +kernel
theorem dX4_hasCorner_12 : decode cX4_hasCorner 12 = .ok (.iconst 1, 1) := by decide +kernel
theorem dX4_hasCorner_13 : decode cX4_hasCorner 13 = .ok (.invokevirtual 45, 3) := by decide +kernel
theorem dX4_hasCorner_16 : decode cX4_hasCorner 16 = .ok (.iload_n 2, 1) := by decide +kernel
theorem dX4_hasCorner_17 : decode cX4_hasCorner 17 = .ok (.if_icmp .eq 13, 3) := by decide +kernel
theorem dX4_hasCorner_20 : decode cX4_hasCorner 20 = .ok (.aload_n 0, 1) := by decide +kernel
theorem dX4_hasCorner_21 : decode cX4_hasCorner 21 = .ok (.iload_n 1, 1) := by decide +kernel
theorem dX4_hasCorner_22 : decode cX4_hasCorner 22 = .ok (.iconst 2, 1) := by decide +kernel
theorem dX4_hasCorner_23 : decode cX4_hasCorner 23 = .ok (.invokevirtual 45, 3) := by decide +kernel
theorem dX4_hasCorner_26 : decode cX4_hasCorner 26 = .ok (.iload_n 2, 1) := by decide +kernel
theorem dX4_hasCorner_27 : decode cX4_hasCorner 27 = .ok (.if_icmp .ne 7, 3) := by decide +kernel
theorem dX4_hasCorner_30 : decode cX4_hasCorner 30 = .ok (.iconst 1, 1) := by decide +kernel
theorem dX4_hasCorner_31 : decode cX4_hasCorner 31 = .ok (.goto 4, 3) := by decide +kernel
theorem dX4_hasCorner_34 : decode cX4_hasCorner 34 = .ok (.iconst 0, 1) := by decide +kernel
theorem dX4_hasCorner_35 : decode cX4_hasCorner 35 = .ok (.ireturn, 1) := by decide +kernel
theorem dX4_hasFaceOn_0 : decode cX4_hasFaceOn 0 = .ok (.iconst 0, 1) := by decide +kernel
theorem dX4_hasFaceOn_1 : decode cX4_hasFaceOn 1 = .ok (.istore 4, 2) := by decide +kernel
theorem dX4_hasFaceOn_3 : decode cX4_hasFaceOn 3 = .ok (.iload 4, 2) := by decide +kernel
theorem dX4_hasFaceOn_5 : decode cX4_hasFaceOn 5 = .ok (.aload_n 0, 1) := by decide +kernel
theorem dX4_hasFaceOn_6 : decode cX4_hasFaceOn 6 = .ok (.getfield 31, 3) := by decide +kernel
theorem dX4_hasFaceOn_9 : decode cX4_hasFaceOn 9 = .ok (.if_icmp .ge 41, 3) := by decide +kernel
theorem dX4_hasFaceOn_12 : decode cX4_hasFaceOn 12 = .ok (.aload_n 0, 1) := by decide +kernel
theorem dX4_hasFaceOn_13 : decode cX4_hasFaceOn 13 = .ok (.iload 4, 2) := by decide +kernel
theorem dX4_hasFaceOn_15 : decode cX4_hasFaceOn 15 = .ok (.iload_n 1, 1) := by decide +kernel
theorem dX4_hasFaceOn_16 : decode cX4_hasFaceOn 16 = .ok (.invokevirtual 49, 3) := by decide +kernel
theorem dX4_hasFaceOn_19 : decode cX4_hasFaceOn 19 = .ok (.ifCond .eq 25, 3) := by decide +kernel
theorem dX4_hasFaceOn_22 : decode cX4_hasFaceOn 22 = .ok (.aload_n 0, 1) := by decide +kernel
theorem dX4_hasFaceOn_23 : decode cX4_hasFaceOn 23 = .ok (.iload 4, 2) := by decide +kernel
theorem dX4_hasFaceOn_25 : decode cX4_hasFaceOn 25 = .ok (.iload_n 2, 1) := by decide +kernel
theorem dX4_hasFaceOn_26 : decode cX4_hasFaceOn 26 = .ok (.invokevirtual 49, 3) := by decide +kernel
theorem dX4_hasFaceOn_29 : decode cX4_hasFaceOn 29 = .ok (.ifCond .eq 15, 3) := by decide +kernel
theorem dX4_hasFaceOn_32 : decode cX4_hasFaceOn 32 = .ok (.aload_n 0, 1) := by decide +kernel
theorem dX4_hasFaceOn_33 : decode cX4_hasFaceOn 33 = .ok (.iload 4, 2) := by decide +kernel
theorem dX4_hasFaceOn_35 : decode cX4_hasFaceOn 35 = .ok (.iload_n 3, 1) := by decide +kernel
theorem dX4_hasFaceOn_36 : decode cX4_hasFaceOn 36 = .ok (.invokevirtual 49, 3) := by decide +kernel
theorem dX4_hasFaceOn_39 : decode cX4_hasFaceOn 39 = .ok (.ifCond .eq 5, 3) := by decide +kernel
theorem dX4_hasFaceOn_42 : decode cX4_hasFaceOn 42 = .ok (.iconst 1, 1) := by decide +kernel
theorem dX4_hasFaceOn_43 : decode cX4_hasFaceOn 43 = .ok (.ireturn, 1) := by decide +kernel
theorem dX4_hasFaceOn_44 : decode cX4_hasFaceOn 44 = .ok (.iinc 4 1, 3) := by decide +kernel
theorem dX4_hasFaceOn_47 : decode cX4_hasFaceOn 47 = .ok (.goto (-44), 3) := by decide +kernel
theorem dX4_hasFaceOn_50 : decode cX4_hasFaceOn 50 = .ok (.iconst 0, 1) := by decide +kernel
theorem dX4_hasFaceOn_51 : decode cX4_hasFaceOn 51 = .ok (.ireturn, 1) := by decide +kernel
theorem dX4_faceWith_0 : decode cX4_faceWith 0 = .ok (.iload_n 3, 1) := by decide +kernel
theorem dX4_faceWith_1 : decode cX4_faceWith 1 = .ok (.iconst 0, 1) := by decide +kernel
theorem dX4_faceWith_2 : decode cX4_faceWith 2 = .ok (.invokestatic 53, 3) := by decide +kernel
theorem dX4_faceWith_5 : decode cX4_faceWith 5 = .ok (.istore 4, 2) := by decide +kernel
theorem dX4_faceWith_7 : decode cX4_faceWith 7 = .ok (.iload 4, 2) := by decide +kernel
theorem dX4_faceWith_9 : decode cX4_faceWith 9 = .ok (.aload_n 0, 1) := by decide +kernel
theorem dX4_faceWith_10 : decode cX4_faceWith 10 = .ok (.getfield 31, 3) := by decide +kernel
theorem dX4_faceWith_13 : decode cX4_faceWith 13 = .ok (.if_icmp .ge 32, 3) := by decide +kernel
theorem dX4_faceWith_16 : decode cX4_faceWith 16 = .ok (.aload_n 0, 1) := by decide +kernel
theorem dX4_faceWith_17 : decode cX4_faceWith 17 = .ok (.iload 4, 2) := by decide +kernel
theorem dX4_faceWith_19 : decode cX4_faceWith 19 = .ok (.iload_n 1, 1) := by decide +kernel
theorem dX4_faceWith_20 : decode cX4_faceWith 20 = .ok (.invokevirtual 49, 3) := by decide +kernel
theorem dX4_faceWith_23 : decode cX4_faceWith 23 = .ok (.ifCond .eq 16, 3) := by decide +kernel
theorem dX4_faceWith_26 : decode cX4_faceWith 26 = .ok (.aload_n 0, 1) := by decide +kernel
theorem dX4_faceWith_27 : decode cX4_faceWith 27 = .ok (.iload 4, 2) := by decide +kernel
theorem dX4_faceWith_29 : decode cX4_faceWith 29 = .ok (.iload_n 2, 1) := by decide +kernel
theorem dX4_faceWith_30 : decode cX4_faceWith 30 = .ok (.invokevirtual 49, 3) := by decide +kernel
theorem dX4_faceWith_33 : decode cX4_faceWith 33 = .ok (.ifCond .eq 6, 3) := by decide +kernel
theorem dX4_faceWith_36 : decode cX4_faceWith 36 = .ok (.iload 4, 2) := by decide +kernel
theorem dX4_faceWith_38 : decode cX4_faceWith 38 = .ok (.ireturn, 1) := by decide +kernel
theorem dX4_faceWith_39 : decode cX4_faceWith 39 = .ok (.iinc 4 1, 3) := by decide +kernel
theorem dX4_faceWith_42 : decode cX4_faceWith 42 = .ok (.goto (-35), 3) := by decide +kernel
theorem dX4_faceWith_45 : decode cX4_faceWith 45 = .ok (.bipush (-9), 2) := by decide +kernel
theorem dX4_faceWith_47 : decode cX4_faceWith 47 = .ok (.ireturn, 1) := by decide +kernel
theorem dX4_hasWire_0 : decode cX4_hasWire 0 = .ok (.iconst 0, 1) := by decide +kernel
theorem dX4_hasWire_1 : decode cX4_hasWire 1 = .ok (.istore_n 3, 1) := by decide +kernel
theorem dX4_hasWire_2 : decode cX4_hasWire 2 = .ok (.iload_n 3, 1) := by decide +kernel
theorem dX4_hasWire_3 : decode cX4_hasWire 3 = .ok (.aload_n 0, 1) := by decide +kernel
theorem dX4_hasWire_4 : decode cX4_hasWire 4 = .ok (.getfield 38, 3) := by decide +kernel
theorem dX4_hasWire_7 : decode cX4_hasWire 7 = .ok (.if_icmp .ge 57, 3) := by decide +kernel
theorem dX4_hasWire_10 : decode cX4_hasWire 10 = .ok (.aload_n 0, 1) := by decide +kernel
theorem dX4_hasWire_11 : decode cX4_hasWire 11 = .ok (.getfield 24, 3) := by decide +kernel
theorem dX4_hasWire_14 : decode cX4_hasWire 14 = .ok (.iconst 2, 1) := by decide +kernel
theorem dX4_hasWire_15 : decode cX4_hasWire 15 = .ok (.iload_n 3, 1) := by decide +kernel
theorem dX4_hasWire_16 : decode cX4_hasWire 16 = .ok (.imul, 1) := by decide +kernel
theorem dX4_hasWire_17 : decode cX4_hasWire 17 = .ok (.iaload, 1) := by decide +kernel
theorem dX4_hasWire_18 : decode cX4_hasWire 18 = .ok (.istore 4, 2) := by decide +kernel
theorem dX4_hasWire_20 : decode cX4_hasWire 20 = .ok (.aload_n 0, 1) := by decide +kernel
theorem dX4_hasWire_21 : decode cX4_hasWire 21 = .ok (.getfield 24, 3) := by decide +kernel
theorem dX4_hasWire_24 : decode cX4_hasWire 24 = .ok (.iconst 2, 1) := by decide +kernel
theorem dX4_hasWire_25 : decode cX4_hasWire 25 = .ok (.iload_n 3, 1) := by decide +kernel
theorem dX4_hasWire_26 : decode cX4_hasWire 26 = .ok (.imul, 1) := by decide +kernel
theorem dX4_hasWire_27 : decode cX4_hasWire 27 = .ok (.iconst 1, 1) := by decide +kernel
theorem dX4_hasWire_28 : decode cX4_hasWire 28 = .ok (.iadd, 1) := by decide +kernel
theorem dX4_hasWire_29 : decode cX4_hasWire 29 = .ok (.iaload, 1) := by decide +kernel
theorem dX4_hasWire_30 : decode cX4_hasWire 30 = .ok (.istore 5, 2) := by decide +kernel
theorem dX4_hasWire_32 : decode cX4_hasWire 32 = .ok (.iload 4, 2) := by decide +kernel
theorem dX4_hasWire_34 : decode cX4_hasWire 34 = .ok (.iload_n 1, 1) := by decide +kernel
theorem dX4_hasWire_35 : decode cX4_hasWire 35 = .ok (.if_icmp .ne 9, 3) := by decide +kernel
theorem dX4_hasWire_38 : decode cX4_hasWire 38 = .ok (.iload 5, 2) := by decide +kernel
theorem dX4_hasWire_40 : decode cX4_hasWire 40 = .ok (.iload_n 2, 1) := by decide +kernel
theorem dX4_hasWire_41 : decode cX4_hasWire 41 = .ok (.if_icmp .eq 15, 3) := by decide +kernel
theorem dX4_hasWire_44 : decode cX4_hasWire 44 = .ok (.iload 4, 2) := by decide +kernel
theorem dX4_hasWire_46 : decode cX4_hasWire 46 = .ok (.iload_n 2, 1) := by decide +kernel
theorem dX4_hasWire_47 : decode cX4_hasWire 47 = .ok (.if_icmp .ne 11, 3) := by decide +kernel
theorem dX4_hasWire_50 : decode cX4_hasWire 50 = .ok (.iload 5, 2) := by decide +kernel
theorem dX4_hasWire_52 : decode cX4_hasWire 52 = .ok (.iload_n 1, 1) := by decide +kernel
theorem dX4_hasWire_53 : decode cX4_hasWire 53 = .ok (.if_icmp .ne 5, 3) := by decide +kernel
theorem dX4_hasWire_56 : decode cX4_hasWire 56 = .ok (.iconst 1, 1) := by decide +kernel
theorem dX4_hasWire_57 : decode cX4_hasWire 57 = .ok (.ireturn, 1) := by decide +kernel
theorem dX4_hasWire_58 : decode cX4_hasWire 58 = .ok (.iinc 3 1, 3) := by decide +kernel
theorem dX4_hasWire_61 : decode cX4_hasWire 61 = .ok (.goto (-59), 3) := by decide +kernel
theorem dX4_hasWire_64 : decode cX4_hasWire 64 = .ok (.iconst 0, 1) := by decide +kernel
theorem dX4_hasWire_65 : decode cX4_hasWire 65 = .ok (.ireturn, 1) := by decide +kernel
theorem dX4_turnPoint_0 : decode cX4_turnPoint 0 = .ok (.aload_n 0, 1) := by decide +kernel
theorem dX4_turnPoint_1 : decode cX4_turnPoint 1 = .ok (.getfield 9, 3) := by decide +kernel
theorem dX4_turnPoint_4 : decode cX4_turnPoint 4 = .ok (.iload_n 1, 1) := by decide +kernel
theorem dX4_turnPoint_5 : decode cX4_turnPoint 5 = .ok (.iaload, 1) := by decide +kernel
theorem dX4_turnPoint_6 : decode cX4_turnPoint 6 = .ok (.istore_n 3, 1) := by decide +kernel
theorem dX4_turnPoint_7 : decode cX4_turnPoint 7 = .ok (.aload_n 0, 1) := by decide +kernel
theorem dX4_turnPoint_8 : decode cX4_turnPoint 8 = .ok (.getfield 15, 3) := by decide +kernel
theorem dX4_turnPoint_11 : decode cX4_turnPoint 11 = .ok (.iload_n 1, 1) := by decide +kernel
theorem dX4_turnPoint_12 : decode cX4_turnPoint 12 = .ok (.iaload, 1) := by decide +kernel
theorem dX4_turnPoint_13 : decode cX4_turnPoint 13 = .ok (.istore 4, 2) := by decide +kernel
theorem dX4_turnPoint_15 : decode cX4_turnPoint 15 = .ok (.aload_n 0, 1) := by decide +kernel
theorem dX4_turnPoint_16 : decode cX4_turnPoint 16 = .ok (.getfield 18, 3) := by decide +kernel
theorem dX4_turnPoint_19 : decode cX4_turnPoint 19 = .ok (.iload_n 1, 1) := by decide +kernel
theorem dX4_turnPoint_20 : decode cX4_turnPoint 20 = .ok (.iaload, 1) := by decide +kernel
theorem dX4_turnPoint_21 : decode cX4_turnPoint 21 = .ok (.istore 5, 2) := by decide +kernel
theorem dX4_turnPoint_23 : decode cX4_turnPoint 23 = .ok (.iload_n 2, 1) := by decide +kernel
theorem dX4_turnPoint_24 : decode cX4_turnPoint 24 = .ok (.tableswitch 70 0 2 #[28, 42, 56], 28) := by decide +kernel
theorem dX4_turnPoint_52 : decode cX4_turnPoint 52 = .ok (.aload_n 0, 1) := by decide +kernel
theorem dX4_turnPoint_53 : decode cX4_turnPoint 53 = .ok (.iload_n 1, 1) := by decide +kernel
theorem dX4_turnPoint_54 : decode cX4_turnPoint 54 = .ok (.iload_n 3, 1) := by decide +kernel
theorem dX4_turnPoint_55 : decode cX4_turnPoint 55 = .ok (.iload 5, 2) := by decide +kernel
theorem dX4_turnPoint_57 : decode cX4_turnPoint 57 = .ok (.ineg, 1) := by decide +kernel
theorem dX4_turnPoint_58 : decode cX4_turnPoint 58 = .ok (.iload 4, 2) := by decide +kernel
theorem dX4_turnPoint_60 : decode cX4_turnPoint 60 = .ok (.invokevirtual 34, 3) := by decide +kernel
theorem dX4_turnPoint_63 : decode cX4_turnPoint 63 = .ok (.goto 42, 3) := by decide +kernel
theorem dX4_turnPoint_66 : decode cX4_turnPoint 66 = .ok (.aload_n 0, 1) := by decide +kernel
theorem dX4_turnPoint_67 : decode cX4_turnPoint 67 = .ok (.iload_n 1, 1) := by decide +kernel
theorem dX4_turnPoint_68 : decode cX4_turnPoint 68 = .ok (.iload 5, 2) := by decide +kernel
theorem dX4_turnPoint_70 : decode cX4_turnPoint 70 = .ok (.iload 4, 2) := by decide +kernel
theorem dX4_turnPoint_72 : decode cX4_turnPoint 72 = .ok (.iload_n 3, 1) := by decide +kernel
theorem dX4_turnPoint_73 : decode cX4_turnPoint 73 = .ok (.ineg, 1) := by decide +kernel
theorem dX4_turnPoint_74 : decode cX4_turnPoint 74 = .ok (.invokevirtual 34, 3) := by decide +kernel
theorem dX4_turnPoint_77 : decode cX4_turnPoint 77 = .ok (.goto 28, 3) := by decide +kernel
theorem dX4_turnPoint_80 : decode cX4_turnPoint 80 = .ok (.aload_n 0, 1) := by decide +kernel
theorem dX4_turnPoint_81 : decode cX4_turnPoint 81 = .ok (.iload_n 1, 1) := by decide +kernel
theorem dX4_turnPoint_82 : decode cX4_turnPoint 82 = .ok (.iload 4, 2) := by decide +kernel
theorem dX4_turnPoint_84 : decode cX4_turnPoint 84 = .ok (.ineg, 1) := by decide +kernel
theorem dX4_turnPoint_85 : decode cX4_turnPoint 85 = .ok (.iload_n 3, 1) := by decide +kernel
theorem dX4_turnPoint_86 : decode cX4_turnPoint 86 = .ok (.iload 5, 2) := by decide +kernel
theorem dX4_turnPoint_88 : decode cX4_turnPoint 88 = .ok (.invokevirtual 34, 3) := by decide +kernel
theorem dX4_turnPoint_91 : decode cX4_turnPoint 91 = .ok (.goto 14, 3) := by decide +kernel
theorem dX4_turnPoint_94 : decode cX4_turnPoint 94 = .ok (.aload_n 0, 1) := by decide +kernel
theorem dX4_turnPoint_95 : decode cX4_turnPoint 95 = .ok (.iload_n 1, 1) := by decide +kernel
theorem dX4_turnPoint_96 : decode cX4_turnPoint 96 = .ok (.iload_n 3, 1) := by decide +kernel
theorem dX4_turnPoint_97 : decode cX4_turnPoint 97 = .ok (.iload 4, 2) := by decide +kernel
theorem dX4_turnPoint_99 : decode cX4_turnPoint 99 = .ok (.iload 5, 2) := by decide +kernel
theorem dX4_turnPoint_101 : decode cX4_turnPoint 101 = .ok (.ineg, 1) := by decide +kernel
theorem dX4_turnPoint_102 : decode cX4_turnPoint 102 = .ok (.invokevirtual 34, 3) := by decide +kernel
theorem dX4_turnPoint_105 : decode cX4_turnPoint 105 = .ok (.aload_n 0, 1) := by decide +kernel
theorem dX4_turnPoint_106 : decode cX4_turnPoint 106 = .ok (.getfield 9, 3) := by decide +kernel
theorem dX4_turnPoint_109 : decode cX4_turnPoint 109 = .ok (.iload_n 1, 1) := by decide +kernel
theorem dX4_turnPoint_110 : decode cX4_turnPoint 110 = .ok (.iaload, 1) := by decide +kernel
theorem dX4_turnPoint_111 : decode cX4_turnPoint 111 = .ok (.iload_n 3, 1) := by decide +kernel
theorem dX4_turnPoint_112 : decode cX4_turnPoint 112 = .ok (.if_icmp .ne 25, 3) := by decide +kernel
theorem dX4_turnPoint_115 : decode cX4_turnPoint 115 = .ok (.aload_n 0, 1) := by decide +kernel
theorem dX4_turnPoint_116 : decode cX4_turnPoint 116 = .ok (.getfield 15, 3) := by decide +kernel
theorem dX4_turnPoint_119 : decode cX4_turnPoint 119 = .ok (.iload_n 1, 1) := by decide +kernel
