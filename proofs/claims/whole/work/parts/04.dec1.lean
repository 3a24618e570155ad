theorem dX4_turnPoint_120 : decode cX4_turnPoint 120 = .ok (.iaload, 1) := by decide +kernel
theorem dX4_turnPoint_121 : decode cX4_turnPoint 121 = .ok (.iload 4, 2) := by decide +kernel
theorem dX4_turnPoint_123 : decode cX4_turnPoint 123 = .ok (.if_icmp .ne 14, 3) := by decide +kernel
theorem dX4_turnPoint_126 : decode cX4_turnPoint 126 = .ok (.aload_n 0, 1) := by decide +kernel
theorem dX4_turnPoint_127 : decode cX4_turnPoint 127 = .ok (.getfield 18, 3) := by decide +kernel
theorem dX4_turnPoint_130 : decode cX4_turnPoint 130 = .ok (.iload_n 1, 1) := by decide +kernel
theorem dX4_turnPoint_131 : decode cX4_turnPoint 131 = .ok (.iaload, 1) := by decide +kernel
theorem dX4_turnPoint_132 : decode cX4_turnPoint 132 = .ok (.iload 5, 2) := by decide +kernel
theorem dX4_turnPoint_134 : decode cX4_turnPoint 134 = .ok (.if_icmp .eq 7, 3) := by decide +kernel
theorem dX4_turnPoint_137 : decode cX4_turnPoint 137 = .ok (.iconst 1, 1) := by decide +kernel
theorem dX4_turnPoint_138 : decode cX4_turnPoint 138 = .ok (.goto 4, 3) := by decide +kernel
theorem dX4_turnPoint_141 : decode cX4_turnPoint 141 = .ok (.iconst 0, 1) := by decide +kernel
theorem dX4_turnPoint_142 : decode cX4_turnPoint 142 = .ok (.ireturn, 1) := by decide +kernel
theorem dX5_init_0 : decode cX5_init 0 = .ok (.aload_n 0, 1) := by decide +kernel
theorem dX5_init_1 : decode cX5_init 1 = .ok (.invokespecial 3, 3) := by decide +kernel
theorem dX5_init_4 : decode cX5_init 4 = .ok (.aload_n 0, 1) := by decide +kernel
theorem dX5_init_5 : decode cX5_init 5 = .ok (.bipush 80, 2) := by decide +kernel
theorem dX5_init_7 : decode cX5_init 7 = .ok (.newarray .int, 2) := by decide +kernel
theorem dX5_init_9 : decode cX5_init 9 = .ok (.putfield 9, 3) := by decide +kernel
theorem dX5_init_12 : decode cX5_init 12 = .ok (.aload_n 0, 1) := by decide +kernel
theorem dX5_init_13 : decode cX5_init 13 = .ok (.bipush 80, 2) := by decide +kernel
theorem dX5_init_15 : decode cX5_init 15 = .ok (.newarray .long, 2) := by decide +kernel
theorem dX5_init_17 : decode cX5_init 17 = .ok (.putfield 15, 3) := by decide +kernel
theorem dX5_init_20 : decode cX5_init 20 = .ok (.return_, 1) := by decide +kernel
theorem dX5_rebuild_0 : decode cX5_rebuild 0 = .ok (.aload_n 0, 1) := by decide +kernel
theorem dX5_rebuild_1 : decode cX5_rebuild 1 = .ok (.iconst 0, 1) := by decide +kernel
theorem dX5_rebuild_2 : decode cX5_rebuild 2 = .ok (.putfield 19, 3) := by decide +kernel
theorem dX5_rebuild_5 : decode cX5_rebuild 5 = .ok (.aload_n 0, 1) := by decide +kernel
theorem dX5_rebuild_6 : decode cX5_rebuild 6 = .ok (.iconst 0, 1) := by decide +kernel
theorem dX5_rebuild_7 : decode cX5_rebuild 7 = .ok (.putfield 23, 3) := by decide +kernel
theorem dX5_rebuild_10 : decode cX5_rebuild 10 = .ok (.aload_n 0, 1) := by decide +kernel
theorem dX5_rebuild_11 : decode cX5_rebuild 11 = .ok (.iconst 0, 1) := by decide +kernel
theorem dX5_rebuild_12 : decode cX5_rebuild 12 = .ok (.putfield 26, 3) := by decide +kernel
theorem dX5_rebuild_15 : decode cX5_rebuild 15 = .ok (.iconst 0, 1) := by decide +kernel
theorem dX5_rebuild_16 : decode cX5_rebuild 16 = .ok (.istore 4, 2) := by decide +kernel
theorem dX5_rebuild_18 : decode cX5_rebuild 18 = .ok (.iload 4, 2) := by decide +kernel
theorem dX5_rebuild_20 : decode cX5_rebuild 20 = .ok (.aload_n 1, 1) := by decide +kernel
theorem dX5_rebuild_21 : decode cX5_rebuild 21 = .ok (.getfield 29, 3) := by decide +kernel
theorem dX5_rebuild_24 : decode cX5_rebuild 24 = .ok (.if_icmp .ge 113, 3) := by decide +kernel
theorem dX5_rebuild_27 : decode cX5_rebuild 27 = .ok (.aload_n 2, 1) := by decide +kernel
theorem dX5_rebuild_28 : decode cX5_rebuild 28 = .ok (.iload 4, 2) := by decide +kernel
theorem dX5_rebuild_30 : decode cX5_rebuild 30 = .ok (.aload_n 1, 1) := by decide +kernel
theorem dX5_rebuild_31 : decode cX5_rebuild 31 = .ok (.aload_n 3, 1) := by decide +kernel
theorem dX5_rebuild_32 : decode cX5_rebuild 32 = .ok (.invokevirtual 33, 3) := by decide +kernel
theorem dX5_rebuild_35 : decode cX5_rebuild 35 = .ok (.aload_n 0, 1) := by decide +kernel
theorem dX5_rebuild_36 : decode cX5_rebuild 36 = .ok (.getfield 9, 3) := by decide +kernel
theorem dX5_rebuild_39 : decode cX5_rebuild 39 = .ok (.iload 4, 2) := by decide +kernel
theorem dX5_rebuild_41 : decode cX5_rebuild 41 = .ok (.aload_n 2, 1) := by decide +kernel
theorem dX5_rebuild_42 : decode cX5_rebuild 42 = .ok (.invokevirtual 39, 3) := by decide +kernel
theorem dX5_rebuild_45 : decode cX5_rebuild 45 = .ok (.iastore, 1) := by decide +kernel
theorem dX5_rebuild_46 : decode cX5_rebuild 46 = .ok (.aload_n 0, 1) := by decide +kernel
theorem dX5_rebuild_47 : decode cX5_rebuild 47 = .ok (.getfield 15, 3) := by decide +kernel
theorem dX5_rebuild_50 : decode cX5_rebuild 50 = .ok (.iload 4, 2) := by decide +kernel
theorem dX5_rebuild_52 : decode cX5_rebuild 52 = .ok (.aload_n 2, 1) := by decide +kernel
theorem dX5_rebuild_53 : decode cX5_rebuild 53 = .ok (.getfield 43, 3) := by decide +kernel
theorem dX5_rebuild_56 : decode cX5_rebuild 56 = .ok (.lastore, 1) := by decide +kernel
theorem dX5_rebuild_57 : decode cX5_rebuild 57 = .ok (.aload_n 0, 1) := by decide +kernel
theorem dX5_rebuild_58 : decode cX5_rebuild 58 = .ok (.dup, 1) := by decide +kernel
theorem dX5_rebuild_59 : decode cX5_rebuild 59 = .ok (.getfield 19, 3) := by decide +kernel
theorem dX5_rebuild_62 : decode cX5_rebuild 62 = .ok (.aload_n 0, 1) := by decide +kernel
theorem dX5_rebuild_63 : decode cX5_rebuild 63 = .ok (.getfield 9, 3) := by decide +kernel
theorem dX5_rebuild_66 : decode cX5_rebuild 66 = .ok (.iload 4, 2) := by decide +kernel
theorem dX5_rebuild_68 : decode cX5_rebuild 68 = .ok (.iaload, 1) := by decide +kernel
theorem dX5_rebuild_69 : decode cX5_rebuild 69 = .ok (.iadd, 1) := by decide +kernel
theorem dX5_rebuild_70 : decode cX5_rebuild 70 = .ok (.putfield 19, 3) := by decide +kernel
theorem dX5_rebuild_73 : decode cX5_rebuild 73 = .ok (.aload_n 0, 1) := by decide +kernel
theorem dX5_rebuild_74 : decode cX5_rebuild 74 = .ok (.dup, 1) := by decide +kernel
theorem dX5_rebuild_75 : decode cX5_rebuild 75 = .ok (.getfield 23, 3) := by decide +kernel
theorem dX5_rebuild_78 : decode cX5_rebuild 78 = .ok (.aload_n 0, 1) := by decide +kernel
theorem dX5_rebuild_79 : decode cX5_rebuild 79 = .ok (.getfield 15, 3) := by decide +kernel
theorem dX5_rebuild_82 : decode cX5_rebuild 82 = .ok (.iload 4, 2) := by decide +kernel
theorem dX5_rebuild_84 : decode cX5_rebuild 84 = .ok (.laload, 1) := by decide +kernel
theorem dX5_rebuild_85 : decode cX5_rebuild 85 = .ok (.invokestatic 46, 3) := by decide +kernel
theorem dX5_rebuild_88 : decode cX5_rebuild 88 = .ok (.iadd, 1) := by decide +kernel
theorem dX5_rebuild_89 : decode cX5_rebuild 89 = .ok (.putfield 23, 3) := by decide +kernel
theorem dX5_rebuild_92 : decode cX5_rebuild 92 = .ok (.iconst 0, 1) := by decide +kernel
theorem dX5_rebuild_93 : decode cX5_rebuild 93 = .ok (.istore 5, 2) := by decide +kernel
theorem dX5_rebuild_95 : decode cX5_rebuild 95 = .ok (.iload 5, 2) := by decide +kernel
theorem dX5_rebuild_97 : decode cX5_rebuild 97 = .ok (.aload_n 0, 1) := by decide +kernel
theorem dX5_rebuild_98 : decode cX5_rebuild 98 = .ok (.getfield 9, 3) := by decide +kernel
theorem dX5_rebuild_101 : decode cX5_rebuild 101 = .ok (.iload 4, 2) := by decide +kernel
theorem dX5_rebuild_103 : decode cX5_rebuild 103 = .ok (.iaload, 1) := by decide +kernel
theorem dX5_rebuild_104 : decode cX5_rebuild 104 = .ok (.if_icmp .ge 27, 3) := by decide +kernel
theorem dX5_rebuild_107 : decode cX5_rebuild 107 = .ok (.aload_n 0, 1) := by decide +kernel
theorem dX5_rebuild_108 : decode cX5_rebuild 108 = .ok (.aload_n 0, 1) := by decide +kernel
theorem dX5_rebuild_109 : decode cX5_rebuild 109 = .ok (.getfield 26, 3) := by decide +kernel
theorem dX5_rebuild_112 : decode cX5_rebuild 112 = .ok (.aload_n 2, 1) := by decide +kernel
theorem dX5_rebuild_113 : decode cX5_rebuild 113 = .ok (.getfield 52, 3) := by decide +kernel
theorem dX5_rebuild_116 : decode cX5_rebuild 116 = .ok (.iload 5, 2) := by decide +kernel
theorem dX5_rebuild_118 : decode cX5_rebuild 118 = .ok (.iaload, 1) := by decide +kernel
theorem dX5_rebuild_119 : decode cX5_rebuild 119 = .ok (.invokestatic 55, 3) := by decide +kernel
theorem dX5_rebuild_122 : decode cX5_rebuild 122 = .ok (.putfield 26, 3) := by decide +kernel
theorem dX5_rebuild_125 : decode cX5_rebuild 125 = .ok (.iinc 5 1, 3) := by decide +kernel
theorem dX5_rebuild_128 : decode cX5_rebuild 128 = .ok (.goto (-33), 3) := by decide +kernel
theorem dX5_rebuild_131 : decode cX5_rebuild 131 = .ok (.iinc 4 1, 3) := by decide +kernel
theorem dX5_rebuild_134 : decode cX5_rebuild 134 = .ok (.goto (-116), 3) := by decide +kernel
theorem dX5_rebuild_137 : decode cX5_rebuild 137 = .ok (.return_, 1) := by decide +kernel
theorem dX6_init_0 : decode cX6_init 0 = .ok (.aload_n 0, 1) := by decide +kernel
theorem dX6_init_1 : decode cX6_init 1 = .ok (.invokespecial 3, 3) := by decide +kernel
theorem dX6_init_4 : decode cX6_init 4 = .ok (.aload_n 0, 1) := by decide +kernel
theorem dX6_init_5 : decode cX6_init 5 = .ok (.iconst 0, 1) := by decide +kernel
theorem dX6_init_6 : decode cX6_init 6 = .ok (.putfield 9, 3) := by decide +kernel
theorem dX6_init_9 : decode cX6_init 9 = .ok (.aload_n 0, 1) := by decide +kernel
theorem dX6_init_10 : decode cX6_init 10 = .ok (.iconst 0, 1) := by decide +kernel
theorem dX6_init_11 : decode cX6_init 11 = .ok (.putfield 15, 3) := by decide +kernel
theorem dX6_init_14 : decode cX6_init 14 = .ok (.aload_n 0, 1) := by decide +kernel
theorem dX6_init_15 : decode cX6_init 15 = .ok (.iconst 1, 1) := by decide +kernel
theorem dX6_init_16 : decode cX6_init 16 = .ok (.putfield 18, 3) := by decide +kernel
theorem dX6_init_19 : decode cX6_init 19 = .ok (.aload_n 0, 1) := by decide +kernel
theorem dX6_init_20 : decode cX6_init 20 = .ok (.sipush 256, 3) := by decide +kernel
theorem dX6_init_23 : decode cX6_init 23 = .ok (.newarray .int, 2) := by decide +kernel
theorem dX6_init_25 : decode cX6_init 25 = .ok (.putfield 21, 3) := by decide +kernel
theorem dX6_init_28 : decode cX6_init 28 = .ok (.aload_n 0, 1) := by decide +kernel
theorem dX6_init_29 : decode cX6_init 29 = .ok (.bipush 72, 2) := by decide +kernel
theorem dX6_init_31 : decode cX6_init 31 = .ok (.newarray .int, 2) := by decide +kernel
theorem dX6_init_33 : decode cX6_init 33 = .ok (.putfield 25, 3) := by decide +kernel
theorem dX6_init_36 : decode cX6_init 36 = .ok (.aload_n 0, 1) := by decide +kernel
theorem dX6_init_37 : decode cX6_init 37 = .ok (.sipush 1536, 3) := by decide +kernel
theorem dX6_init_40 : decode cX6_init 40 = .ok (.newarray .int, 2) := by decide +kernel
theorem dX6_init_42 : decode cX6_init 42 = .ok (.putfield 28, 3) := by decide +kernel
theorem dX6_init_45 : decode cX6_init 45 = .ok (.aload_n 0, 1) := by decide +kernel
theorem dX6_init_46 : decode cX6_init 46 = .ok (.bipush 16, 2) := by decide +kernel
theorem dX6_init_48 : decode cX6_init 48 = .ok (.newarray .int, 2) := by decide +kernel
theorem dX6_init_50 : decode cX6_init 50 = .ok (.putfield 31, 3) := by decide +kernel
theorem dX6_init_53 : decode cX6_init 53 = .ok (.aload_n 0, 1) := by decide +kernel
theorem dX6_init_54 : decode cX6_init 54 = .ok (.bipush 24, 2) := by decide +kernel
theorem dX6_init_56 : decode cX6_init 56 = .ok (.newarray .int, 2) := by decide +kernel
theorem dX6_init_58 : decode cX6_init 58 = .ok (.putfield 34, 3) := by decide +kernel
theorem dX6_init_61 : decode cX6_init 61 = .ok (.return_, 1) := by decide +kernel
theorem dX6_look_0 : decode cX6_look 0 = .ok (.aload_n 0, 1) := by decide +kernel
theorem dX6_look_1 : decode cX6_look 1 = .ok (.iload_n 1, 1) := by decide +kernel
theorem dX6_look_2 : decode cX6_look 2 = .ok (.putfield 9, 3) := by decide +kernel
theorem dX6_look_5 : decode cX6_look 5 = .ok (.aload_n 0, 1) := by decide +kernel
theorem dX6_look_6 : decode cX6_look 6 = .ok (.iload_n 2, 1) := by decide +kernel
theorem dX6_look_7 : decode cX6_look 7 = .ok (.putfield 15, 3) := by decide +kernel
theorem dX6_look_10 : decode cX6_look 10 = .ok (.aload_n 0, 1) := by decide +kernel
theorem dX6_look_11 : decode cX6_look 11 = .ok (.iload_n 3, 1) := by decide +kernel
theorem dX6_look_12 : decode cX6_look 12 = .ok (.putfield 18, 3) := by decide +kernel
theorem dX6_look_15 : decode cX6_look 15 = .ok (.return_, 1) := by decide +kernel
theorem dX6_rebuild_0 : decode cX6_rebuild 0 = .ok (.aload_n 0, 1) := by decide +kernel
theorem dX6_rebuild_1 : decode cX6_rebuild 1 = .ok (.aload_n 1, 1) := by decide +kernel
theorem dX6_rebuild_2 : decode cX6_rebuild 2 = .ok (.getfield 37, 3) := by decide +kernel
theorem dX6_rebuild_5 : decode cX6_rebuild 5 = .ok (.putfield 42, 3) := by decide +kernel
theorem dX6_rebuild_8 : decode cX6_rebuild 8 = .ok (.iconst 0, 1) := by decide +kernel
theorem dX6_rebuild_9 : decode cX6_rebuild 9 = .ok (.istore_n 2, 1) := by decide +kernel
theorem dX6_rebuild_10 : decode cX6_rebuild 10 = .ok (.iload_n 2, 1) := by decide +kernel
theorem dX6_rebuild_11 : decode cX6_rebuild 11 = .ok (.aload_n 1, 1) := by decide +kernel
theorem dX6_rebuild_12 : decode cX6_rebuild 12 = .ok (.getfield 43, 3) := by decide +kernel
theorem dX6_rebuild_15 : decode cX6_rebuild 15 = .ok (.if_icmp .ge 111, 3) := by decide +kernel
theorem dX6_rebuild_18 : decode cX6_rebuild 18 = .ok (.aload_n 0, 1) := by decide +kernel
theorem dX6_rebuild_19 : decode cX6_rebuild 19 = .ok (.getfield 31, 3) := by decide +kernel
theorem dX6_rebuild_22 : decode cX6_rebuild 22 = .ok (.iload_n 2, 1) := by decide +kernel
theorem dX6_rebuild_23 : decode cX6_rebuild 23 = .ok (.aload_n 0, 1) := by decide +kernel
theorem dX6_rebuild_24 : decode cX6_rebuild 24 = .ok (.getfield 9, 3) := by decide +kernel
theorem dX6_rebuild_27 : decode cX6_rebuild 27 = .ok (.aload_n 1, 1) := by decide +kernel
theorem dX6_rebuild_28 : decode cX6_rebuild 28 = .ok (.getfield 46, 3) := by decide +kernel
theorem dX6_rebuild_31 : decode cX6_rebuild 31 = .ok (.iload_n 2, 1) := by decide +kernel
theorem dX6_rebuild_32 : decode cX6_rebuild 32 = .ok (.iaload, 1) := by decide +kernel
theorem dX6_rebuild_33 : decode cX6_rebuild 33 = .ok (.imul, 1) := by decide +kernel
theorem dX6_rebuild_34 : decode cX6_rebuild 34 = .ok (.aload_n 0, 1) := by decide +kernel
theorem dX6_rebuild_35 : decode cX6_rebuild 35 = .ok (.getfield 15, 3) := by decide +kernel
theorem dX6_rebuild_38 : decode cX6_rebuild 38 = .ok (.aload_n 1, 1) := by decide +kernel
theorem dX6_rebuild_39 : decode cX6_rebuild 39 = .ok (.getfield 49, 3) := by decide +kernel
theorem dX6_rebuild_42 : decode cX6_rebuild 42 = .ok (.iload_n 2, 1) := by decide +kernel
theorem dX6_rebuild_43 : decode cX6_rebuild 43 = .ok (.iaload, 1) := by decide +kernel
theorem dX6_rebuild_44 : decode cX6_rebuild 44 = .ok (.imul, 1) := by decide +kernel
theorem dX6_rebuild_45 : decode cX6_rebuild 45 = .ok (.iadd, 1) := by decide +kernel
theorem dX6_rebuild_46 : decode cX6_rebuild 46 = .ok (.aload_n 0, 1) := by decide +kernel
theorem dX6_rebuild_47 : decode cX6_rebuild 47 = .ok (.getfield 18, 3) := by decide +kernel
theorem dX6_rebuild_50 : decode cX6_rebuild 50 = .ok (.aload_n 1, 1) := by decide +kernel
theorem dX6_rebuild_51 : decode cX6_rebuild 51 = .ok (.getfield 52, 3) := by decide +kernel
theorem dX6_rebuild_54 : decode cX6_rebuild 54 = .ok (.iload_n 2, 1) := by decide +kernel
theorem dX6_rebuild_55 : decode cX6_rebuild 55 = .ok (.iaload, 1) := by decide +kernel
theorem dX6_rebuild_56 : decode cX6_rebuild 56 = .ok (.imul, 1) := by decide +kernel
theorem dX6_rebuild_57 : decode cX6_rebuild 57 = .ok (.iadd, 1) := by decide +kernel
theorem dX6_rebuild_58 : decode cX6_rebuild 58 = .ok (.iastore, 1) := by decide +kernel
theorem dX6_rebuild_59 : decode cX6_rebuild 59 = .ok (.iconst 0, 1) := by decide +kernel
theorem dX6_rebuild_60 : decode cX6_rebuild 60 = .ok (.istore_n 3, 1) := by decide +kernel
theorem dX6_rebuild_61 : decode cX6_rebuild 61 = .ok (.iload_n 3, 1) := by decide +kernel
theorem dX6_rebuild_62 : decode cX6_rebuild 62 = .ok (.iload_n 2, 1) := by decide +kernel
theorem dX6_rebuild_63 : decode cX6_rebuild 63 = .ok (.if_icmp .ge 45, 3) := by decide +kernel
theorem dX6_rebuild_66 : decode cX6_rebuild 66 = .ok (.aload_n 0, 1) := by decide +kernel
theorem dX6_rebuild_67 : decode cX6_rebuild 67 = .ok (.aload_n 1, 1) := by decide +kernel
theorem dX6_rebuild_68 : decode cX6_rebuild 68 = .ok (.iload_n 2, 1) := by decide +kernel
theorem dX6_rebuild_69 : decode cX6_rebuild 69 = .ok (.iload_n 3, 1) := by decide +kernel
theorem dX6_rebuild_70 : decode cX6_rebuild 70 = .ok (.invokevirtual 55, 3) := by decide +kernel
theorem dX6_rebuild_73 : decode cX6_rebuild 73 = .ok (.istore 4, 2) := by decide +kernel
theorem dX6_rebuild_75 : decode cX6_rebuild 75 = .ok (.aload_n 0, 1) := by decide +kernel
theorem dX6_rebuild_76 : decode cX6_rebuild 76 = .ok (.getfield 21, 3) := by decide +kernel
theorem dX6_rebuild_79 : decode cX6_rebuild 79 = .ok (.iload_n 2, 1) := by decide +kernel
theorem dX6_rebuild_80 : decode cX6_rebuild 80 = .ok (.bipush 16, 2) := by decide +kernel
theorem dX6_rebuild_82 : decode cX6_rebuild 82 = .ok (.imul, 1) := by decide +kernel
theorem dX6_rebuild_83 : decode cX6_rebuild 83 = .ok (.iload_n 3, 1) := by decide +kernel
theorem dX6_rebuild_84 : decode cX6_rebuild 84 = .ok (.iadd, 1) := by decide +kernel
theorem dX6_rebuild_85 : decode cX6_rebuild 85 = .ok (.iload 4, 2) := by decide +kernel
theorem dX6_rebuild_87 : decode cX6_rebuild 87 = .ok (.iastore, 1) := by decide +kernel
theorem dX6_rebuild_88 : decode cX6_rebuild 88 = .ok (.aload_n 0, 1) := by decide +kernel
theorem dX6_rebuild_89 : decode cX6_rebuild 89 = .ok (.getfield 21, 3) := by decide +kernel
theorem dX6_rebuild_92 : decode cX6_rebuild 92 = .ok (.iload_n 3, 1) := by decide +kernel
theorem dX6_rebuild_93 : decode cX6_rebuild 93 = .ok (.bipush 16, 2) := by decide +kernel
theorem dX6_rebuild_95 : decode cX6_rebuild 95 = .ok (.imul, 1) := by decide +kernel
theorem dX6_rebuild_96 : decode cX6_rebuild 96 = .ok (.iload_n 2, 1) := by decide +kernel
theorem dX6_rebuild_97 : decode cX6_rebuild 97 = .ok (.iadd, 1) := by decide +kernel
theorem dX6_rebuild_98 : decode cX6_rebuild 98 = .ok (.iload 4, 2) := by decide +kernel
theorem dX6_rebuild_100 : decode cX6_rebuild 100 = .ok (.ineg, 1) := by decide +kernel
theorem dX6_rebuild_101 : decode cX6_rebuild 101 = .ok (.iastore, 1) := by decide +kernel
theorem dX6_rebuild_102 : decode cX6_rebuild 102 = .ok (.iinc 3 1, 3) := by decide +kernel
theorem dX6_rebuild_105 : decode cX6_rebuild 105 = .ok (.goto (-44), 3) := by decide +kernel
theorem dX6_rebuild_108 : decode cX6_rebuild 108 = .ok (.aload_n 0, 1) := by decide +kernel
theorem dX6_rebuild_109 : decode cX6_rebuild 109 = .ok (.getfield 21, 3) := by decide +kernel
theorem dX6_rebuild_112 : decode cX6_rebuild 112 = .ok (.iload_n 2, 1) := by decide +kernel
theorem dX6_rebuild_113 : decode cX6_rebuild 113 = .ok (.bipush 16, 2) := by decide +kernel
theorem dX6_rebuild_115 : decode cX6_rebuild 115 = .ok (.imul, 1) := by decide +kernel
theorem dX6_rebuild_116 : decode cX6_rebuild 116 = .ok (.iload_n 2, 1) := by decide +kernel
theorem dX6_rebuild_117 : decode cX6_rebuild 117 = .ok (.iadd, 1) := by decide +kernel
theorem dX6_rebuild_118 : decode cX6_rebuild 118 = .ok (.iconst 0, 1) := by decide +kernel
theorem dX6_rebuild_119 : decode cX6_rebuild 119 = .ok (.iastore, 1) := by decide +kernel
theorem dX6_rebuild_120 : decode cX6_rebuild 120 = .ok (.iinc 2 1, 3) := by decide +kernel
theorem dX6_rebuild_123 : decode cX6_rebuild 123 = .ok (.goto (-113), 3) := by decide +kernel
theorem dX6_rebuild_126 : decode cX6_rebuild 126 = .ok (.iconst 0, 1) := by decide +kernel
theorem dX6_rebuild_127 : decode cX6_rebuild 127 = .ok (.istore_n 2, 1) := by decide +kernel
theorem dX6_rebuild_128 : decode cX6_rebuild 128 = .ok (.iload_n 2, 1) := by decide +kernel
theorem dX6_rebuild_129 : decode cX6_rebuild 129 = .ok (.aload_n 0, 1) := by decide +kernel
theorem dX6_rebuild_130 : decode cX6_rebuild 130 = .ok (.getfield 42, 3) := by decide +kernel
theorem dX6_rebuild_133 : decode cX6_rebuild 133 = .ok (.if_icmp .ge 66, 3) := by decide +kernel
theorem dX6_rebuild_136 : decode cX6_rebuild 136 = .ok (.aload_n 0, 1) := by decide +kernel
theorem dX6_rebuild_137 : decode cX6_rebuild 137 = .ok (.aload_n 1, 1) := by decide +kernel
theorem dX6_rebuild_138 : decode cX6_rebuild 138 = .ok (.iload_n 2, 1) := by decide +kernel
theorem dX6_rebuild_139 : decode cX6_rebuild 139 = .ok (.invokevirtual 59, 3) := by decide +kernel
theorem dX6_rebuild_142 : decode cX6_rebuild 142 = .ok (.aload_n 0, 1) := by decide +kernel
theorem dX6_rebuild_143 : decode cX6_rebuild 143 = .ok (.getfield 34, 3) := by decide +kernel
theorem dX6_rebuild_146 : decode cX6_rebuild 146 = .ok (.iload_n 2, 1) := by decide +kernel
theorem dX6_rebuild_147 : decode cX6_rebuild 147 = .ok (.aload_n 0, 1) := by decide +kernel
theorem dX6_rebuild_148 : decode cX6_rebuild 148 = .ok (.aload_n 1, 1) := by decide +kernel
theorem dX6_rebuild_149 : decode cX6_rebuild 149 = .ok (.iload_n 2, 1) := by decide +kernel
theorem dX6_rebuild_150 : decode cX6_rebuild 150 = .ok (.iconst 0, 1) := by decide +kernel
theorem dX6_rebuild_151 : decode cX6_rebuild 151 = .ok (.invokevirtual 63, 3) := by decide +kernel
theorem dX6_rebuild_154 : decode cX6_rebuild 154 = .ok (.aload_n 1, 1) := by decide +kernel
theorem dX6_rebuild_155 : decode cX6_rebuild 155 = .ok (.iload_n 2, 1) := by decide +kernel
theorem dX6_rebuild_156 : decode cX6_rebuild 156 = .ok (.iconst 1, 1) := by decide +kernel
theorem dX6_rebuild_157 : decode cX6_rebuild 157 = .ok (.invokevirtual 63, 3) := by decide +kernel
theorem dX6_rebuild_160 : decode cX6_rebuild 160 = .ok (.aload_n 1, 1) := by decide +kernel
theorem dX6_rebuild_161 : decode cX6_rebuild 161 = .ok (.iload_n 2, 1) := by decide +kernel
theorem dX6_rebuild_162 : decode cX6_rebuild 162 = .ok (.iconst 2, 1) := by decide +kernel
theorem dX6_rebuild_163 : decode cX6_rebuild 163 = .ok (.invokevirtual 63, 3) := by decide +kernel
theorem dX6_rebuild_166 : decode cX6_rebuild 166 = .ok (.invokevirtual 67, 3) := by decide +kernel
theorem dX6_rebuild_169 : decode cX6_rebuild 169 = .ok (.iastore, 1) := by decide +kernel
theorem dX6_rebuild_170 : decode cX6_rebuild 170 = .ok (.iconst 0, 1) := by decide +kernel
theorem dX6_rebuild_171 : decode cX6_rebuild 171 = .ok (.istore_n 3, 1) := by decide +kernel
theorem dX6_rebuild_172 : decode cX6_rebuild 172 = .ok (.iload_n 3, 1) := by decide +kernel
theorem dX6_rebuild_173 : decode cX6_rebuild 173 = .ok (.aload_n 1, 1) := by decide +kernel
theorem dX6_rebuild_174 : decode cX6_rebuild 174 = .ok (.getfield 43, 3) := by decide +kernel
theorem dX6_rebuild_177 : decode cX6_rebuild 177 = .ok (.if_icmp .ge 16, 3) := by decide +kernel
theorem dX6_rebuild_180 : decode cX6_rebuild 180 = .ok (.aload_n 0, 1) := by decide +kernel
theorem dX6_rebuild_181 : decode cX6_rebuild 181 = .ok (.aload_n 1, 1) := by decide +kernel
theorem dX6_rebuild_182 : decode cX6_rebuild 182 = .ok (.iload_n 2, 1) := by decide +kernel
theorem dX6_rebuild_183 : decode cX6_rebuild 183 = .ok (.iload_n 3, 1) := by decide +kernel
theorem dX6_rebuild_184 : decode cX6_rebuild 184 = .ok (.invokevirtual 71, 3) := by decide +kernel
theorem dX6_rebuild_187 : decode cX6_rebuild 187 = .ok (.iinc 3 1, 3) := by decide +kernel
theorem dX6_rebuild_190 : decode cX6_rebuild 190 = .ok (.goto (-18), 3) := by decide +kernel
theorem dX6_rebuild_193 : decode cX6_rebuild 193 = .ok (.iinc 2 1, 3) := by decide +kernel
theorem dX6_rebuild_196 : decode cX6_rebuild 196 = .ok (.goto (-68), 3) := by decide +kernel
theorem dX6_rebuild_199 : decode cX6_rebuild 199 = .ok (.return_, 1) := by decide +kernel
theorem dX6_volumeOf_0 : decode cX6_volumeOf 0 = .ok (.aload_n 1, 1) := by decide +kernel
theorem dX6_volumeOf_1 : decode cX6_volumeOf 1 = .ok (.getfield 46, 3) := by decide +kernel
theorem dX6_volumeOf_4 : decode cX6_volumeOf 4 = .ok (.astore 4, 2) := by decide +kernel
theorem dX6_volumeOf_6 : decode cX6_volumeOf 6 = .ok (.aload_n 1, 1) := by decide +kernel
theorem dX6_volumeOf_7 : decode cX6_volumeOf 7 = .ok (.getfield 49, 3) := by decide +kernel
theorem dX6_volumeOf_10 : decode cX6_volumeOf 10 = .ok (.astore 5, 2) := by decide +kernel
theorem dX6_volumeOf_12 : decode cX6_volumeOf 12 = .ok (.aload_n 1, 1) := by decide +kernel
theorem dX6_volumeOf_13 : decode cX6_volumeOf 13 = .ok (.getfield 52, 3) := by decide +kernel
theorem dX6_volumeOf_16 : decode cX6_volumeOf 16 = .ok (.astore 6, 2) := by decide +kernel
theorem dX6_volumeOf_18 : decode cX6_volumeOf 18 = .ok (.aload_n 0, 1) := by decide +kernel
theorem dX6_volumeOf_19 : decode cX6_volumeOf 19 = .ok (.getfield 9, 3) := by decide +kernel
theorem dX6_volumeOf_22 : decode cX6_volumeOf 22 = .ok (.aload 5, 2) := by decide +kernel
theorem dX6_volumeOf_24 : decode cX6_volumeOf 24 = .ok (.iload_n 2, 1) := by decide +kernel
theorem dX6_volumeOf_25 : decode cX6_volumeOf 25 = .ok (.iaload, 1) := by decide +kernel
theorem dX6_volumeOf_26 : decode cX6_volumeOf 26 = .ok (.aload 6, 2) := by decide +kernel
theorem dX6_volumeOf_28 : decode cX6_volumeOf 28 = .ok (.iload_n 3, 1) := by decide +kernel
theorem dX6_volumeOf_29 : decode cX6_volumeOf 29 = .ok (.iaload, 1) := by decide +kernel
theorem dX6_volumeOf_30 : decode cX6_volumeOf 30 = .ok (.imul, 1) := by decide +kernel
theorem dX6_volumeOf_31 : decode cX6_volumeOf 31 = .ok (.aload 6, 2) := by decide +kernel
theorem dX6_volumeOf_33 : decode cX6_volumeOf 33 = .ok (.iload_n 2, 1) := by decide +kernel
theorem dX6_volumeOf_34 : decode cX6_volumeOf 34 = .ok (.iaload, 1) := by decide +kernel
theorem dX6_volumeOf_35 : decode cX6_volumeOf 35 = .ok (.aload 5, 2) := by decide +kernel
theorem dX6_volumeOf_37 : decode cX6_volumeOf 37 = .ok (.iload_n 3, 1) := by decide +kernel
theorem dX6_volumeOf_38 : decode cX6_volumeOf 38 = .ok (.iaload, 1) := by decide +kernel
theorem dX6_volumeOf_39 : decode cX6_volumeOf 39 = .ok (.imul, 1) := by decide +kernel
theorem dX6_volumeOf_40 : decode cX6_volumeOf 40 = .ok (.isub, 1) := by decide +kernel
theorem dX6_volumeOf_41 : decode cX6_volumeOf 41 = .ok (.imul, 1) := by decide +kernel
theorem dX6_volumeOf_42 : decode cX6_volumeOf 42 = .ok (.aload_n 0, 1) := by decide +kernel
theorem dX6_volumeOf_43 : decode cX6_volumeOf 43 = .ok (.getfield 15, 3) := by decide +kernel
theorem dX6_volumeOf_46 : decode cX6_volumeOf 46 = .ok (.aload 6, 2) := by decide +kernel
theorem dX6_volumeOf_48 : decode cX6_volumeOf 48 = .ok (.iload_n 2, 1) := by decide +kernel
theorem dX6_volumeOf_49 : decode cX6_volumeOf 49 = .ok (.iaload, 1) := by decide +kernel
theorem dX6_volumeOf_50 : decode cX6_volumeOf 50 = .ok (.aload 4, 2) := by decide +kernel
theorem dX6_volumeOf_52 : decode cX6_volumeOf 52 = .ok (.iload_n 3, 1) := by decide +kernel
theorem dX6_volumeOf_53 : decode cX6_volumeOf 53 = .ok (.iaload, 1) := by decide +kernel
theorem dX6_volumeOf_54 : decode cX6_volumeOf 54 = .ok (.imul, 1) := by decide +kernel
theorem dX6_volumeOf_55 : decode cX6_volumeOf 55 = .ok (.aload 4, 2) := by decide +kernel
theorem dX6_volumeOf_57 : decode cX6_volumeOf 57 = .ok (.iload_n 2, 1) := by decide +kernel
theorem dX6_volumeOf_58 : decode cX6_volumeOf 58 = .ok (.iaload, 1) := by decide +kernel
theorem dX6_volumeOf_59 : decode cX6_volumeOf 59 = .ok (.aload 6, 2) := by decide +kernel
theorem dX6_volumeOf_61 : decode cX6_volumeOf 61 = .ok (.iload_n 3, 1) := by decide +kernel
theorem dX6_volumeOf_62 : decode cX6_volumeOf 62 = .ok (.iaload, 1) := by decide +kernel
theorem dX6_volumeOf_63 : decode cX6_volumeOf 63 = .ok (.imul, 1) := by decide +kernel
theorem dX6_volumeOf_64 : decode cX6_volumeOf 64 = .ok (.isub, 1) := by decide +kernel
theorem dX6_volumeOf_65 : decode cX6_volumeOf 65 = .ok (.imul, 1) := by decide +kernel
theorem dX6_volumeOf_66 : decode cX6_volumeOf 66 = .ok (.iadd, 1) := by decide +kernel
theorem dX6_volumeOf_67 : decode cX6_volumeOf 67 = .ok (.aload_n 0, 1) := by decide +kernel
theorem dX6_volumeOf_68 : decode cX6_volumeOf 68 = .ok (.getfield 18, 3) := by decide +kernel
theorem dX6_volumeOf_71 : decode cX6_volumeOf 71 = .ok (.aload 4, 2) := by decide +kernel
theorem dX6_volumeOf_73 : decode cX6_volumeOf 73 = .ok (.iload_n 2, 1) := by decide +kernel
theorem dX6_volumeOf_74 : decode cX6_volumeOf 74 = .ok (.iaload, 1) := by decide +kernel
theorem dX6_volumeOf_75 : decode cX6_volumeOf 75 = .ok (.aload 5, 2) := by decide +kernel
theorem dX6_volumeOf_77 : decode cX6_volumeOf 77 = .ok (.iload_n 3, 1) := by decide +kernel
theorem dX6_volumeOf_78 : decode cX6_volumeOf 78 = .ok (.iaload, 1) := by decide +kernel
theorem dX6_volumeOf_79 : decode cX6_volumeOf 79 = .ok (.imul, 1) := by decide +kernel
theorem dX6_volumeOf_80 : decode cX6_volumeOf 80 = .ok (.aload 5, 2) := by decide +kernel
theorem dX6_volumeOf_82 : decode cX6_volumeOf 82 = .ok (.iload_n 2, 1) := by decide +kernel
theorem dX6_volumeOf_83 : decode cX6_volumeOf 83 = .ok (.iaload, 1) := by decide +kernel
theorem dX6_volumeOf_84 : decode cX6_volumeOf 84 = .ok (.aload 4, 2) := by decide +kernel
theorem dX6_volumeOf_86 : decode cX6_volumeOf 86 = .ok (.iload_n 3, 1) := by decide +kernel
theorem dX6_volumeOf_87 : decode cX6_volumeOf 87 = .ok (.iaload, 1) := by decide +kernel
theorem dX6_volumeOf_88 : decode cX6_volumeOf 88 = .ok (.imul, 1) := by decide +kernel
theorem dX6_volumeOf_89 : decode cX6_volumeOf 89 = .ok (.isub, 1) := by decide +kernel
theorem dX6_volumeOf_90 : decode cX6_volumeOf 90 = .ok (.imul, 1) := by decide +kernel
theorem dX6_volumeOf_91 : decode cX6_volumeOf 91 = .ok (.iadd, 1) := by decide +kernel
theorem dX6_volumeOf_92 : decode cX6_volumeOf 92 = .ok (.ireturn, 1) := by decide +kernel
theorem dX6_fillNormal_0 : decode cX6_fillNormal 0 = .ok (.aload_n 1, 1) := by decide +kernel
theorem dX6_fillNormal_1 : decode cX6_fillNormal 1 = .ok (.iload_n 2, 1) := by decide +kernel
theorem dX6_fillNormal_2 : decode cX6_fillNormal 2 = .ok (.iconst 0, 1) := by decide +kernel
theorem dX6_fillNormal_3 : decode cX6_fillNormal 3 = .ok (.invokevirtual 63, 3) := by decide +kernel
theorem dX6_fillNormal_6 : decode cX6_fillNormal 6 = .ok (.istore_n 3, 1) := by decide +kernel
theorem dX6_fillNormal_7 : decode cX6_fillNormal 7 = .ok (.aload_n 1, 1) := by decide +kernel
theorem dX6_fillNormal_8 : decode cX6_fillNormal 8 = .ok (.iload_n 2, 1) := by decide +kernel
theorem dX6_fillNormal_9 : decode cX6_fillNormal 9 = .ok (.iconst 1, 1) := by decide +kernel
theorem dX6_fillNormal_10 : decode cX6_fillNormal 10 = .ok (.invokevirtual 63, 3) := by decide +kernel
theorem dX6_fillNormal_13 : decode cX6_fillNormal 13 = .ok (.istore 4, 2) := by decide +kernel
theorem dX6_fillNormal_15 : decode cX6_fillNormal 15 = .ok (.aload_n 1, 1) := by decide +kernel
theorem dX6_fillNormal_16 : decode cX6_fillNormal 16 = .ok (.iload_n 2, 1) := by decide +kernel
theorem dX6_fillNormal_17 : decode cX6_fillNormal 17 = .ok (.iconst 2, 1) := by decide +kernel
theorem dX6_fillNormal_18 : decode cX6_fillNormal 18 = .ok (.invokevirtual 63, 3) := by decide +kernel
theorem dX6_fillNormal_21 : decode cX6_fillNormal 21 = .ok (.istore 5, 2) := by decide +kernel
theorem dX6_fillNormal_23 : decode cX6_fillNormal 23 = .ok (.aload_n 0, 1) := by decide +kernel
theorem dX6_fillNormal_24 : decode cX6_fillNormal 24 = .ok (.getfield 25, 3) := by decide +kernel
theorem dX6_fillNormal_27 : decode cX6_fillNormal 27 = .ok (.iconst 3, 1) := by decide +kernel
theorem dX6_fillNormal_28 : decode cX6_fillNormal 28 = .ok (.iload_n 2, 1) := by decide +kernel
theorem dX6_fillNormal_29 : decode cX6_fillNormal 29 = .ok (.imul, 1) := by decide +kernel
theorem dX6_fillNormal_30 : decode cX6_fillNormal 30 = .ok (.aload_n 1, 1) := by decide +kernel
theorem dX6_fillNormal_31 : decode cX6_fillNormal 31 = .ok (.getfield 49, 3) := by decide +kernel
theorem dX6_fillNormal_34 : decode cX6_fillNormal 34 = .ok (.aload_n 1, 1) := by decide +kernel
theorem dX6_fillNormal_35 : decode cX6_fillNormal 35 = .ok (.getfield 52, 3) := by decide +kernel
theorem dX6_fillNormal_38 : decode cX6_fillNormal 38 = .ok (.iload_n 3, 1) := by decide +kernel
theorem dX6_fillNormal_39 : decode cX6_fillNormal 39 = .ok (.iload 4, 2) := by decide +kernel
theorem dX6_fillNormal_41 : decode cX6_fillNormal 41 = .ok (.iload 5, 2) := by decide +kernel
theorem dX6_fillNormal_43 : decode cX6_fillNormal 43 = .ok (.invokestatic 75, 3) := by decide +kernel
theorem dX6_fillNormal_46 : decode cX6_fillNormal 46 = .ok (.iastore, 1) := by decide +kernel
theorem dX6_fillNormal_47 : decode cX6_fillNormal 47 = .ok (.aload_n 0, 1) := by decide +kernel
theorem dX6_fillNormal_48 : decode cX6_fillNormal 48 = .ok (.getfield 25, 3) := by decide +kernel
theorem dX6_fillNormal_51 : decode cX6_fillNormal 51 = .ok (.iconst 3, 1) := by decide +kernel
theorem dX6_fillNormal_52 : decode cX6_fillNormal 52 = .ok (.iload_n 2, 1) := by decide +kernel
theorem dX6_fillNormal_53 : decode cX6_fillNormal 53 = .ok (.imul, 1) := by decide +kernel
theorem dX6_fillNormal_54 : decode cX6_fillNormal 54 = .ok (.iconst 1, 1) := by decide +kernel
theorem dX6_fillNormal_55 : decode cX6_fillNormal 55 = .ok (.iadd, 1) := by decide +kernel
theorem dX6_fillNormal_56 : decode cX6_fillNormal 56 = .ok (.aload_n 1, 1) := by decide +kernel
theorem dX6_fillNormal_57 : decode cX6_fillNormal 57 = .ok (.getfield 52, 3) := by decide +kernel
theorem dX6_fillNormal_60 : decode cX6_fillNormal 60 = .ok (.aload_n 1, 1) := by decide +kernel
theorem dX6_fillNormal_61 : decode cX6_fillNormal 61 = .ok (.getfield 46, 3) := by decide +kernel
theorem dX6_fillNormal_64 : decode cX6_fillNormal 64 = .ok (.iload_n 3, 1) := by decide +kernel
theorem dX6_fillNormal_65 : decode cX6_fillNormal 65 = .ok (.iload 4, 2) := by decide +kernel
theorem dX6_fillNormal_67 : decode cX6_fillNormal 67 = .ok (.iload 5, 2) := by decide +kernel
theorem dX6_fillNormal_69 : decode cX6_fillNormal 69 = .ok (.invokestatic 75, 3) := by decide +kernel
theorem dX6_fillNormal_72 : decode cX6_fillNormal 72 = .ok (.iastore, 1) := by decide +kernel
theorem dX6_fillNormal_73 : decode cX6_fillNormal 73 = .ok (.aload_n 0, 1) := by decide +kernel
theorem dX6_fillNormal_74 : decode cX6_fillNormal 74 = .ok (.getfield 25, 3) := by decide +kernel
theorem dX6_fillNormal_77 : decode cX6_fillNormal 77 = .ok (.iconst 3, 1) := by decide +kernel
theorem dX6_fillNormal_78 : decode cX6_fillNormal 78 = .ok (.iload_n 2, 1) := by decide +kernel
theorem dX6_fillNormal_79 : decode cX6_fillNormal 79 = .ok (.imul, 1) := by decide +kernel
theorem dX6_fillNormal_80 : decode cX6_fillNormal 80 = .ok (.iconst 2, 1) := by decide +kernel
theorem dX6_fillNormal_81 : decode cX6_fillNormal 81 = .ok (.iadd, 1) := by decide +kernel
theorem dX6_fillNormal_82 : decode cX6_fillNormal 82 = .ok (.aload_n 1, 1) := by decide +kernel
theorem dX6_fillNormal_83 : decode cX6_fillNormal 83 = .ok (.getfield 46, 3) := by decide +kernel
theorem dX6_fillNormal_86 : decode cX6_fillNormal 86 = .ok (.aload_n 1, 1) := by decide +kernel
theorem dX6_fillNormal_87 : decode cX6_fillNormal 87 = .ok (.getfield 49, 3) := by decide +kernel
theorem dX6_fillNormal_90 : decode cX6_fillNormal 90 = .ok (.iload_n 3, 1) := by decide +kernel
theorem dX6_fillNormal_91 : decode cX6_fillNormal 91 = .ok (.iload 4, 2) := by decide +kernel
theorem dX6_fillNormal_93 : decode cX6_fillNormal 93 = .ok (.iload 5, 2) := by decide +kernel
theorem dX6_fillNormal_95 : decode cX6_fillNormal 95 = .ok (.invokestatic 75, 3) := by decide +kernel
theorem dX6_fillNormal_98 : decode cX6_fillNormal 98 = .ok (.iastore, 1) := by decide +kernel
theorem dX6_fillNormal_99 : decode cX6_fillNormal 99 = .ok (.return_, 1) := by decide +kernel
theorem dX6_fillMargins_0 : decode cX6_fillMargins 0 = .ok (.aload_n 0, 1) := by decide +kernel
theorem dX6_fillMargins_1 : decode cX6_fillMargins 1 = .ok (.getfield 34, 3) := by decide +kernel
theorem dX6_fillMargins_4 : decode cX6_fillMargins 4 = .ok (.iload_n 2, 1) := by decide +kernel
theorem dX6_fillMargins_5 : decode cX6_fillMargins 5 = .ok (.iaload, 1) := by decide +kernel
theorem dX6_fillMargins_6 : decode cX6_fillMargins 6 = .ok (.ifCond .le 7, 3) := by decide +kernel
theorem dX6_fillMargins_9 : decode cX6_fillMargins 9 = .ok (.iconst 1, 1) := by decide +kernel
theorem dX6_fillMargins_10 : decode cX6_fillMargins 10 = .ok (.goto 17, 3) := by decide +kernel
theorem dX6_fillMargins_13 : decode cX6_fillMargins 13 = .ok (.aload_n 0, 1) := by decide +kernel
theorem dX6_fillMargins_14 : decode cX6_fillMargins 14 = .ok (.getfield 34, 3) := by decide +kernel
theorem dX6_fillMargins_17 : decode cX6_fillMargins 17 = .ok (.iload_n 2, 1) := by decide +kernel
theorem dX6_fillMargins_18 : decode cX6_fillMargins 18 = .ok (.iaload, 1) := by decide +kernel
theorem dX6_fillMargins_19 : decode cX6_fillMargins 19 = .ok (.ifCond .ge 7, 3) := by decide +kernel
theorem dX6_fillMargins_22 : decode cX6_fillMargins 22 = .ok (.iconst (-1), 1) := by decide +kernel
theorem dX6_fillMargins_23 : decode cX6_fillMargins 23 = .ok (.goto 4, 3) := by decide +kernel
theorem dX6_fillMargins_26 : decode cX6_fillMargins 26 = .ok (.iconst 0, 1) := by decide +kernel
theorem dX6_fillMargins_27 : decode cX6_fillMargins 27 = .ok (.istore 4, 2) := by decide +kernel
theorem dX6_fillMargins_29 : decode cX6_fillMargins 29 = .ok (.aload_n 1, 1) := by decide +kernel
theorem dX6_fillMargins_30 : decode cX6_fillMargins 30 = .ok (.iload_n 2, 1) := by decide +kernel
theorem dX6_fillMargins_31 : decode cX6_fillMargins 31 = .ok (.iconst 0, 1) := by decide +kernel
theorem dX6_fillMargins_32 : decode cX6_fillMargins 32 = .ok (.invokevirtual 63, 3) := by decide +kernel
theorem dX6_fillMargins_35 : decode cX6_fillMargins 35 = .ok (.istore 5, 2) := by decide +kernel
theorem dX6_fillMargins_37 : decode cX6_fillMargins 37 = .ok (.aload_n 1, 1) := by decide +kernel
theorem dX6_fillMargins_38 : decode cX6_fillMargins 38 = .ok (.iload_n 2, 1) := by decide +kernel
theorem dX6_fillMargins_39 : decode cX6_fillMargins 39 = .ok (.iconst 1, 1) := by decide +kernel
theorem dX6_fillMargins_40 : decode cX6_fillMargins 40 = .ok (.invokevirtual 63, 3) := by decide +kernel
theorem dX6_fillMargins_43 : decode cX6_fillMargins 43 = .ok (.istore 6, 2) := by decide +kernel
theorem dX6_fillMargins_45 : decode cX6_fillMargins 45 = .ok (.aload_n 1, 1) := by decide +kernel
theorem dX6_fillMargins_46 : decode cX6_fillMargins 46 = .ok (.iload_n 2, 1) := by decide +kernel
theorem dX6_fillMargins_47 : decode cX6_fillMargins 47 = .ok (.iconst 2, 1) := by decide +kernel
theorem dX6_fillMargins_48 : decode cX6_fillMargins 48 = .ok (.invokevirtual 63, 3) := by decide +kernel
theorem dX6_fillMargins_51 : decode cX6_fillMargins 51 = .ok (.istore 7, 2) := by decide +kernel
theorem dX6_fillMargins_53 : decode cX6_fillMargins 53 = .ok (.iload_n 2, 1) := by decide +kernel
theorem dX6_fillMargins_54 : decode cX6_fillMargins 54 = .ok (.iload_n 3, 1) := by decide +kernel
theorem dX6_fillMargins_55 : decode cX6_fillMargins 55 = .ok (.invokestatic 79, 3) := by decide +kernel
theorem dX6_fillMargins_58 : decode cX6_fillMargins 58 = .ok (.istore 8, 2) := by decide +kernel
theorem dX6_fillMargins_60 : decode cX6_fillMargins 60 = .ok (.aload_n 0, 1) := by decide +kernel
theorem dX6_fillMargins_61 : decode cX6_fillMargins 61 = .ok (.getfield 28, 3) := by decide +kernel
theorem dX6_fillMargins_64 : decode cX6_fillMargins 64 = .ok (.iload 8, 2) := by decide +kernel
theorem dX6_fillMargins_66 : decode cX6_fillMargins 66 = .ok (.iload 4, 2) := by decide +kernel
theorem dX6_fillMargins_68 : decode cX6_fillMargins 68 = .ok (.aload_n 0, 1) := by decide +kernel
theorem dX6_fillMargins_69 : decode cX6_fillMargins 69 = .ok (.iload 5, 2) := by decide +kernel
theorem dX6_fillMargins_71 : decode cX6_fillMargins 71 = .ok (.iload 6, 2) := by decide +kernel
theorem dX6_fillMargins_73 : decode cX6_fillMargins 73 = .ok (.iload_n 3, 1) := by decide +kernel
theorem dX6_fillMargins_74 : decode cX6_fillMargins 74 = .ok (.invokevirtual 67, 3) := by decide +kernel
theorem dX6_fillMargins_77 : decode cX6_fillMargins 77 = .ok (.imul, 1) := by decide +kernel
theorem dX6_fillMargins_78 : decode cX6_fillMargins 78 = .ok (.iastore, 1) := by decide +kernel
theorem dX6_fillMargins_79 : decode cX6_fillMargins 79 = .ok (.aload_n 0, 1) := by decide +kernel
theorem dX6_fillMargins_80 : decode cX6_fillMargins 80 = .ok (.getfield 28, 3) := by decide +kernel
theorem dX6_fillMargins_83 : decode cX6_fillMargins 83 = .ok (.iload 8, 2) := by decide +kernel
theorem dX6_fillMargins_85 : decode cX6_fillMargins 85 = .ok (.iconst 1, 1) := by decide +kernel
theorem dX6_fillMargins_86 : decode cX6_fillMargins 86 = .ok (.iadd, 1) := by decide +kernel
theorem dX6_fillMargins_87 : decode cX6_fillMargins 87 = .ok (.iload 4, 2) := by decide +kernel
theorem dX6_fillMargins_89 : decode cX6_fillMargins 89 = .ok (.aload_n 0, 1) := by decide +kernel
theorem dX6_fillMargins_90 : decode cX6_fillMargins 90 = .ok (.iload 6, 2) := by decide +kernel
theorem dX6_fillMargins_92 : decode cX6_fillMargins 92 = .ok (.iload 7, 2) := by decide +kernel
theorem dX6_fillMargins_94 : decode cX6_fillMargins 94 = .ok (.iload_n 3, 1) := by decide +kernel
theorem dX6_fillMargins_95 : decode cX6_fillMargins 95 = .ok (.invokevirtual 67, 3) := by decide +kernel
theorem dX6_fillMargins_98 : decode cX6_fillMargins 98 = .ok (.imul, 1) := by decide +kernel
theorem dX6_fillMargins_99 : decode cX6_fillMargins 99 = .ok (.iastore, 1) := by decide +kernel
theorem dX6_fillMargins_100 : decode cX6_fillMargins 100 = .ok (.aload_n 0, 1) := by decide +kernel
theorem dX6_fillMargins_101 : decode cX6_fillMargins 101 = .ok (.getfield 28, 3) := by decide +kernel
theorem dX6_fillMargins_104 : decode cX6_fillMargins 104 = .ok (.iload 8, 2) := by decide +kernel
theorem dX6_fillMargins_106 : decode cX6_fillMargins 106 = .ok (.iconst 2, 1) := by decide +kernel
theorem dX6_fillMargins_107 : decode cX6_fillMargins 107 = .ok (.iadd, 1) := by decide +kernel
theorem dX6_fillMargins_108 : decode cX6_fillMargins 108 = .ok (.iload 4, 2) := by decide +kernel
theorem dX6_fillMargins_110 : decode cX6_fillMargins 110 = .ok (.aload_n 0, 1) := by decide +kernel
theorem dX6_fillMargins_111 : decode cX6_fillMargins 111 = .ok (.iload 7, 2) := by decide +kernel
theorem dX6_fillMargins_113 : decode cX6_fillMargins 113 = .ok (.iload 5, 2) := by decide +kernel
theorem dX6_fillMargins_115 : decode cX6_fillMargins 115 = .ok (.iload_n 3, 1) := by decide +kernel
theorem dX6_fillMargins_116 : decode cX6_fillMargins 116 = .ok (.invokevirtual 67, 3) := by decide +kernel
theorem dX6_fillMargins_119 : decode cX6_fillMargins 119 = .ok (.imul, 1) := by decide +kernel
theorem dX6_fillMargins_120 : decode cX6_fillMargins 120 = .ok (.iastore, 1) := by decide +kernel
theorem dX6_fillMargins_121 : decode cX6_fillMargins 121 = .ok (.aload_n 0, 1) := by decide +kernel
theorem dX6_fillMargins_122 : decode cX6_fillMargins 122 = .ok (.getfield 28, 3) := by decide +kernel
theorem dX6_fillMargins_125 : decode cX6_fillMargins 125 = .ok (.iload 8, 2) := by decide +kernel
theorem dX6_fillMargins_127 : decode cX6_fillMargins 127 = .ok (.iconst 3, 1) := by decide +kernel
theorem dX6_fillMargins_128 : decode cX6_fillMargins 128 = .ok (.iadd, 1) := by decide +kernel
theorem dX6_fillMargins_129 : decode cX6_fillMargins 129 = .ok (.iload 4, 2) := by decide +kernel
theorem dX6_fillMargins_131 : decode cX6_fillMargins 131 = .ok (.aload_n 0, 1) := by decide +kernel
theorem dX6_fillMargins_132 : decode cX6_fillMargins 132 = .ok (.aload_n 1, 1) := by decide +kernel
theorem dX6_fillMargins_133 : decode cX6_fillMargins 133 = .ok (.iload_n 2, 1) := by decide +kernel
theorem dX6_fillMargins_134 : decode cX6_fillMargins 134 = .ok (.iload_n 3, 1) := by decide +kernel
theorem dX6_fillMargins_135 : decode cX6_fillMargins 135 = .ok (.invokevirtual 82, 3) := by decide +kernel
theorem dX6_fillMargins_138 : decode cX6_fillMargins 138 = .ok (.imul, 1) := by decide +kernel
theorem dX6_fillMargins_139 : decode cX6_fillMargins 139 = .ok (.iastore, 1) := by decide +kernel
theorem dX6_fillMargins_140 : decode cX6_fillMargins 140 = .ok (.return_, 1) := by decide +kernel
theorem dX6_turnOf_0 : decode cX6_turnOf 0 = .ok (.aload_n 0, 1) := by decide +kernel
theorem dX6_turnOf_1 : decode cX6_turnOf 1 = .ok (.getfield 21, 3) := by decide +kernel
theorem dX6_turnOf_4 : decode cX6_turnOf 4 = .ok (.iload_n 1, 1) := by decide +kernel
theorem dX6_turnOf_5 : decode cX6_turnOf 5 = .ok (.bipush 16, 2) := by decide +kernel
theorem dX6_turnOf_7 : decode cX6_turnOf 7 = .ok (.imul, 1) := by decide +kernel
theorem dX6_turnOf_8 : decode cX6_turnOf 8 = .ok (.iload_n 2, 1) := by decide +kernel
theorem dX6_turnOf_9 : decode cX6_turnOf 9 = .ok (.iadd, 1) := by decide +kernel
theorem dX6_turnOf_10 : decode cX6_turnOf 10 = .ok (.iaload, 1) := by decide +kernel
theorem dX6_turnOf_11 : decode cX6_turnOf 11 = .ok (.aload_n 0, 1) := by decide +kernel
theorem dX6_turnOf_12 : decode cX6_turnOf 12 = .ok (.getfield 21, 3) := by decide +kernel
theorem dX6_turnOf_15 : decode cX6_turnOf 15 = .ok (.iload_n 2, 1) := by decide +kernel
theorem dX6_turnOf_16 : decode cX6_turnOf 16 = .ok (.bipush 16, 2) := by decide +kernel
theorem dX6_turnOf_18 : decode cX6_turnOf 18 = .ok (.imul, 1) := by decide +kernel
theorem dX6_turnOf_19 : decode cX6_turnOf 19 = .ok (.iload_n 3, 1) := by decide +kernel
theorem dX6_turnOf_20 : decode cX6_turnOf 20 = .ok (.iadd, 1) := by decide +kernel
theorem dX6_turnOf_21 : decode cX6_turnOf 21 = .ok (.iaload, 1) := by decide +kernel
theorem dX6_turnOf_22 : decode cX6_turnOf 22 = .ok (.iadd, 1) := by decide +kernel
theorem dX6_turnOf_23 : decode cX6_turnOf 23 = .ok (.aload_n 0, 1) := by decide +kernel
theorem dX6_turnOf_24 : decode cX6_turnOf 24 = .ok (.getfield 21, 3) := by decide +kernel
theorem dX6_turnOf_27 : decode cX6_turnOf 27 = .ok (.iload_n 3, 1) := by decide +kernel
theorem dX6_turnOf_28 : decode cX6_turnOf 28 = .ok (.bipush 16, 2) := by decide +kernel
theorem dX6_turnOf_30 : decode cX6_turnOf 30 = .ok (.imul, 1) := by decide +kernel
theorem dX6_turnOf_31 : decode cX6_turnOf 31 = .ok (.iload_n 1, 1) := by decide +kernel
theorem dX6_turnOf_32 : decode cX6_turnOf 32 = .ok (.iadd, 1) := by decide +kernel
theorem dX6_turnOf_33 : decode cX6_turnOf 33 = .ok (.iaload, 1) := by decide +kernel
theorem dX6_turnOf_34 : decode cX6_turnOf 34 = .ok (.iadd, 1) := by decide +kernel
theorem dX6_turnOf_35 : decode cX6_turnOf 35 = .ok (.ireturn, 1) := by decide +kernel
theorem dX6_depth_0 : decode cX6_depth 0 = .ok (.aload_n 1, 1) := by decide +kernel
theorem dX6_depth_1 : decode cX6_depth 1 = .ok (.iload_n 2, 1) := by decide +kernel
theorem dX6_depth_2 : decode cX6_depth 2 = .ok (.iconst 0, 1) := by decide +kernel
theorem dX6_depth_3 : decode cX6_depth 3 = .ok (.invokevirtual 63, 3) := by decide +kernel
theorem dX6_depth_6 : decode cX6_depth 6 = .ok (.istore 4, 2) := by decide +kernel
theorem dX6_depth_8 : decode cX6_depth 8 = .ok (.aload_n 0, 1) := by decide +kernel
theorem dX6_depth_9 : decode cX6_depth 9 = .ok (.getfield 25, 3) := by decide +kernel
theorem dX6_depth_12 : decode cX6_depth 12 = .ok (.iconst 3, 1) := by decide +kernel
theorem dX6_depth_13 : decode cX6_depth 13 = .ok (.iload_n 2, 1) := by decide +kernel
theorem dX6_depth_14 : decode cX6_depth 14 = .ok (.imul, 1) := by decide +kernel
theorem dX6_depth_15 : decode cX6_depth 15 = .ok (.iaload, 1) := by decide +kernel
theorem dX6_depth_16 : decode cX6_depth 16 = .ok (.aload_n 1, 1) := by decide +kernel
theorem dX6_depth_17 : decode cX6_depth 17 = .ok (.getfield 46, 3) := by decide +kernel
theorem dX6_depth_20 : decode cX6_depth 20 = .ok (.iload 4, 2) := by decide +kernel
theorem dX6_depth_22 : decode cX6_depth 22 = .ok (.iaload, 1) := by decide +kernel
theorem dX6_depth_23 : decode cX6_depth 23 = .ok (.aload_n 1, 1) := by decide +kernel
theorem dX6_depth_24 : decode cX6_depth 24 = .ok (.getfield 46, 3) := by decide +kernel
theorem dX6_depth_27 : decode cX6_depth 27 = .ok (.iload_n 3, 1) := by decide +kernel
theorem dX6_depth_28 : decode cX6_depth 28 = .ok (.iaload, 1) := by decide +kernel
theorem dX6_depth_29 : decode cX6_depth 29 = .ok (.isub, 1) := by decide +kernel
theorem dX6_depth_30 : decode cX6_depth 30 = .ok (.imul, 1) := by decide +kernel
theorem dX6_depth_31 : decode cX6_depth 31 = .ok (.aload_n 0, 1) := by decide +kernel
theorem dX6_depth_32 : decode cX6_depth 32 = .ok (.getfield 25, 3) := by decide +kernel
theorem dX6_depth_35 : decode cX6_depth 35 = .ok (.iconst 3, 1) := by decide +kernel
theorem dX6_depth_36 : decode cX6_depth 36 = .ok (.iload_n 2, 1) := by decide +kernel
theorem dX6_depth_37 : decode cX6_depth 37 = .ok (.imul, 1) := by decide +kernel
theorem dX6_depth_38 : decode cX6_depth 38 = .ok (.iconst 1, 1) := by decide +kernel
theorem dX6_depth_39 : decode cX6_depth 39 = .ok (.iadd, 1) := by decide +kernel
theorem dX6_depth_40 : decode cX6_depth 40 = .ok (.iaload, 1) := by decide +kernel
theorem dX6_depth_41 : decode cX6_depth 41 = .ok (.aload_n 1, 1) := by decide +kernel
theorem dX6_depth_42 : decode cX6_depth 42 = .ok (.getfield 49, 3) := by decide +kernel
theorem dX6_depth_45 : decode cX6_depth 45 = .ok (.iload 4, 2) := by decide +kernel
theorem dX6_depth_47 : decode cX6_depth 47 = .ok (.iaload, 1) := by decide +kernel
theorem dX6_depth_48 : decode cX6_depth 48 = .ok (.aload_n 1, 1) := by decide +kernel
theorem dX6_depth_49 : decode cX6_depth 49 = .ok (.getfield 49, 3) := by decide +kernel
theorem dX6_depth_52 : decode cX6_depth 52 = .ok (.iload_n 3, 1) := by decide +kernel
theorem dX6_depth_53 : decode cX6_depth 53 = .ok (.iaload, 1) := by decide +kernel
theorem dX6_depth_54 : decode cX6_depth 54 = .ok (.isub, 1) := by decide +kernel
theorem dX6_depth_55 : decode cX6_depth 55 = .ok (.imul, 1) := by decide +kernel
theorem dX6_depth_56 : decode cX6_depth 56 = .ok (.iadd, 1) := by decide +kernel
theorem dX6_depth_57 : decode cX6_depth 57 = .ok (.aload_n 0, 1) := by decide +kernel
theorem dX6_depth_58 : decode cX6_depth 58 = .ok (.getfield 25, 3) := by decide +kernel
theorem dX6_depth_61 : decode cX6_depth 61 = .ok (.iconst 3, 1) := by decide +kernel
theorem dX6_depth_62 : decode cX6_depth 62 = .ok (.iload_n 2, 1) := by decide +kernel
theorem dX6_depth_63 : decode cX6_depth 63 = .ok (.imul, 1) := by decide +kernel
theorem dX6_depth_64 : decode cX6_depth 64 = .ok (.iconst 2, 1) := by decide +kernel
theorem dX6_depth_65 : decode cX6_depth 65 = .ok (.iadd, 1) := by decide +kernel
theorem dX6_depth_66 : decode cX6_depth 66 = .ok (.iaload, 1) := by decide +kernel
theorem dX6_depth_67 : decode cX6_depth 67 = .ok (.aload_n 1, 1) := by decide +kernel
theorem dX6_depth_68 : decode cX6_depth 68 = .ok (.getfield 52, 3) := by decide +kernel
theorem dX6_depth_71 : decode cX6_depth 71 = .ok (.iload 4, 2) := by decide +kernel
theorem dX6_depth_73 : decode cX6_depth 73 = .ok (.iaload, 1) := by decide +kernel
theorem dX6_depth_74 : decode cX6_depth 74 = .ok (.aload_n 1, 1) := by decide +kernel
theorem dX6_depth_75 : decode cX6_depth 75 = .ok (.getfield 52, 3) := by decide +kernel
theorem dX6_depth_78 : decode cX6_depth 78 = .ok (.iload_n 3, 1) := by decide +kernel
theorem dX6_depth_79 : decode cX6_depth 79 = .ok (.iaload, 1) := by decide +kernel
theorem dX6_depth_80 : decode cX6_depth 80 = .ok (.isub, 1) := by decide +kernel
theorem dX6_depth_81 : decode cX6_depth 81 = .ok (.imul, 1) := by decide +kernel
theorem dX6_depth_82 : decode cX6_depth 82 = .ok (.iadd, 1) := by decide +kernel
theorem dX6_depth_83 : decode cX6_depth 83 = .ok (.ireturn, 1) := by decide +kernel
theorem dX6_rowOf_0 : decode cX6_rowOf 0 = .ok (.iconst 4, 1) := by decide +kernel
theorem dX6_rowOf_1 : decode cX6_rowOf 1 = .ok (.iload_n 0, 1) := by decide +kernel
theorem dX6_rowOf_2 : decode cX6_rowOf 2 = .ok (.bipush 16, 2) := by decide +kernel
theorem dX6_rowOf_4 : decode cX6_rowOf 4 = .ok (.imul, 1) := by decide +kernel
theorem dX6_rowOf_5 : decode cX6_rowOf 5 = .ok (.iload_n 1, 1) := by decide +kernel
theorem dX6_rowOf_6 : decode cX6_rowOf 6 = .ok (.iadd, 1) := by decide +kernel
theorem dX6_rowOf_7 : decode cX6_rowOf 7 = .ok (.imul, 1) := by decide +kernel
theorem dX6_rowOf_8 : decode cX6_rowOf 8 = .ok (.ireturn, 1) := by decide +kernel
theorem dX6_countToEye_0 : decode cX6_countToEye 0 = .ok (.iconst 0, 1) := by decide +kernel
theorem dX6_countToEye_1 : decode cX6_countToEye 1 = .ok (.istore_n 1, 1) := by decide +kernel
theorem dX6_countToEye_2 : decode cX6_countToEye 2 = .ok (.iconst 0, 1) := by decide +kernel
theorem dX6_countToEye_3 : decode cX6_countToEye 3 = .ok (.istore_n 2, 1) := by decide +kernel
theorem dX6_countToEye_4 : decode cX6_countToEye 4 = .ok (.iload_n 2, 1) := by decide +kernel
theorem dX6_countToEye_5 : decode cX6_countToEye 5 = .ok (.aload_n 0, 1) := by decide +kernel
theorem dX6_countToEye_6 : decode cX6_countToEye 6 = .ok (.getfield 42, 3) := by decide +kernel
theorem dX6_countToEye_9 : decode cX6_countToEye 9 = .ok (.if_icmp .ge 21, 3) := by decide +kernel
theorem dX6_countToEye_12 : decode cX6_countToEye 12 = .ok (.aload_n 0, 1) := by decide +kernel
theorem dX6_countToEye_13 : decode cX6_countToEye 13 = .ok (.getfield 34, 3) := by decide +kernel
theorem dX6_countToEye_16 : decode cX6_countToEye 16 = .ok (.iload_n 2, 1) := by decide +kernel
theorem dX6_countToEye_17 : decode cX6_countToEye 17 = .ok (.iaload, 1) := by decide +kernel
theorem dX6_countToEye_18 : decode cX6_countToEye 18 = .ok (.ifCond .le 6, 3) := by decide +kernel
theorem dX6_countToEye_21 : decode cX6_countToEye 21 = .ok (.iinc 1 1, 3) := by decide +kernel
theorem dX6_countToEye_24 : decode cX6_countToEye 24 = .ok (.iinc 2 1, 3) := by decide +kernel
theorem dX6_countToEye_27 : decode cX6_countToEye 27 = .ok (.goto (-23), 3) := by decide +kernel
theorem dX6_countToEye_30 : decode cX6_countToEye 30 = .ok (.iload_n 1, 1) := by decide +kernel
theorem dX6_countToEye_31 : decode cX6_countToEye 31 = .ok (.ireturn, 1) := by decide +kernel
theorem dX6_countHiding_0 : decode cX6_countHiding 0 = .ok (.iconst 0, 1) := by decide +kernel
theorem dX6_countHiding_1 : decode cX6_countHiding 1 = .ok (.istore 5, 2) := by decide +kernel
theorem dX6_countHiding_3 : decode cX6_countHiding 3 = .ok (.iconst 0, 1) := by decide +kernel
theorem dX6_countHiding_4 : decode cX6_countHiding 4 = .ok (.istore 6, 2) := by decide +kernel
theorem dX6_countHiding_6 : decode cX6_countHiding 6 = .ok (.iload 6, 2) := by decide +kernel
theorem dX6_countHiding_8 : decode cX6_countHiding 8 = .ok (.aload_n 0, 1) := by decide +kernel
theorem dX6_countHiding_9 : decode cX6_countHiding 9 = .ok (.getfield 42, 3) := by decide +kernel
theorem dX6_countHiding_12 : decode cX6_countHiding 12 = .ok (.if_icmp .ge 94, 3) := by decide +kernel
theorem dX6_countHiding_15 : decode cX6_countHiding 15 = .ok (.iload 6, 2) := by decide +kernel
theorem dX6_countHiding_17 : decode cX6_countHiding 17 = .ok (.iload_n 1, 1) := by decide +kernel
theorem dX6_countHiding_18 : decode cX6_countHiding 18 = .ok (.invokestatic 79, 3) := by decide +kernel
theorem dX6_countHiding_21 : decode cX6_countHiding 21 = .ok (.istore 7, 2) := by decide +kernel
theorem dX6_countHiding_23 : decode cX6_countHiding 23 = .ok (.iload 6, 2) := by decide +kernel
theorem dX6_countHiding_25 : decode cX6_countHiding 25 = .ok (.iload_n 2, 1) := by decide +kernel
theorem dX6_countHiding_26 : decode cX6_countHiding 26 = .ok (.invokestatic 79, 3) := by decide +kernel
theorem dX6_countHiding_29 : decode cX6_countHiding 29 = .ok (.istore 8, 2) := by decide +kernel
theorem dX6_countHiding_31 : decode cX6_countHiding 31 = .ok (.iconst 1, 1) := by decide +kernel
theorem dX6_countHiding_32 : decode cX6_countHiding 32 = .ok (.istore 9, 2) := by decide +kernel
theorem dX6_countHiding_34 : decode cX6_countHiding 34 = .ok (.iconst 0, 1) := by decide +kernel
theorem dX6_countHiding_35 : decode cX6_countHiding 35 = .ok (.istore 10, 2) := by decide +kernel
theorem dX6_countHiding_37 : decode cX6_countHiding 37 = .ok (.iload 10, 2) := by decide +kernel
theorem dX6_countHiding_39 : decode cX6_countHiding 39 = .ok (.iconst 4, 1) := by decide +kernel
theorem dX6_countHiding_40 : decode cX6_countHiding 40 = .ok (.if_icmp .ge 52, 3) := by decide +kernel
theorem dX6_countHiding_43 : decode cX6_countHiding 43 = .ok (.iload 9, 2) := by decide +kernel
theorem dX6_countHiding_45 : decode cX6_countHiding 45 = .ok (.ifCond .eq 47, 3) := by decide +kernel
theorem dX6_countHiding_48 : decode cX6_countHiding 48 = .ok (.aload_n 0, 1) := by decide +kernel
theorem dX6_countHiding_49 : decode cX6_countHiding 49 = .ok (.getfield 28, 3) := by decide +kernel
theorem dX6_countHiding_52 : decode cX6_countHiding 52 = .ok (.iload 7, 2) := by decide +kernel
theorem dX6_countHiding_54 : decode cX6_countHiding 54 = .ok (.iload 10, 2) := by decide +kernel
theorem dX6_countHiding_56 : decode cX6_countHiding 56 = .ok (.iadd, 1) := by decide +kernel
theorem dX6_countHiding_57 : decode cX6_countHiding 57 = .ok (.iaload, 1) := by decide +kernel
theorem dX6_countHiding_58 : decode cX6_countHiding 58 = .ok (.iload 4, 2) := by decide +kernel
theorem dX6_countHiding_60 : decode cX6_countHiding 60 = .ok (.iload_n 3, 1) := by decide +kernel
theorem dX6_countHiding_61 : decode cX6_countHiding 61 = .ok (.isub, 1) := by decide +kernel
theorem dX6_countHiding_62 : decode cX6_countHiding 62 = .ok (.imul, 1) := by decide +kernel
theorem dX6_countHiding_63 : decode cX6_countHiding 63 = .ok (.aload_n 0, 1) := by decide +kernel
theorem dX6_countHiding_64 : decode cX6_countHiding 64 = .ok (.getfield 28, 3) := by decide +kernel
theorem dX6_countHiding_67 : decode cX6_countHiding 67 = .ok (.iload 8, 2) := by decide +kernel
theorem dX6_countHiding_69 : decode cX6_countHiding 69 = .ok (.iload 10, 2) := by decide +kernel
theorem dX6_countHiding_71 : decode cX6_countHiding 71 = .ok (.iadd, 1) := by decide +kernel
theorem dX6_countHiding_72 : decode cX6_countHiding 72 = .ok (.iaload, 1) := by decide +kernel
theorem dX6_countHiding_73 : decode cX6_countHiding 73 = .ok (.iload_n 3, 1) := by decide +kernel
theorem dX6_countHiding_74 : decode cX6_countHiding 74 = .ok (.imul, 1) := by decide +kernel
theorem dX6_countHiding_75 : decode cX6_countHiding 75 = .ok (.iadd, 1) := by decide +kernel
theorem dX6_countHiding_76 : decode cX6_countHiding 76 = .ok (.ifCond .le 7, 3) := by decide +kernel
theorem dX6_countHiding_79 : decode cX6_countHiding 79 = .ok (.iconst 1, 1) := by decide +kernel
theorem dX6_countHiding_80 : decode cX6_countHiding 80 = .ok (.goto 4, 3) := by decide +kernel
theorem dX6_countHiding_83 : decode cX6_countHiding 83 = .ok (.iconst 0, 1) := by decide +kernel
theorem dX6_countHiding_84 : decode cX6_countHiding 84 = .ok (.istore 9, 2) := by decide +kernel
theorem dX6_countHiding_86 : decode cX6_countHiding 86 = .ok (.iinc 10 1, 3) := by decide +kernel
theorem dX6_countHiding_89 : decode cX6_countHiding 89 = .ok (.goto (-52), 3) := by decide +kernel
theorem dX6_countHiding_92 : decode cX6_countHiding 92 = .ok (.iload 9, 2) := by decide +kernel
theorem dX6_countHiding_94 : decode cX6_countHiding 94 = .ok (.ifCond .eq 6, 3) := by decide +kernel
theorem dX6_countHiding_97 : decode cX6_countHiding 97 = .ok (.iinc 5 1, 3) := by decide +kernel
theorem dX6_countHiding_100 : decode cX6_countHiding 100 = .ok (.iinc 6 1, 3) := by decide +kernel
theorem dX6_countHiding_103 : decode cX6_countHiding 103 = .ok (.goto (-97), 3) := by decide +kernel
theorem dX6_countHiding_106 : decode cX6_countHiding 106 = .ok (.iload 5, 2) := by decide +kernel
theorem dX6_countHiding_108 : decode cX6_countHiding 108 = .ok (.ireturn, 1) := by decide +kernel
theorem dX6_stretchBegin_0 : decode cX6_stretchBegin 0 = .ok (.iload_n 3, 1) := by decide +kernel
theorem dX6_stretchBegin_1 : decode cX6_stretchBegin 1 = .ok (.iload_n 1, 1) := by decide +kernel
theorem dX6_stretchBegin_2 : decode cX6_stretchBegin 2 = .ok (.invokestatic 79, 3) := by decide +kernel
theorem dX6_stretchBegin_5 : decode cX6_stretchBegin 5 = .ok (.istore 4, 2) := by decide +kernel
theorem dX6_stretchBegin_7 : decode cX6_stretchBegin 7 = .ok (.iload_n 3, 1) := by decide +kernel
theorem dX6_stretchBegin_8 : decode cX6_stretchBegin 8 = .ok (.iload_n 2, 1) := by decide +kernel
theorem dX6_stretchBegin_9 : decode cX6_stretchBegin 9 = .ok (.invokestatic 79, 3) := by decide +kernel
theorem dX6_stretchBegin_12 : decode cX6_stretchBegin 12 = .ok (.istore 5, 2) := by decide +kernel
theorem dX6_stretchBegin_14 : decode cX6_stretchBegin 14 = .ok (.lconst 1, 1) := by decide +kernel
theorem dX6_stretchBegin_15 : decode cX6_stretchBegin 15 = .ok (.lstore 6, 2) := by decide +kernel
theorem dX6_stretchBegin_17 : decode cX6_stretchBegin 17 = .ok (.iconst 0, 1) := by decide +kernel
theorem dX6_stretchBegin_18 : decode cX6_stretchBegin 18 = .ok (.istore 8, 2) := by decide +kernel
theorem dX6_stretchBegin_20 : decode cX6_stretchBegin 20 = .ok (.iload 8, 2) := by decide +kernel
theorem dX6_stretchBegin_22 : decode cX6_stretchBegin 22 = .ok (.iconst 4, 1) := by decide +kernel
theorem dX6_stretchBegin_23 : decode cX6_stretchBegin 23 = .ok (.if_icmp .ge 75, 3) := by decide +kernel
theorem dX6_stretchBegin_26 : decode cX6_stretchBegin 26 = .ok (.aload_n 0, 1) := by decide +kernel
theorem dX6_stretchBegin_27 : decode cX6_stretchBegin 27 = .ok (.getfield 28, 3) := by decide +kernel
theorem dX6_stretchBegin_30 : decode cX6_stretchBegin 30 = .ok (.iload 4, 2) := by decide +kernel
theorem dX6_stretchBegin_32 : decode cX6_stretchBegin 32 = .ok (.iload 8, 2) := by decide +kernel
theorem dX6_stretchBegin_34 : decode cX6_stretchBegin 34 = .ok (.iadd, 1) := by decide +kernel
theorem dX6_stretchBegin_35 : decode cX6_stretchBegin 35 = .ok (.iaload, 1) := by decide +kernel
theorem dX6_stretchBegin_36 : decode cX6_stretchBegin 36 = .ok (.istore 9, 2) := by decide +kernel
theorem dX6_stretchBegin_38 : decode cX6_stretchBegin 38 = .ok (.aload_n 0, 1) := by decide +kernel
theorem dX6_stretchBegin_39 : decode cX6_stretchBegin 39 = .ok (.getfield 28, 3) := by decide +kernel
theorem dX6_stretchBegin_42 : decode cX6_stretchBegin 42 = .ok (.iload 5, 2) := by decide +kernel
theorem dX6_stretchBegin_44 : decode cX6_stretchBegin 44 = .ok (.iload 8, 2) := by decide +kernel
theorem dX6_stretchBegin_46 : decode cX6_stretchBegin 46 = .ok (.iadd, 1) := by decide +kernel
theorem dX6_stretchBegin_47 : decode cX6_stretchBegin 47 = .ok (.iaload, 1) := by decide +kernel
theorem dX6_stretchBegin_48 : decode cX6_stretchBegin 48 = .ok (.istore 10, 2) := by decide +kernel
theorem dX6_stretchBegin_50 : decode cX6_stretchBegin 50 = .ok (.iload 9, 2) := by decide +kernel
theorem dX6_stretchBegin_52 : decode cX6_stretchBegin 52 = .ok (.ifCond .gt 40, 3) := by decide +kernel
theorem dX6_stretchBegin_55 : decode cX6_stretchBegin 55 = .ok (.iload 10, 2) := by decide +kernel
theorem dX6_stretchBegin_57 : decode cX6_stretchBegin 57 = .ok (.ifCond .le 35, 3) := by decide +kernel
theorem dX6_stretchBegin_60 : decode cX6_stretchBegin 60 = .ok (.iload 9, 2) := by decide +kernel
theorem dX6_stretchBegin_62 : decode cX6_stretchBegin 62 = .ok (.ineg, 1) := by decide +kernel
theorem dX6_stretchBegin_63 : decode cX6_stretchBegin 63 = .ok (.iload 10, 2) := by decide +kernel
theorem dX6_stretchBegin_65 : decode cX6_stretchBegin 65 = .ok (.iload 9, 2) := by decide +kernel
theorem dX6_stretchBegin_67 : decode cX6_stretchBegin 67 = .ok (.isub, 1) := by decide +kernel
theorem dX6_stretchBegin_68 : decode cX6_stretchBegin 68 = .ok (.invokestatic 87, 3) := by decide +kernel
theorem dX6_stretchBegin_71 : decode cX6_stretchBegin 71 = .ok (.lstore 11, 2) := by decide +kernel
theorem dX6_stretchBegin_73 : decode cX6_stretchBegin 73 = .ok (.lload 6, 2) := by decide +kernel
theorem dX6_stretchBegin_75 : decode cX6_stretchBegin 75 = .ok (.lload 11, 2) := by decide +kernel
theorem dX6_stretchBegin_77 : decode cX6_stretchBegin 77 = .ok (.invokestatic 91, 3) := by decide +kernel
theorem dX6_stretchBegin_80 : decode cX6_stretchBegin 80 = .ok (.ifCond .eq 8, 3) := by decide +kernel
theorem dX6_stretchBegin_83 : decode cX6_stretchBegin 83 = .ok (.lload 11, 2) := by decide +kernel
theorem dX6_stretchBegin_85 : decode cX6_stretchBegin 85 = .ok (.goto 5, 3) := by decide +kernel
theorem dX6_stretchBegin_88 : decode cX6_stretchBegin 88 = .ok (.lload 6, 2) := by decide +kernel
theorem dX6_stretchBegin_90 : decode cX6_stretchBegin 90 = .ok (.lstore 6, 2) := by decide +kernel
theorem dX6_stretchBegin_92 : decode cX6_stretchBegin 92 = .ok (.iinc 8 1, 3) := by decide +kernel
theorem dX6_stretchBegin_95 : decode cX6_stretchBegin 95 = .ok (.goto (-75), 3) := by decide +kernel
theorem dX6_stretchBegin_98 : decode cX6_stretchBegin 98 = .ok (.lload 6, 2) := by decide +kernel
theorem dX6_stretchBegin_100 : decode cX6_stretchBegin 100 = .ok (.invokestatic 95, 3) := by decide +kernel
theorem dX6_stretchBegin_103 : decode cX6_stretchBegin 103 = .ok (.lreturn, 1) := by decide +kernel
theorem dX6_stretchEnd_0 : decode cX6_stretchEnd 0 = .ok (.iload_n 3, 1) := by decide +kernel
theorem dX6_stretchEnd_1 : decode cX6_stretchEnd 1 = .ok (.iload_n 1, 1) := by decide +kernel
theorem dX6_stretchEnd_2 : decode cX6_stretchEnd 2 = .ok (.invokestatic 79, 3) := by decide +kernel
theorem dX6_stretchEnd_5 : decode cX6_stretchEnd 5 = .ok (.istore 4, 2) := by decide +kernel
theorem dX6_stretchEnd_7 : decode cX6_stretchEnd 7 = .ok (.iload_n 3, 1) := by decide +kernel
theorem dX6_stretchEnd_8 : decode cX6_stretchEnd 8 = .ok (.iload_n 2, 1) := by decide +kernel
theorem dX6_stretchEnd_9 : decode cX6_stretchEnd 9 = .ok (.invokestatic 79, 3) := by decide +kernel
theorem dX6_stretchEnd_12 : decode cX6_stretchEnd 12 = .ok (.istore 5, 2) := by decide +kernel
theorem dX6_stretchEnd_14 : decode cX6_stretchEnd 14 = .ok (.ldc2_w 99, 3) := by decide +kernel
theorem dX6_stretchEnd_17 : decode cX6_stretchEnd 17 = .ok (.lstore 6, 2) := by decide +kernel
theorem dX6_stretchEnd_19 : decode cX6_stretchEnd 19 = .ok (.iconst 0, 1) := by decide +kernel
theorem dX6_stretchEnd_20 : decode cX6_stretchEnd 20 = .ok (.istore 8, 2) := by decide +kernel
theorem dX6_stretchEnd_22 : decode cX6_stretchEnd 22 = .ok (.iload 8, 2) := by decide +kernel
theorem dX6_stretchEnd_24 : decode cX6_stretchEnd 24 = .ok (.iconst 4, 1) := by decide +kernel
theorem dX6_stretchEnd_25 : decode cX6_stretchEnd 25 = .ok (.if_icmp .ge 81, 3) := by decide +kernel
theorem dX6_stretchEnd_28 : decode cX6_stretchEnd 28 = .ok (.aload_n 0, 1) := by decide +kernel
theorem dX6_stretchEnd_29 : decode cX6_stretchEnd 29 = .ok (.getfield 28, 3) := by decide +kernel
theorem dX6_stretchEnd_32 : decode cX6_stretchEnd 32 = .ok (.iload 4, 2) := by decide +kernel
theorem dX6_stretchEnd_34 : decode cX6_stretchEnd 34 = .ok (.iload 8, 2) := by decide +kernel
theorem dX6_stretchEnd_36 : decode cX6_stretchEnd 36 = .ok (.iadd, 1) := by decide +kernel
theorem dX6_stretchEnd_37 : decode cX6_stretchEnd 37 = .ok (.iaload, 1) := by decide +kernel
theorem dX6_stretchEnd_38 : decode cX6_stretchEnd 38 = .ok (.istore 9, 2) := by decide +kernel
theorem dX6_stretchEnd_40 : decode cX6_stretchEnd 40 = .ok (.aload_n 0, 1) := by decide +kernel
theorem dX6_stretchEnd_41 : decode cX6_stretchEnd 41 = .ok (.getfield 28, 3) := by decide +kernel
theorem dX6_stretchEnd_44 : decode cX6_stretchEnd 44 = .ok (.iload 5, 2) := by decide +kernel
theorem dX6_stretchEnd_46 : decode cX6_stretchEnd 46 = .ok (.iload 8, 2) := by decide +kernel
theorem dX6_stretchEnd_48 : decode cX6_stretchEnd 48 = .ok (.iadd, 1) := by decide +kernel
theorem dX6_stretchEnd_49 : decode cX6_stretchEnd 49 = .ok (.iaload, 1) := by decide +kernel
theorem dX6_stretchEnd_50 : decode cX6_stretchEnd 50 = .ok (.istore 10, 2) := by decide +kernel
theorem dX6_stretchEnd_52 : decode cX6_stretchEnd 52 = .ok (.iload 9, 2) := by decide +kernel
theorem dX6_stretchEnd_54 : decode cX6_stretchEnd 54 = .ok (.ifCond .gt 10, 3) := by decide +kernel
theorem dX6_stretchEnd_57 : decode cX6_stretchEnd 57 = .ok (.iload 10, 2) := by decide +kernel
theorem dX6_stretchEnd_59 : decode cX6_stretchEnd 59 = .ok (.ifCond .gt 5, 3) := by decide +kernel
theorem dX6_stretchEnd_62 : decode cX6_stretchEnd 62 = .ok (.lconst 1, 1) := by decide +kernel
theorem dX6_stretchEnd_63 : decode cX6_stretchEnd 63 = .ok (.lreturn, 1) := by decide +kernel
theorem dX6_stretchEnd_64 : decode cX6_stretchEnd 64 = .ok (.iload 10, 2) := by decide +kernel
theorem dX6_stretchEnd_66 : decode cX6_stretchEnd 66 = .ok (.ifCond .gt 34, 3) := by decide +kernel
theorem dX6_stretchEnd_69 : decode cX6_stretchEnd 69 = .ok (.iload 9, 2) := by decide +kernel
theorem dX6_stretchEnd_71 : decode cX6_stretchEnd 71 = .ok (.iload 9, 2) := by decide +kernel
theorem dX6_stretchEnd_73 : decode cX6_stretchEnd 73 = .ok (.iload 10, 2) := by decide +kernel
theorem dX6_stretchEnd_75 : decode cX6_stretchEnd 75 = .ok (.isub, 1) := by decide +kernel
theorem dX6_stretchEnd_76 : decode cX6_stretchEnd 76 = .ok (.invokestatic 87, 3) := by decide +kernel
theorem dX6_stretchEnd_79 : decode cX6_stretchEnd 79 = .ok (.lstore 11, 2) := by decide +kernel
theorem dX6_stretchEnd_81 : decode cX6_stretchEnd 81 = .ok (.lload 11, 2) := by decide +kernel
theorem dX6_stretchEnd_83 : decode cX6_stretchEnd 83 = .ok (.lload 6, 2) := by decide +kernel
theorem dX6_stretchEnd_85 : decode cX6_stretchEnd 85 = .ok (.invokestatic 91, 3) := by decide +kernel
theorem dX6_stretchEnd_88 : decode cX6_stretchEnd 88 = .ok (.ifCond .eq 8, 3) := by decide +kernel
theorem dX6_stretchEnd_91 : decode cX6_stretchEnd 91 = .ok (.lload 11, 2) := by decide +kernel
theorem dX6_stretchEnd_93 : decode cX6_stretchEnd 93 = .ok (.goto 5, 3) := by decide +kernel
theorem dX6_stretchEnd_96 : decode cX6_stretchEnd 96 = .ok (.lload 6, 2) := by decide +kernel
theorem dX6_stretchEnd_98 : decode cX6_stretchEnd 98 = .ok (.lstore 6, 2) := by decide +kernel
theorem dX6_stretchEnd_100 : decode cX6_stretchEnd 100 = .ok (.iinc 8 1, 3) := by decide +kernel
theorem dX6_stretchEnd_103 : decode cX6_stretchEnd 103 = .ok (.goto (-81), 3) := by decide +kernel
theorem dX6_stretchEnd_106 : decode cX6_stretchEnd 106 = .ok (.lload 6, 2) := by decide +kernel
theorem dX6_stretchEnd_108 : decode cX6_stretchEnd 108 = .ok (.invokestatic 95, 3) := by decide +kernel
theorem dX6_stretchEnd_111 : decode cX6_stretchEnd 111 = .ok (.lreturn, 1) := by decide +kernel
theorem dX7_init_0 : decode cX7_init 0 = .ok (.aload_n 0, 1) := by decide +kernel
theorem dX7_init_1 : decode cX7_init 1 = .ok (.invokespecial 3, 3) := by decide +kernel
theorem dX7_init_4 : decode cX7_init 4 = .ok (.aload_n 0, 1) := by decide +kernel
theorem dX7_init_5 : decode cX7_init 5 = .ok (.bipush 80, 2) := by decide +kernel
theorem dX7_init_7 : decode cX7_init 7 = .ok (.newarray .long, 2) := by decide +kernel
theorem dX7_init_9 : decode cX7_init 9 = .ok (.putfield 9, 3) := by decide +kernel
theorem dX7_init_12 : decode cX7_init 12 = .ok (.aload_n 0, 1) := by decide +kernel
theorem dX7_init_13 : decode cX7_init 13 = .ok (.sipush 2000, 3) := by decide +kernel
theorem dX7_init_16 : decode cX7_init 16 = .ok (.newarray .int, 2) := by decide +kernel
theorem dX7_init_18 : decode cX7_init 18 = .ok (.putfield 15, 3) := by decide +kernel
theorem dX7_init_21 : decode cX7_init 21 = .ok (.aload_n 0, 1) := by decide +kernel
theorem dX7_init_22 : decode cX7_init 22 = .ok (.sipush 2000, 3) := by decide +kernel
theorem dX7_init_25 : decode cX7_init 25 = .ok (.newarray .int, 2) := by decide +kernel
theorem dX7_init_27 : decode cX7_init 27 = .ok (.putfield 19, 3) := by decide +kernel
theorem dX7_init_30 : decode cX7_init 30 = .ok (.return_, 1) := by decide +kernel
theorem dX7_stepOf_0 : decode cX7_stepOf 0 = .ok (.iload_n 0, 1) := by decide +kernel
theorem dX7_stepOf_1 : decode cX7_stepOf 1 = .ok (.bipush 7, 2) := by decide +kernel
theorem dX7_stepOf_3 : decode cX7_stepOf 3 = .ok (.ishl, 1) := by decide +kernel
theorem dX7_stepOf_4 : decode cX7_stepOf 4 = .ok (.iload_n 1, 1) := by decide +kernel
theorem dX7_stepOf_5 : decode cX7_stepOf 5 = .ok (.iconst 1, 1) := by decide +kernel
theorem dX7_stepOf_6 : decode cX7_stepOf 6 = .ok (.ishl, 1) := by decide +kernel
theorem dX7_stepOf_7 : decode cX7_stepOf 7 = .ok (.ior, 1) := by decide +kernel
theorem dX7_stepOf_8 : decode cX7_stepOf 8 = .ok (.iload_n 2, 1) := by decide +kernel
theorem dX7_stepOf_9 : decode cX7_stepOf 9 = .ok (.ifCond .eq 7, 3) := by decide +kernel
theorem dX7_stepOf_12 : decode cX7_stepOf 12 = .ok (.iconst 1, 1) := by decide +kernel
theorem dX7_stepOf_13 : decode cX7_stepOf 13 = .ok (.goto 4, 3) := by decide +kernel
theorem dX7_stepOf_16 : decode cX7_stepOf 16 = .ok (.iconst 0, 1) := by decide +kernel
theorem dX7_stepOf_17 : decode cX7_stepOf 17 = .ok (.ior, 1) := by decide +kernel
theorem dX7_stepOf_18 : decode cX7_stepOf 18 = .ok (.ireturn, 1) := by decide +kernel
theorem dX7_edgeOf_0 : decode cX7_edgeOf 0 = .ok (.iload_n 0, 1) := by decide +kernel
theorem dX7_edgeOf_1 : decode cX7_edgeOf 1 = .ok (.bipush 7, 2) := by decide +kernel
theorem dX7_edgeOf_3 : decode cX7_edgeOf 3 = .ok (.ishr, 1) := by decide +kernel
theorem dX7_edgeOf_4 : decode cX7_edgeOf 4 = .ok (.ireturn, 1) := by decide +kernel
theorem dX7_pieceOf_0 : decode cX7_pieceOf 0 = .ok (.iload_n 0, 1) := by decide +kernel
theorem dX7_pieceOf_1 : decode cX7_pieceOf 1 = .ok (.iconst 1, 1) := by decide +kernel
theorem dX7_pieceOf_2 : decode cX7_pieceOf 2 = .ok (.ishr, 1) := by decide +kernel
theorem dX7_pieceOf_3 : decode cX7_pieceOf 3 = .ok (.bipush 63, 2) := by decide +kernel
theorem dX7_pieceOf_5 : decode cX7_pieceOf 5 = .ok (.iand, 1) := by decide +kernel
theorem dX7_pieceOf_6 : decode cX7_pieceOf 6 = .ok (.ireturn, 1) := by decide +kernel
theorem dX7_isForward_0 : decode cX7_isForward 0 = .ok (.iload_n 0, 1) := by decide +kernel
theorem dX7_isForward_1 : decode cX7_isForward 1 = .ok (.iconst 1, 1) := by decide +kernel
theorem dX7_isForward_2 : decode cX7_isForward 2 = .ok (.iand, 1) := by decide +kernel
theorem dX7_isForward_3 : decode cX7_isForward 3 = .ok (.iconst 1, 1) := by decide +kernel
theorem dX7_isForward_4 : decode cX7_isForward 4 = .ok (.if_icmp .ne 7, 3) := by decide +kernel
theorem dX7_isForward_7 : decode cX7_isForward 7 = .ok (.iconst 1, 1) := by decide +kernel
theorem dX7_isForward_8 : decode cX7_isForward 8 = .ok (.goto 4, 3) := by decide +kernel
theorem dX7_isForward_11 : decode cX7_isForward 11 = .ok (.iconst 0, 1) := by decide +kernel
theorem dX7_isForward_12 : decode cX7_isForward 12 = .ok (.ireturn, 1) := by decide +kernel
theorem dX7_has_0 : decode cX7_has 0 = .ok (.iload_n 1, 1) := by decide +kernel
theorem dX7_has_1 : decode cX7_has 1 = .ok (.ifCond .lt 15, 3) := by decide +kernel
theorem dX7_has_4 : decode cX7_has 4 = .ok (.iload_n 1, 1) := by decide +kernel
theorem dX7_has_5 : decode cX7_has 5 = .ok (.aload_n 0, 1) := by decide +kernel
theorem dX7_has_6 : decode cX7_has 6 = .ok (.getfield 22, 3) := by decide +kernel
theorem dX7_has_9 : decode cX7_has 9 = .ok (.if_icmp .ge 7, 3) := by decide +kernel
theorem dX7_has_12 : decode cX7_has 12 = .ok (.iconst 1, 1) := by decide +kernel
theorem dX7_has_13 : decode cX7_has 13 = .ok (.goto 4, 3) := by decide +kernel
theorem dX7_has_16 : decode cX7_has 16 = .ok (.iconst 0, 1) := by decide +kernel
theorem dX7_has_17 : decode cX7_has 17 = .ok (.ireturn, 1) := by decide +kernel
theorem dX7_length_0 : decode cX7_length 0 = .ok (.iload_n 1, 1) := by decide +kernel
theorem dX7_length_1 : decode cX7_length 1 = .ok (.iconst 1, 1) := by decide +kernel
theorem dX7_length_2 : decode cX7_length 2 = .ok (.iadd, 1) := by decide +kernel
theorem dX7_length_3 : decode cX7_length 3 = .ok (.aload_n 0, 1) := by decide +kernel
theorem dX7_length_4 : decode cX7_length 4 = .ok (.getfield 22, 3) := by decide +kernel
theorem dX7_length_7 : decode cX7_length 7 = .ok (.if_icmp .ge 14, 3) := by decide +kernel
theorem dX7_length_10 : decode cX7_length 10 = .ok (.aload_n 0, 1) := by decide +kernel
theorem dX7_length_11 : decode cX7_length 11 = .ok (.getfield 19, 3) := by decide +kernel
theorem dX7_length_14 : decode cX7_length 14 = .ok (.iload_n 1, 1) := by decide +kernel
theorem dX7_length_15 : decode cX7_length 15 = .ok (.iconst 1, 1) := by decide +kernel
theorem dX7_length_16 : decode cX7_length 16 = .ok (.iadd, 1) := by decide +kernel
theorem dX7_length_17 : decode cX7_length 17 = .ok (.iaload, 1) := by decide +kernel
theorem dX7_length_18 : decode cX7_length 18 = .ok (.goto 7, 3) := by decide +kernel
theorem dX7_length_21 : decode cX7_length 21 = .ok (.aload_n 0, 1) := by decide +kernel
theorem dX7_length_22 : decode cX7_length 22 = .ok (.getfield 26, 3) := by decide +kernel
theorem dX7_length_25 : decode cX7_length 25 = .ok (.aload_n 0, 1) := by decide +kernel
theorem dX7_length_26 : decode cX7_length 26 = .ok (.getfield 19, 3) := by decide +kernel
theorem dX7_length_29 : decode cX7_length 29 = .ok (.iload_n 1, 1) := by decide +kernel
theorem dX7_length_30 : decode cX7_length 30 = .ok (.iaload, 1) := by decide +kernel
theorem dX7_length_31 : decode cX7_length 31 = .ok (.isub, 1) := by decide +kernel
theorem dX7_length_32 : decode cX7_length 32 = .ok (.ireturn, 1) := by decide +kernel
theorem dX7_startPoint_0 : decode cX7_startPoint 0 = .ok (.aload_n 0, 1) := by decide +kernel
theorem dX7_startPoint_1 : decode cX7_startPoint 1 = .ok (.getfield 15, 3) := by decide +kernel
theorem dX7_startPoint_4 : decode cX7_startPoint 4 = .ok (.aload_n 0, 1) := by decide +kernel
theorem dX7_startPoint_5 : decode cX7_startPoint 5 = .ok (.getfield 19, 3) := by decide +kernel
theorem dX7_startPoint_8 : decode cX7_startPoint 8 = .ok (.iload_n 1, 1) := by decide +kernel
theorem dX7_startPoint_9 : decode cX7_startPoint 9 = .ok (.iaload, 1) := by decide +kernel
theorem dX7_startPoint_10 : decode cX7_startPoint 10 = .ok (.iaload, 1) := by decide +kernel
theorem dX7_startPoint_11 : decode cX7_startPoint 11 = .ok (.istore_n 3, 1) := by decide +kernel
theorem dX7_startPoint_12 : decode cX7_startPoint 12 = .ok (.iload_n 3, 1) := by decide +kernel
theorem dX7_startPoint_13 : decode cX7_startPoint 13 = .ok (.invokestatic 29, 3) := by decide +kernel
theorem dX7_startPoint_16 : decode cX7_startPoint 16 = .ok (.ifCond .ne 15, 3) := by decide +kernel
theorem dX7_startPoint_19 : decode cX7_startPoint 19 = .ok (.aload_n 2, 1) := by decide +kernel
theorem dX7_startPoint_20 : decode cX7_startPoint 20 = .ok (.getfield 33, 3) := by decide +kernel
theorem dX7_startPoint_23 : decode cX7_startPoint 23 = .ok (.iload_n 3, 1) := by decide +kernel
theorem dX7_startPoint_24 : decode cX7_startPoint 24 = .ok (.invokestatic 38, 3) := by decide +kernel
theorem dX7_startPoint_27 : decode cX7_startPoint 27 = .ok (.iaload, 1) := by decide +kernel
theorem dX7_startPoint_28 : decode cX7_startPoint 28 = .ok (.goto 5, 3) := by decide +kernel
theorem dX7_startPoint_31 : decode cX7_startPoint 31 = .ok (.bipush (-9), 2) := by decide +kernel
theorem dX7_startPoint_33 : decode cX7_startPoint 33 = .ok (.ireturn, 1) := by decide +kernel
theorem dX7_endPoint_0 : decode cX7_endPoint 0 = .ok (.aload_n 0, 1) := by decide +kernel
theorem dX7_endPoint_1 : decode cX7_endPoint 1 = .ok (.getfield 15, 3) := by decide +kernel
theorem dX7_endPoint_4 : decode cX7_endPoint 4 = .ok (.aload_n 0, 1) := by decide +kernel
theorem dX7_endPoint_5 : decode cX7_endPoint 5 = .ok (.getfield 19, 3) := by decide +kernel
theorem dX7_endPoint_8 : decode cX7_endPoint 8 = .ok (.iload_n 1, 1) := by decide +kernel
theorem dX7_endPoint_9 : decode cX7_endPoint 9 = .ok (.iaload, 1) := by decide +kernel
theorem dX7_endPoint_10 : decode cX7_endPoint 10 = .ok (.aload_n 0, 1) := by decide +kernel
theorem dX7_endPoint_11 : decode cX7_endPoint 11 = .ok (.iload_n 1, 1) := by decide +kernel
theorem dX7_endPoint_12 : decode cX7_endPoint 12 = .ok (.invokevirtual 41, 3) := by decide +kernel
theorem dX7_endPoint_15 : decode cX7_endPoint 15 = .ok (.iadd, 1) := by decide +kernel
theorem dX7_endPoint_16 : decode cX7_endPoint 16 = .ok (.iconst 1, 1) := by decide +kernel
theorem dX7_endPoint_17 : decode cX7_endPoint 17 = .ok (.isub, 1) := by decide +kernel
theorem dX7_endPoint_18 : decode cX7_endPoint 18 = .ok (.iaload, 1) := by decide +kernel
theorem dX7_endPoint_19 : decode cX7_endPoint 19 = .ok (.aload_n 2, 1) := by decide +kernel
theorem dX7_endPoint_20 : decode cX7_endPoint 20 = .ok (.aload_n 3, 1) := by decide +kernel
theorem dX7_endPoint_21 : decode cX7_endPoint 21 = .ok (.invokestatic 44, 3) := by decide +kernel
theorem dX7_endPoint_24 : decode cX7_endPoint 24 = .ok (.ireturn, 1) := by decide +kernel
theorem dX7_pointBehind_0 : decode cX7_pointBehind 0 = .ok (.iload_n 0, 1) := by decide +kernel
theorem dX7_pointBehind_1 : decode cX7_pointBehind 1 = .ok (.invokestatic 38, 3) := by decide +kernel
theorem dX7_pointBehind_4 : decode cX7_pointBehind 4 = .ok (.istore_n 3, 1) := by decide +kernel
theorem dX7_pointBehind_5 : decode cX7_pointBehind 5 = .ok (.iload_n 0, 1) := by decide +kernel
theorem dX7_pointBehind_6 : decode cX7_pointBehind 6 = .ok (.invokestatic 29, 3) := by decide +kernel
theorem dX7_pointBehind_9 : decode cX7_pointBehind 9 = .ok (.istore 4, 2) := by decide +kernel
theorem dX7_pointBehind_11 : decode cX7_pointBehind 11 = .ok (.iload_n 0, 1) := by decide +kernel
theorem dX7_pointBehind_12 : decode cX7_pointBehind 12 = .ok (.invokestatic 48, 3) := by decide +kernel
theorem dX7_pointBehind_15 : decode cX7_pointBehind 15 = .ok (.ifCond .eq 28, 3) := by decide +kernel
theorem dX7_pointBehind_18 : decode cX7_pointBehind 18 = .ok (.iload 4, 2) := by decide +kernel
theorem dX7_pointBehind_20 : decode cX7_pointBehind 20 = .ok (.aload_n 2, 1) := by decide +kernel
theorem dX7_pointBehind_21 : decode cX7_pointBehind 21 = .ok (.getfield 52, 3) := by decide +kernel
theorem dX7_pointBehind_24 : decode cX7_pointBehind 24 = .ok (.iload_n 3, 1) := by decide +kernel
theorem dX7_pointBehind_25 : decode cX7_pointBehind 25 = .ok (.iaload, 1) := by decide +kernel
theorem dX7_pointBehind_26 : decode cX7_pointBehind 26 = .ok (.iconst 1, 1) := by decide +kernel
theorem dX7_pointBehind_27 : decode cX7_pointBehind 27 = .ok (.isub, 1) := by decide +kernel
theorem dX7_pointBehind_28 : decode cX7_pointBehind 28 = .ok (.if_icmp .ne 12, 3) := by decide +kernel
theorem dX7_pointBehind_31 : decode cX7_pointBehind 31 = .ok (.aload_n 1, 1) := by decide +kernel
theorem dX7_pointBehind_32 : decode cX7_pointBehind 32 = .ok (.getfield 56, 3) := by decide +kernel
theorem dX7_pointBehind_35 : decode cX7_pointBehind 35 = .ok (.iload_n 3, 1) := by decide +kernel
theorem dX7_pointBehind_36 : decode cX7_pointBehind 36 = .ok (.iaload, 1) := by decide +kernel
theorem dX7_pointBehind_37 : decode cX7_pointBehind 37 = .ok (.goto 5, 3) := by decide +kernel
theorem dX7_pointBehind_40 : decode cX7_pointBehind 40 = .ok (.bipush (-9), 2) := by decide +kernel
theorem dX7_pointBehind_42 : decode cX7_pointBehind 42 = .ok (.ireturn, 1) := by decide +kernel
theorem dX7_pointBehind_43 : decode cX7_pointBehind 43 = .ok (.iload 4, 2) := by decide +kernel
theorem dX7_pointBehind_45 : decode cX7_pointBehind 45 = .ok (.ifCond .ne 12, 3) := by decide +kernel
theorem dX7_pointBehind_48 : decode cX7_pointBehind 48 = .ok (.aload_n 1, 1) := by decide +kernel
theorem dX7_pointBehind_49 : decode cX7_pointBehind 49 = .ok (.getfield 33, 3) := by decide +kernel
theorem dX7_pointBehind_52 : decode cX7_pointBehind 52 = .ok (.iload_n 3, 1) := by decide +kernel
theorem dX7_pointBehind_53 : decode cX7_pointBehind 53 = .ok (.iaload, 1) := by decide +kernel
theorem dX7_pointBehind_54 : decode cX7_pointBehind 54 = .ok (.goto 5, 3) := by decide +kernel
theorem dX7_pointBehind_57 : decode cX7_pointBehind 57 = .ok (.bipush (-9), 2) := by decide +kernel
theorem dX7_pointBehind_59 : decode cX7_pointBehind 59 = .ok (.ireturn, 1) := by decide +kernel
theorem dX7_rebuild_0 : decode cX7_rebuild 0 = .ok (.aload_n 0, 1) := by decide +kernel
theorem dX7_rebuild_1 : decode cX7_rebuild 1 = .ok (.iconst 0, 1) := by decide +kernel
theorem dX7_rebuild_2 : decode cX7_rebuild 2 = .ok (.putfield 22, 3) := by decide +kernel
theorem dX7_rebuild_5 : decode cX7_rebuild 5 = .ok (.aload_n 0, 1) := by decide +kernel
theorem dX7_rebuild_6 : decode cX7_rebuild 6 = .ok (.iconst 0, 1) := by decide +kernel
theorem dX7_rebuild_7 : decode cX7_rebuild 7 = .ok (.putfield 26, 3) := by decide +kernel
theorem dX7_rebuild_10 : decode cX7_rebuild 10 = .ok (.iconst 0, 1) := by decide +kernel
theorem dX7_rebuild_11 : decode cX7_rebuild 11 = .ok (.istore_n 3, 1) := by decide +kernel
theorem dX7_rebuild_12 : decode cX7_rebuild 12 = .ok (.iload_n 3, 1) := by decide +kernel
theorem dX7_rebuild_13 : decode cX7_rebuild 13 = .ok (.aload_n 1, 1) := by decide +kernel
theorem dX7_rebuild_14 : decode cX7_rebuild 14 = .ok (.getfield 59, 3) := by decide +kernel
theorem dX7_rebuild_17 : decode cX7_rebuild 17 = .ok (.if_icmp .ge 21, 3) := by decide +kernel
theorem dX7_rebuild_20 : decode cX7_rebuild 20 = .ok (.aload_n 0, 1) := by decide +kernel
theorem dX7_rebuild_21 : decode cX7_rebuild 21 = .ok (.getfield 9, 3) := by decide +kernel
theorem dX7_rebuild_24 : decode cX7_rebuild 24 = .ok (.iload_n 3, 1) := by decide +kernel
theorem dX7_rebuild_25 : decode cX7_rebuild 25 = .ok (.aload_n 2, 1) := by decide +kernel
theorem dX7_rebuild_26 : decode cX7_rebuild 26 = .ok (.getfield 60, 3) := by decide +kernel
theorem dX7_rebuild_29 : decode cX7_rebuild 29 = .ok (.iload_n 3, 1) := by decide +kernel
theorem dX7_rebuild_30 : decode cX7_rebuild 30 = .ok (.laload, 1) := by decide +kernel
theorem dX7_rebuild_31 : decode cX7_rebuild 31 = .ok (.lastore, 1) := by decide +kernel
theorem dX7_rebuild_32 : decode cX7_rebuild 32 = .ok (.iinc 3 1, 3) := by decide +kernel
theorem dX7_rebuild_35 : decode cX7_rebuild 35 = .ok (.goto (-23), 3) := by decide +kernel
theorem dX7_rebuild_38 : decode cX7_rebuild 38 = .ok (.iconst 0, 1) := by decide +kernel
theorem dX7_rebuild_39 : decode cX7_rebuild 39 = .ok (.istore_n 3, 1) := by decide +kernel
theorem dX7_rebuild_40 : decode cX7_rebuild 40 = .ok (.iload_n 3, 1) := by decide +kernel
theorem dX7_rebuild_41 : decode cX7_rebuild 41 = .ok (.aload_n 1, 1) := by decide +kernel
theorem dX7_rebuild_42 : decode cX7_rebuild 42 = .ok (.getfield 59, 3) := by decide +kernel
theorem dX7_rebuild_45 : decode cX7_rebuild 45 = .ok (.if_icmp .ge 85, 3) := by decide +kernel
theorem dX7_rebuild_48 : decode cX7_rebuild 48 = .ok (.iconst 0, 1) := by decide +kernel
theorem dX7_rebuild_49 : decode cX7_rebuild 49 = .ok (.istore 4, 2) := by decide +kernel
theorem dX7_rebuild_51 : decode cX7_rebuild 51 = .ok (.iload 4, 2) := by decide +kernel
theorem dX7_rebuild_53 : decode cX7_rebuild 53 = .ok (.aload_n 2, 1) := by decide +kernel
theorem dX7_rebuild_54 : decode cX7_rebuild 54 = .ok (.getfield 52, 3) := by decide +kernel
theorem dX7_rebuild_57 : decode cX7_rebuild 57 = .ok (.iload_n 3, 1) := by decide +kernel
theorem dX7_rebuild_58 : decode cX7_rebuild 58 = .ok (.iaload, 1) := by decide +kernel
theorem dX7_rebuild_59 : decode cX7_rebuild 59 = .ok (.if_icmp .ge 65, 3) := by decide +kernel
theorem dX7_rebuild_62 : decode cX7_rebuild 62 = .ok (.aload_n 0, 1) := by decide +kernel
theorem dX7_rebuild_63 : decode cX7_rebuild 63 = .ok (.iload_n 3, 1) := by decide +kernel
theorem dX7_rebuild_64 : decode cX7_rebuild 64 = .ok (.iload 4, 2) := by decide +kernel
theorem dX7_rebuild_66 : decode cX7_rebuild 66 = .ok (.invokevirtual 63, 3) := by decide +kernel
theorem dX7_rebuild_69 : decode cX7_rebuild 69 = .ok (.ifCond .eq 49, 3) := by decide +kernel
theorem dX7_rebuild_72 : decode cX7_rebuild 72 = .ok (.aload_n 0, 1) := by decide +kernel
theorem dX7_rebuild_73 : decode cX7_rebuild 73 = .ok (.getfield 22, 3) := by decide +kernel
theorem dX7_rebuild_76 : decode cX7_rebuild 76 = .ok (.sipush 2000, 3) := by decide +kernel
theorem dX7_rebuild_79 : decode cX7_rebuild 79 = .ok (.if_icmp .ge 39, 3) := by decide +kernel
theorem dX7_rebuild_82 : decode cX7_rebuild 82 = .ok (.aload_n 0, 1) := by decide +kernel
theorem dX7_rebuild_83 : decode cX7_rebuild 83 = .ok (.getfield 19, 3) := by decide +kernel
theorem dX7_rebuild_86 : decode cX7_rebuild 86 = .ok (.aload_n 0, 1) := by decide +kernel
theorem dX7_rebuild_87 : decode cX7_rebuild 87 = .ok (.getfield 22, 3) := by decide +kernel
theorem dX7_rebuild_90 : decode cX7_rebuild 90 = .ok (.aload_n 0, 1) := by decide +kernel
theorem dX7_rebuild_91 : decode cX7_rebuild 91 = .ok (.getfield 26, 3) := by decide +kernel
theorem dX7_rebuild_94 : decode cX7_rebuild 94 = .ok (.iastore, 1) := by decide +kernel
theorem dX7_rebuild_95 : decode cX7_rebuild 95 = .ok (.aload_n 0, 1) := by decide +kernel
theorem dX7_rebuild_96 : decode cX7_rebuild 96 = .ok (.dup, 1) := by decide +kernel
theorem dX7_rebuild_97 : decode cX7_rebuild 97 = .ok (.getfield 22, 3) := by decide +kernel
theorem dX7_rebuild_100 : decode cX7_rebuild 100 = .ok (.iconst 1, 1) := by decide +kernel
theorem dX7_rebuild_101 : decode cX7_rebuild 101 = .ok (.iadd, 1) := by decide +kernel
theorem dX7_rebuild_102 : decode cX7_rebuild 102 = .ok (.putfield 22, 3) := by decide +kernel
theorem dX7_rebuild_105 : decode cX7_rebuild 105 = .ok (.aload_n 0, 1) := by decide +kernel
theorem dX7_rebuild_106 : decode cX7_rebuild 106 = .ok (.iload_n 3, 1) := by decide +kernel
theorem dX7_rebuild_107 : decode cX7_rebuild 107 = .ok (.iload 4, 2) := by decide +kernel
theorem dX7_rebuild_109 : decode cX7_rebuild 109 = .ok (.iconst 1, 1) := by decide +kernel
theorem dX7_rebuild_110 : decode cX7_rebuild 110 = .ok (.invokestatic 67, 3) := by decide +kernel
theorem dX7_rebuild_113 : decode cX7_rebuild 113 = .ok (.aload_n 1, 1) := by decide +kernel
theorem dX7_rebuild_114 : decode cX7_rebuild 114 = .ok (.aload_n 2, 1) := by decide +kernel
theorem dX7_rebuild_115 : decode cX7_rebuild 115 = .ok (.invokevirtual 71, 3) := by decide +kernel
theorem dX7_rebuild_118 : decode cX7_rebuild 118 = .ok (.iinc 4 1, 3) := by decide +kernel
theorem dX7_rebuild_121 : decode cX7_rebuild 121 = .ok (.goto (-70), 3) := by decide +kernel
theorem dX7_rebuild_124 : decode cX7_rebuild 124 = .ok (.iinc 3 1, 3) := by decide +kernel
theorem dX7_rebuild_127 : decode cX7_rebuild 127 = .ok (.goto (-87), 3) := by decide +kernel
theorem dX7_rebuild_130 : decode cX7_rebuild 130 = .ok (.return_, 1) := by decide +kernel
theorem dX7_isLeft_0 : decode cX7_isLeft 0 = .ok (.aload_n 0, 1) := by decide +kernel
theorem dX7_isLeft_1 : decode cX7_isLeft 1 = .ok (.getfield 9, 3) := by decide +kernel
theorem dX7_isLeft_4 : decode cX7_isLeft 4 = .ok (.iload_n 1, 1) := by decide +kernel
theorem dX7_isLeft_5 : decode cX7_isLeft 5 = .ok (.laload, 1) := by decide +kernel
theorem dX7_isLeft_6 : decode cX7_isLeft 6 = .ok (.iload_n 2, 1) := by decide +kernel
theorem dX7_isLeft_7 : decode cX7_isLeft 7 = .ok (.lshr, 1) := by decide +kernel
theorem dX7_isLeft_8 : decode cX7_isLeft 8 = .ok (.lconst 1, 1) := by decide +kernel
theorem dX7_isLeft_9 : decode cX7_isLeft 9 = .ok (.land, 1) := by decide +kernel
theorem dX7_isLeft_10 : decode cX7_isLeft 10 = .ok (.lconst 1, 1) := by decide +kernel
theorem dX7_isLeft_11 : decode cX7_isLeft 11 = .ok (.lcmp, 1) := by decide +kernel
theorem dX7_isLeft_12 : decode cX7_isLeft 12 = .ok (.ifCond .ne 7, 3) := by decide +kernel
theorem dX7_isLeft_15 : decode cX7_isLeft 15 = .ok (.iconst 1, 1) := by decide +kernel
theorem dX7_isLeft_16 : decode cX7_isLeft 16 = .ok (.goto 4, 3) := by decide +kernel
theorem dX7_isLeft_19 : decode cX7_isLeft 19 = .ok (.iconst 0, 1) := by decide +kernel
theorem dX7_isLeft_20 : decode cX7_isLeft 20 = .ok (.ireturn, 1) := by decide +kernel
theorem dX7_draw_0 : decode cX7_draw 0 = .ok (.iload_n 1, 1) := by decide +kernel
theorem dX7_draw_1 : decode cX7_draw 1 = .ok (.istore 4, 2) := by decide +kernel
theorem dX7_draw_3 : decode cX7_draw 3 = .ok (.iload 4, 2) := by decide +kernel
theorem dX7_draw_5 : decode cX7_draw 5 = .ok (.bipush (-9), 2) := by decide +kernel
theorem dX7_draw_7 : decode cX7_draw 7 = .ok (.if_icmp .eq 76, 3) := by decide +kernel
theorem dX7_draw_10 : decode cX7_draw 10 = .ok (.aload_n 0, 1) := by decide +kernel
theorem dX7_draw_11 : decode cX7_draw 11 = .ok (.getfield 26, 3) := by decide +kernel
theorem dX7_draw_14 : decode cX7_draw 14 = .ok (.sipush 2000, 3) := by decide +kernel
theorem dX7_draw_17 : decode cX7_draw 17 = .ok (.if_icmp .ge 66, 3) := by decide +kernel
theorem dX7_draw_20 : decode cX7_draw 20 = .ok (.aload_n 0, 1) := by decide +kernel
theorem dX7_draw_21 : decode cX7_draw 21 = .ok (.getfield 15, 3) := by decide +kernel
theorem dX7_draw_24 : decode cX7_draw 24 = .ok (.aload_n 0, 1) := by decide +kernel
theorem dX7_draw_25 : decode cX7_draw 25 = .ok (.getfield 26, 3) := by decide +kernel
theorem dX7_draw_28 : decode cX7_draw 28 = .ok (.iload 4, 2) := by decide +kernel
theorem dX7_draw_30 : decode cX7_draw 30 = .ok (.iastore, 1) := by decide +kernel
theorem dX7_draw_31 : decode cX7_draw 31 = .ok (.aload_n 0, 1) := by decide +kernel
theorem dX7_draw_32 : decode cX7_draw 32 = .ok (.dup, 1) := by decide +kernel
theorem dX7_draw_33 : decode cX7_draw 33 = .ok (.getfield 26, 3) := by decide +kernel
theorem dX7_draw_36 : decode cX7_draw 36 = .ok (.iconst 1, 1) := by decide +kernel
theorem dX7_draw_37 : decode cX7_draw 37 = .ok (.iadd, 1) := by decide +kernel
theorem dX7_draw_38 : decode cX7_draw 38 = .ok (.putfield 26, 3) := by decide +kernel
theorem dX7_draw_41 : decode cX7_draw 41 = .ok (.aload_n 0, 1) := by decide +kernel
theorem dX7_draw_42 : decode cX7_draw 42 = .ok (.getfield 9, 3) := by decide +kernel
theorem dX7_draw_45 : decode cX7_draw 45 = .ok (.iload 4, 2) := by decide +kernel
theorem dX7_draw_47 : decode cX7_draw 47 = .ok (.invokestatic 38, 3) := by decide +kernel
theorem dX7_draw_50 : decode cX7_draw 50 = .ok (.dup2, 1) := by decide +kernel
theorem dX7_draw_51 : decode cX7_draw 51 = .ok (.laload, 1) := by decide +kernel
theorem dX7_draw_52 : decode cX7_draw 52 = .ok (.lconst 1, 1) := by decide +kernel
theorem dX7_draw_53 : decode cX7_draw 53 = .ok (.iload 4, 2) := by decide +kernel
theorem dX7_draw_55 : decode cX7_draw 55 = .ok (.invokestatic 29, 3) := by decide +kernel
theorem dX7_draw_58 : decode cX7_draw 58 = .ok (.lshl, 1) := by decide +kernel
theorem dX7_draw_59 : decode cX7_draw 59 = .ok (.ldc2_w 75, 3) := by decide +kernel
theorem dX7_draw_62 : decode cX7_draw 62 = .ok (.lxor, 1) := by decide +kernel
theorem dX7_draw_63 : decode cX7_draw 63 = .ok (.land, 1) := by decide +kernel
theorem dX7_draw_64 : decode cX7_draw 64 = .ok (.lastore, 1) := by decide +kernel
theorem dX7_draw_65 : decode cX7_draw 65 = .ok (.aload_n 0, 1) := by decide +kernel
theorem dX7_draw_66 : decode cX7_draw 66 = .ok (.iload 4, 2) := by decide +kernel
theorem dX7_draw_68 : decode cX7_draw 68 = .ok (.aload_n 2, 1) := by decide +kernel
theorem dX7_draw_69 : decode cX7_draw 69 = .ok (.aload_n 3, 1) := by decide +kernel
theorem dX7_draw_70 : decode cX7_draw 70 = .ok (.invokestatic 44, 3) := by decide +kernel
theorem dX7_draw_73 : decode cX7_draw 73 = .ok (.aload_n 2, 1) := by decide +kernel
theorem dX7_draw_74 : decode cX7_draw 74 = .ok (.aload_n 3, 1) := by decide +kernel
theorem dX7_draw_75 : decode cX7_draw 75 = .ok (.invokevirtual 77, 3) := by decide +kernel
theorem dX7_draw_78 : decode cX7_draw 78 = .ok (.istore 4, 2) := by decide +kernel
theorem dX7_draw_80 : decode cX7_draw 80 = .ok (.goto (-77), 3) := by decide +kernel
theorem dX7_draw_83 : decode cX7_draw 83 = .ok (.return_, 1) := by decide +kernel
theorem dX7_stepFrom_0 : decode cX7_stepFrom 0 = .ok (.iload_n 1, 1) := by decide +kernel
theorem dX7_stepFrom_1 : decode cX7_stepFrom 1 = .ok (.bipush (-9), 2) := by decide +kernel
theorem dX7_stepFrom_3 : decode cX7_stepFrom 3 = .ok (.if_icmp .ne 6, 3) := by decide +kernel
theorem dX7_stepFrom_6 : decode cX7_stepFrom 6 = .ok (.bipush (-9), 2) := by decide +kernel
theorem dX7_stepFrom_8 : decode cX7_stepFrom 8 = .ok (.ireturn, 1) := by decide +kernel
theorem dX7_stepFrom_9 : decode cX7_stepFrom 9 = .ok (.iconst 0, 1) := by decide +kernel
theorem dX7_stepFrom_10 : decode cX7_stepFrom 10 = .ok (.istore 4, 2) := by decide +kernel
theorem dX7_stepFrom_12 : decode cX7_stepFrom 12 = .ok (.iload 4, 2) := by decide +kernel
theorem dX7_stepFrom_14 : decode cX7_stepFrom 14 = .ok (.aload_n 2, 1) := by decide +kernel
theorem dX7_stepFrom_15 : decode cX7_stepFrom 15 = .ok (.getfield 59, 3) := by decide +kernel
theorem dX7_stepFrom_18 : decode cX7_stepFrom 18 = .ok (.if_icmp .ge 80, 3) := by decide +kernel
theorem dX7_stepFrom_21 : decode cX7_stepFrom 21 = .ok (.aload_n 3, 1) := by decide +kernel
theorem dX7_stepFrom_22 : decode cX7_stepFrom 22 = .ok (.getfield 52, 3) := by decide +kernel
theorem dX7_stepFrom_25 : decode cX7_stepFrom 25 = .ok (.iload 4, 2) := by decide +kernel
theorem dX7_stepFrom_27 : decode cX7_stepFrom 27 = .ok (.iaload, 1) := by decide +kernel
theorem dX7_stepFrom_28 : decode cX7_stepFrom 28 = .ok (.iconst 1, 1) := by decide +kernel
theorem dX7_stepFrom_29 : decode cX7_stepFrom 29 = .ok (.isub, 1) := by decide +kernel
theorem dX7_stepFrom_30 : decode cX7_stepFrom 30 = .ok (.istore 5, 2) := by decide +kernel
theorem dX7_stepFrom_32 : decode cX7_stepFrom 32 = .ok (.aload_n 2, 1) := by decide +kernel
theorem dX7_stepFrom_33 : decode cX7_stepFrom 33 = .ok (.getfield 33, 3) := by decide +kernel
theorem dX7_stepFrom_36 : decode cX7_stepFrom 36 = .ok (.iload 4, 2) := by decide +kernel
theorem dX7_stepFrom_38 : decode cX7_stepFrom 38 = .ok (.iaload, 1) := by decide +kernel
theorem dX7_stepFrom_39 : decode cX7_stepFrom 39 = .ok (.iload_n 1, 1) := by decide +kernel
theorem dX7_stepFrom_40 : decode cX7_stepFrom 40 = .ok (.if_icmp .ne 21, 3) := by decide +kernel
theorem dX7_stepFrom_43 : decode cX7_stepFrom 43 = .ok (.aload_n 0, 1) := by decide +kernel
theorem dX7_stepFrom_44 : decode cX7_stepFrom 44 = .ok (.iload 4, 2) := by decide +kernel
theorem dX7_stepFrom_46 : decode cX7_stepFrom 46 = .ok (.iconst 0, 1) := by decide +kernel
theorem dX7_stepFrom_47 : decode cX7_stepFrom 47 = .ok (.invokevirtual 63, 3) := by decide +kernel
theorem dX7_stepFrom_50 : decode cX7_stepFrom 50 = .ok (.ifCond .eq 11, 3) := by decide +kernel
theorem dX7_stepFrom_53 : decode cX7_stepFrom 53 = .ok (.iload 4, 2) := by decide +kernel
theorem dX7_stepFrom_55 : decode cX7_stepFrom 55 = .ok (.iconst 0, 1) := by decide +kernel
theorem dX7_stepFrom_56 : decode cX7_stepFrom 56 = .ok (.iconst 1, 1) := by decide +kernel
theorem dX7_stepFrom_57 : decode cX7_stepFrom 57 = .ok (.invokestatic 67, 3) := by decide +kernel
theorem dX7_stepFrom_60 : decode cX7_stepFrom 60 = .ok (.ireturn, 1) := by decide +kernel
theorem dX7_stepFrom_61 : decode cX7_stepFrom 61 = .ok (.aload_n 2, 1) := by decide +kernel
theorem dX7_stepFrom_62 : decode cX7_stepFrom 62 = .ok (.getfield 56, 3) := by decide +kernel
theorem dX7_stepFrom_65 : decode cX7_stepFrom 65 = .ok (.iload 4, 2) := by decide +kernel
theorem dX7_stepFrom_67 : decode cX7_stepFrom 67 = .ok (.iaload, 1) := by decide +kernel
theorem dX7_stepFrom_68 : decode cX7_stepFrom 68 = .ok (.iload_n 1, 1) := by decide +kernel
theorem dX7_stepFrom_69 : decode cX7_stepFrom 69 = .ok (.if_icmp .ne 23, 3) := by decide +kernel
theorem dX7_stepFrom_72 : decode cX7_stepFrom 72 = .ok (.aload_n 0, 1) := by decide +kernel
theorem dX7_stepFrom_73 : decode cX7_stepFrom 73 = .ok (.iload 4, 2) := by decide +kernel
theorem dX7_stepFrom_75 : decode cX7_stepFrom 75 = .ok (.iload 5, 2) := by decide +kernel
theorem dX7_stepFrom_77 : decode cX7_stepFrom 77 = .ok (.invokevirtual 63, 3) := by decide +kernel
theorem dX7_stepFrom_80 : decode cX7_stepFrom 80 = .ok (.ifCond .eq 12, 3) := by decide +kernel
theorem dX7_stepFrom_83 : decode cX7_stepFrom 83 = .ok (.iload 4, 2) := by decide +kernel
theorem dX7_stepFrom_85 : decode cX7_stepFrom 85 = .ok (.iload 5, 2) := by decide +kernel
theorem dX7_stepFrom_87 : decode cX7_stepFrom 87 = .ok (.iconst 0, 1) := by decide +kernel
theorem dX7_stepFrom_88 : decode cX7_stepFrom 88 = .ok (.invokestatic 67, 3) := by decide +kernel
theorem dX7_stepFrom_91 : decode cX7_stepFrom 91 = .ok (.ireturn, 1) := by decide +kernel
theorem dX7_stepFrom_92 : decode cX7_stepFrom 92 = .ok (.iinc 4 1, 3) := by decide +kernel
theorem dX7_stepFrom_95 : decode cX7_stepFrom 95 = .ok (.goto (-83), 3) := by decide +kernel
theorem dX7_stepFrom_98 : decode cX7_stepFrom 98 = .ok (.bipush (-9), 2) := by decide +kernel
theorem dX7_stepFrom_100 : decode cX7_stepFrom 100 = .ok (.ireturn, 1) := by decide +kernel
theorem dX8_init_0 : decode cX8_init 0 = .ok (.aload_n 0, 1) := by decide +kernel
theorem dX8_init_1 : decode cX8_init 1 = .ok (.invokespecial 3, 3) := by decide +kernel
theorem dX8_init_4 : decode cX8_init 4 = .ok (.aload_n 0, 1) := by decide +kernel
theorem dX8_init_5 : decode cX8_init 5 = .ok (.new 9, 3) := by decide +kernel
theorem dX8_init_8 : decode cX8_init 8 = .ok (.dup, 1) := by decide +kernel
theorem dX8_init_9 : decode cX8_init 9 = .ok (.invokespecial 11, 3) := by decide +kernel
theorem dX8_init_12 : decode cX8_init 12 = .ok (.putfield 12, 3) := by decide +kernel
theorem dX8_init_15 : decode cX8_init 15 = .ok (.aload_n 0, 1) := by decide +kernel
theorem dX8_init_16 : decode cX8_init 16 = .ok (.new 16, 3) := by decide +kernel
theorem dX8_init_19 : decode cX8_init 19 = .ok (.dup, 1) := by decide +kernel
theorem dX8_init_20 : decode cX8_init 20 = .ok (.invokespecial 18, 3) := by decide +kernel
theorem dX8_init_23 : decode cX8_init 23 = .ok (.putfield 19, 3) := by decide +kernel
theorem dX8_init_26 : decode cX8_init 26 = .ok (.aload_n 0, 1) := by decide +kernel
theorem dX8_init_27 : decode cX8_init 27 = .ok (.new 23, 3) := by decide +kernel
theorem dX8_init_30 : decode cX8_init 30 = .ok (.dup, 1) := by decide +kernel
theorem dX8_init_31 : decode cX8_init 31 = .ok (.invokespecial 25, 3) := by decide +kernel
theorem dX8_init_34 : decode cX8_init 34 = .ok (.putfield 26, 3) := by decide +kernel
theorem dX8_init_37 : decode cX8_init 37 = .ok (.aload_n 0, 1) := by decide +kernel
theorem dX8_init_38 : decode cX8_init 38 = .ok (.new 30, 3) := by decide +kernel
theorem dX8_init_41 : decode cX8_init 41 = .ok (.dup, 1) := by decide +kernel
theorem dX8_init_42 : decode cX8_init 42 = .ok (.invokespecial 32, 3) := by decide +kernel
theorem dX8_init_45 : decode cX8_init 45 = .ok (.putfield 33, 3) := by decide +kernel
theorem dX8_init_48 : decode cX8_init 48 = .ok (.aload_n 0, 1) := by decide +kernel
theorem dX8_init_49 : decode cX8_init 49 = .ok (.new 37, 3) := by decide +kernel
theorem dX8_init_52 : decode cX8_init 52 = .ok (.dup, 1) := by decide +kernel
theorem dX8_init_53 : decode cX8_init 53 = .ok (.invokespecial 39, 3) := by decide +kernel
theorem dX8_init_56 : decode cX8_init 56 = .ok (.putfield 40, 3) := by decide +kernel
theorem dX8_init_59 : decode cX8_init 59 = .ok (.aload_n 0, 1) := by decide +kernel
theorem dX8_init_60 : decode cX8_init 60 = .ok (.new 44, 3) := by decide +kernel
theorem dX8_init_63 : decode cX8_init 63 = .ok (.dup, 1) := by decide +kernel
theorem dX8_init_64 : decode cX8_init 64 = .ok (.invokespecial 46, 3) := by decide +kernel
theorem dX8_init_67 : decode cX8_init 67 = .ok (.putfield 47, 3) := by decide +kernel
theorem dX8_init_70 : decode cX8_init 70 = .ok (.aload_n 0, 1) := by decide +kernel
theorem dX8_init_71 : decode cX8_init 71 = .ok (.new 51, 3) := by decide +kernel
theorem dX8_init_74 : decode cX8_init 74 = .ok (.dup, 1) := by decide +kernel
theorem dX8_init_75 : decode cX8_init 75 = .ok (.invokespecial 53, 3) := by decide +kernel
theorem dX8_init_78 : decode cX8_init 78 = .ok (.putfield 54, 3) := by decide +kernel
theorem dX8_init_81 : decode cX8_init 81 = .ok (.aload_n 0, 1) := by decide +kernel
theorem dX8_init_82 : decode cX8_init 82 = .ok (.bipush 8, 2) := by decide +kernel
theorem dX8_init_84 : decode cX8_init 84 = .ok (.newarray .int, 2) := by decide +kernel
theorem dX8_init_86 : decode cX8_init 86 = .ok (.putfield 58, 3) := by decide +kernel
theorem dX8_init_89 : decode cX8_init 89 = .ok (.aload_n 0, 1) := by decide +kernel
theorem dX8_init_90 : decode cX8_init 90 = .ok (.iconst 0, 1) := by decide +kernel
theorem dX8_init_91 : decode cX8_init 91 = .ok (.putfield 62, 3) := by decide +kernel
theorem dX8_init_94 : decode cX8_init 94 = .ok (.aload_n 0, 1) := by decide +kernel
theorem dX8_init_95 : decode cX8_init 95 = .ok (.bipush (-9), 2) := by decide +kernel
theorem dX8_init_97 : decode cX8_init 97 = .ok (.putfield 66, 3) := by decide +kernel
theorem dX8_init_100 : decode cX8_init 100 = .ok (.return_, 1) := by decide +kernel
theorem dX8_point_0 : decode cX8_point 0 = .ok (.iload_n 1, 1) := by decide +kernel
theorem dX8_point_1 : decode cX8_point 1 = .ok (.iload_n 2, 1) := by decide +kernel
theorem dX8_point_2 : decode cX8_point 2 = .ok (.iload_n 3, 1) := by decide +kernel
theorem dX8_point_3 : decode cX8_point 3 = .ok (.invokestatic 69, 3) := by decide +kernel
theorem dX8_point_6 : decode cX8_point 6 = .ok (.ifCond .ne 6, 3) := by decide +kernel
theorem dX8_point_9 : decode cX8_point 9 = .ok (.bipush (-2), 2) := by decide +kernel
theorem dX8_point_11 : decode cX8_point 11 = .ok (.ireturn, 1) := by decide +kernel
theorem dX8_point_12 : decode cX8_point 12 = .ok (.aload_n 0, 1) := by decide +kernel
theorem dX8_point_13 : decode cX8_point 13 = .ok (.getfield 12, 3) := by decide +kernel
theorem dX8_point_16 : decode cX8_point 16 = .ok (.iload_n 1, 1) := by decide +kernel
theorem dX8_point_17 : decode cX8_point 17 = .ok (.iload_n 2, 1) := by decide +kernel
theorem dX8_point_18 : decode cX8_point 18 = .ok (.iload_n 3, 1) := by decide +kernel
theorem dX8_point_19 : decode cX8_point 19 = .ok (.invokevirtual 73, 3) := by decide +kernel
theorem dX8_point_22 : decode cX8_point 22 = .ok (.ifCond .lt 6, 3) := by decide +kernel
theorem dX8_point_25 : decode cX8_point 25 = .ok (.bipush (-3), 2) := by decide +kernel
theorem dX8_point_27 : decode cX8_point 27 = .ok (.ireturn, 1) := by decide +kernel
theorem dX8_point_28 : decode cX8_point 28 = .ok (.aload_n 0, 1) := by decide +kernel
theorem dX8_point_29 : decode cX8_point 29 = .ok (.getfield 12, 3) := by decide +kernel
theorem dX8_point_32 : decode cX8_point 32 = .ok (.getfield 77, 3) := by decide +kernel
theorem dX8_point_35 : decode cX8_point 35 = .ok (.bipush 16, 2) := by decide +kernel
theorem dX8_point_37 : decode cX8_point 37 = .ok (.if_icmp .lt 6, 3) := by decide +kernel
theorem dX8_point_40 : decode cX8_point 40 = .ok (.bipush (-4), 2) := by decide +kernel
theorem dX8_point_42 : decode cX8_point 42 = .ok (.ireturn, 1) := by decide +kernel
theorem dX8_point_43 : decode cX8_point 43 = .ok (.aload_n 0, 1) := by decide +kernel
theorem dX8_point_44 : decode cX8_point 44 = .ok (.invokevirtual 80, 3) := by decide +kernel
theorem dX8_point_47 : decode cX8_point 47 = .ok (.aload_n 0, 1) := by decide +kernel
theorem dX8_point_48 : decode cX8_point 48 = .ok (.getfield 12, 3) := by decide +kernel
theorem dX8_point_51 : decode cX8_point 51 = .ok (.iload_n 1, 1) := by decide +kernel
theorem dX8_point_52 : decode cX8_point 52 = .ok (.iload_n 2, 1) := by decide +kernel
theorem dX8_point_53 : decode cX8_point 53 = .ok (.iload_n 3, 1) := by decide +kernel
theorem dX8_point_54 : decode cX8_point 54 = .ok (.invokevirtual 83, 3) := by decide +kernel
theorem dX8_point_57 : decode cX8_point 57 = .ok (.ireturn, 1) := by decide +kernel
theorem dX8_face_0 : decode cX8_face 0 = .ok (.aload_n 0, 1) := by decide +kernel
theorem dX8_face_1 : decode cX8_face 1 = .ok (.getfield 12, 3) := by decide +kernel
theorem dX8_face_4 : decode cX8_face 4 = .ok (.iload_n 1, 1) := by decide +kernel
theorem dX8_face_5 : decode cX8_face 5 = .ok (.invokevirtual 86, 3) := by decide +kernel
theorem dX8_face_8 : decode cX8_face 8 = .ok (.ifCond .eq 25, 3) := by decide +kernel
theorem dX8_face_11 : decode cX8_face 11 = .ok (.aload_n 0, 1) := by decide +kernel
theorem dX8_face_12 : decode cX8_face 12 = .ok (.getfield 12, 3) := by decide +kernel
theorem dX8_face_15 : decode cX8_face 15 = .ok (.iload_n 2, 1) := by decide +kernel
theorem dX8_face_16 : decode cX8_face 16 = .ok (.invokevirtual 86, 3) := by decide +kernel
theorem dX8_face_19 : decode cX8_face 19 = .ok (.ifCond .eq 14, 3) := by decide +kernel
theorem dX8_face_22 : decode cX8_face 22 = .ok (.aload_n 0, 1) := by decide +kernel
theorem dX8_face_23 : decode cX8_face 23 = .ok (.getfield 12, 3) := by decide +kernel
theorem dX8_face_26 : decode cX8_face 26 = .ok (.iload_n 3, 1) := by decide +kernel
theorem dX8_face_27 : decode cX8_face 27 = .ok (.invokevirtual 86, 3) := by decide +kernel
theorem dX8_face_30 : decode cX8_face 30 = .ok (.ifCond .ne 5, 3) := by decide +kernel
theorem dX8_face_33 : decode cX8_face 33 = .ok (.iconst (-1), 1) := by decide +kernel
theorem dX8_face_34 : decode cX8_face 34 = .ok (.ireturn, 1) := by decide +kernel
theorem dX8_face_35 : decode cX8_face 35 = .ok (.aload_n 0, 1) := by decide +kernel
theorem dX8_face_36 : decode cX8_face 36 = .ok (.getfield 12, 3) := by decide +kernel
theorem dX8_face_39 : decode cX8_face 39 = .ok (.iload_n 1, 1) := by decide +kernel
theorem dX8_face_40 : decode cX8_face 40 = .ok (.iload_n 2, 1) := by decide +kernel
theorem dX8_face_41 : decode cX8_face 41 = .ok (.iload_n 3, 1) := by decide +kernel
theorem dX8_face_42 : decode cX8_face 42 = .ok (.invokevirtual 90, 3) := by decide +kernel
theorem dX8_face_45 : decode cX8_face 45 = .ok (.ifCond .ne 16, 3) := by decide +kernel
theorem dX8_face_48 : decode cX8_face 48 = .ok (.aload_n 0, 1) := by decide +kernel
theorem dX8_face_49 : decode cX8_face 49 = .ok (.getfield 12, 3) := by decide +kernel
theorem dX8_face_52 : decode cX8_face 52 = .ok (.iload_n 1, 1) := by decide +kernel
theorem dX8_face_53 : decode cX8_face 53 = .ok (.iload_n 2, 1) := by decide +kernel
theorem dX8_face_54 : decode cX8_face 54 = .ok (.iload_n 3, 1) := by decide +kernel
theorem dX8_face_55 : decode cX8_face 55 = .ok (.invokevirtual 93, 3) := by decide +kernel
theorem dX8_face_58 : decode cX8_face 58 = .ok (.ifCond .eq 6, 3) := by decide +kernel
theorem dX8_face_61 : decode cX8_face 61 = .ok (.bipush (-3), 2) := by decide +kernel
theorem dX8_face_63 : decode cX8_face 63 = .ok (.ireturn, 1) := by decide +kernel
theorem dX8_face_64 : decode cX8_face 64 = .ok (.aload_n 0, 1) := by decide +kernel
theorem dX8_face_65 : decode cX8_face 65 = .ok (.getfield 12, 3) := by decide +kernel
theorem dX8_face_68 : decode cX8_face 68 = .ok (.getfield 96, 3) := by decide +kernel
theorem dX8_face_71 : decode cX8_face 71 = .ok (.bipush 24, 2) := by decide +kernel
theorem dX8_face_73 : decode cX8_face 73 = .ok (.if_icmp .lt 6, 3) := by decide +kernel
theorem dX8_face_76 : decode cX8_face 76 = .ok (.bipush (-4), 2) := by decide +kernel
theorem dX8_face_78 : decode cX8_face 78 = .ok (.ireturn, 1) := by decide +kernel
theorem dX8_face_79 : decode cX8_face 79 = .ok (.aload_n 0, 1) := by decide +kernel
theorem dX8_face_80 : decode cX8_face 80 = .ok (.invokevirtual 80, 3) := by decide +kernel
theorem dX8_face_83 : decode cX8_face 83 = .ok (.aload_n 0, 1) := by decide +kernel
theorem dX8_face_84 : decode cX8_face 84 = .ok (.getfield 12, 3) := by decide +kernel
theorem dX8_face_87 : decode cX8_face 87 = .ok (.iload_n 1, 1) := by decide +kernel
theorem dX8_face_88 : decode cX8_face 88 = .ok (.iload_n 2, 1) := by decide +kernel
theorem dX8_face_89 : decode cX8_face 89 = .ok (.iload_n 3, 1) := by decide +kernel
theorem dX8_face_90 : decode cX8_face 90 = .ok (.invokevirtual 99, 3) := by decide +kernel
theorem dX8_face_93 : decode cX8_face 93 = .ok (.ireturn, 1) := by decide +kernel
theorem dX8_wire_0 : decode cX8_wire 0 = .ok (.aload_n 0, 1) := by decide +kernel
theorem dX8_wire_1 : decode cX8_wire 1 = .ok (.getfield 12, 3) := by decide +kernel
theorem dX8_wire_4 : decode cX8_wire 4 = .ok (.iload_n 1, 1) := by decide +kernel
theorem dX8_wire_5 : decode cX8_wire 5 = .ok (.invokevirtual 86, 3) := by decide +kernel
theorem dX8_wire_8 : decode cX8_wire 8 = .ok (.ifCond .eq 14, 3) := by decide +kernel
theorem dX8_wire_11 : decode cX8_wire 11 = .ok (.aload_n 0, 1) := by decide +kernel
theorem dX8_wire_12 : decode cX8_wire 12 = .ok (.getfield 12, 3) := by decide +kernel
theorem dX8_wire_15 : decode cX8_wire 15 = .ok (.iload_n 2, 1) := by decide +kernel
theorem dX8_wire_16 : decode cX8_wire 16 = .ok (.invokevirtual 86, 3) := by decide +kernel
theorem dX8_wire_19 : decode cX8_wire 19 = .ok (.ifCond .ne 5, 3) := by decide +kernel
theorem dX8_wire_22 : decode cX8_wire 22 = .ok (.iconst (-1), 1) := by decide +kernel
theorem dX8_wire_23 : decode cX8_wire 23 = .ok (.ireturn, 1) := by decide +kernel
theorem dX8_wire_24 : decode cX8_wire 24 = .ok (.iload_n 1, 1) := by decide +kernel
theorem dX8_wire_25 : decode cX8_wire 25 = .ok (.iload_n 2, 1) := by decide +kernel
theorem dX8_wire_26 : decode cX8_wire 26 = .ok (.if_icmp .eq 15, 3) := by decide +kernel
theorem dX8_wire_29 : decode cX8_wire 29 = .ok (.aload_n 0, 1) := by decide +kernel
theorem dX8_wire_30 : decode cX8_wire 30 = .ok (.getfield 12, 3) := by decide +kernel
theorem dX8_wire_33 : decode cX8_wire 33 = .ok (.iload_n 1, 1) := by decide +kernel
theorem dX8_wire_34 : decode cX8_wire 34 = .ok (.iload_n 2, 1) := by decide +kernel
theorem dX8_wire_35 : decode cX8_wire 35 = .ok (.invokevirtual 102, 3) := by decide +kernel
theorem dX8_wire_38 : decode cX8_wire 38 = .ok (.ifCond .eq 6, 3) := by decide +kernel
theorem dX8_wire_41 : decode cX8_wire 41 = .ok (.bipush (-3), 2) := by decide +kernel
theorem dX8_wire_43 : decode cX8_wire 43 = .ok (.ireturn, 1) := by decide +kernel
theorem dX8_wire_44 : decode cX8_wire 44 = .ok (.aload_n 0, 1) := by decide +kernel
theorem dX8_wire_45 : decode cX8_wire 45 = .ok (.getfield 12, 3) := by decide +kernel
theorem dX8_wire_48 : decode cX8_wire 48 = .ok (.getfield 106, 3) := by decide +kernel
theorem dX8_wire_51 : decode cX8_wire 51 = .ok (.bipush 8, 2) := by decide +kernel
theorem dX8_wire_53 : decode cX8_wire 53 = .ok (.if_icmp .lt 6, 3) := by decide +kernel
theorem dX8_wire_56 : decode cX8_wire 56 = .ok (.bipush (-4), 2) := by decide +kernel
theorem dX8_wire_58 : decode cX8_wire 58 = .ok (.ireturn, 1) := by decide +kernel
theorem dX8_wire_59 : decode cX8_wire 59 = .ok (.aload_n 0, 1) := by decide +kernel
theorem dX8_wire_60 : decode cX8_wire 60 = .ok (.invokevirtual 80, 3) := by decide +kernel
theorem dX8_wire_63 : decode cX8_wire 63 = .ok (.aload_n 0, 1) := by decide +kernel
theorem dX8_wire_64 : decode cX8_wire 64 = .ok (.getfield 12, 3) := by decide +kernel
theorem dX8_wire_67 : decode cX8_wire 67 = .ok (.iload_n 1, 1) := by decide +kernel
theorem dX8_wire_68 : decode cX8_wire 68 = .ok (.iload_n 2, 1) := by decide +kernel
theorem dX8_wire_69 : decode cX8_wire 69 = .ok (.invokevirtual 109, 3) := by decide +kernel
theorem dX8_wire_72 : decode cX8_wire 72 = .ok (.ireturn, 1) := by decide +kernel
theorem dX8_block_0 : decode cX8_block 0 = .ok (.iload_n 1, 1) := by decide +kernel
theorem dX8_block_1 : decode cX8_block 1 = .ok (.iload 4, 2) := by decide +kernel
theorem dX8_block_3 : decode cX8_block 3 = .ok (.invokestatic 113, 3) := by decide +kernel
theorem dX8_block_6 : decode cX8_block 6 = .ok (.ifCond .eq 21, 3) := by decide +kernel
theorem dX8_block_9 : decode cX8_block 9 = .ok (.iload_n 2, 1) := by decide +kernel
theorem dX8_block_10 : decode cX8_block 10 = .ok (.iload 5, 2) := by decide +kernel
theorem dX8_block_12 : decode cX8_block 12 = .ok (.invokestatic 113, 3) := by decide +kernel
theorem dX8_block_15 : decode cX8_block 15 = .ok (.ifCond .eq 12, 3) := by decide +kernel
theorem dX8_block_18 : decode cX8_block 18 = .ok (.iload_n 3, 1) := by decide +kernel
theorem dX8_block_19 : decode cX8_block 19 = .ok (.iload 6, 2) := by decide +kernel
theorem dX8_block_21 : decode cX8_block 21 = .ok (.invokestatic 113, 3) := by decide +kernel
theorem dX8_block_24 : decode cX8_block 24 = .ok (.ifCond .ne 6, 3) := by decide +kernel
theorem dX8_block_27 : decode cX8_block 27 = .ok (.bipush (-2), 2) := by decide +kernel
theorem dX8_block_29 : decode cX8_block 29 = .ok (.ireturn, 1) := by decide +kernel
theorem dX8_block_30 : decode cX8_block 30 = .ok (.iconst 0, 1) := by decide +kernel
theorem dX8_block_31 : decode cX8_block 31 = .ok (.istore 7, 2) := by decide +kernel
theorem dX8_block_33 : decode cX8_block 33 = .ok (.iconst 0, 1) := by decide +kernel
theorem dX8_block_34 : decode cX8_block 34 = .ok (.istore 8, 2) := by decide +kernel
theorem dX8_block_36 : decode cX8_block 36 = .ok (.iload 8, 2) := by decide +kernel
theorem dX8_block_38 : decode cX8_block 38 = .ok (.bipush 8, 2) := by decide +kernel
theorem dX8_block_40 : decode cX8_block 40 = .ok (.if_icmp .ge 69, 3) := by decide +kernel
theorem dX8_block_43 : decode cX8_block 43 = .ok (.aload_n 0, 1) := by decide +kernel
theorem dX8_block_44 : decode cX8_block 44 = .ok (.getfield 58, 3) := by decide +kernel
theorem dX8_block_47 : decode cX8_block 47 = .ok (.iload 8, 2) := by decide +kernel
theorem dX8_block_49 : decode cX8_block 49 = .ok (.aload_n 0, 1) := by decide +kernel
theorem dX8_block_50 : decode cX8_block 50 = .ok (.getfield 12, 3) := by decide +kernel
theorem dX8_block_53 : decode cX8_block 53 = .ok (.iload_n 1, 1) := by decide +kernel
theorem dX8_block_54 : decode cX8_block 54 = .ok (.iload 8, 2) := by decide +kernel
theorem dX8_block_56 : decode cX8_block 56 = .ok (.iconst 0, 1) := by decide +kernel
theorem dX8_block_57 : decode cX8_block 57 = .ok (.invokestatic 116, 3) := by decide +kernel
theorem dX8_block_60 : decode cX8_block 60 = .ok (.iload 4, 2) := by decide +kernel
theorem dX8_block_62 : decode cX8_block 62 = .ok (.imul, 1) := by decide +kernel
theorem dX8_block_63 : decode cX8_block 63 = .ok (.iadd, 1) := by decide +kernel
theorem dX8_block_64 : decode cX8_block 64 = .ok (.iload_n 2, 1) := by decide +kernel
theorem dX8_block_65 : decode cX8_block 65 = .ok (.iload 8, 2) := by decide +kernel
theorem dX8_block_67 : decode cX8_block 67 = .ok (.iconst 1, 1) := by decide +kernel
theorem dX8_block_68 : decode cX8_block 68 = .ok (.invokestatic 116, 3) := by decide +kernel
theorem dX8_block_71 : decode cX8_block 71 = .ok (.iload 5, 2) := by decide +kernel
theorem dX8_block_73 : decode cX8_block 73 = .ok (.imul, 1) := by decide +kernel
theorem dX8_block_74 : decode cX8_block 74 = .ok (.iadd, 1) := by decide +kernel
theorem dX8_block_75 : decode cX8_block 75 = .ok (.iload_n 3, 1) := by decide +kernel
theorem dX8_block_76 : decode cX8_block 76 = .ok (.iload 8, 2) := by decide +kernel
