theorem dX9_hidersOf_56 : decode cX9_hidersOf 56 = .ok (.iconst 1, 1) := by decide +kernel
theorem dX9_hidersOf_57 : decode cX9_hidersOf 57 = .ok (.goto 4, 3) := by decide +kernel
theorem dX9_hidersOf_60 : decode cX9_hidersOf 60 = .ok (.iconst 0, 1) := by decide +kernel
theorem dX9_hidersOf_61 : decode cX9_hidersOf 61 = .ok (.istore 4, 2) := by decide +kernel
theorem dX9_hidersOf_63 : decode cX9_hidersOf 63 = .ok (.iinc 5 1, 3) := by decide +kernel
theorem dX9_hidersOf_66 : decode cX9_hidersOf 66 = .ok (.goto (-34), 3) := by decide +kernel
theorem dX9_hidersOf_69 : decode cX9_hidersOf 69 = .ok (.iload_n 2, 1) := by decide +kernel
theorem dX9_hidersOf_70 : decode cX9_hidersOf 70 = .ok (.iload 4, 2) := by decide +kernel
theorem dX9_hidersOf_72 : decode cX9_hidersOf 72 = .ok (.ifCond .eq 7, 3) := by decide +kernel
theorem dX9_hidersOf_75 : decode cX9_hidersOf 75 = .ok (.iconst 1, 1) := by decide +kernel
theorem dX9_hidersOf_76 : decode cX9_hidersOf 76 = .ok (.goto 4, 3) := by decide +kernel
theorem dX9_hidersOf_79 : decode cX9_hidersOf 79 = .ok (.iconst 0, 1) := by decide +kernel
theorem dX9_hidersOf_80 : decode cX9_hidersOf 80 = .ok (.iadd, 1) := by decide +kernel
theorem dX9_hidersOf_81 : decode cX9_hidersOf 81 = .ok (.istore_n 2, 1) := by decide +kernel
theorem dX9_hidersOf_82 : decode cX9_hidersOf 82 = .ok (.iinc 3 1, 3) := by decide +kernel
theorem dX9_hidersOf_85 : decode cX9_hidersOf 85 = .ok (.goto (-81), 3) := by decide +kernel
theorem dX9_hidersOf_88 : decode cX9_hidersOf 88 = .ok (.iload_n 2, 1) := by decide +kernel
theorem dX9_hidersOf_89 : decode cX9_hidersOf 89 = .ok (.ireturn, 1) := by decide +kernel
theorem dX9_commonFaces_0 : decode cX9_commonFaces 0 = .ok (.iconst 0, 1) := by decide +kernel
theorem dX9_commonFaces_1 : decode cX9_commonFaces 1 = .ok (.istore_n 3, 1) := by decide +kernel
theorem dX9_commonFaces_2 : decode cX9_commonFaces 2 = .ok (.iconst 0, 1) := by decide +kernel
theorem dX9_commonFaces_3 : decode cX9_commonFaces 3 = .ok (.istore 4, 2) := by decide +kernel
theorem dX9_commonFaces_5 : decode cX9_commonFaces 5 = .ok (.iload 4, 2) := by decide +kernel
theorem dX9_commonFaces_7 : decode cX9_commonFaces 7 = .ok (.aload_n 0, 1) := by decide +kernel
theorem dX9_commonFaces_8 : decode cX9_commonFaces 8 = .ok (.getfield 86, 3) := by decide +kernel
theorem dX9_commonFaces_11 : decode cX9_commonFaces 11 = .ok (.if_icmp .ge 37, 3) := by decide +kernel
theorem dX9_commonFaces_14 : decode cX9_commonFaces 14 = .ok (.iload_n 3, 1) := by decide +kernel
theorem dX9_commonFaces_15 : decode cX9_commonFaces 15 = .ok (.aload_n 0, 1) := by decide +kernel
theorem dX9_commonFaces_16 : decode cX9_commonFaces 16 = .ok (.iload 4, 2) := by decide +kernel
theorem dX9_commonFaces_18 : decode cX9_commonFaces 18 = .ok (.iload_n 1, 1) := by decide +kernel
theorem dX9_commonFaces_19 : decode cX9_commonFaces 19 = .ok (.invokevirtual 108, 3) := by decide +kernel
theorem dX9_commonFaces_22 : decode cX9_commonFaces 22 = .ok (.ifCond .eq 17, 3) := by decide +kernel
theorem dX9_commonFaces_25 : decode cX9_commonFaces 25 = .ok (.aload_n 0, 1) := by decide +kernel
theorem dX9_commonFaces_26 : decode cX9_commonFaces 26 = .ok (.iload 4, 2) := by decide +kernel
theorem dX9_commonFaces_28 : decode cX9_commonFaces 28 = .ok (.iload_n 2, 1) := by decide +kernel
theorem dX9_commonFaces_29 : decode cX9_commonFaces 29 = .ok (.invokevirtual 108, 3) := by decide +kernel
theorem dX9_commonFaces_32 : decode cX9_commonFaces 32 = .ok (.ifCond .eq 7, 3) := by decide +kernel
theorem dX9_commonFaces_35 : decode cX9_commonFaces 35 = .ok (.iconst 1, 1) := by decide +kernel
theorem dX9_commonFaces_36 : decode cX9_commonFaces 36 = .ok (.goto 4, 3) := by decide +kernel
theorem dX9_commonFaces_39 : decode cX9_commonFaces 39 = .ok (.iconst 0, 1) := by decide +kernel
theorem dX9_commonFaces_40 : decode cX9_commonFaces 40 = .ok (.iadd, 1) := by decide +kernel
theorem dX9_commonFaces_41 : decode cX9_commonFaces 41 = .ok (.istore_n 3, 1) := by decide +kernel
theorem dX9_commonFaces_42 : decode cX9_commonFaces 42 = .ok (.iinc 4 1, 3) := by decide +kernel
theorem dX9_commonFaces_45 : decode cX9_commonFaces 45 = .ok (.goto (-40), 3) := by decide +kernel
theorem dX9_commonFaces_48 : decode cX9_commonFaces 48 = .ok (.iload_n 3, 1) := by decide +kernel
theorem dX9_commonFaces_49 : decode cX9_commonFaces 49 = .ok (.ireturn, 1) := by decide +kernel
theorem dX9_thirdOf_0 : decode cX9_thirdOf 0 = .ok (.aload_n 0, 1) := by decide +kernel
theorem dX9_thirdOf_1 : decode cX9_thirdOf 1 = .ok (.getfield 19, 3) := by decide +kernel
theorem dX9_thirdOf_4 : decode cX9_thirdOf 4 = .ok (.iconst 3, 1) := by decide +kernel
theorem dX9_thirdOf_5 : decode cX9_thirdOf 5 = .ok (.iload_n 1, 1) := by decide +kernel
theorem dX9_thirdOf_6 : decode cX9_thirdOf 6 = .ok (.imul, 1) := by decide +kernel
theorem dX9_thirdOf_7 : decode cX9_thirdOf 7 = .ok (.iaload, 1) := by decide +kernel
theorem dX9_thirdOf_8 : decode cX9_thirdOf 8 = .ok (.istore 4, 2) := by decide +kernel
theorem dX9_thirdOf_10 : decode cX9_thirdOf 10 = .ok (.iconst 1, 1) := by decide +kernel
theorem dX9_thirdOf_11 : decode cX9_thirdOf 11 = .ok (.istore 5, 2) := by decide +kernel
theorem dX9_thirdOf_13 : decode cX9_thirdOf 13 = .ok (.iload 5, 2) := by decide +kernel
theorem dX9_thirdOf_15 : decode cX9_thirdOf 15 = .ok (.iconst 3, 1) := by decide +kernel
theorem dX9_thirdOf_16 : decode cX9_thirdOf 16 = .ok (.if_icmp .ge 39, 3) := by decide +kernel
theorem dX9_thirdOf_19 : decode cX9_thirdOf 19 = .ok (.iload 4, 2) := by decide +kernel
theorem dX9_thirdOf_21 : decode cX9_thirdOf 21 = .ok (.iload_n 2, 1) := by decide +kernel
theorem dX9_thirdOf_22 : decode cX9_thirdOf 22 = .ok (.if_icmp .eq 9, 3) := by decide +kernel
theorem dX9_thirdOf_25 : decode cX9_thirdOf 25 = .ok (.iload 4, 2) := by decide +kernel
theorem dX9_thirdOf_27 : decode cX9_thirdOf 27 = .ok (.iload_n 3, 1) := by decide +kernel
theorem dX9_thirdOf_28 : decode cX9_thirdOf 28 = .ok (.if_icmp .ne 17, 3) := by decide +kernel
theorem dX9_thirdOf_31 : decode cX9_thirdOf 31 = .ok (.aload_n 0, 1) := by decide +kernel
theorem dX9_thirdOf_32 : decode cX9_thirdOf 32 = .ok (.getfield 19, 3) := by decide +kernel
theorem dX9_thirdOf_35 : decode cX9_thirdOf 35 = .ok (.iconst 3, 1) := by decide +kernel
theorem dX9_thirdOf_36 : decode cX9_thirdOf 36 = .ok (.iload_n 1, 1) := by decide +kernel
theorem dX9_thirdOf_37 : decode cX9_thirdOf 37 = .ok (.imul, 1) := by decide +kernel
theorem dX9_thirdOf_38 : decode cX9_thirdOf 38 = .ok (.iload 5, 2) := by decide +kernel
theorem dX9_thirdOf_40 : decode cX9_thirdOf 40 = .ok (.iadd, 1) := by decide +kernel
theorem dX9_thirdOf_41 : decode cX9_thirdOf 41 = .ok (.iaload, 1) := by decide +kernel
theorem dX9_thirdOf_42 : decode cX9_thirdOf 42 = .ok (.goto 5, 3) := by decide +kernel
theorem dX9_thirdOf_45 : decode cX9_thirdOf 45 = .ok (.iload 4, 2) := by decide +kernel
theorem dX9_thirdOf_47 : decode cX9_thirdOf 47 = .ok (.istore 4, 2) := by decide +kernel
theorem dX9_thirdOf_49 : decode cX9_thirdOf 49 = .ok (.iinc 5 1, 3) := by decide +kernel
theorem dX9_thirdOf_52 : decode cX9_thirdOf 52 = .ok (.goto (-39), 3) := by decide +kernel
theorem dX9_thirdOf_55 : decode cX9_thirdOf 55 = .ok (.iload 4, 2) := by decide +kernel
theorem dX9_thirdOf_57 : decode cX9_thirdOf 57 = .ok (.ireturn, 1) := by decide +kernel
theorem dX9_sortBy_0 : decode cX9_sortBy 0 = .ok (.iload_n 3, 1) := by decide +kernel
theorem dX9_sortBy_1 : decode cX9_sortBy 1 = .ok (.iconst 2, 1) := by decide +kernel
theorem dX9_sortBy_2 : decode cX9_sortBy 2 = .ok (.if_icmp .lt 8, 3) := by decide +kernel
theorem dX9_sortBy_5 : decode cX9_sortBy 5 = .ok (.iload_n 3, 1) := by decide +kernel
theorem dX9_sortBy_6 : decode cX9_sortBy 6 = .ok (.iconst 2, 1) := by decide +kernel
theorem dX9_sortBy_7 : decode cX9_sortBy 7 = .ok (.if_icmp .le 14, 3) := by decide +kernel
theorem dX9_sortBy_10 : decode cX9_sortBy 10 = .ok (.iload_n 3, 1) := by decide +kernel
theorem dX9_sortBy_11 : decode cX9_sortBy 11 = .ok (.iconst 2, 1) := by decide +kernel
theorem dX9_sortBy_12 : decode cX9_sortBy 12 = .ok (.if_icmp .ge 7, 3) := by decide +kernel
theorem dX9_sortBy_15 : decode cX9_sortBy 15 = .ok (.iload_n 3, 1) := by decide +kernel
theorem dX9_sortBy_16 : decode cX9_sortBy 16 = .ok (.goto 4, 3) := by decide +kernel
theorem dX9_sortBy_19 : decode cX9_sortBy 19 = .ok (.iconst 5, 1) := by decide +kernel
theorem dX9_sortBy_20 : decode cX9_sortBy 20 = .ok (.ireturn, 1) := by decide +kernel
theorem dX9_sortBy_21 : decode cX9_sortBy 21 = .ok (.bipush (-9), 2) := by decide +kernel
theorem dX9_sortBy_23 : decode cX9_sortBy 23 = .ok (.istore 4, 2) := by decide +kernel
theorem dX9_sortBy_25 : decode cX9_sortBy 25 = .ok (.bipush (-9), 2) := by decide +kernel
theorem dX9_sortBy_27 : decode cX9_sortBy 27 = .ok (.istore 5, 2) := by decide +kernel
theorem dX9_sortBy_29 : decode cX9_sortBy 29 = .ok (.iconst 0, 1) := by decide +kernel
theorem dX9_sortBy_30 : decode cX9_sortBy 30 = .ok (.istore 6, 2) := by decide +kernel
theorem dX9_sortBy_32 : decode cX9_sortBy 32 = .ok (.iload 6, 2) := by decide +kernel
theorem dX9_sortBy_34 : decode cX9_sortBy 34 = .ok (.aload_n 0, 1) := by decide +kernel
theorem dX9_sortBy_35 : decode cX9_sortBy 35 = .ok (.getfield 86, 3) := by decide +kernel
theorem dX9_sortBy_38 : decode cX9_sortBy 38 = .ok (.if_icmp .ge 49, 3) := by decide +kernel
theorem dX9_sortBy_41 : decode cX9_sortBy 41 = .ok (.aload_n 0, 1) := by decide +kernel
theorem dX9_sortBy_42 : decode cX9_sortBy 42 = .ok (.iload 6, 2) := by decide +kernel
theorem dX9_sortBy_44 : decode cX9_sortBy 44 = .ok (.iload_n 1, 1) := by decide +kernel
theorem dX9_sortBy_45 : decode cX9_sortBy 45 = .ok (.invokevirtual 108, 3) := by decide +kernel
theorem dX9_sortBy_48 : decode cX9_sortBy 48 = .ok (.ifCond .eq 33, 3) := by decide +kernel
theorem dX9_sortBy_51 : decode cX9_sortBy 51 = .ok (.aload_n 0, 1) := by decide +kernel
theorem dX9_sortBy_52 : decode cX9_sortBy 52 = .ok (.iload 6, 2) := by decide +kernel
theorem dX9_sortBy_54 : decode cX9_sortBy 54 = .ok (.iload_n 2, 1) := by decide +kernel
theorem dX9_sortBy_55 : decode cX9_sortBy 55 = .ok (.invokevirtual 108, 3) := by decide +kernel
theorem dX9_sortBy_58 : decode cX9_sortBy 58 = .ok (.ifCond .eq 23, 3) := by decide +kernel
theorem dX9_sortBy_61 : decode cX9_sortBy 61 = .ok (.iload 4, 2) := by decide +kernel
theorem dX9_sortBy_63 : decode cX9_sortBy 63 = .ok (.bipush (-9), 2) := by decide +kernel
theorem dX9_sortBy_65 : decode cX9_sortBy 65 = .ok (.if_icmp .ne 8, 3) := by decide +kernel
theorem dX9_sortBy_68 : decode cX9_sortBy 68 = .ok (.iload 6, 2) := by decide +kernel
theorem dX9_sortBy_70 : decode cX9_sortBy 70 = .ok (.goto 5, 3) := by decide +kernel
theorem dX9_sortBy_73 : decode cX9_sortBy 73 = .ok (.iload 4, 2) := by decide +kernel
theorem dX9_sortBy_75 : decode cX9_sortBy 75 = .ok (.istore 4, 2) := by decide +kernel
theorem dX9_sortBy_77 : decode cX9_sortBy 77 = .ok (.iload 6, 2) := by decide +kernel
theorem dX9_sortBy_79 : decode cX9_sortBy 79 = .ok (.istore 5, 2) := by decide +kernel
theorem dX9_sortBy_81 : decode cX9_sortBy 81 = .ok (.iinc 6 1, 3) := by decide +kernel
theorem dX9_sortBy_84 : decode cX9_sortBy 84 = .ok (.goto (-52), 3) := by decide +kernel
theorem dX9_sortBy_87 : decode cX9_sortBy 87 = .ok (.aload_n 0, 1) := by decide +kernel
theorem dX9_sortBy_88 : decode cX9_sortBy 88 = .ok (.iload 4, 2) := by decide +kernel
theorem dX9_sortBy_90 : decode cX9_sortBy 90 = .ok (.iload_n 1, 1) := by decide +kernel
theorem dX9_sortBy_91 : decode cX9_sortBy 91 = .ok (.iload_n 2, 1) := by decide +kernel
theorem dX9_sortBy_92 : decode cX9_sortBy 92 = .ok (.invokevirtual 153, 3) := by decide +kernel
theorem dX9_sortBy_95 : decode cX9_sortBy 95 = .ok (.istore 6, 2) := by decide +kernel
theorem dX9_sortBy_97 : decode cX9_sortBy 97 = .ok (.aload_n 0, 1) := by decide +kernel
theorem dX9_sortBy_98 : decode cX9_sortBy 98 = .ok (.iload 5, 2) := by decide +kernel
theorem dX9_sortBy_100 : decode cX9_sortBy 100 = .ok (.iload_n 1, 1) := by decide +kernel
theorem dX9_sortBy_101 : decode cX9_sortBy 101 = .ok (.iload_n 2, 1) := by decide +kernel
theorem dX9_sortBy_102 : decode cX9_sortBy 102 = .ok (.invokevirtual 153, 3) := by decide +kernel
theorem dX9_sortBy_105 : decode cX9_sortBy 105 = .ok (.istore 7, 2) := by decide +kernel
theorem dX9_sortBy_107 : decode cX9_sortBy 107 = .ok (.aload_n 0, 1) := by decide +kernel
theorem dX9_sortBy_108 : decode cX9_sortBy 108 = .ok (.iload_n 1, 1) := by decide +kernel
theorem dX9_sortBy_109 : decode cX9_sortBy 109 = .ok (.iload_n 2, 1) := by decide +kernel
theorem dX9_sortBy_110 : decode cX9_sortBy 110 = .ok (.aload_n 0, 1) := by decide +kernel
theorem dX9_sortBy_111 : decode cX9_sortBy 111 = .ok (.getfield 7, 3) := by decide +kernel
theorem dX9_sortBy_114 : decode cX9_sortBy 114 = .ok (.iload 6, 2) := by decide +kernel
theorem dX9_sortBy_116 : decode cX9_sortBy 116 = .ok (.iaload, 1) := by decide +kernel
theorem dX9_sortBy_117 : decode cX9_sortBy 117 = .ok (.aload_n 0, 1) := by decide +kernel
theorem dX9_sortBy_118 : decode cX9_sortBy 118 = .ok (.getfield 7, 3) := by decide +kernel
theorem dX9_sortBy_121 : decode cX9_sortBy 121 = .ok (.iload_n 1, 1) := by decide +kernel
theorem dX9_sortBy_122 : decode cX9_sortBy 122 = .ok (.iaload, 1) := by decide +kernel
theorem dX9_sortBy_123 : decode cX9_sortBy 123 = .ok (.isub, 1) := by decide +kernel
theorem dX9_sortBy_124 : decode cX9_sortBy 124 = .ok (.aload_n 0, 1) := by decide +kernel
theorem dX9_sortBy_125 : decode cX9_sortBy 125 = .ok (.getfield 13, 3) := by decide +kernel
theorem dX9_sortBy_128 : decode cX9_sortBy 128 = .ok (.iload 6, 2) := by decide +kernel
theorem dX9_sortBy_130 : decode cX9_sortBy 130 = .ok (.iaload, 1) := by decide +kernel
theorem dX9_sortBy_131 : decode cX9_sortBy 131 = .ok (.aload_n 0, 1) := by decide +kernel
theorem dX9_sortBy_132 : decode cX9_sortBy 132 = .ok (.getfield 13, 3) := by decide +kernel
theorem dX9_sortBy_135 : decode cX9_sortBy 135 = .ok (.iload_n 1, 1) := by decide +kernel
theorem dX9_sortBy_136 : decode cX9_sortBy 136 = .ok (.iaload, 1) := by decide +kernel
theorem dX9_sortBy_137 : decode cX9_sortBy 137 = .ok (.isub, 1) := by decide +kernel
theorem dX9_sortBy_138 : decode cX9_sortBy 138 = .ok (.aload_n 0, 1) := by decide +kernel
theorem dX9_sortBy_139 : decode cX9_sortBy 139 = .ok (.getfield 16, 3) := by decide +kernel
theorem dX9_sortBy_142 : decode cX9_sortBy 142 = .ok (.iload 6, 2) := by decide +kernel
theorem dX9_sortBy_144 : decode cX9_sortBy 144 = .ok (.iaload, 1) := by decide +kernel
theorem dX9_sortBy_145 : decode cX9_sortBy 145 = .ok (.aload_n 0, 1) := by decide +kernel
theorem dX9_sortBy_146 : decode cX9_sortBy 146 = .ok (.getfield 16, 3) := by decide +kernel
theorem dX9_sortBy_149 : decode cX9_sortBy 149 = .ok (.iload_n 1, 1) := by decide +kernel
theorem dX9_sortBy_150 : decode cX9_sortBy 150 = .ok (.iaload, 1) := by decide +kernel
theorem dX9_sortBy_151 : decode cX9_sortBy 151 = .ok (.isub, 1) := by decide +kernel
theorem dX9_sortBy_152 : decode cX9_sortBy 152 = .ok (.aload_n 0, 1) := by decide +kernel
theorem dX9_sortBy_153 : decode cX9_sortBy 153 = .ok (.getfield 7, 3) := by decide +kernel
theorem dX9_sortBy_156 : decode cX9_sortBy 156 = .ok (.iload 7, 2) := by decide +kernel
theorem dX9_sortBy_158 : decode cX9_sortBy 158 = .ok (.iaload, 1) := by decide +kernel
theorem dX9_sortBy_159 : decode cX9_sortBy 159 = .ok (.aload_n 0, 1) := by decide +kernel
theorem dX9_sortBy_160 : decode cX9_sortBy 160 = .ok (.getfield 7, 3) := by decide +kernel
theorem dX9_sortBy_163 : decode cX9_sortBy 163 = .ok (.iload_n 1, 1) := by decide +kernel
theorem dX9_sortBy_164 : decode cX9_sortBy 164 = .ok (.iaload, 1) := by decide +kernel
theorem dX9_sortBy_165 : decode cX9_sortBy 165 = .ok (.isub, 1) := by decide +kernel
theorem dX9_sortBy_166 : decode cX9_sortBy 166 = .ok (.aload_n 0, 1) := by decide +kernel
theorem dX9_sortBy_167 : decode cX9_sortBy 167 = .ok (.getfield 13, 3) := by decide +kernel
theorem dX9_sortBy_170 : decode cX9_sortBy 170 = .ok (.iload 7, 2) := by decide +kernel
theorem dX9_sortBy_172 : decode cX9_sortBy 172 = .ok (.iaload, 1) := by decide +kernel
theorem dX9_sortBy_173 : decode cX9_sortBy 173 = .ok (.aload_n 0, 1) := by decide +kernel
theorem dX9_sortBy_174 : decode cX9_sortBy 174 = .ok (.getfield 13, 3) := by decide +kernel
theorem dX9_sortBy_177 : decode cX9_sortBy 177 = .ok (.iload_n 1, 1) := by decide +kernel
theorem dX9_sortBy_178 : decode cX9_sortBy 178 = .ok (.iaload, 1) := by decide +kernel
theorem dX9_sortBy_179 : decode cX9_sortBy 179 = .ok (.isub, 1) := by decide +kernel
theorem dX9_sortBy_180 : decode cX9_sortBy 180 = .ok (.aload_n 0, 1) := by decide +kernel
theorem dX9_sortBy_181 : decode cX9_sortBy 181 = .ok (.getfield 16, 3) := by decide +kernel
theorem dX9_sortBy_184 : decode cX9_sortBy 184 = .ok (.iload 7, 2) := by decide +kernel
theorem dX9_sortBy_186 : decode cX9_sortBy 186 = .ok (.iaload, 1) := by decide +kernel
theorem dX9_sortBy_187 : decode cX9_sortBy 187 = .ok (.aload_n 0, 1) := by decide +kernel
theorem dX9_sortBy_188 : decode cX9_sortBy 188 = .ok (.getfield 16, 3) := by decide +kernel
theorem dX9_sortBy_191 : decode cX9_sortBy 191 = .ok (.iload_n 1, 1) := by decide +kernel
theorem dX9_sortBy_192 : decode cX9_sortBy 192 = .ok (.iaload, 1) := by decide +kernel
theorem dX9_sortBy_193 : decode cX9_sortBy 193 = .ok (.isub, 1) := by decide +kernel
theorem dX9_sortBy_194 : decode cX9_sortBy 194 = .ok (.invokevirtual 141, 3) := by decide +kernel
theorem dX9_sortBy_197 : decode cX9_sortBy 197 = .ok (.lstore 8, 2) := by decide +kernel
theorem dX9_sortBy_199 : decode cX9_sortBy 199 = .ok (.lload 8, 2) := by decide +kernel
theorem dX9_sortBy_201 : decode cX9_sortBy 201 = .ok (.lconst 0, 1) := by decide +kernel
theorem dX9_sortBy_202 : decode cX9_sortBy 202 = .ok (.lcmp, 1) := by decide +kernel
theorem dX9_sortBy_203 : decode cX9_sortBy 203 = .ok (.ifCond .ne 5, 3) := by decide +kernel
theorem dX9_sortBy_206 : decode cX9_sortBy 206 = .ok (.iconst 2, 1) := by decide +kernel
theorem dX9_sortBy_207 : decode cX9_sortBy 207 = .ok (.ireturn, 1) := by decide +kernel
theorem dX9_sortBy_208 : decode cX9_sortBy 208 = .ok (.aload_n 0, 1) := by decide +kernel
theorem dX9_sortBy_209 : decode cX9_sortBy 209 = .ok (.iload 4, 2) := by decide +kernel
theorem dX9_sortBy_211 : decode cX9_sortBy 211 = .ok (.invokevirtual 145, 3) := by decide +kernel
theorem dX9_sortBy_214 : decode cX9_sortBy 214 = .ok (.lconst 0, 1) := by decide +kernel
theorem dX9_sortBy_215 : decode cX9_sortBy 215 = .ok (.lcmp, 1) := by decide +kernel
theorem dX9_sortBy_216 : decode cX9_sortBy 216 = .ok (.ifCond .le 7, 3) := by decide +kernel
theorem dX9_sortBy_219 : decode cX9_sortBy 219 = .ok (.iconst 1, 1) := by decide +kernel
theorem dX9_sortBy_220 : decode cX9_sortBy 220 = .ok (.goto 4, 3) := by decide +kernel
theorem dX9_sortBy_223 : decode cX9_sortBy 223 = .ok (.iconst 0, 1) := by decide +kernel
theorem dX9_sortBy_224 : decode cX9_sortBy 224 = .ok (.aload_n 0, 1) := by decide +kernel
theorem dX9_sortBy_225 : decode cX9_sortBy 225 = .ok (.iload 5, 2) := by decide +kernel
theorem dX9_sortBy_227 : decode cX9_sortBy 227 = .ok (.invokevirtual 145, 3) := by decide +kernel
theorem dX9_sortBy_230 : decode cX9_sortBy 230 = .ok (.lconst 0, 1) := by decide +kernel
theorem dX9_sortBy_231 : decode cX9_sortBy 231 = .ok (.lcmp, 1) := by decide +kernel
theorem dX9_sortBy_232 : decode cX9_sortBy 232 = .ok (.ifCond .le 7, 3) := by decide +kernel
theorem dX9_sortBy_235 : decode cX9_sortBy 235 = .ok (.iconst 1, 1) := by decide +kernel
theorem dX9_sortBy_236 : decode cX9_sortBy 236 = .ok (.goto 4, 3) := by decide +kernel
theorem dX9_sortBy_239 : decode cX9_sortBy 239 = .ok (.iconst 0, 1) := by decide +kernel
theorem dX9_sortBy_240 : decode cX9_sortBy 240 = .ok (.if_icmp .eq 7, 3) := by decide +kernel
theorem dX9_sortBy_243 : decode cX9_sortBy 243 = .ok (.iconst 3, 1) := by decide +kernel
theorem dX9_sortBy_244 : decode cX9_sortBy 244 = .ok (.goto 4, 3) := by decide +kernel
theorem dX9_sortBy_247 : decode cX9_sortBy 247 = .ok (.iconst 4, 1) := by decide +kernel
theorem dX9_sortBy_248 : decode cX9_sortBy 248 = .ok (.ireturn, 1) := by decide +kernel
theorem dX9_findStretch_0 : decode cX9_findStretch 0 = .ok (.aload_n 0, 1) := by decide +kernel
theorem dX9_findStretch_1 : decode cX9_findStretch 1 = .ok (.lconst 0, 1) := by decide +kernel
theorem dX9_findStretch_2 : decode cX9_findStretch 2 = .ok (.putfield 156, 3) := by decide +kernel
theorem dX9_findStretch_5 : decode cX9_findStretch 5 = .ok (.aload_n 0, 1) := by decide +kernel
theorem dX9_findStretch_6 : decode cX9_findStretch 6 = .ok (.lconst 1, 1) := by decide +kernel
theorem dX9_findStretch_7 : decode cX9_findStretch 7 = .ok (.putfield 160, 3) := by decide +kernel
theorem dX9_findStretch_10 : decode cX9_findStretch 10 = .ok (.aload_n 0, 1) := by decide +kernel
theorem dX9_findStretch_11 : decode cX9_findStretch 11 = .ok (.lconst 1, 1) := by decide +kernel
theorem dX9_findStretch_12 : decode cX9_findStretch 12 = .ok (.putfield 163, 3) := by decide +kernel
theorem dX9_findStretch_15 : decode cX9_findStretch 15 = .ok (.aload_n 0, 1) := by decide +kernel
theorem dX9_findStretch_16 : decode cX9_findStretch 16 = .ok (.lconst 1, 1) := by decide +kernel
theorem dX9_findStretch_17 : decode cX9_findStretch 17 = .ok (.putfield 166, 3) := by decide +kernel
theorem dX9_findStretch_20 : decode cX9_findStretch 20 = .ok (.aload_n 0, 1) := by decide +kernel
theorem dX9_findStretch_21 : decode cX9_findStretch 21 = .ok (.iload_n 2, 1) := by decide +kernel
theorem dX9_findStretch_22 : decode cX9_findStretch 22 = .ok (.invokevirtual 145, 3) := by decide +kernel
theorem dX9_findStretch_25 : decode cX9_findStretch 25 = .ok (.lconst 0, 1) := by decide +kernel
theorem dX9_findStretch_26 : decode cX9_findStretch 26 = .ok (.lcmp, 1) := by decide +kernel
theorem dX9_findStretch_27 : decode cX9_findStretch 27 = .ok (.ifCond .ne 5, 3) := by decide +kernel
theorem dX9_findStretch_30 : decode cX9_findStretch 30 = .ok (.iconst 0, 1) := by decide +kernel
theorem dX9_findStretch_31 : decode cX9_findStretch 31 = .ok (.ireturn, 1) := by decide +kernel
theorem dX9_findStretch_32 : decode cX9_findStretch 32 = .ok (.iconst 0, 1) := by decide +kernel
theorem dX9_findStretch_33 : decode cX9_findStretch 33 = .ok (.istore_n 3, 1) := by decide +kernel
theorem dX9_findStretch_34 : decode cX9_findStretch 34 = .ok (.iload_n 3, 1) := by decide +kernel
theorem dX9_findStretch_35 : decode cX9_findStretch 35 = .ok (.iconst 4, 1) := by decide +kernel
theorem dX9_findStretch_36 : decode cX9_findStretch 36 = .ok (.if_icmp .ge 143, 3) := by decide +kernel
theorem dX9_findStretch_39 : decode cX9_findStretch 39 = .ok (.aload_n 0, 1) := by decide +kernel
theorem dX9_findStretch_40 : decode cX9_findStretch 40 = .ok (.iload_n 2, 1) := by decide +kernel
theorem dX9_findStretch_41 : decode cX9_findStretch 41 = .ok (.iload_n 3, 1) := by decide +kernel
theorem dX9_findStretch_42 : decode cX9_findStretch 42 = .ok (.aload_n 0, 1) := by decide +kernel
theorem dX9_findStretch_43 : decode cX9_findStretch 43 = .ok (.getfield 38, 3) := by decide +kernel
theorem dX9_findStretch_46 : decode cX9_findStretch 46 = .ok (.iload_n 1, 1) := by decide +kernel
theorem dX9_findStretch_47 : decode cX9_findStretch 47 = .ok (.iaload, 1) := by decide +kernel
theorem dX9_findStretch_48 : decode cX9_findStretch 48 = .ok (.invokevirtual 149, 3) := by decide +kernel
theorem dX9_findStretch_51 : decode cX9_findStretch 51 = .ok (.lstore 4, 2) := by decide +kernel
theorem dX9_findStretch_53 : decode cX9_findStretch 53 = .ok (.aload_n 0, 1) := by decide +kernel
theorem dX9_findStretch_54 : decode cX9_findStretch 54 = .ok (.iload_n 2, 1) := by decide +kernel
theorem dX9_findStretch_55 : decode cX9_findStretch 55 = .ok (.iload_n 3, 1) := by decide +kernel
theorem dX9_findStretch_56 : decode cX9_findStretch 56 = .ok (.aload_n 0, 1) := by decide +kernel
theorem dX9_findStretch_57 : decode cX9_findStretch 57 = .ok (.getfield 41, 3) := by decide +kernel
theorem dX9_findStretch_60 : decode cX9_findStretch 60 = .ok (.iload_n 1, 1) := by decide +kernel
theorem dX9_findStretch_61 : decode cX9_findStretch 61 = .ok (.iaload, 1) := by decide +kernel
theorem dX9_findStretch_62 : decode cX9_findStretch 62 = .ok (.invokevirtual 149, 3) := by decide +kernel
theorem dX9_findStretch_65 : decode cX9_findStretch 65 = .ok (.lstore 6, 2) := by decide +kernel
theorem dX9_findStretch_67 : decode cX9_findStretch 67 = .ok (.lload 4, 2) := by decide +kernel
theorem dX9_findStretch_69 : decode cX9_findStretch 69 = .ok (.lconst 0, 1) := by decide +kernel
theorem dX9_findStretch_70 : decode cX9_findStretch 70 = .ok (.lcmp, 1) := by decide +kernel
theorem dX9_findStretch_71 : decode cX9_findStretch 71 = .ok (.ifCond .gt 12, 3) := by decide +kernel
theorem dX9_findStretch_74 : decode cX9_findStretch 74 = .ok (.lload 6, 2) := by decide +kernel
theorem dX9_findStretch_76 : decode cX9_findStretch 76 = .ok (.lconst 0, 1) := by decide +kernel
theorem dX9_findStretch_77 : decode cX9_findStretch 77 = .ok (.lcmp, 1) := by decide +kernel
theorem dX9_findStretch_78 : decode cX9_findStretch 78 = .ok (.ifCond .gt 5, 3) := by decide +kernel
theorem dX9_findStretch_81 : decode cX9_findStretch 81 = .ok (.iconst 0, 1) := by decide +kernel
theorem dX9_findStretch_82 : decode cX9_findStretch 82 = .ok (.ireturn, 1) := by decide +kernel
theorem dX9_findStretch_83 : decode cX9_findStretch 83 = .ok (.lload 4, 2) := by decide +kernel
theorem dX9_findStretch_85 : decode cX9_findStretch 85 = .ok (.lload 6, 2) := by decide +kernel
theorem dX9_findStretch_87 : decode cX9_findStretch 87 = .ok (.lcmp, 1) := by decide +kernel
theorem dX9_findStretch_88 : decode cX9_findStretch 88 = .ok (.ifCond .ge 41, 3) := by decide +kernel
theorem dX9_findStretch_91 : decode cX9_findStretch 91 = .ok (.lload 4, 2) := by decide +kernel
theorem dX9_findStretch_93 : decode cX9_findStretch 93 = .ok (.lneg, 1) := by decide +kernel
theorem dX9_findStretch_94 : decode cX9_findStretch 94 = .ok (.aload_n 0, 1) := by decide +kernel
theorem dX9_findStretch_95 : decode cX9_findStretch 95 = .ok (.getfield 160, 3) := by decide +kernel
theorem dX9_findStretch_98 : decode cX9_findStretch 98 = .ok (.lmul, 1) := by decide +kernel
theorem dX9_findStretch_99 : decode cX9_findStretch 99 = .ok (.aload_n 0, 1) := by decide +kernel
theorem dX9_findStretch_100 : decode cX9_findStretch 100 = .ok (.getfield 156, 3) := by decide +kernel
theorem dX9_findStretch_103 : decode cX9_findStretch 103 = .ok (.lload 6, 2) := by decide +kernel
theorem dX9_findStretch_105 : decode cX9_findStretch 105 = .ok (.lload 4, 2) := by decide +kernel
theorem dX9_findStretch_107 : decode cX9_findStretch 107 = .ok (.lsub, 1) := by decide +kernel
theorem dX9_findStretch_108 : decode cX9_findStretch 108 = .ok (.lmul, 1) := by decide +kernel
theorem dX9_findStretch_109 : decode cX9_findStretch 109 = .ok (.lcmp, 1) := by decide +kernel
theorem dX9_findStretch_110 : decode cX9_findStretch 110 = .ok (.ifCond .le 19, 3) := by decide +kernel
theorem dX9_findStretch_113 : decode cX9_findStretch 113 = .ok (.aload_n 0, 1) := by decide +kernel
theorem dX9_findStretch_114 : decode cX9_findStretch 114 = .ok (.lload 4, 2) := by decide +kernel
theorem dX9_findStretch_116 : decode cX9_findStretch 116 = .ok (.lneg, 1) := by decide +kernel
theorem dX9_findStretch_117 : decode cX9_findStretch 117 = .ok (.putfield 156, 3) := by decide +kernel
theorem dX9_findStretch_120 : decode cX9_findStretch 120 = .ok (.aload_n 0, 1) := by decide +kernel
theorem dX9_findStretch_121 : decode cX9_findStretch 121 = .ok (.lload 6, 2) := by decide +kernel
theorem dX9_findStretch_123 : decode cX9_findStretch 123 = .ok (.lload 4, 2) := by decide +kernel
theorem dX9_findStretch_125 : decode cX9_findStretch 125 = .ok (.lsub, 1) := by decide +kernel
theorem dX9_findStretch_126 : decode cX9_findStretch 126 = .ok (.putfield 160, 3) := by decide +kernel
theorem dX9_findStretch_129 : decode cX9_findStretch 129 = .ok (.lload 4, 2) := by decide +kernel
theorem dX9_findStretch_131 : decode cX9_findStretch 131 = .ok (.lload 6, 2) := by decide +kernel
theorem dX9_findStretch_133 : decode cX9_findStretch 133 = .ok (.lcmp, 1) := by decide +kernel
theorem dX9_findStretch_134 : decode cX9_findStretch 134 = .ok (.ifCond .le 39, 3) := by decide +kernel
theorem dX9_findStretch_137 : decode cX9_findStretch 137 = .ok (.lload 4, 2) := by decide +kernel
theorem dX9_findStretch_139 : decode cX9_findStretch 139 = .ok (.aload_n 0, 1) := by decide +kernel
theorem dX9_findStretch_140 : decode cX9_findStretch 140 = .ok (.getfield 166, 3) := by decide +kernel
theorem dX9_findStretch_143 : decode cX9_findStretch 143 = .ok (.lmul, 1) := by decide +kernel
theorem dX9_findStretch_144 : decode cX9_findStretch 144 = .ok (.aload_n 0, 1) := by decide +kernel
theorem dX9_findStretch_145 : decode cX9_findStretch 145 = .ok (.getfield 163, 3) := by decide +kernel
theorem dX9_findStretch_148 : decode cX9_findStretch 148 = .ok (.lload 4, 2) := by decide +kernel
theorem dX9_findStretch_150 : decode cX9_findStretch 150 = .ok (.lload 6, 2) := by decide +kernel
theorem dX9_findStretch_152 : decode cX9_findStretch 152 = .ok (.lsub, 1) := by decide +kernel
theorem dX9_findStretch_153 : decode cX9_findStretch 153 = .ok (.lmul, 1) := by decide +kernel
theorem dX9_findStretch_154 : decode cX9_findStretch 154 = .ok (.lcmp, 1) := by decide +kernel
theorem dX9_findStretch_155 : decode cX9_findStretch 155 = .ok (.ifCond .ge 18, 3) := by decide +kernel
theorem dX9_findStretch_158 : decode cX9_findStretch 158 = .ok (.aload_n 0, 1) := by decide +kernel
theorem dX9_findStretch_159 : decode cX9_findStretch 159 = .ok (.lload 4, 2) := by decide +kernel
theorem dX9_findStretch_161 : decode cX9_findStretch 161 = .ok (.putfield 163, 3) := by decide +kernel
theorem dX9_findStretch_164 : decode cX9_findStretch 164 = .ok (.aload_n 0, 1) := by decide +kernel
theorem dX9_findStretch_165 : decode cX9_findStretch 165 = .ok (.lload 4, 2) := by decide +kernel
theorem dX9_findStretch_167 : decode cX9_findStretch 167 = .ok (.lload 6, 2) := by decide +kernel
theorem dX9_findStretch_169 : decode cX9_findStretch 169 = .ok (.lsub, 1) := by decide +kernel
theorem dX9_findStretch_170 : decode cX9_findStretch 170 = .ok (.putfield 166, 3) := by decide +kernel
theorem dX9_findStretch_173 : decode cX9_findStretch 173 = .ok (.iinc 3 1, 3) := by decide +kernel
theorem dX9_findStretch_176 : decode cX9_findStretch 176 = .ok (.goto (-142), 3) := by decide +kernel
theorem dX9_findStretch_179 : decode cX9_findStretch 179 = .ok (.aload_n 0, 1) := by decide +kernel
theorem dX9_findStretch_180 : decode cX9_findStretch 180 = .ok (.getfield 156, 3) := by decide +kernel
theorem dX9_findStretch_183 : decode cX9_findStretch 183 = .ok (.aload_n 0, 1) := by decide +kernel
theorem dX9_findStretch_184 : decode cX9_findStretch 184 = .ok (.getfield 166, 3) := by decide +kernel
theorem dX9_findStretch_187 : decode cX9_findStretch 187 = .ok (.lmul, 1) := by decide +kernel
theorem dX9_findStretch_188 : decode cX9_findStretch 188 = .ok (.aload_n 0, 1) := by decide +kernel
theorem dX9_findStretch_189 : decode cX9_findStretch 189 = .ok (.getfield 163, 3) := by decide +kernel
theorem dX9_findStretch_192 : decode cX9_findStretch 192 = .ok (.aload_n 0, 1) := by decide +kernel
theorem dX9_findStretch_193 : decode cX9_findStretch 193 = .ok (.getfield 160, 3) := by decide +kernel
theorem dX9_findStretch_196 : decode cX9_findStretch 196 = .ok (.lmul, 1) := by decide +kernel
theorem dX9_findStretch_197 : decode cX9_findStretch 197 = .ok (.lcmp, 1) := by decide +kernel
theorem dX9_findStretch_198 : decode cX9_findStretch 198 = .ok (.ifCond .ge 7, 3) := by decide +kernel
theorem dX9_findStretch_201 : decode cX9_findStretch 201 = .ok (.iconst 1, 1) := by decide +kernel
theorem dX9_findStretch_202 : decode cX9_findStretch 202 = .ok (.goto 4, 3) := by decide +kernel
theorem dX9_findStretch_205 : decode cX9_findStretch 205 = .ok (.iconst 0, 1) := by decide +kernel
theorem dX9_findStretch_206 : decode cX9_findStretch 206 = .ok (.ireturn, 1) := by decide +kernel
theorem dX9_common_0 : decode cX9_common 0 = .ok (.lload_n 0, 1) := by decide +kernel
theorem dX9_common_1 : decode cX9_common 1 = .ok (.lstore 4, 2) := by decide +kernel
theorem dX9_common_3 : decode cX9_common 3 = .ok (.lload_n 2, 1) := by decide +kernel
theorem dX9_common_4 : decode cX9_common 4 = .ok (.lstore 6, 2) := by decide +kernel
theorem dX9_common_6 : decode cX9_common 6 = .ok (.lload 6, 2) := by decide +kernel
theorem dX9_common_8 : decode cX9_common 8 = .ok (.lconst 0, 1) := by decide +kernel
theorem dX9_common_9 : decode cX9_common 9 = .ok (.lcmp, 1) := by decide +kernel
theorem dX9_common_10 : decode cX9_common 10 = .ok (.ifCond .eq 21, 3) := by decide +kernel
theorem dX9_common_13 : decode cX9_common 13 = .ok (.lload 4, 2) := by decide +kernel
theorem dX9_common_15 : decode cX9_common 15 = .ok (.lload 6, 2) := by decide +kernel
theorem dX9_common_17 : decode cX9_common 17 = .ok (.lrem, 1) := by decide +kernel
theorem dX9_common_18 : decode cX9_common 18 = .ok (.lstore 8, 2) := by decide +kernel
theorem dX9_common_20 : decode cX9_common 20 = .ok (.lload 6, 2) := by decide +kernel
theorem dX9_common_22 : decode cX9_common 22 = .ok (.lstore 4, 2) := by decide +kernel
theorem dX9_common_24 : decode cX9_common 24 = .ok (.lload 8, 2) := by decide +kernel
theorem dX9_common_26 : decode cX9_common 26 = .ok (.lstore 6, 2) := by decide +kernel
theorem dX9_common_28 : decode cX9_common 28 = .ok (.goto (-22), 3) := by decide +kernel
theorem dX9_common_31 : decode cX9_common 31 = .ok (.lload 4, 2) := by decide +kernel
theorem dX9_common_33 : decode cX9_common 33 = .ok (.lreturn, 1) := by decide +kernel
theorem dX9_cuts_0 : decode cX9_cuts 0 = .ok (.lload 4, 2) := by decide +kernel
theorem dX9_cuts_2 : decode cX9_cuts 2 = .ok (.lload_n 2, 1) := by decide +kernel
theorem dX9_cuts_3 : decode cX9_cuts 3 = .ok (.invokestatic 169, 3) := by decide +kernel
theorem dX9_cuts_6 : decode cX9_cuts 6 = .ok (.lstore 6, 2) := by decide +kernel
theorem dX9_cuts_8 : decode cX9_cuts 8 = .ok (.lload_n 2, 1) := by decide +kernel
theorem dX9_cuts_9 : decode cX9_cuts 9 = .ok (.lload 6, 2) := by decide +kernel
theorem dX9_cuts_11 : decode cX9_cuts 11 = .ok (.ldiv, 1) := by decide +kernel
theorem dX9_cuts_12 : decode cX9_cuts 12 = .ok (.lstore 8, 2) := by decide +kernel
theorem dX9_cuts_14 : decode cX9_cuts 14 = .ok (.lload 4, 2) := by decide +kernel
theorem dX9_cuts_16 : decode cX9_cuts 16 = .ok (.lload 6, 2) := by decide +kernel
theorem dX9_cuts_18 : decode cX9_cuts 18 = .ok (.ldiv, 1) := by decide +kernel
theorem dX9_cuts_19 : decode cX9_cuts 19 = .ok (.lstore 10, 2) := by decide +kernel
theorem dX9_cuts_21 : decode cX9_cuts 21 = .ok (.bipush 50, 2) := by decide +kernel
theorem dX9_cuts_23 : decode cX9_cuts 23 = .ok (.iload_n 1, 1) := by decide +kernel
theorem dX9_cuts_24 : decode cX9_cuts 24 = .ok (.imul, 1) := by decide +kernel
theorem dX9_cuts_25 : decode cX9_cuts 25 = .ok (.istore 12, 2) := by decide +kernel
theorem dX9_cuts_27 : decode cX9_cuts 27 = .ok (.iconst 0, 1) := by decide +kernel
theorem dX9_cuts_28 : decode cX9_cuts 28 = .ok (.istore 13, 2) := by decide +kernel
theorem dX9_cuts_30 : decode cX9_cuts 30 = .ok (.iload 13, 2) := by decide +kernel
theorem dX9_cuts_32 : decode cX9_cuts 32 = .ok (.aload_n 0, 1) := by decide +kernel
theorem dX9_cuts_33 : decode cX9_cuts 33 = .ok (.getfield 50, 3) := by decide +kernel
theorem dX9_cuts_36 : decode cX9_cuts 36 = .ok (.iload_n 1, 1) := by decide +kernel
theorem dX9_cuts_37 : decode cX9_cuts 37 = .ok (.iaload, 1) := by decide +kernel
theorem dX9_cuts_38 : decode cX9_cuts 38 = .ok (.if_icmp .ge 39, 3) := by decide +kernel
theorem dX9_cuts_41 : decode cX9_cuts 41 = .ok (.aload_n 0, 1) := by decide +kernel
theorem dX9_cuts_42 : decode cX9_cuts 42 = .ok (.getfield 53, 3) := by decide +kernel
theorem dX9_cuts_45 : decode cX9_cuts 45 = .ok (.iload 12, 2) := by decide +kernel
theorem dX9_cuts_47 : decode cX9_cuts 47 = .ok (.iload 13, 2) := by decide +kernel
theorem dX9_cuts_49 : decode cX9_cuts 49 = .ok (.iadd, 1) := by decide +kernel
theorem dX9_cuts_50 : decode cX9_cuts 50 = .ok (.laload, 1) := by decide +kernel
theorem dX9_cuts_51 : decode cX9_cuts 51 = .ok (.lload 10, 2) := by decide +kernel
theorem dX9_cuts_53 : decode cX9_cuts 53 = .ok (.lmul, 1) := by decide +kernel
theorem dX9_cuts_54 : decode cX9_cuts 54 = .ok (.lload 8, 2) := by decide +kernel
theorem dX9_cuts_56 : decode cX9_cuts 56 = .ok (.aload_n 0, 1) := by decide +kernel
theorem dX9_cuts_57 : decode cX9_cuts 57 = .ok (.getfield 57, 3) := by decide +kernel
theorem dX9_cuts_60 : decode cX9_cuts 60 = .ok (.iload 12, 2) := by decide +kernel
theorem dX9_cuts_62 : decode cX9_cuts 62 = .ok (.iload 13, 2) := by decide +kernel
theorem dX9_cuts_64 : decode cX9_cuts 64 = .ok (.iadd, 1) := by decide +kernel
theorem dX9_cuts_65 : decode cX9_cuts 65 = .ok (.laload, 1) := by decide +kernel
theorem dX9_cuts_66 : decode cX9_cuts 66 = .ok (.lmul, 1) := by decide +kernel
theorem dX9_cuts_67 : decode cX9_cuts 67 = .ok (.lcmp, 1) := by decide +kernel
theorem dX9_cuts_68 : decode cX9_cuts 68 = .ok (.ifCond .ge 9, 3) := by decide +kernel
theorem dX9_cuts_71 : decode cX9_cuts 71 = .ok (.iinc 13 1, 3) := by decide +kernel
theorem dX9_cuts_74 : decode cX9_cuts 74 = .ok (.goto (-44), 3) := by decide +kernel
theorem dX9_cuts_77 : decode cX9_cuts 77 = .ok (.iload 13, 2) := by decide +kernel
theorem dX9_cuts_79 : decode cX9_cuts 79 = .ok (.aload_n 0, 1) := by decide +kernel
theorem dX9_cuts_80 : decode cX9_cuts 80 = .ok (.getfield 50, 3) := by decide +kernel
theorem dX9_cuts_83 : decode cX9_cuts 83 = .ok (.iload_n 1, 1) := by decide +kernel
theorem dX9_cuts_84 : decode cX9_cuts 84 = .ok (.iaload, 1) := by decide +kernel
theorem dX9_cuts_85 : decode cX9_cuts 85 = .ok (.if_icmp .ge 36, 3) := by decide +kernel
theorem dX9_cuts_88 : decode cX9_cuts 88 = .ok (.aload_n 0, 1) := by decide +kernel
theorem dX9_cuts_89 : decode cX9_cuts 89 = .ok (.getfield 53, 3) := by decide +kernel
theorem dX9_cuts_92 : decode cX9_cuts 92 = .ok (.iload 12, 2) := by decide +kernel
theorem dX9_cuts_94 : decode cX9_cuts 94 = .ok (.iload 13, 2) := by decide +kernel
theorem dX9_cuts_96 : decode cX9_cuts 96 = .ok (.iadd, 1) := by decide +kernel
theorem dX9_cuts_97 : decode cX9_cuts 97 = .ok (.laload, 1) := by decide +kernel
theorem dX9_cuts_98 : decode cX9_cuts 98 = .ok (.lload 8, 2) := by decide +kernel
theorem dX9_cuts_100 : decode cX9_cuts 100 = .ok (.lcmp, 1) := by decide +kernel
theorem dX9_cuts_101 : decode cX9_cuts 101 = .ok (.ifCond .ne 20, 3) := by decide +kernel
theorem dX9_cuts_104 : decode cX9_cuts 104 = .ok (.aload_n 0, 1) := by decide +kernel
theorem dX9_cuts_105 : decode cX9_cuts 105 = .ok (.getfield 57, 3) := by decide +kernel
theorem dX9_cuts_108 : decode cX9_cuts 108 = .ok (.iload 12, 2) := by decide +kernel
theorem dX9_cuts_110 : decode cX9_cuts 110 = .ok (.iload 13, 2) := by decide +kernel
theorem dX9_cuts_112 : decode cX9_cuts 112 = .ok (.iadd, 1) := by decide +kernel
theorem dX9_cuts_113 : decode cX9_cuts 113 = .ok (.laload, 1) := by decide +kernel
theorem dX9_cuts_114 : decode cX9_cuts 114 = .ok (.lload 10, 2) := by decide +kernel
theorem dX9_cuts_116 : decode cX9_cuts 116 = .ok (.lcmp, 1) := by decide +kernel
theorem dX9_cuts_117 : decode cX9_cuts 117 = .ok (.ifCond .ne 4, 3) := by decide +kernel
theorem dX9_cuts_120 : decode cX9_cuts 120 = .ok (.return_, 1) := by decide +kernel
theorem dX9_cuts_121 : decode cX9_cuts 121 = .ok (.aload_n 0, 1) := by decide +kernel
theorem dX9_cuts_122 : decode cX9_cuts 122 = .ok (.getfield 50, 3) := by decide +kernel
theorem dX9_cuts_125 : decode cX9_cuts 125 = .ok (.iload_n 1, 1) := by decide +kernel
theorem dX9_cuts_126 : decode cX9_cuts 126 = .ok (.iaload, 1) := by decide +kernel
theorem dX9_cuts_127 : decode cX9_cuts 127 = .ok (.istore 14, 2) := by decide +kernel
theorem dX9_cuts_129 : decode cX9_cuts 129 = .ok (.iload 14, 2) := by decide +kernel
theorem dX9_cuts_131 : decode cX9_cuts 131 = .ok (.iload 13, 2) := by decide +kernel
theorem dX9_cuts_133 : decode cX9_cuts 133 = .ok (.if_icmp .le 53, 3) := by decide +kernel
theorem dX9_cuts_136 : decode cX9_cuts 136 = .ok (.aload_n 0, 1) := by decide +kernel
theorem dX9_cuts_137 : decode cX9_cuts 137 = .ok (.getfield 53, 3) := by decide +kernel
theorem dX9_cuts_140 : decode cX9_cuts 140 = .ok (.iload 12, 2) := by decide +kernel
theorem dX9_cuts_142 : decode cX9_cuts 142 = .ok (.iload 14, 2) := by decide +kernel
theorem dX9_cuts_144 : decode cX9_cuts 144 = .ok (.iadd, 1) := by decide +kernel
theorem dX9_cuts_145 : decode cX9_cuts 145 = .ok (.aload_n 0, 1) := by decide +kernel
theorem dX9_cuts_146 : decode cX9_cuts 146 = .ok (.getfield 53, 3) := by decide +kernel
theorem dX9_cuts_149 : decode cX9_cuts 149 = .ok (.iload 12, 2) := by decide +kernel
theorem dX9_cuts_151 : decode cX9_cuts 151 = .ok (.iload 14, 2) := by decide +kernel
theorem dX9_cuts_153 : decode cX9_cuts 153 = .ok (.iadd, 1) := by decide +kernel
theorem dX9_cuts_154 : decode cX9_cuts 154 = .ok (.iconst 1, 1) := by decide +kernel
theorem dX9_cuts_155 : decode cX9_cuts 155 = .ok (.isub, 1) := by decide +kernel
theorem dX9_cuts_156 : decode cX9_cuts 156 = .ok (.laload, 1) := by decide +kernel
theorem dX9_cuts_157 : decode cX9_cuts 157 = .ok (.lastore, 1) := by decide +kernel
theorem dX9_cuts_158 : decode cX9_cuts 158 = .ok (.aload_n 0, 1) := by decide +kernel
theorem dX9_cuts_159 : decode cX9_cuts 159 = .ok (.getfield 57, 3) := by decide +kernel
theorem dX9_cuts_162 : decode cX9_cuts 162 = .ok (.iload 12, 2) := by decide +kernel
theorem dX9_cuts_164 : decode cX9_cuts 164 = .ok (.iload 14, 2) := by decide +kernel
theorem dX9_cuts_166 : decode cX9_cuts 166 = .ok (.iadd, 1) := by decide +kernel
theorem dX9_cuts_167 : decode cX9_cuts 167 = .ok (.aload_n 0, 1) := by decide +kernel
theorem dX9_cuts_168 : decode cX9_cuts 168 = .ok (.getfield 57, 3) := by decide +kernel
theorem dX9_cuts_171 : decode cX9_cuts 171 = .ok (.iload 12, 2) := by decide +kernel
theorem dX9_cuts_173 : decode cX9_cuts 173 = .ok (.iload 14, 2) := by decide +kernel
theorem dX9_cuts_175 : decode cX9_cuts 175 = .ok (.iadd, 1) := by decide +kernel
theorem dX9_cuts_176 : decode cX9_cuts 176 = .ok (.iconst 1, 1) := by decide +kernel
theorem dX9_cuts_177 : decode cX9_cuts 177 = .ok (.isub, 1) := by decide +kernel
theorem dX9_cuts_178 : decode cX9_cuts 178 = .ok (.laload, 1) := by decide +kernel
theorem dX9_cuts_179 : decode cX9_cuts 179 = .ok (.lastore, 1) := by decide +kernel
theorem dX9_cuts_180 : decode cX9_cuts 180 = .ok (.iinc 14 (-1), 3) := by decide +kernel
theorem dX9_cuts_183 : decode cX9_cuts 183 = .ok (.goto (-54), 3) := by decide +kernel
theorem dX9_cuts_186 : decode cX9_cuts 186 = .ok (.aload_n 0, 1) := by decide +kernel
theorem dX9_cuts_187 : decode cX9_cuts 187 = .ok (.getfield 53, 3) := by decide +kernel
theorem dX9_cuts_190 : decode cX9_cuts 190 = .ok (.iload 12, 2) := by decide +kernel
theorem dX9_cuts_192 : decode cX9_cuts 192 = .ok (.iload 13, 2) := by decide +kernel
theorem dX9_cuts_194 : decode cX9_cuts 194 = .ok (.iadd, 1) := by decide +kernel
theorem dX9_cuts_195 : decode cX9_cuts 195 = .ok (.lload 8, 2) := by decide +kernel
theorem dX9_cuts_197 : decode cX9_cuts 197 = .ok (.lastore, 1) := by decide +kernel
theorem dX9_cuts_198 : decode cX9_cuts 198 = .ok (.aload_n 0, 1) := by decide +kernel
theorem dX9_cuts_199 : decode cX9_cuts 199 = .ok (.getfield 57, 3) := by decide +kernel
theorem dX9_cuts_202 : decode cX9_cuts 202 = .ok (.iload 12, 2) := by decide +kernel
theorem dX9_cuts_204 : decode cX9_cuts 204 = .ok (.iload 13, 2) := by decide +kernel
theorem dX9_cuts_206 : decode cX9_cuts 206 = .ok (.iadd, 1) := by decide +kernel
theorem dX9_cuts_207 : decode cX9_cuts 207 = .ok (.lload 10, 2) := by decide +kernel
theorem dX9_cuts_209 : decode cX9_cuts 209 = .ok (.lastore, 1) := by decide +kernel
theorem dX9_cuts_210 : decode cX9_cuts 210 = .ok (.aload_n 0, 1) := by decide +kernel
theorem dX9_cuts_211 : decode cX9_cuts 211 = .ok (.getfield 50, 3) := by decide +kernel
theorem dX9_cuts_214 : decode cX9_cuts 214 = .ok (.iload_n 1, 1) := by decide +kernel
theorem dX9_cuts_215 : decode cX9_cuts 215 = .ok (.dup2, 1) := by decide +kernel
theorem dX9_cuts_216 : decode cX9_cuts 216 = .ok (.iaload, 1) := by decide +kernel
theorem dX9_cuts_217 : decode cX9_cuts 217 = .ok (.iconst 1, 1) := by decide +kernel
theorem dX9_cuts_218 : decode cX9_cuts 218 = .ok (.iadd, 1) := by decide +kernel
theorem dX9_cuts_219 : decode cX9_cuts 219 = .ok (.iastore, 1) := by decide +kernel
theorem dX9_cuts_220 : decode cX9_cuts 220 = .ok (.return_, 1) := by decide +kernel
theorem dX9_quantityBy_0 : decode cX9_quantityBy 0 = .ok (.bipush 50, 2) := by decide +kernel
theorem dX9_quantityBy_2 : decode cX9_quantityBy 2 = .ok (.iload_n 1, 1) := by decide +kernel
theorem dX9_quantityBy_3 : decode cX9_quantityBy 3 = .ok (.imul, 1) := by decide +kernel
theorem dX9_quantityBy_4 : decode cX9_quantityBy 4 = .ok (.iload_n 2, 1) := by decide +kernel
theorem dX9_quantityBy_5 : decode cX9_quantityBy 5 = .ok (.iadd, 1) := by decide +kernel
theorem dX9_quantityBy_6 : decode cX9_quantityBy 6 = .ok (.istore_n 3, 1) := by decide +kernel
theorem dX9_quantityBy_7 : decode cX9_quantityBy 7 = .ok (.iconst 0, 1) := by decide +kernel
theorem dX9_quantityBy_8 : decode cX9_quantityBy 8 = .ok (.istore 4, 2) := by decide +kernel
theorem dX9_quantityBy_10 : decode cX9_quantityBy 10 = .ok (.iconst 0, 1) := by decide +kernel
theorem dX9_quantityBy_11 : decode cX9_quantityBy 11 = .ok (.istore 5, 2) := by decide +kernel
theorem dX9_quantityBy_13 : decode cX9_quantityBy 13 = .ok (.iload 5, 2) := by decide +kernel
theorem dX9_quantityBy_15 : decode cX9_quantityBy 15 = .ok (.aload_n 0, 1) := by decide +kernel
theorem dX9_quantityBy_16 : decode cX9_quantityBy 16 = .ok (.getfield 86, 3) := by decide +kernel
theorem dX9_quantityBy_19 : decode cX9_quantityBy 19 = .ok (.if_icmp .ge 101, 3) := by decide +kernel
theorem dX9_quantityBy_22 : decode cX9_quantityBy 22 = .ok (.aload_n 0, 1) := by decide +kernel
theorem dX9_quantityBy_23 : decode cX9_quantityBy 23 = .ok (.iload_n 1, 1) := by decide +kernel
theorem dX9_quantityBy_24 : decode cX9_quantityBy 24 = .ok (.iload 5, 2) := by decide +kernel
theorem dX9_quantityBy_26 : decode cX9_quantityBy 26 = .ok (.invokevirtual 173, 3) := by decide +kernel
theorem dX9_quantityBy_29 : decode cX9_quantityBy 29 = .ok (.istore 6, 2) := by decide +kernel
theorem dX9_quantityBy_31 : decode cX9_quantityBy 31 = .ok (.iload 6, 2) := by decide +kernel
theorem dX9_quantityBy_33 : decode cX9_quantityBy 33 = .ok (.ifCond .eq 63, 3) := by decide +kernel
theorem dX9_quantityBy_36 : decode cX9_quantityBy 36 = .ok (.aload_n 0, 1) := by decide +kernel
theorem dX9_quantityBy_37 : decode cX9_quantityBy 37 = .ok (.getfield 156, 3) := by decide +kernel
theorem dX9_quantityBy_40 : decode cX9_quantityBy 40 = .ok (.aload_n 0, 1) := by decide +kernel
theorem dX9_quantityBy_41 : decode cX9_quantityBy 41 = .ok (.getfield 57, 3) := by decide +kernel
theorem dX9_quantityBy_44 : decode cX9_quantityBy 44 = .ok (.iload_n 3, 1) := by decide +kernel
theorem dX9_quantityBy_45 : decode cX9_quantityBy 45 = .ok (.laload, 1) := by decide +kernel
theorem dX9_quantityBy_46 : decode cX9_quantityBy 46 = .ok (.lmul, 1) := by decide +kernel
theorem dX9_quantityBy_47 : decode cX9_quantityBy 47 = .ok (.aload_n 0, 1) := by decide +kernel
theorem dX9_quantityBy_48 : decode cX9_quantityBy 48 = .ok (.getfield 53, 3) := by decide +kernel
theorem dX9_quantityBy_51 : decode cX9_quantityBy 51 = .ok (.iload_n 3, 1) := by decide +kernel
theorem dX9_quantityBy_52 : decode cX9_quantityBy 52 = .ok (.laload, 1) := by decide +kernel
theorem dX9_quantityBy_53 : decode cX9_quantityBy 53 = .ok (.aload_n 0, 1) := by decide +kernel
theorem dX9_quantityBy_54 : decode cX9_quantityBy 54 = .ok (.getfield 160, 3) := by decide +kernel
theorem dX9_quantityBy_57 : decode cX9_quantityBy 57 = .ok (.lmul, 1) := by decide +kernel
theorem dX9_quantityBy_58 : decode cX9_quantityBy 58 = .ok (.lcmp, 1) := by decide +kernel
theorem dX9_quantityBy_59 : decode cX9_quantityBy 59 = .ok (.ifCond .gt 37, 3) := by decide +kernel
theorem dX9_quantityBy_62 : decode cX9_quantityBy 62 = .ok (.aload_n 0, 1) := by decide +kernel
theorem dX9_quantityBy_63 : decode cX9_quantityBy 63 = .ok (.getfield 163, 3) := by decide +kernel
theorem dX9_quantityBy_66 : decode cX9_quantityBy 66 = .ok (.aload_n 0, 1) := by decide +kernel
theorem dX9_quantityBy_67 : decode cX9_quantityBy 67 = .ok (.getfield 57, 3) := by decide +kernel
theorem dX9_quantityBy_70 : decode cX9_quantityBy 70 = .ok (.iload_n 3, 1) := by decide +kernel
theorem dX9_quantityBy_71 : decode cX9_quantityBy 71 = .ok (.iconst 1, 1) := by decide +kernel
theorem dX9_quantityBy_72 : decode cX9_quantityBy 72 = .ok (.iadd, 1) := by decide +kernel
theorem dX9_quantityBy_73 : decode cX9_quantityBy 73 = .ok (.laload, 1) := by decide +kernel
theorem dX9_quantityBy_74 : decode cX9_quantityBy 74 = .ok (.lmul, 1) := by decide +kernel
theorem dX9_quantityBy_75 : decode cX9_quantityBy 75 = .ok (.aload_n 0, 1) := by decide +kernel
theorem dX9_quantityBy_76 : decode cX9_quantityBy 76 = .ok (.getfield 53, 3) := by decide +kernel
theorem dX9_quantityBy_79 : decode cX9_quantityBy 79 = .ok (.iload_n 3, 1) := by decide +kernel
theorem dX9_quantityBy_80 : decode cX9_quantityBy 80 = .ok (.iconst 1, 1) := by decide +kernel
theorem dX9_quantityBy_81 : decode cX9_quantityBy 81 = .ok (.iadd, 1) := by decide +kernel
theorem dX9_quantityBy_82 : decode cX9_quantityBy 82 = .ok (.laload, 1) := by decide +kernel
theorem dX9_quantityBy_83 : decode cX9_quantityBy 83 = .ok (.aload_n 0, 1) := by decide +kernel
theorem dX9_quantityBy_84 : decode cX9_quantityBy 84 = .ok (.getfield 166, 3) := by decide +kernel
theorem dX9_quantityBy_87 : decode cX9_quantityBy 87 = .ok (.lmul, 1) := by decide +kernel
theorem dX9_quantityBy_88 : decode cX9_quantityBy 88 = .ok (.lcmp, 1) := by decide +kernel
theorem dX9_quantityBy_89 : decode cX9_quantityBy 89 = .ok (.ifCond .lt 7, 3) := by decide +kernel
theorem dX9_quantityBy_92 : decode cX9_quantityBy 92 = .ok (.iconst 1, 1) := by decide +kernel
theorem dX9_quantityBy_93 : decode cX9_quantityBy 93 = .ok (.goto 4, 3) := by decide +kernel
theorem dX9_quantityBy_96 : decode cX9_quantityBy 96 = .ok (.iconst 0, 1) := by decide +kernel
theorem dX9_quantityBy_97 : decode cX9_quantityBy 97 = .ok (.istore 6, 2) := by decide +kernel
theorem dX9_quantityBy_99 : decode cX9_quantityBy 99 = .ok (.iload 4, 2) := by decide +kernel
theorem dX9_quantityBy_101 : decode cX9_quantityBy 101 = .ok (.iload 6, 2) := by decide +kernel
theorem dX9_quantityBy_103 : decode cX9_quantityBy 103 = .ok (.ifCond .eq 7, 3) := by decide +kernel
theorem dX9_quantityBy_106 : decode cX9_quantityBy 106 = .ok (.iconst 1, 1) := by decide +kernel
theorem dX9_quantityBy_107 : decode cX9_quantityBy 107 = .ok (.goto 4, 3) := by decide +kernel
theorem dX9_quantityBy_110 : decode cX9_quantityBy 110 = .ok (.iconst 0, 1) := by decide +kernel
theorem dX9_quantityBy_111 : decode cX9_quantityBy 111 = .ok (.iadd, 1) := by decide +kernel
theorem dX9_quantityBy_112 : decode cX9_quantityBy 112 = .ok (.istore 4, 2) := by decide +kernel
theorem dX9_quantityBy_114 : decode cX9_quantityBy 114 = .ok (.iinc 5 1, 3) := by decide +kernel
theorem dX9_quantityBy_117 : decode cX9_quantityBy 117 = .ok (.goto (-104), 3) := by decide +kernel
theorem dX9_quantityBy_120 : decode cX9_quantityBy 120 = .ok (.iload 4, 2) := by decide +kernel
theorem dX9_quantityBy_122 : decode cX9_quantityBy 122 = .ok (.ireturn, 1) := by decide +kernel
theorem dX9_findEdge_0 : decode cX9_findEdge 0 = .ok (.aload_n 0, 1) := by decide +kernel
theorem dX9_findEdge_1 : decode cX9_findEdge 1 = .ok (.iload_n 1, 1) := by decide +kernel
theorem dX9_findEdge_2 : decode cX9_findEdge 2 = .ok (.iload_n 2, 1) := by decide +kernel
theorem dX9_findEdge_3 : decode cX9_findEdge 3 = .ok (.invokevirtual 176, 3) := by decide +kernel
theorem dX9_findEdge_6 : decode cX9_findEdge 6 = .ok (.istore_n 3, 1) := by decide +kernel
theorem dX9_findEdge_7 : decode cX9_findEdge 7 = .ok (.iload_n 3, 1) := by decide +kernel
theorem dX9_findEdge_8 : decode cX9_findEdge 8 = .ok (.ifCond .ne 13, 3) := by decide +kernel
theorem dX9_findEdge_11 : decode cX9_findEdge 11 = .ok (.aload_n 0, 1) := by decide +kernel
theorem dX9_findEdge_12 : decode cX9_findEdge 12 = .ok (.iload_n 1, 1) := by decide +kernel
theorem dX9_findEdge_13 : decode cX9_findEdge 13 = .ok (.iload_n 2, 1) := by decide +kernel
theorem dX9_findEdge_14 : decode cX9_findEdge 14 = .ok (.invokevirtual 128, 3) := by decide +kernel
theorem dX9_findEdge_17 : decode cX9_findEdge 17 = .ok (.ifCond .ne 4, 3) := by decide +kernel
theorem dX9_findEdge_20 : decode cX9_findEdge 20 = .ok (.return_, 1) := by decide +kernel
theorem dX9_findEdge_21 : decode cX9_findEdge 21 = .ok (.aload_n 0, 1) := by decide +kernel
theorem dX9_findEdge_22 : decode cX9_findEdge 22 = .ok (.getfield 180, 3) := by decide +kernel
theorem dX9_findEdge_25 : decode cX9_findEdge 25 = .ok (.istore 4, 2) := by decide +kernel
theorem dX9_findEdge_27 : decode cX9_findEdge 27 = .ok (.aload_n 0, 1) := by decide +kernel
theorem dX9_findEdge_28 : decode cX9_findEdge 28 = .ok (.getfield 38, 3) := by decide +kernel
theorem dX9_findEdge_31 : decode cX9_findEdge 31 = .ok (.iload 4, 2) := by decide +kernel
theorem dX9_findEdge_33 : decode cX9_findEdge 33 = .ok (.iload_n 1, 1) := by decide +kernel
theorem dX9_findEdge_34 : decode cX9_findEdge 34 = .ok (.iastore, 1) := by decide +kernel
theorem dX9_findEdge_35 : decode cX9_findEdge 35 = .ok (.aload_n 0, 1) := by decide +kernel
theorem dX9_findEdge_36 : decode cX9_findEdge 36 = .ok (.getfield 41, 3) := by decide +kernel
theorem dX9_findEdge_39 : decode cX9_findEdge 39 = .ok (.iload 4, 2) := by decide +kernel
theorem dX9_findEdge_41 : decode cX9_findEdge 41 = .ok (.iload_n 2, 1) := by decide +kernel
theorem dX9_findEdge_42 : decode cX9_findEdge 42 = .ok (.iastore, 1) := by decide +kernel
theorem dX9_findEdge_43 : decode cX9_findEdge 43 = .ok (.aload_n 0, 1) := by decide +kernel
theorem dX9_findEdge_44 : decode cX9_findEdge 44 = .ok (.getfield 44, 3) := by decide +kernel
theorem dX9_findEdge_47 : decode cX9_findEdge 47 = .ok (.iload 4, 2) := by decide +kernel
theorem dX9_findEdge_49 : decode cX9_findEdge 49 = .ok (.iload_n 3, 1) := by decide +kernel
theorem dX9_findEdge_50 : decode cX9_findEdge 50 = .ok (.iastore, 1) := by decide +kernel
theorem dX9_findEdge_51 : decode cX9_findEdge 51 = .ok (.aload_n 0, 1) := by decide +kernel
theorem dX9_findEdge_52 : decode cX9_findEdge 52 = .ok (.getfield 47, 3) := by decide +kernel
theorem dX9_findEdge_55 : decode cX9_findEdge 55 = .ok (.iload 4, 2) := by decide +kernel
theorem dX9_findEdge_57 : decode cX9_findEdge 57 = .ok (.aload_n 0, 1) := by decide +kernel
theorem dX9_findEdge_58 : decode cX9_findEdge 58 = .ok (.iload_n 1, 1) := by decide +kernel
theorem dX9_findEdge_59 : decode cX9_findEdge 59 = .ok (.iload_n 2, 1) := by decide +kernel
theorem dX9_findEdge_60 : decode cX9_findEdge 60 = .ok (.iload_n 3, 1) := by decide +kernel
theorem dX9_findEdge_61 : decode cX9_findEdge 61 = .ok (.invokevirtual 183, 3) := by decide +kernel
theorem dX9_findEdge_64 : decode cX9_findEdge 64 = .ok (.iastore, 1) := by decide +kernel
theorem dX9_findEdge_65 : decode cX9_findEdge 65 = .ok (.aload_n 0, 1) := by decide +kernel
theorem dX9_findEdge_66 : decode cX9_findEdge 66 = .ok (.dup, 1) := by decide +kernel
theorem dX9_findEdge_67 : decode cX9_findEdge 67 = .ok (.getfield 180, 3) := by decide +kernel
theorem dX9_findEdge_70 : decode cX9_findEdge 70 = .ok (.iconst 1, 1) := by decide +kernel
theorem dX9_findEdge_71 : decode cX9_findEdge 71 = .ok (.iadd, 1) := by decide +kernel
theorem dX9_findEdge_72 : decode cX9_findEdge 72 = .ok (.putfield 180, 3) := by decide +kernel
theorem dX9_findEdge_75 : decode cX9_findEdge 75 = .ok (.aload_n 0, 1) := by decide +kernel
theorem dX9_findEdge_76 : decode cX9_findEdge 76 = .ok (.getfield 50, 3) := by decide +kernel
theorem dX9_findEdge_79 : decode cX9_findEdge 79 = .ok (.iload 4, 2) := by decide +kernel
theorem dX9_findEdge_81 : decode cX9_findEdge 81 = .ok (.iconst 0, 1) := by decide +kernel
theorem dX9_findEdge_82 : decode cX9_findEdge 82 = .ok (.iastore, 1) := by decide +kernel
theorem dX9_findEdge_83 : decode cX9_findEdge 83 = .ok (.aload_n 0, 1) := by decide +kernel
theorem dX9_findEdge_84 : decode cX9_findEdge 84 = .ok (.iload 4, 2) := by decide +kernel
theorem dX9_findEdge_86 : decode cX9_findEdge 86 = .ok (.lconst 0, 1) := by decide +kernel
theorem dX9_findEdge_87 : decode cX9_findEdge 87 = .ok (.lconst 1, 1) := by decide +kernel
theorem dX9_findEdge_88 : decode cX9_findEdge 88 = .ok (.invokevirtual 186, 3) := by decide +kernel
theorem dX9_findEdge_91 : decode cX9_findEdge 91 = .ok (.aload_n 0, 1) := by decide +kernel
theorem dX9_findEdge_92 : decode cX9_findEdge 92 = .ok (.iload 4, 2) := by decide +kernel
theorem dX9_findEdge_94 : decode cX9_findEdge 94 = .ok (.lconst 1, 1) := by decide +kernel
theorem dX9_findEdge_95 : decode cX9_findEdge 95 = .ok (.lconst 1, 1) := by decide +kernel
theorem dX9_findEdge_96 : decode cX9_findEdge 96 = .ok (.invokevirtual 186, 3) := by decide +kernel
theorem dX9_findEdge_99 : decode cX9_findEdge 99 = .ok (.iconst 0, 1) := by decide +kernel
theorem dX9_findEdge_100 : decode cX9_findEdge 100 = .ok (.istore 5, 2) := by decide +kernel
theorem dX9_findEdge_102 : decode cX9_findEdge 102 = .ok (.iload 5, 2) := by decide +kernel
theorem dX9_findEdge_104 : decode cX9_findEdge 104 = .ok (.aload_n 0, 1) := by decide +kernel
theorem dX9_findEdge_105 : decode cX9_findEdge 105 = .ok (.getfield 86, 3) := by decide +kernel
theorem dX9_findEdge_108 : decode cX9_findEdge 108 = .ok (.if_icmp .ge 48, 3) := by decide +kernel
theorem dX9_findEdge_111 : decode cX9_findEdge 111 = .ok (.aload_n 0, 1) := by decide +kernel
theorem dX9_findEdge_112 : decode cX9_findEdge 112 = .ok (.iload 4, 2) := by decide +kernel
theorem dX9_findEdge_114 : decode cX9_findEdge 114 = .ok (.iload 5, 2) := by decide +kernel
theorem dX9_findEdge_116 : decode cX9_findEdge 116 = .ok (.invokevirtual 173, 3) := by decide +kernel
theorem dX9_findEdge_119 : decode cX9_findEdge 119 = .ok (.ifCond .eq 31, 3) := by decide +kernel
theorem dX9_findEdge_122 : decode cX9_findEdge 122 = .ok (.aload_n 0, 1) := by decide +kernel
theorem dX9_findEdge_123 : decode cX9_findEdge 123 = .ok (.iload 4, 2) := by decide +kernel
theorem dX9_findEdge_125 : decode cX9_findEdge 125 = .ok (.aload_n 0, 1) := by decide +kernel
theorem dX9_findEdge_126 : decode cX9_findEdge 126 = .ok (.getfield 156, 3) := by decide +kernel
theorem dX9_findEdge_129 : decode cX9_findEdge 129 = .ok (.aload_n 0, 1) := by decide +kernel
theorem dX9_findEdge_130 : decode cX9_findEdge 130 = .ok (.getfield 160, 3) := by decide +kernel
theorem dX9_findEdge_133 : decode cX9_findEdge 133 = .ok (.invokevirtual 186, 3) := by decide +kernel
theorem dX9_findEdge_136 : decode cX9_findEdge 136 = .ok (.aload_n 0, 1) := by decide +kernel
theorem dX9_findEdge_137 : decode cX9_findEdge 137 = .ok (.iload 4, 2) := by decide +kernel
theorem dX9_findEdge_139 : decode cX9_findEdge 139 = .ok (.aload_n 0, 1) := by decide +kernel
theorem dX9_findEdge_140 : decode cX9_findEdge 140 = .ok (.getfield 163, 3) := by decide +kernel
theorem dX9_findEdge_143 : decode cX9_findEdge 143 = .ok (.aload_n 0, 1) := by decide +kernel
theorem dX9_findEdge_144 : decode cX9_findEdge 144 = .ok (.getfield 166, 3) := by decide +kernel
theorem dX9_findEdge_147 : decode cX9_findEdge 147 = .ok (.invokevirtual 186, 3) := by decide +kernel
theorem dX9_findEdge_150 : decode cX9_findEdge 150 = .ok (.iinc 5 1, 3) := by decide +kernel
theorem dX9_findEdge_153 : decode cX9_findEdge 153 = .ok (.goto (-51), 3) := by decide +kernel
theorem dX9_findEdge_156 : decode cX9_findEdge 156 = .ok (.iconst 0, 1) := by decide +kernel
theorem dX9_findEdge_157 : decode cX9_findEdge 157 = .ok (.istore 5, 2) := by decide +kernel
theorem dX9_findEdge_159 : decode cX9_findEdge 159 = .ok (.iload 5, 2) := by decide +kernel
theorem dX9_findEdge_161 : decode cX9_findEdge 161 = .ok (.iconst 1, 1) := by decide +kernel
theorem dX9_findEdge_162 : decode cX9_findEdge 162 = .ok (.iadd, 1) := by decide +kernel
theorem dX9_findEdge_163 : decode cX9_findEdge 163 = .ok (.aload_n 0, 1) := by decide +kernel
theorem dX9_findEdge_164 : decode cX9_findEdge 164 = .ok (.getfield 50, 3) := by decide +kernel
theorem dX9_findEdge_167 : decode cX9_findEdge 167 = .ok (.iload 4, 2) := by decide +kernel
theorem dX9_findEdge_169 : decode cX9_findEdge 169 = .ok (.iaload, 1) := by decide +kernel
theorem dX9_findEdge_170 : decode cX9_findEdge 170 = .ok (.if_icmp .ge 30, 3) := by decide +kernel
theorem dX9_findEdge_173 : decode cX9_findEdge 173 = .ok (.aload_n 0, 1) := by decide +kernel
theorem dX9_findEdge_174 : decode cX9_findEdge 174 = .ok (.getfield 60, 3) := by decide +kernel
theorem dX9_findEdge_177 : decode cX9_findEdge 177 = .ok (.bipush 50, 2) := by decide +kernel
theorem dX9_findEdge_179 : decode cX9_findEdge 179 = .ok (.iload 4, 2) := by decide +kernel
theorem dX9_findEdge_181 : decode cX9_findEdge 181 = .ok (.imul, 1) := by decide +kernel
theorem dX9_findEdge_182 : decode cX9_findEdge 182 = .ok (.iload 5, 2) := by decide +kernel
theorem dX9_findEdge_184 : decode cX9_findEdge 184 = .ok (.iadd, 1) := by decide +kernel
theorem dX9_findEdge_185 : decode cX9_findEdge 185 = .ok (.aload_n 0, 1) := by decide +kernel
theorem dX9_findEdge_186 : decode cX9_findEdge 186 = .ok (.iload 4, 2) := by decide +kernel
theorem dX9_findEdge_188 : decode cX9_findEdge 188 = .ok (.iload 5, 2) := by decide +kernel
theorem dX9_findEdge_190 : decode cX9_findEdge 190 = .ok (.invokevirtual 190, 3) := by decide +kernel
theorem dX9_findEdge_193 : decode cX9_findEdge 193 = .ok (.iastore, 1) := by decide +kernel
theorem dX9_findEdge_194 : decode cX9_findEdge 194 = .ok (.iinc 5 1, 3) := by decide +kernel
theorem dX9_findEdge_197 : decode cX9_findEdge 197 = .ok (.goto (-38), 3) := by decide +kernel
theorem dX9_findEdge_200 : decode cX9_findEdge 200 = .ok (.return_, 1) := by decide +kernel
theorem dX9_findAll_0 : decode cX9_findAll 0 = .ok (.aload_n 0, 1) := by decide +kernel
theorem dX9_findAll_1 : decode cX9_findAll 1 = .ok (.getfield 89, 3) := by decide +kernel
theorem dX9_findAll_4 : decode cX9_findAll 4 = .ok (.ifCond .eq 4, 3) := by decide +kernel
theorem dX9_findAll_7 : decode cX9_findAll 7 = .ok (.return_, 1) := by decide +kernel
theorem dX9_findAll_8 : decode cX9_findAll 8 = .ok (.aload_n 0, 1) := by decide +kernel
theorem dX9_findAll_9 : decode cX9_findAll 9 = .ok (.iconst 1, 1) := by decide +kernel
theorem dX9_findAll_10 : decode cX9_findAll 10 = .ok (.putfield 89, 3) := by decide +kernel
theorem dX9_findAll_13 : decode cX9_findAll 13 = .ok (.aload_n 0, 1) := by decide +kernel
theorem dX9_findAll_14 : decode cX9_findAll 14 = .ok (.iconst 0, 1) := by decide +kernel
theorem dX9_findAll_15 : decode cX9_findAll 15 = .ok (.putfield 180, 3) := by decide +kernel
theorem dX9_findAll_18 : decode cX9_findAll 18 = .ok (.iconst 0, 1) := by decide +kernel
theorem dX9_findAll_19 : decode cX9_findAll 19 = .ok (.istore_n 1, 1) := by decide +kernel
theorem dX9_findAll_20 : decode cX9_findAll 20 = .ok (.iload_n 1, 1) := by decide +kernel
theorem dX9_findAll_21 : decode cX9_findAll 21 = .ok (.aload_n 0, 1) := by decide +kernel
theorem dX9_findAll_22 : decode cX9_findAll 22 = .ok (.getfield 79, 3) := by decide +kernel
theorem dX9_findAll_25 : decode cX9_findAll 25 = .ok (.if_icmp .ge 33, 3) := by decide +kernel
theorem dX9_findAll_28 : decode cX9_findAll 28 = .ok (.iload_n 1, 1) := by decide +kernel
theorem dX9_findAll_29 : decode cX9_findAll 29 = .ok (.iconst 1, 1) := by decide +kernel
theorem dX9_findAll_30 : decode cX9_findAll 30 = .ok (.iadd, 1) := by decide +kernel
theorem dX9_findAll_31 : decode cX9_findAll 31 = .ok (.istore_n 2, 1) := by decide +kernel
theorem dX9_findAll_32 : decode cX9_findAll 32 = .ok (.iload_n 2, 1) := by decide +kernel
theorem dX9_findAll_33 : decode cX9_findAll 33 = .ok (.aload_n 0, 1) := by decide +kernel
theorem dX9_findAll_34 : decode cX9_findAll 34 = .ok (.getfield 79, 3) := by decide +kernel
theorem dX9_findAll_37 : decode cX9_findAll 37 = .ok (.if_icmp .ge 15, 3) := by decide +kernel
theorem dX9_findAll_40 : decode cX9_findAll 40 = .ok (.aload_n 0, 1) := by decide +kernel
theorem dX9_findAll_41 : decode cX9_findAll 41 = .ok (.iload_n 1, 1) := by decide +kernel
theorem dX9_findAll_42 : decode cX9_findAll 42 = .ok (.iload_n 2, 1) := by decide +kernel
theorem dX9_findAll_43 : decode cX9_findAll 43 = .ok (.invokevirtual 193, 3) := by decide +kernel
theorem dX9_findAll_46 : decode cX9_findAll 46 = .ok (.iinc 2 1, 3) := by decide +kernel
theorem dX9_findAll_49 : decode cX9_findAll 49 = .ok (.goto (-17), 3) := by decide +kernel
theorem dX9_findAll_52 : decode cX9_findAll 52 = .ok (.iinc 1 1, 3) := by decide +kernel
theorem dX9_findAll_55 : decode cX9_findAll 55 = .ok (.goto (-35), 3) := by decide +kernel
theorem dX9_findAll_58 : decode cX9_findAll 58 = .ok (.aload_n 0, 1) := by decide +kernel
theorem dX9_findAll_59 : decode cX9_findAll 59 = .ok (.invokevirtual 197, 3) := by decide +kernel
theorem dX9_findAll_62 : decode cX9_findAll 62 = .ok (.return_, 1) := by decide +kernel
theorem dX9_isEdge_0 : decode cX9_isEdge 0 = .ok (.aload_n 0, 1) := by decide +kernel
theorem dX9_isEdge_1 : decode cX9_isEdge 1 = .ok (.invokevirtual 200, 3) := by decide +kernel
theorem dX9_isEdge_4 : decode cX9_isEdge 4 = .ok (.iload_n 1, 1) := by decide +kernel
theorem dX9_isEdge_5 : decode cX9_isEdge 5 = .ok (.iconst 0, 1) := by decide +kernel
theorem dX9_isEdge_6 : decode cX9_isEdge 6 = .ok (.aload_n 0, 1) := by decide +kernel
theorem dX9_isEdge_7 : decode cX9_isEdge 7 = .ok (.getfield 180, 3) := by decide +kernel
theorem dX9_isEdge_10 : decode cX9_isEdge 10 = .ok (.iconst 1, 1) := by decide +kernel
theorem dX9_isEdge_11 : decode cX9_isEdge 11 = .ok (.isub, 1) := by decide +kernel
theorem dX9_isEdge_12 : decode cX9_isEdge 12 = .ok (.invokestatic 82, 3) := by decide +kernel
theorem dX9_isEdge_15 : decode cX9_isEdge 15 = .ok (.ireturn, 1) := by decide +kernel
theorem dX9_piecesOf_0 : decode cX9_piecesOf 0 = .ok (.aload_n 0, 1) := by decide +kernel
theorem dX9_piecesOf_1 : decode cX9_piecesOf 1 = .ok (.getfield 50, 3) := by decide +kernel
theorem dX9_piecesOf_4 : decode cX9_piecesOf 4 = .ok (.iload_n 1, 1) := by decide +kernel
theorem dX9_piecesOf_5 : decode cX9_piecesOf 5 = .ok (.iaload, 1) := by decide +kernel
theorem dX9_piecesOf_6 : decode cX9_piecesOf 6 = .ok (.iconst 1, 1) := by decide +kernel
theorem dX9_piecesOf_7 : decode cX9_piecesOf 7 = .ok (.isub, 1) := by decide +kernel
theorem dX9_piecesOf_8 : decode cX9_piecesOf 8 = .ok (.ireturn, 1) := by decide +kernel
theorem dX9_isSeen_0 : decode cX9_isSeen 0 = .ok (.aload_n 0, 1) := by decide +kernel
theorem dX9_isSeen_1 : decode cX9_isSeen 1 = .ok (.getfield 60, 3) := by decide +kernel
theorem dX9_isSeen_4 : decode cX9_isSeen 4 = .ok (.bipush 50, 2) := by decide +kernel
theorem dX9_isSeen_6 : decode cX9_isSeen 6 = .ok (.iload_n 1, 1) := by decide +kernel
theorem dX9_isSeen_7 : decode cX9_isSeen 7 = .ok (.imul, 1) := by decide +kernel
theorem dX9_isSeen_8 : decode cX9_isSeen 8 = .ok (.iload_n 2, 1) := by decide +kernel
theorem dX9_isSeen_9 : decode cX9_isSeen 9 = .ok (.iadd, 1) := by decide +kernel
theorem dX9_isSeen_10 : decode cX9_isSeen 10 = .ok (.iaload, 1) := by decide +kernel
theorem dX9_isSeen_11 : decode cX9_isSeen 11 = .ok (.ifCond .ne 17, 3) := by decide +kernel
theorem dX9_isSeen_14 : decode cX9_isSeen 14 = .ok (.aload_n 0, 1) := by decide +kernel
theorem dX9_isSeen_15 : decode cX9_isSeen 15 = .ok (.getfield 47, 3) := by decide +kernel
theorem dX9_isSeen_18 : decode cX9_isSeen 18 = .ok (.iload_n 1, 1) := by decide +kernel
theorem dX9_isSeen_19 : decode cX9_isSeen 19 = .ok (.iaload, 1) := by decide +kernel
theorem dX9_isSeen_20 : decode cX9_isSeen 20 = .ok (.iconst 2, 1) := by decide +kernel
theorem dX9_isSeen_21 : decode cX9_isSeen 21 = .ok (.if_icmp .eq 7, 3) := by decide +kernel
theorem dX9_isSeen_24 : decode cX9_isSeen 24 = .ok (.iconst 1, 1) := by decide +kernel
theorem dX9_isSeen_25 : decode cX9_isSeen 25 = .ok (.goto 4, 3) := by decide +kernel
theorem dX9_isSeen_28 : decode cX9_isSeen 28 = .ok (.iconst 0, 1) := by decide +kernel
theorem dX9_isSeen_29 : decode cX9_isSeen 29 = .ok (.ireturn, 1) := by decide +kernel
theorem dX9_seenOf_0 : decode cX9_seenOf 0 = .ok (.iconst 0, 1) := by decide +kernel
theorem dX9_seenOf_1 : decode cX9_seenOf 1 = .ok (.istore_n 2, 1) := by decide +kernel
theorem dX9_seenOf_2 : decode cX9_seenOf 2 = .ok (.iconst 0, 1) := by decide +kernel
theorem dX9_seenOf_3 : decode cX9_seenOf 3 = .ok (.istore_n 3, 1) := by decide +kernel
theorem dX9_seenOf_4 : decode cX9_seenOf 4 = .ok (.iload_n 3, 1) := by decide +kernel
theorem dX9_seenOf_5 : decode cX9_seenOf 5 = .ok (.aload_n 0, 1) := by decide +kernel
theorem dX9_seenOf_6 : decode cX9_seenOf 6 = .ok (.iload_n 1, 1) := by decide +kernel
theorem dX9_seenOf_7 : decode cX9_seenOf 7 = .ok (.invokevirtual 203, 3) := by decide +kernel
theorem dX9_seenOf_10 : decode cX9_seenOf 10 = .ok (.if_icmp .ge 26, 3) := by decide +kernel
theorem dX9_seenOf_13 : decode cX9_seenOf 13 = .ok (.iload_n 2, 1) := by decide +kernel
theorem dX9_seenOf_14 : decode cX9_seenOf 14 = .ok (.aload_n 0, 1) := by decide +kernel
theorem dX9_seenOf_15 : decode cX9_seenOf 15 = .ok (.iload_n 1, 1) := by decide +kernel
theorem dX9_seenOf_16 : decode cX9_seenOf 16 = .ok (.iload_n 3, 1) := by decide +kernel
theorem dX9_seenOf_17 : decode cX9_seenOf 17 = .ok (.invokevirtual 207, 3) := by decide +kernel
theorem dX9_seenOf_20 : decode cX9_seenOf 20 = .ok (.ifCond .eq 7, 3) := by decide +kernel
theorem dX9_seenOf_23 : decode cX9_seenOf 23 = .ok (.iconst 1, 1) := by decide +kernel
theorem dX9_seenOf_24 : decode cX9_seenOf 24 = .ok (.goto 4, 3) := by decide +kernel
theorem dX9_seenOf_27 : decode cX9_seenOf 27 = .ok (.iconst 0, 1) := by decide +kernel
theorem dX9_seenOf_28 : decode cX9_seenOf 28 = .ok (.iadd, 1) := by decide +kernel
theorem dX9_seenOf_29 : decode cX9_seenOf 29 = .ok (.istore_n 2, 1) := by decide +kernel
theorem dX9_seenOf_30 : decode cX9_seenOf 30 = .ok (.iinc 3 1, 3) := by decide +kernel
theorem dX9_seenOf_33 : decode cX9_seenOf 33 = .ok (.goto (-29), 3) := by decide +kernel
theorem dX9_seenOf_36 : decode cX9_seenOf 36 = .ok (.iload_n 2, 1) := by decide +kernel
theorem dX9_seenOf_37 : decode cX9_seenOf 37 = .ok (.ireturn, 1) := by decide +kernel
theorem dX9_ofPoint_0 : decode cX9_ofPoint 0 = .ok (.aload_n 0, 1) := by decide +kernel
theorem dX9_ofPoint_1 : decode cX9_ofPoint 1 = .ok (.iload_n 1, 1) := by decide +kernel
theorem dX9_ofPoint_2 : decode cX9_ofPoint 2 = .ok (.invokevirtual 112, 3) := by decide +kernel
theorem dX9_ofPoint_5 : decode cX9_ofPoint 5 = .ok (.ifCond .ne 5, 3) := by decide +kernel
theorem dX9_ofPoint_8 : decode cX9_ofPoint 8 = .ok (.iconst (-1), 1) := by decide +kernel
theorem dX9_ofPoint_9 : decode cX9_ofPoint 9 = .ok (.ireturn, 1) := by decide +kernel
theorem dX9_ofPoint_10 : decode cX9_ofPoint 10 = .ok (.aload_n 0, 1) := by decide +kernel
theorem dX9_ofPoint_11 : decode cX9_ofPoint 11 = .ok (.invokevirtual 200, 3) := by decide +kernel
theorem dX9_ofPoint_14 : decode cX9_ofPoint 14 = .ok (.iconst 0, 1) := by decide +kernel
theorem dX9_ofPoint_15 : decode cX9_ofPoint 15 = .ok (.istore_n 3, 1) := by decide +kernel
theorem dX9_ofPoint_16 : decode cX9_ofPoint 16 = .ok (.iconst 0, 1) := by decide +kernel
theorem dX9_ofPoint_17 : decode cX9_ofPoint 17 = .ok (.istore 4, 2) := by decide +kernel
theorem dX9_ofPoint_19 : decode cX9_ofPoint 19 = .ok (.iload 4, 2) := by decide +kernel
theorem dX9_ofPoint_21 : decode cX9_ofPoint 21 = .ok (.aload_n 0, 1) := by decide +kernel
theorem dX9_ofPoint_22 : decode cX9_ofPoint 22 = .ok (.getfield 180, 3) := by decide +kernel
theorem dX9_ofPoint_25 : decode cX9_ofPoint 25 = .ok (.if_icmp .ge 39, 3) := by decide +kernel
theorem dX9_ofPoint_28 : decode cX9_ofPoint 28 = .ok (.iload_n 3, 1) := by decide +kernel
theorem dX9_ofPoint_29 : decode cX9_ofPoint 29 = .ok (.aload_n 0, 1) := by decide +kernel
theorem dX9_ofPoint_30 : decode cX9_ofPoint 30 = .ok (.getfield 38, 3) := by decide +kernel
theorem dX9_ofPoint_33 : decode cX9_ofPoint 33 = .ok (.iload 4, 2) := by decide +kernel
theorem dX9_ofPoint_35 : decode cX9_ofPoint 35 = .ok (.iaload, 1) := by decide +kernel
theorem dX9_ofPoint_36 : decode cX9_ofPoint 36 = .ok (.iload_n 1, 1) := by decide +kernel
theorem dX9_ofPoint_37 : decode cX9_ofPoint 37 = .ok (.if_icmp .eq 14, 3) := by decide +kernel
theorem dX9_ofPoint_40 : decode cX9_ofPoint 40 = .ok (.aload_n 0, 1) := by decide +kernel
theorem dX9_ofPoint_41 : decode cX9_ofPoint 41 = .ok (.getfield 41, 3) := by decide +kernel
theorem dX9_ofPoint_44 : decode cX9_ofPoint 44 = .ok (.iload 4, 2) := by decide +kernel
theorem dX9_ofPoint_46 : decode cX9_ofPoint 46 = .ok (.iaload, 1) := by decide +kernel
theorem dX9_ofPoint_47 : decode cX9_ofPoint 47 = .ok (.iload_n 1, 1) := by decide +kernel
theorem dX9_ofPoint_48 : decode cX9_ofPoint 48 = .ok (.if_icmp .ne 7, 3) := by decide +kernel
theorem dX9_ofPoint_51 : decode cX9_ofPoint 51 = .ok (.iconst 1, 1) := by decide +kernel
theorem dX9_ofPoint_52 : decode cX9_ofPoint 52 = .ok (.goto 4, 3) := by decide +kernel
theorem dX9_ofPoint_55 : decode cX9_ofPoint 55 = .ok (.iconst 0, 1) := by decide +kernel
theorem dX9_ofPoint_56 : decode cX9_ofPoint 56 = .ok (.iadd, 1) := by decide +kernel
theorem dX9_ofPoint_57 : decode cX9_ofPoint 57 = .ok (.istore_n 3, 1) := by decide +kernel
theorem dX9_ofPoint_58 : decode cX9_ofPoint 58 = .ok (.iinc 4 1, 3) := by decide +kernel
theorem dX9_ofPoint_61 : decode cX9_ofPoint 61 = .ok (.goto (-42), 3) := by decide +kernel
theorem dX9_ofPoint_64 : decode cX9_ofPoint 64 = .ok (.iload_n 2, 1) := by decide +kernel
theorem dX9_ofPoint_65 : decode cX9_ofPoint 65 = .ok (.tableswitch 73 0 4 #[35, 45, 55, 65, 71], 35) := by decide +kernel
theorem dX9_ofPoint_100 : decode cX9_ofPoint 100 = .ok (.aload_n 0, 1) := by decide +kernel
theorem dX9_ofPoint_101 : decode cX9_ofPoint 101 = .ok (.getfield 7, 3) := by decide +kernel
theorem dX9_ofPoint_104 : decode cX9_ofPoint 104 = .ok (.iload_n 1, 1) := by decide +kernel
theorem dX9_ofPoint_105 : decode cX9_ofPoint 105 = .ok (.iaload, 1) := by decide +kernel
theorem dX9_ofPoint_106 : decode cX9_ofPoint 106 = .ok (.bipush 10, 2) := by decide +kernel
theorem dX9_ofPoint_108 : decode cX9_ofPoint 108 = .ok (.iadd, 1) := by decide +kernel
theorem dX9_ofPoint_109 : decode cX9_ofPoint 109 = .ok (.ireturn, 1) := by decide +kernel
theorem dX9_ofPoint_110 : decode cX9_ofPoint 110 = .ok (.aload_n 0, 1) := by decide +kernel
theorem dX9_ofPoint_111 : decode cX9_ofPoint 111 = .ok (.getfield 13, 3) := by decide +kernel
theorem dX9_ofPoint_114 : decode cX9_ofPoint 114 = .ok (.iload_n 1, 1) := by decide +kernel
theorem dX9_ofPoint_115 : decode cX9_ofPoint 115 = .ok (.iaload, 1) := by decide +kernel
theorem dX9_ofPoint_116 : decode cX9_ofPoint 116 = .ok (.bipush 10, 2) := by decide +kernel
theorem dX9_ofPoint_118 : decode cX9_ofPoint 118 = .ok (.iadd, 1) := by decide +kernel
theorem dX9_ofPoint_119 : decode cX9_ofPoint 119 = .ok (.ireturn, 1) := by decide +kernel
theorem dX9_ofPoint_120 : decode cX9_ofPoint 120 = .ok (.aload_n 0, 1) := by decide +kernel
theorem dX9_ofPoint_121 : decode cX9_ofPoint 121 = .ok (.getfield 16, 3) := by decide +kernel
theorem dX9_ofPoint_124 : decode cX9_ofPoint 124 = .ok (.iload_n 1, 1) := by decide +kernel
theorem dX9_ofPoint_125 : decode cX9_ofPoint 125 = .ok (.iaload, 1) := by decide +kernel
theorem dX9_ofPoint_126 : decode cX9_ofPoint 126 = .ok (.bipush 10, 2) := by decide +kernel
theorem dX9_ofPoint_128 : decode cX9_ofPoint 128 = .ok (.iadd, 1) := by decide +kernel
theorem dX9_ofPoint_129 : decode cX9_ofPoint 129 = .ok (.ireturn, 1) := by decide +kernel
theorem dX9_ofPoint_130 : decode cX9_ofPoint 130 = .ok (.aload_n 0, 1) := by decide +kernel
theorem dX9_ofPoint_131 : decode cX9_ofPoint 131 = .ok (.iload_n 1, 1) := by decide +kernel
theorem dX9_ofPoint_132 : decode cX9_ofPoint 132 = .ok (.invokevirtual 210, 3) := by decide +kernel
theorem dX9_ofPoint_135 : decode cX9_ofPoint 135 = .ok (.ireturn, 1) := by decide +kernel
theorem dX9_ofPoint_136 : decode cX9_ofPoint 136 = .ok (.iload_n 3, 1) := by decide +kernel
theorem dX9_ofPoint_137 : decode cX9_ofPoint 137 = .ok (.ireturn, 1) := by decide +kernel
theorem dX9_ofPoint_138 : decode cX9_ofPoint 138 = .ok (.bipush (-2), 2) := by decide +kernel
theorem dX9_ofPoint_140 : decode cX9_ofPoint 140 = .ok (.ireturn, 1) := by decide +kernel
theorem dX9_ofFace_0 : decode cX9_ofFace 0 = .ok (.aload_n 0, 1) := by decide +kernel
theorem dX9_ofFace_1 : decode cX9_ofFace 1 = .ok (.iload_n 1, 1) := by decide +kernel
theorem dX9_ofFace_2 : decode cX9_ofFace 2 = .ok (.invokevirtual 213, 3) := by decide +kernel
theorem dX9_ofFace_5 : decode cX9_ofFace 5 = .ok (.ifCond .ne 5, 3) := by decide +kernel
theorem dX9_ofFace_8 : decode cX9_ofFace 8 = .ok (.iconst (-1), 1) := by decide +kernel
theorem dX9_ofFace_9 : decode cX9_ofFace 9 = .ok (.ireturn, 1) := by decide +kernel
theorem dX9_ofFace_10 : decode cX9_ofFace 10 = .ok (.iload_n 2, 1) := by decide +kernel
theorem dX9_ofFace_11 : decode cX9_ofFace 11 = .ok (.iconst 0, 1) := by decide +kernel
theorem dX9_ofFace_12 : decode cX9_ofFace 12 = .ok (.iconst 2, 1) := by decide +kernel
theorem dX9_ofFace_13 : decode cX9_ofFace 13 = .ok (.invokestatic 82, 3) := by decide +kernel
theorem dX9_ofFace_16 : decode cX9_ofFace 16 = .ok (.ifCond .eq 14, 3) := by decide +kernel
theorem dX9_ofFace_19 : decode cX9_ofFace 19 = .ok (.aload_n 0, 1) := by decide +kernel
theorem dX9_ofFace_20 : decode cX9_ofFace 20 = .ok (.getfield 19, 3) := by decide +kernel
theorem dX9_ofFace_23 : decode cX9_ofFace 23 = .ok (.iconst 3, 1) := by decide +kernel
theorem dX9_ofFace_24 : decode cX9_ofFace 24 = .ok (.iload_n 1, 1) := by decide +kernel
theorem dX9_ofFace_25 : decode cX9_ofFace 25 = .ok (.imul, 1) := by decide +kernel
theorem dX9_ofFace_26 : decode cX9_ofFace 26 = .ok (.iload_n 2, 1) := by decide +kernel
theorem dX9_ofFace_27 : decode cX9_ofFace 27 = .ok (.iadd, 1) := by decide +kernel
theorem dX9_ofFace_28 : decode cX9_ofFace 28 = .ok (.iaload, 1) := by decide +kernel
theorem dX9_ofFace_29 : decode cX9_ofFace 29 = .ok (.ireturn, 1) := by decide +kernel
theorem dX9_ofFace_30 : decode cX9_ofFace 30 = .ok (.aload_n 0, 1) := by decide +kernel
theorem dX9_ofFace_31 : decode cX9_ofFace 31 = .ok (.iload_n 1, 1) := by decide +kernel
theorem dX9_ofFace_32 : decode cX9_ofFace 32 = .ok (.invokevirtual 145, 3) := by decide +kernel
theorem dX9_ofFace_35 : decode cX9_ofFace 35 = .ok (.lstore_n 3, 1) := by decide +kernel
theorem dX9_ofFace_36 : decode cX9_ofFace 36 = .ok (.iload_n 2, 1) := by decide +kernel
theorem dX9_ofFace_37 : decode cX9_ofFace 37 = .ok (.iconst 3, 1) := by decide +kernel
theorem dX9_ofFace_38 : decode cX9_ofFace 38 = .ok (.if_icmp .ne 25, 3) := by decide +kernel
theorem dX9_ofFace_41 : decode cX9_ofFace 41 = .ok (.lload_n 3, 1) := by decide +kernel
theorem dX9_ofFace_42 : decode cX9_ofFace 42 = .ok (.lconst 0, 1) := by decide +kernel
theorem dX9_ofFace_43 : decode cX9_ofFace 43 = .ok (.lcmp, 1) := by decide +kernel
theorem dX9_ofFace_44 : decode cX9_ofFace 44 = .ok (.ifCond .le 7, 3) := by decide +kernel
theorem dX9_ofFace_47 : decode cX9_ofFace 47 = .ok (.iconst 1, 1) := by decide +kernel
theorem dX9_ofFace_48 : decode cX9_ofFace 48 = .ok (.goto 14, 3) := by decide +kernel
theorem dX9_ofFace_51 : decode cX9_ofFace 51 = .ok (.lload_n 3, 1) := by decide +kernel
theorem dX9_ofFace_52 : decode cX9_ofFace 52 = .ok (.lconst 0, 1) := by decide +kernel
theorem dX9_ofFace_53 : decode cX9_ofFace 53 = .ok (.lcmp, 1) := by decide +kernel
theorem dX9_ofFace_54 : decode cX9_ofFace 54 = .ok (.ifCond .ge 7, 3) := by decide +kernel
theorem dX9_ofFace_57 : decode cX9_ofFace 57 = .ok (.iconst 2, 1) := by decide +kernel
theorem dX9_ofFace_58 : decode cX9_ofFace 58 = .ok (.goto 4, 3) := by decide +kernel
theorem dX9_ofFace_61 : decode cX9_ofFace 61 = .ok (.iconst 0, 1) := by decide +kernel
theorem dX9_ofFace_62 : decode cX9_ofFace 62 = .ok (.ireturn, 1) := by decide +kernel
theorem dX9_ofFace_63 : decode cX9_ofFace 63 = .ok (.iload_n 2, 1) := by decide +kernel
theorem dX9_ofFace_64 : decode cX9_ofFace 64 = .ok (.iconst 4, 1) := by decide +kernel
theorem dX9_ofFace_65 : decode cX9_ofFace 65 = .ok (.if_icmp .ne 19, 3) := by decide +kernel
theorem dX9_ofFace_68 : decode cX9_ofFace 68 = .ok (.lload_n 3, 1) := by decide +kernel
theorem dX9_ofFace_69 : decode cX9_ofFace 69 = .ok (.lconst 0, 1) := by decide +kernel
theorem dX9_ofFace_70 : decode cX9_ofFace 70 = .ok (.lcmp, 1) := by decide +kernel
theorem dX9_ofFace_71 : decode cX9_ofFace 71 = .ok (.ifCond .ge 8, 3) := by decide +kernel
theorem dX9_ofFace_74 : decode cX9_ofFace 74 = .ok (.lload_n 3, 1) := by decide +kernel
theorem dX9_ofFace_75 : decode cX9_ofFace 75 = .ok (.lneg, 1) := by decide +kernel
theorem dX9_ofFace_76 : decode cX9_ofFace 76 = .ok (.goto 4, 3) := by decide +kernel
theorem dX9_ofFace_79 : decode cX9_ofFace 79 = .ok (.lload_n 3, 1) := by decide +kernel
theorem dX9_ofFace_80 : decode cX9_ofFace 80 = .ok (.l2i, 1) := by decide +kernel
theorem dX9_ofFace_81 : decode cX9_ofFace 81 = .ok (.goto 5, 3) := by decide +kernel
theorem dX9_ofFace_84 : decode cX9_ofFace 84 = .ok (.bipush (-2), 2) := by decide +kernel
theorem dX9_ofFace_86 : decode cX9_ofFace 86 = .ok (.ireturn, 1) := by decide +kernel
theorem dX9_ofEdge_0 : decode cX9_ofEdge 0 = .ok (.aload_n 0, 1) := by decide +kernel
theorem dX9_ofEdge_1 : decode cX9_ofEdge 1 = .ok (.iload_n 1, 1) := by decide +kernel
theorem dX9_ofEdge_2 : decode cX9_ofEdge 2 = .ok (.invokevirtual 216, 3) := by decide +kernel
theorem dX9_ofEdge_5 : decode cX9_ofEdge 5 = .ok (.ifCond .ne 5, 3) := by decide +kernel
theorem dX9_ofEdge_8 : decode cX9_ofEdge 8 = .ok (.iconst (-1), 1) := by decide +kernel
theorem dX9_ofEdge_9 : decode cX9_ofEdge 9 = .ok (.ireturn, 1) := by decide +kernel
theorem dX9_ofEdge_10 : decode cX9_ofEdge 10 = .ok (.iload_n 2, 1) := by decide +kernel
theorem dX9_ofEdge_11 : decode cX9_ofEdge 11 = .ok (.tableswitch 106 0 6 #[41, 48, 55, 62, 69, 75, 81], 41) := by decide +kernel
theorem dX9_ofEdge_52 : decode cX9_ofEdge 52 = .ok (.aload_n 0, 1) := by decide +kernel
theorem dX9_ofEdge_53 : decode cX9_ofEdge 53 = .ok (.getfield 38, 3) := by decide +kernel
theorem dX9_ofEdge_56 : decode cX9_ofEdge 56 = .ok (.iload_n 1, 1) := by decide +kernel
theorem dX9_ofEdge_57 : decode cX9_ofEdge 57 = .ok (.iaload, 1) := by decide +kernel
theorem dX9_ofEdge_58 : decode cX9_ofEdge 58 = .ok (.ireturn, 1) := by decide +kernel
theorem dX9_ofEdge_59 : decode cX9_ofEdge 59 = .ok (.aload_n 0, 1) := by decide +kernel
theorem dX9_ofEdge_60 : decode cX9_ofEdge 60 = .ok (.getfield 41, 3) := by decide +kernel
theorem dX9_ofEdge_63 : decode cX9_ofEdge 63 = .ok (.iload_n 1, 1) := by decide +kernel
theorem dX9_ofEdge_64 : decode cX9_ofEdge 64 = .ok (.iaload, 1) := by decide +kernel
theorem dX9_ofEdge_65 : decode cX9_ofEdge 65 = .ok (.ireturn, 1) := by decide +kernel
theorem dX9_ofEdge_66 : decode cX9_ofEdge 66 = .ok (.aload_n 0, 1) := by decide +kernel
theorem dX9_ofEdge_67 : decode cX9_ofEdge 67 = .ok (.getfield 44, 3) := by decide +kernel
theorem dX9_ofEdge_70 : decode cX9_ofEdge 70 = .ok (.iload_n 1, 1) := by decide +kernel
theorem dX9_ofEdge_71 : decode cX9_ofEdge 71 = .ok (.iaload, 1) := by decide +kernel
theorem dX9_ofEdge_72 : decode cX9_ofEdge 72 = .ok (.ireturn, 1) := by decide +kernel
theorem dX9_ofEdge_73 : decode cX9_ofEdge 73 = .ok (.aload_n 0, 1) := by decide +kernel
theorem dX9_ofEdge_74 : decode cX9_ofEdge 74 = .ok (.getfield 47, 3) := by decide +kernel
theorem dX9_ofEdge_77 : decode cX9_ofEdge 77 = .ok (.iload_n 1, 1) := by decide +kernel
theorem dX9_ofEdge_78 : decode cX9_ofEdge 78 = .ok (.iaload, 1) := by decide +kernel
theorem dX9_ofEdge_79 : decode cX9_ofEdge 79 = .ok (.ireturn, 1) := by decide +kernel
theorem dX9_ofEdge_80 : decode cX9_ofEdge 80 = .ok (.aload_n 0, 1) := by decide +kernel
theorem dX9_ofEdge_81 : decode cX9_ofEdge 81 = .ok (.iload_n 1, 1) := by decide +kernel
theorem dX9_ofEdge_82 : decode cX9_ofEdge 82 = .ok (.invokevirtual 203, 3) := by decide +kernel
theorem dX9_ofEdge_85 : decode cX9_ofEdge 85 = .ok (.ireturn, 1) := by decide +kernel
theorem dX9_ofEdge_86 : decode cX9_ofEdge 86 = .ok (.aload_n 0, 1) := by decide +kernel
theorem dX9_ofEdge_87 : decode cX9_ofEdge 87 = .ok (.iload_n 1, 1) := by decide +kernel
theorem dX9_ofEdge_88 : decode cX9_ofEdge 88 = .ok (.invokevirtual 219, 3) := by decide +kernel
theorem dX9_ofEdge_91 : decode cX9_ofEdge 91 = .ok (.ireturn, 1) := by decide +kernel
theorem dX9_ofEdge_92 : decode cX9_ofEdge 92 = .ok (.aload_n 0, 1) := by decide +kernel
theorem dX9_ofEdge_93 : decode cX9_ofEdge 93 = .ok (.aload_n 0, 1) := by decide +kernel
theorem dX9_ofEdge_94 : decode cX9_ofEdge 94 = .ok (.getfield 38, 3) := by decide +kernel
theorem dX9_ofEdge_97 : decode cX9_ofEdge 97 = .ok (.iload_n 1, 1) := by decide +kernel
theorem dX9_ofEdge_98 : decode cX9_ofEdge 98 = .ok (.iaload, 1) := by decide +kernel
theorem dX9_ofEdge_99 : decode cX9_ofEdge 99 = .ok (.aload_n 0, 1) := by decide +kernel
theorem dX9_ofEdge_100 : decode cX9_ofEdge 100 = .ok (.getfield 41, 3) := by decide +kernel
theorem dX9_ofEdge_103 : decode cX9_ofEdge 103 = .ok (.iload_n 1, 1) := by decide +kernel
theorem dX9_ofEdge_104 : decode cX9_ofEdge 104 = .ok (.iaload, 1) := by decide +kernel
theorem dX9_ofEdge_105 : decode cX9_ofEdge 105 = .ok (.invokevirtual 128, 3) := by decide +kernel
theorem dX9_ofEdge_108 : decode cX9_ofEdge 108 = .ok (.ifCond .eq 7, 3) := by decide +kernel
theorem dX9_ofEdge_111 : decode cX9_ofEdge 111 = .ok (.iconst 1, 1) := by decide +kernel
theorem dX9_ofEdge_112 : decode cX9_ofEdge 112 = .ok (.goto 4, 3) := by decide +kernel
theorem dX9_ofEdge_115 : decode cX9_ofEdge 115 = .ok (.iconst 0, 1) := by decide +kernel
theorem dX9_ofEdge_116 : decode cX9_ofEdge 116 = .ok (.ireturn, 1) := by decide +kernel
theorem dX9_ofEdge_117 : decode cX9_ofEdge 117 = .ok (.bipush (-2), 2) := by decide +kernel
theorem dX9_ofEdge_119 : decode cX9_ofEdge 119 = .ok (.ireturn, 1) := by decide +kernel
theorem dX9_edge_0 : decode cX9_edge 0 = .ok (.aload_n 0, 1) := by decide +kernel
theorem dX9_edge_1 : decode cX9_edge 1 = .ok (.iload_n 1, 1) := by decide +kernel
theorem dX9_edge_2 : decode cX9_edge 2 = .ok (.invokevirtual 112, 3) := by decide +kernel
theorem dX9_edge_5 : decode cX9_edge 5 = .ok (.ifCond .eq 11, 3) := by decide +kernel
theorem dX9_edge_8 : decode cX9_edge 8 = .ok (.aload_n 0, 1) := by decide +kernel
theorem dX9_edge_9 : decode cX9_edge 9 = .ok (.iload_n 2, 1) := by decide +kernel
theorem dX9_edge_10 : decode cX9_edge 10 = .ok (.invokevirtual 112, 3) := by decide +kernel
theorem dX9_edge_13 : decode cX9_edge 13 = .ok (.ifCond .ne 5, 3) := by decide +kernel
theorem dX9_edge_16 : decode cX9_edge 16 = .ok (.iconst (-1), 1) := by decide +kernel
theorem dX9_edge_17 : decode cX9_edge 17 = .ok (.ireturn, 1) := by decide +kernel
theorem dX9_edge_18 : decode cX9_edge 18 = .ok (.aload_n 0, 1) := by decide +kernel
theorem dX9_edge_19 : decode cX9_edge 19 = .ok (.invokevirtual 200, 3) := by decide +kernel
theorem dX9_edge_22 : decode cX9_edge 22 = .ok (.iconst 0, 1) := by decide +kernel
theorem dX9_edge_23 : decode cX9_edge 23 = .ok (.istore_n 3, 1) := by decide +kernel
theorem dX9_edge_24 : decode cX9_edge 24 = .ok (.iload_n 3, 1) := by decide +kernel
theorem dX9_edge_25 : decode cX9_edge 25 = .ok (.aload_n 0, 1) := by decide +kernel
theorem dX9_edge_26 : decode cX9_edge 26 = .ok (.getfield 180, 3) := by decide +kernel
theorem dX9_edge_29 : decode cX9_edge 29 = .ok (.if_icmp .ge 51, 3) := by decide +kernel
theorem dX9_edge_32 : decode cX9_edge 32 = .ok (.aload_n 0, 1) := by decide +kernel
theorem dX9_edge_33 : decode cX9_edge 33 = .ok (.getfield 38, 3) := by decide +kernel
theorem dX9_edge_36 : decode cX9_edge 36 = .ok (.iload_n 3, 1) := by decide +kernel
theorem dX9_edge_37 : decode cX9_edge 37 = .ok (.iaload, 1) := by decide +kernel
theorem dX9_edge_38 : decode cX9_edge 38 = .ok (.iload_n 1, 1) := by decide +kernel
theorem dX9_edge_39 : decode cX9_edge 39 = .ok (.if_icmp .ne 13, 3) := by decide +kernel
theorem dX9_edge_42 : decode cX9_edge 42 = .ok (.aload_n 0, 1) := by decide +kernel
theorem dX9_edge_43 : decode cX9_edge 43 = .ok (.getfield 41, 3) := by decide +kernel
theorem dX9_edge_46 : decode cX9_edge 46 = .ok (.iload_n 3, 1) := by decide +kernel
theorem dX9_edge_47 : decode cX9_edge 47 = .ok (.iaload, 1) := by decide +kernel
theorem dX9_edge_48 : decode cX9_edge 48 = .ok (.iload_n 2, 1) := by decide +kernel
theorem dX9_edge_49 : decode cX9_edge 49 = .ok (.if_icmp .eq 23, 3) := by decide +kernel
theorem dX9_edge_52 : decode cX9_edge 52 = .ok (.aload_n 0, 1) := by decide +kernel
theorem dX9_edge_53 : decode cX9_edge 53 = .ok (.getfield 38, 3) := by decide +kernel
theorem dX9_edge_56 : decode cX9_edge 56 = .ok (.iload_n 3, 1) := by decide +kernel
theorem dX9_edge_57 : decode cX9_edge 57 = .ok (.iaload, 1) := by decide +kernel
theorem dX9_edge_58 : decode cX9_edge 58 = .ok (.iload_n 2, 1) := by decide +kernel
theorem dX9_edge_59 : decode cX9_edge 59 = .ok (.if_icmp .ne 15, 3) := by decide +kernel
theorem dX9_edge_62 : decode cX9_edge 62 = .ok (.aload_n 0, 1) := by decide +kernel
theorem dX9_edge_63 : decode cX9_edge 63 = .ok (.getfield 41, 3) := by decide +kernel
theorem dX9_edge_66 : decode cX9_edge 66 = .ok (.iload_n 3, 1) := by decide +kernel
theorem dX9_edge_67 : decode cX9_edge 67 = .ok (.iaload, 1) := by decide +kernel
theorem dX9_edge_68 : decode cX9_edge 68 = .ok (.iload_n 1, 1) := by decide +kernel
theorem dX9_edge_69 : decode cX9_edge 69 = .ok (.if_icmp .ne 5, 3) := by decide +kernel
theorem dX9_edge_72 : decode cX9_edge 72 = .ok (.iload_n 3, 1) := by decide +kernel
theorem dX9_edge_73 : decode cX9_edge 73 = .ok (.ireturn, 1) := by decide +kernel
theorem dX9_edge_74 : decode cX9_edge 74 = .ok (.iinc 3 1, 3) := by decide +kernel
theorem dX9_edge_77 : decode cX9_edge 77 = .ok (.goto (-53), 3) := by decide +kernel
theorem dX9_edge_80 : decode cX9_edge 80 = .ok (.bipush (-9), 2) := by decide +kernel
theorem dX9_edge_82 : decode cX9_edge 82 = .ok (.ireturn, 1) := by decide +kernel
theorem dX9_fraction_0 : decode cX9_fraction 0 = .ok (.lload_n 2, 1) := by decide +kernel
theorem dX9_fraction_1 : decode cX9_fraction 1 = .ok (.lload_n 0, 1) := by decide +kernel
theorem dX9_fraction_2 : decode cX9_fraction 2 = .ok (.invokestatic 169, 3) := by decide +kernel
theorem dX9_fraction_5 : decode cX9_fraction 5 = .ok (.lstore 5, 2) := by decide +kernel
theorem dX9_fraction_7 : decode cX9_fraction 7 = .ok (.iload 4, 2) := by decide +kernel
theorem dX9_fraction_9 : decode cX9_fraction 9 = .ok (.ifCond .ne 10, 3) := by decide +kernel
theorem dX9_fraction_12 : decode cX9_fraction 12 = .ok (.lload_n 0, 1) := by decide +kernel
theorem dX9_fraction_13 : decode cX9_fraction 13 = .ok (.lload 5, 2) := by decide +kernel
theorem dX9_fraction_15 : decode cX9_fraction 15 = .ok (.ldiv, 1) := by decide +kernel
theorem dX9_fraction_16 : decode cX9_fraction 16 = .ok (.goto 7, 3) := by decide +kernel
theorem dX9_fraction_19 : decode cX9_fraction 19 = .ok (.lload_n 2, 1) := by decide +kernel
theorem dX9_fraction_20 : decode cX9_fraction 20 = .ok (.lload 5, 2) := by decide +kernel
theorem dX9_fraction_22 : decode cX9_fraction 22 = .ok (.ldiv, 1) := by decide +kernel
theorem dX9_fraction_23 : decode cX9_fraction 23 = .ok (.l2i, 1) := by decide +kernel
theorem dX9_fraction_24 : decode cX9_fraction 24 = .ok (.ireturn, 1) := by decide +kernel
theorem dX9_stretch_0 : decode cX9_stretch 0 = .ok (.aload_n 0, 1) := by decide +kernel
theorem dX9_stretch_1 : decode cX9_stretch 1 = .ok (.iload_n 1, 1) := by decide +kernel
theorem dX9_stretch_2 : decode cX9_stretch 2 = .ok (.invokevirtual 216, 3) := by decide +kernel
theorem dX9_stretch_5 : decode cX9_stretch 5 = .ok (.ifCond .eq 11, 3) := by decide +kernel
theorem dX9_stretch_8 : decode cX9_stretch 8 = .ok (.aload_n 0, 1) := by decide +kernel
theorem dX9_stretch_9 : decode cX9_stretch 9 = .ok (.iload_n 2, 1) := by decide +kernel
theorem dX9_stretch_10 : decode cX9_stretch 10 = .ok (.invokevirtual 213, 3) := by decide +kernel
theorem dX9_stretch_13 : decode cX9_stretch 13 = .ok (.ifCond .ne 5, 3) := by decide +kernel
theorem dX9_stretch_16 : decode cX9_stretch 16 = .ok (.iconst (-1), 1) := by decide +kernel
theorem dX9_stretch_17 : decode cX9_stretch 17 = .ok (.ireturn, 1) := by decide +kernel
theorem dX9_stretch_18 : decode cX9_stretch 18 = .ok (.iload_n 3, 1) := by decide +kernel
theorem dX9_stretch_19 : decode cX9_stretch 19 = .ok (.iconst 0, 1) := by decide +kernel
theorem dX9_stretch_20 : decode cX9_stretch 20 = .ok (.iconst 3, 1) := by decide +kernel
theorem dX9_stretch_21 : decode cX9_stretch 21 = .ok (.invokestatic 82, 3) := by decide +kernel
theorem dX9_stretch_24 : decode cX9_stretch 24 = .ok (.ifCond .ne 6, 3) := by decide +kernel
theorem dX9_stretch_27 : decode cX9_stretch 27 = .ok (.bipush (-2), 2) := by decide +kernel
theorem dX9_stretch_29 : decode cX9_stretch 29 = .ok (.ireturn, 1) := by decide +kernel
theorem dX9_stretch_30 : decode cX9_stretch 30 = .ok (.aload_n 0, 1) := by decide +kernel
theorem dX9_stretch_31 : decode cX9_stretch 31 = .ok (.iload_n 1, 1) := by decide +kernel
theorem dX9_stretch_32 : decode cX9_stretch 32 = .ok (.iload_n 2, 1) := by decide +kernel
theorem dX9_stretch_33 : decode cX9_stretch 33 = .ok (.invokevirtual 173, 3) := by decide +kernel
theorem dX9_stretch_36 : decode cX9_stretch 36 = .ok (.ifCond .ne 6, 3) := by decide +kernel
theorem dX9_stretch_39 : decode cX9_stretch 39 = .ok (.bipush (-9), 2) := by decide +kernel
theorem dX9_stretch_41 : decode cX9_stretch 41 = .ok (.ireturn, 1) := by decide +kernel
theorem dX9_stretch_42 : decode cX9_stretch 42 = .ok (.iload_n 3, 1) := by decide +kernel
theorem dX9_stretch_43 : decode cX9_stretch 43 = .ok (.iconst 2, 1) := by decide +kernel
theorem dX9_stretch_44 : decode cX9_stretch 44 = .ok (.if_icmp .ge 18, 3) := by decide +kernel
theorem dX9_stretch_47 : decode cX9_stretch 47 = .ok (.aload_n 0, 1) := by decide +kernel
theorem dX9_stretch_48 : decode cX9_stretch 48 = .ok (.getfield 156, 3) := by decide +kernel
theorem dX9_stretch_51 : decode cX9_stretch 51 = .ok (.aload_n 0, 1) := by decide +kernel
theorem dX9_stretch_52 : decode cX9_stretch 52 = .ok (.getfield 160, 3) := by decide +kernel
theorem dX9_stretch_55 : decode cX9_stretch 55 = .ok (.iload_n 3, 1) := by decide +kernel
theorem dX9_stretch_56 : decode cX9_stretch 56 = .ok (.invokestatic 222, 3) := by decide +kernel
theorem dX9_stretch_59 : decode cX9_stretch 59 = .ok (.goto 17, 3) := by decide +kernel
theorem dX9_stretch_62 : decode cX9_stretch 62 = .ok (.aload_n 0, 1) := by decide +kernel
theorem dX9_stretch_63 : decode cX9_stretch 63 = .ok (.getfield 163, 3) := by decide +kernel
theorem dX9_stretch_66 : decode cX9_stretch 66 = .ok (.aload_n 0, 1) := by decide +kernel
theorem dX9_stretch_67 : decode cX9_stretch 67 = .ok (.getfield 166, 3) := by decide +kernel
theorem dX9_stretch_70 : decode cX9_stretch 70 = .ok (.iload_n 3, 1) := by decide +kernel
theorem dX9_stretch_71 : decode cX9_stretch 71 = .ok (.iconst 2, 1) := by decide +kernel
theorem dX9_stretch_72 : decode cX9_stretch 72 = .ok (.isub, 1) := by decide +kernel
theorem dX9_stretch_73 : decode cX9_stretch 73 = .ok (.invokestatic 222, 3) := by decide +kernel
theorem dX9_stretch_76 : decode cX9_stretch 76 = .ok (.ireturn, 1) := by decide +kernel
theorem dX9_hides_0 : decode cX9_hides 0 = .ok (.iconst 0, 1) := by decide +kernel
theorem dX9_hides_1 : decode cX9_hides 1 = .ok (.istore 5, 2) := by decide +kernel
theorem dX9_hides_3 : decode cX9_hides 3 = .ok (.iload 5, 2) := by decide +kernel
theorem dX9_hides_5 : decode cX9_hides 5 = .ok (.iconst 4, 1) := by decide +kernel
theorem dX9_hides_6 : decode cX9_hides 6 = .ok (.if_icmp .ge 52, 3) := by decide +kernel
theorem dX9_hides_9 : decode cX9_hides 9 = .ok (.aload_n 0, 1) := by decide +kernel
theorem dX9_hides_10 : decode cX9_hides 10 = .ok (.iload_n 2, 1) := by decide +kernel
theorem dX9_hides_11 : decode cX9_hides 11 = .ok (.iload 5, 2) := by decide +kernel
theorem dX9_hides_13 : decode cX9_hides 13 = .ok (.aload_n 0, 1) := by decide +kernel
theorem dX9_hides_14 : decode cX9_hides 14 = .ok (.getfield 38, 3) := by decide +kernel
theorem dX9_hides_17 : decode cX9_hides 17 = .ok (.iload_n 1, 1) := by decide +kernel
theorem dX9_hides_18 : decode cX9_hides 18 = .ok (.iaload, 1) := by decide +kernel
theorem dX9_hides_19 : decode cX9_hides 19 = .ok (.invokevirtual 149, 3) := by decide +kernel
theorem dX9_hides_22 : decode cX9_hides 22 = .ok (.iload 4, 2) := by decide +kernel
theorem dX9_hides_24 : decode cX9_hides 24 = .ok (.iload_n 3, 1) := by decide +kernel
theorem dX9_hides_25 : decode cX9_hides 25 = .ok (.isub, 1) := by decide +kernel
theorem dX9_hides_26 : decode cX9_hides 26 = .ok (.i2l, 1) := by decide +kernel
theorem dX9_hides_27 : decode cX9_hides 27 = .ok (.lmul, 1) := by decide +kernel
theorem dX9_hides_28 : decode cX9_hides 28 = .ok (.aload_n 0, 1) := by decide +kernel
theorem dX9_hides_29 : decode cX9_hides 29 = .ok (.iload_n 2, 1) := by decide +kernel
theorem dX9_hides_30 : decode cX9_hides 30 = .ok (.iload 5, 2) := by decide +kernel
theorem dX9_hides_32 : decode cX9_hides 32 = .ok (.aload_n 0, 1) := by decide +kernel
theorem dX9_hides_33 : decode cX9_hides 33 = .ok (.getfield 41, 3) := by decide +kernel
theorem dX9_hides_36 : decode cX9_hides 36 = .ok (.iload_n 1, 1) := by decide +kernel
theorem dX9_hides_37 : decode cX9_hides 37 = .ok (.iaload, 1) := by decide +kernel
theorem dX9_hides_38 : decode cX9_hides 38 = .ok (.invokevirtual 149, 3) := by decide +kernel
theorem dX9_hides_41 : decode cX9_hides 41 = .ok (.iload_n 3, 1) := by decide +kernel
theorem dX9_hides_42 : decode cX9_hides 42 = .ok (.i2l, 1) := by decide +kernel
theorem dX9_hides_43 : decode cX9_hides 43 = .ok (.lmul, 1) := by decide +kernel
theorem dX9_hides_44 : decode cX9_hides 44 = .ok (.ladd, 1) := by decide +kernel
theorem dX9_hides_45 : decode cX9_hides 45 = .ok (.lconst 0, 1) := by decide +kernel
theorem dX9_hides_46 : decode cX9_hides 46 = .ok (.lcmp, 1) := by decide +kernel
theorem dX9_hides_47 : decode cX9_hides 47 = .ok (.ifCond .gt 5, 3) := by decide +kernel
theorem dX9_hides_50 : decode cX9_hides 50 = .ok (.iconst 0, 1) := by decide +kernel
theorem dX9_hides_51 : decode cX9_hides 51 = .ok (.ireturn, 1) := by decide +kernel
theorem dX9_hides_52 : decode cX9_hides 52 = .ok (.iinc 5 1, 3) := by decide +kernel
theorem dX9_hides_55 : decode cX9_hides 55 = .ok (.goto (-52), 3) := by decide +kernel
theorem dX9_hides_58 : decode cX9_hides 58 = .ok (.aload_n 0, 1) := by decide +kernel
theorem dX9_hides_59 : decode cX9_hides 59 = .ok (.iload_n 2, 1) := by decide +kernel
theorem dX9_hides_60 : decode cX9_hides 60 = .ok (.invokevirtual 145, 3) := by decide +kernel
theorem dX9_hides_63 : decode cX9_hides 63 = .ok (.lconst 0, 1) := by decide +kernel
theorem dX9_hides_64 : decode cX9_hides 64 = .ok (.lcmp, 1) := by decide +kernel
theorem dX9_hides_65 : decode cX9_hides 65 = .ok (.ifCond .eq 7, 3) := by decide +kernel
theorem dX9_hides_68 : decode cX9_hides 68 = .ok (.iconst 1, 1) := by decide +kernel
theorem dX9_hides_69 : decode cX9_hides 69 = .ok (.goto 4, 3) := by decide +kernel
theorem dX9_hides_72 : decode cX9_hides 72 = .ok (.iconst 0, 1) := by decide +kernel
theorem dX9_hides_73 : decode cX9_hides 73 = .ok (.ireturn, 1) := by decide +kernel
theorem dX9_hidden_0 : decode cX9_hidden 0 = .ok (.aload_n 0, 1) := by decide +kernel
theorem dX9_hidden_1 : decode cX9_hidden 1 = .ok (.iload_n 1, 1) := by decide +kernel
theorem dX9_hidden_2 : decode cX9_hidden 2 = .ok (.invokevirtual 216, 3) := by decide +kernel
theorem dX9_hidden_5 : decode cX9_hidden 5 = .ok (.ifCond .ne 5, 3) := by decide +kernel
theorem dX9_hidden_8 : decode cX9_hidden 8 = .ok (.iconst (-1), 1) := by decide +kernel
theorem dX9_hidden_9 : decode cX9_hidden 9 = .ok (.ireturn, 1) := by decide +kernel
theorem dX9_hidden_10 : decode cX9_hidden 10 = .ok (.iload_n 3, 1) := by decide +kernel
theorem dX9_hidden_11 : decode cX9_hidden 11 = .ok (.iconst 1, 1) := by decide +kernel
theorem dX9_hidden_12 : decode cX9_hidden 12 = .ok (.sipush 1000, 3) := by decide +kernel
theorem dX9_hidden_15 : decode cX9_hidden 15 = .ok (.invokestatic 82, 3) := by decide +kernel
theorem dX9_hidden_18 : decode cX9_hidden 18 = .ok (.ifCond .eq 12, 3) := by decide +kernel
theorem dX9_hidden_21 : decode cX9_hidden 21 = .ok (.iload_n 2, 1) := by decide +kernel
theorem dX9_hidden_22 : decode cX9_hidden 22 = .ok (.iconst 0, 1) := by decide +kernel
theorem dX9_hidden_23 : decode cX9_hidden 23 = .ok (.iload_n 3, 1) := by decide +kernel
theorem dX9_hidden_24 : decode cX9_hidden 24 = .ok (.invokestatic 82, 3) := by decide +kernel
theorem dX9_hidden_27 : decode cX9_hidden 27 = .ok (.ifCond .ne 6, 3) := by decide +kernel
theorem dX9_hidden_30 : decode cX9_hidden 30 = .ok (.bipush (-2), 2) := by decide +kernel
theorem dX9_hidden_32 : decode cX9_hidden 32 = .ok (.ireturn, 1) := by decide +kernel
theorem dX9_hidden_33 : decode cX9_hidden 33 = .ok (.iconst 0, 1) := by decide +kernel
theorem dX9_hidden_34 : decode cX9_hidden 34 = .ok (.istore 4, 2) := by decide +kernel
theorem dX9_hidden_36 : decode cX9_hidden 36 = .ok (.iconst 0, 1) := by decide +kernel
theorem dX9_hidden_37 : decode cX9_hidden 37 = .ok (.istore 5, 2) := by decide +kernel
theorem dX9_hidden_39 : decode cX9_hidden 39 = .ok (.iload 5, 2) := by decide +kernel
theorem dX9_hidden_41 : decode cX9_hidden 41 = .ok (.aload_n 0, 1) := by decide +kernel
theorem dX9_hidden_42 : decode cX9_hidden 42 = .ok (.getfield 86, 3) := by decide +kernel
theorem dX9_hidden_45 : decode cX9_hidden 45 = .ok (.if_icmp .ge 31, 3) := by decide +kernel
theorem dX9_hidden_48 : decode cX9_hidden 48 = .ok (.iload 4, 2) := by decide +kernel
theorem dX9_hidden_50 : decode cX9_hidden 50 = .ok (.aload_n 0, 1) := by decide +kernel
theorem dX9_hidden_51 : decode cX9_hidden 51 = .ok (.iload_n 1, 1) := by decide +kernel
theorem dX9_hidden_52 : decode cX9_hidden 52 = .ok (.iload 5, 2) := by decide +kernel
theorem dX9_hidden_54 : decode cX9_hidden 54 = .ok (.iload_n 2, 1) := by decide +kernel
theorem dX9_hidden_55 : decode cX9_hidden 55 = .ok (.iload_n 3, 1) := by decide +kernel
theorem dX9_hidden_56 : decode cX9_hidden 56 = .ok (.invokevirtual 226, 3) := by decide +kernel
theorem dX9_hidden_59 : decode cX9_hidden 59 = .ok (.ifCond .eq 7, 3) := by decide +kernel
theorem dX9_hidden_62 : decode cX9_hidden 62 = .ok (.iconst 1, 1) := by decide +kernel
theorem dX9_hidden_63 : decode cX9_hidden 63 = .ok (.goto 4, 3) := by decide +kernel
theorem dX9_hidden_66 : decode cX9_hidden 66 = .ok (.iconst 0, 1) := by decide +kernel
theorem dX9_hidden_67 : decode cX9_hidden 67 = .ok (.iadd, 1) := by decide +kernel
theorem dX9_hidden_68 : decode cX9_hidden 68 = .ok (.istore 4, 2) := by decide +kernel
theorem dX9_hidden_70 : decode cX9_hidden 70 = .ok (.iinc 5 1, 3) := by decide +kernel
theorem dX9_hidden_73 : decode cX9_hidden 73 = .ok (.goto (-34), 3) := by decide +kernel
theorem dX9_hidden_76 : decode cX9_hidden 76 = .ok (.iload 4, 2) := by decide +kernel
theorem dX9_hidden_78 : decode cX9_hidden 78 = .ok (.ireturn, 1) := by decide +kernel
theorem dX9_piece_0 : decode cX9_piece 0 = .ok (.aload_n 0, 1) := by decide +kernel
theorem dX9_piece_1 : decode cX9_piece 1 = .ok (.iload_n 1, 1) := by decide +kernel
theorem dX9_piece_2 : decode cX9_piece 2 = .ok (.invokevirtual 216, 3) := by decide +kernel
theorem dX9_piece_5 : decode cX9_piece 5 = .ok (.ifCond .eq 18, 3) := by decide +kernel
theorem dX9_piece_8 : decode cX9_piece 8 = .ok (.iload_n 2, 1) := by decide +kernel
theorem dX9_piece_9 : decode cX9_piece 9 = .ok (.iconst 0, 1) := by decide +kernel
theorem dX9_piece_10 : decode cX9_piece 10 = .ok (.aload_n 0, 1) := by decide +kernel
theorem dX9_piece_11 : decode cX9_piece 11 = .ok (.iload_n 1, 1) := by decide +kernel
theorem dX9_piece_12 : decode cX9_piece 12 = .ok (.invokevirtual 203, 3) := by decide +kernel
theorem dX9_piece_15 : decode cX9_piece 15 = .ok (.iconst 1, 1) := by decide +kernel
theorem dX9_piece_16 : decode cX9_piece 16 = .ok (.isub, 1) := by decide +kernel
theorem dX9_piece_17 : decode cX9_piece 17 = .ok (.invokestatic 82, 3) := by decide +kernel
theorem dX9_piece_20 : decode cX9_piece 20 = .ok (.ifCond .ne 5, 3) := by decide +kernel
theorem dX9_piece_23 : decode cX9_piece 23 = .ok (.iconst (-1), 1) := by decide +kernel
theorem dX9_piece_24 : decode cX9_piece 24 = .ok (.ireturn, 1) := by decide +kernel
theorem dX9_piece_25 : decode cX9_piece 25 = .ok (.bipush 50, 2) := by decide +kernel
theorem dX9_piece_27 : decode cX9_piece 27 = .ok (.iload_n 1, 1) := by decide +kernel
theorem dX9_piece_28 : decode cX9_piece 28 = .ok (.imul, 1) := by decide +kernel
theorem dX9_piece_29 : decode cX9_piece 29 = .ok (.iload_n 2, 1) := by decide +kernel
theorem dX9_piece_30 : decode cX9_piece 30 = .ok (.iadd, 1) := by decide +kernel
theorem dX9_piece_31 : decode cX9_piece 31 = .ok (.istore 4, 2) := by decide +kernel
theorem dX9_piece_33 : decode cX9_piece 33 = .ok (.iload_n 3, 1) := by decide +kernel
theorem dX9_piece_34 : decode cX9_piece 34 = .ok (.tableswitch 82 0 4 #[34, 43, 52, 63, 74], 34) := by decide +kernel
theorem dX9_piece_68 : decode cX9_piece 68 = .ok (.aload_n 0, 1) := by decide +kernel
theorem dX9_piece_69 : decode cX9_piece 69 = .ok (.getfield 53, 3) := by decide +kernel
theorem dX9_piece_72 : decode cX9_piece 72 = .ok (.iload 4, 2) := by decide +kernel
theorem dX9_piece_74 : decode cX9_piece 74 = .ok (.laload, 1) := by decide +kernel
theorem dX9_piece_75 : decode cX9_piece 75 = .ok (.l2i, 1) := by decide +kernel
theorem dX9_piece_76 : decode cX9_piece 76 = .ok (.ireturn, 1) := by decide +kernel
theorem dX9_piece_77 : decode cX9_piece 77 = .ok (.aload_n 0, 1) := by decide +kernel
theorem dX9_piece_78 : decode cX9_piece 78 = .ok (.getfield 57, 3) := by decide +kernel
theorem dX9_piece_81 : decode cX9_piece 81 = .ok (.iload 4, 2) := by decide +kernel
theorem dX9_piece_83 : decode cX9_piece 83 = .ok (.laload, 1) := by decide +kernel
theorem dX9_piece_84 : decode cX9_piece 84 = .ok (.l2i, 1) := by decide +kernel
theorem dX9_piece_85 : decode cX9_piece 85 = .ok (.ireturn, 1) := by decide +kernel
theorem dX9_piece_86 : decode cX9_piece 86 = .ok (.aload_n 0, 1) := by decide +kernel
theorem dX9_piece_87 : decode cX9_piece 87 = .ok (.getfield 53, 3) := by decide +kernel
theorem dX9_piece_90 : decode cX9_piece 90 = .ok (.iload 4, 2) := by decide +kernel
theorem dX9_piece_92 : decode cX9_piece 92 = .ok (.iconst 1, 1) := by decide +kernel
theorem dX9_piece_93 : decode cX9_piece 93 = .ok (.iadd, 1) := by decide +kernel
theorem dX9_piece_94 : decode cX9_piece 94 = .ok (.laload, 1) := by decide +kernel
theorem dX9_piece_95 : decode cX9_piece 95 = .ok (.l2i, 1) := by decide +kernel
theorem dX9_piece_96 : decode cX9_piece 96 = .ok (.ireturn, 1) := by decide +kernel
theorem dX9_piece_97 : decode cX9_piece 97 = .ok (.aload_n 0, 1) := by decide +kernel
theorem dX9_piece_98 : decode cX9_piece 98 = .ok (.getfield 57, 3) := by decide +kernel
theorem dX9_piece_101 : decode cX9_piece 101 = .ok (.iload 4, 2) := by decide +kernel
theorem dX9_piece_103 : decode cX9_piece 103 = .ok (.iconst 1, 1) := by decide +kernel
theorem dX9_piece_104 : decode cX9_piece 104 = .ok (.iadd, 1) := by decide +kernel
theorem dX9_piece_105 : decode cX9_piece 105 = .ok (.laload, 1) := by decide +kernel
theorem dX9_piece_106 : decode cX9_piece 106 = .ok (.l2i, 1) := by decide +kernel
theorem dX9_piece_107 : decode cX9_piece 107 = .ok (.ireturn, 1) := by decide +kernel
theorem dX9_piece_108 : decode cX9_piece 108 = .ok (.aload_n 0, 1) := by decide +kernel
theorem dX9_piece_109 : decode cX9_piece 109 = .ok (.getfield 60, 3) := by decide +kernel
theorem dX9_piece_112 : decode cX9_piece 112 = .ok (.iload 4, 2) := by decide +kernel
theorem dX9_piece_114 : decode cX9_piece 114 = .ok (.iaload, 1) := by decide +kernel
theorem dX9_piece_115 : decode cX9_piece 115 = .ok (.ireturn, 1) := by decide +kernel
theorem dX9_piece_116 : decode cX9_piece 116 = .ok (.bipush (-2), 2) := by decide +kernel
theorem dX9_piece_118 : decode cX9_piece 118 = .ok (.ireturn, 1) := by decide +kernel
theorem dX9_cross_0 : decode cX9_cross 0 = .ok (.aload_n 0, 1) := by decide +kernel
theorem dX9_cross_1 : decode cX9_cross 1 = .ok (.getfield 38, 3) := by decide +kernel
theorem dX9_cross_4 : decode cX9_cross 4 = .ok (.iload_n 1, 1) := by decide +kernel
theorem dX9_cross_5 : decode cX9_cross 5 = .ok (.iaload, 1) := by decide +kernel
theorem dX9_cross_6 : decode cX9_cross 6 = .ok (.istore_n 3, 1) := by decide +kernel
theorem dX9_cross_7 : decode cX9_cross 7 = .ok (.aload_n 0, 1) := by decide +kernel
theorem dX9_cross_8 : decode cX9_cross 8 = .ok (.getfield 41, 3) := by decide +kernel
theorem dX9_cross_11 : decode cX9_cross 11 = .ok (.iload_n 1, 1) := by decide +kernel
theorem dX9_cross_12 : decode cX9_cross 12 = .ok (.iaload, 1) := by decide +kernel
theorem dX9_cross_13 : decode cX9_cross 13 = .ok (.istore 4, 2) := by decide +kernel
theorem dX9_cross_15 : decode cX9_cross 15 = .ok (.aload_n 0, 1) := by decide +kernel
theorem dX9_cross_16 : decode cX9_cross 16 = .ok (.getfield 38, 3) := by decide +kernel
theorem dX9_cross_19 : decode cX9_cross 19 = .ok (.iload_n 2, 1) := by decide +kernel
theorem dX9_cross_20 : decode cX9_cross 20 = .ok (.iaload, 1) := by decide +kernel
theorem dX9_cross_21 : decode cX9_cross 21 = .ok (.istore 5, 2) := by decide +kernel
theorem dX9_cross_23 : decode cX9_cross 23 = .ok (.aload_n 0, 1) := by decide +kernel
theorem dX9_cross_24 : decode cX9_cross 24 = .ok (.getfield 41, 3) := by decide +kernel
theorem dX9_cross_27 : decode cX9_cross 27 = .ok (.iload_n 2, 1) := by decide +kernel
theorem dX9_cross_28 : decode cX9_cross 28 = .ok (.iaload, 1) := by decide +kernel
theorem dX9_cross_29 : decode cX9_cross 29 = .ok (.istore 6, 2) := by decide +kernel
theorem dX9_cross_31 : decode cX9_cross 31 = .ok (.iload_n 3, 1) := by decide +kernel
theorem dX9_cross_32 : decode cX9_cross 32 = .ok (.iload 5, 2) := by decide +kernel
theorem dX9_cross_34 : decode cX9_cross 34 = .ok (.if_icmp .eq 23, 3) := by decide +kernel
theorem dX9_cross_37 : decode cX9_cross 37 = .ok (.iload_n 3, 1) := by decide +kernel
theorem dX9_cross_38 : decode cX9_cross 38 = .ok (.iload 6, 2) := by decide +kernel
theorem dX9_cross_40 : decode cX9_cross 40 = .ok (.if_icmp .eq 17, 3) := by decide +kernel
theorem dX9_cross_43 : decode cX9_cross 43 = .ok (.iload 4, 2) := by decide +kernel
theorem dX9_cross_45 : decode cX9_cross 45 = .ok (.iload 5, 2) := by decide +kernel
theorem dX9_cross_47 : decode cX9_cross 47 = .ok (.if_icmp .eq 10, 3) := by decide +kernel
theorem dX9_cross_50 : decode cX9_cross 50 = .ok (.iload 4, 2) := by decide +kernel
theorem dX9_cross_52 : decode cX9_cross 52 = .ok (.iload 6, 2) := by decide +kernel
theorem dX9_cross_54 : decode cX9_cross 54 = .ok (.if_icmp .ne 5, 3) := by decide +kernel
theorem dX9_cross_57 : decode cX9_cross 57 = .ok (.iconst 0, 1) := by decide +kernel
theorem dX9_cross_58 : decode cX9_cross 58 = .ok (.ireturn, 1) := by decide +kernel
theorem dX9_cross_59 : decode cX9_cross 59 = .ok (.aload_n 0, 1) := by decide +kernel
theorem dX9_cross_60 : decode cX9_cross 60 = .ok (.getfield 7, 3) := by decide +kernel
theorem dX9_cross_63 : decode cX9_cross 63 = .ok (.iload 6, 2) := by decide +kernel
theorem dX9_cross_65 : decode cX9_cross 65 = .ok (.iaload, 1) := by decide +kernel
theorem dX9_cross_66 : decode cX9_cross 66 = .ok (.aload_n 0, 1) := by decide +kernel
theorem dX9_cross_67 : decode cX9_cross 67 = .ok (.getfield 7, 3) := by decide +kernel
theorem dX9_cross_70 : decode cX9_cross 70 = .ok (.iload 5, 2) := by decide +kernel
theorem dX9_cross_72 : decode cX9_cross 72 = .ok (.iaload, 1) := by decide +kernel
theorem dX9_cross_73 : decode cX9_cross 73 = .ok (.isub, 1) := by decide +kernel
theorem dX9_cross_74 : decode cX9_cross 74 = .ok (.istore 7, 2) := by decide +kernel
theorem dX9_cross_76 : decode cX9_cross 76 = .ok (.aload_n 0, 1) := by decide +kernel
theorem dX9_cross_77 : decode cX9_cross 77 = .ok (.getfield 13, 3) := by decide +kernel
theorem dX9_cross_80 : decode cX9_cross 80 = .ok (.iload 6, 2) := by decide +kernel
theorem dX9_cross_82 : decode cX9_cross 82 = .ok (.iaload, 1) := by decide +kernel
theorem dX9_cross_83 : decode cX9_cross 83 = .ok (.aload_n 0, 1) := by decide +kernel
theorem dX9_cross_84 : decode cX9_cross 84 = .ok (.getfield 13, 3) := by decide +kernel
theorem dX9_cross_87 : decode cX9_cross 87 = .ok (.iload 5, 2) := by decide +kernel
theorem dX9_cross_89 : decode cX9_cross 89 = .ok (.iaload, 1) := by decide +kernel
theorem dX9_cross_90 : decode cX9_cross 90 = .ok (.isub, 1) := by decide +kernel
theorem dX9_cross_91 : decode cX9_cross 91 = .ok (.istore 8, 2) := by decide +kernel
theorem dX9_cross_93 : decode cX9_cross 93 = .ok (.aload_n 0, 1) := by decide +kernel
theorem dX9_cross_94 : decode cX9_cross 94 = .ok (.getfield 16, 3) := by decide +kernel
theorem dX9_cross_97 : decode cX9_cross 97 = .ok (.iload 6, 2) := by decide +kernel
theorem dX9_cross_99 : decode cX9_cross 99 = .ok (.iaload, 1) := by decide +kernel
theorem dX9_cross_100 : decode cX9_cross 100 = .ok (.aload_n 0, 1) := by decide +kernel
theorem dX9_cross_101 : decode cX9_cross 101 = .ok (.getfield 16, 3) := by decide +kernel
theorem dX9_cross_104 : decode cX9_cross 104 = .ok (.iload 5, 2) := by decide +kernel
theorem dX9_cross_106 : decode cX9_cross 106 = .ok (.iaload, 1) := by decide +kernel
theorem dX9_cross_107 : decode cX9_cross 107 = .ok (.isub, 1) := by decide +kernel
theorem dX9_cross_108 : decode cX9_cross 108 = .ok (.istore 9, 2) := by decide +kernel
theorem dX9_cross_110 : decode cX9_cross 110 = .ok (.aload_n 0, 1) := by decide +kernel
theorem dX9_cross_111 : decode cX9_cross 111 = .ok (.getfield 7, 3) := by decide +kernel
theorem dX9_cross_114 : decode cX9_cross 114 = .ok (.iload 5, 2) := by decide +kernel
theorem dX9_cross_116 : decode cX9_cross 116 = .ok (.iaload, 1) := by decide +kernel
theorem dX9_cross_117 : decode cX9_cross 117 = .ok (.aload_n 0, 1) := by decide +kernel
theorem dX9_cross_118 : decode cX9_cross 118 = .ok (.getfield 7, 3) := by decide +kernel
theorem dX9_cross_121 : decode cX9_cross 121 = .ok (.iload_n 3, 1) := by decide +kernel
theorem dX9_cross_122 : decode cX9_cross 122 = .ok (.iaload, 1) := by decide +kernel
theorem dX9_cross_123 : decode cX9_cross 123 = .ok (.isub, 1) := by decide +kernel
theorem dX9_cross_124 : decode cX9_cross 124 = .ok (.istore 10, 2) := by decide +kernel
theorem dX9_cross_126 : decode cX9_cross 126 = .ok (.aload_n 0, 1) := by decide +kernel
theorem dX9_cross_127 : decode cX9_cross 127 = .ok (.getfield 13, 3) := by decide +kernel
theorem dX9_cross_130 : decode cX9_cross 130 = .ok (.iload 5, 2) := by decide +kernel
theorem dX9_cross_132 : decode cX9_cross 132 = .ok (.iaload, 1) := by decide +kernel
theorem dX9_cross_133 : decode cX9_cross 133 = .ok (.aload_n 0, 1) := by decide +kernel
theorem dX9_cross_134 : decode cX9_cross 134 = .ok (.getfield 13, 3) := by decide +kernel
theorem dX9_cross_137 : decode cX9_cross 137 = .ok (.iload_n 3, 1) := by decide +kernel
theorem dX9_cross_138 : decode cX9_cross 138 = .ok (.iaload, 1) := by decide +kernel
theorem dX9_cross_139 : decode cX9_cross 139 = .ok (.isub, 1) := by decide +kernel
theorem dX9_cross_140 : decode cX9_cross 140 = .ok (.istore 11, 2) := by decide +kernel
theorem dX9_cross_142 : decode cX9_cross 142 = .ok (.aload_n 0, 1) := by decide +kernel
theorem dX9_cross_143 : decode cX9_cross 143 = .ok (.getfield 16, 3) := by decide +kernel
theorem dX9_cross_146 : decode cX9_cross 146 = .ok (.iload 5, 2) := by decide +kernel
theorem dX9_cross_148 : decode cX9_cross 148 = .ok (.iaload, 1) := by decide +kernel
theorem dX9_cross_149 : decode cX9_cross 149 = .ok (.aload_n 0, 1) := by decide +kernel
theorem dX9_cross_150 : decode cX9_cross 150 = .ok (.getfield 16, 3) := by decide +kernel
theorem dX9_cross_153 : decode cX9_cross 153 = .ok (.iload_n 3, 1) := by decide +kernel
theorem dX9_cross_154 : decode cX9_cross 154 = .ok (.iaload, 1) := by decide +kernel
theorem dX9_cross_155 : decode cX9_cross 155 = .ok (.isub, 1) := by decide +kernel
theorem dX9_cross_156 : decode cX9_cross 156 = .ok (.istore 12, 2) := by decide +kernel
theorem dX9_cross_158 : decode cX9_cross 158 = .ok (.aload_n 0, 1) := by decide +kernel
theorem dX9_cross_159 : decode cX9_cross 159 = .ok (.aload_n 0, 1) := by decide +kernel
