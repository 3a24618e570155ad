theorem dX8_block_78 : decode cX8_block 78 = .ok (.iconst 2, 1) := by decide +kernel
theorem dX8_block_79 : decode cX8_block 79 = .ok (.invokestatic 116, 3) := by decide +kernel
theorem dX8_block_82 : decode cX8_block 82 = .ok (.iload 6, 2) := by decide +kernel
theorem dX8_block_84 : decode cX8_block 84 = .ok (.imul, 1) := by decide +kernel
theorem dX8_block_85 : decode cX8_block 85 = .ok (.iadd, 1) := by decide +kernel
theorem dX8_block_86 : decode cX8_block 86 = .ok (.invokevirtual 73, 3) := by decide +kernel
theorem dX8_block_89 : decode cX8_block 89 = .ok (.iastore, 1) := by decide +kernel
theorem dX8_block_90 : decode cX8_block 90 = .ok (.aload_n 0, 1) := by decide +kernel
theorem dX8_block_91 : decode cX8_block 91 = .ok (.getfield 58, 3) := by decide +kernel
theorem dX8_block_94 : decode cX8_block 94 = .ok (.iload 8, 2) := by decide +kernel
theorem dX8_block_96 : decode cX8_block 96 = .ok (.iaload, 1) := by decide +kernel
theorem dX8_block_97 : decode cX8_block 97 = .ok (.ifCond .ge 6, 3) := by decide +kernel
theorem dX8_block_100 : decode cX8_block 100 = .ok (.iinc 7 1, 3) := by decide +kernel
theorem dX8_block_103 : decode cX8_block 103 = .ok (.iinc 8 1, 3) := by decide +kernel
theorem dX8_block_106 : decode cX8_block 106 = .ok (.goto (-70), 3) := by decide +kernel
theorem dX8_block_109 : decode cX8_block 109 = .ok (.aload_n 0, 1) := by decide +kernel
theorem dX8_block_110 : decode cX8_block 110 = .ok (.invokevirtual 119, 3) := by decide +kernel
theorem dX8_block_113 : decode cX8_block 113 = .ok (.ifCond .eq 6, 3) := by decide +kernel
theorem dX8_block_116 : decode cX8_block 116 = .ok (.bipush (-3), 2) := by decide +kernel
theorem dX8_block_118 : decode cX8_block 118 = .ok (.ireturn, 1) := by decide +kernel
theorem dX8_block_119 : decode cX8_block 119 = .ok (.aload_n 0, 1) := by decide +kernel
theorem dX8_block_120 : decode cX8_block 120 = .ok (.getfield 12, 3) := by decide +kernel
theorem dX8_block_123 : decode cX8_block 123 = .ok (.getfield 77, 3) := by decide +kernel
theorem dX8_block_126 : decode cX8_block 126 = .ok (.iload 7, 2) := by decide +kernel
theorem dX8_block_128 : decode cX8_block 128 = .ok (.iadd, 1) := by decide +kernel
theorem dX8_block_129 : decode cX8_block 129 = .ok (.bipush 16, 2) := by decide +kernel
theorem dX8_block_131 : decode cX8_block 131 = .ok (.if_icmp .gt 18, 3) := by decide +kernel
theorem dX8_block_134 : decode cX8_block 134 = .ok (.aload_n 0, 1) := by decide +kernel
theorem dX8_block_135 : decode cX8_block 135 = .ok (.getfield 12, 3) := by decide +kernel
theorem dX8_block_138 : decode cX8_block 138 = .ok (.getfield 96, 3) := by decide +kernel
theorem dX8_block_141 : decode cX8_block 141 = .ok (.bipush 12, 2) := by decide +kernel
theorem dX8_block_143 : decode cX8_block 143 = .ok (.iadd, 1) := by decide +kernel
theorem dX8_block_144 : decode cX8_block 144 = .ok (.bipush 24, 2) := by decide +kernel
theorem dX8_block_146 : decode cX8_block 146 = .ok (.if_icmp .le 6, 3) := by decide +kernel
theorem dX8_block_149 : decode cX8_block 149 = .ok (.bipush (-4), 2) := by decide +kernel
theorem dX8_block_151 : decode cX8_block 151 = .ok (.ireturn, 1) := by decide +kernel
theorem dX8_block_152 : decode cX8_block 152 = .ok (.aload_n 0, 1) := by decide +kernel
theorem dX8_block_153 : decode cX8_block 153 = .ok (.invokevirtual 80, 3) := by decide +kernel
theorem dX8_block_156 : decode cX8_block 156 = .ok (.iconst 0, 1) := by decide +kernel
theorem dX8_block_157 : decode cX8_block 157 = .ok (.istore 8, 2) := by decide +kernel
theorem dX8_block_159 : decode cX8_block 159 = .ok (.iload 8, 2) := by decide +kernel
theorem dX8_block_161 : decode cX8_block 161 = .ok (.bipush 8, 2) := by decide +kernel
theorem dX8_block_163 : decode cX8_block 163 = .ok (.if_icmp .ge 66, 3) := by decide +kernel
theorem dX8_block_166 : decode cX8_block 166 = .ok (.aload_n 0, 1) := by decide +kernel
theorem dX8_block_167 : decode cX8_block 167 = .ok (.getfield 58, 3) := by decide +kernel
theorem dX8_block_170 : decode cX8_block 170 = .ok (.iload 8, 2) := by decide +kernel
theorem dX8_block_172 : decode cX8_block 172 = .ok (.iaload, 1) := by decide +kernel
theorem dX8_block_173 : decode cX8_block 173 = .ok (.ifCond .ge 50, 3) := by decide +kernel
theorem dX8_block_176 : decode cX8_block 176 = .ok (.aload_n 0, 1) := by decide +kernel
theorem dX8_block_177 : decode cX8_block 177 = .ok (.getfield 58, 3) := by decide +kernel
theorem dX8_block_180 : decode cX8_block 180 = .ok (.iload 8, 2) := by decide +kernel
theorem dX8_block_182 : decode cX8_block 182 = .ok (.aload_n 0, 1) := by decide +kernel
theorem dX8_block_183 : decode cX8_block 183 = .ok (.getfield 12, 3) := by decide +kernel
theorem dX8_block_186 : decode cX8_block 186 = .ok (.iload_n 1, 1) := by decide +kernel
theorem dX8_block_187 : decode cX8_block 187 = .ok (.iload 8, 2) := by decide +kernel
theorem dX8_block_189 : decode cX8_block 189 = .ok (.iconst 0, 1) := by decide +kernel
theorem dX8_block_190 : decode cX8_block 190 = .ok (.invokestatic 116, 3) := by decide +kernel
theorem dX8_block_193 : decode cX8_block 193 = .ok (.iload 4, 2) := by decide +kernel
theorem dX8_block_195 : decode cX8_block 195 = .ok (.imul, 1) := by decide +kernel
theorem dX8_block_196 : decode cX8_block 196 = .ok (.iadd, 1) := by decide +kernel
theorem dX8_block_197 : decode cX8_block 197 = .ok (.iload_n 2, 1) := by decide +kernel
theorem dX8_block_198 : decode cX8_block 198 = .ok (.iload 8, 2) := by decide +kernel
theorem dX8_block_200 : decode cX8_block 200 = .ok (.iconst 1, 1) := by decide +kernel
theorem dX8_block_201 : decode cX8_block 201 = .ok (.invokestatic 116, 3) := by decide +kernel
theorem dX8_block_204 : decode cX8_block 204 = .ok (.iload 5, 2) := by decide +kernel
theorem dX8_block_206 : decode cX8_block 206 = .ok (.imul, 1) := by decide +kernel
theorem dX8_block_207 : decode cX8_block 207 = .ok (.iadd, 1) := by decide +kernel
theorem dX8_block_208 : decode cX8_block 208 = .ok (.iload_n 3, 1) := by decide +kernel
theorem dX8_block_209 : decode cX8_block 209 = .ok (.iload 8, 2) := by decide +kernel
theorem dX8_block_211 : decode cX8_block 211 = .ok (.iconst 2, 1) := by decide +kernel
theorem dX8_block_212 : decode cX8_block 212 = .ok (.invokestatic 116, 3) := by decide +kernel
theorem dX8_block_215 : decode cX8_block 215 = .ok (.iload 6, 2) := by decide +kernel
theorem dX8_block_217 : decode cX8_block 217 = .ok (.imul, 1) := by decide +kernel
theorem dX8_block_218 : decode cX8_block 218 = .ok (.iadd, 1) := by decide +kernel
theorem dX8_block_219 : decode cX8_block 219 = .ok (.invokevirtual 83, 3) := by decide +kernel
theorem dX8_block_222 : decode cX8_block 222 = .ok (.iastore, 1) := by decide +kernel
theorem dX8_block_223 : decode cX8_block 223 = .ok (.iinc 8 1, 3) := by decide +kernel
theorem dX8_block_226 : decode cX8_block 226 = .ok (.goto (-67), 3) := by decide +kernel
theorem dX8_block_229 : decode cX8_block 229 = .ok (.iconst 0, 1) := by decide +kernel
theorem dX8_block_230 : decode cX8_block 230 = .ok (.istore 8, 2) := by decide +kernel
theorem dX8_block_232 : decode cX8_block 232 = .ok (.iload 8, 2) := by decide +kernel
theorem dX8_block_234 : decode cX8_block 234 = .ok (.iconst 2, 1) := by decide +kernel
theorem dX8_block_235 : decode cX8_block 235 = .ok (.iadd, 1) := by decide +kernel
theorem dX8_block_236 : decode cX8_block 236 = .ok (.getstatic 123, 3) := by decide +kernel
theorem dX8_block_239 : decode cX8_block 239 = .ok (.arraylength, 1) := by decide +kernel
theorem dX8_block_240 : decode cX8_block 240 = .ok (.if_icmp .ge 54, 3) := by decide +kernel
theorem dX8_block_243 : decode cX8_block 243 = .ok (.aload_n 0, 1) := by decide +kernel
theorem dX8_block_244 : decode cX8_block 244 = .ok (.getfield 12, 3) := by decide +kernel
theorem dX8_block_247 : decode cX8_block 247 = .ok (.aload_n 0, 1) := by decide +kernel
theorem dX8_block_248 : decode cX8_block 248 = .ok (.getfield 58, 3) := by decide +kernel
theorem dX8_block_251 : decode cX8_block 251 = .ok (.getstatic 123, 3) := by decide +kernel
theorem dX8_block_254 : decode cX8_block 254 = .ok (.iload 8, 2) := by decide +kernel
theorem dX8_block_256 : decode cX8_block 256 = .ok (.iaload, 1) := by decide +kernel
theorem dX8_block_257 : decode cX8_block 257 = .ok (.iaload, 1) := by decide +kernel
theorem dX8_block_258 : decode cX8_block 258 = .ok (.aload_n 0, 1) := by decide +kernel
theorem dX8_block_259 : decode cX8_block 259 = .ok (.getfield 58, 3) := by decide +kernel
theorem dX8_block_262 : decode cX8_block 262 = .ok (.getstatic 123, 3) := by decide +kernel
theorem dX8_block_265 : decode cX8_block 265 = .ok (.iload 8, 2) := by decide +kernel
theorem dX8_block_267 : decode cX8_block 267 = .ok (.iconst 1, 1) := by decide +kernel
theorem dX8_block_268 : decode cX8_block 268 = .ok (.iadd, 1) := by decide +kernel
theorem dX8_block_269 : decode cX8_block 269 = .ok (.iaload, 1) := by decide +kernel
theorem dX8_block_270 : decode cX8_block 270 = .ok (.iaload, 1) := by decide +kernel
theorem dX8_block_271 : decode cX8_block 271 = .ok (.aload_n 0, 1) := by decide +kernel
theorem dX8_block_272 : decode cX8_block 272 = .ok (.getfield 58, 3) := by decide +kernel
theorem dX8_block_275 : decode cX8_block 275 = .ok (.getstatic 123, 3) := by decide +kernel
theorem dX8_block_278 : decode cX8_block 278 = .ok (.iload 8, 2) := by decide +kernel
theorem dX8_block_280 : decode cX8_block 280 = .ok (.iconst 2, 1) := by decide +kernel
theorem dX8_block_281 : decode cX8_block 281 = .ok (.iadd, 1) := by decide +kernel
theorem dX8_block_282 : decode cX8_block 282 = .ok (.iaload, 1) := by decide +kernel
theorem dX8_block_283 : decode cX8_block 283 = .ok (.iaload, 1) := by decide +kernel
theorem dX8_block_284 : decode cX8_block 284 = .ok (.invokevirtual 99, 3) := by decide +kernel
theorem dX8_block_287 : decode cX8_block 287 = .ok (.pop, 1) := by decide +kernel
theorem dX8_block_288 : decode cX8_block 288 = .ok (.iinc 8 3, 3) := by decide +kernel
theorem dX8_block_291 : decode cX8_block 291 = .ok (.goto (-59), 3) := by decide +kernel
theorem dX8_block_294 : decode cX8_block 294 = .ok (.iload 7, 2) := by decide +kernel
theorem dX8_block_296 : decode cX8_block 296 = .ok (.ireturn, 1) := by decide +kernel
theorem dX8_cut_0 : decode cX8_cut 0 = .ok (.aload_n 0, 1) := by decide +kernel
theorem dX8_cut_1 : decode cX8_cut 1 = .ok (.getfield 12, 3) := by decide +kernel
theorem dX8_cut_4 : decode cX8_cut 4 = .ok (.getfield 96, 3) := by decide +kernel
theorem dX8_cut_7 : decode cX8_cut 7 = .ok (.ifCond .ne 6, 3) := by decide +kernel
theorem dX8_cut_10 : decode cX8_cut 10 = .ok (.bipush (-3), 2) := by decide +kernel
theorem dX8_cut_12 : decode cX8_cut 12 = .ok (.ireturn, 1) := by decide +kernel
theorem dX8_cut_13 : decode cX8_cut 13 = .ok (.aload_n 0, 1) := by decide +kernel
theorem dX8_cut_14 : decode cX8_cut 14 = .ok (.invokevirtual 80, 3) := by decide +kernel
theorem dX8_cut_17 : decode cX8_cut 17 = .ok (.aload_n 0, 1) := by decide +kernel
theorem dX8_cut_18 : decode cX8_cut 18 = .ok (.getfield 12, 3) := by decide +kernel
theorem dX8_cut_21 : decode cX8_cut 21 = .ok (.dup, 1) := by decide +kernel
theorem dX8_cut_22 : decode cX8_cut 22 = .ok (.getfield 96, 3) := by decide +kernel
theorem dX8_cut_25 : decode cX8_cut 25 = .ok (.iconst 1, 1) := by decide +kernel
theorem dX8_cut_26 : decode cX8_cut 26 = .ok (.isub, 1) := by decide +kernel
theorem dX8_cut_27 : decode cX8_cut 27 = .ok (.putfield 96, 3) := by decide +kernel
theorem dX8_cut_30 : decode cX8_cut 30 = .ok (.aload_n 0, 1) := by decide +kernel
theorem dX8_cut_31 : decode cX8_cut 31 = .ok (.getfield 12, 3) := by decide +kernel
theorem dX8_cut_34 : decode cX8_cut 34 = .ok (.getfield 96, 3) := by decide +kernel
theorem dX8_cut_37 : decode cX8_cut 37 = .ok (.ireturn, 1) := by decide +kernel
theorem dX8_clear_0 : decode cX8_clear 0 = .ok (.aload_n 0, 1) := by decide +kernel
theorem dX8_clear_1 : decode cX8_clear 1 = .ok (.getfield 12, 3) := by decide +kernel
theorem dX8_clear_4 : decode cX8_clear 4 = .ok (.getfield 96, 3) := by decide +kernel
theorem dX8_clear_7 : decode cX8_clear 7 = .ok (.istore_n 1, 1) := by decide +kernel
theorem dX8_clear_8 : decode cX8_clear 8 = .ok (.aload_n 0, 1) := by decide +kernel
theorem dX8_clear_9 : decode cX8_clear 9 = .ok (.invokevirtual 80, 3) := by decide +kernel
theorem dX8_clear_12 : decode cX8_clear 12 = .ok (.aload_n 0, 1) := by decide +kernel
theorem dX8_clear_13 : decode cX8_clear 13 = .ok (.getfield 12, 3) := by decide +kernel
theorem dX8_clear_16 : decode cX8_clear 16 = .ok (.iconst 0, 1) := by decide +kernel
theorem dX8_clear_17 : decode cX8_clear 17 = .ok (.putfield 77, 3) := by decide +kernel
theorem dX8_clear_20 : decode cX8_clear 20 = .ok (.aload_n 0, 1) := by decide +kernel
theorem dX8_clear_21 : decode cX8_clear 21 = .ok (.getfield 12, 3) := by decide +kernel
theorem dX8_clear_24 : decode cX8_clear 24 = .ok (.iconst 0, 1) := by decide +kernel
theorem dX8_clear_25 : decode cX8_clear 25 = .ok (.putfield 96, 3) := by decide +kernel
theorem dX8_clear_28 : decode cX8_clear 28 = .ok (.aload_n 0, 1) := by decide +kernel
theorem dX8_clear_29 : decode cX8_clear 29 = .ok (.getfield 12, 3) := by decide +kernel
theorem dX8_clear_32 : decode cX8_clear 32 = .ok (.iconst 0, 1) := by decide +kernel
theorem dX8_clear_33 : decode cX8_clear 33 = .ok (.putfield 106, 3) := by decide +kernel
theorem dX8_clear_36 : decode cX8_clear 36 = .ok (.iload_n 1, 1) := by decide +kernel
theorem dX8_clear_37 : decode cX8_clear 37 = .ok (.ireturn, 1) := by decide +kernel
theorem dX8_view_0 : decode cX8_view 0 = .ok (.iload_n 1, 1) := by decide +kernel
theorem dX8_view_1 : decode cX8_view 1 = .ok (.iconst 3, 1) := by decide +kernel
theorem dX8_view_2 : decode cX8_view 2 = .ok (.invokestatic 126, 3) := by decide +kernel
theorem dX8_view_5 : decode cX8_view 5 = .ok (.ifCond .eq 19, 3) := by decide +kernel
theorem dX8_view_8 : decode cX8_view 8 = .ok (.iload_n 2, 1) := by decide +kernel
theorem dX8_view_9 : decode cX8_view 9 = .ok (.iconst 3, 1) := by decide +kernel
theorem dX8_view_10 : decode cX8_view 10 = .ok (.invokestatic 126, 3) := by decide +kernel
theorem dX8_view_13 : decode cX8_view 13 = .ok (.ifCond .eq 11, 3) := by decide +kernel
theorem dX8_view_16 : decode cX8_view 16 = .ok (.iload_n 3, 1) := by decide +kernel
theorem dX8_view_17 : decode cX8_view 17 = .ok (.iconst 3, 1) := by decide +kernel
theorem dX8_view_18 : decode cX8_view 18 = .ok (.invokestatic 126, 3) := by decide +kernel
theorem dX8_view_21 : decode cX8_view 21 = .ok (.ifCond .ne 6, 3) := by decide +kernel
theorem dX8_view_24 : decode cX8_view 24 = .ok (.bipush (-2), 2) := by decide +kernel
theorem dX8_view_26 : decode cX8_view 26 = .ok (.ireturn, 1) := by decide +kernel
theorem dX8_view_27 : decode cX8_view 27 = .ok (.iload_n 1, 1) := by decide +kernel
theorem dX8_view_28 : decode cX8_view 28 = .ok (.ifCond .ne 14, 3) := by decide +kernel
theorem dX8_view_31 : decode cX8_view 31 = .ok (.iload_n 2, 1) := by decide +kernel
theorem dX8_view_32 : decode cX8_view 32 = .ok (.ifCond .ne 10, 3) := by decide +kernel
theorem dX8_view_35 : decode cX8_view 35 = .ok (.iload_n 3, 1) := by decide +kernel
theorem dX8_view_36 : decode cX8_view 36 = .ok (.ifCond .ne 6, 3) := by decide +kernel
theorem dX8_view_39 : decode cX8_view 39 = .ok (.bipush (-2), 2) := by decide +kernel
theorem dX8_view_41 : decode cX8_view 41 = .ok (.ireturn, 1) := by decide +kernel
theorem dX8_view_42 : decode cX8_view 42 = .ok (.aload_n 0, 1) := by decide +kernel
theorem dX8_view_43 : decode cX8_view 43 = .ok (.invokevirtual 80, 3) := by decide +kernel
theorem dX8_view_46 : decode cX8_view 46 = .ok (.aload_n 0, 1) := by decide +kernel
theorem dX8_view_47 : decode cX8_view 47 = .ok (.getfield 19, 3) := by decide +kernel
theorem dX8_view_50 : decode cX8_view 50 = .ok (.iload_n 1, 1) := by decide +kernel
theorem dX8_view_51 : decode cX8_view 51 = .ok (.iload_n 2, 1) := by decide +kernel
theorem dX8_view_52 : decode cX8_view 52 = .ok (.iload_n 3, 1) := by decide +kernel
theorem dX8_view_53 : decode cX8_view 53 = .ok (.invokevirtual 129, 3) := by decide +kernel
theorem dX8_view_56 : decode cX8_view 56 = .ok (.iconst 1, 1) := by decide +kernel
theorem dX8_view_57 : decode cX8_view 57 = .ok (.ireturn, 1) := by decide +kernel
theorem dX8_turn_0 : decode cX8_turn 0 = .ok (.iload_n 1, 1) := by decide +kernel
theorem dX8_turn_1 : decode cX8_turn 1 = .ok (.ifCond .lt 8, 3) := by decide +kernel
theorem dX8_turn_4 : decode cX8_turn 4 = .ok (.iload_n 1, 1) := by decide +kernel
theorem dX8_turn_5 : decode cX8_turn 5 = .ok (.iconst 3, 1) := by decide +kernel
theorem dX8_turn_6 : decode cX8_turn 6 = .ok (.if_icmp .le 6, 3) := by decide +kernel
theorem dX8_turn_9 : decode cX8_turn 9 = .ok (.bipush (-2), 2) := by decide +kernel
theorem dX8_turn_11 : decode cX8_turn 11 = .ok (.ireturn, 1) := by decide +kernel
theorem dX8_turn_12 : decode cX8_turn 12 = .ok (.aload_n 0, 1) := by decide +kernel
theorem dX8_turn_13 : decode cX8_turn 13 = .ok (.invokevirtual 80, 3) := by decide +kernel
theorem dX8_turn_16 : decode cX8_turn 16 = .ok (.iconst 0, 1) := by decide +kernel
theorem dX8_turn_17 : decode cX8_turn 17 = .ok (.istore_n 2, 1) := by decide +kernel
theorem dX8_turn_18 : decode cX8_turn 18 = .ok (.iconst 0, 1) := by decide +kernel
theorem dX8_turn_19 : decode cX8_turn 19 = .ok (.istore_n 3, 1) := by decide +kernel
theorem dX8_turn_20 : decode cX8_turn 20 = .ok (.iload_n 3, 1) := by decide +kernel
theorem dX8_turn_21 : decode cX8_turn 21 = .ok (.aload_n 0, 1) := by decide +kernel
theorem dX8_turn_22 : decode cX8_turn 22 = .ok (.getfield 12, 3) := by decide +kernel
theorem dX8_turn_25 : decode cX8_turn 25 = .ok (.getfield 77, 3) := by decide +kernel
theorem dX8_turn_28 : decode cX8_turn 28 = .ok (.if_icmp .ge 24, 3) := by decide +kernel
theorem dX8_turn_31 : decode cX8_turn 31 = .ok (.aload_n 0, 1) := by decide +kernel
theorem dX8_turn_32 : decode cX8_turn 32 = .ok (.getfield 12, 3) := by decide +kernel
theorem dX8_turn_35 : decode cX8_turn 35 = .ok (.iload_n 3, 1) := by decide +kernel
theorem dX8_turn_36 : decode cX8_turn 36 = .ok (.iload_n 1, 1) := by decide +kernel
theorem dX8_turn_37 : decode cX8_turn 37 = .ok (.invokevirtual 133, 3) := by decide +kernel
theorem dX8_turn_40 : decode cX8_turn 40 = .ok (.ifCond .eq 6, 3) := by decide +kernel
theorem dX8_turn_43 : decode cX8_turn 43 = .ok (.iinc 2 1, 3) := by decide +kernel
theorem dX8_turn_46 : decode cX8_turn 46 = .ok (.iinc 3 1, 3) := by decide +kernel
theorem dX8_turn_49 : decode cX8_turn 49 = .ok (.goto (-29), 3) := by decide +kernel
theorem dX8_turn_52 : decode cX8_turn 52 = .ok (.iload_n 2, 1) := by decide +kernel
theorem dX8_turn_53 : decode cX8_turn 53 = .ok (.ireturn, 1) := by decide +kernel
theorem dX8_move_0 : decode cX8_move 0 = .ok (.iload_n 1, 1) := by decide +kernel
theorem dX8_move_1 : decode cX8_move 1 = .ok (.bipush 18, 2) := by decide +kernel
theorem dX8_move_3 : decode cX8_move 3 = .ok (.invokestatic 126, 3) := by decide +kernel
theorem dX8_move_6 : decode cX8_move 6 = .ok (.ifCond .eq 21, 3) := by decide +kernel
theorem dX8_move_9 : decode cX8_move 9 = .ok (.iload_n 2, 1) := by decide +kernel
theorem dX8_move_10 : decode cX8_move 10 = .ok (.bipush 18, 2) := by decide +kernel
theorem dX8_move_12 : decode cX8_move 12 = .ok (.invokestatic 126, 3) := by decide +kernel
theorem dX8_move_15 : decode cX8_move 15 = .ok (.ifCond .eq 12, 3) := by decide +kernel
theorem dX8_move_18 : decode cX8_move 18 = .ok (.iload_n 3, 1) := by decide +kernel
theorem dX8_move_19 : decode cX8_move 19 = .ok (.bipush 18, 2) := by decide +kernel
theorem dX8_move_21 : decode cX8_move 21 = .ok (.invokestatic 126, 3) := by decide +kernel
theorem dX8_move_24 : decode cX8_move 24 = .ok (.ifCond .ne 6, 3) := by decide +kernel
theorem dX8_move_27 : decode cX8_move 27 = .ok (.bipush (-2), 2) := by decide +kernel
theorem dX8_move_29 : decode cX8_move 29 = .ok (.ireturn, 1) := by decide +kernel
theorem dX8_move_30 : decode cX8_move 30 = .ok (.iconst 0, 1) := by decide +kernel
theorem dX8_move_31 : decode cX8_move 31 = .ok (.istore 4, 2) := by decide +kernel
theorem dX8_move_33 : decode cX8_move 33 = .ok (.iload 4, 2) := by decide +kernel
theorem dX8_move_35 : decode cX8_move 35 = .ok (.aload_n 0, 1) := by decide +kernel
theorem dX8_move_36 : decode cX8_move 36 = .ok (.getfield 12, 3) := by decide +kernel
theorem dX8_move_39 : decode cX8_move 39 = .ok (.getfield 77, 3) := by decide +kernel
theorem dX8_move_42 : decode cX8_move 42 = .ok (.if_icmp .ge 54, 3) := by decide +kernel
theorem dX8_move_45 : decode cX8_move 45 = .ok (.aload_n 0, 1) := by decide +kernel
theorem dX8_move_46 : decode cX8_move 46 = .ok (.getfield 12, 3) := by decide +kernel
theorem dX8_move_49 : decode cX8_move 49 = .ok (.getfield 136, 3) := by decide +kernel
theorem dX8_move_52 : decode cX8_move 52 = .ok (.iload 4, 2) := by decide +kernel
theorem dX8_move_54 : decode cX8_move 54 = .ok (.iaload, 1) := by decide +kernel
theorem dX8_move_55 : decode cX8_move 55 = .ok (.iload_n 1, 1) := by decide +kernel
theorem dX8_move_56 : decode cX8_move 56 = .ok (.iadd, 1) := by decide +kernel
theorem dX8_move_57 : decode cX8_move 57 = .ok (.aload_n 0, 1) := by decide +kernel
theorem dX8_move_58 : decode cX8_move 58 = .ok (.getfield 12, 3) := by decide +kernel
theorem dX8_move_61 : decode cX8_move 61 = .ok (.getfield 139, 3) := by decide +kernel
theorem dX8_move_64 : decode cX8_move 64 = .ok (.iload 4, 2) := by decide +kernel
theorem dX8_move_66 : decode cX8_move 66 = .ok (.iaload, 1) := by decide +kernel
theorem dX8_move_67 : decode cX8_move 67 = .ok (.iload_n 2, 1) := by decide +kernel
theorem dX8_move_68 : decode cX8_move 68 = .ok (.iadd, 1) := by decide +kernel
theorem dX8_move_69 : decode cX8_move 69 = .ok (.aload_n 0, 1) := by decide +kernel
theorem dX8_move_70 : decode cX8_move 70 = .ok (.getfield 12, 3) := by decide +kernel
theorem dX8_move_73 : decode cX8_move 73 = .ok (.getfield 142, 3) := by decide +kernel
theorem dX8_move_76 : decode cX8_move 76 = .ok (.iload 4, 2) := by decide +kernel
theorem dX8_move_78 : decode cX8_move 78 = .ok (.iaload, 1) := by decide +kernel
theorem dX8_move_79 : decode cX8_move 79 = .ok (.iload_n 3, 1) := by decide +kernel
theorem dX8_move_80 : decode cX8_move 80 = .ok (.iadd, 1) := by decide +kernel
theorem dX8_move_81 : decode cX8_move 81 = .ok (.invokestatic 69, 3) := by decide +kernel
theorem dX8_move_84 : decode cX8_move 84 = .ok (.ifCond .ne 6, 3) := by decide +kernel
theorem dX8_move_87 : decode cX8_move 87 = .ok (.bipush (-3), 2) := by decide +kernel
theorem dX8_move_89 : decode cX8_move 89 = .ok (.ireturn, 1) := by decide +kernel
theorem dX8_move_90 : decode cX8_move 90 = .ok (.iinc 4 1, 3) := by decide +kernel
theorem dX8_move_93 : decode cX8_move 93 = .ok (.goto (-60), 3) := by decide +kernel
theorem dX8_move_96 : decode cX8_move 96 = .ok (.aload_n 0, 1) := by decide +kernel
theorem dX8_move_97 : decode cX8_move 97 = .ok (.invokevirtual 80, 3) := by decide +kernel
theorem dX8_move_100 : decode cX8_move 100 = .ok (.iconst 0, 1) := by decide +kernel
theorem dX8_move_101 : decode cX8_move 101 = .ok (.istore 4, 2) := by decide +kernel
theorem dX8_move_103 : decode cX8_move 103 = .ok (.iload 4, 2) := by decide +kernel
theorem dX8_move_105 : decode cX8_move 105 = .ok (.aload_n 0, 1) := by decide +kernel
theorem dX8_move_106 : decode cX8_move 106 = .ok (.getfield 12, 3) := by decide +kernel
theorem dX8_move_109 : decode cX8_move 109 = .ok (.getfield 77, 3) := by decide +kernel
theorem dX8_move_112 : decode cX8_move 112 = .ok (.if_icmp .ge 54, 3) := by decide +kernel
theorem dX8_move_115 : decode cX8_move 115 = .ok (.aload_n 0, 1) := by decide +kernel
theorem dX8_move_116 : decode cX8_move 116 = .ok (.getfield 12, 3) := by decide +kernel
theorem dX8_move_119 : decode cX8_move 119 = .ok (.iload 4, 2) := by decide +kernel
theorem dX8_move_121 : decode cX8_move 121 = .ok (.aload_n 0, 1) := by decide +kernel
theorem dX8_move_122 : decode cX8_move 122 = .ok (.getfield 12, 3) := by decide +kernel
theorem dX8_move_125 : decode cX8_move 125 = .ok (.getfield 136, 3) := by decide +kernel
theorem dX8_move_128 : decode cX8_move 128 = .ok (.iload 4, 2) := by decide +kernel
theorem dX8_move_130 : decode cX8_move 130 = .ok (.iaload, 1) := by decide +kernel
theorem dX8_move_131 : decode cX8_move 131 = .ok (.iload_n 1, 1) := by decide +kernel
theorem dX8_move_132 : decode cX8_move 132 = .ok (.iadd, 1) := by decide +kernel
theorem dX8_move_133 : decode cX8_move 133 = .ok (.aload_n 0, 1) := by decide +kernel
theorem dX8_move_134 : decode cX8_move 134 = .ok (.getfield 12, 3) := by decide +kernel
theorem dX8_move_137 : decode cX8_move 137 = .ok (.getfield 139, 3) := by decide +kernel
theorem dX8_move_140 : decode cX8_move 140 = .ok (.iload 4, 2) := by decide +kernel
theorem dX8_move_142 : decode cX8_move 142 = .ok (.iaload, 1) := by decide +kernel
theorem dX8_move_143 : decode cX8_move 143 = .ok (.iload_n 2, 1) := by decide +kernel
theorem dX8_move_144 : decode cX8_move 144 = .ok (.iadd, 1) := by decide +kernel
theorem dX8_move_145 : decode cX8_move 145 = .ok (.aload_n 0, 1) := by decide +kernel
theorem dX8_move_146 : decode cX8_move 146 = .ok (.getfield 12, 3) := by decide +kernel
theorem dX8_move_149 : decode cX8_move 149 = .ok (.getfield 142, 3) := by decide +kernel
theorem dX8_move_152 : decode cX8_move 152 = .ok (.iload 4, 2) := by decide +kernel
theorem dX8_move_154 : decode cX8_move 154 = .ok (.iaload, 1) := by decide +kernel
theorem dX8_move_155 : decode cX8_move 155 = .ok (.iload_n 3, 1) := by decide +kernel
theorem dX8_move_156 : decode cX8_move 156 = .ok (.iadd, 1) := by decide +kernel
theorem dX8_move_157 : decode cX8_move 157 = .ok (.invokevirtual 145, 3) := by decide +kernel
theorem dX8_move_160 : decode cX8_move 160 = .ok (.iinc 4 1, 3) := by decide +kernel
theorem dX8_move_163 : decode cX8_move 163 = .ok (.goto (-60), 3) := by decide +kernel
theorem dX8_move_166 : decode cX8_move 166 = .ok (.iconst 1, 1) := by decide +kernel
theorem dX8_move_167 : decode cX8_move 167 = .ok (.ireturn, 1) := by decide +kernel
theorem dX8_ofPoint_0 : decode cX8_ofPoint 0 = .ok (.aload_n 0, 1) := by decide +kernel
theorem dX8_ofPoint_1 : decode cX8_ofPoint 1 = .ok (.getfield 12, 3) := by decide +kernel
theorem dX8_ofPoint_4 : decode cX8_ofPoint 4 = .ok (.iload_n 1, 1) := by decide +kernel
theorem dX8_ofPoint_5 : decode cX8_ofPoint 5 = .ok (.invokevirtual 86, 3) := by decide +kernel
theorem dX8_ofPoint_8 : decode cX8_ofPoint 8 = .ok (.ifCond .ne 5, 3) := by decide +kernel
theorem dX8_ofPoint_11 : decode cX8_ofPoint 11 = .ok (.iconst (-1), 1) := by decide +kernel
theorem dX8_ofPoint_12 : decode cX8_ofPoint 12 = .ok (.ireturn, 1) := by decide +kernel
theorem dX8_ofPoint_13 : decode cX8_ofPoint 13 = .ok (.iload_n 2, 1) := by decide +kernel
theorem dX8_ofPoint_14 : decode cX8_ofPoint 14 = .ok (.tableswitch 104 0 4 #[34, 47, 60, 73, 90], 34) := by decide +kernel
theorem dX8_ofPoint_48 : decode cX8_ofPoint 48 = .ok (.aload_n 0, 1) := by decide +kernel
theorem dX8_ofPoint_49 : decode cX8_ofPoint 49 = .ok (.getfield 12, 3) := by decide +kernel
theorem dX8_ofPoint_52 : decode cX8_ofPoint 52 = .ok (.getfield 136, 3) := by decide +kernel
theorem dX8_ofPoint_55 : decode cX8_ofPoint 55 = .ok (.iload_n 1, 1) := by decide +kernel
theorem dX8_ofPoint_56 : decode cX8_ofPoint 56 = .ok (.iaload, 1) := by decide +kernel
theorem dX8_ofPoint_57 : decode cX8_ofPoint 57 = .ok (.bipush 10, 2) := by decide +kernel
theorem dX8_ofPoint_59 : decode cX8_ofPoint 59 = .ok (.iadd, 1) := by decide +kernel
theorem dX8_ofPoint_60 : decode cX8_ofPoint 60 = .ok (.ireturn, 1) := by decide +kernel
theorem dX8_ofPoint_61 : decode cX8_ofPoint 61 = .ok (.aload_n 0, 1) := by decide +kernel
theorem dX8_ofPoint_62 : decode cX8_ofPoint 62 = .ok (.getfield 12, 3) := by decide +kernel
theorem dX8_ofPoint_65 : decode cX8_ofPoint 65 = .ok (.getfield 139, 3) := by decide +kernel
theorem dX8_ofPoint_68 : decode cX8_ofPoint 68 = .ok (.iload_n 1, 1) := by decide +kernel
theorem dX8_ofPoint_69 : decode cX8_ofPoint 69 = .ok (.iaload, 1) := by decide +kernel
theorem dX8_ofPoint_70 : decode cX8_ofPoint 70 = .ok (.bipush 10, 2) := by decide +kernel
theorem dX8_ofPoint_72 : decode cX8_ofPoint 72 = .ok (.iadd, 1) := by decide +kernel
theorem dX8_ofPoint_73 : decode cX8_ofPoint 73 = .ok (.ireturn, 1) := by decide +kernel
theorem dX8_ofPoint_74 : decode cX8_ofPoint 74 = .ok (.aload_n 0, 1) := by decide +kernel
theorem dX8_ofPoint_75 : decode cX8_ofPoint 75 = .ok (.getfield 12, 3) := by decide +kernel
theorem dX8_ofPoint_78 : decode cX8_ofPoint 78 = .ok (.getfield 142, 3) := by decide +kernel
theorem dX8_ofPoint_81 : decode cX8_ofPoint 81 = .ok (.iload_n 1, 1) := by decide +kernel
theorem dX8_ofPoint_82 : decode cX8_ofPoint 82 = .ok (.iaload, 1) := by decide +kernel
theorem dX8_ofPoint_83 : decode cX8_ofPoint 83 = .ok (.bipush 10, 2) := by decide +kernel
theorem dX8_ofPoint_85 : decode cX8_ofPoint 85 = .ok (.iadd, 1) := by decide +kernel
theorem dX8_ofPoint_86 : decode cX8_ofPoint 86 = .ok (.ireturn, 1) := by decide +kernel
theorem dX8_ofPoint_87 : decode cX8_ofPoint 87 = .ok (.aload_n 0, 1) := by decide +kernel
theorem dX8_ofPoint_88 : decode cX8_ofPoint 88 = .ok (.iconst 1, 1) := by decide +kernel
theorem dX8_ofPoint_89 : decode cX8_ofPoint 89 = .ok (.invokevirtual 149, 3) := by decide +kernel
theorem dX8_ofPoint_92 : decode cX8_ofPoint 92 = .ok (.aload_n 0, 1) := by decide +kernel
theorem dX8_ofPoint_93 : decode cX8_ofPoint 93 = .ok (.getfield 19, 3) := by decide +kernel
theorem dX8_ofPoint_96 : decode cX8_ofPoint 96 = .ok (.iload_n 1, 1) := by decide +kernel
theorem dX8_ofPoint_97 : decode cX8_ofPoint 97 = .ok (.iload_n 1, 1) := by decide +kernel
theorem dX8_ofPoint_98 : decode cX8_ofPoint 98 = .ok (.iconst 0, 1) := by decide +kernel
theorem dX8_ofPoint_99 : decode cX8_ofPoint 99 = .ok (.iconst 1, 1) := by decide +kernel
theorem dX8_ofPoint_100 : decode cX8_ofPoint 100 = .ok (.invokevirtual 153, 3) := by decide +kernel
theorem dX8_ofPoint_103 : decode cX8_ofPoint 103 = .ok (.ireturn, 1) := by decide +kernel
theorem dX8_ofPoint_104 : decode cX8_ofPoint 104 = .ok (.aload_n 0, 1) := by decide +kernel
theorem dX8_ofPoint_105 : decode cX8_ofPoint 105 = .ok (.iconst 1, 1) := by decide +kernel
theorem dX8_ofPoint_106 : decode cX8_ofPoint 106 = .ok (.invokevirtual 149, 3) := by decide +kernel
theorem dX8_ofPoint_109 : decode cX8_ofPoint 109 = .ok (.aload_n 0, 1) := by decide +kernel
theorem dX8_ofPoint_110 : decode cX8_ofPoint 110 = .ok (.getfield 26, 3) := by decide +kernel
theorem dX8_ofPoint_113 : decode cX8_ofPoint 113 = .ok (.iload_n 1, 1) := by decide +kernel
theorem dX8_ofPoint_114 : decode cX8_ofPoint 114 = .ok (.invokevirtual 157, 3) := by decide +kernel
theorem dX8_ofPoint_117 : decode cX8_ofPoint 117 = .ok (.ireturn, 1) := by decide +kernel
theorem dX8_ofPoint_118 : decode cX8_ofPoint 118 = .ok (.bipush (-2), 2) := by decide +kernel
theorem dX8_ofPoint_120 : decode cX8_ofPoint 120 = .ok (.ireturn, 1) := by decide +kernel
theorem dX8_ofFace_0 : decode cX8_ofFace 0 = .ok (.aload_n 0, 1) := by decide +kernel
theorem dX8_ofFace_1 : decode cX8_ofFace 1 = .ok (.getfield 12, 3) := by decide +kernel
theorem dX8_ofFace_4 : decode cX8_ofFace 4 = .ok (.iload_n 1, 1) := by decide +kernel
theorem dX8_ofFace_5 : decode cX8_ofFace 5 = .ok (.invokevirtual 161, 3) := by decide +kernel
theorem dX8_ofFace_8 : decode cX8_ofFace 8 = .ok (.ifCond .ne 5, 3) := by decide +kernel
theorem dX8_ofFace_11 : decode cX8_ofFace 11 = .ok (.iconst (-1), 1) := by decide +kernel
theorem dX8_ofFace_12 : decode cX8_ofFace 12 = .ok (.ireturn, 1) := by decide +kernel
theorem dX8_ofFace_13 : decode cX8_ofFace 13 = .ok (.iload_n 2, 1) := by decide +kernel
theorem dX8_ofFace_14 : decode cX8_ofFace 14 = .ok (.tableswitch 101 0 4 #[34, 34, 34, 44, 83], 34) := by decide +kernel
theorem dX8_ofFace_48 : decode cX8_ofFace 48 = .ok (.aload_n 0, 1) := by decide +kernel
theorem dX8_ofFace_49 : decode cX8_ofFace 49 = .ok (.getfield 12, 3) := by decide +kernel
theorem dX8_ofFace_52 : decode cX8_ofFace 52 = .ok (.iload_n 1, 1) := by decide +kernel
theorem dX8_ofFace_53 : decode cX8_ofFace 53 = .ok (.iload_n 2, 1) := by decide +kernel
theorem dX8_ofFace_54 : decode cX8_ofFace 54 = .ok (.invokevirtual 164, 3) := by decide +kernel
theorem dX8_ofFace_57 : decode cX8_ofFace 57 = .ok (.ireturn, 1) := by decide +kernel
theorem dX8_ofFace_58 : decode cX8_ofFace 58 = .ok (.aload_n 0, 1) := by decide +kernel
theorem dX8_ofFace_59 : decode cX8_ofFace 59 = .ok (.iconst 1, 1) := by decide +kernel
theorem dX8_ofFace_60 : decode cX8_ofFace 60 = .ok (.invokevirtual 149, 3) := by decide +kernel
theorem dX8_ofFace_63 : decode cX8_ofFace 63 = .ok (.aload_n 0, 1) := by decide +kernel
theorem dX8_ofFace_64 : decode cX8_ofFace 64 = .ok (.getfield 19, 3) := by decide +kernel
theorem dX8_ofFace_67 : decode cX8_ofFace 67 = .ok (.getfield 167, 3) := by decide +kernel
theorem dX8_ofFace_70 : decode cX8_ofFace 70 = .ok (.iload_n 1, 1) := by decide +kernel
theorem dX8_ofFace_71 : decode cX8_ofFace 71 = .ok (.iaload, 1) := by decide +kernel
theorem dX8_ofFace_72 : decode cX8_ofFace 72 = .ok (.ifCond .le 7, 3) := by decide +kernel
theorem dX8_ofFace_75 : decode cX8_ofFace 75 = .ok (.iconst 1, 1) := by decide +kernel
theorem dX8_ofFace_76 : decode cX8_ofFace 76 = .ok (.goto 20, 3) := by decide +kernel
theorem dX8_ofFace_79 : decode cX8_ofFace 79 = .ok (.aload_n 0, 1) := by decide +kernel
theorem dX8_ofFace_80 : decode cX8_ofFace 80 = .ok (.getfield 19, 3) := by decide +kernel
theorem dX8_ofFace_83 : decode cX8_ofFace 83 = .ok (.getfield 167, 3) := by decide +kernel
theorem dX8_ofFace_86 : decode cX8_ofFace 86 = .ok (.iload_n 1, 1) := by decide +kernel
theorem dX8_ofFace_87 : decode cX8_ofFace 87 = .ok (.iaload, 1) := by decide +kernel
theorem dX8_ofFace_88 : decode cX8_ofFace 88 = .ok (.ifCond .ge 7, 3) := by decide +kernel
theorem dX8_ofFace_91 : decode cX8_ofFace 91 = .ok (.iconst 2, 1) := by decide +kernel
theorem dX8_ofFace_92 : decode cX8_ofFace 92 = .ok (.goto 4, 3) := by decide +kernel
theorem dX8_ofFace_95 : decode cX8_ofFace 95 = .ok (.iconst 0, 1) := by decide +kernel
theorem dX8_ofFace_96 : decode cX8_ofFace 96 = .ok (.ireturn, 1) := by decide +kernel
theorem dX8_ofFace_97 : decode cX8_ofFace 97 = .ok (.aload_n 0, 1) := by decide +kernel
theorem dX8_ofFace_98 : decode cX8_ofFace 98 = .ok (.iconst 1, 1) := by decide +kernel
theorem dX8_ofFace_99 : decode cX8_ofFace 99 = .ok (.invokevirtual 149, 3) := by decide +kernel
theorem dX8_ofFace_102 : decode cX8_ofFace 102 = .ok (.aload_n 0, 1) := by decide +kernel
theorem dX8_ofFace_103 : decode cX8_ofFace 103 = .ok (.getfield 19, 3) := by decide +kernel
theorem dX8_ofFace_106 : decode cX8_ofFace 106 = .ok (.getfield 167, 3) := by decide +kernel
theorem dX8_ofFace_109 : decode cX8_ofFace 109 = .ok (.iload_n 1, 1) := by decide +kernel
theorem dX8_ofFace_110 : decode cX8_ofFace 110 = .ok (.iaload, 1) := by decide +kernel
theorem dX8_ofFace_111 : decode cX8_ofFace 111 = .ok (.invokestatic 170, 3) := by decide +kernel
theorem dX8_ofFace_114 : decode cX8_ofFace 114 = .ok (.ireturn, 1) := by decide +kernel
theorem dX8_ofFace_115 : decode cX8_ofFace 115 = .ok (.bipush (-2), 2) := by decide +kernel
theorem dX8_ofFace_117 : decode cX8_ofFace 117 = .ok (.ireturn, 1) := by decide +kernel
theorem dX8_ofEdge_0 : decode cX8_ofEdge 0 = .ok (.aload_n 0, 1) := by decide +kernel
theorem dX8_ofEdge_1 : decode cX8_ofEdge 1 = .ok (.iconst 1, 1) := by decide +kernel
theorem dX8_ofEdge_2 : decode cX8_ofEdge 2 = .ok (.invokevirtual 149, 3) := by decide +kernel
theorem dX8_ofEdge_5 : decode cX8_ofEdge 5 = .ok (.aload_n 0, 1) := by decide +kernel
theorem dX8_ofEdge_6 : decode cX8_ofEdge 6 = .ok (.getfield 26, 3) := by decide +kernel
theorem dX8_ofEdge_9 : decode cX8_ofEdge 9 = .ok (.iload_n 1, 1) := by decide +kernel
theorem dX8_ofEdge_10 : decode cX8_ofEdge 10 = .ok (.invokevirtual 175, 3) := by decide +kernel
theorem dX8_ofEdge_13 : decode cX8_ofEdge 13 = .ok (.ifCond .ne 5, 3) := by decide +kernel
theorem dX8_ofEdge_16 : decode cX8_ofEdge 16 = .ok (.iconst (-1), 1) := by decide +kernel
theorem dX8_ofEdge_17 : decode cX8_ofEdge 17 = .ok (.ireturn, 1) := by decide +kernel
theorem dX8_ofEdge_18 : decode cX8_ofEdge 18 = .ok (.iload_n 2, 1) := by decide +kernel
theorem dX8_ofEdge_19 : decode cX8_ofEdge 19 = .ok (.tableswitch 166 0 6 #[41, 51, 61, 71, 81, 105, 132], 41) := by decide +kernel
theorem dX8_ofEdge_60 : decode cX8_ofEdge 60 = .ok (.aload_n 0, 1) := by decide +kernel
theorem dX8_ofEdge_61 : decode cX8_ofEdge 61 = .ok (.getfield 26, 3) := by decide +kernel
theorem dX8_ofEdge_64 : decode cX8_ofEdge 64 = .ok (.getfield 178, 3) := by decide +kernel
theorem dX8_ofEdge_67 : decode cX8_ofEdge 67 = .ok (.iload_n 1, 1) := by decide +kernel
theorem dX8_ofEdge_68 : decode cX8_ofEdge 68 = .ok (.iaload, 1) := by decide +kernel
theorem dX8_ofEdge_69 : decode cX8_ofEdge 69 = .ok (.ireturn, 1) := by decide +kernel
theorem dX8_ofEdge_70 : decode cX8_ofEdge 70 = .ok (.aload_n 0, 1) := by decide +kernel
theorem dX8_ofEdge_71 : decode cX8_ofEdge 71 = .ok (.getfield 26, 3) := by decide +kernel
theorem dX8_ofEdge_74 : decode cX8_ofEdge 74 = .ok (.getfield 181, 3) := by decide +kernel
theorem dX8_ofEdge_77 : decode cX8_ofEdge 77 = .ok (.iload_n 1, 1) := by decide +kernel
theorem dX8_ofEdge_78 : decode cX8_ofEdge 78 = .ok (.iaload, 1) := by decide +kernel
theorem dX8_ofEdge_79 : decode cX8_ofEdge 79 = .ok (.ireturn, 1) := by decide +kernel
theorem dX8_ofEdge_80 : decode cX8_ofEdge 80 = .ok (.aload_n 0, 1) := by decide +kernel
theorem dX8_ofEdge_81 : decode cX8_ofEdge 81 = .ok (.getfield 26, 3) := by decide +kernel
theorem dX8_ofEdge_84 : decode cX8_ofEdge 84 = .ok (.getfield 184, 3) := by decide +kernel
theorem dX8_ofEdge_87 : decode cX8_ofEdge 87 = .ok (.iload_n 1, 1) := by decide +kernel
theorem dX8_ofEdge_88 : decode cX8_ofEdge 88 = .ok (.iaload, 1) := by decide +kernel
theorem dX8_ofEdge_89 : decode cX8_ofEdge 89 = .ok (.ireturn, 1) := by decide +kernel
theorem dX8_ofEdge_90 : decode cX8_ofEdge 90 = .ok (.aload_n 0, 1) := by decide +kernel
theorem dX8_ofEdge_91 : decode cX8_ofEdge 91 = .ok (.getfield 26, 3) := by decide +kernel
theorem dX8_ofEdge_94 : decode cX8_ofEdge 94 = .ok (.getfield 187, 3) := by decide +kernel
theorem dX8_ofEdge_97 : decode cX8_ofEdge 97 = .ok (.iload_n 1, 1) := by decide +kernel
theorem dX8_ofEdge_98 : decode cX8_ofEdge 98 = .ok (.iaload, 1) := by decide +kernel
theorem dX8_ofEdge_99 : decode cX8_ofEdge 99 = .ok (.ireturn, 1) := by decide +kernel
theorem dX8_ofEdge_100 : decode cX8_ofEdge 100 = .ok (.aload_n 0, 1) := by decide +kernel
theorem dX8_ofEdge_101 : decode cX8_ofEdge 101 = .ok (.getfield 33, 3) := by decide +kernel
theorem dX8_ofEdge_104 : decode cX8_ofEdge 104 = .ok (.iload_n 1, 1) := by decide +kernel
theorem dX8_ofEdge_105 : decode cX8_ofEdge 105 = .ok (.aload_n 0, 1) := by decide +kernel
theorem dX8_ofEdge_106 : decode cX8_ofEdge 106 = .ok (.getfield 26, 3) := by decide +kernel
theorem dX8_ofEdge_109 : decode cX8_ofEdge 109 = .ok (.aload_n 0, 1) := by decide +kernel
theorem dX8_ofEdge_110 : decode cX8_ofEdge 110 = .ok (.getfield 19, 3) := by decide +kernel
theorem dX8_ofEdge_113 : decode cX8_ofEdge 113 = .ok (.invokevirtual 190, 3) := by decide +kernel
theorem dX8_ofEdge_116 : decode cX8_ofEdge 116 = .ok (.aload_n 0, 1) := by decide +kernel
theorem dX8_ofEdge_117 : decode cX8_ofEdge 117 = .ok (.getfield 33, 3) := by decide +kernel
theorem dX8_ofEdge_120 : decode cX8_ofEdge 120 = .ok (.invokevirtual 194, 3) := by decide +kernel
theorem dX8_ofEdge_123 : decode cX8_ofEdge 123 = .ok (.ireturn, 1) := by decide +kernel
theorem dX8_ofEdge_124 : decode cX8_ofEdge 124 = .ok (.aload_n 0, 1) := by decide +kernel
theorem dX8_ofEdge_125 : decode cX8_ofEdge 125 = .ok (.getfield 33, 3) := by decide +kernel
theorem dX8_ofEdge_128 : decode cX8_ofEdge 128 = .ok (.iload_n 1, 1) := by decide +kernel
theorem dX8_ofEdge_129 : decode cX8_ofEdge 129 = .ok (.aload_n 0, 1) := by decide +kernel
theorem dX8_ofEdge_130 : decode cX8_ofEdge 130 = .ok (.getfield 26, 3) := by decide +kernel
theorem dX8_ofEdge_133 : decode cX8_ofEdge 133 = .ok (.aload_n 0, 1) := by decide +kernel
theorem dX8_ofEdge_134 : decode cX8_ofEdge 134 = .ok (.getfield 19, 3) := by decide +kernel
theorem dX8_ofEdge_137 : decode cX8_ofEdge 137 = .ok (.invokevirtual 190, 3) := by decide +kernel
theorem dX8_ofEdge_140 : decode cX8_ofEdge 140 = .ok (.aload_n 0, 1) := by decide +kernel
theorem dX8_ofEdge_141 : decode cX8_ofEdge 141 = .ok (.getfield 33, 3) := by decide +kernel
theorem dX8_ofEdge_144 : decode cX8_ofEdge 144 = .ok (.getfield 198, 3) := by decide +kernel
theorem dX8_ofEdge_147 : decode cX8_ofEdge 147 = .ok (.invokestatic 202, 3) := by decide +kernel
theorem dX8_ofEdge_150 : decode cX8_ofEdge 150 = .ok (.ireturn, 1) := by decide +kernel
theorem dX8_ofEdge_151 : decode cX8_ofEdge 151 = .ok (.aload_n 0, 1) := by decide +kernel
theorem dX8_ofEdge_152 : decode cX8_ofEdge 152 = .ok (.getfield 12, 3) := by decide +kernel
theorem dX8_ofEdge_155 : decode cX8_ofEdge 155 = .ok (.aload_n 0, 1) := by decide +kernel
theorem dX8_ofEdge_156 : decode cX8_ofEdge 156 = .ok (.getfield 26, 3) := by decide +kernel
theorem dX8_ofEdge_159 : decode cX8_ofEdge 159 = .ok (.getfield 178, 3) := by decide +kernel
theorem dX8_ofEdge_162 : decode cX8_ofEdge 162 = .ok (.iload_n 1, 1) := by decide +kernel
theorem dX8_ofEdge_163 : decode cX8_ofEdge 163 = .ok (.iaload, 1) := by decide +kernel
theorem dX8_ofEdge_164 : decode cX8_ofEdge 164 = .ok (.aload_n 0, 1) := by decide +kernel
theorem dX8_ofEdge_165 : decode cX8_ofEdge 165 = .ok (.getfield 26, 3) := by decide +kernel
theorem dX8_ofEdge_168 : decode cX8_ofEdge 168 = .ok (.getfield 181, 3) := by decide +kernel
theorem dX8_ofEdge_171 : decode cX8_ofEdge 171 = .ok (.iload_n 1, 1) := by decide +kernel
theorem dX8_ofEdge_172 : decode cX8_ofEdge 172 = .ok (.iaload, 1) := by decide +kernel
theorem dX8_ofEdge_173 : decode cX8_ofEdge 173 = .ok (.invokevirtual 102, 3) := by decide +kernel
theorem dX8_ofEdge_176 : decode cX8_ofEdge 176 = .ok (.ifCond .eq 7, 3) := by decide +kernel
theorem dX8_ofEdge_179 : decode cX8_ofEdge 179 = .ok (.iconst 1, 1) := by decide +kernel
theorem dX8_ofEdge_180 : decode cX8_ofEdge 180 = .ok (.goto 4, 3) := by decide +kernel
theorem dX8_ofEdge_183 : decode cX8_ofEdge 183 = .ok (.iconst 0, 1) := by decide +kernel
theorem dX8_ofEdge_184 : decode cX8_ofEdge 184 = .ok (.ireturn, 1) := by decide +kernel
theorem dX8_ofEdge_185 : decode cX8_ofEdge 185 = .ok (.bipush (-2), 2) := by decide +kernel
theorem dX8_ofEdge_187 : decode cX8_ofEdge 187 = .ok (.ireturn, 1) := by decide +kernel
theorem dX8_edge_0 : decode cX8_edge 0 = .ok (.aload_n 0, 1) := by decide +kernel
theorem dX8_edge_1 : decode cX8_edge 1 = .ok (.getfield 12, 3) := by decide +kernel
theorem dX8_edge_4 : decode cX8_edge 4 = .ok (.iload_n 1, 1) := by decide +kernel
theorem dX8_edge_5 : decode cX8_edge 5 = .ok (.invokevirtual 86, 3) := by decide +kernel
theorem dX8_edge_8 : decode cX8_edge 8 = .ok (.ifCond .eq 14, 3) := by decide +kernel
theorem dX8_edge_11 : decode cX8_edge 11 = .ok (.aload_n 0, 1) := by decide +kernel
theorem dX8_edge_12 : decode cX8_edge 12 = .ok (.getfield 12, 3) := by decide +kernel
theorem dX8_edge_15 : decode cX8_edge 15 = .ok (.iload_n 2, 1) := by decide +kernel
theorem dX8_edge_16 : decode cX8_edge 16 = .ok (.invokevirtual 86, 3) := by decide +kernel
theorem dX8_edge_19 : decode cX8_edge 19 = .ok (.ifCond .ne 5, 3) := by decide +kernel
theorem dX8_edge_22 : decode cX8_edge 22 = .ok (.iconst (-1), 1) := by decide +kernel
theorem dX8_edge_23 : decode cX8_edge 23 = .ok (.ireturn, 1) := by decide +kernel
theorem dX8_edge_24 : decode cX8_edge 24 = .ok (.aload_n 0, 1) := by decide +kernel
theorem dX8_edge_25 : decode cX8_edge 25 = .ok (.iconst 1, 1) := by decide +kernel
theorem dX8_edge_26 : decode cX8_edge 26 = .ok (.invokevirtual 149, 3) := by decide +kernel
theorem dX8_edge_29 : decode cX8_edge 29 = .ok (.aload_n 0, 1) := by decide +kernel
theorem dX8_edge_30 : decode cX8_edge 30 = .ok (.getfield 26, 3) := by decide +kernel
theorem dX8_edge_33 : decode cX8_edge 33 = .ok (.iload_n 1, 1) := by decide +kernel
theorem dX8_edge_34 : decode cX8_edge 34 = .ok (.iload_n 2, 1) := by decide +kernel
theorem dX8_edge_35 : decode cX8_edge 35 = .ok (.invokevirtual 208, 3) := by decide +kernel
theorem dX8_edge_38 : decode cX8_edge 38 = .ok (.ireturn, 1) := by decide +kernel
theorem dX8_stretch_0 : decode cX8_stretch 0 = .ok (.aload_n 0, 1) := by decide +kernel
theorem dX8_stretch_1 : decode cX8_stretch 1 = .ok (.iconst 1, 1) := by decide +kernel
theorem dX8_stretch_2 : decode cX8_stretch 2 = .ok (.invokevirtual 149, 3) := by decide +kernel
theorem dX8_stretch_5 : decode cX8_stretch 5 = .ok (.aload_n 0, 1) := by decide +kernel
theorem dX8_stretch_6 : decode cX8_stretch 6 = .ok (.getfield 26, 3) := by decide +kernel
theorem dX8_stretch_9 : decode cX8_stretch 9 = .ok (.iload_n 1, 1) := by decide +kernel
theorem dX8_stretch_10 : decode cX8_stretch 10 = .ok (.invokevirtual 175, 3) := by decide +kernel
theorem dX8_stretch_13 : decode cX8_stretch 13 = .ok (.ifCond .eq 14, 3) := by decide +kernel
theorem dX8_stretch_16 : decode cX8_stretch 16 = .ok (.aload_n 0, 1) := by decide +kernel
theorem dX8_stretch_17 : decode cX8_stretch 17 = .ok (.getfield 12, 3) := by decide +kernel
theorem dX8_stretch_20 : decode cX8_stretch 20 = .ok (.iload_n 2, 1) := by decide +kernel
theorem dX8_stretch_21 : decode cX8_stretch 21 = .ok (.invokevirtual 161, 3) := by decide +kernel
theorem dX8_stretch_24 : decode cX8_stretch 24 = .ok (.ifCond .ne 5, 3) := by decide +kernel
theorem dX8_stretch_27 : decode cX8_stretch 27 = .ok (.iconst (-1), 1) := by decide +kernel
theorem dX8_stretch_28 : decode cX8_stretch 28 = .ok (.ireturn, 1) := by decide +kernel
theorem dX8_stretch_29 : decode cX8_stretch 29 = .ok (.iload_n 3, 1) := by decide +kernel
theorem dX8_stretch_30 : decode cX8_stretch 30 = .ok (.ifCond .lt 8, 3) := by decide +kernel
theorem dX8_stretch_33 : decode cX8_stretch 33 = .ok (.iload_n 3, 1) := by decide +kernel
theorem dX8_stretch_34 : decode cX8_stretch 34 = .ok (.iconst 3, 1) := by decide +kernel
theorem dX8_stretch_35 : decode cX8_stretch 35 = .ok (.if_icmp .le 6, 3) := by decide +kernel
theorem dX8_stretch_38 : decode cX8_stretch 38 = .ok (.bipush (-2), 2) := by decide +kernel
theorem dX8_stretch_40 : decode cX8_stretch 40 = .ok (.ireturn, 1) := by decide +kernel
theorem dX8_stretch_41 : decode cX8_stretch 41 = .ok (.aload_n 0, 1) := by decide +kernel
theorem dX8_stretch_42 : decode cX8_stretch 42 = .ok (.getfield 19, 3) := by decide +kernel
theorem dX8_stretch_45 : decode cX8_stretch 45 = .ok (.aload_n 0, 1) := by decide +kernel
theorem dX8_stretch_46 : decode cX8_stretch 46 = .ok (.getfield 26, 3) := by decide +kernel
theorem dX8_stretch_49 : decode cX8_stretch 49 = .ok (.getfield 178, 3) := by decide +kernel
theorem dX8_stretch_52 : decode cX8_stretch 52 = .ok (.iload_n 1, 1) := by decide +kernel
theorem dX8_stretch_53 : decode cX8_stretch 53 = .ok (.iaload, 1) := by decide +kernel
theorem dX8_stretch_54 : decode cX8_stretch 54 = .ok (.aload_n 0, 1) := by decide +kernel
theorem dX8_stretch_55 : decode cX8_stretch 55 = .ok (.getfield 26, 3) := by decide +kernel
theorem dX8_stretch_58 : decode cX8_stretch 58 = .ok (.getfield 181, 3) := by decide +kernel
theorem dX8_stretch_61 : decode cX8_stretch 61 = .ok (.iload_n 1, 1) := by decide +kernel
theorem dX8_stretch_62 : decode cX8_stretch 62 = .ok (.iaload, 1) := by decide +kernel
theorem dX8_stretch_63 : decode cX8_stretch 63 = .ok (.iload_n 2, 1) := by decide +kernel
theorem dX8_stretch_64 : decode cX8_stretch 64 = .ok (.invokevirtual 211, 3) := by decide +kernel
theorem dX8_stretch_67 : decode cX8_stretch 67 = .ok (.lstore 4, 2) := by decide +kernel
theorem dX8_stretch_69 : decode cX8_stretch 69 = .ok (.aload_n 0, 1) := by decide +kernel
theorem dX8_stretch_70 : decode cX8_stretch 70 = .ok (.getfield 19, 3) := by decide +kernel
theorem dX8_stretch_73 : decode cX8_stretch 73 = .ok (.aload_n 0, 1) := by decide +kernel
theorem dX8_stretch_74 : decode cX8_stretch 74 = .ok (.getfield 26, 3) := by decide +kernel
theorem dX8_stretch_77 : decode cX8_stretch 77 = .ok (.getfield 178, 3) := by decide +kernel
theorem dX8_stretch_80 : decode cX8_stretch 80 = .ok (.iload_n 1, 1) := by decide +kernel
theorem dX8_stretch_81 : decode cX8_stretch 81 = .ok (.iaload, 1) := by decide +kernel
theorem dX8_stretch_82 : decode cX8_stretch 82 = .ok (.aload_n 0, 1) := by decide +kernel
theorem dX8_stretch_83 : decode cX8_stretch 83 = .ok (.getfield 26, 3) := by decide +kernel
theorem dX8_stretch_86 : decode cX8_stretch 86 = .ok (.getfield 181, 3) := by decide +kernel
theorem dX8_stretch_89 : decode cX8_stretch 89 = .ok (.iload_n 1, 1) := by decide +kernel
theorem dX8_stretch_90 : decode cX8_stretch 90 = .ok (.iaload, 1) := by decide +kernel
theorem dX8_stretch_91 : decode cX8_stretch 91 = .ok (.iload_n 2, 1) := by decide +kernel
theorem dX8_stretch_92 : decode cX8_stretch 92 = .ok (.invokevirtual 215, 3) := by decide +kernel
theorem dX8_stretch_95 : decode cX8_stretch 95 = .ok (.lstore 6, 2) := by decide +kernel
theorem dX8_stretch_97 : decode cX8_stretch 97 = .ok (.lload 4, 2) := by decide +kernel
theorem dX8_stretch_99 : decode cX8_stretch 99 = .ok (.lload 6, 2) := by decide +kernel
theorem dX8_stretch_101 : decode cX8_stretch 101 = .ok (.invokestatic 218, 3) := by decide +kernel
theorem dX8_stretch_104 : decode cX8_stretch 104 = .ok (.ifCond .ne 6, 3) := by decide +kernel
theorem dX8_stretch_107 : decode cX8_stretch 107 = .ok (.bipush (-9), 2) := by decide +kernel
theorem dX8_stretch_109 : decode cX8_stretch 109 = .ok (.ireturn, 1) := by decide +kernel
theorem dX8_stretch_110 : decode cX8_stretch 110 = .ok (.iload_n 3, 1) := by decide +kernel
theorem dX8_stretch_111 : decode cX8_stretch 111 = .ok (.iconst 2, 1) := by decide +kernel
theorem dX8_stretch_112 : decode cX8_stretch 112 = .ok (.if_icmp .ge 8, 3) := by decide +kernel
theorem dX8_stretch_115 : decode cX8_stretch 115 = .ok (.lload 4, 2) := by decide +kernel
theorem dX8_stretch_117 : decode cX8_stretch 117 = .ok (.goto 5, 3) := by decide +kernel
theorem dX8_stretch_120 : decode cX8_stretch 120 = .ok (.lload 6, 2) := by decide +kernel
theorem dX8_stretch_122 : decode cX8_stretch 122 = .ok (.iload_n 3, 1) := by decide +kernel
theorem dX8_stretch_123 : decode cX8_stretch 123 = .ok (.iconst 1, 1) := by decide +kernel
theorem dX8_stretch_124 : decode cX8_stretch 124 = .ok (.iand, 1) := by decide +kernel
theorem dX8_stretch_125 : decode cX8_stretch 125 = .ok (.invokestatic 224, 3) := by decide +kernel
theorem dX8_stretch_128 : decode cX8_stretch 128 = .ok (.ireturn, 1) := by decide +kernel
theorem dX8_hidden_0 : decode cX8_hidden 0 = .ok (.aload_n 0, 1) := by decide +kernel
theorem dX8_hidden_1 : decode cX8_hidden 1 = .ok (.iconst 1, 1) := by decide +kernel
theorem dX8_hidden_2 : decode cX8_hidden 2 = .ok (.invokevirtual 149, 3) := by decide +kernel
theorem dX8_hidden_5 : decode cX8_hidden 5 = .ok (.aload_n 0, 1) := by decide +kernel
theorem dX8_hidden_6 : decode cX8_hidden 6 = .ok (.getfield 26, 3) := by decide +kernel
theorem dX8_hidden_9 : decode cX8_hidden 9 = .ok (.iload_n 1, 1) := by decide +kernel
theorem dX8_hidden_10 : decode cX8_hidden 10 = .ok (.invokevirtual 175, 3) := by decide +kernel
theorem dX8_hidden_13 : decode cX8_hidden 13 = .ok (.ifCond .ne 5, 3) := by decide +kernel
theorem dX8_hidden_16 : decode cX8_hidden 16 = .ok (.iconst (-1), 1) := by decide +kernel
theorem dX8_hidden_17 : decode cX8_hidden 17 = .ok (.ireturn, 1) := by decide +kernel
theorem dX8_hidden_18 : decode cX8_hidden 18 = .ok (.iload_n 3, 1) := by decide +kernel
theorem dX8_hidden_19 : decode cX8_hidden 19 = .ok (.iconst 1, 1) := by decide +kernel
theorem dX8_hidden_20 : decode cX8_hidden 20 = .ok (.if_icmp .lt 19, 3) := by decide +kernel
theorem dX8_hidden_23 : decode cX8_hidden 23 = .ok (.iload_n 3, 1) := by decide +kernel
theorem dX8_hidden_24 : decode cX8_hidden 24 = .ok (.sipush 1000, 3) := by decide +kernel
theorem dX8_hidden_27 : decode cX8_hidden 27 = .ok (.if_icmp .gt 12, 3) := by decide +kernel
theorem dX8_hidden_30 : decode cX8_hidden 30 = .ok (.iload_n 2, 1) := by decide +kernel
theorem dX8_hidden_31 : decode cX8_hidden 31 = .ok (.ifCond .lt 8, 3) := by decide +kernel
theorem dX8_hidden_34 : decode cX8_hidden 34 = .ok (.iload_n 2, 1) := by decide +kernel
theorem dX8_hidden_35 : decode cX8_hidden 35 = .ok (.iload_n 3, 1) := by decide +kernel
theorem dX8_hidden_36 : decode cX8_hidden 36 = .ok (.if_icmp .le 6, 3) := by decide +kernel
theorem dX8_hidden_39 : decode cX8_hidden 39 = .ok (.bipush (-2), 2) := by decide +kernel
theorem dX8_hidden_41 : decode cX8_hidden 41 = .ok (.ireturn, 1) := by decide +kernel
theorem dX8_hidden_42 : decode cX8_hidden 42 = .ok (.aload_n 0, 1) := by decide +kernel
theorem dX8_hidden_43 : decode cX8_hidden 43 = .ok (.getfield 19, 3) := by decide +kernel
theorem dX8_hidden_46 : decode cX8_hidden 46 = .ok (.aload_n 0, 1) := by decide +kernel
theorem dX8_hidden_47 : decode cX8_hidden 47 = .ok (.getfield 26, 3) := by decide +kernel
theorem dX8_hidden_50 : decode cX8_hidden 50 = .ok (.getfield 178, 3) := by decide +kernel
theorem dX8_hidden_53 : decode cX8_hidden 53 = .ok (.iload_n 1, 1) := by decide +kernel
theorem dX8_hidden_54 : decode cX8_hidden 54 = .ok (.iaload, 1) := by decide +kernel
theorem dX8_hidden_55 : decode cX8_hidden 55 = .ok (.aload_n 0, 1) := by decide +kernel
theorem dX8_hidden_56 : decode cX8_hidden 56 = .ok (.getfield 26, 3) := by decide +kernel
theorem dX8_hidden_59 : decode cX8_hidden 59 = .ok (.getfield 181, 3) := by decide +kernel
theorem dX8_hidden_62 : decode cX8_hidden 62 = .ok (.iload_n 1, 1) := by decide +kernel
theorem dX8_hidden_63 : decode cX8_hidden 63 = .ok (.iaload, 1) := by decide +kernel
theorem dX8_hidden_64 : decode cX8_hidden 64 = .ok (.iload_n 2, 1) := by decide +kernel
theorem dX8_hidden_65 : decode cX8_hidden 65 = .ok (.iload_n 3, 1) := by decide +kernel
theorem dX8_hidden_66 : decode cX8_hidden 66 = .ok (.invokevirtual 153, 3) := by decide +kernel
theorem dX8_hidden_69 : decode cX8_hidden 69 = .ok (.ireturn, 1) := by decide +kernel
theorem dX8_piece_0 : decode cX8_piece 0 = .ok (.aload_n 0, 1) := by decide +kernel
theorem dX8_piece_1 : decode cX8_piece 1 = .ok (.iconst 1, 1) := by decide +kernel
theorem dX8_piece_2 : decode cX8_piece 2 = .ok (.invokevirtual 149, 3) := by decide +kernel
theorem dX8_piece_5 : decode cX8_piece 5 = .ok (.aload_n 0, 1) := by decide +kernel
theorem dX8_piece_6 : decode cX8_piece 6 = .ok (.getfield 26, 3) := by decide +kernel
theorem dX8_piece_9 : decode cX8_piece 9 = .ok (.iload_n 1, 1) := by decide +kernel
theorem dX8_piece_10 : decode cX8_piece 10 = .ok (.invokevirtual 175, 3) := by decide +kernel
theorem dX8_piece_13 : decode cX8_piece 13 = .ok (.ifCond .ne 5, 3) := by decide +kernel
theorem dX8_piece_16 : decode cX8_piece 16 = .ok (.iconst (-1), 1) := by decide +kernel
theorem dX8_piece_17 : decode cX8_piece 17 = .ok (.ireturn, 1) := by decide +kernel
theorem dX8_piece_18 : decode cX8_piece 18 = .ok (.aload_n 0, 1) := by decide +kernel
theorem dX8_piece_19 : decode cX8_piece 19 = .ok (.getfield 33, 3) := by decide +kernel
theorem dX8_piece_22 : decode cX8_piece 22 = .ok (.iload_n 1, 1) := by decide +kernel
theorem dX8_piece_23 : decode cX8_piece 23 = .ok (.aload_n 0, 1) := by decide +kernel
theorem dX8_piece_24 : decode cX8_piece 24 = .ok (.getfield 26, 3) := by decide +kernel
theorem dX8_piece_27 : decode cX8_piece 27 = .ok (.aload_n 0, 1) := by decide +kernel
theorem dX8_piece_28 : decode cX8_piece 28 = .ok (.getfield 19, 3) := by decide +kernel
theorem dX8_piece_31 : decode cX8_piece 31 = .ok (.invokevirtual 190, 3) := by decide +kernel
theorem dX8_piece_34 : decode cX8_piece 34 = .ok (.iload_n 2, 1) := by decide +kernel
theorem dX8_piece_35 : decode cX8_piece 35 = .ok (.ifCond .lt 14, 3) := by decide +kernel
theorem dX8_piece_38 : decode cX8_piece 38 = .ok (.iload_n 2, 1) := by decide +kernel
theorem dX8_piece_39 : decode cX8_piece 39 = .ok (.aload_n 0, 1) := by decide +kernel
theorem dX8_piece_40 : decode cX8_piece 40 = .ok (.getfield 33, 3) := by decide +kernel
theorem dX8_piece_43 : decode cX8_piece 43 = .ok (.invokevirtual 194, 3) := by decide +kernel
theorem dX8_piece_46 : decode cX8_piece 46 = .ok (.if_icmp .lt 5, 3) := by decide +kernel
theorem dX8_piece_49 : decode cX8_piece 49 = .ok (.iconst (-1), 1) := by decide +kernel
theorem dX8_piece_50 : decode cX8_piece 50 = .ok (.ireturn, 1) := by decide +kernel
theorem dX8_piece_51 : decode cX8_piece 51 = .ok (.iload_n 3, 1) := by decide +kernel
theorem dX8_piece_52 : decode cX8_piece 52 = .ok (.tableswitch 78 0 4 #[36, 36, 50, 50, 68], 36) := by decide +kernel
theorem dX8_piece_88 : decode cX8_piece 88 = .ok (.aload_n 0, 1) := by decide +kernel
theorem dX8_piece_89 : decode cX8_piece 89 = .ok (.getfield 33, 3) := by decide +kernel
theorem dX8_piece_92 : decode cX8_piece 92 = .ok (.getfield 228, 3) := by decide +kernel
theorem dX8_piece_95 : decode cX8_piece 95 = .ok (.iload_n 2, 1) := by decide +kernel
theorem dX8_piece_96 : decode cX8_piece 96 = .ok (.laload, 1) := by decide +kernel
theorem dX8_piece_97 : decode cX8_piece 97 = .ok (.iload_n 3, 1) := by decide +kernel
theorem dX8_piece_98 : decode cX8_piece 98 = .ok (.invokestatic 224, 3) := by decide +kernel
theorem dX8_piece_101 : decode cX8_piece 101 = .ok (.ireturn, 1) := by decide +kernel
theorem dX8_piece_102 : decode cX8_piece 102 = .ok (.aload_n 0, 1) := by decide +kernel
theorem dX8_piece_103 : decode cX8_piece 103 = .ok (.getfield 33, 3) := by decide +kernel
theorem dX8_piece_106 : decode cX8_piece 106 = .ok (.getfield 228, 3) := by decide +kernel
theorem dX8_piece_109 : decode cX8_piece 109 = .ok (.iload_n 2, 1) := by decide +kernel
theorem dX8_piece_110 : decode cX8_piece 110 = .ok (.iconst 1, 1) := by decide +kernel
theorem dX8_piece_111 : decode cX8_piece 111 = .ok (.iadd, 1) := by decide +kernel
theorem dX8_piece_112 : decode cX8_piece 112 = .ok (.laload, 1) := by decide +kernel
theorem dX8_piece_113 : decode cX8_piece 113 = .ok (.iload_n 3, 1) := by decide +kernel
theorem dX8_piece_114 : decode cX8_piece 114 = .ok (.iconst 2, 1) := by decide +kernel
theorem dX8_piece_115 : decode cX8_piece 115 = .ok (.isub, 1) := by decide +kernel
theorem dX8_piece_116 : decode cX8_piece 116 = .ok (.invokestatic 224, 3) := by decide +kernel
theorem dX8_piece_119 : decode cX8_piece 119 = .ok (.ireturn, 1) := by decide +kernel
theorem dX8_piece_120 : decode cX8_piece 120 = .ok (.aload_n 0, 1) := by decide +kernel
theorem dX8_piece_121 : decode cX8_piece 121 = .ok (.getfield 33, 3) := by decide +kernel
theorem dX8_piece_124 : decode cX8_piece 124 = .ok (.getfield 232, 3) := by decide +kernel
theorem dX8_piece_127 : decode cX8_piece 127 = .ok (.iload_n 2, 1) := by decide +kernel
theorem dX8_piece_128 : decode cX8_piece 128 = .ok (.iaload, 1) := by decide +kernel
theorem dX8_piece_129 : decode cX8_piece 129 = .ok (.ireturn, 1) := by decide +kernel
theorem dX8_piece_130 : decode cX8_piece 130 = .ok (.bipush (-2), 2) := by decide +kernel
theorem dX8_piece_132 : decode cX8_piece 132 = .ok (.ireturn, 1) := by decide +kernel
theorem dX8_crossing_0 : decode cX8_crossing 0 = .ok (.aload_n 0, 1) := by decide +kernel
theorem dX8_crossing_1 : decode cX8_crossing 1 = .ok (.iconst 1, 1) := by decide +kernel
theorem dX8_crossing_2 : decode cX8_crossing 2 = .ok (.invokevirtual 149, 3) := by decide +kernel
theorem dX8_crossing_5 : decode cX8_crossing 5 = .ok (.aload_n 0, 1) := by decide +kernel
theorem dX8_crossing_6 : decode cX8_crossing 6 = .ok (.getfield 26, 3) := by decide +kernel
theorem dX8_crossing_9 : decode cX8_crossing 9 = .ok (.iload_n 1, 1) := by decide +kernel
theorem dX8_crossing_10 : decode cX8_crossing 10 = .ok (.invokevirtual 175, 3) := by decide +kernel
theorem dX8_crossing_13 : decode cX8_crossing 13 = .ok (.ifCond .eq 14, 3) := by decide +kernel
theorem dX8_crossing_16 : decode cX8_crossing 16 = .ok (.aload_n 0, 1) := by decide +kernel
theorem dX8_crossing_17 : decode cX8_crossing 17 = .ok (.getfield 26, 3) := by decide +kernel
theorem dX8_crossing_20 : decode cX8_crossing 20 = .ok (.iload_n 2, 1) := by decide +kernel
theorem dX8_crossing_21 : decode cX8_crossing 21 = .ok (.invokevirtual 175, 3) := by decide +kernel
theorem dX8_crossing_24 : decode cX8_crossing 24 = .ok (.ifCond .ne 5, 3) := by decide +kernel
theorem dX8_crossing_27 : decode cX8_crossing 27 = .ok (.iconst (-1), 1) := by decide +kernel
theorem dX8_crossing_28 : decode cX8_crossing 28 = .ok (.ireturn, 1) := by decide +kernel
theorem dX8_crossing_29 : decode cX8_crossing 29 = .ok (.iload_n 3, 1) := by decide +kernel
theorem dX8_crossing_30 : decode cX8_crossing 30 = .ok (.ifCond .lt 8, 3) := by decide +kernel
theorem dX8_crossing_33 : decode cX8_crossing 33 = .ok (.iload_n 3, 1) := by decide +kernel
theorem dX8_crossing_34 : decode cX8_crossing 34 = .ok (.iconst 4, 1) := by decide +kernel
theorem dX8_crossing_35 : decode cX8_crossing 35 = .ok (.if_icmp .le 6, 3) := by decide +kernel
theorem dX8_crossing_38 : decode cX8_crossing 38 = .ok (.bipush (-2), 2) := by decide +kernel
theorem dX8_crossing_40 : decode cX8_crossing 40 = .ok (.ireturn, 1) := by decide +kernel
theorem dX8_crossing_41 : decode cX8_crossing 41 = .ok (.iload_n 1, 1) := by decide +kernel
theorem dX8_crossing_42 : decode cX8_crossing 42 = .ok (.iload_n 2, 1) := by decide +kernel
theorem dX8_crossing_43 : decode cX8_crossing 43 = .ok (.if_icmp .ne 6, 3) := by decide +kernel
theorem dX8_crossing_46 : decode cX8_crossing 46 = .ok (.bipush (-3), 2) := by decide +kernel
theorem dX8_crossing_48 : decode cX8_crossing 48 = .ok (.ireturn, 1) := by decide +kernel
theorem dX8_crossing_49 : decode cX8_crossing 49 = .ok (.aload_n 0, 1) := by decide +kernel
theorem dX8_crossing_50 : decode cX8_crossing 50 = .ok (.getfield 54, 3) := by decide +kernel
theorem dX8_crossing_53 : decode cX8_crossing 53 = .ok (.iload_n 1, 1) := by decide +kernel
theorem dX8_crossing_54 : decode cX8_crossing 54 = .ok (.iload_n 2, 1) := by decide +kernel
theorem dX8_crossing_55 : decode cX8_crossing 55 = .ok (.aload_n 0, 1) := by decide +kernel
theorem dX8_crossing_56 : decode cX8_crossing 56 = .ok (.getfield 26, 3) := by decide +kernel
theorem dX8_crossing_59 : decode cX8_crossing 59 = .ok (.aload_n 0, 1) := by decide +kernel
theorem dX8_crossing_60 : decode cX8_crossing 60 = .ok (.getfield 19, 3) := by decide +kernel
theorem dX8_crossing_63 : decode cX8_crossing 63 = .ok (.invokevirtual 235, 3) := by decide +kernel
theorem dX8_crossing_66 : decode cX8_crossing 66 = .ok (.ifCond .ne 6, 3) := by decide +kernel
theorem dX8_crossing_69 : decode cX8_crossing 69 = .ok (.bipush (-9), 2) := by decide +kernel
theorem dX8_crossing_71 : decode cX8_crossing 71 = .ok (.ireturn, 1) := by decide +kernel
theorem dX8_crossing_72 : decode cX8_crossing 72 = .ok (.iload_n 3, 1) := by decide +kernel
theorem dX8_crossing_73 : decode cX8_crossing 73 = .ok (.iconst 4, 1) := by decide +kernel
theorem dX8_crossing_74 : decode cX8_crossing 74 = .ok (.if_icmp .ne 34, 3) := by decide +kernel
theorem dX8_crossing_77 : decode cX8_crossing 77 = .ok (.aload_n 0, 1) := by decide +kernel
theorem dX8_crossing_78 : decode cX8_crossing 78 = .ok (.getfield 54, 3) := by decide +kernel
theorem dX8_crossing_81 : decode cX8_crossing 81 = .ok (.getfield 239, 3) := by decide +kernel
theorem dX8_crossing_84 : decode cX8_crossing 84 = .ok (.ifCond .le 7, 3) := by decide +kernel
theorem dX8_crossing_87 : decode cX8_crossing 87 = .ok (.iload_n 1, 1) := by decide +kernel
theorem dX8_crossing_88 : decode cX8_crossing 88 = .ok (.goto 19, 3) := by decide +kernel
theorem dX8_crossing_91 : decode cX8_crossing 91 = .ok (.aload_n 0, 1) := by decide +kernel
theorem dX8_crossing_92 : decode cX8_crossing 92 = .ok (.getfield 54, 3) := by decide +kernel
theorem dX8_crossing_95 : decode cX8_crossing 95 = .ok (.getfield 239, 3) := by decide +kernel
theorem dX8_crossing_98 : decode cX8_crossing 98 = .ok (.ifCond .ge 7, 3) := by decide +kernel
theorem dX8_crossing_101 : decode cX8_crossing 101 = .ok (.iload_n 2, 1) := by decide +kernel
theorem dX8_crossing_102 : decode cX8_crossing 102 = .ok (.goto 5, 3) := by decide +kernel
theorem dX8_crossing_105 : decode cX8_crossing 105 = .ok (.bipush (-9), 2) := by decide +kernel
theorem dX8_crossing_107 : decode cX8_crossing 107 = .ok (.ireturn, 1) := by decide +kernel
theorem dX8_crossing_108 : decode cX8_crossing 108 = .ok (.iload_n 3, 1) := by decide +kernel
theorem dX8_crossing_109 : decode cX8_crossing 109 = .ok (.iconst 2, 1) := by decide +kernel
theorem dX8_crossing_110 : decode cX8_crossing 110 = .ok (.if_icmp .ge 13, 3) := by decide +kernel
theorem dX8_crossing_113 : decode cX8_crossing 113 = .ok (.aload_n 0, 1) := by decide +kernel
theorem dX8_crossing_114 : decode cX8_crossing 114 = .ok (.getfield 54, 3) := by decide +kernel
theorem dX8_crossing_117 : decode cX8_crossing 117 = .ok (.getfield 242, 3) := by decide +kernel
theorem dX8_crossing_120 : decode cX8_crossing 120 = .ok (.goto 10, 3) := by decide +kernel
theorem dX8_crossing_123 : decode cX8_crossing 123 = .ok (.aload_n 0, 1) := by decide +kernel
theorem dX8_crossing_124 : decode cX8_crossing 124 = .ok (.getfield 54, 3) := by decide +kernel
theorem dX8_crossing_127 : decode cX8_crossing 127 = .ok (.getfield 245, 3) := by decide +kernel
theorem dX8_crossing_130 : decode cX8_crossing 130 = .ok (.istore 4, 2) := by decide +kernel
theorem dX8_crossing_132 : decode cX8_crossing 132 = .ok (.iload 4, 2) := by decide +kernel
theorem dX8_crossing_134 : decode cX8_crossing 134 = .ok (.aload_n 0, 1) := by decide +kernel
theorem dX8_crossing_135 : decode cX8_crossing 135 = .ok (.getfield 54, 3) := by decide +kernel
theorem dX8_crossing_138 : decode cX8_crossing 138 = .ok (.getfield 248, 3) := by decide +kernel
theorem dX8_crossing_141 : decode cX8_crossing 141 = .ok (.invokestatic 251, 3) := by decide +kernel
theorem dX8_crossing_144 : decode cX8_crossing 144 = .ok (.invokestatic 255, 3) := by decide +kernel
theorem dX8_crossing_147 : decode cX8_crossing 147 = .ok (.iload_n 3, 1) := by decide +kernel
theorem dX8_crossing_148 : decode cX8_crossing 148 = .ok (.iconst 1, 1) := by decide +kernel
theorem dX8_crossing_149 : decode cX8_crossing 149 = .ok (.iand, 1) := by decide +kernel
theorem dX8_crossing_150 : decode cX8_crossing 150 = .ok (.invokestatic 224, 3) := by decide +kernel
theorem dX8_crossing_153 : decode cX8_crossing 153 = .ok (.ireturn, 1) := by decide +kernel
theorem dX8_stroke_0 : decode cX8_stroke 0 = .ok (.aload_n 0, 1) := by decide +kernel
theorem dX8_stroke_1 : decode cX8_stroke 1 = .ok (.iconst 3, 1) := by decide +kernel
theorem dX8_stroke_2 : decode cX8_stroke 2 = .ok (.invokevirtual 149, 3) := by decide +kernel
theorem dX8_stroke_5 : decode cX8_stroke 5 = .ok (.aload_n 0, 1) := by decide +kernel
theorem dX8_stroke_6 : decode cX8_stroke 6 = .ok (.getfield 47, 3) := by decide +kernel
theorem dX8_stroke_9 : decode cX8_stroke 9 = .ok (.iload_n 1, 1) := by decide +kernel
theorem dX8_stroke_10 : decode cX8_stroke 10 = .ok (.invokevirtual 259, 3) := by decide +kernel
theorem dX8_stroke_13 : decode cX8_stroke 13 = .ok (.ifCond .ne 5, 3) := by decide +kernel
theorem dX8_stroke_16 : decode cX8_stroke 16 = .ok (.iconst (-1), 1) := by decide +kernel
theorem dX8_stroke_17 : decode cX8_stroke 17 = .ok (.ireturn, 1) := by decide +kernel
theorem dX8_stroke_18 : decode cX8_stroke 18 = .ok (.iload_n 2, 1) := by decide +kernel
theorem dX8_stroke_19 : decode cX8_stroke 19 = .ok (.tableswitch 64 0 2 #[25, 34, 47], 25) := by decide +kernel
theorem dX8_stroke_44 : decode cX8_stroke 44 = .ok (.aload_n 0, 1) := by decide +kernel
theorem dX8_stroke_45 : decode cX8_stroke 45 = .ok (.getfield 47, 3) := by decide +kernel
theorem dX8_stroke_48 : decode cX8_stroke 48 = .ok (.iload_n 1, 1) := by decide +kernel
theorem dX8_stroke_49 : decode cX8_stroke 49 = .ok (.invokevirtual 260, 3) := by decide +kernel
theorem dX8_stroke_52 : decode cX8_stroke 52 = .ok (.ireturn, 1) := by decide +kernel
theorem dX8_stroke_53 : decode cX8_stroke 53 = .ok (.aload_n 0, 1) := by decide +kernel
theorem dX8_stroke_54 : decode cX8_stroke 54 = .ok (.getfield 47, 3) := by decide +kernel
theorem dX8_stroke_57 : decode cX8_stroke 57 = .ok (.iload_n 1, 1) := by decide +kernel
theorem dX8_stroke_58 : decode cX8_stroke 58 = .ok (.aload_n 0, 1) := by decide +kernel
theorem dX8_stroke_59 : decode cX8_stroke 59 = .ok (.getfield 26, 3) := by decide +kernel
theorem dX8_stroke_62 : decode cX8_stroke 62 = .ok (.invokevirtual 263, 3) := by decide +kernel
theorem dX8_stroke_65 : decode cX8_stroke 65 = .ok (.ireturn, 1) := by decide +kernel
theorem dX8_stroke_66 : decode cX8_stroke 66 = .ok (.aload_n 0, 1) := by decide +kernel
theorem dX8_stroke_67 : decode cX8_stroke 67 = .ok (.getfield 47, 3) := by decide +kernel
theorem dX8_stroke_70 : decode cX8_stroke 70 = .ok (.iload_n 1, 1) := by decide +kernel
theorem dX8_stroke_71 : decode cX8_stroke 71 = .ok (.aload_n 0, 1) := by decide +kernel
theorem dX8_stroke_72 : decode cX8_stroke 72 = .ok (.getfield 26, 3) := by decide +kernel
theorem dX8_stroke_75 : decode cX8_stroke 75 = .ok (.aload_n 0, 1) := by decide +kernel
theorem dX8_stroke_76 : decode cX8_stroke 76 = .ok (.getfield 40, 3) := by decide +kernel
theorem dX8_stroke_79 : decode cX8_stroke 79 = .ok (.invokevirtual 267, 3) := by decide +kernel
theorem dX8_stroke_82 : decode cX8_stroke 82 = .ok (.ireturn, 1) := by decide +kernel
theorem dX8_stroke_83 : decode cX8_stroke 83 = .ok (.bipush (-2), 2) := by decide +kernel
theorem dX8_stroke_85 : decode cX8_stroke 85 = .ok (.ireturn, 1) := by decide +kernel
theorem dX8_strokePiece_0 : decode cX8_strokePiece 0 = .ok (.aload_n 0, 1) := by decide +kernel
theorem dX8_strokePiece_1 : decode cX8_strokePiece 1 = .ok (.iconst 3, 1) := by decide +kernel
theorem dX8_strokePiece_2 : decode cX8_strokePiece 2 = .ok (.invokevirtual 149, 3) := by decide +kernel
theorem dX8_strokePiece_5 : decode cX8_strokePiece 5 = .ok (.aload_n 0, 1) := by decide +kernel
theorem dX8_strokePiece_6 : decode cX8_strokePiece 6 = .ok (.getfield 47, 3) := by decide +kernel
theorem dX8_strokePiece_9 : decode cX8_strokePiece 9 = .ok (.iload_n 1, 1) := by decide +kernel
theorem dX8_strokePiece_10 : decode cX8_strokePiece 10 = .ok (.invokevirtual 259, 3) := by decide +kernel
theorem dX8_strokePiece_13 : decode cX8_strokePiece 13 = .ok (.ifCond .eq 19, 3) := by decide +kernel
theorem dX8_strokePiece_16 : decode cX8_strokePiece 16 = .ok (.iload_n 2, 1) := by decide +kernel
theorem dX8_strokePiece_17 : decode cX8_strokePiece 17 = .ok (.ifCond .lt 15, 3) := by decide +kernel
theorem dX8_strokePiece_20 : decode cX8_strokePiece 20 = .ok (.iload_n 2, 1) := by decide +kernel
theorem dX8_strokePiece_21 : decode cX8_strokePiece 21 = .ok (.aload_n 0, 1) := by decide +kernel
theorem dX8_strokePiece_22 : decode cX8_strokePiece 22 = .ok (.getfield 47, 3) := by decide +kernel
theorem dX8_strokePiece_25 : decode cX8_strokePiece 25 = .ok (.iload_n 1, 1) := by decide +kernel
theorem dX8_strokePiece_26 : decode cX8_strokePiece 26 = .ok (.invokevirtual 260, 3) := by decide +kernel
theorem dX8_strokePiece_29 : decode cX8_strokePiece 29 = .ok (.if_icmp .lt 5, 3) := by decide +kernel
theorem dX8_strokePiece_32 : decode cX8_strokePiece 32 = .ok (.iconst (-1), 1) := by decide +kernel
theorem dX8_strokePiece_33 : decode cX8_strokePiece 33 = .ok (.ireturn, 1) := by decide +kernel
theorem dX8_strokePiece_34 : decode cX8_strokePiece 34 = .ok (.aload_n 0, 1) := by decide +kernel
theorem dX8_strokePiece_35 : decode cX8_strokePiece 35 = .ok (.getfield 47, 3) := by decide +kernel
theorem dX8_strokePiece_38 : decode cX8_strokePiece 38 = .ok (.getfield 271, 3) := by decide +kernel
theorem dX8_strokePiece_41 : decode cX8_strokePiece 41 = .ok (.aload_n 0, 1) := by decide +kernel
theorem dX8_strokePiece_42 : decode cX8_strokePiece 42 = .ok (.getfield 47, 3) := by decide +kernel
theorem dX8_strokePiece_45 : decode cX8_strokePiece 45 = .ok (.getfield 274, 3) := by decide +kernel
theorem dX8_strokePiece_48 : decode cX8_strokePiece 48 = .ok (.iload_n 1, 1) := by decide +kernel
theorem dX8_strokePiece_49 : decode cX8_strokePiece 49 = .ok (.iaload, 1) := by decide +kernel
theorem dX8_strokePiece_50 : decode cX8_strokePiece 50 = .ok (.iload_n 2, 1) := by decide +kernel
theorem dX8_strokePiece_51 : decode cX8_strokePiece 51 = .ok (.iadd, 1) := by decide +kernel
theorem dX8_strokePiece_52 : decode cX8_strokePiece 52 = .ok (.iaload, 1) := by decide +kernel
theorem dX8_strokePiece_53 : decode cX8_strokePiece 53 = .ok (.istore 4, 2) := by decide +kernel
theorem dX8_strokePiece_55 : decode cX8_strokePiece 55 = .ok (.iload_n 3, 1) := by decide +kernel
theorem dX8_strokePiece_56 : decode cX8_strokePiece 56 = .ok (.tableswitch 54 0 2 #[28, 34, 40], 28) := by decide +kernel
theorem dX8_strokePiece_84 : decode cX8_strokePiece 84 = .ok (.iload 4, 2) := by decide +kernel
theorem dX8_strokePiece_86 : decode cX8_strokePiece 86 = .ok (.invokestatic 277, 3) := by decide +kernel
theorem dX8_strokePiece_89 : decode cX8_strokePiece 89 = .ok (.ireturn, 1) := by decide +kernel
theorem dX8_strokePiece_90 : decode cX8_strokePiece 90 = .ok (.iload 4, 2) := by decide +kernel
theorem dX8_strokePiece_92 : decode cX8_strokePiece 92 = .ok (.invokestatic 280, 3) := by decide +kernel
theorem dX8_strokePiece_95 : decode cX8_strokePiece 95 = .ok (.ireturn, 1) := by decide +kernel
theorem dX8_strokePiece_96 : decode cX8_strokePiece 96 = .ok (.iload 4, 2) := by decide +kernel
theorem dX8_strokePiece_98 : decode cX8_strokePiece 98 = .ok (.invokestatic 283, 3) := by decide +kernel
theorem dX8_strokePiece_101 : decode cX8_strokePiece 101 = .ok (.ifCond .eq 7, 3) := by decide +kernel
theorem dX8_strokePiece_104 : decode cX8_strokePiece 104 = .ok (.iconst 1, 1) := by decide +kernel
theorem dX8_strokePiece_105 : decode cX8_strokePiece 105 = .ok (.goto 4, 3) := by decide +kernel
theorem dX8_strokePiece_108 : decode cX8_strokePiece 108 = .ok (.iconst 0, 1) := by decide +kernel
theorem dX8_strokePiece_109 : decode cX8_strokePiece 109 = .ok (.ireturn, 1) := by decide +kernel
theorem dX8_strokePiece_110 : decode cX8_strokePiece 110 = .ok (.bipush (-2), 2) := by decide +kernel
theorem dX8_strokePiece_112 : decode cX8_strokePiece 112 = .ok (.ireturn, 1) := by decide +kernel
theorem dX8_many_0 : decode cX8_many 0 = .ok (.iload_n 1, 1) := by decide +kernel
theorem dX8_many_1 : decode cX8_many 1 = .ok (.ifCond .lt 9, 3) := by decide +kernel
theorem dX8_many_4 : decode cX8_many 4 = .ok (.iload_n 1, 1) := by decide +kernel
theorem dX8_many_5 : decode cX8_many 5 = .ok (.bipush 11, 2) := by decide +kernel
theorem dX8_many_7 : decode cX8_many 7 = .ok (.if_icmp .le 6, 3) := by decide +kernel
theorem dX8_many_10 : decode cX8_many 10 = .ok (.bipush (-2), 2) := by decide +kernel
theorem dX8_many_12 : decode cX8_many 12 = .ok (.ireturn, 1) := by decide +kernel
theorem dX8_many_13 : decode cX8_many 13 = .ok (.aload_n 0, 1) := by decide +kernel
theorem dX8_many_14 : decode cX8_many 14 = .ok (.iload_n 1, 1) := by decide +kernel
theorem dX8_many_15 : decode cX8_many 15 = .ok (.invokestatic 286, 3) := by decide +kernel
theorem dX8_many_18 : decode cX8_many 18 = .ok (.invokevirtual 149, 3) := by decide +kernel
theorem dX8_many_21 : decode cX8_many 21 = .ok (.iload_n 1, 1) := by decide +kernel
theorem dX8_many_22 : decode cX8_many 22 = .ok (.tableswitch 145 0 10 #[58, 66, 74, 82, 90, 98, 106, 115, 124, 132, 140], 58) := by decide +kernel
theorem dX8_many_80 : decode cX8_many 80 = .ok (.aload_n 0, 1) := by decide +kernel
theorem dX8_many_81 : decode cX8_many 81 = .ok (.getfield 12, 3) := by decide +kernel
theorem dX8_many_84 : decode cX8_many 84 = .ok (.getfield 77, 3) := by decide +kernel
theorem dX8_many_87 : decode cX8_many 87 = .ok (.ireturn, 1) := by decide +kernel
theorem dX8_many_88 : decode cX8_many 88 = .ok (.aload_n 0, 1) := by decide +kernel
theorem dX8_many_89 : decode cX8_many 89 = .ok (.getfield 12, 3) := by decide +kernel
theorem dX8_many_92 : decode cX8_many 92 = .ok (.getfield 96, 3) := by decide +kernel
theorem dX8_many_95 : decode cX8_many 95 = .ok (.ireturn, 1) := by decide +kernel
theorem dX8_many_96 : decode cX8_many 96 = .ok (.aload_n 0, 1) := by decide +kernel
theorem dX8_many_97 : decode cX8_many 97 = .ok (.getfield 12, 3) := by decide +kernel
theorem dX8_many_100 : decode cX8_many 100 = .ok (.getfield 106, 3) := by decide +kernel
theorem dX8_many_103 : decode cX8_many 103 = .ok (.ireturn, 1) := by decide +kernel
theorem dX8_many_104 : decode cX8_many 104 = .ok (.aload_n 0, 1) := by decide +kernel
theorem dX8_many_105 : decode cX8_many 105 = .ok (.getfield 26, 3) := by decide +kernel
theorem dX8_many_108 : decode cX8_many 108 = .ok (.getfield 289, 3) := by decide +kernel
theorem dX8_many_111 : decode cX8_many 111 = .ok (.ireturn, 1) := by decide +kernel
theorem dX8_many_112 : decode cX8_many 112 = .ok (.aload_n 0, 1) := by decide +kernel
theorem dX8_many_113 : decode cX8_many 113 = .ok (.getfield 40, 3) := by decide +kernel
theorem dX8_many_116 : decode cX8_many 116 = .ok (.getfield 292, 3) := by decide +kernel
theorem dX8_many_119 : decode cX8_many 119 = .ok (.ireturn, 1) := by decide +kernel
theorem dX8_many_120 : decode cX8_many 120 = .ok (.aload_n 0, 1) := by decide +kernel
theorem dX8_many_121 : decode cX8_many 121 = .ok (.getfield 40, 3) := by decide +kernel
theorem dX8_many_124 : decode cX8_many 124 = .ok (.getfield 295, 3) := by decide +kernel
theorem dX8_many_127 : decode cX8_many 127 = .ok (.ireturn, 1) := by decide +kernel
theorem dX8_many_128 : decode cX8_many 128 = .ok (.aload_n 0, 1) := by decide +kernel
theorem dX8_many_129 : decode cX8_many 129 = .ok (.getfield 26, 3) := by decide +kernel
theorem dX8_many_132 : decode cX8_many 132 = .ok (.iconst 2, 1) := by decide +kernel
theorem dX8_many_133 : decode cX8_many 133 = .ok (.invokevirtual 298, 3) := by decide +kernel
theorem dX8_many_136 : decode cX8_many 136 = .ok (.ireturn, 1) := by decide +kernel
theorem dX8_many_137 : decode cX8_many 137 = .ok (.aload_n 0, 1) := by decide +kernel
theorem dX8_many_138 : decode cX8_many 138 = .ok (.getfield 26, 3) := by decide +kernel
theorem dX8_many_141 : decode cX8_many 141 = .ok (.iconst 3, 1) := by decide +kernel
theorem dX8_many_142 : decode cX8_many 142 = .ok (.invokevirtual 298, 3) := by decide +kernel
theorem dX8_many_145 : decode cX8_many 145 = .ok (.ireturn, 1) := by decide +kernel
theorem dX8_many_146 : decode cX8_many 146 = .ok (.aload_n 0, 1) := by decide +kernel
theorem dX8_many_147 : decode cX8_many 147 = .ok (.getfield 47, 3) := by decide +kernel
theorem dX8_many_150 : decode cX8_many 150 = .ok (.getfield 301, 3) := by decide +kernel
theorem dX8_many_153 : decode cX8_many 153 = .ok (.ireturn, 1) := by decide +kernel
theorem dX8_many_154 : decode cX8_many 154 = .ok (.aload_n 0, 1) := by decide +kernel
theorem dX8_many_155 : decode cX8_many 155 = .ok (.getfield 19, 3) := by decide +kernel
theorem dX8_many_158 : decode cX8_many 158 = .ok (.invokevirtual 302, 3) := by decide +kernel
theorem dX8_many_161 : decode cX8_many 161 = .ok (.ireturn, 1) := by decide +kernel
theorem dX8_many_162 : decode cX8_many 162 = .ok (.aload_n 0, 1) := by decide +kernel
theorem dX8_many_163 : decode cX8_many 163 = .ok (.invokevirtual 305, 3) := by decide +kernel
theorem dX8_many_166 : decode cX8_many 166 = .ok (.ireturn, 1) := by decide +kernel
theorem dX8_many_167 : decode cX8_many 167 = .ok (.aload_n 0, 1) := by decide +kernel
theorem dX8_many_168 : decode cX8_many 168 = .ok (.getfield 40, 3) := by decide +kernel
theorem dX8_many_171 : decode cX8_many 171 = .ok (.getfield 308, 3) := by decide +kernel
theorem dX8_many_174 : decode cX8_many 174 = .ok (.ireturn, 1) := by decide +kernel
theorem dX8_levelFor_0 : decode cX8_levelFor 0 = .ok (.iload_n 0, 1) := by decide +kernel
theorem dX8_levelFor_1 : decode cX8_levelFor 1 = .ok (.tableswitch 69 0 11 #[63, 63, 63, 69, 65, 65, 69, 69, 67, 69, 69, 65], 63) := by decide +kernel
theorem dX8_levelFor_64 : decode cX8_levelFor 64 = .ok (.iconst 0, 1) := by decide +kernel
theorem dX8_levelFor_65 : decode cX8_levelFor 65 = .ok (.ireturn, 1) := by decide +kernel
theorem dX8_levelFor_66 : decode cX8_levelFor 66 = .ok (.iconst 2, 1) := by decide +kernel
theorem dX8_levelFor_67 : decode cX8_levelFor 67 = .ok (.ireturn, 1) := by decide +kernel
theorem dX8_levelFor_68 : decode cX8_levelFor 68 = .ok (.iconst 3, 1) := by decide +kernel
theorem dX8_levelFor_69 : decode cX8_levelFor 69 = .ok (.ireturn, 1) := by decide +kernel
theorem dX8_levelFor_70 : decode cX8_levelFor 70 = .ok (.iconst 1, 1) := by decide +kernel
theorem dX8_levelFor_71 : decode cX8_levelFor 71 = .ok (.ireturn, 1) := by decide +kernel
theorem dX8_forget_0 : decode cX8_forget 0 = .ok (.aload_n 0, 1) := by decide +kernel
theorem dX8_forget_1 : decode cX8_forget 1 = .ok (.iconst 0, 1) := by decide +kernel
theorem dX8_forget_2 : decode cX8_forget 2 = .ok (.putfield 62, 3) := by decide +kernel
theorem dX8_forget_5 : decode cX8_forget 5 = .ok (.aload_n 0, 1) := by decide +kernel
theorem dX8_forget_6 : decode cX8_forget 6 = .ok (.bipush (-9), 2) := by decide +kernel
theorem dX8_forget_8 : decode cX8_forget 8 = .ok (.putfield 66, 3) := by decide +kernel
theorem dX8_forget_11 : decode cX8_forget 11 = .ok (.return_, 1) := by decide +kernel
theorem dX8_settle_0 : decode cX8_settle 0 = .ok (.iload_n 1, 1) := by decide +kernel
theorem dX8_settle_1 : decode cX8_settle 1 = .ok (.iconst 1, 1) := by decide +kernel
theorem dX8_settle_2 : decode cX8_settle 2 = .ok (.if_icmp .lt 49, 3) := by decide +kernel
theorem dX8_settle_5 : decode cX8_settle 5 = .ok (.aload_n 0, 1) := by decide +kernel
theorem dX8_settle_6 : decode cX8_settle 6 = .ok (.getfield 62, 3) := by decide +kernel
theorem dX8_settle_9 : decode cX8_settle 9 = .ok (.iconst 1, 1) := by decide +kernel
theorem dX8_settle_10 : decode cX8_settle 10 = .ok (.if_icmp .ge 41, 3) := by decide +kernel
theorem dX8_settle_13 : decode cX8_settle 13 = .ok (.aload_n 0, 1) := by decide +kernel
theorem dX8_settle_14 : decode cX8_settle 14 = .ok (.getfield 19, 3) := by decide +kernel
theorem dX8_settle_17 : decode cX8_settle 17 = .ok (.aload_n 0, 1) := by decide +kernel
theorem dX8_settle_18 : decode cX8_settle 18 = .ok (.getfield 12, 3) := by decide +kernel
theorem dX8_settle_21 : decode cX8_settle 21 = .ok (.invokevirtual 311, 3) := by decide +kernel
theorem dX8_settle_24 : decode cX8_settle 24 = .ok (.aload_n 0, 1) := by decide +kernel
theorem dX8_settle_25 : decode cX8_settle 25 = .ok (.getfield 26, 3) := by decide +kernel
theorem dX8_settle_28 : decode cX8_settle 28 = .ok (.aload_n 0, 1) := by decide +kernel
theorem dX8_settle_29 : decode cX8_settle 29 = .ok (.getfield 12, 3) := by decide +kernel
theorem dX8_settle_32 : decode cX8_settle 32 = .ok (.aload_n 0, 1) := by decide +kernel
theorem dX8_settle_33 : decode cX8_settle 33 = .ok (.getfield 19, 3) := by decide +kernel
theorem dX8_settle_36 : decode cX8_settle 36 = .ok (.invokevirtual 315, 3) := by decide +kernel
theorem dX8_settle_39 : decode cX8_settle 39 = .ok (.aload_n 0, 1) := by decide +kernel
theorem dX8_settle_40 : decode cX8_settle 40 = .ok (.getfield 33, 3) := by decide +kernel
theorem dX8_settle_43 : decode cX8_settle 43 = .ok (.invokevirtual 318, 3) := by decide +kernel
theorem dX8_settle_46 : decode cX8_settle 46 = .ok (.aload_n 0, 1) := by decide +kernel
theorem dX8_settle_47 : decode cX8_settle 47 = .ok (.iconst 1, 1) := by decide +kernel
theorem dX8_settle_48 : decode cX8_settle 48 = .ok (.putfield 62, 3) := by decide +kernel
theorem dX8_settle_51 : decode cX8_settle 51 = .ok (.iload_n 1, 1) := by decide +kernel
theorem dX8_settle_52 : decode cX8_settle 52 = .ok (.iconst 2, 1) := by decide +kernel
theorem dX8_settle_53 : decode cX8_settle 53 = .ok (.if_icmp .lt 35, 3) := by decide +kernel
theorem dX8_settle_56 : decode cX8_settle 56 = .ok (.aload_n 0, 1) := by decide +kernel
theorem dX8_settle_57 : decode cX8_settle 57 = .ok (.getfield 62, 3) := by decide +kernel
theorem dX8_settle_60 : decode cX8_settle 60 = .ok (.iconst 2, 1) := by decide +kernel
theorem dX8_settle_61 : decode cX8_settle 61 = .ok (.if_icmp .ge 27, 3) := by decide +kernel
theorem dX8_settle_64 : decode cX8_settle 64 = .ok (.aload_n 0, 1) := by decide +kernel
theorem dX8_settle_65 : decode cX8_settle 65 = .ok (.getfield 40, 3) := by decide +kernel
theorem dX8_settle_68 : decode cX8_settle 68 = .ok (.aload_n 0, 1) := by decide +kernel
theorem dX8_settle_69 : decode cX8_settle 69 = .ok (.getfield 26, 3) := by decide +kernel
theorem dX8_settle_72 : decode cX8_settle 72 = .ok (.aload_n 0, 1) := by decide +kernel
theorem dX8_settle_73 : decode cX8_settle 73 = .ok (.getfield 33, 3) := by decide +kernel
theorem dX8_settle_76 : decode cX8_settle 76 = .ok (.aload_n 0, 1) := by decide +kernel
theorem dX8_settle_77 : decode cX8_settle 77 = .ok (.getfield 19, 3) := by decide +kernel
theorem dX8_settle_80 : decode cX8_settle 80 = .ok (.invokevirtual 321, 3) := by decide +kernel
theorem dX8_settle_83 : decode cX8_settle 83 = .ok (.aload_n 0, 1) := by decide +kernel
theorem dX8_settle_84 : decode cX8_settle 84 = .ok (.iconst 2, 1) := by decide +kernel
theorem dX8_settle_85 : decode cX8_settle 85 = .ok (.putfield 62, 3) := by decide +kernel
theorem dX8_settle_88 : decode cX8_settle 88 = .ok (.iload_n 1, 1) := by decide +kernel
theorem dX8_settle_89 : decode cX8_settle 89 = .ok (.iconst 3, 1) := by decide +kernel
theorem dX8_settle_90 : decode cX8_settle 90 = .ok (.if_icmp .lt 31, 3) := by decide +kernel
theorem dX8_settle_93 : decode cX8_settle 93 = .ok (.aload_n 0, 1) := by decide +kernel
theorem dX8_settle_94 : decode cX8_settle 94 = .ok (.getfield 62, 3) := by decide +kernel
theorem dX8_settle_97 : decode cX8_settle 97 = .ok (.iconst 3, 1) := by decide +kernel
theorem dX8_settle_98 : decode cX8_settle 98 = .ok (.if_icmp .ge 23, 3) := by decide +kernel
theorem dX8_settle_101 : decode cX8_settle 101 = .ok (.aload_n 0, 1) := by decide +kernel
theorem dX8_settle_102 : decode cX8_settle 102 = .ok (.getfield 47, 3) := by decide +kernel
theorem dX8_settle_105 : decode cX8_settle 105 = .ok (.aload_n 0, 1) := by decide +kernel
theorem dX8_settle_106 : decode cX8_settle 106 = .ok (.getfield 26, 3) := by decide +kernel
theorem dX8_settle_109 : decode cX8_settle 109 = .ok (.aload_n 0, 1) := by decide +kernel
theorem dX8_settle_110 : decode cX8_settle 110 = .ok (.getfield 40, 3) := by decide +kernel
theorem dX8_settle_113 : decode cX8_settle 113 = .ok (.invokevirtual 324, 3) := by decide +kernel
theorem dX8_settle_116 : decode cX8_settle 116 = .ok (.aload_n 0, 1) := by decide +kernel
theorem dX8_settle_117 : decode cX8_settle 117 = .ok (.iconst 3, 1) := by decide +kernel
theorem dX8_settle_118 : decode cX8_settle 118 = .ok (.putfield 62, 3) := by decide +kernel
theorem dX8_settle_121 : decode cX8_settle 121 = .ok (.return_, 1) := by decide +kernel
theorem dX8_countMeetings_0 : decode cX8_countMeetings 0 = .ok (.aload_n 0, 1) := by decide +kernel
theorem dX8_countMeetings_1 : decode cX8_countMeetings 1 = .ok (.getfield 66, 3) := by decide +kernel
theorem dX8_countMeetings_4 : decode cX8_countMeetings 4 = .ok (.bipush (-9), 2) := by decide +kernel
theorem dX8_countMeetings_6 : decode cX8_countMeetings 6 = .ok (.if_icmp .ne 22, 3) := by decide +kernel
theorem dX8_countMeetings_9 : decode cX8_countMeetings 9 = .ok (.aload_n 0, 1) := by decide +kernel
theorem dX8_countMeetings_10 : decode cX8_countMeetings 10 = .ok (.aload_n 0, 1) := by decide +kernel
theorem dX8_countMeetings_11 : decode cX8_countMeetings 11 = .ok (.getfield 54, 3) := by decide +kernel
theorem dX8_countMeetings_14 : decode cX8_countMeetings 14 = .ok (.aload_n 0, 1) := by decide +kernel
theorem dX8_countMeetings_15 : decode cX8_countMeetings 15 = .ok (.getfield 26, 3) := by decide +kernel
theorem dX8_countMeetings_18 : decode cX8_countMeetings 18 = .ok (.aload_n 0, 1) := by decide +kernel
theorem dX8_countMeetings_19 : decode cX8_countMeetings 19 = .ok (.getfield 19, 3) := by decide +kernel
theorem dX8_countMeetings_22 : decode cX8_countMeetings 22 = .ok (.invokevirtual 327, 3) := by decide +kernel
theorem dX8_countMeetings_25 : decode cX8_countMeetings 25 = .ok (.putfield 66, 3) := by decide +kernel
theorem dX8_countMeetings_28 : decode cX8_countMeetings 28 = .ok (.aload_n 0, 1) := by decide +kernel
theorem dX8_countMeetings_29 : decode cX8_countMeetings 29 = .ok (.getfield 66, 3) := by decide +kernel
theorem dX8_countMeetings_32 : decode cX8_countMeetings 32 = .ok (.ireturn, 1) := by decide +kernel
theorem dX8_hasFaceOfBlock_0 : decode cX8_hasFaceOfBlock 0 = .ok (.iconst 0, 1) := by decide +kernel
theorem dX8_hasFaceOfBlock_1 : decode cX8_hasFaceOfBlock 1 = .ok (.istore_n 1, 1) := by decide +kernel
theorem dX8_hasFaceOfBlock_2 : decode cX8_hasFaceOfBlock 2 = .ok (.iload_n 1, 1) := by decide +kernel
theorem dX8_hasFaceOfBlock_3 : decode cX8_hasFaceOfBlock 3 = .ok (.iconst 2, 1) := by decide +kernel
theorem dX8_hasFaceOfBlock_4 : decode cX8_hasFaceOfBlock 4 = .ok (.iadd, 1) := by decide +kernel
theorem dX8_hasFaceOfBlock_5 : decode cX8_hasFaceOfBlock 5 = .ok (.getstatic 123, 3) := by decide +kernel
theorem dX8_hasFaceOfBlock_8 : decode cX8_hasFaceOfBlock 8 = .ok (.arraylength, 1) := by decide +kernel
theorem dX8_hasFaceOfBlock_9 : decode cX8_hasFaceOfBlock 9 = .ok (.if_icmp .ge 55, 3) := by decide +kernel
theorem dX8_hasFaceOfBlock_12 : decode cX8_hasFaceOfBlock 12 = .ok (.aload_n 0, 1) := by decide +kernel
theorem dX8_hasFaceOfBlock_13 : decode cX8_hasFaceOfBlock 13 = .ok (.getfield 12, 3) := by decide +kernel
theorem dX8_hasFaceOfBlock_16 : decode cX8_hasFaceOfBlock 16 = .ok (.aload_n 0, 1) := by decide +kernel
theorem dX8_hasFaceOfBlock_17 : decode cX8_hasFaceOfBlock 17 = .ok (.getfield 58, 3) := by decide +kernel
theorem dX8_hasFaceOfBlock_20 : decode cX8_hasFaceOfBlock 20 = .ok (.getstatic 123, 3) := by decide +kernel
theorem dX8_hasFaceOfBlock_23 : decode cX8_hasFaceOfBlock 23 = .ok (.iload_n 1, 1) := by decide +kernel
theorem dX8_hasFaceOfBlock_24 : decode cX8_hasFaceOfBlock 24 = .ok (.iaload, 1) := by decide +kernel
theorem dX8_hasFaceOfBlock_25 : decode cX8_hasFaceOfBlock 25 = .ok (.iaload, 1) := by decide +kernel
theorem dX8_hasFaceOfBlock_26 : decode cX8_hasFaceOfBlock 26 = .ok (.aload_n 0, 1) := by decide +kernel
theorem dX8_hasFaceOfBlock_27 : decode cX8_hasFaceOfBlock 27 = .ok (.getfield 58, 3) := by decide +kernel
theorem dX8_hasFaceOfBlock_30 : decode cX8_hasFaceOfBlock 30 = .ok (.getstatic 123, 3) := by decide +kernel
theorem dX8_hasFaceOfBlock_33 : decode cX8_hasFaceOfBlock 33 = .ok (.iload_n 1, 1) := by decide +kernel
theorem dX8_hasFaceOfBlock_34 : decode cX8_hasFaceOfBlock 34 = .ok (.iconst 1, 1) := by decide +kernel
theorem dX8_hasFaceOfBlock_35 : decode cX8_hasFaceOfBlock 35 = .ok (.iadd, 1) := by decide +kernel
theorem dX8_hasFaceOfBlock_36 : decode cX8_hasFaceOfBlock 36 = .ok (.iaload, 1) := by decide +kernel
theorem dX8_hasFaceOfBlock_37 : decode cX8_hasFaceOfBlock 37 = .ok (.iaload, 1) := by decide +kernel
theorem dX8_hasFaceOfBlock_38 : decode cX8_hasFaceOfBlock 38 = .ok (.aload_n 0, 1) := by decide +kernel
theorem dX8_hasFaceOfBlock_39 : decode cX8_hasFaceOfBlock 39 = .ok (.getfield 58, 3) := by decide +kernel
theorem dX8_hasFaceOfBlock_42 : decode cX8_hasFaceOfBlock 42 = .ok (.getstatic 123, 3) := by decide +kernel
theorem dX8_hasFaceOfBlock_45 : decode cX8_hasFaceOfBlock 45 = .ok (.iload_n 1, 1) := by decide +kernel
theorem dX8_hasFaceOfBlock_46 : decode cX8_hasFaceOfBlock 46 = .ok (.iconst 2, 1) := by decide +kernel
theorem dX8_hasFaceOfBlock_47 : decode cX8_hasFaceOfBlock 47 = .ok (.iadd, 1) := by decide +kernel
theorem dX8_hasFaceOfBlock_48 : decode cX8_hasFaceOfBlock 48 = .ok (.iaload, 1) := by decide +kernel
theorem dX8_hasFaceOfBlock_49 : decode cX8_hasFaceOfBlock 49 = .ok (.iaload, 1) := by decide +kernel
theorem dX8_hasFaceOfBlock_50 : decode cX8_hasFaceOfBlock 50 = .ok (.invokevirtual 93, 3) := by decide +kernel
theorem dX8_hasFaceOfBlock_53 : decode cX8_hasFaceOfBlock 53 = .ok (.ifCond .eq 5, 3) := by decide +kernel
theorem dX8_hasFaceOfBlock_56 : decode cX8_hasFaceOfBlock 56 = .ok (.iconst 1, 1) := by decide +kernel
theorem dX8_hasFaceOfBlock_57 : decode cX8_hasFaceOfBlock 57 = .ok (.ireturn, 1) := by decide +kernel
theorem dX8_hasFaceOfBlock_58 : decode cX8_hasFaceOfBlock 58 = .ok (.iinc 1 3, 3) := by decide +kernel
theorem dX8_hasFaceOfBlock_61 : decode cX8_hasFaceOfBlock 61 = .ok (.goto (-59), 3) := by decide +kernel
theorem dX8_hasFaceOfBlock_64 : decode cX8_hasFaceOfBlock 64 = .ok (.iconst 0, 1) := by decide +kernel
theorem dX8_hasFaceOfBlock_65 : decode cX8_hasFaceOfBlock 65 = .ok (.ireturn, 1) := by decide +kernel
theorem dX8_isPlace_0 : decode cX8_isPlace 0 = .ok (.iload_n 0, 1) := by decide +kernel
theorem dX8_isPlace_1 : decode cX8_isPlace 1 = .ok (.bipush 9, 2) := by decide +kernel
theorem dX8_isPlace_3 : decode cX8_isPlace 3 = .ok (.invokestatic 126, 3) := by decide +kernel
theorem dX8_isPlace_6 : decode cX8_isPlace 6 = .ok (.ifCond .eq 25, 3) := by decide +kernel
theorem dX8_isPlace_9 : decode cX8_isPlace 9 = .ok (.iload_n 1, 1) := by decide +kernel
theorem dX8_isPlace_10 : decode cX8_isPlace 10 = .ok (.bipush 9, 2) := by decide +kernel
theorem dX8_isPlace_12 : decode cX8_isPlace 12 = .ok (.invokestatic 126, 3) := by decide +kernel
theorem dX8_isPlace_15 : decode cX8_isPlace 15 = .ok (.ifCond .eq 16, 3) := by decide +kernel
theorem dX8_isPlace_18 : decode cX8_isPlace 18 = .ok (.iload_n 2, 1) := by decide +kernel
theorem dX8_isPlace_19 : decode cX8_isPlace 19 = .ok (.bipush 9, 2) := by decide +kernel
theorem dX8_isPlace_21 : decode cX8_isPlace 21 = .ok (.invokestatic 126, 3) := by decide +kernel
theorem dX8_isPlace_24 : decode cX8_isPlace 24 = .ok (.ifCond .eq 7, 3) := by decide +kernel
theorem dX8_isPlace_27 : decode cX8_isPlace 27 = .ok (.iconst 1, 1) := by decide +kernel
theorem dX8_isPlace_28 : decode cX8_isPlace 28 = .ok (.goto 4, 3) := by decide +kernel
theorem dX8_isPlace_31 : decode cX8_isPlace 31 = .ok (.iconst 0, 1) := by decide +kernel
theorem dX8_isPlace_32 : decode cX8_isPlace 32 = .ok (.ireturn, 1) := by decide +kernel
theorem dX8_isSide_0 : decode cX8_isSide 0 = .ok (.iload_n 0, 1) := by decide +kernel
theorem dX8_isSide_1 : decode cX8_isSide 1 = .ok (.bipush 9, 2) := by decide +kernel
theorem dX8_isSide_3 : decode cX8_isSide 3 = .ok (.invokestatic 126, 3) := by decide +kernel
theorem dX8_isSide_6 : decode cX8_isSide 6 = .ok (.ifCond .eq 26, 3) := by decide +kernel
theorem dX8_isSide_9 : decode cX8_isSide 9 = .ok (.iload_n 1, 1) := by decide +kernel
theorem dX8_isSide_10 : decode cX8_isSide 10 = .ok (.iconst 1, 1) := by decide +kernel
theorem dX8_isSide_11 : decode cX8_isSide 11 = .ok (.if_icmp .lt 21, 3) := by decide +kernel
theorem dX8_isSide_14 : decode cX8_isSide 14 = .ok (.iload_n 1, 1) := by decide +kernel
theorem dX8_isSide_15 : decode cX8_isSide 15 = .ok (.bipush 9, 2) := by decide +kernel
theorem dX8_isSide_17 : decode cX8_isSide 17 = .ok (.if_icmp .gt 15, 3) := by decide +kernel
theorem dX8_isSide_20 : decode cX8_isSide 20 = .ok (.iload_n 0, 1) := by decide +kernel
theorem dX8_isSide_21 : decode cX8_isSide 21 = .ok (.iload_n 1, 1) := by decide +kernel
theorem dX8_isSide_22 : decode cX8_isSide 22 = .ok (.iadd, 1) := by decide +kernel
theorem dX8_isSide_23 : decode cX8_isSide 23 = .ok (.bipush 9, 2) := by decide +kernel
theorem dX8_isSide_25 : decode cX8_isSide 25 = .ok (.if_icmp .gt 7, 3) := by decide +kernel
theorem dX8_isSide_28 : decode cX8_isSide 28 = .ok (.iconst 1, 1) := by decide +kernel
theorem dX8_isSide_29 : decode cX8_isSide 29 = .ok (.goto 4, 3) := by decide +kernel
theorem dX8_isSide_32 : decode cX8_isSide 32 = .ok (.iconst 0, 1) := by decide +kernel
theorem dX8_isSide_33 : decode cX8_isSide 33 = .ok (.ireturn, 1) := by decide +kernel
theorem dX8_within_0 : decode cX8_within 0 = .ok (.iload_n 0, 1) := by decide +kernel
theorem dX8_within_1 : decode cX8_within 1 = .ok (.iload_n 1, 1) := by decide +kernel
theorem dX8_within_2 : decode cX8_within 2 = .ok (.ineg, 1) := by decide +kernel
theorem dX8_within_3 : decode cX8_within 3 = .ok (.if_icmp .lt 12, 3) := by decide +kernel
theorem dX8_within_6 : decode cX8_within 6 = .ok (.iload_n 0, 1) := by decide +kernel
theorem dX8_within_7 : decode cX8_within 7 = .ok (.iload_n 1, 1) := by decide +kernel
theorem dX8_within_8 : decode cX8_within 8 = .ok (.if_icmp .gt 7, 3) := by decide +kernel
theorem dX8_within_11 : decode cX8_within 11 = .ok (.iconst 1, 1) := by decide +kernel
theorem dX8_within_12 : decode cX8_within 12 = .ok (.goto 4, 3) := by decide +kernel
theorem dX8_within_15 : decode cX8_within 15 = .ok (.iconst 0, 1) := by decide +kernel
theorem dX8_within_16 : decode cX8_within 16 = .ok (.ireturn, 1) := by decide +kernel
theorem dX8_bit_0 : decode cX8_bit 0 = .ok (.iload_n 0, 1) := by decide +kernel
theorem dX8_bit_1 : decode cX8_bit 1 = .ok (.iload_n 1, 1) := by decide +kernel
theorem dX8_bit_2 : decode cX8_bit 2 = .ok (.ishr, 1) := by decide +kernel
theorem dX8_bit_3 : decode cX8_bit 3 = .ok (.iconst 1, 1) := by decide +kernel
theorem dX8_bit_4 : decode cX8_bit 4 = .ok (.iand, 1) := by decide +kernel
theorem dX8_bit_5 : decode cX8_bit 5 = .ok (.ireturn, 1) := by decide +kernel
theorem dX9_init_0 : decode cX9_init 0 = .ok (.aload_n 0, 1) := by decide +kernel
theorem dX9_init_1 : decode cX9_init 1 = .ok (.invokespecial 1, 3) := by decide +kernel
theorem dX9_init_4 : decode cX9_init 4 = .ok (.aload_n 0, 1) := by decide +kernel
theorem dX9_init_5 : decode cX9_init 5 = .ok (.bipush 16, 2) := by decide +kernel
theorem dX9_init_7 : decode cX9_init 7 = .ok (.newarray .int, 2) := by decide +kernel
theorem dX9_init_9 : decode cX9_init 9 = .ok (.putfield 7, 3) := by decide +kernel
theorem dX9_init_12 : decode cX9_init 12 = .ok (.aload_n 0, 1) := by decide +kernel
theorem dX9_init_13 : decode cX9_init 13 = .ok (.bipush 16, 2) := by decide +kernel
theorem dX9_init_15 : decode cX9_init 15 = .ok (.newarray .int, 2) := by decide +kernel
theorem dX9_init_17 : decode cX9_init 17 = .ok (.putfield 13, 3) := by decide +kernel
theorem dX9_init_20 : decode cX9_init 20 = .ok (.aload_n 0, 1) := by decide +kernel
theorem dX9_init_21 : decode cX9_init 21 = .ok (.bipush 16, 2) := by decide +kernel
theorem dX9_init_23 : decode cX9_init 23 = .ok (.newarray .int, 2) := by decide +kernel
theorem dX9_init_25 : decode cX9_init 25 = .ok (.putfield 16, 3) := by decide +kernel
theorem dX9_init_28 : decode cX9_init 28 = .ok (.aload_n 0, 1) := by decide +kernel
theorem dX9_init_29 : decode cX9_init 29 = .ok (.bipush 72, 2) := by decide +kernel
theorem dX9_init_31 : decode cX9_init 31 = .ok (.newarray .int, 2) := by decide +kernel
theorem dX9_init_33 : decode cX9_init 33 = .ok (.putfield 19, 3) := by decide +kernel
theorem dX9_init_36 : decode cX9_init 36 = .ok (.aload_n 0, 1) := by decide +kernel
theorem dX9_init_37 : decode cX9_init 37 = .ok (.bipush 8, 2) := by decide +kernel
theorem dX9_init_39 : decode cX9_init 39 = .ok (.newarray .int, 2) := by decide +kernel
theorem dX9_init_41 : decode cX9_init 41 = .ok (.putfield 22, 3) := by decide +kernel
theorem dX9_init_44 : decode cX9_init 44 = .ok (.aload_n 0, 1) := by decide +kernel
theorem dX9_init_45 : decode cX9_init 45 = .ok (.bipush 8, 2) := by decide +kernel
theorem dX9_init_47 : decode cX9_init 47 = .ok (.newarray .int, 2) := by decide +kernel
theorem dX9_init_49 : decode cX9_init 49 = .ok (.putfield 25, 3) := by decide +kernel
theorem dX9_init_52 : decode cX9_init 52 = .ok (.aload_n 0, 1) := by decide +kernel
theorem dX9_init_53 : decode cX9_init 53 = .ok (.iconst 1, 1) := by decide +kernel
theorem dX9_init_54 : decode cX9_init 54 = .ok (.putfield 28, 3) := by decide +kernel
theorem dX9_init_57 : decode cX9_init 57 = .ok (.aload_n 0, 1) := by decide +kernel
theorem dX9_init_58 : decode cX9_init 58 = .ok (.bipush 36, 2) := by decide +kernel
theorem dX9_init_60 : decode cX9_init 60 = .ok (.newarray .int, 2) := by decide +kernel
theorem dX9_init_62 : decode cX9_init 62 = .ok (.dup, 1) := by decide +kernel
theorem dX9_init_63 : decode cX9_init 63 = .ok (.iconst 0, 1) := by decide +kernel
theorem dX9_init_64 : decode cX9_init 64 = .ok (.iconst 0, 1) := by decide +kernel
theorem dX9_init_65 : decode cX9_init 65 = .ok (.iastore, 1) := by decide +kernel
theorem dX9_init_66 : decode cX9_init 66 = .ok (.dup, 1) := by decide +kernel
theorem dX9_init_67 : decode cX9_init 67 = .ok (.iconst 1, 1) := by decide +kernel
theorem dX9_init_68 : decode cX9_init 68 = .ok (.iconst 2, 1) := by decide +kernel
theorem dX9_init_69 : decode cX9_init 69 = .ok (.iastore, 1) := by decide +kernel
theorem dX9_init_70 : decode cX9_init 70 = .ok (.dup, 1) := by decide +kernel
theorem dX9_init_71 : decode cX9_init 71 = .ok (.iconst 2, 1) := by decide +kernel
theorem dX9_init_72 : decode cX9_init 72 = .ok (.iconst 3, 1) := by decide +kernel
theorem dX9_init_73 : decode cX9_init 73 = .ok (.iastore, 1) := by decide +kernel
theorem dX9_init_74 : decode cX9_init 74 = .ok (.dup, 1) := by decide +kernel
theorem dX9_init_75 : decode cX9_init 75 = .ok (.iconst 3, 1) := by decide +kernel
theorem dX9_init_76 : decode cX9_init 76 = .ok (.iconst 0, 1) := by decide +kernel
theorem dX9_init_77 : decode cX9_init 77 = .ok (.iastore, 1) := by decide +kernel
theorem dX9_init_78 : decode cX9_init 78 = .ok (.dup, 1) := by decide +kernel
theorem dX9_init_79 : decode cX9_init 79 = .ok (.iconst 4, 1) := by decide +kernel
theorem dX9_init_80 : decode cX9_init 80 = .ok (.iconst 3, 1) := by decide +kernel
theorem dX9_init_81 : decode cX9_init 81 = .ok (.iastore, 1) := by decide +kernel
theorem dX9_init_82 : decode cX9_init 82 = .ok (.dup, 1) := by decide +kernel
theorem dX9_init_83 : decode cX9_init 83 = .ok (.iconst 5, 1) := by decide +kernel
theorem dX9_init_84 : decode cX9_init 84 = .ok (.iconst 1, 1) := by decide +kernel
theorem dX9_init_85 : decode cX9_init 85 = .ok (.iastore, 1) := by decide +kernel
theorem dX9_init_86 : decode cX9_init 86 = .ok (.dup, 1) := by decide +kernel
theorem dX9_init_87 : decode cX9_init 87 = .ok (.bipush 6, 2) := by decide +kernel
theorem dX9_init_89 : decode cX9_init 89 = .ok (.iconst 4, 1) := by decide +kernel
theorem dX9_init_90 : decode cX9_init 90 = .ok (.iastore, 1) := by decide +kernel
theorem dX9_init_91 : decode cX9_init 91 = .ok (.dup, 1) := by decide +kernel
theorem dX9_init_92 : decode cX9_init 92 = .ok (.bipush 7, 2) := by decide +kernel
theorem dX9_init_94 : decode cX9_init 94 = .ok (.iconst 5, 1) := by decide +kernel
theorem dX9_init_95 : decode cX9_init 95 = .ok (.iastore, 1) := by decide +kernel
theorem dX9_init_96 : decode cX9_init 96 = .ok (.dup, 1) := by decide +kernel
theorem dX9_init_97 : decode cX9_init 97 = .ok (.bipush 8, 2) := by decide +kernel
theorem dX9_init_99 : decode cX9_init 99 = .ok (.bipush 7, 2) := by decide +kernel
theorem dX9_init_101 : decode cX9_init 101 = .ok (.iastore, 1) := by decide +kernel
theorem dX9_init_102 : decode cX9_init 102 = .ok (.dup, 1) := by decide +kernel
theorem dX9_init_103 : decode cX9_init 103 = .ok (.bipush 9, 2) := by decide +kernel
theorem dX9_init_105 : decode cX9_init 105 = .ok (.iconst 4, 1) := by decide +kernel
theorem dX9_init_106 : decode cX9_init 106 = .ok (.iastore, 1) := by decide +kernel
theorem dX9_init_107 : decode cX9_init 107 = .ok (.dup, 1) := by decide +kernel
theorem dX9_init_108 : decode cX9_init 108 = .ok (.bipush 10, 2) := by decide +kernel
theorem dX9_init_110 : decode cX9_init 110 = .ok (.bipush 7, 2) := by decide +kernel
theorem dX9_init_112 : decode cX9_init 112 = .ok (.iastore, 1) := by decide +kernel
theorem dX9_init_113 : decode cX9_init 113 = .ok (.dup, 1) := by decide +kernel
theorem dX9_init_114 : decode cX9_init 114 = .ok (.bipush 11, 2) := by decide +kernel
theorem dX9_init_116 : decode cX9_init 116 = .ok (.bipush 6, 2) := by decide +kernel
theorem dX9_init_118 : decode cX9_init 118 = .ok (.iastore, 1) := by decide +kernel
theorem dX9_init_119 : decode cX9_init 119 = .ok (.dup, 1) := by decide +kernel
theorem dX9_init_120 : decode cX9_init 120 = .ok (.bipush 12, 2) := by decide +kernel
theorem dX9_init_122 : decode cX9_init 122 = .ok (.iconst 0, 1) := by decide +kernel
theorem dX9_init_123 : decode cX9_init 123 = .ok (.iastore, 1) := by decide +kernel
theorem dX9_init_124 : decode cX9_init 124 = .ok (.dup, 1) := by decide +kernel
theorem dX9_init_125 : decode cX9_init 125 = .ok (.bipush 13, 2) := by decide +kernel
theorem dX9_init_127 : decode cX9_init 127 = .ok (.iconst 1, 1) := by decide +kernel
theorem dX9_init_128 : decode cX9_init 128 = .ok (.iastore, 1) := by decide +kernel
theorem dX9_init_129 : decode cX9_init 129 = .ok (.dup, 1) := by decide +kernel
theorem dX9_init_130 : decode cX9_init 130 = .ok (.bipush 14, 2) := by decide +kernel
theorem dX9_init_132 : decode cX9_init 132 = .ok (.iconst 5, 1) := by decide +kernel
theorem dX9_init_133 : decode cX9_init 133 = .ok (.iastore, 1) := by decide +kernel
theorem dX9_init_134 : decode cX9_init 134 = .ok (.dup, 1) := by decide +kernel
theorem dX9_init_135 : decode cX9_init 135 = .ok (.bipush 15, 2) := by decide +kernel
theorem dX9_init_137 : decode cX9_init 137 = .ok (.iconst 0, 1) := by decide +kernel
theorem dX9_init_138 : decode cX9_init 138 = .ok (.iastore, 1) := by decide +kernel
theorem dX9_init_139 : decode cX9_init 139 = .ok (.dup, 1) := by decide +kernel
theorem dX9_init_140 : decode cX9_init 140 = .ok (.bipush 16, 2) := by decide +kernel
theorem dX9_init_142 : decode cX9_init 142 = .ok (.iconst 5, 1) := by decide +kernel
theorem dX9_init_143 : decode cX9_init 143 = .ok (.iastore, 1) := by decide +kernel
theorem dX9_init_144 : decode cX9_init 144 = .ok (.dup, 1) := by decide +kernel
theorem dX9_init_145 : decode cX9_init 145 = .ok (.bipush 17, 2) := by decide +kernel
theorem dX9_init_147 : decode cX9_init 147 = .ok (.iconst 4, 1) := by decide +kernel
theorem dX9_init_148 : decode cX9_init 148 = .ok (.iastore, 1) := by decide +kernel
theorem dX9_init_149 : decode cX9_init 149 = .ok (.dup, 1) := by decide +kernel
theorem dX9_init_150 : decode cX9_init 150 = .ok (.bipush 18, 2) := by decide +kernel
theorem dX9_init_152 : decode cX9_init 152 = .ok (.iconst 2, 1) := by decide +kernel
theorem dX9_init_153 : decode cX9_init 153 = .ok (.iastore, 1) := by decide +kernel
theorem dX9_init_154 : decode cX9_init 154 = .ok (.dup, 1) := by decide +kernel
theorem dX9_init_155 : decode cX9_init 155 = .ok (.bipush 19, 2) := by decide +kernel
theorem dX9_init_157 : decode cX9_init 157 = .ok (.bipush 6, 2) := by decide +kernel
theorem dX9_init_159 : decode cX9_init 159 = .ok (.iastore, 1) := by decide +kernel
theorem dX9_init_160 : decode cX9_init 160 = .ok (.dup, 1) := by decide +kernel
theorem dX9_init_161 : decode cX9_init 161 = .ok (.bipush 20, 2) := by decide +kernel
theorem dX9_init_163 : decode cX9_init 163 = .ok (.bipush 7, 2) := by decide +kernel
theorem dX9_init_165 : decode cX9_init 165 = .ok (.iastore, 1) := by decide +kernel
theorem dX9_init_166 : decode cX9_init 166 = .ok (.dup, 1) := by decide +kernel
theorem dX9_init_167 : decode cX9_init 167 = .ok (.bipush 21, 2) := by decide +kernel
theorem dX9_init_169 : decode cX9_init 169 = .ok (.iconst 2, 1) := by decide +kernel
theorem dX9_init_170 : decode cX9_init 170 = .ok (.iastore, 1) := by decide +kernel
theorem dX9_init_171 : decode cX9_init 171 = .ok (.dup, 1) := by decide +kernel
theorem dX9_init_172 : decode cX9_init 172 = .ok (.bipush 22, 2) := by decide +kernel
theorem dX9_init_174 : decode cX9_init 174 = .ok (.bipush 7, 2) := by decide +kernel
theorem dX9_init_176 : decode cX9_init 176 = .ok (.iastore, 1) := by decide +kernel
theorem dX9_init_177 : decode cX9_init 177 = .ok (.dup, 1) := by decide +kernel
theorem dX9_init_178 : decode cX9_init 178 = .ok (.bipush 23, 2) := by decide +kernel
theorem dX9_init_180 : decode cX9_init 180 = .ok (.iconst 3, 1) := by decide +kernel
theorem dX9_init_181 : decode cX9_init 181 = .ok (.iastore, 1) := by decide +kernel
theorem dX9_init_182 : decode cX9_init 182 = .ok (.dup, 1) := by decide +kernel
theorem dX9_init_183 : decode cX9_init 183 = .ok (.bipush 24, 2) := by decide +kernel
theorem dX9_init_185 : decode cX9_init 185 = .ok (.iconst 0, 1) := by decide +kernel
theorem dX9_init_186 : decode cX9_init 186 = .ok (.iastore, 1) := by decide +kernel
theorem dX9_init_187 : decode cX9_init 187 = .ok (.dup, 1) := by decide +kernel
theorem dX9_init_188 : decode cX9_init 188 = .ok (.bipush 25, 2) := by decide +kernel
theorem dX9_init_190 : decode cX9_init 190 = .ok (.iconst 4, 1) := by decide +kernel
theorem dX9_init_191 : decode cX9_init 191 = .ok (.iastore, 1) := by decide +kernel
theorem dX9_init_192 : decode cX9_init 192 = .ok (.dup, 1) := by decide +kernel
theorem dX9_init_193 : decode cX9_init 193 = .ok (.bipush 26, 2) := by decide +kernel
theorem dX9_init_195 : decode cX9_init 195 = .ok (.bipush 6, 2) := by decide +kernel
theorem dX9_init_197 : decode cX9_init 197 = .ok (.iastore, 1) := by decide +kernel
theorem dX9_init_198 : decode cX9_init 198 = .ok (.dup, 1) := by decide +kernel
theorem dX9_init_199 : decode cX9_init 199 = .ok (.bipush 27, 2) := by decide +kernel
theorem dX9_init_201 : decode cX9_init 201 = .ok (.iconst 0, 1) := by decide +kernel
theorem dX9_init_202 : decode cX9_init 202 = .ok (.iastore, 1) := by decide +kernel
theorem dX9_init_203 : decode cX9_init 203 = .ok (.dup, 1) := by decide +kernel
theorem dX9_init_204 : decode cX9_init 204 = .ok (.bipush 28, 2) := by decide +kernel
theorem dX9_init_206 : decode cX9_init 206 = .ok (.bipush 6, 2) := by decide +kernel
theorem dX9_init_208 : decode cX9_init 208 = .ok (.iastore, 1) := by decide +kernel
theorem dX9_init_209 : decode cX9_init 209 = .ok (.dup, 1) := by decide +kernel
theorem dX9_init_210 : decode cX9_init 210 = .ok (.bipush 29, 2) := by decide +kernel
theorem dX9_init_212 : decode cX9_init 212 = .ok (.iconst 2, 1) := by decide +kernel
theorem dX9_init_213 : decode cX9_init 213 = .ok (.iastore, 1) := by decide +kernel
theorem dX9_init_214 : decode cX9_init 214 = .ok (.dup, 1) := by decide +kernel
theorem dX9_init_215 : decode cX9_init 215 = .ok (.bipush 30, 2) := by decide +kernel
theorem dX9_init_217 : decode cX9_init 217 = .ok (.iconst 1, 1) := by decide +kernel
theorem dX9_init_218 : decode cX9_init 218 = .ok (.iastore, 1) := by decide +kernel
theorem dX9_init_219 : decode cX9_init 219 = .ok (.dup, 1) := by decide +kernel
theorem dX9_init_220 : decode cX9_init 220 = .ok (.bipush 31, 2) := by decide +kernel
theorem dX9_init_222 : decode cX9_init 222 = .ok (.iconst 3, 1) := by decide +kernel
theorem dX9_init_223 : decode cX9_init 223 = .ok (.iastore, 1) := by decide +kernel
theorem dX9_init_224 : decode cX9_init 224 = .ok (.dup, 1) := by decide +kernel
theorem dX9_init_225 : decode cX9_init 225 = .ok (.bipush 32, 2) := by decide +kernel
theorem dX9_init_227 : decode cX9_init 227 = .ok (.bipush 7, 2) := by decide +kernel
theorem dX9_init_229 : decode cX9_init 229 = .ok (.iastore, 1) := by decide +kernel
theorem dX9_init_230 : decode cX9_init 230 = .ok (.dup, 1) := by decide +kernel
theorem dX9_init_231 : decode cX9_init 231 = .ok (.bipush 33, 2) := by decide +kernel
theorem dX9_init_233 : decode cX9_init 233 = .ok (.iconst 1, 1) := by decide +kernel
theorem dX9_init_234 : decode cX9_init 234 = .ok (.iastore, 1) := by decide +kernel
theorem dX9_init_235 : decode cX9_init 235 = .ok (.dup, 1) := by decide +kernel
theorem dX9_init_236 : decode cX9_init 236 = .ok (.bipush 34, 2) := by decide +kernel
theorem dX9_init_238 : decode cX9_init 238 = .ok (.bipush 7, 2) := by decide +kernel
theorem dX9_init_240 : decode cX9_init 240 = .ok (.iastore, 1) := by decide +kernel
theorem dX9_init_241 : decode cX9_init 241 = .ok (.dup, 1) := by decide +kernel
theorem dX9_init_242 : decode cX9_init 242 = .ok (.bipush 35, 2) := by decide +kernel
theorem dX9_init_244 : decode cX9_init 244 = .ok (.iconst 5, 1) := by decide +kernel
theorem dX9_init_245 : decode cX9_init 245 = .ok (.iastore, 1) := by decide +kernel
theorem dX9_init_246 : decode cX9_init 246 = .ok (.putfield 32, 3) := by decide +kernel
theorem dX9_init_249 : decode cX9_init 249 = .ok (.aload_n 0, 1) := by decide +kernel
theorem dX9_init_250 : decode cX9_init 250 = .ok (.bipush 8, 2) := by decide +kernel
theorem dX9_init_252 : decode cX9_init 252 = .ok (.newarray .int, 2) := by decide +kernel
theorem dX9_init_254 : decode cX9_init 254 = .ok (.putfield 35, 3) := by decide +kernel
theorem dX9_init_257 : decode cX9_init 257 = .ok (.aload_n 0, 1) := by decide +kernel
theorem dX9_init_258 : decode cX9_init 258 = .ok (.bipush 80, 2) := by decide +kernel
theorem dX9_init_260 : decode cX9_init 260 = .ok (.newarray .int, 2) := by decide +kernel
theorem dX9_init_262 : decode cX9_init 262 = .ok (.putfield 38, 3) := by decide +kernel
theorem dX9_init_265 : decode cX9_init 265 = .ok (.aload_n 0, 1) := by decide +kernel
theorem dX9_init_266 : decode cX9_init 266 = .ok (.bipush 80, 2) := by decide +kernel
theorem dX9_init_268 : decode cX9_init 268 = .ok (.newarray .int, 2) := by decide +kernel
theorem dX9_init_270 : decode cX9_init 270 = .ok (.putfield 41, 3) := by decide +kernel
theorem dX9_init_273 : decode cX9_init 273 = .ok (.aload_n 0, 1) := by decide +kernel
theorem dX9_init_274 : decode cX9_init 274 = .ok (.bipush 80, 2) := by decide +kernel
theorem dX9_init_276 : decode cX9_init 276 = .ok (.newarray .int, 2) := by decide +kernel
theorem dX9_init_278 : decode cX9_init 278 = .ok (.putfield 44, 3) := by decide +kernel
theorem dX9_init_281 : decode cX9_init 281 = .ok (.aload_n 0, 1) := by decide +kernel
theorem dX9_init_282 : decode cX9_init 282 = .ok (.bipush 80, 2) := by decide +kernel
theorem dX9_init_284 : decode cX9_init 284 = .ok (.newarray .int, 2) := by decide +kernel
theorem dX9_init_286 : decode cX9_init 286 = .ok (.putfield 47, 3) := by decide +kernel
theorem dX9_init_289 : decode cX9_init 289 = .ok (.aload_n 0, 1) := by decide +kernel
theorem dX9_init_290 : decode cX9_init 290 = .ok (.bipush 80, 2) := by decide +kernel
theorem dX9_init_292 : decode cX9_init 292 = .ok (.newarray .int, 2) := by decide +kernel
theorem dX9_init_294 : decode cX9_init 294 = .ok (.putfield 50, 3) := by decide +kernel
theorem dX9_init_297 : decode cX9_init 297 = .ok (.aload_n 0, 1) := by decide +kernel
theorem dX9_init_298 : decode cX9_init 298 = .ok (.sipush 4000, 3) := by decide +kernel
theorem dX9_init_301 : decode cX9_init 301 = .ok (.newarray .long, 2) := by decide +kernel
theorem dX9_init_303 : decode cX9_init 303 = .ok (.putfield 53, 3) := by decide +kernel
theorem dX9_init_306 : decode cX9_init 306 = .ok (.aload_n 0, 1) := by decide +kernel
theorem dX9_init_307 : decode cX9_init 307 = .ok (.sipush 4000, 3) := by decide +kernel
theorem dX9_init_310 : decode cX9_init 310 = .ok (.newarray .long, 2) := by decide +kernel
theorem dX9_init_312 : decode cX9_init 312 = .ok (.putfield 57, 3) := by decide +kernel
theorem dX9_init_315 : decode cX9_init 315 = .ok (.aload_n 0, 1) := by decide +kernel
theorem dX9_init_316 : decode cX9_init 316 = .ok (.sipush 4000, 3) := by decide +kernel
theorem dX9_init_319 : decode cX9_init 319 = .ok (.newarray .int, 2) := by decide +kernel
theorem dX9_init_321 : decode cX9_init 321 = .ok (.putfield 60, 3) := by decide +kernel
theorem dX9_init_324 : decode cX9_init 324 = .ok (.aload_n 0, 1) := by decide +kernel
theorem dX9_init_325 : decode cX9_init 325 = .ok (.sipush 4001, 3) := by decide +kernel
theorem dX9_init_328 : decode cX9_init 328 = .ok (.newarray .int, 2) := by decide +kernel
theorem dX9_init_330 : decode cX9_init 330 = .ok (.putfield 63, 3) := by decide +kernel
theorem dX9_init_333 : decode cX9_init 333 = .ok (.aload_n 0, 1) := by decide +kernel
theorem dX9_init_334 : decode cX9_init 334 = .ok (.sipush 4000, 3) := by decide +kernel
theorem dX9_init_337 : decode cX9_init 337 = .ok (.newarray .int, 2) := by decide +kernel
