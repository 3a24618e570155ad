theorem dX9_cross_160 : decode cX9_cross 160 = .ok (.iload_n 3, 1) := by decide +kernel
theorem dX9_cross_161 : decode cX9_cross 161 = .ok (.iload 4, 2) := by decide +kernel
theorem dX9_cross_163 : decode cX9_cross 163 = .ok (.iload 7, 2) := by decide +kernel
theorem dX9_cross_165 : decode cX9_cross 165 = .ok (.iload 8, 2) := by decide +kernel
theorem dX9_cross_167 : decode cX9_cross 167 = .ok (.iload 9, 2) := by decide +kernel
theorem dX9_cross_169 : decode cX9_cross 169 = .ok (.aload_n 0, 1) := by decide +kernel
theorem dX9_cross_170 : decode cX9_cross 170 = .ok (.getfield 135, 3) := by decide +kernel
theorem dX9_cross_173 : decode cX9_cross 173 = .ok (.aload_n 0, 1) := by decide +kernel
theorem dX9_cross_174 : decode cX9_cross 174 = .ok (.getfield 138, 3) := by decide +kernel
theorem dX9_cross_177 : decode cX9_cross 177 = .ok (.aload_n 0, 1) := by decide +kernel
theorem dX9_cross_178 : decode cX9_cross 178 = .ok (.getfield 28, 3) := by decide +kernel
theorem dX9_cross_181 : decode cX9_cross 181 = .ok (.invokevirtual 141, 3) := by decide +kernel
theorem dX9_cross_184 : decode cX9_cross 184 = .ok (.putfield 230, 3) := by decide +kernel
theorem dX9_cross_187 : decode cX9_cross 187 = .ok (.aload_n 0, 1) := by decide +kernel
theorem dX9_cross_188 : decode cX9_cross 188 = .ok (.iload 10, 2) := by decide +kernel
theorem dX9_cross_190 : decode cX9_cross 190 = .ok (.iload 11, 2) := by decide +kernel
theorem dX9_cross_192 : decode cX9_cross 192 = .ok (.iload 12, 2) := by decide +kernel
theorem dX9_cross_194 : decode cX9_cross 194 = .ok (.iload 7, 2) := by decide +kernel
theorem dX9_cross_196 : decode cX9_cross 196 = .ok (.iload 8, 2) := by decide +kernel
theorem dX9_cross_198 : decode cX9_cross 198 = .ok (.iload 9, 2) := by decide +kernel
theorem dX9_cross_200 : decode cX9_cross 200 = .ok (.aload_n 0, 1) := by decide +kernel
theorem dX9_cross_201 : decode cX9_cross 201 = .ok (.getfield 135, 3) := by decide +kernel
theorem dX9_cross_204 : decode cX9_cross 204 = .ok (.aload_n 0, 1) := by decide +kernel
theorem dX9_cross_205 : decode cX9_cross 205 = .ok (.getfield 138, 3) := by decide +kernel
theorem dX9_cross_208 : decode cX9_cross 208 = .ok (.aload_n 0, 1) := by decide +kernel
theorem dX9_cross_209 : decode cX9_cross 209 = .ok (.getfield 28, 3) := by decide +kernel
theorem dX9_cross_212 : decode cX9_cross 212 = .ok (.invokestatic 104, 3) := by decide +kernel
theorem dX9_cross_215 : decode cX9_cross 215 = .ok (.putfield 233, 3) := by decide +kernel
theorem dX9_cross_218 : decode cX9_cross 218 = .ok (.aload_n 0, 1) := by decide +kernel
theorem dX9_cross_219 : decode cX9_cross 219 = .ok (.aload_n 0, 1) := by decide +kernel
theorem dX9_cross_220 : decode cX9_cross 220 = .ok (.iload_n 3, 1) := by decide +kernel
theorem dX9_cross_221 : decode cX9_cross 221 = .ok (.iload 4, 2) := by decide +kernel
theorem dX9_cross_223 : decode cX9_cross 223 = .ok (.iload 10, 2) := by decide +kernel
theorem dX9_cross_225 : decode cX9_cross 225 = .ok (.iload 11, 2) := by decide +kernel
theorem dX9_cross_227 : decode cX9_cross 227 = .ok (.iload 12, 2) := by decide +kernel
theorem dX9_cross_229 : decode cX9_cross 229 = .ok (.aload_n 0, 1) := by decide +kernel
theorem dX9_cross_230 : decode cX9_cross 230 = .ok (.getfield 135, 3) := by decide +kernel
theorem dX9_cross_233 : decode cX9_cross 233 = .ok (.aload_n 0, 1) := by decide +kernel
theorem dX9_cross_234 : decode cX9_cross 234 = .ok (.getfield 138, 3) := by decide +kernel
theorem dX9_cross_237 : decode cX9_cross 237 = .ok (.aload_n 0, 1) := by decide +kernel
theorem dX9_cross_238 : decode cX9_cross 238 = .ok (.getfield 28, 3) := by decide +kernel
theorem dX9_cross_241 : decode cX9_cross 241 = .ok (.invokevirtual 141, 3) := by decide +kernel
theorem dX9_cross_244 : decode cX9_cross 244 = .ok (.lneg, 1) := by decide +kernel
theorem dX9_cross_245 : decode cX9_cross 245 = .ok (.putfield 236, 3) := by decide +kernel
theorem dX9_cross_248 : decode cX9_cross 248 = .ok (.aload_n 0, 1) := by decide +kernel
theorem dX9_cross_249 : decode cX9_cross 249 = .ok (.aload_n 0, 1) := by decide +kernel
theorem dX9_cross_250 : decode cX9_cross 250 = .ok (.iload_n 3, 1) := by decide +kernel
theorem dX9_cross_251 : decode cX9_cross 251 = .ok (.iload 4, 2) := by decide +kernel
theorem dX9_cross_253 : decode cX9_cross 253 = .ok (.iload 7, 2) := by decide +kernel
theorem dX9_cross_255 : decode cX9_cross 255 = .ok (.iload 8, 2) := by decide +kernel
theorem dX9_cross_257 : decode cX9_cross 257 = .ok (.iload 9, 2) := by decide +kernel
theorem dX9_cross_259 : decode cX9_cross 259 = .ok (.iload 10, 2) := by decide +kernel
theorem dX9_cross_261 : decode cX9_cross 261 = .ok (.iload 11, 2) := by decide +kernel
theorem dX9_cross_263 : decode cX9_cross 263 = .ok (.iload 12, 2) := by decide +kernel
theorem dX9_cross_265 : decode cX9_cross 265 = .ok (.invokevirtual 141, 3) := by decide +kernel
theorem dX9_cross_268 : decode cX9_cross 268 = .ok (.putfield 239, 3) := by decide +kernel
theorem dX9_cross_271 : decode cX9_cross 271 = .ok (.aload_n 0, 1) := by decide +kernel
theorem dX9_cross_272 : decode cX9_cross 272 = .ok (.getfield 230, 3) := by decide +kernel
theorem dX9_cross_275 : decode cX9_cross 275 = .ok (.lconst 0, 1) := by decide +kernel
theorem dX9_cross_276 : decode cX9_cross 276 = .ok (.lcmp, 1) := by decide +kernel
theorem dX9_cross_277 : decode cX9_cross 277 = .ok (.ifCond .ge 39, 3) := by decide +kernel
theorem dX9_cross_280 : decode cX9_cross 280 = .ok (.aload_n 0, 1) := by decide +kernel
theorem dX9_cross_281 : decode cX9_cross 281 = .ok (.aload_n 0, 1) := by decide +kernel
theorem dX9_cross_282 : decode cX9_cross 282 = .ok (.getfield 230, 3) := by decide +kernel
theorem dX9_cross_285 : decode cX9_cross 285 = .ok (.lneg, 1) := by decide +kernel
theorem dX9_cross_286 : decode cX9_cross 286 = .ok (.putfield 230, 3) := by decide +kernel
theorem dX9_cross_289 : decode cX9_cross 289 = .ok (.aload_n 0, 1) := by decide +kernel
theorem dX9_cross_290 : decode cX9_cross 290 = .ok (.aload_n 0, 1) := by decide +kernel
theorem dX9_cross_291 : decode cX9_cross 291 = .ok (.getfield 233, 3) := by decide +kernel
theorem dX9_cross_294 : decode cX9_cross 294 = .ok (.lneg, 1) := by decide +kernel
theorem dX9_cross_295 : decode cX9_cross 295 = .ok (.putfield 233, 3) := by decide +kernel
theorem dX9_cross_298 : decode cX9_cross 298 = .ok (.aload_n 0, 1) := by decide +kernel
theorem dX9_cross_299 : decode cX9_cross 299 = .ok (.aload_n 0, 1) := by decide +kernel
theorem dX9_cross_300 : decode cX9_cross 300 = .ok (.getfield 236, 3) := by decide +kernel
theorem dX9_cross_303 : decode cX9_cross 303 = .ok (.lneg, 1) := by decide +kernel
theorem dX9_cross_304 : decode cX9_cross 304 = .ok (.putfield 236, 3) := by decide +kernel
theorem dX9_cross_307 : decode cX9_cross 307 = .ok (.aload_n 0, 1) := by decide +kernel
theorem dX9_cross_308 : decode cX9_cross 308 = .ok (.aload_n 0, 1) := by decide +kernel
theorem dX9_cross_309 : decode cX9_cross 309 = .ok (.getfield 239, 3) := by decide +kernel
theorem dX9_cross_312 : decode cX9_cross 312 = .ok (.lneg, 1) := by decide +kernel
theorem dX9_cross_313 : decode cX9_cross 313 = .ok (.putfield 239, 3) := by decide +kernel
theorem dX9_cross_316 : decode cX9_cross 316 = .ok (.aload_n 0, 1) := by decide +kernel
theorem dX9_cross_317 : decode cX9_cross 317 = .ok (.getfield 230, 3) := by decide +kernel
theorem dX9_cross_320 : decode cX9_cross 320 = .ok (.lconst 0, 1) := by decide +kernel
theorem dX9_cross_321 : decode cX9_cross 321 = .ok (.lcmp, 1) := by decide +kernel
theorem dX9_cross_322 : decode cX9_cross 322 = .ok (.ifCond .eq 49, 3) := by decide +kernel
theorem dX9_cross_325 : decode cX9_cross 325 = .ok (.aload_n 0, 1) := by decide +kernel
theorem dX9_cross_326 : decode cX9_cross 326 = .ok (.getfield 233, 3) := by decide +kernel
theorem dX9_cross_329 : decode cX9_cross 329 = .ok (.lconst 0, 1) := by decide +kernel
theorem dX9_cross_330 : decode cX9_cross 330 = .ok (.lcmp, 1) := by decide +kernel
theorem dX9_cross_331 : decode cX9_cross 331 = .ok (.ifCond .le 40, 3) := by decide +kernel
theorem dX9_cross_334 : decode cX9_cross 334 = .ok (.aload_n 0, 1) := by decide +kernel
theorem dX9_cross_335 : decode cX9_cross 335 = .ok (.getfield 233, 3) := by decide +kernel
theorem dX9_cross_338 : decode cX9_cross 338 = .ok (.aload_n 0, 1) := by decide +kernel
theorem dX9_cross_339 : decode cX9_cross 339 = .ok (.getfield 230, 3) := by decide +kernel
theorem dX9_cross_342 : decode cX9_cross 342 = .ok (.lcmp, 1) := by decide +kernel
theorem dX9_cross_343 : decode cX9_cross 343 = .ok (.ifCond .ge 28, 3) := by decide +kernel
theorem dX9_cross_346 : decode cX9_cross 346 = .ok (.aload_n 0, 1) := by decide +kernel
theorem dX9_cross_347 : decode cX9_cross 347 = .ok (.getfield 236, 3) := by decide +kernel
theorem dX9_cross_350 : decode cX9_cross 350 = .ok (.lconst 0, 1) := by decide +kernel
theorem dX9_cross_351 : decode cX9_cross 351 = .ok (.lcmp, 1) := by decide +kernel
theorem dX9_cross_352 : decode cX9_cross 352 = .ok (.ifCond .le 19, 3) := by decide +kernel
theorem dX9_cross_355 : decode cX9_cross 355 = .ok (.aload_n 0, 1) := by decide +kernel
theorem dX9_cross_356 : decode cX9_cross 356 = .ok (.getfield 236, 3) := by decide +kernel
theorem dX9_cross_359 : decode cX9_cross 359 = .ok (.aload_n 0, 1) := by decide +kernel
theorem dX9_cross_360 : decode cX9_cross 360 = .ok (.getfield 230, 3) := by decide +kernel
theorem dX9_cross_363 : decode cX9_cross 363 = .ok (.lcmp, 1) := by decide +kernel
theorem dX9_cross_364 : decode cX9_cross 364 = .ok (.ifCond .ge 7, 3) := by decide +kernel
theorem dX9_cross_367 : decode cX9_cross 367 = .ok (.iconst 1, 1) := by decide +kernel
theorem dX9_cross_368 : decode cX9_cross 368 = .ok (.goto 4, 3) := by decide +kernel
theorem dX9_cross_371 : decode cX9_cross 371 = .ok (.iconst 0, 1) := by decide +kernel
theorem dX9_cross_372 : decode cX9_cross 372 = .ok (.ireturn, 1) := by decide +kernel
theorem dX9_crossing_0 : decode cX9_crossing 0 = .ok (.aload_n 0, 1) := by decide +kernel
theorem dX9_crossing_1 : decode cX9_crossing 1 = .ok (.iload_n 1, 1) := by decide +kernel
theorem dX9_crossing_2 : decode cX9_crossing 2 = .ok (.invokevirtual 216, 3) := by decide +kernel
theorem dX9_crossing_5 : decode cX9_crossing 5 = .ok (.ifCond .eq 11, 3) := by decide +kernel
theorem dX9_crossing_8 : decode cX9_crossing 8 = .ok (.aload_n 0, 1) := by decide +kernel
theorem dX9_crossing_9 : decode cX9_crossing 9 = .ok (.iload_n 2, 1) := by decide +kernel
theorem dX9_crossing_10 : decode cX9_crossing 10 = .ok (.invokevirtual 216, 3) := by decide +kernel
theorem dX9_crossing_13 : decode cX9_crossing 13 = .ok (.ifCond .ne 5, 3) := by decide +kernel
theorem dX9_crossing_16 : decode cX9_crossing 16 = .ok (.iconst (-1), 1) := by decide +kernel
theorem dX9_crossing_17 : decode cX9_crossing 17 = .ok (.ireturn, 1) := by decide +kernel
theorem dX9_crossing_18 : decode cX9_crossing 18 = .ok (.iload_n 3, 1) := by decide +kernel
theorem dX9_crossing_19 : decode cX9_crossing 19 = .ok (.iconst 0, 1) := by decide +kernel
theorem dX9_crossing_20 : decode cX9_crossing 20 = .ok (.iconst 4, 1) := by decide +kernel
theorem dX9_crossing_21 : decode cX9_crossing 21 = .ok (.invokestatic 82, 3) := by decide +kernel
theorem dX9_crossing_24 : decode cX9_crossing 24 = .ok (.ifCond .ne 6, 3) := by decide +kernel
theorem dX9_crossing_27 : decode cX9_crossing 27 = .ok (.bipush (-2), 2) := by decide +kernel
theorem dX9_crossing_29 : decode cX9_crossing 29 = .ok (.ireturn, 1) := by decide +kernel
theorem dX9_crossing_30 : decode cX9_crossing 30 = .ok (.iload_n 1, 1) := by decide +kernel
theorem dX9_crossing_31 : decode cX9_crossing 31 = .ok (.iload_n 2, 1) := by decide +kernel
theorem dX9_crossing_32 : decode cX9_crossing 32 = .ok (.if_icmp .ne 6, 3) := by decide +kernel
theorem dX9_crossing_35 : decode cX9_crossing 35 = .ok (.bipush (-3), 2) := by decide +kernel
theorem dX9_crossing_37 : decode cX9_crossing 37 = .ok (.ireturn, 1) := by decide +kernel
theorem dX9_crossing_38 : decode cX9_crossing 38 = .ok (.aload_n 0, 1) := by decide +kernel
theorem dX9_crossing_39 : decode cX9_crossing 39 = .ok (.iload_n 1, 1) := by decide +kernel
theorem dX9_crossing_40 : decode cX9_crossing 40 = .ok (.iload_n 2, 1) := by decide +kernel
theorem dX9_crossing_41 : decode cX9_crossing 41 = .ok (.invokevirtual 242, 3) := by decide +kernel
theorem dX9_crossing_44 : decode cX9_crossing 44 = .ok (.ifCond .ne 6, 3) := by decide +kernel
theorem dX9_crossing_47 : decode cX9_crossing 47 = .ok (.bipush (-9), 2) := by decide +kernel
theorem dX9_crossing_49 : decode cX9_crossing 49 = .ok (.ireturn, 1) := by decide +kernel
theorem dX9_crossing_50 : decode cX9_crossing 50 = .ok (.iload_n 3, 1) := by decide +kernel
theorem dX9_crossing_51 : decode cX9_crossing 51 = .ok (.iconst 4, 1) := by decide +kernel
theorem dX9_crossing_52 : decode cX9_crossing 52 = .ok (.if_icmp .ne 32, 3) := by decide +kernel
theorem dX9_crossing_55 : decode cX9_crossing 55 = .ok (.aload_n 0, 1) := by decide +kernel
theorem dX9_crossing_56 : decode cX9_crossing 56 = .ok (.getfield 239, 3) := by decide +kernel
theorem dX9_crossing_59 : decode cX9_crossing 59 = .ok (.lconst 0, 1) := by decide +kernel
theorem dX9_crossing_60 : decode cX9_crossing 60 = .ok (.lcmp, 1) := by decide +kernel
theorem dX9_crossing_61 : decode cX9_crossing 61 = .ok (.ifCond .le 7, 3) := by decide +kernel
theorem dX9_crossing_64 : decode cX9_crossing 64 = .ok (.iload_n 2, 1) := by decide +kernel
theorem dX9_crossing_65 : decode cX9_crossing 65 = .ok (.goto 18, 3) := by decide +kernel
theorem dX9_crossing_68 : decode cX9_crossing 68 = .ok (.aload_n 0, 1) := by decide +kernel
theorem dX9_crossing_69 : decode cX9_crossing 69 = .ok (.getfield 239, 3) := by decide +kernel
theorem dX9_crossing_72 : decode cX9_crossing 72 = .ok (.lconst 0, 1) := by decide +kernel
theorem dX9_crossing_73 : decode cX9_crossing 73 = .ok (.lcmp, 1) := by decide +kernel
theorem dX9_crossing_74 : decode cX9_crossing 74 = .ok (.ifCond .ge 7, 3) := by decide +kernel
theorem dX9_crossing_77 : decode cX9_crossing 77 = .ok (.iload_n 1, 1) := by decide +kernel
theorem dX9_crossing_78 : decode cX9_crossing 78 = .ok (.goto 5, 3) := by decide +kernel
theorem dX9_crossing_81 : decode cX9_crossing 81 = .ok (.bipush (-9), 2) := by decide +kernel
theorem dX9_crossing_83 : decode cX9_crossing 83 = .ok (.ireturn, 1) := by decide +kernel
theorem dX9_crossing_84 : decode cX9_crossing 84 = .ok (.iload_n 3, 1) := by decide +kernel
theorem dX9_crossing_85 : decode cX9_crossing 85 = .ok (.iconst 2, 1) := by decide +kernel
theorem dX9_crossing_86 : decode cX9_crossing 86 = .ok (.if_icmp .ge 18, 3) := by decide +kernel
theorem dX9_crossing_89 : decode cX9_crossing 89 = .ok (.aload_n 0, 1) := by decide +kernel
theorem dX9_crossing_90 : decode cX9_crossing 90 = .ok (.getfield 233, 3) := by decide +kernel
theorem dX9_crossing_93 : decode cX9_crossing 93 = .ok (.aload_n 0, 1) := by decide +kernel
theorem dX9_crossing_94 : decode cX9_crossing 94 = .ok (.getfield 230, 3) := by decide +kernel
theorem dX9_crossing_97 : decode cX9_crossing 97 = .ok (.iload_n 3, 1) := by decide +kernel
theorem dX9_crossing_98 : decode cX9_crossing 98 = .ok (.invokestatic 222, 3) := by decide +kernel
theorem dX9_crossing_101 : decode cX9_crossing 101 = .ok (.goto 17, 3) := by decide +kernel
theorem dX9_crossing_104 : decode cX9_crossing 104 = .ok (.aload_n 0, 1) := by decide +kernel
theorem dX9_crossing_105 : decode cX9_crossing 105 = .ok (.getfield 236, 3) := by decide +kernel
theorem dX9_crossing_108 : decode cX9_crossing 108 = .ok (.aload_n 0, 1) := by decide +kernel
theorem dX9_crossing_109 : decode cX9_crossing 109 = .ok (.getfield 230, 3) := by decide +kernel
theorem dX9_crossing_112 : decode cX9_crossing 112 = .ok (.iload_n 3, 1) := by decide +kernel
theorem dX9_crossing_113 : decode cX9_crossing 113 = .ok (.iconst 2, 1) := by decide +kernel
theorem dX9_crossing_114 : decode cX9_crossing 114 = .ok (.isub, 1) := by decide +kernel
theorem dX9_crossing_115 : decode cX9_crossing 115 = .ok (.invokestatic 222, 3) := by decide +kernel
theorem dX9_crossing_118 : decode cX9_crossing 118 = .ok (.ireturn, 1) := by decide +kernel
theorem dX9_isFree_0 : decode cX9_isFree 0 = .ok (.aload_n 0, 1) := by decide +kernel
theorem dX9_isFree_1 : decode cX9_isFree 1 = .ok (.iload_n 1, 1) := by decide +kernel
theorem dX9_isFree_2 : decode cX9_isFree 2 = .ok (.iload_n 2, 1) := by decide +kernel
theorem dX9_isFree_3 : decode cX9_isFree 3 = .ok (.invokevirtual 207, 3) := by decide +kernel
theorem dX9_isFree_6 : decode cX9_isFree 6 = .ok (.ifCond .eq 21, 3) := by decide +kernel
theorem dX9_isFree_9 : decode cX9_isFree 9 = .ok (.aload_n 0, 1) := by decide +kernel
theorem dX9_isFree_10 : decode cX9_isFree 10 = .ok (.getfield 76, 3) := by decide +kernel
theorem dX9_isFree_13 : decode cX9_isFree 13 = .ok (.bipush 50, 2) := by decide +kernel
theorem dX9_isFree_15 : decode cX9_isFree 15 = .ok (.iload_n 1, 1) := by decide +kernel
theorem dX9_isFree_16 : decode cX9_isFree 16 = .ok (.imul, 1) := by decide +kernel
theorem dX9_isFree_17 : decode cX9_isFree 17 = .ok (.iload_n 2, 1) := by decide +kernel
theorem dX9_isFree_18 : decode cX9_isFree 18 = .ok (.iadd, 1) := by decide +kernel
theorem dX9_isFree_19 : decode cX9_isFree 19 = .ok (.baload, 1) := by decide +kernel
theorem dX9_isFree_20 : decode cX9_isFree 20 = .ok (.ifCond .ne 7, 3) := by decide +kernel
theorem dX9_isFree_23 : decode cX9_isFree 23 = .ok (.iconst 1, 1) := by decide +kernel
theorem dX9_isFree_24 : decode cX9_isFree 24 = .ok (.goto 4, 3) := by decide +kernel
theorem dX9_isFree_27 : decode cX9_isFree 27 = .ok (.iconst 0, 1) := by decide +kernel
theorem dX9_isFree_28 : decode cX9_isFree 28 = .ok (.ireturn, 1) := by decide +kernel
theorem dX9_lays_0 : decode cX9_lays 0 = .ok (.aload_n 0, 1) := by decide +kernel
theorem dX9_lays_1 : decode cX9_lays 1 = .ok (.getfield 76, 3) := by decide +kernel
theorem dX9_lays_4 : decode cX9_lays 4 = .ok (.bipush 50, 2) := by decide +kernel
theorem dX9_lays_6 : decode cX9_lays 6 = .ok (.iload_n 1, 1) := by decide +kernel
theorem dX9_lays_7 : decode cX9_lays 7 = .ok (.imul, 1) := by decide +kernel
theorem dX9_lays_8 : decode cX9_lays 8 = .ok (.iload_n 2, 1) := by decide +kernel
theorem dX9_lays_9 : decode cX9_lays 9 = .ok (.iadd, 1) := by decide +kernel
theorem dX9_lays_10 : decode cX9_lays 10 = .ok (.iconst 1, 1) := by decide +kernel
theorem dX9_lays_11 : decode cX9_lays 11 = .ok (.bastore, 1) := by decide +kernel
theorem dX9_lays_12 : decode cX9_lays 12 = .ok (.aload_n 0, 1) := by decide +kernel
theorem dX9_lays_13 : decode cX9_lays 13 = .ok (.getfield 66, 3) := by decide +kernel
theorem dX9_lays_16 : decode cX9_lays 16 = .ok (.aload_n 0, 1) := by decide +kernel
theorem dX9_lays_17 : decode cX9_lays 17 = .ok (.getfield 245, 3) := by decide +kernel
theorem dX9_lays_20 : decode cX9_lays 20 = .ok (.iload_n 1, 1) := by decide +kernel
theorem dX9_lays_21 : decode cX9_lays 21 = .ok (.iastore, 1) := by decide +kernel
theorem dX9_lays_22 : decode cX9_lays 22 = .ok (.aload_n 0, 1) := by decide +kernel
theorem dX9_lays_23 : decode cX9_lays 23 = .ok (.getfield 69, 3) := by decide +kernel
theorem dX9_lays_26 : decode cX9_lays 26 = .ok (.aload_n 0, 1) := by decide +kernel
theorem dX9_lays_27 : decode cX9_lays 27 = .ok (.getfield 245, 3) := by decide +kernel
theorem dX9_lays_30 : decode cX9_lays 30 = .ok (.iload_n 2, 1) := by decide +kernel
theorem dX9_lays_31 : decode cX9_lays 31 = .ok (.iastore, 1) := by decide +kernel
theorem dX9_lays_32 : decode cX9_lays 32 = .ok (.aload_n 0, 1) := by decide +kernel
theorem dX9_lays_33 : decode cX9_lays 33 = .ok (.getfield 72, 3) := by decide +kernel
theorem dX9_lays_36 : decode cX9_lays 36 = .ok (.aload_n 0, 1) := by decide +kernel
theorem dX9_lays_37 : decode cX9_lays 37 = .ok (.getfield 245, 3) := by decide +kernel
theorem dX9_lays_40 : decode cX9_lays 40 = .ok (.iload_n 3, 1) := by decide +kernel
theorem dX9_lays_41 : decode cX9_lays 41 = .ok (.bastore, 1) := by decide +kernel
theorem dX9_lays_42 : decode cX9_lays 42 = .ok (.aload_n 0, 1) := by decide +kernel
theorem dX9_lays_43 : decode cX9_lays 43 = .ok (.dup, 1) := by decide +kernel
theorem dX9_lays_44 : decode cX9_lays 44 = .ok (.getfield 245, 3) := by decide +kernel
theorem dX9_lays_47 : decode cX9_lays 47 = .ok (.iconst 1, 1) := by decide +kernel
theorem dX9_lays_48 : decode cX9_lays 48 = .ok (.iadd, 1) := by decide +kernel
theorem dX9_lays_49 : decode cX9_lays 49 = .ok (.putfield 245, 3) := by decide +kernel
theorem dX9_lays_52 : decode cX9_lays 52 = .ok (.return_, 1) := by decide +kernel
theorem dX9_endOf_0 : decode cX9_endOf 0 = .ok (.iload_n 3, 1) := by decide +kernel
theorem dX9_endOf_1 : decode cX9_endOf 1 = .ok (.ifCond .eq 26, 3) := by decide +kernel
theorem dX9_endOf_4 : decode cX9_endOf 4 = .ok (.iload_n 2, 1) := by decide +kernel
theorem dX9_endOf_5 : decode cX9_endOf 5 = .ok (.iconst 1, 1) := by decide +kernel
theorem dX9_endOf_6 : decode cX9_endOf 6 = .ok (.iadd, 1) := by decide +kernel
theorem dX9_endOf_7 : decode cX9_endOf 7 = .ok (.aload_n 0, 1) := by decide +kernel
theorem dX9_endOf_8 : decode cX9_endOf 8 = .ok (.iload_n 1, 1) := by decide +kernel
theorem dX9_endOf_9 : decode cX9_endOf 9 = .ok (.invokevirtual 203, 3) := by decide +kernel
theorem dX9_endOf_12 : decode cX9_endOf 12 = .ok (.if_icmp .ne 12, 3) := by decide +kernel
theorem dX9_endOf_15 : decode cX9_endOf 15 = .ok (.aload_n 0, 1) := by decide +kernel
theorem dX9_endOf_16 : decode cX9_endOf 16 = .ok (.getfield 41, 3) := by decide +kernel
theorem dX9_endOf_19 : decode cX9_endOf 19 = .ok (.iload_n 1, 1) := by decide +kernel
theorem dX9_endOf_20 : decode cX9_endOf 20 = .ok (.iaload, 1) := by decide +kernel
theorem dX9_endOf_21 : decode cX9_endOf 21 = .ok (.goto 5, 3) := by decide +kernel
theorem dX9_endOf_24 : decode cX9_endOf 24 = .ok (.bipush (-9), 2) := by decide +kernel
theorem dX9_endOf_26 : decode cX9_endOf 26 = .ok (.ireturn, 1) := by decide +kernel
theorem dX9_endOf_27 : decode cX9_endOf 27 = .ok (.iload_n 2, 1) := by decide +kernel
theorem dX9_endOf_28 : decode cX9_endOf 28 = .ok (.ifCond .ne 12, 3) := by decide +kernel
theorem dX9_endOf_31 : decode cX9_endOf 31 = .ok (.aload_n 0, 1) := by decide +kernel
theorem dX9_endOf_32 : decode cX9_endOf 32 = .ok (.getfield 38, 3) := by decide +kernel
theorem dX9_endOf_35 : decode cX9_endOf 35 = .ok (.iload_n 1, 1) := by decide +kernel
theorem dX9_endOf_36 : decode cX9_endOf 36 = .ok (.iaload, 1) := by decide +kernel
theorem dX9_endOf_37 : decode cX9_endOf 37 = .ok (.goto 5, 3) := by decide +kernel
theorem dX9_endOf_40 : decode cX9_endOf 40 = .ok (.bipush (-9), 2) := by decide +kernel
theorem dX9_endOf_42 : decode cX9_endOf 42 = .ok (.ireturn, 1) := by decide +kernel
theorem dX9_goesOn_0 : decode cX9_goesOn 0 = .ok (.iconst 0, 1) := by decide +kernel
theorem dX9_goesOn_1 : decode cX9_goesOn 1 = .ok (.istore_n 2, 1) := by decide +kernel
theorem dX9_goesOn_2 : decode cX9_goesOn 2 = .ok (.iload_n 2, 1) := by decide +kernel
theorem dX9_goesOn_3 : decode cX9_goesOn 3 = .ok (.aload_n 0, 1) := by decide +kernel
theorem dX9_goesOn_4 : decode cX9_goesOn 4 = .ok (.getfield 180, 3) := by decide +kernel
theorem dX9_goesOn_7 : decode cX9_goesOn 7 = .ok (.if_icmp .ge 85, 3) := by decide +kernel
theorem dX9_goesOn_10 : decode cX9_goesOn 10 = .ok (.aload_n 0, 1) := by decide +kernel
theorem dX9_goesOn_11 : decode cX9_goesOn 11 = .ok (.getfield 38, 3) := by decide +kernel
theorem dX9_goesOn_14 : decode cX9_goesOn 14 = .ok (.iload_n 2, 1) := by decide +kernel
theorem dX9_goesOn_15 : decode cX9_goesOn 15 = .ok (.iaload, 1) := by decide +kernel
theorem dX9_goesOn_16 : decode cX9_goesOn 16 = .ok (.iload_n 1, 1) := by decide +kernel
theorem dX9_goesOn_17 : decode cX9_goesOn 17 = .ok (.if_icmp .ne 27, 3) := by decide +kernel
theorem dX9_goesOn_20 : decode cX9_goesOn 20 = .ok (.aload_n 0, 1) := by decide +kernel
theorem dX9_goesOn_21 : decode cX9_goesOn 21 = .ok (.iload_n 2, 1) := by decide +kernel
theorem dX9_goesOn_22 : decode cX9_goesOn 22 = .ok (.iconst 0, 1) := by decide +kernel
theorem dX9_goesOn_23 : decode cX9_goesOn 23 = .ok (.invokevirtual 248, 3) := by decide +kernel
theorem dX9_goesOn_26 : decode cX9_goesOn 26 = .ok (.ifCond .eq 18, 3) := by decide +kernel
theorem dX9_goesOn_29 : decode cX9_goesOn 29 = .ok (.aload_n 0, 1) := by decide +kernel
theorem dX9_goesOn_30 : decode cX9_goesOn 30 = .ok (.iload_n 2, 1) := by decide +kernel
theorem dX9_goesOn_31 : decode cX9_goesOn 31 = .ok (.iconst 0, 1) := by decide +kernel
theorem dX9_goesOn_32 : decode cX9_goesOn 32 = .ok (.iconst 1, 1) := by decide +kernel
theorem dX9_goesOn_33 : decode cX9_goesOn 33 = .ok (.invokevirtual 251, 3) := by decide +kernel
theorem dX9_goesOn_36 : decode cX9_goesOn 36 = .ok (.aload_n 0, 1) := by decide +kernel
theorem dX9_goesOn_37 : decode cX9_goesOn 37 = .ok (.iload_n 2, 1) := by decide +kernel
theorem dX9_goesOn_38 : decode cX9_goesOn 38 = .ok (.iconst 0, 1) := by decide +kernel
theorem dX9_goesOn_39 : decode cX9_goesOn 39 = .ok (.iconst 1, 1) := by decide +kernel
theorem dX9_goesOn_40 : decode cX9_goesOn 40 = .ok (.invokevirtual 255, 3) := by decide +kernel
theorem dX9_goesOn_43 : decode cX9_goesOn 43 = .ok (.ireturn, 1) := by decide +kernel
theorem dX9_goesOn_44 : decode cX9_goesOn 44 = .ok (.aload_n 0, 1) := by decide +kernel
theorem dX9_goesOn_45 : decode cX9_goesOn 45 = .ok (.iload_n 2, 1) := by decide +kernel
theorem dX9_goesOn_46 : decode cX9_goesOn 46 = .ok (.invokevirtual 203, 3) := by decide +kernel
theorem dX9_goesOn_49 : decode cX9_goesOn 49 = .ok (.iconst 1, 1) := by decide +kernel
theorem dX9_goesOn_50 : decode cX9_goesOn 50 = .ok (.isub, 1) := by decide +kernel
theorem dX9_goesOn_51 : decode cX9_goesOn 51 = .ok (.istore_n 3, 1) := by decide +kernel
theorem dX9_goesOn_52 : decode cX9_goesOn 52 = .ok (.aload_n 0, 1) := by decide +kernel
theorem dX9_goesOn_53 : decode cX9_goesOn 53 = .ok (.getfield 41, 3) := by decide +kernel
theorem dX9_goesOn_56 : decode cX9_goesOn 56 = .ok (.iload_n 2, 1) := by decide +kernel
theorem dX9_goesOn_57 : decode cX9_goesOn 57 = .ok (.iaload, 1) := by decide +kernel
theorem dX9_goesOn_58 : decode cX9_goesOn 58 = .ok (.iload_n 1, 1) := by decide +kernel
theorem dX9_goesOn_59 : decode cX9_goesOn 59 = .ok (.if_icmp .ne 27, 3) := by decide +kernel
theorem dX9_goesOn_62 : decode cX9_goesOn 62 = .ok (.aload_n 0, 1) := by decide +kernel
theorem dX9_goesOn_63 : decode cX9_goesOn 63 = .ok (.iload_n 2, 1) := by decide +kernel
theorem dX9_goesOn_64 : decode cX9_goesOn 64 = .ok (.iload_n 3, 1) := by decide +kernel
theorem dX9_goesOn_65 : decode cX9_goesOn 65 = .ok (.invokevirtual 248, 3) := by decide +kernel
theorem dX9_goesOn_68 : decode cX9_goesOn 68 = .ok (.ifCond .eq 18, 3) := by decide +kernel
theorem dX9_goesOn_71 : decode cX9_goesOn 71 = .ok (.aload_n 0, 1) := by decide +kernel
theorem dX9_goesOn_72 : decode cX9_goesOn 72 = .ok (.iload_n 2, 1) := by decide +kernel
theorem dX9_goesOn_73 : decode cX9_goesOn 73 = .ok (.iload_n 3, 1) := by decide +kernel
theorem dX9_goesOn_74 : decode cX9_goesOn 74 = .ok (.iconst 0, 1) := by decide +kernel
theorem dX9_goesOn_75 : decode cX9_goesOn 75 = .ok (.invokevirtual 251, 3) := by decide +kernel
theorem dX9_goesOn_78 : decode cX9_goesOn 78 = .ok (.aload_n 0, 1) := by decide +kernel
theorem dX9_goesOn_79 : decode cX9_goesOn 79 = .ok (.iload_n 2, 1) := by decide +kernel
theorem dX9_goesOn_80 : decode cX9_goesOn 80 = .ok (.iload_n 3, 1) := by decide +kernel
theorem dX9_goesOn_81 : decode cX9_goesOn 81 = .ok (.iconst 0, 1) := by decide +kernel
theorem dX9_goesOn_82 : decode cX9_goesOn 82 = .ok (.invokevirtual 255, 3) := by decide +kernel
theorem dX9_goesOn_85 : decode cX9_goesOn 85 = .ok (.ireturn, 1) := by decide +kernel
theorem dX9_goesOn_86 : decode cX9_goesOn 86 = .ok (.iinc 2 1, 3) := by decide +kernel
theorem dX9_goesOn_89 : decode cX9_goesOn 89 = .ok (.goto (-87), 3) := by decide +kernel
theorem dX9_goesOn_92 : decode cX9_goesOn 92 = .ok (.bipush (-9), 2) := by decide +kernel
theorem dX9_goesOn_94 : decode cX9_goesOn 94 = .ok (.ireturn, 1) := by decide +kernel
theorem dX9_findStrokes_0 : decode cX9_findStrokes 0 = .ok (.aload_n 0, 1) := by decide +kernel
theorem dX9_findStrokes_1 : decode cX9_findStrokes 1 = .ok (.iconst 0, 1) := by decide +kernel
theorem dX9_findStrokes_2 : decode cX9_findStrokes 2 = .ok (.putfield 259, 3) := by decide +kernel
theorem dX9_findStrokes_5 : decode cX9_findStrokes 5 = .ok (.aload_n 0, 1) := by decide +kernel
theorem dX9_findStrokes_6 : decode cX9_findStrokes 6 = .ok (.iconst 0, 1) := by decide +kernel
theorem dX9_findStrokes_7 : decode cX9_findStrokes 7 = .ok (.putfield 245, 3) := by decide +kernel
theorem dX9_findStrokes_10 : decode cX9_findStrokes 10 = .ok (.iconst 0, 1) := by decide +kernel
theorem dX9_findStrokes_11 : decode cX9_findStrokes 11 = .ok (.istore_n 1, 1) := by decide +kernel
theorem dX9_findStrokes_12 : decode cX9_findStrokes 12 = .ok (.iload_n 1, 1) := by decide +kernel
theorem dX9_findStrokes_13 : decode cX9_findStrokes 13 = .ok (.aload_n 0, 1) := by decide +kernel
theorem dX9_findStrokes_14 : decode cX9_findStrokes 14 = .ok (.getfield 76, 3) := by decide +kernel
theorem dX9_findStrokes_17 : decode cX9_findStrokes 17 = .ok (.arraylength, 1) := by decide +kernel
theorem dX9_findStrokes_18 : decode cX9_findStrokes 18 = .ok (.if_icmp .ge 16, 3) := by decide +kernel
theorem dX9_findStrokes_21 : decode cX9_findStrokes 21 = .ok (.aload_n 0, 1) := by decide +kernel
theorem dX9_findStrokes_22 : decode cX9_findStrokes 22 = .ok (.getfield 76, 3) := by decide +kernel
theorem dX9_findStrokes_25 : decode cX9_findStrokes 25 = .ok (.iload_n 1, 1) := by decide +kernel
theorem dX9_findStrokes_26 : decode cX9_findStrokes 26 = .ok (.iconst 0, 1) := by decide +kernel
theorem dX9_findStrokes_27 : decode cX9_findStrokes 27 = .ok (.bastore, 1) := by decide +kernel
theorem dX9_findStrokes_28 : decode cX9_findStrokes 28 = .ok (.iinc 1 1, 3) := by decide +kernel
theorem dX9_findStrokes_31 : decode cX9_findStrokes 31 = .ok (.goto (-19), 3) := by decide +kernel
theorem dX9_findStrokes_34 : decode cX9_findStrokes 34 = .ok (.iconst 0, 1) := by decide +kernel
theorem dX9_findStrokes_35 : decode cX9_findStrokes 35 = .ok (.istore_n 1, 1) := by decide +kernel
theorem dX9_findStrokes_36 : decode cX9_findStrokes 36 = .ok (.iload_n 1, 1) := by decide +kernel
theorem dX9_findStrokes_37 : decode cX9_findStrokes 37 = .ok (.aload_n 0, 1) := by decide +kernel
theorem dX9_findStrokes_38 : decode cX9_findStrokes 38 = .ok (.getfield 180, 3) := by decide +kernel
theorem dX9_findStrokes_41 : decode cX9_findStrokes 41 = .ok (.if_icmp .ge 88, 3) := by decide +kernel
theorem dX9_findStrokes_44 : decode cX9_findStrokes 44 = .ok (.iconst 0, 1) := by decide +kernel
theorem dX9_findStrokes_45 : decode cX9_findStrokes 45 = .ok (.istore_n 2, 1) := by decide +kernel
theorem dX9_findStrokes_46 : decode cX9_findStrokes 46 = .ok (.iload_n 2, 1) := by decide +kernel
theorem dX9_findStrokes_47 : decode cX9_findStrokes 47 = .ok (.aload_n 0, 1) := by decide +kernel
theorem dX9_findStrokes_48 : decode cX9_findStrokes 48 = .ok (.iload_n 1, 1) := by decide +kernel
theorem dX9_findStrokes_49 : decode cX9_findStrokes 49 = .ok (.invokevirtual 203, 3) := by decide +kernel
theorem dX9_findStrokes_52 : decode cX9_findStrokes 52 = .ok (.if_icmp .ge 71, 3) := by decide +kernel
theorem dX9_findStrokes_55 : decode cX9_findStrokes 55 = .ok (.aload_n 0, 1) := by decide +kernel
theorem dX9_findStrokes_56 : decode cX9_findStrokes 56 = .ok (.iload_n 1, 1) := by decide +kernel
theorem dX9_findStrokes_57 : decode cX9_findStrokes 57 = .ok (.iload_n 2, 1) := by decide +kernel
theorem dX9_findStrokes_58 : decode cX9_findStrokes 58 = .ok (.invokevirtual 248, 3) := by decide +kernel
theorem dX9_findStrokes_61 : decode cX9_findStrokes 61 = .ok (.ifCond .eq 56, 3) := by decide +kernel
theorem dX9_findStrokes_64 : decode cX9_findStrokes 64 = .ok (.aload_n 0, 1) := by decide +kernel
theorem dX9_findStrokes_65 : decode cX9_findStrokes 65 = .ok (.getfield 63, 3) := by decide +kernel
theorem dX9_findStrokes_68 : decode cX9_findStrokes 68 = .ok (.aload_n 0, 1) := by decide +kernel
theorem dX9_findStrokes_69 : decode cX9_findStrokes 69 = .ok (.getfield 259, 3) := by decide +kernel
theorem dX9_findStrokes_72 : decode cX9_findStrokes 72 = .ok (.aload_n 0, 1) := by decide +kernel
theorem dX9_findStrokes_73 : decode cX9_findStrokes 73 = .ok (.getfield 245, 3) := by decide +kernel
theorem dX9_findStrokes_76 : decode cX9_findStrokes 76 = .ok (.iastore, 1) := by decide +kernel
theorem dX9_findStrokes_77 : decode cX9_findStrokes 77 = .ok (.aload_n 0, 1) := by decide +kernel
theorem dX9_findStrokes_78 : decode cX9_findStrokes 78 = .ok (.dup, 1) := by decide +kernel
theorem dX9_findStrokes_79 : decode cX9_findStrokes 79 = .ok (.getfield 259, 3) := by decide +kernel
theorem dX9_findStrokes_82 : decode cX9_findStrokes 82 = .ok (.iconst 1, 1) := by decide +kernel
theorem dX9_findStrokes_83 : decode cX9_findStrokes 83 = .ok (.iadd, 1) := by decide +kernel
theorem dX9_findStrokes_84 : decode cX9_findStrokes 84 = .ok (.putfield 259, 3) := by decide +kernel
theorem dX9_findStrokes_87 : decode cX9_findStrokes 87 = .ok (.aload_n 0, 1) := by decide +kernel
theorem dX9_findStrokes_88 : decode cX9_findStrokes 88 = .ok (.iload_n 1, 1) := by decide +kernel
theorem dX9_findStrokes_89 : decode cX9_findStrokes 89 = .ok (.iload_n 2, 1) := by decide +kernel
theorem dX9_findStrokes_90 : decode cX9_findStrokes 90 = .ok (.iconst 1, 1) := by decide +kernel
theorem dX9_findStrokes_91 : decode cX9_findStrokes 91 = .ok (.invokevirtual 251, 3) := by decide +kernel
theorem dX9_findStrokes_94 : decode cX9_findStrokes 94 = .ok (.aload_n 0, 1) := by decide +kernel
theorem dX9_findStrokes_95 : decode cX9_findStrokes 95 = .ok (.iload_n 1, 1) := by decide +kernel
theorem dX9_findStrokes_96 : decode cX9_findStrokes 96 = .ok (.iload_n 2, 1) := by decide +kernel
theorem dX9_findStrokes_97 : decode cX9_findStrokes 97 = .ok (.iconst 1, 1) := by decide +kernel
theorem dX9_findStrokes_98 : decode cX9_findStrokes 98 = .ok (.invokevirtual 255, 3) := by decide +kernel
theorem dX9_findStrokes_101 : decode cX9_findStrokes 101 = .ok (.istore_n 3, 1) := by decide +kernel
theorem dX9_findStrokes_102 : decode cX9_findStrokes 102 = .ok (.iload_n 3, 1) := by decide +kernel
theorem dX9_findStrokes_103 : decode cX9_findStrokes 103 = .ok (.bipush (-9), 2) := by decide +kernel
theorem dX9_findStrokes_105 : decode cX9_findStrokes 105 = .ok (.if_icmp .eq 12, 3) := by decide +kernel
theorem dX9_findStrokes_108 : decode cX9_findStrokes 108 = .ok (.aload_n 0, 1) := by decide +kernel
theorem dX9_findStrokes_109 : decode cX9_findStrokes 109 = .ok (.iload_n 3, 1) := by decide +kernel
theorem dX9_findStrokes_110 : decode cX9_findStrokes 110 = .ok (.invokevirtual 262, 3) := by decide +kernel
theorem dX9_findStrokes_113 : decode cX9_findStrokes 113 = .ok (.istore_n 3, 1) := by decide +kernel
theorem dX9_findStrokes_114 : decode cX9_findStrokes 114 = .ok (.goto (-12), 3) := by decide +kernel
theorem dX9_findStrokes_117 : decode cX9_findStrokes 117 = .ok (.iinc 2 1, 3) := by decide +kernel
theorem dX9_findStrokes_120 : decode cX9_findStrokes 120 = .ok (.goto (-74), 3) := by decide +kernel
theorem dX9_findStrokes_123 : decode cX9_findStrokes 123 = .ok (.iinc 1 1, 3) := by decide +kernel
theorem dX9_findStrokes_126 : decode cX9_findStrokes 126 = .ok (.goto (-90), 3) := by decide +kernel
theorem dX9_findStrokes_129 : decode cX9_findStrokes 129 = .ok (.aload_n 0, 1) := by decide +kernel
theorem dX9_findStrokes_130 : decode cX9_findStrokes 130 = .ok (.getfield 63, 3) := by decide +kernel
theorem dX9_findStrokes_133 : decode cX9_findStrokes 133 = .ok (.aload_n 0, 1) := by decide +kernel
theorem dX9_findStrokes_134 : decode cX9_findStrokes 134 = .ok (.getfield 259, 3) := by decide +kernel
theorem dX9_findStrokes_137 : decode cX9_findStrokes 137 = .ok (.aload_n 0, 1) := by decide +kernel
theorem dX9_findStrokes_138 : decode cX9_findStrokes 138 = .ok (.getfield 245, 3) := by decide +kernel
theorem dX9_findStrokes_141 : decode cX9_findStrokes 141 = .ok (.iastore, 1) := by decide +kernel
theorem dX9_findStrokes_142 : decode cX9_findStrokes 142 = .ok (.return_, 1) := by decide +kernel
theorem dX9_isStroke_0 : decode cX9_isStroke 0 = .ok (.aload_n 0, 1) := by decide +kernel
theorem dX9_isStroke_1 : decode cX9_isStroke 1 = .ok (.invokevirtual 200, 3) := by decide +kernel
theorem dX9_isStroke_4 : decode cX9_isStroke 4 = .ok (.iload_n 1, 1) := by decide +kernel
theorem dX9_isStroke_5 : decode cX9_isStroke 5 = .ok (.iconst 0, 1) := by decide +kernel
theorem dX9_isStroke_6 : decode cX9_isStroke 6 = .ok (.aload_n 0, 1) := by decide +kernel
theorem dX9_isStroke_7 : decode cX9_isStroke 7 = .ok (.getfield 259, 3) := by decide +kernel
theorem dX9_isStroke_10 : decode cX9_isStroke 10 = .ok (.iconst 1, 1) := by decide +kernel
theorem dX9_isStroke_11 : decode cX9_isStroke 11 = .ok (.isub, 1) := by decide +kernel
theorem dX9_isStroke_12 : decode cX9_isStroke 12 = .ok (.invokestatic 82, 3) := by decide +kernel
theorem dX9_isStroke_15 : decode cX9_isStroke 15 = .ok (.ireturn, 1) := by decide +kernel
theorem dX9_stroke_0 : decode cX9_stroke 0 = .ok (.aload_n 0, 1) := by decide +kernel
theorem dX9_stroke_1 : decode cX9_stroke 1 = .ok (.iload_n 1, 1) := by decide +kernel
theorem dX9_stroke_2 : decode cX9_stroke 2 = .ok (.invokevirtual 265, 3) := by decide +kernel
theorem dX9_stroke_5 : decode cX9_stroke 5 = .ok (.ifCond .ne 5, 3) := by decide +kernel
theorem dX9_stroke_8 : decode cX9_stroke 8 = .ok (.iconst (-1), 1) := by decide +kernel
theorem dX9_stroke_9 : decode cX9_stroke 9 = .ok (.ireturn, 1) := by decide +kernel
theorem dX9_stroke_10 : decode cX9_stroke 10 = .ok (.aload_n 0, 1) := by decide +kernel
theorem dX9_stroke_11 : decode cX9_stroke 11 = .ok (.getfield 63, 3) := by decide +kernel
theorem dX9_stroke_14 : decode cX9_stroke 14 = .ok (.iload_n 1, 1) := by decide +kernel
theorem dX9_stroke_15 : decode cX9_stroke 15 = .ok (.iaload, 1) := by decide +kernel
theorem dX9_stroke_16 : decode cX9_stroke 16 = .ok (.istore_n 3, 1) := by decide +kernel
theorem dX9_stroke_17 : decode cX9_stroke 17 = .ok (.aload_n 0, 1) := by decide +kernel
theorem dX9_stroke_18 : decode cX9_stroke 18 = .ok (.getfield 63, 3) := by decide +kernel
theorem dX9_stroke_21 : decode cX9_stroke 21 = .ok (.iload_n 1, 1) := by decide +kernel
theorem dX9_stroke_22 : decode cX9_stroke 22 = .ok (.iconst 1, 1) := by decide +kernel
theorem dX9_stroke_23 : decode cX9_stroke 23 = .ok (.iadd, 1) := by decide +kernel
theorem dX9_stroke_24 : decode cX9_stroke 24 = .ok (.iaload, 1) := by decide +kernel
theorem dX9_stroke_25 : decode cX9_stroke 25 = .ok (.iconst 1, 1) := by decide +kernel
theorem dX9_stroke_26 : decode cX9_stroke 26 = .ok (.isub, 1) := by decide +kernel
theorem dX9_stroke_27 : decode cX9_stroke 27 = .ok (.istore 4, 2) := by decide +kernel
theorem dX9_stroke_29 : decode cX9_stroke 29 = .ok (.iload_n 2, 1) := by decide +kernel
theorem dX9_stroke_30 : decode cX9_stroke 30 = .ok (.tableswitch 90 0 2 #[26, 33, 64], 26) := by decide +kernel
theorem dX9_stroke_56 : decode cX9_stroke 56 = .ok (.iload 4, 2) := by decide +kernel
theorem dX9_stroke_58 : decode cX9_stroke 58 = .ok (.iload_n 3, 1) := by decide +kernel
theorem dX9_stroke_59 : decode cX9_stroke 59 = .ok (.isub, 1) := by decide +kernel
theorem dX9_stroke_60 : decode cX9_stroke 60 = .ok (.iconst 1, 1) := by decide +kernel
theorem dX9_stroke_61 : decode cX9_stroke 61 = .ok (.iadd, 1) := by decide +kernel
theorem dX9_stroke_62 : decode cX9_stroke 62 = .ok (.ireturn, 1) := by decide +kernel
theorem dX9_stroke_63 : decode cX9_stroke 63 = .ok (.aload_n 0, 1) := by decide +kernel
theorem dX9_stroke_64 : decode cX9_stroke 64 = .ok (.aload_n 0, 1) := by decide +kernel
theorem dX9_stroke_65 : decode cX9_stroke 65 = .ok (.getfield 66, 3) := by decide +kernel
theorem dX9_stroke_68 : decode cX9_stroke 68 = .ok (.iload_n 3, 1) := by decide +kernel
theorem dX9_stroke_69 : decode cX9_stroke 69 = .ok (.iaload, 1) := by decide +kernel
theorem dX9_stroke_70 : decode cX9_stroke 70 = .ok (.aload_n 0, 1) := by decide +kernel
theorem dX9_stroke_71 : decode cX9_stroke 71 = .ok (.getfield 69, 3) := by decide +kernel
theorem dX9_stroke_74 : decode cX9_stroke 74 = .ok (.iload_n 3, 1) := by decide +kernel
theorem dX9_stroke_75 : decode cX9_stroke 75 = .ok (.iaload, 1) := by decide +kernel
theorem dX9_stroke_76 : decode cX9_stroke 76 = .ok (.aload_n 0, 1) := by decide +kernel
theorem dX9_stroke_77 : decode cX9_stroke 77 = .ok (.getfield 72, 3) := by decide +kernel
theorem dX9_stroke_80 : decode cX9_stroke 80 = .ok (.iload_n 3, 1) := by decide +kernel
theorem dX9_stroke_81 : decode cX9_stroke 81 = .ok (.baload, 1) := by decide +kernel
theorem dX9_stroke_82 : decode cX9_stroke 82 = .ok (.ifCond .ne 7, 3) := by decide +kernel
theorem dX9_stroke_85 : decode cX9_stroke 85 = .ok (.iconst 1, 1) := by decide +kernel
theorem dX9_stroke_86 : decode cX9_stroke 86 = .ok (.goto 4, 3) := by decide +kernel
theorem dX9_stroke_89 : decode cX9_stroke 89 = .ok (.iconst 0, 1) := by decide +kernel
theorem dX9_stroke_90 : decode cX9_stroke 90 = .ok (.invokevirtual 255, 3) := by decide +kernel
theorem dX9_stroke_93 : decode cX9_stroke 93 = .ok (.ireturn, 1) := by decide +kernel
theorem dX9_stroke_94 : decode cX9_stroke 94 = .ok (.aload_n 0, 1) := by decide +kernel
theorem dX9_stroke_95 : decode cX9_stroke 95 = .ok (.aload_n 0, 1) := by decide +kernel
theorem dX9_stroke_96 : decode cX9_stroke 96 = .ok (.getfield 66, 3) := by decide +kernel
theorem dX9_stroke_99 : decode cX9_stroke 99 = .ok (.iload 4, 2) := by decide +kernel
theorem dX9_stroke_101 : decode cX9_stroke 101 = .ok (.iaload, 1) := by decide +kernel
theorem dX9_stroke_102 : decode cX9_stroke 102 = .ok (.aload_n 0, 1) := by decide +kernel
theorem dX9_stroke_103 : decode cX9_stroke 103 = .ok (.getfield 69, 3) := by decide +kernel
theorem dX9_stroke_106 : decode cX9_stroke 106 = .ok (.iload 4, 2) := by decide +kernel
theorem dX9_stroke_108 : decode cX9_stroke 108 = .ok (.iaload, 1) := by decide +kernel
theorem dX9_stroke_109 : decode cX9_stroke 109 = .ok (.aload_n 0, 1) := by decide +kernel
theorem dX9_stroke_110 : decode cX9_stroke 110 = .ok (.getfield 72, 3) := by decide +kernel
theorem dX9_stroke_113 : decode cX9_stroke 113 = .ok (.iload 4, 2) := by decide +kernel
theorem dX9_stroke_115 : decode cX9_stroke 115 = .ok (.baload, 1) := by decide +kernel
theorem dX9_stroke_116 : decode cX9_stroke 116 = .ok (.invokevirtual 255, 3) := by decide +kernel
theorem dX9_stroke_119 : decode cX9_stroke 119 = .ok (.ireturn, 1) := by decide +kernel
theorem dX9_stroke_120 : decode cX9_stroke 120 = .ok (.bipush (-2), 2) := by decide +kernel
theorem dX9_stroke_122 : decode cX9_stroke 122 = .ok (.ireturn, 1) := by decide +kernel
theorem dX9_strokePiece_0 : decode cX9_strokePiece 0 = .ok (.aload_n 0, 1) := by decide +kernel
theorem dX9_strokePiece_1 : decode cX9_strokePiece 1 = .ok (.iload_n 1, 1) := by decide +kernel
theorem dX9_strokePiece_2 : decode cX9_strokePiece 2 = .ok (.invokevirtual 265, 3) := by decide +kernel
theorem dX9_strokePiece_5 : decode cX9_strokePiece 5 = .ok (.ifCond .eq 28, 3) := by decide +kernel
theorem dX9_strokePiece_8 : decode cX9_strokePiece 8 = .ok (.iload_n 2, 1) := by decide +kernel
theorem dX9_strokePiece_9 : decode cX9_strokePiece 9 = .ok (.iconst 0, 1) := by decide +kernel
theorem dX9_strokePiece_10 : decode cX9_strokePiece 10 = .ok (.aload_n 0, 1) := by decide +kernel
theorem dX9_strokePiece_11 : decode cX9_strokePiece 11 = .ok (.getfield 63, 3) := by decide +kernel
theorem dX9_strokePiece_14 : decode cX9_strokePiece 14 = .ok (.iload_n 1, 1) := by decide +kernel
theorem dX9_strokePiece_15 : decode cX9_strokePiece 15 = .ok (.iconst 1, 1) := by decide +kernel
theorem dX9_strokePiece_16 : decode cX9_strokePiece 16 = .ok (.iadd, 1) := by decide +kernel
theorem dX9_strokePiece_17 : decode cX9_strokePiece 17 = .ok (.iaload, 1) := by decide +kernel
theorem dX9_strokePiece_18 : decode cX9_strokePiece 18 = .ok (.aload_n 0, 1) := by decide +kernel
theorem dX9_strokePiece_19 : decode cX9_strokePiece 19 = .ok (.getfield 63, 3) := by decide +kernel
theorem dX9_strokePiece_22 : decode cX9_strokePiece 22 = .ok (.iload_n 1, 1) := by decide +kernel
theorem dX9_strokePiece_23 : decode cX9_strokePiece 23 = .ok (.iaload, 1) := by decide +kernel
theorem dX9_strokePiece_24 : decode cX9_strokePiece 24 = .ok (.isub, 1) := by decide +kernel
theorem dX9_strokePiece_25 : decode cX9_strokePiece 25 = .ok (.iconst 1, 1) := by decide +kernel
theorem dX9_strokePiece_26 : decode cX9_strokePiece 26 = .ok (.isub, 1) := by decide +kernel
theorem dX9_strokePiece_27 : decode cX9_strokePiece 27 = .ok (.invokestatic 82, 3) := by decide +kernel
theorem dX9_strokePiece_30 : decode cX9_strokePiece 30 = .ok (.ifCond .ne 5, 3) := by decide +kernel
theorem dX9_strokePiece_33 : decode cX9_strokePiece 33 = .ok (.iconst (-1), 1) := by decide +kernel
theorem dX9_strokePiece_34 : decode cX9_strokePiece 34 = .ok (.ireturn, 1) := by decide +kernel
theorem dX9_strokePiece_35 : decode cX9_strokePiece 35 = .ok (.aload_n 0, 1) := by decide +kernel
theorem dX9_strokePiece_36 : decode cX9_strokePiece 36 = .ok (.getfield 63, 3) := by decide +kernel
theorem dX9_strokePiece_39 : decode cX9_strokePiece 39 = .ok (.iload_n 1, 1) := by decide +kernel
theorem dX9_strokePiece_40 : decode cX9_strokePiece 40 = .ok (.iaload, 1) := by decide +kernel
theorem dX9_strokePiece_41 : decode cX9_strokePiece 41 = .ok (.iload_n 2, 1) := by decide +kernel
theorem dX9_strokePiece_42 : decode cX9_strokePiece 42 = .ok (.iadd, 1) := by decide +kernel
theorem dX9_strokePiece_43 : decode cX9_strokePiece 43 = .ok (.istore 4, 2) := by decide +kernel
theorem dX9_strokePiece_45 : decode cX9_strokePiece 45 = .ok (.iload_n 3, 1) := by decide +kernel
theorem dX9_strokePiece_46 : decode cX9_strokePiece 46 = .ok (.ifCond .ne 13, 3) := by decide +kernel
theorem dX9_strokePiece_49 : decode cX9_strokePiece 49 = .ok (.aload_n 0, 1) := by decide +kernel
theorem dX9_strokePiece_50 : decode cX9_strokePiece 50 = .ok (.getfield 66, 3) := by decide +kernel
theorem dX9_strokePiece_53 : decode cX9_strokePiece 53 = .ok (.iload 4, 2) := by decide +kernel
theorem dX9_strokePiece_55 : decode cX9_strokePiece 55 = .ok (.iaload, 1) := by decide +kernel
theorem dX9_strokePiece_56 : decode cX9_strokePiece 56 = .ok (.goto 43, 3) := by decide +kernel
theorem dX9_strokePiece_59 : decode cX9_strokePiece 59 = .ok (.iload_n 3, 1) := by decide +kernel
theorem dX9_strokePiece_60 : decode cX9_strokePiece 60 = .ok (.iconst 1, 1) := by decide +kernel
theorem dX9_strokePiece_61 : decode cX9_strokePiece 61 = .ok (.if_icmp .ne 13, 3) := by decide +kernel
theorem dX9_strokePiece_64 : decode cX9_strokePiece 64 = .ok (.aload_n 0, 1) := by decide +kernel
theorem dX9_strokePiece_65 : decode cX9_strokePiece 65 = .ok (.getfield 69, 3) := by decide +kernel
theorem dX9_strokePiece_68 : decode cX9_strokePiece 68 = .ok (.iload 4, 2) := by decide +kernel
theorem dX9_strokePiece_70 : decode cX9_strokePiece 70 = .ok (.iaload, 1) := by decide +kernel
theorem dX9_strokePiece_71 : decode cX9_strokePiece 71 = .ok (.goto 28, 3) := by decide +kernel
theorem dX9_strokePiece_74 : decode cX9_strokePiece 74 = .ok (.iload_n 3, 1) := by decide +kernel
theorem dX9_strokePiece_75 : decode cX9_strokePiece 75 = .ok (.iconst 2, 1) := by decide +kernel
theorem dX9_strokePiece_76 : decode cX9_strokePiece 76 = .ok (.if_icmp .ne 21, 3) := by decide +kernel
theorem dX9_strokePiece_79 : decode cX9_strokePiece 79 = .ok (.aload_n 0, 1) := by decide +kernel
theorem dX9_strokePiece_80 : decode cX9_strokePiece 80 = .ok (.getfield 72, 3) := by decide +kernel
theorem dX9_strokePiece_83 : decode cX9_strokePiece 83 = .ok (.iload 4, 2) := by decide +kernel
theorem dX9_strokePiece_85 : decode cX9_strokePiece 85 = .ok (.baload, 1) := by decide +kernel
theorem dX9_strokePiece_86 : decode cX9_strokePiece 86 = .ok (.ifCond .eq 7, 3) := by decide +kernel
theorem dX9_strokePiece_89 : decode cX9_strokePiece 89 = .ok (.iconst 1, 1) := by decide +kernel
theorem dX9_strokePiece_90 : decode cX9_strokePiece 90 = .ok (.goto 9, 3) := by decide +kernel
theorem dX9_strokePiece_93 : decode cX9_strokePiece 93 = .ok (.iconst 0, 1) := by decide +kernel
theorem dX9_strokePiece_94 : decode cX9_strokePiece 94 = .ok (.goto 5, 3) := by decide +kernel
theorem dX9_strokePiece_97 : decode cX9_strokePiece 97 = .ok (.bipush (-2), 2) := by decide +kernel
theorem dX9_strokePiece_99 : decode cX9_strokePiece 99 = .ok (.ireturn, 1) := by decide +kernel
theorem dX9_manyEdges_0 : decode cX9_manyEdges 0 = .ok (.iconst 0, 1) := by decide +kernel
theorem dX9_manyEdges_1 : decode cX9_manyEdges 1 = .ok (.istore_n 2, 1) := by decide +kernel
theorem dX9_manyEdges_2 : decode cX9_manyEdges 2 = .ok (.iconst 0, 1) := by decide +kernel
theorem dX9_manyEdges_3 : decode cX9_manyEdges 3 = .ok (.istore_n 3, 1) := by decide +kernel
theorem dX9_manyEdges_4 : decode cX9_manyEdges 4 = .ok (.iload_n 3, 1) := by decide +kernel
theorem dX9_manyEdges_5 : decode cX9_manyEdges 5 = .ok (.aload_n 0, 1) := by decide +kernel
theorem dX9_manyEdges_6 : decode cX9_manyEdges 6 = .ok (.getfield 180, 3) := by decide +kernel
theorem dX9_manyEdges_9 : decode cX9_manyEdges 9 = .ok (.if_icmp .ge 55, 3) := by decide +kernel
theorem dX9_manyEdges_12 : decode cX9_manyEdges 12 = .ok (.iload_n 2, 1) := by decide +kernel
theorem dX9_manyEdges_13 : decode cX9_manyEdges 13 = .ok (.iload_n 1, 1) := by decide +kernel
theorem dX9_manyEdges_14 : decode cX9_manyEdges 14 = .ok (.iconst 4, 1) := by decide +kernel
theorem dX9_manyEdges_15 : decode cX9_manyEdges 15 = .ok (.if_icmp .ne 11, 3) := by decide +kernel
theorem dX9_manyEdges_18 : decode cX9_manyEdges 18 = .ok (.aload_n 0, 1) := by decide +kernel
theorem dX9_manyEdges_19 : decode cX9_manyEdges 19 = .ok (.iload_n 3, 1) := by decide +kernel
theorem dX9_manyEdges_20 : decode cX9_manyEdges 20 = .ok (.invokevirtual 203, 3) := by decide +kernel
theorem dX9_manyEdges_23 : decode cX9_manyEdges 23 = .ok (.goto 33, 3) := by decide +kernel
theorem dX9_manyEdges_26 : decode cX9_manyEdges 26 = .ok (.iload_n 1, 1) := by decide +kernel
theorem dX9_manyEdges_27 : decode cX9_manyEdges 27 = .ok (.iconst 5, 1) := by decide +kernel
theorem dX9_manyEdges_28 : decode cX9_manyEdges 28 = .ok (.if_icmp .ne 11, 3) := by decide +kernel
theorem dX9_manyEdges_31 : decode cX9_manyEdges 31 = .ok (.aload_n 0, 1) := by decide +kernel
theorem dX9_manyEdges_32 : decode cX9_manyEdges 32 = .ok (.iload_n 3, 1) := by decide +kernel
theorem dX9_manyEdges_33 : decode cX9_manyEdges 33 = .ok (.invokevirtual 219, 3) := by decide +kernel
theorem dX9_manyEdges_36 : decode cX9_manyEdges 36 = .ok (.goto 20, 3) := by decide +kernel
theorem dX9_manyEdges_39 : decode cX9_manyEdges 39 = .ok (.aload_n 0, 1) := by decide +kernel
theorem dX9_manyEdges_40 : decode cX9_manyEdges 40 = .ok (.getfield 47, 3) := by decide +kernel
theorem dX9_manyEdges_43 : decode cX9_manyEdges 43 = .ok (.iload_n 3, 1) := by decide +kernel
theorem dX9_manyEdges_44 : decode cX9_manyEdges 44 = .ok (.iaload, 1) := by decide +kernel
theorem dX9_manyEdges_45 : decode cX9_manyEdges 45 = .ok (.iload_n 1, 1) := by decide +kernel
theorem dX9_manyEdges_46 : decode cX9_manyEdges 46 = .ok (.iconst 4, 1) := by decide +kernel
theorem dX9_manyEdges_47 : decode cX9_manyEdges 47 = .ok (.isub, 1) := by decide +kernel
theorem dX9_manyEdges_48 : decode cX9_manyEdges 48 = .ok (.if_icmp .ne 7, 3) := by decide +kernel
theorem dX9_manyEdges_51 : decode cX9_manyEdges 51 = .ok (.iconst 1, 1) := by decide +kernel
theorem dX9_manyEdges_52 : decode cX9_manyEdges 52 = .ok (.goto 4, 3) := by decide +kernel
theorem dX9_manyEdges_55 : decode cX9_manyEdges 55 = .ok (.iconst 0, 1) := by decide +kernel
theorem dX9_manyEdges_56 : decode cX9_manyEdges 56 = .ok (.iadd, 1) := by decide +kernel
theorem dX9_manyEdges_57 : decode cX9_manyEdges 57 = .ok (.istore_n 2, 1) := by decide +kernel
theorem dX9_manyEdges_58 : decode cX9_manyEdges 58 = .ok (.iinc 3 1, 3) := by decide +kernel
theorem dX9_manyEdges_61 : decode cX9_manyEdges 61 = .ok (.goto (-57), 3) := by decide +kernel
theorem dX9_manyEdges_64 : decode cX9_manyEdges 64 = .ok (.iload_n 2, 1) := by decide +kernel
theorem dX9_manyEdges_65 : decode cX9_manyEdges 65 = .ok (.ireturn, 1) := by decide +kernel
theorem dX9_manyLook_0 : decode cX9_manyLook 0 = .ok (.iconst 0, 1) := by decide +kernel
theorem dX9_manyLook_1 : decode cX9_manyLook 1 = .ok (.istore_n 1, 1) := by decide +kernel
theorem dX9_manyLook_2 : decode cX9_manyLook 2 = .ok (.iconst 0, 1) := by decide +kernel
theorem dX9_manyLook_3 : decode cX9_manyLook 3 = .ok (.istore_n 2, 1) := by decide +kernel
theorem dX9_manyLook_4 : decode cX9_manyLook 4 = .ok (.iload_n 2, 1) := by decide +kernel
theorem dX9_manyLook_5 : decode cX9_manyLook 5 = .ok (.aload_n 0, 1) := by decide +kernel
theorem dX9_manyLook_6 : decode cX9_manyLook 6 = .ok (.getfield 86, 3) := by decide +kernel
theorem dX9_manyLook_9 : decode cX9_manyLook 9 = .ok (.if_icmp .ge 27, 3) := by decide +kernel
theorem dX9_manyLook_12 : decode cX9_manyLook 12 = .ok (.iload_n 1, 1) := by decide +kernel
theorem dX9_manyLook_13 : decode cX9_manyLook 13 = .ok (.aload_n 0, 1) := by decide +kernel
theorem dX9_manyLook_14 : decode cX9_manyLook 14 = .ok (.iload_n 2, 1) := by decide +kernel
theorem dX9_manyLook_15 : decode cX9_manyLook 15 = .ok (.invokevirtual 145, 3) := by decide +kernel
theorem dX9_manyLook_18 : decode cX9_manyLook 18 = .ok (.lconst 0, 1) := by decide +kernel
theorem dX9_manyLook_19 : decode cX9_manyLook 19 = .ok (.lcmp, 1) := by decide +kernel
theorem dX9_manyLook_20 : decode cX9_manyLook 20 = .ok (.ifCond .le 7, 3) := by decide +kernel
theorem dX9_manyLook_23 : decode cX9_manyLook 23 = .ok (.iconst 1, 1) := by decide +kernel
theorem dX9_manyLook_24 : decode cX9_manyLook 24 = .ok (.goto 4, 3) := by decide +kernel
theorem dX9_manyLook_27 : decode cX9_manyLook 27 = .ok (.iconst 0, 1) := by decide +kernel
theorem dX9_manyLook_28 : decode cX9_manyLook 28 = .ok (.iadd, 1) := by decide +kernel
theorem dX9_manyLook_29 : decode cX9_manyLook 29 = .ok (.istore_n 1, 1) := by decide +kernel
theorem dX9_manyLook_30 : decode cX9_manyLook 30 = .ok (.iinc 2 1, 3) := by decide +kernel
theorem dX9_manyLook_33 : decode cX9_manyLook 33 = .ok (.goto (-29), 3) := by decide +kernel
theorem dX9_manyLook_36 : decode cX9_manyLook 36 = .ok (.iload_n 1, 1) := by decide +kernel
theorem dX9_manyLook_37 : decode cX9_manyLook 37 = .ok (.ireturn, 1) := by decide +kernel
theorem dX9_manyCross_0 : decode cX9_manyCross 0 = .ok (.iconst 0, 1) := by decide +kernel
theorem dX9_manyCross_1 : decode cX9_manyCross 1 = .ok (.istore_n 1, 1) := by decide +kernel
theorem dX9_manyCross_2 : decode cX9_manyCross 2 = .ok (.iconst 0, 1) := by decide +kernel
theorem dX9_manyCross_3 : decode cX9_manyCross 3 = .ok (.istore_n 2, 1) := by decide +kernel
theorem dX9_manyCross_4 : decode cX9_manyCross 4 = .ok (.iload_n 2, 1) := by decide +kernel
theorem dX9_manyCross_5 : decode cX9_manyCross 5 = .ok (.aload_n 0, 1) := by decide +kernel
theorem dX9_manyCross_6 : decode cX9_manyCross 6 = .ok (.getfield 180, 3) := by decide +kernel
theorem dX9_manyCross_9 : decode cX9_manyCross 9 = .ok (.if_icmp .ge 39, 3) := by decide +kernel
theorem dX9_manyCross_12 : decode cX9_manyCross 12 = .ok (.iconst 0, 1) := by decide +kernel
theorem dX9_manyCross_13 : decode cX9_manyCross 13 = .ok (.istore_n 3, 1) := by decide +kernel
theorem dX9_manyCross_14 : decode cX9_manyCross 14 = .ok (.iload_n 3, 1) := by decide +kernel
theorem dX9_manyCross_15 : decode cX9_manyCross 15 = .ok (.iload_n 2, 1) := by decide +kernel
theorem dX9_manyCross_16 : decode cX9_manyCross 16 = .ok (.if_icmp .ge 26, 3) := by decide +kernel
theorem dX9_manyCross_19 : decode cX9_manyCross 19 = .ok (.iload_n 1, 1) := by decide +kernel
theorem dX9_manyCross_20 : decode cX9_manyCross 20 = .ok (.aload_n 0, 1) := by decide +kernel
theorem dX9_manyCross_21 : decode cX9_manyCross 21 = .ok (.iload_n 2, 1) := by decide +kernel
theorem dX9_manyCross_22 : decode cX9_manyCross 22 = .ok (.iload_n 3, 1) := by decide +kernel
theorem dX9_manyCross_23 : decode cX9_manyCross 23 = .ok (.invokevirtual 242, 3) := by decide +kernel
theorem dX9_manyCross_26 : decode cX9_manyCross 26 = .ok (.ifCond .eq 7, 3) := by decide +kernel
theorem dX9_manyCross_29 : decode cX9_manyCross 29 = .ok (.iconst 1, 1) := by decide +kernel
theorem dX9_manyCross_30 : decode cX9_manyCross 30 = .ok (.goto 4, 3) := by decide +kernel
theorem dX9_manyCross_33 : decode cX9_manyCross 33 = .ok (.iconst 0, 1) := by decide +kernel
theorem dX9_manyCross_34 : decode cX9_manyCross 34 = .ok (.iadd, 1) := by decide +kernel
theorem dX9_manyCross_35 : decode cX9_manyCross 35 = .ok (.istore_n 1, 1) := by decide +kernel
theorem dX9_manyCross_36 : decode cX9_manyCross 36 = .ok (.iinc 3 1, 3) := by decide +kernel
theorem dX9_manyCross_39 : decode cX9_manyCross 39 = .ok (.goto (-25), 3) := by decide +kernel
theorem dX9_manyCross_42 : decode cX9_manyCross 42 = .ok (.iinc 2 1, 3) := by decide +kernel
theorem dX9_manyCross_45 : decode cX9_manyCross 45 = .ok (.goto (-41), 3) := by decide +kernel
theorem dX9_manyCross_48 : decode cX9_manyCross 48 = .ok (.iload_n 1, 1) := by decide +kernel
theorem dX9_manyCross_49 : decode cX9_manyCross 49 = .ok (.ireturn, 1) := by decide +kernel
theorem dX9_greatest_0 : decode cX9_greatest 0 = .ok (.iconst 0, 1) := by decide +kernel
theorem dX9_greatest_1 : decode cX9_greatest 1 = .ok (.istore_n 1, 1) := by decide +kernel
theorem dX9_greatest_2 : decode cX9_greatest 2 = .ok (.iconst 0, 1) := by decide +kernel
theorem dX9_greatest_3 : decode cX9_greatest 3 = .ok (.istore_n 2, 1) := by decide +kernel
theorem dX9_greatest_4 : decode cX9_greatest 4 = .ok (.iload_n 2, 1) := by decide +kernel
theorem dX9_greatest_5 : decode cX9_greatest 5 = .ok (.aload_n 0, 1) := by decide +kernel
theorem dX9_greatest_6 : decode cX9_greatest 6 = .ok (.getfield 180, 3) := by decide +kernel
theorem dX9_greatest_9 : decode cX9_greatest 9 = .ok (.if_icmp .ge 57, 3) := by decide +kernel
theorem dX9_greatest_12 : decode cX9_greatest 12 = .ok (.iconst 0, 1) := by decide +kernel
theorem dX9_greatest_13 : decode cX9_greatest 13 = .ok (.istore_n 3, 1) := by decide +kernel
theorem dX9_greatest_14 : decode cX9_greatest 14 = .ok (.iload_n 3, 1) := by decide +kernel
theorem dX9_greatest_15 : decode cX9_greatest 15 = .ok (.aload_n 0, 1) := by decide +kernel
theorem dX9_greatest_16 : decode cX9_greatest 16 = .ok (.iload_n 2, 1) := by decide +kernel
theorem dX9_greatest_17 : decode cX9_greatest 17 = .ok (.invokevirtual 203, 3) := by decide +kernel
theorem dX9_greatest_20 : decode cX9_greatest 20 = .ok (.if_icmp .ge 40, 3) := by decide +kernel
theorem dX9_greatest_23 : decode cX9_greatest 23 = .ok (.aload_n 0, 1) := by decide +kernel
theorem dX9_greatest_24 : decode cX9_greatest 24 = .ok (.getfield 60, 3) := by decide +kernel
theorem dX9_greatest_27 : decode cX9_greatest 27 = .ok (.bipush 50, 2) := by decide +kernel
theorem dX9_greatest_29 : decode cX9_greatest 29 = .ok (.iload_n 2, 1) := by decide +kernel
theorem dX9_greatest_30 : decode cX9_greatest 30 = .ok (.imul, 1) := by decide +kernel
theorem dX9_greatest_31 : decode cX9_greatest 31 = .ok (.iload_n 3, 1) := by decide +kernel
theorem dX9_greatest_32 : decode cX9_greatest 32 = .ok (.iadd, 1) := by decide +kernel
theorem dX9_greatest_33 : decode cX9_greatest 33 = .ok (.iaload, 1) := by decide +kernel
theorem dX9_greatest_34 : decode cX9_greatest 34 = .ok (.iload_n 1, 1) := by decide +kernel
theorem dX9_greatest_35 : decode cX9_greatest 35 = .ok (.if_icmp .le 17, 3) := by decide +kernel
theorem dX9_greatest_38 : decode cX9_greatest 38 = .ok (.aload_n 0, 1) := by decide +kernel
theorem dX9_greatest_39 : decode cX9_greatest 39 = .ok (.getfield 60, 3) := by decide +kernel
theorem dX9_greatest_42 : decode cX9_greatest 42 = .ok (.bipush 50, 2) := by decide +kernel
theorem dX9_greatest_44 : decode cX9_greatest 44 = .ok (.iload_n 2, 1) := by decide +kernel
theorem dX9_greatest_45 : decode cX9_greatest 45 = .ok (.imul, 1) := by decide +kernel
theorem dX9_greatest_46 : decode cX9_greatest 46 = .ok (.iload_n 3, 1) := by decide +kernel
theorem dX9_greatest_47 : decode cX9_greatest 47 = .ok (.iadd, 1) := by decide +kernel
theorem dX9_greatest_48 : decode cX9_greatest 48 = .ok (.iaload, 1) := by decide +kernel
theorem dX9_greatest_49 : decode cX9_greatest 49 = .ok (.goto 4, 3) := by decide +kernel
theorem dX9_greatest_52 : decode cX9_greatest 52 = .ok (.iload_n 1, 1) := by decide +kernel
theorem dX9_greatest_53 : decode cX9_greatest 53 = .ok (.istore_n 1, 1) := by decide +kernel
theorem dX9_greatest_54 : decode cX9_greatest 54 = .ok (.iinc 3 1, 3) := by decide +kernel
theorem dX9_greatest_57 : decode cX9_greatest 57 = .ok (.goto (-43), 3) := by decide +kernel
theorem dX9_greatest_60 : decode cX9_greatest 60 = .ok (.iinc 2 1, 3) := by decide +kernel
theorem dX9_greatest_63 : decode cX9_greatest 63 = .ok (.goto (-59), 3) := by decide +kernel
theorem dX9_greatest_66 : decode cX9_greatest 66 = .ok (.iload_n 1, 1) := by decide +kernel
theorem dX9_greatest_67 : decode cX9_greatest 67 = .ok (.ireturn, 1) := by decide +kernel
theorem dX9_many_0 : decode cX9_many 0 = .ok (.aload_n 0, 1) := by decide +kernel
theorem dX9_many_1 : decode cX9_many 1 = .ok (.invokevirtual 200, 3) := by decide +kernel
theorem dX9_many_4 : decode cX9_many 4 = .ok (.iload_n 1, 1) := by decide +kernel
theorem dX9_many_5 : decode cX9_many 5 = .ok (.tableswitch 109 0 11 #[63, 68, 73, 78, 83, 83, 83, 83, 89, 94, 99, 104], 63) := by decide +kernel
theorem dX9_many_68 : decode cX9_many 68 = .ok (.aload_n 0, 1) := by decide +kernel
theorem dX9_many_69 : decode cX9_many 69 = .ok (.getfield 79, 3) := by decide +kernel
theorem dX9_many_72 : decode cX9_many 72 = .ok (.ireturn, 1) := by decide +kernel
theorem dX9_many_73 : decode cX9_many 73 = .ok (.aload_n 0, 1) := by decide +kernel
theorem dX9_many_74 : decode cX9_many 74 = .ok (.getfield 86, 3) := by decide +kernel
theorem dX9_many_77 : decode cX9_many 77 = .ok (.ireturn, 1) := by decide +kernel
theorem dX9_many_78 : decode cX9_many 78 = .ok (.aload_n 0, 1) := by decide +kernel
theorem dX9_many_79 : decode cX9_many 79 = .ok (.getfield 125, 3) := by decide +kernel
theorem dX9_many_82 : decode cX9_many 82 = .ok (.ireturn, 1) := by decide +kernel
theorem dX9_many_83 : decode cX9_many 83 = .ok (.aload_n 0, 1) := by decide +kernel
theorem dX9_many_84 : decode cX9_many 84 = .ok (.getfield 180, 3) := by decide +kernel
theorem dX9_many_87 : decode cX9_many 87 = .ok (.ireturn, 1) := by decide +kernel
theorem dX9_many_88 : decode cX9_many 88 = .ok (.aload_n 0, 1) := by decide +kernel
theorem dX9_many_89 : decode cX9_many 89 = .ok (.iload_n 1, 1) := by decide +kernel
theorem dX9_many_90 : decode cX9_many 90 = .ok (.invokevirtual 268, 3) := by decide +kernel
theorem dX9_many_93 : decode cX9_many 93 = .ok (.ireturn, 1) := by decide +kernel
theorem dX9_many_94 : decode cX9_many 94 = .ok (.aload_n 0, 1) := by decide +kernel
theorem dX9_many_95 : decode cX9_many 95 = .ok (.getfield 259, 3) := by decide +kernel
theorem dX9_many_98 : decode cX9_many 98 = .ok (.ireturn, 1) := by decide +kernel
theorem dX9_many_99 : decode cX9_many 99 = .ok (.aload_n 0, 1) := by decide +kernel
theorem dX9_many_100 : decode cX9_many 100 = .ok (.invokevirtual 271, 3) := by decide +kernel
theorem dX9_many_103 : decode cX9_many 103 = .ok (.ireturn, 1) := by decide +kernel
theorem dX9_many_104 : decode cX9_many 104 = .ok (.aload_n 0, 1) := by decide +kernel
theorem dX9_many_105 : decode cX9_many 105 = .ok (.invokevirtual 275, 3) := by decide +kernel
theorem dX9_many_108 : decode cX9_many 108 = .ok (.ireturn, 1) := by decide +kernel
theorem dX9_many_109 : decode cX9_many 109 = .ok (.aload_n 0, 1) := by decide +kernel
theorem dX9_many_110 : decode cX9_many 110 = .ok (.invokevirtual 278, 3) := by decide +kernel
theorem dX9_many_113 : decode cX9_many 113 = .ok (.ireturn, 1) := by decide +kernel
theorem dX9_many_114 : decode cX9_many 114 = .ok (.bipush (-2), 2) := by decide +kernel
theorem dX9_many_116 : decode cX9_many 116 = .ok (.ireturn, 1) := by decide +kernel
theorem dJ13_bitCount_95d88_0 : decode cJ13_bitCount_95d88 0 = .ok (.lload_n 0, 1) := by decide +kernel
theorem dJ13_bitCount_95d88_1 : decode cJ13_bitCount_95d88 1 = .ok (.lload_n 0, 1) := by decide +kernel
theorem dJ13_bitCount_95d88_2 : decode cJ13_bitCount_95d88 2 = .ok (.iconst 1, 1) := by decide +kernel
theorem dJ13_bitCount_95d88_3 : decode cJ13_bitCount_95d88 3 = .ok (.lushr, 1) := by decide +kernel
theorem dJ13_bitCount_95d88_4 : decode cJ13_bitCount_95d88 4 = .ok (.ldc2_w 314, 3) := by decide +kernel
theorem dJ13_bitCount_95d88_7 : decode cJ13_bitCount_95d88 7 = .ok (.land, 1) := by decide +kernel
theorem dJ13_bitCount_95d88_8 : decode cJ13_bitCount_95d88 8 = .ok (.lsub, 1) := by decide +kernel
theorem dJ13_bitCount_95d88_9 : decode cJ13_bitCount_95d88 9 = .ok (.lstore_n 0, 1) := by decide +kernel
theorem dJ13_bitCount_95d88_10 : decode cJ13_bitCount_95d88 10 = .ok (.lload_n 0, 1) := by decide +kernel
theorem dJ13_bitCount_95d88_11 : decode cJ13_bitCount_95d88 11 = .ok (.ldc2_w 316, 3) := by decide +kernel
theorem dJ13_bitCount_95d88_14 : decode cJ13_bitCount_95d88 14 = .ok (.land, 1) := by decide +kernel
theorem dJ13_bitCount_95d88_15 : decode cJ13_bitCount_95d88 15 = .ok (.lload_n 0, 1) := by decide +kernel
theorem dJ13_bitCount_95d88_16 : decode cJ13_bitCount_95d88 16 = .ok (.iconst 2, 1) := by decide +kernel
theorem dJ13_bitCount_95d88_17 : decode cJ13_bitCount_95d88 17 = .ok (.lushr, 1) := by decide +kernel
theorem dJ13_bitCount_95d88_18 : decode cJ13_bitCount_95d88 18 = .ok (.ldc2_w 316, 3) := by decide +kernel
theorem dJ13_bitCount_95d88_21 : decode cJ13_bitCount_95d88 21 = .ok (.land, 1) := by decide +kernel
theorem dJ13_bitCount_95d88_22 : decode cJ13_bitCount_95d88 22 = .ok (.ladd, 1) := by decide +kernel
theorem dJ13_bitCount_95d88_23 : decode cJ13_bitCount_95d88 23 = .ok (.lstore_n 0, 1) := by decide +kernel
theorem dJ13_bitCount_95d88_24 : decode cJ13_bitCount_95d88 24 = .ok (.lload_n 0, 1) := by decide +kernel
theorem dJ13_bitCount_95d88_25 : decode cJ13_bitCount_95d88 25 = .ok (.lload_n 0, 1) := by decide +kernel
theorem dJ13_bitCount_95d88_26 : decode cJ13_bitCount_95d88 26 = .ok (.iconst 4, 1) := by decide +kernel
theorem dJ13_bitCount_95d88_27 : decode cJ13_bitCount_95d88 27 = .ok (.lushr, 1) := by decide +kernel
theorem dJ13_bitCount_95d88_28 : decode cJ13_bitCount_95d88 28 = .ok (.ladd, 1) := by decide +kernel
theorem dJ13_bitCount_95d88_29 : decode cJ13_bitCount_95d88 29 = .ok (.ldc2_w 318, 3) := by decide +kernel
theorem dJ13_bitCount_95d88_32 : decode cJ13_bitCount_95d88 32 = .ok (.land, 1) := by decide +kernel
theorem dJ13_bitCount_95d88_33 : decode cJ13_bitCount_95d88 33 = .ok (.lstore_n 0, 1) := by decide +kernel
theorem dJ13_bitCount_95d88_34 : decode cJ13_bitCount_95d88 34 = .ok (.lload_n 0, 1) := by decide +kernel
theorem dJ13_bitCount_95d88_35 : decode cJ13_bitCount_95d88 35 = .ok (.lload_n 0, 1) := by decide +kernel
theorem dJ13_bitCount_95d88_36 : decode cJ13_bitCount_95d88 36 = .ok (.bipush 8, 2) := by decide +kernel
theorem dJ13_bitCount_95d88_38 : decode cJ13_bitCount_95d88 38 = .ok (.lushr, 1) := by decide +kernel
theorem dJ13_bitCount_95d88_39 : decode cJ13_bitCount_95d88 39 = .ok (.ladd, 1) := by decide +kernel
theorem dJ13_bitCount_95d88_40 : decode cJ13_bitCount_95d88 40 = .ok (.lstore_n 0, 1) := by decide +kernel
theorem dJ13_bitCount_95d88_41 : decode cJ13_bitCount_95d88 41 = .ok (.lload_n 0, 1) := by decide +kernel
theorem dJ13_bitCount_95d88_42 : decode cJ13_bitCount_95d88 42 = .ok (.lload_n 0, 1) := by decide +kernel
theorem dJ13_bitCount_95d88_43 : decode cJ13_bitCount_95d88 43 = .ok (.bipush 16, 2) := by decide +kernel
theorem dJ13_bitCount_95d88_45 : decode cJ13_bitCount_95d88 45 = .ok (.lushr, 1) := by decide +kernel
theorem dJ13_bitCount_95d88_46 : decode cJ13_bitCount_95d88 46 = .ok (.ladd, 1) := by decide +kernel
theorem dJ13_bitCount_95d88_47 : decode cJ13_bitCount_95d88 47 = .ok (.lstore_n 0, 1) := by decide +kernel
theorem dJ13_bitCount_95d88_48 : decode cJ13_bitCount_95d88 48 = .ok (.lload_n 0, 1) := by decide +kernel
theorem dJ13_bitCount_95d88_49 : decode cJ13_bitCount_95d88 49 = .ok (.lload_n 0, 1) := by decide +kernel
theorem dJ13_bitCount_95d88_50 : decode cJ13_bitCount_95d88 50 = .ok (.bipush 32, 2) := by decide +kernel
theorem dJ13_bitCount_95d88_52 : decode cJ13_bitCount_95d88 52 = .ok (.lushr, 1) := by decide +kernel
theorem dJ13_bitCount_95d88_53 : decode cJ13_bitCount_95d88 53 = .ok (.ladd, 1) := by decide +kernel
theorem dJ13_bitCount_95d88_54 : decode cJ13_bitCount_95d88 54 = .ok (.lstore_n 0, 1) := by decide +kernel
theorem dJ13_bitCount_95d88_55 : decode cJ13_bitCount_95d88 55 = .ok (.lload_n 0, 1) := by decide +kernel
theorem dJ13_bitCount_95d88_56 : decode cJ13_bitCount_95d88 56 = .ok (.l2i, 1) := by decide +kernel
theorem dJ13_bitCount_95d88_57 : decode cJ13_bitCount_95d88 57 = .ok (.bipush 127, 2) := by decide +kernel
theorem dJ13_bitCount_95d88_59 : decode cJ13_bitCount_95d88 59 = .ok (.iand, 1) := by decide +kernel
theorem dJ13_bitCount_95d88_60 : decode cJ13_bitCount_95d88 60 = .ok (.ireturn, 1) := by decide +kernel
theorem dJ9_abs_0f7a4_0 : decode cJ9_abs_0f7a4 0 = .ok (.iload_n 0, 1) := by decide +kernel
theorem dJ9_abs_0f7a4_1 : decode cJ9_abs_0f7a4 1 = .ok (.ifCond .ge 8, 3) := by decide +kernel
theorem dJ9_abs_0f7a4_4 : decode cJ9_abs_0f7a4 4 = .ok (.iload_n 0, 1) := by decide +kernel
theorem dJ9_abs_0f7a4_5 : decode cJ9_abs_0f7a4 5 = .ok (.ineg, 1) := by decide +kernel
theorem dJ9_abs_0f7a4_6 : decode cJ9_abs_0f7a4 6 = .ok (.goto 4, 3) := by decide +kernel
theorem dJ9_abs_0f7a4_9 : decode cJ9_abs_0f7a4 9 = .ok (.iload_n 0, 1) := by decide +kernel
theorem dJ9_abs_0f7a4_10 : decode cJ9_abs_0f7a4 10 = .ok (.ireturn, 1) := by decide +kernel
theorem dJ9_max_7cf53_0 : decode cJ9_max_7cf53 0 = .ok (.iload_n 0, 1) := by decide +kernel
theorem dJ9_max_7cf53_1 : decode cJ9_max_7cf53 1 = .ok (.iload_n 1, 1) := by decide +kernel
theorem dJ9_max_7cf53_2 : decode cJ9_max_7cf53 2 = .ok (.if_icmp .lt 7, 3) := by decide +kernel
theorem dJ9_max_7cf53_5 : decode cJ9_max_7cf53 5 = .ok (.iload_n 0, 1) := by decide +kernel
theorem dJ9_max_7cf53_6 : decode cJ9_max_7cf53 6 = .ok (.goto 4, 3) := by decide +kernel
theorem dJ9_max_7cf53_9 : decode cJ9_max_7cf53 9 = .ok (.iload_n 1, 1) := by decide +kernel
theorem dJ9_max_7cf53_10 : decode cJ9_max_7cf53 10 = .ok (.ireturn, 1) := by decide +kernel
theorem dJ9_min_7cf53_0 : decode cJ9_min_7cf53 0 = .ok (.iload_n 0, 1) := by decide +kernel
theorem dJ9_min_7cf53_1 : decode cJ9_min_7cf53 1 = .ok (.iload_n 1, 1) := by decide +kernel
theorem dJ9_min_7cf53_2 : decode cJ9_min_7cf53 2 = .ok (.if_icmp .gt 7, 3) := by decide +kernel
theorem dJ9_min_7cf53_5 : decode cJ9_min_7cf53 5 = .ok (.iload_n 0, 1) := by decide +kernel
theorem dJ9_min_7cf53_6 : decode cJ9_min_7cf53 6 = .ok (.goto 4, 3) := by decide +kernel
theorem dJ9_min_7cf53_9 : decode cJ9_min_7cf53 9 = .ok (.iload_n 1, 1) := by decide +kernel
theorem dJ9_min_7cf53_10 : decode cJ9_min_7cf53 10 = .ok (.ireturn, 1) := by decide +kernel
theorem dJ7_fill_53178_0 : decode cJ7_fill_53178 0 = .ok (.iconst 0, 1) := by decide +kernel
theorem dJ7_fill_53178_1 : decode cJ7_fill_53178 1 = .ok (.istore_n 2, 1) := by decide +kernel
theorem dJ7_fill_53178_2 : decode cJ7_fill_53178 2 = .ok (.aload_n 0, 1) := by decide +kernel
theorem dJ7_fill_53178_3 : decode cJ7_fill_53178 3 = .ok (.arraylength, 1) := by decide +kernel
theorem dJ7_fill_53178_4 : decode cJ7_fill_53178 4 = .ok (.istore_n 3, 1) := by decide +kernel
theorem dJ7_fill_53178_5 : decode cJ7_fill_53178 5 = .ok (.iload_n 2, 1) := by decide +kernel
theorem dJ7_fill_53178_6 : decode cJ7_fill_53178 6 = .ok (.iload_n 3, 1) := by decide +kernel
theorem dJ7_fill_53178_7 : decode cJ7_fill_53178 7 = .ok (.if_icmp .ge 13, 3) := by decide +kernel
theorem dJ7_fill_53178_10 : decode cJ7_fill_53178 10 = .ok (.aload_n 0, 1) := by decide +kernel
theorem dJ7_fill_53178_11 : decode cJ7_fill_53178 11 = .ok (.iload_n 2, 1) := by decide +kernel
theorem dJ7_fill_53178_12 : decode cJ7_fill_53178 12 = .ok (.iload_n 1, 1) := by decide +kernel
theorem dJ7_fill_53178_13 : decode cJ7_fill_53178 13 = .ok (.iastore, 1) := by decide +kernel
theorem dJ7_fill_53178_14 : decode cJ7_fill_53178 14 = .ok (.iinc 2 1, 3) := by decide +kernel
theorem dJ7_fill_53178_17 : decode cJ7_fill_53178 17 = .ok (.goto (-12), 3) := by decide +kernel
theorem dJ7_fill_53178_20 : decode cJ7_fill_53178 20 = .ok (.return_, 1) := by decide +kernel
theorem dL_law_0 : decode cL_law 0 = .ok (.new 7, 3) := by decide +kernel
theorem dL_law_3 : decode cL_law 3 = .ok (.dup, 1) := by decide +kernel
theorem dL_law_4 : decode cL_law 4 = .ok (.invokespecial 9, 3) := by decide +kernel
theorem dL_law_7 : decode cL_law 7 = .ok (.astore_n 1, 1) := by decide +kernel
theorem dL_law_8 : decode cL_law 8 = .ok (.new 10, 3) := by decide +kernel
theorem dL_law_11 : decode cL_law 11 = .ok (.dup, 1) := by decide +kernel
theorem dL_law_12 : decode cL_law 12 = .ok (.invokespecial 12, 3) := by decide +kernel
theorem dL_law_15 : decode cL_law 15 = .ok (.astore_n 2, 1) := by decide +kernel
theorem dL_law_16 : decode cL_law 16 = .ok (.iconst 0, 1) := by decide +kernel
theorem dL_law_17 : decode cL_law 17 = .ok (.istore_n 3, 1) := by decide +kernel
theorem dL_law_18 : decode cL_law 18 = .ok (.iload_n 3, 1) := by decide +kernel
theorem dL_law_19 : decode cL_law 19 = .ok (.aload_n 0, 1) := by decide +kernel
theorem dL_law_20 : decode cL_law 20 = .ok (.arraylength, 1) := by decide +kernel
theorem dL_law_21 : decode cL_law 21 = .ok (.bipush 7, 2) := by decide +kernel
theorem dL_law_23 : decode cL_law 23 = .ok (.isub, 1) := by decide +kernel
theorem dL_law_24 : decode cL_law 24 = .ok (.if_icmp .gt 842, 3) := by decide +kernel
theorem dL_law_27 : decode cL_law 27 = .ok (.aload_n 0, 1) := by decide +kernel
theorem dL_law_28 : decode cL_law 28 = .ok (.iload_n 3, 1) := by decide +kernel
theorem dL_law_29 : decode cL_law 29 = .ok (.iaload, 1) := by decide +kernel
theorem dL_law_30 : decode cL_law 30 = .ok (.bipush 31, 2) := by decide +kernel
theorem dL_law_32 : decode cL_law 32 = .ok (.iand, 1) := by decide +kernel
theorem dL_law_33 : decode cL_law 33 = .ok (.tableswitch 827 0 19 #[95, 138, 181, 214, 289, 302, 315, 358, 381, 424, 457, 490, 523, 556, 599, 642, 685, 728, 761, 804], 95) := by decide +kernel
theorem dL_law_128 : decode cL_law 128 = .ok (.aload_n 1, 1) := by decide +kernel
theorem dL_law_129 : decode cL_law 129 = .ok (.aload_n 0, 1) := by decide +kernel
theorem dL_law_130 : decode cL_law 130 = .ok (.iload_n 3, 1) := by decide +kernel
theorem dL_law_131 : decode cL_law 131 = .ok (.iconst 1, 1) := by decide +kernel
theorem dL_law_132 : decode cL_law 132 = .ok (.iadd, 1) := by decide +kernel
theorem dL_law_133 : decode cL_law 133 = .ok (.iaload, 1) := by decide +kernel
theorem dL_law_134 : decode cL_law 134 = .ok (.aload_n 0, 1) := by decide +kernel
theorem dL_law_135 : decode cL_law 135 = .ok (.iload_n 3, 1) := by decide +kernel
theorem dL_law_136 : decode cL_law 136 = .ok (.iconst 2, 1) := by decide +kernel
theorem dL_law_137 : decode cL_law 137 = .ok (.iadd, 1) := by decide +kernel
theorem dL_law_138 : decode cL_law 138 = .ok (.iaload, 1) := by decide +kernel
theorem dL_law_139 : decode cL_law 139 = .ok (.aload_n 0, 1) := by decide +kernel
theorem dL_law_140 : decode cL_law 140 = .ok (.iload_n 3, 1) := by decide +kernel
theorem dL_law_141 : decode cL_law 141 = .ok (.iconst 3, 1) := by decide +kernel
theorem dL_law_142 : decode cL_law 142 = .ok (.iadd, 1) := by decide +kernel
theorem dL_law_143 : decode cL_law 143 = .ok (.iaload, 1) := by decide +kernel
theorem dL_law_144 : decode cL_law 144 = .ok (.invokevirtual 13, 3) := by decide +kernel
theorem dL_law_147 : decode cL_law 147 = .ok (.aload_n 2, 1) := by decide +kernel
theorem dL_law_148 : decode cL_law 148 = .ok (.aload_n 0, 1) := by decide +kernel
theorem dL_law_149 : decode cL_law 149 = .ok (.iload_n 3, 1) := by decide +kernel
theorem dL_law_150 : decode cL_law 150 = .ok (.iconst 1, 1) := by decide +kernel
theorem dL_law_151 : decode cL_law 151 = .ok (.iadd, 1) := by decide +kernel
theorem dL_law_152 : decode cL_law 152 = .ok (.iaload, 1) := by decide +kernel
theorem dL_law_153 : decode cL_law 153 = .ok (.aload_n 0, 1) := by decide +kernel
theorem dL_law_154 : decode cL_law 154 = .ok (.iload_n 3, 1) := by decide +kernel
theorem dL_law_155 : decode cL_law 155 = .ok (.iconst 2, 1) := by decide +kernel
theorem dL_law_156 : decode cL_law 156 = .ok (.iadd, 1) := by decide +kernel
theorem dL_law_157 : decode cL_law 157 = .ok (.iaload, 1) := by decide +kernel
theorem dL_law_158 : decode cL_law 158 = .ok (.aload_n 0, 1) := by decide +kernel
theorem dL_law_159 : decode cL_law 159 = .ok (.iload_n 3, 1) := by decide +kernel
theorem dL_law_160 : decode cL_law 160 = .ok (.iconst 3, 1) := by decide +kernel
theorem dL_law_161 : decode cL_law 161 = .ok (.iadd, 1) := by decide +kernel
theorem dL_law_162 : decode cL_law 162 = .ok (.iaload, 1) := by decide +kernel
theorem dL_law_163 : decode cL_law 163 = .ok (.invokevirtual 17, 3) := by decide +kernel
theorem dL_law_166 : decode cL_law 166 = .ok (.if_icmp .eq 694, 3) := by decide +kernel
theorem dL_law_169 : decode cL_law 169 = .ok (.iconst 0, 1) := by decide +kernel
theorem dL_law_170 : decode cL_law 170 = .ok (.ireturn, 1) := by decide +kernel
theorem dL_law_171 : decode cL_law 171 = .ok (.aload_n 1, 1) := by decide +kernel
theorem dL_law_172 : decode cL_law 172 = .ok (.aload_n 0, 1) := by decide +kernel
theorem dL_law_173 : decode cL_law 173 = .ok (.iload_n 3, 1) := by decide +kernel
theorem dL_law_174 : decode cL_law 174 = .ok (.iconst 1, 1) := by decide +kernel
theorem dL_law_175 : decode cL_law 175 = .ok (.iadd, 1) := by decide +kernel
theorem dL_law_176 : decode cL_law 176 = .ok (.iaload, 1) := by decide +kernel
theorem dL_law_177 : decode cL_law 177 = .ok (.aload_n 0, 1) := by decide +kernel
theorem dL_law_178 : decode cL_law 178 = .ok (.iload_n 3, 1) := by decide +kernel
theorem dL_law_179 : decode cL_law 179 = .ok (.iconst 2, 1) := by decide +kernel
theorem dL_law_180 : decode cL_law 180 = .ok (.iadd, 1) := by decide +kernel
theorem dL_law_181 : decode cL_law 181 = .ok (.iaload, 1) := by decide +kernel
theorem dL_law_182 : decode cL_law 182 = .ok (.aload_n 0, 1) := by decide +kernel
theorem dL_law_183 : decode cL_law 183 = .ok (.iload_n 3, 1) := by decide +kernel
theorem dL_law_184 : decode cL_law 184 = .ok (.iconst 3, 1) := by decide +kernel
theorem dL_law_185 : decode cL_law 185 = .ok (.iadd, 1) := by decide +kernel
theorem dL_law_186 : decode cL_law 186 = .ok (.iaload, 1) := by decide +kernel
theorem dL_law_187 : decode cL_law 187 = .ok (.invokevirtual 18, 3) := by decide +kernel
theorem dL_law_190 : decode cL_law 190 = .ok (.aload_n 2, 1) := by decide +kernel
theorem dL_law_191 : decode cL_law 191 = .ok (.aload_n 0, 1) := by decide +kernel
theorem dL_law_192 : decode cL_law 192 = .ok (.iload_n 3, 1) := by decide +kernel
theorem dL_law_193 : decode cL_law 193 = .ok (.iconst 1, 1) := by decide +kernel
theorem dL_law_194 : decode cL_law 194 = .ok (.iadd, 1) := by decide +kernel
theorem dL_law_195 : decode cL_law 195 = .ok (.iaload, 1) := by decide +kernel
theorem dL_law_196 : decode cL_law 196 = .ok (.aload_n 0, 1) := by decide +kernel
theorem dL_law_197 : decode cL_law 197 = .ok (.iload_n 3, 1) := by decide +kernel
theorem dL_law_198 : decode cL_law 198 = .ok (.iconst 2, 1) := by decide +kernel
theorem dL_law_199 : decode cL_law 199 = .ok (.iadd, 1) := by decide +kernel
theorem dL_law_200 : decode cL_law 200 = .ok (.iaload, 1) := by decide +kernel
theorem dL_law_201 : decode cL_law 201 = .ok (.aload_n 0, 1) := by decide +kernel
theorem dL_law_202 : decode cL_law 202 = .ok (.iload_n 3, 1) := by decide +kernel
theorem dL_law_203 : decode cL_law 203 = .ok (.iconst 3, 1) := by decide +kernel
theorem dL_law_204 : decode cL_law 204 = .ok (.iadd, 1) := by decide +kernel
theorem dL_law_205 : decode cL_law 205 = .ok (.iaload, 1) := by decide +kernel
theorem dL_law_206 : decode cL_law 206 = .ok (.invokevirtual 21, 3) := by decide +kernel
theorem dL_law_209 : decode cL_law 209 = .ok (.if_icmp .eq 651, 3) := by decide +kernel
theorem dL_law_212 : decode cL_law 212 = .ok (.iconst 0, 1) := by decide +kernel
theorem dL_law_213 : decode cL_law 213 = .ok (.ireturn, 1) := by decide +kernel
theorem dL_law_214 : decode cL_law 214 = .ok (.aload_n 1, 1) := by decide +kernel
theorem dL_law_215 : decode cL_law 215 = .ok (.aload_n 0, 1) := by decide +kernel
theorem dL_law_216 : decode cL_law 216 = .ok (.iload_n 3, 1) := by decide +kernel
theorem dL_law_217 : decode cL_law 217 = .ok (.iconst 1, 1) := by decide +kernel
theorem dL_law_218 : decode cL_law 218 = .ok (.iadd, 1) := by decide +kernel
theorem dL_law_219 : decode cL_law 219 = .ok (.iaload, 1) := by decide +kernel
theorem dL_law_220 : decode cL_law 220 = .ok (.aload_n 0, 1) := by decide +kernel
theorem dL_law_221 : decode cL_law 221 = .ok (.iload_n 3, 1) := by decide +kernel
theorem dL_law_222 : decode cL_law 222 = .ok (.iconst 2, 1) := by decide +kernel
theorem dL_law_223 : decode cL_law 223 = .ok (.iadd, 1) := by decide +kernel
theorem dL_law_224 : decode cL_law 224 = .ok (.iaload, 1) := by decide +kernel
theorem dL_law_225 : decode cL_law 225 = .ok (.invokevirtual 22, 3) := by decide +kernel
theorem dL_law_228 : decode cL_law 228 = .ok (.aload_n 2, 1) := by decide +kernel
theorem dL_law_229 : decode cL_law 229 = .ok (.aload_n 0, 1) := by decide +kernel
theorem dL_law_230 : decode cL_law 230 = .ok (.iload_n 3, 1) := by decide +kernel
theorem dL_law_231 : decode cL_law 231 = .ok (.iconst 1, 1) := by decide +kernel
theorem dL_law_232 : decode cL_law 232 = .ok (.iadd, 1) := by decide +kernel
theorem dL_law_233 : decode cL_law 233 = .ok (.iaload, 1) := by decide +kernel
theorem dL_law_234 : decode cL_law 234 = .ok (.aload_n 0, 1) := by decide +kernel
theorem dL_law_235 : decode cL_law 235 = .ok (.iload_n 3, 1) := by decide +kernel
theorem dL_law_236 : decode cL_law 236 = .ok (.iconst 2, 1) := by decide +kernel
theorem dL_law_237 : decode cL_law 237 = .ok (.iadd, 1) := by decide +kernel
theorem dL_law_238 : decode cL_law 238 = .ok (.iaload, 1) := by decide +kernel
theorem dL_law_239 : decode cL_law 239 = .ok (.invokevirtual 26, 3) := by decide +kernel
theorem dL_law_242 : decode cL_law 242 = .ok (.if_icmp .eq 618, 3) := by decide +kernel
theorem dL_law_245 : decode cL_law 245 = .ok (.iconst 0, 1) := by decide +kernel
theorem dL_law_246 : decode cL_law 246 = .ok (.ireturn, 1) := by decide +kernel
theorem dL_law_247 : decode cL_law 247 = .ok (.aload_n 1, 1) := by decide +kernel
theorem dL_law_248 : decode cL_law 248 = .ok (.aload_n 0, 1) := by decide +kernel
theorem dL_law_249 : decode cL_law 249 = .ok (.iload_n 3, 1) := by decide +kernel
theorem dL_law_250 : decode cL_law 250 = .ok (.iconst 1, 1) := by decide +kernel
theorem dL_law_251 : decode cL_law 251 = .ok (.iadd, 1) := by decide +kernel
theorem dL_law_252 : decode cL_law 252 = .ok (.iaload, 1) := by decide +kernel
theorem dL_law_253 : decode cL_law 253 = .ok (.aload_n 0, 1) := by decide +kernel
theorem dL_law_254 : decode cL_law 254 = .ok (.iload_n 3, 1) := by decide +kernel
theorem dL_law_255 : decode cL_law 255 = .ok (.iconst 2, 1) := by decide +kernel
theorem dL_law_256 : decode cL_law 256 = .ok (.iadd, 1) := by decide +kernel
theorem dL_law_257 : decode cL_law 257 = .ok (.iaload, 1) := by decide +kernel
theorem dL_law_258 : decode cL_law 258 = .ok (.aload_n 0, 1) := by decide +kernel
theorem dL_law_259 : decode cL_law 259 = .ok (.iload_n 3, 1) := by decide +kernel
theorem dL_law_260 : decode cL_law 260 = .ok (.iconst 3, 1) := by decide +kernel
theorem dL_law_261 : decode cL_law 261 = .ok (.iadd, 1) := by decide +kernel
theorem dL_law_262 : decode cL_law 262 = .ok (.iaload, 1) := by decide +kernel
theorem dL_law_263 : decode cL_law 263 = .ok (.aload_n 0, 1) := by decide +kernel
theorem dL_law_264 : decode cL_law 264 = .ok (.iload_n 3, 1) := by decide +kernel
theorem dL_law_265 : decode cL_law 265 = .ok (.iconst 4, 1) := by decide +kernel
theorem dL_law_266 : decode cL_law 266 = .ok (.iadd, 1) := by decide +kernel
theorem dL_law_267 : decode cL_law 267 = .ok (.iaload, 1) := by decide +kernel
theorem dL_law_268 : decode cL_law 268 = .ok (.aload_n 0, 1) := by decide +kernel
theorem dL_law_269 : decode cL_law 269 = .ok (.iload_n 3, 1) := by decide +kernel
theorem dL_law_270 : decode cL_law 270 = .ok (.iconst 5, 1) := by decide +kernel
theorem dL_law_271 : decode cL_law 271 = .ok (.iadd, 1) := by decide +kernel
theorem dL_law_272 : decode cL_law 272 = .ok (.iaload, 1) := by decide +kernel
theorem dL_law_273 : decode cL_law 273 = .ok (.aload_n 0, 1) := by decide +kernel
theorem dL_law_274 : decode cL_law 274 = .ok (.iload_n 3, 1) := by decide +kernel
theorem dL_law_275 : decode cL_law 275 = .ok (.bipush 6, 2) := by decide +kernel
theorem dL_law_277 : decode cL_law 277 = .ok (.iadd, 1) := by decide +kernel
theorem dL_law_278 : decode cL_law 278 = .ok (.iaload, 1) := by decide +kernel
theorem dL_law_279 : decode cL_law 279 = .ok (.invokevirtual 27, 3) := by decide +kernel
theorem dL_law_282 : decode cL_law 282 = .ok (.aload_n 2, 1) := by decide +kernel
theorem dL_law_283 : decode cL_law 283 = .ok (.aload_n 0, 1) := by decide +kernel
theorem dL_law_284 : decode cL_law 284 = .ok (.iload_n 3, 1) := by decide +kernel
theorem dL_law_285 : decode cL_law 285 = .ok (.iconst 1, 1) := by decide +kernel
theorem dL_law_286 : decode cL_law 286 = .ok (.iadd, 1) := by decide +kernel
theorem dL_law_287 : decode cL_law 287 = .ok (.iaload, 1) := by decide +kernel
theorem dL_law_288 : decode cL_law 288 = .ok (.aload_n 0, 1) := by decide +kernel
theorem dL_law_289 : decode cL_law 289 = .ok (.iload_n 3, 1) := by decide +kernel
theorem dL_law_290 : decode cL_law 290 = .ok (.iconst 2, 1) := by decide +kernel
theorem dL_law_291 : decode cL_law 291 = .ok (.iadd, 1) := by decide +kernel
theorem dL_law_292 : decode cL_law 292 = .ok (.iaload, 1) := by decide +kernel
theorem dL_law_293 : decode cL_law 293 = .ok (.aload_n 0, 1) := by decide +kernel
theorem dL_law_294 : decode cL_law 294 = .ok (.iload_n 3, 1) := by decide +kernel
theorem dL_law_295 : decode cL_law 295 = .ok (.iconst 3, 1) := by decide +kernel
theorem dL_law_296 : decode cL_law 296 = .ok (.iadd, 1) := by decide +kernel
theorem dL_law_297 : decode cL_law 297 = .ok (.iaload, 1) := by decide +kernel
theorem dL_law_298 : decode cL_law 298 = .ok (.aload_n 0, 1) := by decide +kernel
theorem dL_law_299 : decode cL_law 299 = .ok (.iload_n 3, 1) := by decide +kernel
theorem dL_law_300 : decode cL_law 300 = .ok (.iconst 4, 1) := by decide +kernel
theorem dL_law_301 : decode cL_law 301 = .ok (.iadd, 1) := by decide +kernel
theorem dL_law_302 : decode cL_law 302 = .ok (.iaload, 1) := by decide +kernel
theorem dL_law_303 : decode cL_law 303 = .ok (.aload_n 0, 1) := by decide +kernel
theorem dL_law_304 : decode cL_law 304 = .ok (.iload_n 3, 1) := by decide +kernel
theorem dL_law_305 : decode cL_law 305 = .ok (.iconst 5, 1) := by decide +kernel
theorem dL_law_306 : decode cL_law 306 = .ok (.iadd, 1) := by decide +kernel
theorem dL_law_307 : decode cL_law 307 = .ok (.iaload, 1) := by decide +kernel
theorem dL_law_308 : decode cL_law 308 = .ok (.aload_n 0, 1) := by decide +kernel
theorem dL_law_309 : decode cL_law 309 = .ok (.iload_n 3, 1) := by decide +kernel
theorem dL_law_310 : decode cL_law 310 = .ok (.bipush 6, 2) := by decide +kernel
theorem dL_law_312 : decode cL_law 312 = .ok (.iadd, 1) := by decide +kernel
theorem dL_law_313 : decode cL_law 313 = .ok (.iaload, 1) := by decide +kernel
theorem dL_law_314 : decode cL_law 314 = .ok (.invokevirtual 31, 3) := by decide +kernel
theorem dL_law_317 : decode cL_law 317 = .ok (.if_icmp .eq 543, 3) := by decide +kernel
theorem dL_law_320 : decode cL_law 320 = .ok (.iconst 0, 1) := by decide +kernel
theorem dL_law_321 : decode cL_law 321 = .ok (.ireturn, 1) := by decide +kernel
theorem dL_law_322 : decode cL_law 322 = .ok (.aload_n 1, 1) := by decide +kernel
theorem dL_law_323 : decode cL_law 323 = .ok (.invokevirtual 32, 3) := by decide +kernel
theorem dL_law_326 : decode cL_law 326 = .ok (.aload_n 2, 1) := by decide +kernel
theorem dL_law_327 : decode cL_law 327 = .ok (.invokevirtual 36, 3) := by decide +kernel
theorem dL_law_330 : decode cL_law 330 = .ok (.if_icmp .eq 530, 3) := by decide +kernel
theorem dL_law_333 : decode cL_law 333 = .ok (.iconst 0, 1) := by decide +kernel
theorem dL_law_334 : decode cL_law 334 = .ok (.ireturn, 1) := by decide +kernel
theorem dL_law_335 : decode cL_law 335 = .ok (.aload_n 1, 1) := by decide +kernel
theorem dL_law_336 : decode cL_law 336 = .ok (.invokevirtual 37, 3) := by decide +kernel
theorem dL_law_339 : decode cL_law 339 = .ok (.aload_n 2, 1) := by decide +kernel
theorem dL_law_340 : decode cL_law 340 = .ok (.invokevirtual 40, 3) := by decide +kernel
theorem dL_law_343 : decode cL_law 343 = .ok (.if_icmp .eq 517, 3) := by decide +kernel
theorem dL_law_346 : decode cL_law 346 = .ok (.iconst 0, 1) := by decide +kernel
theorem dL_law_347 : decode cL_law 347 = .ok (.ireturn, 1) := by decide +kernel
theorem dL_law_348 : decode cL_law 348 = .ok (.aload_n 1, 1) := by decide +kernel
theorem dL_law_349 : decode cL_law 349 = .ok (.aload_n 0, 1) := by decide +kernel
theorem dL_law_350 : decode cL_law 350 = .ok (.iload_n 3, 1) := by decide +kernel
theorem dL_law_351 : decode cL_law 351 = .ok (.iconst 1, 1) := by decide +kernel
theorem dL_law_352 : decode cL_law 352 = .ok (.iadd, 1) := by decide +kernel
theorem dL_law_353 : decode cL_law 353 = .ok (.iaload, 1) := by decide +kernel
theorem dL_law_354 : decode cL_law 354 = .ok (.aload_n 0, 1) := by decide +kernel
theorem dL_law_355 : decode cL_law 355 = .ok (.iload_n 3, 1) := by decide +kernel
theorem dL_law_356 : decode cL_law 356 = .ok (.iconst 2, 1) := by decide +kernel
theorem dL_law_357 : decode cL_law 357 = .ok (.iadd, 1) := by decide +kernel
theorem dL_law_358 : decode cL_law 358 = .ok (.iaload, 1) := by decide +kernel
theorem dL_law_359 : decode cL_law 359 = .ok (.aload_n 0, 1) := by decide +kernel
theorem dL_law_360 : decode cL_law 360 = .ok (.iload_n 3, 1) := by decide +kernel
theorem dL_law_361 : decode cL_law 361 = .ok (.iconst 3, 1) := by decide +kernel
theorem dL_law_362 : decode cL_law 362 = .ok (.iadd, 1) := by decide +kernel
theorem dL_law_363 : decode cL_law 363 = .ok (.iaload, 1) := by decide +kernel
theorem dL_law_364 : decode cL_law 364 = .ok (.invokevirtual 41, 3) := by decide +kernel
theorem dL_law_367 : decode cL_law 367 = .ok (.aload_n 2, 1) := by decide +kernel
theorem dL_law_368 : decode cL_law 368 = .ok (.aload_n 0, 1) := by decide +kernel
theorem dL_law_369 : decode cL_law 369 = .ok (.iload_n 3, 1) := by decide +kernel
theorem dL_law_370 : decode cL_law 370 = .ok (.iconst 1, 1) := by decide +kernel
theorem dL_law_371 : decode cL_law 371 = .ok (.iadd, 1) := by decide +kernel
theorem dL_law_372 : decode cL_law 372 = .ok (.iaload, 1) := by decide +kernel
theorem dL_law_373 : decode cL_law 373 = .ok (.aload_n 0, 1) := by decide +kernel
theorem dL_law_374 : decode cL_law 374 = .ok (.iload_n 3, 1) := by decide +kernel
theorem dL_law_375 : decode cL_law 375 = .ok (.iconst 2, 1) := by decide +kernel
theorem dL_law_376 : decode cL_law 376 = .ok (.iadd, 1) := by decide +kernel
theorem dL_law_377 : decode cL_law 377 = .ok (.iaload, 1) := by decide +kernel
theorem dL_law_378 : decode cL_law 378 = .ok (.aload_n 0, 1) := by decide +kernel
theorem dL_law_379 : decode cL_law 379 = .ok (.iload_n 3, 1) := by decide +kernel
theorem dL_law_380 : decode cL_law 380 = .ok (.iconst 3, 1) := by decide +kernel
theorem dL_law_381 : decode cL_law 381 = .ok (.iadd, 1) := by decide +kernel
theorem dL_law_382 : decode cL_law 382 = .ok (.iaload, 1) := by decide +kernel
theorem dL_law_383 : decode cL_law 383 = .ok (.invokevirtual 44, 3) := by decide +kernel
theorem dL_law_386 : decode cL_law 386 = .ok (.if_icmp .eq 474, 3) := by decide +kernel
theorem dL_law_389 : decode cL_law 389 = .ok (.iconst 0, 1) := by decide +kernel
theorem dL_law_390 : decode cL_law 390 = .ok (.ireturn, 1) := by decide +kernel
theorem dL_law_391 : decode cL_law 391 = .ok (.aload_n 1, 1) := by decide +kernel
theorem dL_law_392 : decode cL_law 392 = .ok (.aload_n 0, 1) := by decide +kernel
theorem dL_law_393 : decode cL_law 393 = .ok (.iload_n 3, 1) := by decide +kernel
theorem dL_law_394 : decode cL_law 394 = .ok (.iconst 1, 1) := by decide +kernel
theorem dL_law_395 : decode cL_law 395 = .ok (.iadd, 1) := by decide +kernel
theorem dL_law_396 : decode cL_law 396 = .ok (.iaload, 1) := by decide +kernel
theorem dL_law_397 : decode cL_law 397 = .ok (.invokevirtual 45, 3) := by decide +kernel
theorem dL_law_400 : decode cL_law 400 = .ok (.aload_n 2, 1) := by decide +kernel
theorem dL_law_401 : decode cL_law 401 = .ok (.aload_n 0, 1) := by decide +kernel
theorem dL_law_402 : decode cL_law 402 = .ok (.iload_n 3, 1) := by decide +kernel
theorem dL_law_403 : decode cL_law 403 = .ok (.iconst 1, 1) := by decide +kernel
theorem dL_law_404 : decode cL_law 404 = .ok (.iadd, 1) := by decide +kernel
theorem dL_law_405 : decode cL_law 405 = .ok (.iaload, 1) := by decide +kernel
theorem dL_law_406 : decode cL_law 406 = .ok (.invokevirtual 49, 3) := by decide +kernel
theorem dL_law_409 : decode cL_law 409 = .ok (.if_icmp .eq 451, 3) := by decide +kernel
theorem dL_law_412 : decode cL_law 412 = .ok (.iconst 0, 1) := by decide +kernel
theorem dL_law_413 : decode cL_law 413 = .ok (.ireturn, 1) := by decide +kernel
theorem dL_law_414 : decode cL_law 414 = .ok (.aload_n 1, 1) := by decide +kernel
theorem dL_law_415 : decode cL_law 415 = .ok (.aload_n 0, 1) := by decide +kernel
theorem dL_law_416 : decode cL_law 416 = .ok (.iload_n 3, 1) := by decide +kernel
theorem dL_law_417 : decode cL_law 417 = .ok (.iconst 1, 1) := by decide +kernel
theorem dL_law_418 : decode cL_law 418 = .ok (.iadd, 1) := by decide +kernel
theorem dL_law_419 : decode cL_law 419 = .ok (.iaload, 1) := by decide +kernel
theorem dL_law_420 : decode cL_law 420 = .ok (.aload_n 0, 1) := by decide +kernel
theorem dL_law_421 : decode cL_law 421 = .ok (.iload_n 3, 1) := by decide +kernel
theorem dL_law_422 : decode cL_law 422 = .ok (.iconst 2, 1) := by decide +kernel
theorem dL_law_423 : decode cL_law 423 = .ok (.iadd, 1) := by decide +kernel
theorem dL_law_424 : decode cL_law 424 = .ok (.iaload, 1) := by decide +kernel
theorem dL_law_425 : decode cL_law 425 = .ok (.aload_n 0, 1) := by decide +kernel
theorem dL_law_426 : decode cL_law 426 = .ok (.iload_n 3, 1) := by decide +kernel
theorem dL_law_427 : decode cL_law 427 = .ok (.iconst 3, 1) := by decide +kernel
theorem dL_law_428 : decode cL_law 428 = .ok (.iadd, 1) := by decide +kernel
theorem dL_law_429 : decode cL_law 429 = .ok (.iaload, 1) := by decide +kernel
theorem dL_law_430 : decode cL_law 430 = .ok (.invokevirtual 50, 3) := by decide +kernel
theorem dL_law_433 : decode cL_law 433 = .ok (.aload_n 2, 1) := by decide +kernel
theorem dL_law_434 : decode cL_law 434 = .ok (.aload_n 0, 1) := by decide +kernel
theorem dL_law_435 : decode cL_law 435 = .ok (.iload_n 3, 1) := by decide +kernel
theorem dL_law_436 : decode cL_law 436 = .ok (.iconst 1, 1) := by decide +kernel
theorem dL_law_437 : decode cL_law 437 = .ok (.iadd, 1) := by decide +kernel
theorem dL_law_438 : decode cL_law 438 = .ok (.iaload, 1) := by decide +kernel
theorem dL_law_439 : decode cL_law 439 = .ok (.aload_n 0, 1) := by decide +kernel
theorem dL_law_440 : decode cL_law 440 = .ok (.iload_n 3, 1) := by decide +kernel
theorem dL_law_441 : decode cL_law 441 = .ok (.iconst 2, 1) := by decide +kernel
theorem dL_law_442 : decode cL_law 442 = .ok (.iadd, 1) := by decide +kernel
theorem dL_law_443 : decode cL_law 443 = .ok (.iaload, 1) := by decide +kernel
theorem dL_law_444 : decode cL_law 444 = .ok (.aload_n 0, 1) := by decide +kernel
theorem dL_law_445 : decode cL_law 445 = .ok (.iload_n 3, 1) := by decide +kernel
theorem dL_law_446 : decode cL_law 446 = .ok (.iconst 3, 1) := by decide +kernel
theorem dL_law_447 : decode cL_law 447 = .ok (.iadd, 1) := by decide +kernel
theorem dL_law_448 : decode cL_law 448 = .ok (.iaload, 1) := by decide +kernel
theorem dL_law_449 : decode cL_law 449 = .ok (.invokevirtual 53, 3) := by decide +kernel
theorem dL_law_452 : decode cL_law 452 = .ok (.if_icmp .eq 408, 3) := by decide +kernel
theorem dL_law_455 : decode cL_law 455 = .ok (.iconst 0, 1) := by decide +kernel
theorem dL_law_456 : decode cL_law 456 = .ok (.ireturn, 1) := by decide +kernel
theorem dL_law_457 : decode cL_law 457 = .ok (.aload_n 1, 1) := by decide +kernel
theorem dL_law_458 : decode cL_law 458 = .ok (.aload_n 0, 1) := by decide +kernel
theorem dL_law_459 : decode cL_law 459 = .ok (.iload_n 3, 1) := by decide +kernel
theorem dL_law_460 : decode cL_law 460 = .ok (.iconst 1, 1) := by decide +kernel
theorem dL_law_461 : decode cL_law 461 = .ok (.iadd, 1) := by decide +kernel
theorem dL_law_462 : decode cL_law 462 = .ok (.iaload, 1) := by decide +kernel
theorem dL_law_463 : decode cL_law 463 = .ok (.aload_n 0, 1) := by decide +kernel
theorem dL_law_464 : decode cL_law 464 = .ok (.iload_n 3, 1) := by decide +kernel
theorem dL_law_465 : decode cL_law 465 = .ok (.iconst 2, 1) := by decide +kernel
theorem dL_law_466 : decode cL_law 466 = .ok (.iadd, 1) := by decide +kernel
theorem dL_law_467 : decode cL_law 467 = .ok (.iaload, 1) := by decide +kernel
theorem dL_law_468 : decode cL_law 468 = .ok (.invokevirtual 54, 3) := by decide +kernel
theorem dL_law_471 : decode cL_law 471 = .ok (.aload_n 2, 1) := by decide +kernel
theorem dL_law_472 : decode cL_law 472 = .ok (.aload_n 0, 1) := by decide +kernel
theorem dL_law_473 : decode cL_law 473 = .ok (.iload_n 3, 1) := by decide +kernel
theorem dL_law_474 : decode cL_law 474 = .ok (.iconst 1, 1) := by decide +kernel
theorem dL_law_475 : decode cL_law 475 = .ok (.iadd, 1) := by decide +kernel
theorem dL_law_476 : decode cL_law 476 = .ok (.iaload, 1) := by decide +kernel
theorem dL_law_477 : decode cL_law 477 = .ok (.aload_n 0, 1) := by decide +kernel
theorem dL_law_478 : decode cL_law 478 = .ok (.iload_n 3, 1) := by decide +kernel
theorem dL_law_479 : decode cL_law 479 = .ok (.iconst 2, 1) := by decide +kernel
theorem dL_law_480 : decode cL_law 480 = .ok (.iadd, 1) := by decide +kernel
theorem dL_law_481 : decode cL_law 481 = .ok (.iaload, 1) := by decide +kernel
theorem dL_law_482 : decode cL_law 482 = .ok (.invokevirtual 57, 3) := by decide +kernel
theorem dL_law_485 : decode cL_law 485 = .ok (.if_icmp .eq 375, 3) := by decide +kernel
theorem dL_law_488 : decode cL_law 488 = .ok (.iconst 0, 1) := by decide +kernel
theorem dL_law_489 : decode cL_law 489 = .ok (.ireturn, 1) := by decide +kernel
theorem dL_law_490 : decode cL_law 490 = .ok (.aload_n 1, 1) := by decide +kernel
theorem dL_law_491 : decode cL_law 491 = .ok (.aload_n 0, 1) := by decide +kernel
theorem dL_law_492 : decode cL_law 492 = .ok (.iload_n 3, 1) := by decide +kernel
theorem dL_law_493 : decode cL_law 493 = .ok (.iconst 1, 1) := by decide +kernel
theorem dL_law_494 : decode cL_law 494 = .ok (.iadd, 1) := by decide +kernel
theorem dL_law_495 : decode cL_law 495 = .ok (.iaload, 1) := by decide +kernel
theorem dL_law_496 : decode cL_law 496 = .ok (.aload_n 0, 1) := by decide +kernel
theorem dL_law_497 : decode cL_law 497 = .ok (.iload_n 3, 1) := by decide +kernel
theorem dL_law_498 : decode cL_law 498 = .ok (.iconst 2, 1) := by decide +kernel
theorem dL_law_499 : decode cL_law 499 = .ok (.iadd, 1) := by decide +kernel
theorem dL_law_500 : decode cL_law 500 = .ok (.iaload, 1) := by decide +kernel
theorem dL_law_501 : decode cL_law 501 = .ok (.invokevirtual 58, 3) := by decide +kernel
theorem dL_law_504 : decode cL_law 504 = .ok (.aload_n 2, 1) := by decide +kernel
theorem dL_law_505 : decode cL_law 505 = .ok (.aload_n 0, 1) := by decide +kernel
theorem dL_law_506 : decode cL_law 506 = .ok (.iload_n 3, 1) := by decide +kernel
theorem dL_law_507 : decode cL_law 507 = .ok (.iconst 1, 1) := by decide +kernel
theorem dL_law_508 : decode cL_law 508 = .ok (.iadd, 1) := by decide +kernel
theorem dL_law_509 : decode cL_law 509 = .ok (.iaload, 1) := by decide +kernel
theorem dL_law_510 : decode cL_law 510 = .ok (.aload_n 0, 1) := by decide +kernel
theorem dL_law_511 : decode cL_law 511 = .ok (.iload_n 3, 1) := by decide +kernel
theorem dL_law_512 : decode cL_law 512 = .ok (.iconst 2, 1) := by decide +kernel
theorem dL_law_513 : decode cL_law 513 = .ok (.iadd, 1) := by decide +kernel
theorem dL_law_514 : decode cL_law 514 = .ok (.iaload, 1) := by decide +kernel
theorem dL_law_515 : decode cL_law 515 = .ok (.invokevirtual 61, 3) := by decide +kernel
theorem dL_law_518 : decode cL_law 518 = .ok (.if_icmp .eq 342, 3) := by decide +kernel
theorem dL_law_521 : decode cL_law 521 = .ok (.iconst 0, 1) := by decide +kernel
theorem dL_law_522 : decode cL_law 522 = .ok (.ireturn, 1) := by decide +kernel
theorem dL_law_523 : decode cL_law 523 = .ok (.aload_n 1, 1) := by decide +kernel
theorem dL_law_524 : decode cL_law 524 = .ok (.aload_n 0, 1) := by decide +kernel
theorem dL_law_525 : decode cL_law 525 = .ok (.iload_n 3, 1) := by decide +kernel
theorem dL_law_526 : decode cL_law 526 = .ok (.iconst 1, 1) := by decide +kernel
theorem dL_law_527 : decode cL_law 527 = .ok (.iadd, 1) := by decide +kernel
theorem dL_law_528 : decode cL_law 528 = .ok (.iaload, 1) := by decide +kernel
theorem dL_law_529 : decode cL_law 529 = .ok (.aload_n 0, 1) := by decide +kernel
theorem dL_law_530 : decode cL_law 530 = .ok (.iload_n 3, 1) := by decide +kernel
theorem dL_law_531 : decode cL_law 531 = .ok (.iconst 2, 1) := by decide +kernel
theorem dL_law_532 : decode cL_law 532 = .ok (.iadd, 1) := by decide +kernel
theorem dL_law_533 : decode cL_law 533 = .ok (.iaload, 1) := by decide +kernel
theorem dL_law_534 : decode cL_law 534 = .ok (.invokevirtual 62, 3) := by decide +kernel
theorem dL_law_537 : decode cL_law 537 = .ok (.aload_n 2, 1) := by decide +kernel
theorem dL_law_538 : decode cL_law 538 = .ok (.aload_n 0, 1) := by decide +kernel
theorem dL_law_539 : decode cL_law 539 = .ok (.iload_n 3, 1) := by decide +kernel
theorem dL_law_540 : decode cL_law 540 = .ok (.iconst 1, 1) := by decide +kernel
theorem dL_law_541 : decode cL_law 541 = .ok (.iadd, 1) := by decide +kernel
theorem dL_law_542 : decode cL_law 542 = .ok (.iaload, 1) := by decide +kernel
theorem dL_law_543 : decode cL_law 543 = .ok (.aload_n 0, 1) := by decide +kernel
theorem dL_law_544 : decode cL_law 544 = .ok (.iload_n 3, 1) := by decide +kernel
theorem dL_law_545 : decode cL_law 545 = .ok (.iconst 2, 1) := by decide +kernel
theorem dL_law_546 : decode cL_law 546 = .ok (.iadd, 1) := by decide +kernel
theorem dL_law_547 : decode cL_law 547 = .ok (.iaload, 1) := by decide +kernel
theorem dL_law_548 : decode cL_law 548 = .ok (.invokevirtual 65, 3) := by decide +kernel
theorem dL_law_551 : decode cL_law 551 = .ok (.if_icmp .eq 309, 3) := by decide +kernel
theorem dL_law_554 : decode cL_law 554 = .ok (.iconst 0, 1) := by decide +kernel
theorem dL_law_555 : decode cL_law 555 = .ok (.ireturn, 1) := by decide +kernel
theorem dL_law_556 : decode cL_law 556 = .ok (.aload_n 1, 1) := by decide +kernel
theorem dL_law_557 : decode cL_law 557 = .ok (.aload_n 0, 1) := by decide +kernel
theorem dL_law_558 : decode cL_law 558 = .ok (.iload_n 3, 1) := by decide +kernel
theorem dL_law_559 : decode cL_law 559 = .ok (.iconst 1, 1) := by decide +kernel
theorem dL_law_560 : decode cL_law 560 = .ok (.iadd, 1) := by decide +kernel
theorem dL_law_561 : decode cL_law 561 = .ok (.iaload, 1) := by decide +kernel
theorem dL_law_562 : decode cL_law 562 = .ok (.aload_n 0, 1) := by decide +kernel
theorem dL_law_563 : decode cL_law 563 = .ok (.iload_n 3, 1) := by decide +kernel
theorem dL_law_564 : decode cL_law 564 = .ok (.iconst 2, 1) := by decide +kernel
theorem dL_law_565 : decode cL_law 565 = .ok (.iadd, 1) := by decide +kernel
theorem dL_law_566 : decode cL_law 566 = .ok (.iaload, 1) := by decide +kernel
theorem dL_law_567 : decode cL_law 567 = .ok (.invokevirtual 66, 3) := by decide +kernel
theorem dL_law_570 : decode cL_law 570 = .ok (.aload_n 2, 1) := by decide +kernel
theorem dL_law_571 : decode cL_law 571 = .ok (.aload_n 0, 1) := by decide +kernel
theorem dL_law_572 : decode cL_law 572 = .ok (.iload_n 3, 1) := by decide +kernel
theorem dL_law_573 : decode cL_law 573 = .ok (.iconst 1, 1) := by decide +kernel
theorem dL_law_574 : decode cL_law 574 = .ok (.iadd, 1) := by decide +kernel
theorem dL_law_575 : decode cL_law 575 = .ok (.iaload, 1) := by decide +kernel
theorem dL_law_576 : decode cL_law 576 = .ok (.aload_n 0, 1) := by decide +kernel
theorem dL_law_577 : decode cL_law 577 = .ok (.iload_n 3, 1) := by decide +kernel
theorem dL_law_578 : decode cL_law 578 = .ok (.iconst 2, 1) := by decide +kernel
theorem dL_law_579 : decode cL_law 579 = .ok (.iadd, 1) := by decide +kernel
theorem dL_law_580 : decode cL_law 580 = .ok (.iaload, 1) := by decide +kernel
theorem dL_law_581 : decode cL_law 581 = .ok (.invokevirtual 69, 3) := by decide +kernel
theorem dL_law_584 : decode cL_law 584 = .ok (.if_icmp .eq 276, 3) := by decide +kernel
theorem dL_law_587 : decode cL_law 587 = .ok (.iconst 0, 1) := by decide +kernel
theorem dL_law_588 : decode cL_law 588 = .ok (.ireturn, 1) := by decide +kernel
theorem dL_law_589 : decode cL_law 589 = .ok (.aload_n 1, 1) := by decide +kernel
theorem dL_law_590 : decode cL_law 590 = .ok (.aload_n 0, 1) := by decide +kernel
theorem dL_law_591 : decode cL_law 591 = .ok (.iload_n 3, 1) := by decide +kernel
theorem dL_law_592 : decode cL_law 592 = .ok (.iconst 1, 1) := by decide +kernel
theorem dL_law_593 : decode cL_law 593 = .ok (.iadd, 1) := by decide +kernel
theorem dL_law_594 : decode cL_law 594 = .ok (.iaload, 1) := by decide +kernel
theorem dL_law_595 : decode cL_law 595 = .ok (.aload_n 0, 1) := by decide +kernel
theorem dL_law_596 : decode cL_law 596 = .ok (.iload_n 3, 1) := by decide +kernel
theorem dL_law_597 : decode cL_law 597 = .ok (.iconst 2, 1) := by decide +kernel
theorem dL_law_598 : decode cL_law 598 = .ok (.iadd, 1) := by decide +kernel
theorem dL_law_599 : decode cL_law 599 = .ok (.iaload, 1) := by decide +kernel
theorem dL_law_600 : decode cL_law 600 = .ok (.aload_n 0, 1) := by decide +kernel
theorem dL_law_601 : decode cL_law 601 = .ok (.iload_n 3, 1) := by decide +kernel
theorem dL_law_602 : decode cL_law 602 = .ok (.iconst 3, 1) := by decide +kernel
theorem dL_law_603 : decode cL_law 603 = .ok (.iadd, 1) := by decide +kernel
theorem dL_law_604 : decode cL_law 604 = .ok (.iaload, 1) := by decide +kernel
theorem dL_law_605 : decode cL_law 605 = .ok (.invokevirtual 70, 3) := by decide +kernel
theorem dL_law_608 : decode cL_law 608 = .ok (.aload_n 2, 1) := by decide +kernel
theorem dL_law_609 : decode cL_law 609 = .ok (.aload_n 0, 1) := by decide +kernel
theorem dL_law_610 : decode cL_law 610 = .ok (.iload_n 3, 1) := by decide +kernel
theorem dL_law_611 : decode cL_law 611 = .ok (.iconst 1, 1) := by decide +kernel
theorem dL_law_612 : decode cL_law 612 = .ok (.iadd, 1) := by decide +kernel
theorem dL_law_613 : decode cL_law 613 = .ok (.iaload, 1) := by decide +kernel
theorem dL_law_614 : decode cL_law 614 = .ok (.aload_n 0, 1) := by decide +kernel
theorem dL_law_615 : decode cL_law 615 = .ok (.iload_n 3, 1) := by decide +kernel
theorem dL_law_616 : decode cL_law 616 = .ok (.iconst 2, 1) := by decide +kernel
theorem dL_law_617 : decode cL_law 617 = .ok (.iadd, 1) := by decide +kernel
theorem dL_law_618 : decode cL_law 618 = .ok (.iaload, 1) := by decide +kernel
theorem dL_law_619 : decode cL_law 619 = .ok (.aload_n 0, 1) := by decide +kernel
theorem dL_law_620 : decode cL_law 620 = .ok (.iload_n 3, 1) := by decide +kernel
theorem dL_law_621 : decode cL_law 621 = .ok (.iconst 3, 1) := by decide +kernel
theorem dL_law_622 : decode cL_law 622 = .ok (.iadd, 1) := by decide +kernel
theorem dL_law_623 : decode cL_law 623 = .ok (.iaload, 1) := by decide +kernel
theorem dL_law_624 : decode cL_law 624 = .ok (.invokevirtual 73, 3) := by decide +kernel
theorem dL_law_627 : decode cL_law 627 = .ok (.if_icmp .eq 233, 3) := by decide +kernel
theorem dL_law_630 : decode cL_law 630 = .ok (.iconst 0, 1) := by decide +kernel
theorem dL_law_631 : decode cL_law 631 = .ok (.ireturn, 1) := by decide +kernel
theorem dL_law_632 : decode cL_law 632 = .ok (.aload_n 1, 1) := by decide +kernel
theorem dL_law_633 : decode cL_law 633 = .ok (.aload_n 0, 1) := by decide +kernel
theorem dL_law_634 : decode cL_law 634 = .ok (.iload_n 3, 1) := by decide +kernel
theorem dL_law_635 : decode cL_law 635 = .ok (.iconst 1, 1) := by decide +kernel
theorem dL_law_636 : decode cL_law 636 = .ok (.iadd, 1) := by decide +kernel
theorem dL_law_637 : decode cL_law 637 = .ok (.iaload, 1) := by decide +kernel
theorem dL_law_638 : decode cL_law 638 = .ok (.aload_n 0, 1) := by decide +kernel
theorem dL_law_639 : decode cL_law 639 = .ok (.iload_n 3, 1) := by decide +kernel
theorem dL_law_640 : decode cL_law 640 = .ok (.iconst 2, 1) := by decide +kernel
theorem dL_law_641 : decode cL_law 641 = .ok (.iadd, 1) := by decide +kernel
theorem dL_law_642 : decode cL_law 642 = .ok (.iaload, 1) := by decide +kernel
theorem dL_law_643 : decode cL_law 643 = .ok (.aload_n 0, 1) := by decide +kernel
theorem dL_law_644 : decode cL_law 644 = .ok (.iload_n 3, 1) := by decide +kernel
theorem dL_law_645 : decode cL_law 645 = .ok (.iconst 3, 1) := by decide +kernel
theorem dL_law_646 : decode cL_law 646 = .ok (.iadd, 1) := by decide +kernel
theorem dL_law_647 : decode cL_law 647 = .ok (.iaload, 1) := by decide +kernel
theorem dL_law_648 : decode cL_law 648 = .ok (.invokevirtual 74, 3) := by decide +kernel
theorem dL_law_651 : decode cL_law 651 = .ok (.aload_n 2, 1) := by decide +kernel
theorem dL_law_652 : decode cL_law 652 = .ok (.aload_n 0, 1) := by decide +kernel
theorem dL_law_653 : decode cL_law 653 = .ok (.iload_n 3, 1) := by decide +kernel
theorem dL_law_654 : decode cL_law 654 = .ok (.iconst 1, 1) := by decide +kernel
theorem dL_law_655 : decode cL_law 655 = .ok (.iadd, 1) := by decide +kernel
theorem dL_law_656 : decode cL_law 656 = .ok (.iaload, 1) := by decide +kernel
theorem dL_law_657 : decode cL_law 657 = .ok (.aload_n 0, 1) := by decide +kernel
theorem dL_law_658 : decode cL_law 658 = .ok (.iload_n 3, 1) := by decide +kernel
theorem dL_law_659 : decode cL_law 659 = .ok (.iconst 2, 1) := by decide +kernel
theorem dL_law_660 : decode cL_law 660 = .ok (.iadd, 1) := by decide +kernel
theorem dL_law_661 : decode cL_law 661 = .ok (.iaload, 1) := by decide +kernel
theorem dL_law_662 : decode cL_law 662 = .ok (.aload_n 0, 1) := by decide +kernel
theorem dL_law_663 : decode cL_law 663 = .ok (.iload_n 3, 1) := by decide +kernel
theorem dL_law_664 : decode cL_law 664 = .ok (.iconst 3, 1) := by decide +kernel
theorem dL_law_665 : decode cL_law 665 = .ok (.iadd, 1) := by decide +kernel
theorem dL_law_666 : decode cL_law 666 = .ok (.iaload, 1) := by decide +kernel
theorem dL_law_667 : decode cL_law 667 = .ok (.invokevirtual 77, 3) := by decide +kernel
theorem dL_law_670 : decode cL_law 670 = .ok (.if_icmp .eq 190, 3) := by decide +kernel
theorem dL_law_673 : decode cL_law 673 = .ok (.iconst 0, 1) := by decide +kernel
theorem dL_law_674 : decode cL_law 674 = .ok (.ireturn, 1) := by decide +kernel
theorem dL_law_675 : decode cL_law 675 = .ok (.aload_n 1, 1) := by decide +kernel
theorem dL_law_676 : decode cL_law 676 = .ok (.aload_n 0, 1) := by decide +kernel
theorem dL_law_677 : decode cL_law 677 = .ok (.iload_n 3, 1) := by decide +kernel
theorem dL_law_678 : decode cL_law 678 = .ok (.iconst 1, 1) := by decide +kernel
theorem dL_law_679 : decode cL_law 679 = .ok (.iadd, 1) := by decide +kernel
theorem dL_law_680 : decode cL_law 680 = .ok (.iaload, 1) := by decide +kernel
theorem dL_law_681 : decode cL_law 681 = .ok (.aload_n 0, 1) := by decide +kernel
theorem dL_law_682 : decode cL_law 682 = .ok (.iload_n 3, 1) := by decide +kernel
theorem dL_law_683 : decode cL_law 683 = .ok (.iconst 2, 1) := by decide +kernel
theorem dL_law_684 : decode cL_law 684 = .ok (.iadd, 1) := by decide +kernel
theorem dL_law_685 : decode cL_law 685 = .ok (.iaload, 1) := by decide +kernel
theorem dL_law_686 : decode cL_law 686 = .ok (.aload_n 0, 1) := by decide +kernel
theorem dL_law_687 : decode cL_law 687 = .ok (.iload_n 3, 1) := by decide +kernel
theorem dL_law_688 : decode cL_law 688 = .ok (.iconst 3, 1) := by decide +kernel
theorem dL_law_689 : decode cL_law 689 = .ok (.iadd, 1) := by decide +kernel
theorem dL_law_690 : decode cL_law 690 = .ok (.iaload, 1) := by decide +kernel
theorem dL_law_691 : decode cL_law 691 = .ok (.invokevirtual 78, 3) := by decide +kernel
theorem dL_law_694 : decode cL_law 694 = .ok (.aload_n 2, 1) := by decide +kernel
theorem dL_law_695 : decode cL_law 695 = .ok (.aload_n 0, 1) := by decide +kernel
theorem dL_law_696 : decode cL_law 696 = .ok (.iload_n 3, 1) := by decide +kernel
theorem dL_law_697 : decode cL_law 697 = .ok (.iconst 1, 1) := by decide +kernel
theorem dL_law_698 : decode cL_law 698 = .ok (.iadd, 1) := by decide +kernel
theorem dL_law_699 : decode cL_law 699 = .ok (.iaload, 1) := by decide +kernel
theorem dL_law_700 : decode cL_law 700 = .ok (.aload_n 0, 1) := by decide +kernel
theorem dL_law_701 : decode cL_law 701 = .ok (.iload_n 3, 1) := by decide +kernel
theorem dL_law_702 : decode cL_law 702 = .ok (.iconst 2, 1) := by decide +kernel
theorem dL_law_703 : decode cL_law 703 = .ok (.iadd, 1) := by decide +kernel
theorem dL_law_704 : decode cL_law 704 = .ok (.iaload, 1) := by decide +kernel
theorem dL_law_705 : decode cL_law 705 = .ok (.aload_n 0, 1) := by decide +kernel
theorem dL_law_706 : decode cL_law 706 = .ok (.iload_n 3, 1) := by decide +kernel
theorem dL_law_707 : decode cL_law 707 = .ok (.iconst 3, 1) := by decide +kernel
theorem dL_law_708 : decode cL_law 708 = .ok (.iadd, 1) := by decide +kernel
theorem dL_law_709 : decode cL_law 709 = .ok (.iaload, 1) := by decide +kernel
theorem dL_law_710 : decode cL_law 710 = .ok (.invokevirtual 81, 3) := by decide +kernel
theorem dL_law_713 : decode cL_law 713 = .ok (.if_icmp .eq 147, 3) := by decide +kernel
theorem dL_law_716 : decode cL_law 716 = .ok (.iconst 0, 1) := by decide +kernel
theorem dL_law_717 : decode cL_law 717 = .ok (.ireturn, 1) := by decide +kernel
