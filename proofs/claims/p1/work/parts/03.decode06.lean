theorem dX12_run_62 : decode cX12_run 62 = .ok (.istore_n 2, 1) := by decide +kernel
theorem dX12_run_63 : decode cX12_run 63 = .ok (.iload_n 2, 1) := by decide +kernel
theorem dX12_run_64 : decode cX12_run 64 = .ok (.iload_n 1, 1) := by decide +kernel
theorem dX12_run_65 : decode cX12_run 65 = .ok (.if_icmp .ge 21, 3) := by decide +kernel
theorem dX12_run_68 : decode cX12_run 68 = .ok (.aload_n 0, 1) := by decide +kernel
theorem dX12_run_69 : decode cX12_run 69 = .ok (.getfield 228, 3) := by decide +kernel
theorem dX12_run_72 : decode cX12_run 72 = .ok (.iload_n 2, 1) := by decide +kernel
theorem dX12_run_73 : decode cX12_run 73 = .ok (.aload_n 0, 1) := by decide +kernel
theorem dX12_run_74 : decode cX12_run 74 = .ok (.getfield 192, 3) := by decide +kernel
theorem dX12_run_77 : decode cX12_run 77 = .ok (.iload_n 2, 1) := by decide +kernel
theorem dX12_run_78 : decode cX12_run 78 = .ok (.iaload, 1) := by decide +kernel
theorem dX12_run_79 : decode cX12_run 79 = .ok (.iastore, 1) := by decide +kernel
theorem dX12_run_80 : decode cX12_run 80 = .ok (.iinc 2 1, 3) := by decide +kernel
theorem dX12_run_83 : decode cX12_run 83 = .ok (.goto (-20), 3) := by decide +kernel
theorem dX12_run_86 : decode cX12_run 86 = .ok (.aload_n 0, 1) := by decide +kernel
theorem dX12_run_87 : decode cX12_run 87 = .ok (.iconst 0, 1) := by decide +kernel
theorem dX12_run_88 : decode cX12_run 88 = .ok (.putfield 344, 3) := by decide +kernel
theorem dX12_run_91 : decode cX12_run 91 = .ok (.aload_n 0, 1) := by decide +kernel
theorem dX12_run_92 : decode cX12_run 92 = .ok (.invokevirtual 653, 3) := by decide +kernel
theorem dX12_run_95 : decode cX12_run 95 = .ok (.aload_n 0, 1) := by decide +kernel
theorem dX12_run_96 : decode cX12_run 96 = .ok (.iconst 0, 1) := by decide +kernel
theorem dX12_run_97 : decode cX12_run 97 = .ok (.putfield 656, 3) := by decide +kernel
theorem dX12_run_100 : decode cX12_run 100 = .ok (.aload_n 0, 1) := by decide +kernel
theorem dX12_run_101 : decode cX12_run 101 = .ok (.iload_n 1, 1) := by decide +kernel
theorem dX12_run_102 : decode cX12_run 102 = .ok (.invokevirtual 515, 3) := by decide +kernel
theorem dX12_run_105 : decode cX12_run 105 = .ok (.istore_n 2, 1) := by decide +kernel
theorem dX12_run_106 : decode cX12_run 106 = .ok (.iload_n 2, 1) := by decide +kernel
theorem dX12_run_107 : decode cX12_run 107 = .ok (.ifCond .eq 19, 3) := by decide +kernel
theorem dX12_run_110 : decode cX12_run 110 = .ok (.aload_n 0, 1) := by decide +kernel
theorem dX12_run_111 : decode cX12_run 111 = .ok (.iload_n 2, 1) := by decide +kernel
theorem dX12_run_112 : decode cX12_run 112 = .ok (.iconst (-1), 1) := by decide +kernel
theorem dX12_run_113 : decode cX12_run 113 = .ok (.aload_n 0, 1) := by decide +kernel
theorem dX12_run_114 : decode cX12_run 114 = .ok (.getfield 535, 3) := by decide +kernel
theorem dX12_run_117 : decode cX12_run 117 = .ok (.iconst (-1), 1) := by decide +kernel
theorem dX12_run_118 : decode cX12_run 118 = .ok (.invokevirtual 557, 3) := by decide +kernel
theorem dX12_run_121 : decode cX12_run 121 = .ok (.iload_n 2, 1) := by decide +kernel
theorem dX12_run_122 : decode cX12_run 122 = .ok (.bipush 20, 2) := by decide +kernel
theorem dX12_run_124 : decode cX12_run 124 = .ok (.isub, 1) := by decide +kernel
theorem dX12_run_125 : decode cX12_run 125 = .ok (.ireturn, 1) := by decide +kernel
theorem dX12_run_126 : decode cX12_run 126 = .ok (.aload_n 0, 1) := by decide +kernel
theorem dX12_run_127 : decode cX12_run 127 = .ok (.invokevirtual 659, 3) := by decide +kernel
theorem dX12_run_130 : decode cX12_run 130 = .ok (.aload_n 0, 1) := by decide +kernel
theorem dX12_run_131 : decode cX12_run 131 = .ok (.getfield 538, 3) := by decide +kernel
theorem dX12_run_134 : decode cX12_run 134 = .ok (.iconst 2, 1) := by decide +kernel
theorem dX12_run_135 : decode cX12_run 135 = .ok (.if_icmp .eq 7, 3) := by decide +kernel
theorem dX12_run_138 : decode cX12_run 138 = .ok (.aload_n 0, 1) := by decide +kernel
theorem dX12_run_139 : decode cX12_run 139 = .ok (.invokevirtual 662, 3) := by decide +kernel
theorem dX12_run_142 : decode cX12_run 142 = .ok (.aload_n 0, 1) := by decide +kernel
theorem dX12_run_143 : decode cX12_run 143 = .ok (.iconst 0, 1) := by decide +kernel
theorem dX12_run_144 : decode cX12_run 144 = .ok (.putfield 597, 3) := by decide +kernel
theorem dX12_run_147 : decode cX12_run 147 = .ok (.aload_n 0, 1) := by decide +kernel
theorem dX12_run_148 : decode cX12_run 148 = .ok (.invokevirtual 550, 3) := by decide +kernel
theorem dX12_run_151 : decode cX12_run 151 = .ok (.ifCond .eq 18, 3) := by decide +kernel
theorem dX12_run_154 : decode cX12_run 154 = .ok (.aload_n 0, 1) := by decide +kernel
theorem dX12_run_155 : decode cX12_run 155 = .ok (.getfield 522, 3) := by decide +kernel
theorem dX12_run_158 : decode cX12_run 158 = .ok (.ifCond .ne 11, 3) := by decide +kernel
theorem dX12_run_161 : decode cX12_run 161 = .ok (.aload_n 0, 1) := by decide +kernel
theorem dX12_run_162 : decode cX12_run 162 = .ok (.iconst 4, 1) := by decide +kernel
theorem dX12_run_163 : decode cX12_run 163 = .ok (.iconst (-1), 1) := by decide +kernel
theorem dX12_run_164 : decode cX12_run 164 = .ok (.iconst 0, 1) := by decide +kernel
theorem dX12_run_165 : decode cX12_run 165 = .ok (.iconst (-1), 1) := by decide +kernel
theorem dX12_run_166 : decode cX12_run 166 = .ok (.invokevirtual 557, 3) := by decide +kernel
theorem dX12_run_169 : decode cX12_run 169 = .ok (.aload_n 0, 1) := by decide +kernel
theorem dX12_run_170 : decode cX12_run 170 = .ok (.invokevirtual 550, 3) := by decide +kernel
theorem dX12_run_173 : decode cX12_run 173 = .ok (.ifCond .eq 7, 3) := by decide +kernel
theorem dX12_run_176 : decode cX12_run 176 = .ok (.aload_n 0, 1) := by decide +kernel
theorem dX12_run_177 : decode cX12_run 177 = .ok (.invokevirtual 665, 3) := by decide +kernel
theorem dX12_run_180 : decode cX12_run 180 = .ok (.aload_n 0, 1) := by decide +kernel
theorem dX12_run_181 : decode cX12_run 181 = .ok (.invokevirtual 550, 3) := by decide +kernel
theorem dX12_run_184 : decode cX12_run 184 = .ok (.ifCond .eq 7, 3) := by decide +kernel
theorem dX12_run_187 : decode cX12_run 187 = .ok (.aload_n 0, 1) := by decide +kernel
theorem dX12_run_188 : decode cX12_run 188 = .ok (.invokevirtual 668, 3) := by decide +kernel
theorem dX12_run_191 : decode cX12_run 191 = .ok (.aload_n 0, 1) := by decide +kernel
theorem dX12_run_192 : decode cX12_run 192 = .ok (.invokevirtual 550, 3) := by decide +kernel
theorem dX12_run_195 : decode cX12_run 195 = .ok (.ifCond .eq 11, 3) := by decide +kernel
theorem dX12_run_198 : decode cX12_run 198 = .ok (.aload_n 0, 1) := by decide +kernel
theorem dX12_run_199 : decode cX12_run 199 = .ok (.invokevirtual 671, 3) := by decide +kernel
theorem dX12_run_202 : decode cX12_run 202 = .ok (.aload_n 0, 1) := by decide +kernel
theorem dX12_run_203 : decode cX12_run 203 = .ok (.invokevirtual 674, 3) := by decide +kernel
theorem dX12_run_206 : decode cX12_run 206 = .ok (.iconst 0, 1) := by decide +kernel
theorem dX12_run_207 : decode cX12_run 207 = .ok (.istore_n 3, 1) := by decide +kernel
theorem dX12_run_208 : decode cX12_run 208 = .ok (.aload_n 0, 1) := by decide +kernel
theorem dX12_run_209 : decode cX12_run 209 = .ok (.invokevirtual 550, 3) := by decide +kernel
theorem dX12_run_212 : decode cX12_run 212 = .ok (.ifCond .eq 44, 3) := by decide +kernel
theorem dX12_run_215 : decode cX12_run 215 = .ok (.iload_n 3, 1) := by decide +kernel
theorem dX12_run_216 : decode cX12_run 216 = .ok (.aload_n 0, 1) := by decide +kernel
theorem dX12_run_217 : decode cX12_run 217 = .ok (.getfield 122, 3) := by decide +kernel
theorem dX12_run_220 : decode cX12_run 220 = .ok (.aload_n 0, 1) := by decide +kernel
theorem dX12_run_221 : decode cX12_run 221 = .ok (.getfield 564, 3) := by decide +kernel
theorem dX12_run_224 : decode cX12_run 224 = .ok (.iaload, 1) := by decide +kernel
theorem dX12_run_225 : decode cX12_run 225 = .ok (.if_icmp .ge 31, 3) := by decide +kernel
theorem dX12_run_228 : decode cX12_run 228 = .ok (.aload_n 0, 1) := by decide +kernel
theorem dX12_run_229 : decode cX12_run 229 = .ok (.iload_n 3, 1) := by decide +kernel
theorem dX12_run_230 : decode cX12_run 230 = .ok (.invokevirtual 576, 3) := by decide +kernel
theorem dX12_run_233 : decode cX12_run 233 = .ok (.ifCond .eq 17, 3) := by decide +kernel
theorem dX12_run_236 : decode cX12_run 236 = .ok (.aload_n 0, 1) := by decide +kernel
theorem dX12_run_237 : decode cX12_run 237 = .ok (.getfield 264, 3) := by decide +kernel
theorem dX12_run_240 : decode cX12_run 240 = .ok (.iload_n 3, 1) := by decide +kernel
theorem dX12_run_241 : decode cX12_run 241 = .ok (.baload, 1) := by decide +kernel
theorem dX12_run_242 : decode cX12_run 242 = .ok (.ifCond .ne 8, 3) := by decide +kernel
theorem dX12_run_245 : decode cX12_run 245 = .ok (.aload_n 0, 1) := by decide +kernel
theorem dX12_run_246 : decode cX12_run 246 = .ok (.iload_n 3, 1) := by decide +kernel
theorem dX12_run_247 : decode cX12_run 247 = .ok (.invokevirtual 677, 3) := by decide +kernel
theorem dX12_run_250 : decode cX12_run 250 = .ok (.iinc 3 1, 3) := by decide +kernel
theorem dX12_run_253 : decode cX12_run 253 = .ok (.goto (-45), 3) := by decide +kernel
theorem dX12_run_256 : decode cX12_run 256 = .ok (.iconst 0, 1) := by decide +kernel
theorem dX12_run_257 : decode cX12_run 257 = .ok (.istore_n 3, 1) := by decide +kernel
theorem dX12_run_258 : decode cX12_run 258 = .ok (.aload_n 0, 1) := by decide +kernel
theorem dX12_run_259 : decode cX12_run 259 = .ok (.invokevirtual 550, 3) := by decide +kernel
theorem dX12_run_262 : decode cX12_run 262 = .ok (.ifCond .eq 35, 3) := by decide +kernel
theorem dX12_run_265 : decode cX12_run 265 = .ok (.iload_n 3, 1) := by decide +kernel
theorem dX12_run_266 : decode cX12_run 266 = .ok (.aload_n 0, 1) := by decide +kernel
theorem dX12_run_267 : decode cX12_run 267 = .ok (.getfield 122, 3) := by decide +kernel
theorem dX12_run_270 : decode cX12_run 270 = .ok (.aload_n 0, 1) := by decide +kernel
theorem dX12_run_271 : decode cX12_run 271 = .ok (.getfield 564, 3) := by decide +kernel
theorem dX12_run_274 : decode cX12_run 274 = .ok (.iaload, 1) := by decide +kernel
theorem dX12_run_275 : decode cX12_run 275 = .ok (.if_icmp .ge 22, 3) := by decide +kernel
theorem dX12_run_278 : decode cX12_run 278 = .ok (.aload_n 0, 1) := by decide +kernel
theorem dX12_run_279 : decode cX12_run 279 = .ok (.iload_n 3, 1) := by decide +kernel
theorem dX12_run_280 : decode cX12_run 280 = .ok (.invokevirtual 576, 3) := by decide +kernel
theorem dX12_run_283 : decode cX12_run 283 = .ok (.ifCond .eq 8, 3) := by decide +kernel
theorem dX12_run_286 : decode cX12_run 286 = .ok (.aload_n 0, 1) := by decide +kernel
theorem dX12_run_287 : decode cX12_run 287 = .ok (.iload_n 3, 1) := by decide +kernel
theorem dX12_run_288 : decode cX12_run 288 = .ok (.invokevirtual 680, 3) := by decide +kernel
theorem dX12_run_291 : decode cX12_run 291 = .ok (.iinc 3 1, 3) := by decide +kernel
theorem dX12_run_294 : decode cX12_run 294 = .ok (.goto (-36), 3) := by decide +kernel
theorem dX12_run_297 : decode cX12_run 297 = .ok (.aload_n 0, 1) := by decide +kernel
theorem dX12_run_298 : decode cX12_run 298 = .ok (.invokevirtual 550, 3) := by decide +kernel
theorem dX12_run_301 : decode cX12_run 301 = .ok (.ifCond .eq 66, 3) := by decide +kernel
theorem dX12_run_304 : decode cX12_run 304 = .ok (.aload_n 0, 1) := by decide +kernel
theorem dX12_run_305 : decode cX12_run 305 = .ok (.getfield 113, 3) := by decide +kernel
theorem dX12_run_308 : decode cX12_run 308 = .ok (.bipush 17, 2) := by decide +kernel
theorem dX12_run_310 : decode cX12_run 310 = .ok (.aload_n 0, 1) := by decide +kernel
theorem dX12_run_311 : decode cX12_run 311 = .ok (.getfield 564, 3) := by decide +kernel
theorem dX12_run_314 : decode cX12_run 314 = .ok (.imul, 1) := by decide +kernel
theorem dX12_run_315 : decode cX12_run 315 = .ok (.aload_n 0, 1) := by decide +kernel
theorem dX12_run_316 : decode cX12_run 316 = .ok (.getfield 567, 3) := by decide +kernel
theorem dX12_run_319 : decode cX12_run 319 = .ok (.iadd, 1) := by decide +kernel
theorem dX12_run_320 : decode cX12_run 320 = .ok (.laload, 1) := by decide +kernel
theorem dX12_run_321 : decode cX12_run 321 = .ok (.lconst 0, 1) := by decide +kernel
theorem dX12_run_322 : decode cX12_run 322 = .ok (.lcmp, 1) := by decide +kernel
theorem dX12_run_323 : decode cX12_run 323 = .ok (.ifCond .eq 44, 3) := by decide +kernel
theorem dX12_run_326 : decode cX12_run 326 = .ok (.aload_n 0, 1) := by decide +kernel
theorem dX12_run_327 : decode cX12_run 327 = .ok (.getfield 125, 3) := by decide +kernel
theorem dX12_run_330 : decode cX12_run 330 = .ok (.bipush 17, 2) := by decide +kernel
theorem dX12_run_332 : decode cX12_run 332 = .ok (.aload_n 0, 1) := by decide +kernel
theorem dX12_run_333 : decode cX12_run 333 = .ok (.getfield 564, 3) := by decide +kernel
theorem dX12_run_336 : decode cX12_run 336 = .ok (.imul, 1) := by decide +kernel
theorem dX12_run_337 : decode cX12_run 337 = .ok (.aload_n 0, 1) := by decide +kernel
theorem dX12_run_338 : decode cX12_run 338 = .ok (.getfield 567, 3) := by decide +kernel
theorem dX12_run_341 : decode cX12_run 341 = .ok (.iadd, 1) := by decide +kernel
theorem dX12_run_342 : decode cX12_run 342 = .ok (.baload, 1) := by decide +kernel
theorem dX12_run_343 : decode cX12_run 343 = .ok (.ifCond .eq 24, 3) := by decide +kernel
theorem dX12_run_346 : decode cX12_run 346 = .ok (.aload_n 0, 1) := by decide +kernel
theorem dX12_run_347 : decode cX12_run 347 = .ok (.getfield 288, 3) := by decide +kernel
theorem dX12_run_350 : decode cX12_run 350 = .ok (.aload_n 0, 1) := by decide +kernel
theorem dX12_run_351 : decode cX12_run 351 = .ok (.getfield 616, 3) := by decide +kernel
theorem dX12_run_354 : decode cX12_run 354 = .ok (.iaload, 1) := by decide +kernel
theorem dX12_run_355 : decode cX12_run 355 = .ok (.ifCond .ne 12, 3) := by decide +kernel
theorem dX12_run_358 : decode cX12_run 358 = .ok (.aload_n 0, 1) := by decide +kernel
theorem dX12_run_359 : decode cX12_run 359 = .ok (.bipush 17, 2) := by decide +kernel
theorem dX12_run_361 : decode cX12_run 361 = .ok (.iconst (-1), 1) := by decide +kernel
theorem dX12_run_362 : decode cX12_run 362 = .ok (.iconst 0, 1) := by decide +kernel
theorem dX12_run_363 : decode cX12_run 363 = .ok (.iconst (-1), 1) := by decide +kernel
theorem dX12_run_364 : decode cX12_run 364 = .ok (.invokevirtual 557, 3) := by decide +kernel
theorem dX12_run_367 : decode cX12_run 367 = .ok (.aload_n 0, 1) := by decide +kernel
theorem dX12_run_368 : decode cX12_run 368 = .ok (.invokevirtual 550, 3) := by decide +kernel
theorem dX12_run_371 : decode cX12_run 371 = .ok (.ifCond .ne 11, 3) := by decide +kernel
theorem dX12_run_374 : decode cX12_run 374 = .ok (.aload_n 0, 1) := by decide +kernel
theorem dX12_run_375 : decode cX12_run 375 = .ok (.getfield 538, 3) := by decide +kernel
theorem dX12_run_378 : decode cX12_run 378 = .ok (.bipush 20, 2) := by decide +kernel
theorem dX12_run_380 : decode cX12_run 380 = .ok (.isub, 1) := by decide +kernel
theorem dX12_run_381 : decode cX12_run 381 = .ok (.ireturn, 1) := by decide +kernel
theorem dX12_run_382 : decode cX12_run 382 = .ok (.aload_n 0, 1) := by decide +kernel
theorem dX12_run_383 : decode cX12_run 383 = .ok (.dup, 1) := by decide +kernel
theorem dX12_run_384 : decode cX12_run 384 = .ok (.getfield 616, 3) := by decide +kernel
theorem dX12_run_387 : decode cX12_run 387 = .ok (.iconst 1, 1) := by decide +kernel
theorem dX12_run_388 : decode cX12_run 388 = .ok (.iadd, 1) := by decide +kernel
theorem dX12_run_389 : decode cX12_run 389 = .ok (.putfield 616, 3) := by decide +kernel
theorem dX12_run_392 : decode cX12_run 392 = .ok (.aload_n 0, 1) := by decide +kernel
theorem dX12_run_393 : decode cX12_run 393 = .ok (.getfield 616, 3) := by decide +kernel
theorem dX12_run_396 : decode cX12_run 396 = .ok (.iconst 1, 1) := by decide +kernel
theorem dX12_run_397 : decode cX12_run 397 = .ok (.isub, 1) := by decide +kernel
theorem dX12_run_398 : decode cX12_run 398 = .ok (.ireturn, 1) := by decide +kernel
theorem dX12_same_0 : decode cX12_same 0 = .ok (.aload_n 0, 1) := by decide +kernel
theorem dX12_same_1 : decode cX12_same 1 = .ok (.iconst 0, 1) := by decide +kernel
theorem dX12_same_2 : decode cX12_same 2 = .ok (.putfield 1, 3) := by decide +kernel
theorem dX12_same_5 : decode cX12_same 5 = .ok (.aload_n 0, 1) := by decide +kernel
theorem dX12_same_6 : decode cX12_same 6 = .ok (.iload_n 1, 1) := by decide +kernel
theorem dX12_same_7 : decode cX12_same 7 = .ok (.invokevirtual 683, 3) := by decide +kernel
theorem dX12_same_10 : decode cX12_same 10 = .ok (.ifCond .eq 11, 3) := by decide +kernel
theorem dX12_same_13 : decode cX12_same 13 = .ok (.aload_n 0, 1) := by decide +kernel
theorem dX12_same_14 : decode cX12_same 14 = .ok (.iload_n 2, 1) := by decide +kernel
theorem dX12_same_15 : decode cX12_same 15 = .ok (.invokevirtual 683, 3) := by decide +kernel
theorem dX12_same_18 : decode cX12_same 18 = .ok (.ifCond .ne 5, 3) := by decide +kernel
theorem dX12_same_21 : decode cX12_same 21 = .ok (.iconst 0, 1) := by decide +kernel
theorem dX12_same_22 : decode cX12_same 22 = .ok (.ireturn, 1) := by decide +kernel
theorem dX12_same_23 : decode cX12_same 23 = .ok (.aload_n 0, 1) := by decide +kernel
theorem dX12_same_24 : decode cX12_same 24 = .ok (.getfield 282, 3) := by decide +kernel
theorem dX12_same_27 : decode cX12_same 27 = .ok (.iload_n 1, 1) := by decide +kernel
theorem dX12_same_28 : decode cX12_same 28 = .ok (.iaload, 1) := by decide +kernel
theorem dX12_same_29 : decode cX12_same 29 = .ok (.aload_n 0, 1) := by decide +kernel
theorem dX12_same_30 : decode cX12_same 30 = .ok (.getfield 282, 3) := by decide +kernel
theorem dX12_same_33 : decode cX12_same 33 = .ok (.iload_n 2, 1) := by decide +kernel
theorem dX12_same_34 : decode cX12_same 34 = .ok (.iaload, 1) := by decide +kernel
theorem dX12_same_35 : decode cX12_same 35 = .ok (.if_icmp .ne 33, 3) := by decide +kernel
theorem dX12_same_38 : decode cX12_same 38 = .ok (.aload_n 0, 1) := by decide +kernel
theorem dX12_same_39 : decode cX12_same 39 = .ok (.getfield 285, 3) := by decide +kernel
theorem dX12_same_42 : decode cX12_same 42 = .ok (.iload_n 1, 1) := by decide +kernel
theorem dX12_same_43 : decode cX12_same 43 = .ok (.iaload, 1) := by decide +kernel
theorem dX12_same_44 : decode cX12_same 44 = .ok (.aload_n 0, 1) := by decide +kernel
theorem dX12_same_45 : decode cX12_same 45 = .ok (.getfield 285, 3) := by decide +kernel
theorem dX12_same_48 : decode cX12_same 48 = .ok (.iload_n 2, 1) := by decide +kernel
theorem dX12_same_49 : decode cX12_same 49 = .ok (.iaload, 1) := by decide +kernel
theorem dX12_same_50 : decode cX12_same 50 = .ok (.if_icmp .ne 18, 3) := by decide +kernel
theorem dX12_same_53 : decode cX12_same 53 = .ok (.aload_n 0, 1) := by decide +kernel
theorem dX12_same_54 : decode cX12_same 54 = .ok (.getfield 288, 3) := by decide +kernel
theorem dX12_same_57 : decode cX12_same 57 = .ok (.iload_n 1, 1) := by decide +kernel
theorem dX12_same_58 : decode cX12_same 58 = .ok (.iaload, 1) := by decide +kernel
theorem dX12_same_59 : decode cX12_same 59 = .ok (.aload_n 0, 1) := by decide +kernel
theorem dX12_same_60 : decode cX12_same 60 = .ok (.getfield 288, 3) := by decide +kernel
theorem dX12_same_63 : decode cX12_same 63 = .ok (.iload_n 2, 1) := by decide +kernel
theorem dX12_same_64 : decode cX12_same 64 = .ok (.iaload, 1) := by decide +kernel
theorem dX12_same_65 : decode cX12_same 65 = .ok (.if_icmp .eq 5, 3) := by decide +kernel
theorem dX12_same_68 : decode cX12_same 68 = .ok (.iconst 0, 1) := by decide +kernel
theorem dX12_same_69 : decode cX12_same 69 = .ok (.ireturn, 1) := by decide +kernel
theorem dX12_same_70 : decode cX12_same 70 = .ok (.iconst 1, 1) := by decide +kernel
theorem dX12_same_71 : decode cX12_same 71 = .ok (.istore_n 3, 1) := by decide +kernel
theorem dX12_same_72 : decode cX12_same 72 = .ok (.iconst 0, 1) := by decide +kernel
theorem dX12_same_73 : decode cX12_same 73 = .ok (.istore 4, 2) := by decide +kernel
theorem dX12_same_75 : decode cX12_same 75 = .ok (.iload 4, 2) := by decide +kernel
theorem dX12_same_77 : decode cX12_same 77 = .ok (.aload_n 0, 1) := by decide +kernel
theorem dX12_same_78 : decode cX12_same 78 = .ok (.getfield 122, 3) := by decide +kernel
theorem dX12_same_81 : decode cX12_same 81 = .ok (.aload_n 0, 1) := by decide +kernel
theorem dX12_same_82 : decode cX12_same 82 = .ok (.getfield 282, 3) := by decide +kernel
theorem dX12_same_85 : decode cX12_same 85 = .ok (.iload_n 1, 1) := by decide +kernel
theorem dX12_same_86 : decode cX12_same 86 = .ok (.iaload, 1) := by decide +kernel
theorem dX12_same_87 : decode cX12_same 87 = .ok (.iaload, 1) := by decide +kernel
theorem dX12_same_88 : decode cX12_same 88 = .ok (.if_icmp .ge 238, 3) := by decide +kernel
theorem dX12_same_91 : decode cX12_same 91 = .ok (.iload_n 3, 1) := by decide +kernel
theorem dX12_same_92 : decode cX12_same 92 = .ok (.ifCond .eq 234, 3) := by decide +kernel
theorem dX12_same_95 : decode cX12_same 95 = .ok (.aload_n 0, 1) := by decide +kernel
theorem dX12_same_96 : decode cX12_same 96 = .ok (.iload_n 1, 1) := by decide +kernel
theorem dX12_same_97 : decode cX12_same 97 = .ok (.iload 4, 2) := by decide +kernel
theorem dX12_same_99 : decode cX12_same 99 = .ok (.invokevirtual 686, 3) := by decide +kernel
theorem dX12_same_102 : decode cX12_same 102 = .ok (.ifCond .ne 6, 3) := by decide +kernel
theorem dX12_same_105 : decode cX12_same 105 = .ok (.goto 215, 3) := by decide +kernel
theorem dX12_same_108 : decode cX12_same 108 = .ok (.bipush 40, 2) := by decide +kernel
theorem dX12_same_110 : decode cX12_same 110 = .ok (.iload_n 1, 1) := by decide +kernel
theorem dX12_same_111 : decode cX12_same 111 = .ok (.imul, 1) := by decide +kernel
theorem dX12_same_112 : decode cX12_same 112 = .ok (.iload 4, 2) := by decide +kernel
theorem dX12_same_114 : decode cX12_same 114 = .ok (.iadd, 1) := by decide +kernel
theorem dX12_same_115 : decode cX12_same 115 = .ok (.istore 5, 2) := by decide +kernel
theorem dX12_same_117 : decode cX12_same 117 = .ok (.bipush 40, 2) := by decide +kernel
theorem dX12_same_119 : decode cX12_same 119 = .ok (.iload_n 2, 1) := by decide +kernel
theorem dX12_same_120 : decode cX12_same 120 = .ok (.imul, 1) := by decide +kernel
theorem dX12_same_121 : decode cX12_same 121 = .ok (.iload 4, 2) := by decide +kernel
theorem dX12_same_123 : decode cX12_same 123 = .ok (.iadd, 1) := by decide +kernel
theorem dX12_same_124 : decode cX12_same 124 = .ok (.istore 6, 2) := by decide +kernel
theorem dX12_same_126 : decode cX12_same 126 = .ok (.aload_n 0, 1) := by decide +kernel
theorem dX12_same_127 : decode cX12_same 127 = .ok (.getfield 141, 3) := by decide +kernel
theorem dX12_same_130 : decode cX12_same 130 = .ok (.bipush 40, 2) := by decide +kernel
theorem dX12_same_132 : decode cX12_same 132 = .ok (.aload_n 0, 1) := by decide +kernel
theorem dX12_same_133 : decode cX12_same 133 = .ok (.getfield 282, 3) := by decide +kernel
theorem dX12_same_136 : decode cX12_same 136 = .ok (.iload_n 1, 1) := by decide +kernel
theorem dX12_same_137 : decode cX12_same 137 = .ok (.iaload, 1) := by decide +kernel
theorem dX12_same_138 : decode cX12_same 138 = .ok (.imul, 1) := by decide +kernel
theorem dX12_same_139 : decode cX12_same 139 = .ok (.iload 4, 2) := by decide +kernel
theorem dX12_same_141 : decode cX12_same 141 = .ok (.iadd, 1) := by decide +kernel
theorem dX12_same_142 : decode cX12_same 142 = .ok (.iaload, 1) := by decide +kernel
theorem dX12_same_143 : decode cX12_same 143 = .ok (.istore 7, 2) := by decide +kernel
theorem dX12_same_145 : decode cX12_same 145 = .ok (.iload 7, 2) := by decide +kernel
theorem dX12_same_147 : decode cX12_same 147 = .ok (.iconst 3, 1) := by decide +kernel
theorem dX12_same_148 : decode cX12_same 148 = .ok (.if_icmp .eq 9, 3) := by decide +kernel
theorem dX12_same_151 : decode cX12_same 151 = .ok (.iload 7, 2) := by decide +kernel
theorem dX12_same_153 : decode cX12_same 153 = .ok (.iconst 5, 1) := by decide +kernel
theorem dX12_same_154 : decode cX12_same 154 = .ok (.if_icmp .ne 28, 3) := by decide +kernel
theorem dX12_same_157 : decode cX12_same 157 = .ok (.aload_n 0, 1) := by decide +kernel
theorem dX12_same_158 : decode cX12_same 158 = .ok (.getfield 297, 3) := by decide +kernel
theorem dX12_same_161 : decode cX12_same 161 = .ok (.iload 5, 2) := by decide +kernel
theorem dX12_same_163 : decode cX12_same 163 = .ok (.iaload, 1) := by decide +kernel
theorem dX12_same_164 : decode cX12_same 164 = .ok (.aload_n 0, 1) := by decide +kernel
theorem dX12_same_165 : decode cX12_same 165 = .ok (.getfield 297, 3) := by decide +kernel
theorem dX12_same_168 : decode cX12_same 168 = .ok (.iload 6, 2) := by decide +kernel
theorem dX12_same_170 : decode cX12_same 170 = .ok (.iaload, 1) := by decide +kernel
theorem dX12_same_171 : decode cX12_same 171 = .ok (.if_icmp .ne 7, 3) := by decide +kernel
theorem dX12_same_174 : decode cX12_same 174 = .ok (.iconst 1, 1) := by decide +kernel
theorem dX12_same_175 : decode cX12_same 175 = .ok (.goto 29, 3) := by decide +kernel
theorem dX12_same_178 : decode cX12_same 178 = .ok (.iconst 0, 1) := by decide +kernel
theorem dX12_same_179 : decode cX12_same 179 = .ok (.goto 25, 3) := by decide +kernel
theorem dX12_same_182 : decode cX12_same 182 = .ok (.aload_n 0, 1) := by decide +kernel
theorem dX12_same_183 : decode cX12_same 183 = .ok (.getfield 294, 3) := by decide +kernel
theorem dX12_same_186 : decode cX12_same 186 = .ok (.iload 5, 2) := by decide +kernel
theorem dX12_same_188 : decode cX12_same 188 = .ok (.iaload, 1) := by decide +kernel
theorem dX12_same_189 : decode cX12_same 189 = .ok (.aload_n 0, 1) := by decide +kernel
theorem dX12_same_190 : decode cX12_same 190 = .ok (.getfield 294, 3) := by decide +kernel
theorem dX12_same_193 : decode cX12_same 193 = .ok (.iload 6, 2) := by decide +kernel
theorem dX12_same_195 : decode cX12_same 195 = .ok (.iaload, 1) := by decide +kernel
theorem dX12_same_196 : decode cX12_same 196 = .ok (.if_icmp .ne 7, 3) := by decide +kernel
theorem dX12_same_199 : decode cX12_same 199 = .ok (.iconst 1, 1) := by decide +kernel
theorem dX12_same_200 : decode cX12_same 200 = .ok (.goto 4, 3) := by decide +kernel
theorem dX12_same_203 : decode cX12_same 203 = .ok (.iconst 0, 1) := by decide +kernel
theorem dX12_same_204 : decode cX12_same 204 = .ok (.istore_n 3, 1) := by decide +kernel
theorem dX12_same_205 : decode cX12_same 205 = .ok (.iconst 0, 1) := by decide +kernel
theorem dX12_same_206 : decode cX12_same 206 = .ok (.istore 8, 2) := by decide +kernel
theorem dX12_same_208 : decode cX12_same 208 = .ok (.iload_n 3, 1) := by decide +kernel
theorem dX12_same_209 : decode cX12_same 209 = .ok (.ifCond .eq 111, 3) := by decide +kernel
theorem dX12_same_212 : decode cX12_same 212 = .ok (.iload 8, 2) := by decide +kernel
theorem dX12_same_214 : decode cX12_same 214 = .ok (.aload_n 0, 1) := by decide +kernel
theorem dX12_same_215 : decode cX12_same 215 = .ok (.getfield 297, 3) := by decide +kernel
theorem dX12_same_218 : decode cX12_same 218 = .ok (.iload 5, 2) := by decide +kernel
theorem dX12_same_220 : decode cX12_same 220 = .ok (.iaload, 1) := by decide +kernel
theorem dX12_same_221 : decode cX12_same 221 = .ok (.if_icmp .ge 99, 3) := by decide +kernel
theorem dX12_same_224 : decode cX12_same 224 = .ok (.iload 7, 2) := by decide +kernel
theorem dX12_same_226 : decode cX12_same 226 = .ok (.iconst 3, 1) := by decide +kernel
theorem dX12_same_227 : decode cX12_same 227 = .ok (.if_icmp .eq 9, 3) := by decide +kernel
theorem dX12_same_230 : decode cX12_same 230 = .ok (.iload 7, 2) := by decide +kernel
theorem dX12_same_232 : decode cX12_same 232 = .ok (.iconst 5, 1) := by decide +kernel
theorem dX12_same_233 : decode cX12_same 233 = .ok (.if_icmp .ne 87, 3) := by decide +kernel
theorem dX12_same_236 : decode cX12_same 236 = .ok (.iload 7, 2) := by decide +kernel
theorem dX12_same_238 : decode cX12_same 238 = .ok (.iconst 3, 1) := by decide +kernel
theorem dX12_same_239 : decode cX12_same 239 = .ok (.if_icmp .ne 40, 3) := by decide +kernel
theorem dX12_same_242 : decode cX12_same 242 = .ok (.aload_n 0, 1) := by decide +kernel
theorem dX12_same_243 : decode cX12_same 243 = .ok (.getfield 301, 3) := by decide +kernel
theorem dX12_same_246 : decode cX12_same 246 = .ok (.bipush 60, 2) := by decide +kernel
theorem dX12_same_248 : decode cX12_same 248 = .ok (.iload 5, 2) := by decide +kernel
theorem dX12_same_250 : decode cX12_same 250 = .ok (.imul, 1) := by decide +kernel
theorem dX12_same_251 : decode cX12_same 251 = .ok (.iload 8, 2) := by decide +kernel
theorem dX12_same_253 : decode cX12_same 253 = .ok (.iadd, 1) := by decide +kernel
theorem dX12_same_254 : decode cX12_same 254 = .ok (.iaload, 1) := by decide +kernel
theorem dX12_same_255 : decode cX12_same 255 = .ok (.aload_n 0, 1) := by decide +kernel
theorem dX12_same_256 : decode cX12_same 256 = .ok (.getfield 301, 3) := by decide +kernel
theorem dX12_same_259 : decode cX12_same 259 = .ok (.bipush 60, 2) := by decide +kernel
theorem dX12_same_261 : decode cX12_same 261 = .ok (.iload 6, 2) := by decide +kernel
theorem dX12_same_263 : decode cX12_same 263 = .ok (.imul, 1) := by decide +kernel
theorem dX12_same_264 : decode cX12_same 264 = .ok (.iload 8, 2) := by decide +kernel
theorem dX12_same_266 : decode cX12_same 266 = .ok (.iadd, 1) := by decide +kernel
theorem dX12_same_267 : decode cX12_same 267 = .ok (.iaload, 1) := by decide +kernel
theorem dX12_same_268 : decode cX12_same 268 = .ok (.if_icmp .ne 7, 3) := by decide +kernel
theorem dX12_same_271 : decode cX12_same 271 = .ok (.iconst 1, 1) := by decide +kernel
theorem dX12_same_272 : decode cX12_same 272 = .ok (.goto 41, 3) := by decide +kernel
theorem dX12_same_275 : decode cX12_same 275 = .ok (.iconst 0, 1) := by decide +kernel
theorem dX12_same_276 : decode cX12_same 276 = .ok (.goto 37, 3) := by decide +kernel
theorem dX12_same_279 : decode cX12_same 279 = .ok (.aload_n 0, 1) := by decide +kernel
theorem dX12_same_280 : decode cX12_same 280 = .ok (.getfield 304, 3) := by decide +kernel
theorem dX12_same_283 : decode cX12_same 283 = .ok (.bipush 10, 2) := by decide +kernel
theorem dX12_same_285 : decode cX12_same 285 = .ok (.iload 5, 2) := by decide +kernel
theorem dX12_same_287 : decode cX12_same 287 = .ok (.imul, 1) := by decide +kernel
theorem dX12_same_288 : decode cX12_same 288 = .ok (.iload 8, 2) := by decide +kernel
theorem dX12_same_290 : decode cX12_same 290 = .ok (.iadd, 1) := by decide +kernel
theorem dX12_same_291 : decode cX12_same 291 = .ok (.iaload, 1) := by decide +kernel
theorem dX12_same_292 : decode cX12_same 292 = .ok (.aload_n 0, 1) := by decide +kernel
theorem dX12_same_293 : decode cX12_same 293 = .ok (.getfield 304, 3) := by decide +kernel
theorem dX12_same_296 : decode cX12_same 296 = .ok (.bipush 10, 2) := by decide +kernel
theorem dX12_same_298 : decode cX12_same 298 = .ok (.iload 6, 2) := by decide +kernel
theorem dX12_same_300 : decode cX12_same 300 = .ok (.imul, 1) := by decide +kernel
theorem dX12_same_301 : decode cX12_same 301 = .ok (.iload 8, 2) := by decide +kernel
theorem dX12_same_303 : decode cX12_same 303 = .ok (.iadd, 1) := by decide +kernel
theorem dX12_same_304 : decode cX12_same 304 = .ok (.iaload, 1) := by decide +kernel
theorem dX12_same_305 : decode cX12_same 305 = .ok (.if_icmp .ne 7, 3) := by decide +kernel
theorem dX12_same_308 : decode cX12_same 308 = .ok (.iconst 1, 1) := by decide +kernel
theorem dX12_same_309 : decode cX12_same 309 = .ok (.goto 4, 3) := by decide +kernel
theorem dX12_same_312 : decode cX12_same 312 = .ok (.iconst 0, 1) := by decide +kernel
theorem dX12_same_313 : decode cX12_same 313 = .ok (.istore_n 3, 1) := by decide +kernel
theorem dX12_same_314 : decode cX12_same 314 = .ok (.iinc 8 1, 3) := by decide +kernel
theorem dX12_same_317 : decode cX12_same 317 = .ok (.goto (-109), 3) := by decide +kernel
theorem dX12_same_320 : decode cX12_same 320 = .ok (.iinc 4 1, 3) := by decide +kernel
theorem dX12_same_323 : decode cX12_same 323 = .ok (.goto (-248), 3) := by decide +kernel
theorem dX12_same_326 : decode cX12_same 326 = .ok (.iconst 0, 1) := by decide +kernel
theorem dX12_same_327 : decode cX12_same 327 = .ok (.istore 4, 2) := by decide +kernel
theorem dX12_same_329 : decode cX12_same 329 = .ok (.iload 4, 2) := by decide +kernel
theorem dX12_same_331 : decode cX12_same 331 = .ok (.aload_n 0, 1) := by decide +kernel
theorem dX12_same_332 : decode cX12_same 332 = .ok (.getfield 288, 3) := by decide +kernel
theorem dX12_same_335 : decode cX12_same 335 = .ok (.iload_n 1, 1) := by decide +kernel
theorem dX12_same_336 : decode cX12_same 336 = .ok (.iaload, 1) := by decide +kernel
theorem dX12_same_337 : decode cX12_same 337 = .ok (.if_icmp .ge 114, 3) := by decide +kernel
theorem dX12_same_340 : decode cX12_same 340 = .ok (.iload_n 3, 1) := by decide +kernel
theorem dX12_same_341 : decode cX12_same 341 = .ok (.ifCond .eq 110, 3) := by decide +kernel
theorem dX12_same_344 : decode cX12_same 344 = .ok (.bipush 60, 2) := by decide +kernel
theorem dX12_same_346 : decode cX12_same 346 = .ok (.iload_n 1, 1) := by decide +kernel
theorem dX12_same_347 : decode cX12_same 347 = .ok (.imul, 1) := by decide +kernel
theorem dX12_same_348 : decode cX12_same 348 = .ok (.iload 4, 2) := by decide +kernel
theorem dX12_same_350 : decode cX12_same 350 = .ok (.iadd, 1) := by decide +kernel
theorem dX12_same_351 : decode cX12_same 351 = .ok (.istore 5, 2) := by decide +kernel
theorem dX12_same_353 : decode cX12_same 353 = .ok (.bipush 60, 2) := by decide +kernel
theorem dX12_same_355 : decode cX12_same 355 = .ok (.iload_n 2, 1) := by decide +kernel
theorem dX12_same_356 : decode cX12_same 356 = .ok (.imul, 1) := by decide +kernel
theorem dX12_same_357 : decode cX12_same 357 = .ok (.iload 4, 2) := by decide +kernel
theorem dX12_same_359 : decode cX12_same 359 = .ok (.iadd, 1) := by decide +kernel
theorem dX12_same_360 : decode cX12_same 360 = .ok (.istore 6, 2) := by decide +kernel
theorem dX12_same_362 : decode cX12_same 362 = .ok (.aload_n 0, 1) := by decide +kernel
theorem dX12_same_363 : decode cX12_same 363 = .ok (.getfield 307, 3) := by decide +kernel
theorem dX12_same_366 : decode cX12_same 366 = .ok (.iload 5, 2) := by decide +kernel
theorem dX12_same_368 : decode cX12_same 368 = .ok (.iaload, 1) := by decide +kernel
theorem dX12_same_369 : decode cX12_same 369 = .ok (.aload_n 0, 1) := by decide +kernel
theorem dX12_same_370 : decode cX12_same 370 = .ok (.getfield 307, 3) := by decide +kernel
theorem dX12_same_373 : decode cX12_same 373 = .ok (.iload 6, 2) := by decide +kernel
theorem dX12_same_375 : decode cX12_same 375 = .ok (.iaload, 1) := by decide +kernel
theorem dX12_same_376 : decode cX12_same 376 = .ok (.if_icmp .ne 7, 3) := by decide +kernel
theorem dX12_same_379 : decode cX12_same 379 = .ok (.iconst 1, 1) := by decide +kernel
theorem dX12_same_380 : decode cX12_same 380 = .ok (.goto 4, 3) := by decide +kernel
theorem dX12_same_383 : decode cX12_same 383 = .ok (.iconst 0, 1) := by decide +kernel
theorem dX12_same_384 : decode cX12_same 384 = .ok (.istore_n 3, 1) := by decide +kernel
theorem dX12_same_385 : decode cX12_same 385 = .ok (.iconst 0, 1) := by decide +kernel
theorem dX12_same_386 : decode cX12_same 386 = .ok (.istore 7, 2) := by decide +kernel
theorem dX12_same_388 : decode cX12_same 388 = .ok (.iload_n 3, 1) := by decide +kernel
theorem dX12_same_389 : decode cX12_same 389 = .ok (.ifCond .eq 56, 3) := by decide +kernel
theorem dX12_same_392 : decode cX12_same 392 = .ok (.iload 7, 2) := by decide +kernel
theorem dX12_same_394 : decode cX12_same 394 = .ok (.aload_n 0, 1) := by decide +kernel
theorem dX12_same_395 : decode cX12_same 395 = .ok (.getfield 307, 3) := by decide +kernel
theorem dX12_same_398 : decode cX12_same 398 = .ok (.iload 5, 2) := by decide +kernel
theorem dX12_same_400 : decode cX12_same 400 = .ok (.iaload, 1) := by decide +kernel
theorem dX12_same_401 : decode cX12_same 401 = .ok (.if_icmp .ge 44, 3) := by decide +kernel
theorem dX12_same_404 : decode cX12_same 404 = .ok (.aload_n 0, 1) := by decide +kernel
theorem dX12_same_405 : decode cX12_same 405 = .ok (.getfield 310, 3) := by decide +kernel
theorem dX12_same_408 : decode cX12_same 408 = .ok (.bipush 40, 2) := by decide +kernel
theorem dX12_same_410 : decode cX12_same 410 = .ok (.iload 5, 2) := by decide +kernel
theorem dX12_same_412 : decode cX12_same 412 = .ok (.imul, 1) := by decide +kernel
theorem dX12_same_413 : decode cX12_same 413 = .ok (.iload 7, 2) := by decide +kernel
theorem dX12_same_415 : decode cX12_same 415 = .ok (.iadd, 1) := by decide +kernel
theorem dX12_same_416 : decode cX12_same 416 = .ok (.iaload, 1) := by decide +kernel
theorem dX12_same_417 : decode cX12_same 417 = .ok (.aload_n 0, 1) := by decide +kernel
theorem dX12_same_418 : decode cX12_same 418 = .ok (.getfield 310, 3) := by decide +kernel
theorem dX12_same_421 : decode cX12_same 421 = .ok (.bipush 40, 2) := by decide +kernel
theorem dX12_same_423 : decode cX12_same 423 = .ok (.iload 6, 2) := by decide +kernel
theorem dX12_same_425 : decode cX12_same 425 = .ok (.imul, 1) := by decide +kernel
theorem dX12_same_426 : decode cX12_same 426 = .ok (.iload 7, 2) := by decide +kernel
theorem dX12_same_428 : decode cX12_same 428 = .ok (.iadd, 1) := by decide +kernel
theorem dX12_same_429 : decode cX12_same 429 = .ok (.iaload, 1) := by decide +kernel
theorem dX12_same_430 : decode cX12_same 430 = .ok (.if_icmp .ne 7, 3) := by decide +kernel
theorem dX12_same_433 : decode cX12_same 433 = .ok (.iconst 1, 1) := by decide +kernel
theorem dX12_same_434 : decode cX12_same 434 = .ok (.goto 4, 3) := by decide +kernel
theorem dX12_same_437 : decode cX12_same 437 = .ok (.iconst 0, 1) := by decide +kernel
theorem dX12_same_438 : decode cX12_same 438 = .ok (.istore_n 3, 1) := by decide +kernel
theorem dX12_same_439 : decode cX12_same 439 = .ok (.iinc 7 1, 3) := by decide +kernel
theorem dX12_same_442 : decode cX12_same 442 = .ok (.goto (-54), 3) := by decide +kernel
theorem dX12_same_445 : decode cX12_same 445 = .ok (.iinc 4 1, 3) := by decide +kernel
theorem dX12_same_448 : decode cX12_same 448 = .ok (.goto (-119), 3) := by decide +kernel
theorem dX12_same_451 : decode cX12_same 451 = .ok (.iload_n 3, 1) := by decide +kernel
theorem dX12_same_452 : decode cX12_same 452 = .ok (.ireturn, 1) := by decide +kernel
theorem dX12_show_0 : decode cX12_show 0 = .ok (.aload_n 0, 1) := by decide +kernel
theorem dX12_show_1 : decode cX12_show 1 = .ok (.iconst 0, 1) := by decide +kernel
theorem dX12_show_2 : decode cX12_show 2 = .ok (.putfield 1, 3) := by decide +kernel
theorem dX12_show_5 : decode cX12_show 5 = .ok (.aload_n 0, 1) := by decide +kernel
theorem dX12_show_6 : decode cX12_show 6 = .ok (.iload_n 1, 1) := by decide +kernel
theorem dX12_show_7 : decode cX12_show 7 = .ok (.ifCond .eq 8, 3) := by decide +kernel
theorem dX12_show_10 : decode cX12_show 10 = .ok (.iload_n 1, 1) := by decide +kernel
theorem dX12_show_11 : decode cX12_show 11 = .ok (.iconst 1, 1) := by decide +kernel
theorem dX12_show_12 : decode cX12_show 12 = .ok (.if_icmp .ne 7, 3) := by decide +kernel
theorem dX12_show_15 : decode cX12_show 15 = .ok (.iconst 1, 1) := by decide +kernel
theorem dX12_show_16 : decode cX12_show 16 = .ok (.goto 4, 3) := by decide +kernel
theorem dX12_show_19 : decode cX12_show 19 = .ok (.iconst 0, 1) := by decide +kernel
theorem dX12_show_20 : decode cX12_show 20 = .ok (.iconst 1, 1) := by decide +kernel
theorem dX12_show_21 : decode cX12_show 21 = .ok (.invokevirtual 414, 3) := by decide +kernel
theorem dX12_show_24 : decode cX12_show 24 = .ok (.ifCond .ne 5, 3) := by decide +kernel
theorem dX12_show_27 : decode cX12_show 27 = .ok (.iconst 0, 1) := by decide +kernel
theorem dX12_show_28 : decode cX12_show 28 = .ok (.ireturn, 1) := by decide +kernel
theorem dX12_show_29 : decode cX12_show 29 = .ok (.iload_n 2, 1) := by decide +kernel
theorem dX12_show_30 : decode cX12_show 30 = .ok (.ifCond .lt 22, 3) := by decide +kernel
theorem dX12_show_33 : decode cX12_show 33 = .ok (.iload_n 2, 1) := by decide +kernel
theorem dX12_show_34 : decode cX12_show 34 = .ok (.iload_n 1, 1) := by decide +kernel
theorem dX12_show_35 : decode cX12_show 35 = .ok (.ifCond .ne 10, 3) := by decide +kernel
theorem dX12_show_38 : decode cX12_show 38 = .ok (.aload_n 0, 1) := by decide +kernel
theorem dX12_show_39 : decode cX12_show 39 = .ok (.getfield 656, 3) := by decide +kernel
theorem dX12_show_42 : decode cX12_show 42 = .ok (.goto 7, 3) := by decide +kernel
theorem dX12_show_45 : decode cX12_show 45 = .ok (.aload_n 0, 1) := by decide +kernel
theorem dX12_show_46 : decode cX12_show 46 = .ok (.getfield 544, 3) := by decide +kernel
theorem dX12_show_49 : decode cX12_show 49 = .ok (.if_icmp .lt 5, 3) := by decide +kernel
theorem dX12_show_52 : decode cX12_show 52 = .ok (.iconst (-1), 1) := by decide +kernel
theorem dX12_show_53 : decode cX12_show 53 = .ok (.ireturn, 1) := by decide +kernel
theorem dX12_show_54 : decode cX12_show 54 = .ok (.aload_n 0, 1) := by decide +kernel
theorem dX12_show_55 : decode cX12_show 55 = .ok (.iconst 0, 1) := by decide +kernel
theorem dX12_show_56 : decode cX12_show 56 = .ok (.putfield 689, 3) := by decide +kernel
theorem dX12_show_59 : decode cX12_show 59 = .ok (.iload_n 1, 1) := by decide +kernel
theorem dX12_show_60 : decode cX12_show 60 = .ok (.ifCond .ne 24, 3) := by decide +kernel
theorem dX12_show_63 : decode cX12_show 63 = .ok (.aload_n 0, 1) := by decide +kernel
theorem dX12_show_64 : decode cX12_show 64 = .ok (.getfield 329, 3) := by decide +kernel
theorem dX12_show_67 : decode cX12_show 67 = .ok (.iload_n 2, 1) := by decide +kernel
theorem dX12_show_68 : decode cX12_show 68 = .ok (.baload, 1) := by decide +kernel
theorem dX12_show_69 : decode cX12_show 69 = .ok (.ifCond .eq 15, 3) := by decide +kernel
theorem dX12_show_72 : decode cX12_show 72 = .ok (.aload_n 0, 1) := by decide +kernel
theorem dX12_show_73 : decode cX12_show 73 = .ok (.bipush 45, 2) := by decide +kernel
theorem dX12_show_75 : decode cX12_show 75 = .ok (.invokevirtual 692, 3) := by decide +kernel
theorem dX12_show_78 : decode cX12_show 78 = .ok (.aload_n 0, 1) := by decide +kernel
theorem dX12_show_79 : decode cX12_show 79 = .ok (.bipush 45, 2) := by decide +kernel
theorem dX12_show_81 : decode cX12_show 81 = .ok (.invokevirtual 692, 3) := by decide +kernel
theorem dX12_show_84 : decode cX12_show 84 = .ok (.aload_n 0, 1) := by decide +kernel
theorem dX12_show_85 : decode cX12_show 85 = .ok (.iload_n 1, 1) := by decide +kernel
theorem dX12_show_86 : decode cX12_show 86 = .ok (.ifCond .ne 12, 3) := by decide +kernel
theorem dX12_show_89 : decode cX12_show 89 = .ok (.aload_n 0, 1) := by decide +kernel
theorem dX12_show_90 : decode cX12_show 90 = .ok (.getfield 323, 3) := by decide +kernel
theorem dX12_show_93 : decode cX12_show 93 = .ok (.iload_n 2, 1) := by decide +kernel
theorem dX12_show_94 : decode cX12_show 94 = .ok (.laload, 1) := by decide +kernel
theorem dX12_show_95 : decode cX12_show 95 = .ok (.goto 9, 3) := by decide +kernel
theorem dX12_show_98 : decode cX12_show 98 = .ok (.aload_n 0, 1) := by decide +kernel
theorem dX12_show_99 : decode cX12_show 99 = .ok (.getfield 326, 3) := by decide +kernel
theorem dX12_show_102 : decode cX12_show 102 = .ok (.iload_n 2, 1) := by decide +kernel
theorem dX12_show_103 : decode cX12_show 103 = .ok (.laload, 1) := by decide +kernel
theorem dX12_show_104 : decode cX12_show 104 = .ok (.invokevirtual 703, 3) := by decide +kernel
theorem dX12_show_107 : decode cX12_show 107 = .ok (.aload_n 0, 1) := by decide +kernel
theorem dX12_show_108 : decode cX12_show 108 = .ok (.getfield 689, 3) := by decide +kernel
theorem dX12_show_111 : decode cX12_show 111 = .ok (.ireturn, 1) := by decide +kernel
theorem dX12_showWords_0 : decode cX12_showWords 0 = .ok (.aload_n 0, 1) := by decide +kernel
theorem dX12_showWords_1 : decode cX12_showWords 1 = .ok (.aload_n 0, 1) := by decide +kernel
theorem dX12_showWords_2 : decode cX12_showWords 2 = .ok (.getfield 522, 3) := by decide +kernel
theorem dX12_showWords_5 : decode cX12_showWords 5 = .ok (.putfield 547, 3) := by decide +kernel
theorem dX12_showWords_8 : decode cX12_showWords 8 = .ok (.aload_n 0, 1) := by decide +kernel
theorem dX12_showWords_9 : decode cX12_showWords 9 = .ok (.aload_n 0, 1) := by decide +kernel
theorem dX12_showWords_10 : decode cX12_showWords 10 = .ok (.getfield 522, 3) := by decide +kernel
theorem dX12_showWords_13 : decode cX12_showWords 13 = .ok (.putfield 541, 3) := by decide +kernel
theorem dX12_showWords_16 : decode cX12_showWords 16 = .ok (.iconst 0, 1) := by decide +kernel
theorem dX12_showWords_17 : decode cX12_showWords 17 = .ok (.istore_n 1, 1) := by decide +kernel
theorem dX12_showWords_18 : decode cX12_showWords 18 = .ok (.iload_n 1, 1) := by decide +kernel
theorem dX12_showWords_19 : decode cX12_showWords 19 = .ok (.aload_n 0, 1) := by decide +kernel
theorem dX12_showWords_20 : decode cX12_showWords 20 = .ok (.getfield 522, 3) := by decide +kernel
theorem dX12_showWords_23 : decode cX12_showWords 23 = .ok (.if_icmp .ge 61, 3) := by decide +kernel
theorem dX12_showWords_26 : decode cX12_showWords 26 = .ok (.aload_n 0, 1) := by decide +kernel
theorem dX12_showWords_27 : decode cX12_showWords 27 = .ok (.getfield 240, 3) := by decide +kernel
theorem dX12_showWords_30 : decode cX12_showWords 30 = .ok (.iload_n 1, 1) := by decide +kernel
theorem dX12_showWords_31 : decode cX12_showWords 31 = .ok (.aload_n 0, 1) := by decide +kernel
theorem dX12_showWords_32 : decode cX12_showWords 32 = .ok (.getfield 234, 3) := by decide +kernel
theorem dX12_showWords_35 : decode cX12_showWords 35 = .ok (.iload_n 1, 1) := by decide +kernel
theorem dX12_showWords_36 : decode cX12_showWords 36 = .ok (.iaload, 1) := by decide +kernel
theorem dX12_showWords_37 : decode cX12_showWords 37 = .ok (.iastore, 1) := by decide +kernel
theorem dX12_showWords_38 : decode cX12_showWords 38 = .ok (.iconst 0, 1) := by decide +kernel
theorem dX12_showWords_39 : decode cX12_showWords 39 = .ok (.istore_n 2, 1) := by decide +kernel
theorem dX12_showWords_40 : decode cX12_showWords 40 = .ok (.iload_n 2, 1) := by decide +kernel
theorem dX12_showWords_41 : decode cX12_showWords 41 = .ok (.aload_n 0, 1) := by decide +kernel
theorem dX12_showWords_42 : decode cX12_showWords 42 = .ok (.getfield 234, 3) := by decide +kernel
theorem dX12_showWords_45 : decode cX12_showWords 45 = .ok (.iload_n 1, 1) := by decide +kernel
theorem dX12_showWords_46 : decode cX12_showWords 46 = .ok (.iaload, 1) := by decide +kernel
theorem dX12_showWords_47 : decode cX12_showWords 47 = .ok (.if_icmp .ge 31, 3) := by decide +kernel
theorem dX12_showWords_50 : decode cX12_showWords 50 = .ok (.aload_n 0, 1) := by decide +kernel
theorem dX12_showWords_51 : decode cX12_showWords 51 = .ok (.getfield 237, 3) := by decide +kernel
theorem dX12_showWords_54 : decode cX12_showWords 54 = .ok (.bipush 40, 2) := by decide +kernel
theorem dX12_showWords_56 : decode cX12_showWords 56 = .ok (.iload_n 1, 1) := by decide +kernel
theorem dX12_showWords_57 : decode cX12_showWords 57 = .ok (.imul, 1) := by decide +kernel
theorem dX12_showWords_58 : decode cX12_showWords 58 = .ok (.iload_n 2, 1) := by decide +kernel
theorem dX12_showWords_59 : decode cX12_showWords 59 = .ok (.iadd, 1) := by decide +kernel
theorem dX12_showWords_60 : decode cX12_showWords 60 = .ok (.aload_n 0, 1) := by decide +kernel
theorem dX12_showWords_61 : decode cX12_showWords 61 = .ok (.getfield 231, 3) := by decide +kernel
theorem dX12_showWords_64 : decode cX12_showWords 64 = .ok (.bipush 40, 2) := by decide +kernel
theorem dX12_showWords_66 : decode cX12_showWords 66 = .ok (.iload_n 1, 1) := by decide +kernel
theorem dX12_showWords_67 : decode cX12_showWords 67 = .ok (.imul, 1) := by decide +kernel
theorem dX12_showWords_68 : decode cX12_showWords 68 = .ok (.iload_n 2, 1) := by decide +kernel
theorem dX12_showWords_69 : decode cX12_showWords 69 = .ok (.iadd, 1) := by decide +kernel
theorem dX12_showWords_70 : decode cX12_showWords 70 = .ok (.iaload, 1) := by decide +kernel
theorem dX12_showWords_71 : decode cX12_showWords 71 = .ok (.iastore, 1) := by decide +kernel
theorem dX12_showWords_72 : decode cX12_showWords 72 = .ok (.iinc 2 1, 3) := by decide +kernel
theorem dX12_showWords_75 : decode cX12_showWords 75 = .ok (.goto (-35), 3) := by decide +kernel
theorem dX12_showWords_78 : decode cX12_showWords 78 = .ok (.iinc 1 1, 3) := by decide +kernel
theorem dX12_showWords_81 : decode cX12_showWords 81 = .ok (.goto (-63), 3) := by decide +kernel
theorem dX12_showWords_84 : decode cX12_showWords 84 = .ok (.return_, 1) := by decide +kernel
theorem dX12_signOf_0 : decode cX12_signOf 0 = .ok (.iload_n 0, 1) := by decide +kernel
theorem dX12_signOf_1 : decode cX12_signOf 1 = .ok (.bipush 97, 2) := by decide +kernel
theorem dX12_signOf_3 : decode cX12_signOf 3 = .ok (.if_icmp .lt 16, 3) := by decide +kernel
theorem dX12_signOf_6 : decode cX12_signOf 6 = .ok (.iload_n 0, 1) := by decide +kernel
theorem dX12_signOf_7 : decode cX12_signOf 7 = .ok (.bipush 122, 2) := by decide +kernel
theorem dX12_signOf_9 : decode cX12_signOf 9 = .ok (.if_icmp .gt 10, 3) := by decide +kernel
theorem dX12_signOf_12 : decode cX12_signOf 12 = .ok (.iload_n 0, 1) := by decide +kernel
theorem dX12_signOf_13 : decode cX12_signOf 13 = .ok (.bipush 96, 2) := by decide +kernel
theorem dX12_signOf_15 : decode cX12_signOf 15 = .ok (.isub, 1) := by decide +kernel
theorem dX12_signOf_16 : decode cX12_signOf 16 = .ok (.goto 34, 3) := by decide +kernel
theorem dX12_signOf_19 : decode cX12_signOf 19 = .ok (.iload_n 0, 1) := by decide +kernel
theorem dX12_signOf_20 : decode cX12_signOf 20 = .ok (.bipush 48, 2) := by decide +kernel
theorem dX12_signOf_22 : decode cX12_signOf 22 = .ok (.if_icmp .lt 16, 3) := by decide +kernel
theorem dX12_signOf_25 : decode cX12_signOf 25 = .ok (.iload_n 0, 1) := by decide +kernel
theorem dX12_signOf_26 : decode cX12_signOf 26 = .ok (.bipush 57, 2) := by decide +kernel
theorem dX12_signOf_28 : decode cX12_signOf 28 = .ok (.if_icmp .gt 10, 3) := by decide +kernel
theorem dX12_signOf_31 : decode cX12_signOf 31 = .ok (.iload_n 0, 1) := by decide +kernel
theorem dX12_signOf_32 : decode cX12_signOf 32 = .ok (.bipush 21, 2) := by decide +kernel
theorem dX12_signOf_34 : decode cX12_signOf 34 = .ok (.isub, 1) := by decide +kernel
theorem dX12_signOf_35 : decode cX12_signOf 35 = .ok (.goto 15, 3) := by decide +kernel
theorem dX12_signOf_38 : decode cX12_signOf 38 = .ok (.iload_n 0, 1) := by decide +kernel
theorem dX12_signOf_39 : decode cX12_signOf 39 = .ok (.bipush 45, 2) := by decide +kernel
theorem dX12_signOf_41 : decode cX12_signOf 41 = .ok (.if_icmp .ne 8, 3) := by decide +kernel
theorem dX12_signOf_44 : decode cX12_signOf 44 = .ok (.bipush 37, 2) := by decide +kernel
theorem dX12_signOf_46 : decode cX12_signOf 46 = .ok (.goto 4, 3) := by decide +kernel
theorem dX12_signOf_49 : decode cX12_signOf 49 = .ok (.iconst 0, 1) := by decide +kernel
theorem dX12_signOf_50 : decode cX12_signOf 50 = .ok (.ireturn, 1) := by decide +kernel
theorem dX12_source_0 : decode cX12_source 0 = .ok (.aload_n 0, 1) := by decide +kernel
theorem dX12_source_1 : decode cX12_source 1 = .ok (.iconst 0, 1) := by decide +kernel
theorem dX12_source_2 : decode cX12_source 2 = .ok (.putfield 1, 3) := by decide +kernel
theorem dX12_source_5 : decode cX12_source 5 = .ok (.aload_n 0, 1) := by decide +kernel
theorem dX12_source_6 : decode cX12_source 6 = .ok (.iload_n 1, 1) := by decide +kernel
theorem dX12_source_7 : decode cX12_source 7 = .ok (.invokevirtual 683, 3) := by decide +kernel
theorem dX12_source_10 : decode cX12_source 10 = .ok (.ifCond .ne 5, 3) := by decide +kernel
theorem dX12_source_13 : decode cX12_source 13 = .ok (.iconst 0, 1) := by decide +kernel
theorem dX12_source_14 : decode cX12_source 14 = .ok (.ireturn, 1) := by decide +kernel
theorem dX12_source_15 : decode cX12_source 15 = .ok (.aload_n 0, 1) := by decide +kernel
theorem dX12_source_16 : decode cX12_source 16 = .ok (.iload_n 1, 1) := by decide +kernel
theorem dX12_source_17 : decode cX12_source 17 = .ok (.iload_n 2, 1) := by decide +kernel
theorem dX12_source_18 : decode cX12_source 18 = .ok (.invokevirtual 686, 3) := by decide +kernel
theorem dX12_source_21 : decode cX12_source 21 = .ok (.ifCond .eq 17, 3) := by decide +kernel
theorem dX12_source_24 : decode cX12_source 24 = .ok (.aload_n 0, 1) := by decide +kernel
theorem dX12_source_25 : decode cX12_source 25 = .ok (.getfield 291, 3) := by decide +kernel
theorem dX12_source_28 : decode cX12_source 28 = .ok (.bipush 40, 2) := by decide +kernel
theorem dX12_source_30 : decode cX12_source 30 = .ok (.iload_n 1, 1) := by decide +kernel
theorem dX12_source_31 : decode cX12_source 31 = .ok (.imul, 1) := by decide +kernel
theorem dX12_source_32 : decode cX12_source 32 = .ok (.iload_n 2, 1) := by decide +kernel
theorem dX12_source_33 : decode cX12_source 33 = .ok (.iadd, 1) := by decide +kernel
theorem dX12_source_34 : decode cX12_source 34 = .ok (.iaload, 1) := by decide +kernel
theorem dX12_source_35 : decode cX12_source 35 = .ok (.goto 4, 3) := by decide +kernel
theorem dX12_source_38 : decode cX12_source 38 = .ok (.iconst (-1), 1) := by decide +kernel
theorem dX12_source_39 : decode cX12_source 39 = .ok (.ireturn, 1) := by decide +kernel
theorem dX12_thrown_0 : decode cX12_thrown 0 = .ok (.aload_n 0, 1) := by decide +kernel
theorem dX12_thrown_1 : decode cX12_thrown 1 = .ok (.getfield 1, 3) := by decide +kernel
theorem dX12_thrown_4 : decode cX12_thrown 4 = .ok (.ireturn, 1) := by decide +kernel
theorem dX12_unblamed_0 : decode cX12_unblamed 0 = .ok (.aload_n 0, 1) := by decide +kernel
theorem dX12_unblamed_1 : decode cX12_unblamed 1 = .ok (.getfield 538, 3) := by decide +kernel
theorem dX12_unblamed_4 : decode cX12_unblamed 4 = .ok (.ifCond .ne 7, 3) := by decide +kernel
theorem dX12_unblamed_7 : decode cX12_unblamed 7 = .ok (.iconst 1, 1) := by decide +kernel
theorem dX12_unblamed_8 : decode cX12_unblamed 8 = .ok (.goto 4, 3) := by decide +kernel
theorem dX12_unblamed_11 : decode cX12_unblamed 11 = .ok (.iconst 0, 1) := by decide +kernel
theorem dX12_unblamed_12 : decode cX12_unblamed 12 = .ok (.ireturn, 1) := by decide +kernel
theorem dX12_value__0 : decode cX12_value_ 0 = .ok (.aload_n 0, 1) := by decide +kernel
theorem dX12_value__1 : decode cX12_value_ 1 = .ok (.iconst 0, 1) := by decide +kernel
theorem dX12_value__2 : decode cX12_value_ 2 = .ok (.putfield 1, 3) := by decide +kernel
theorem dX12_value__5 : decode cX12_value_ 5 = .ok (.aload_n 0, 1) := by decide +kernel
theorem dX12_value__6 : decode cX12_value_ 6 = .ok (.iload_n 1, 1) := by decide +kernel
theorem dX12_value__7 : decode cX12_value_ 7 = .ok (.invokevirtual 683, 3) := by decide +kernel
theorem dX12_value__10 : decode cX12_value_ 10 = .ok (.ifCond .eq 12, 3) := by decide +kernel
theorem dX12_value__13 : decode cX12_value_ 13 = .ok (.aload_n 0, 1) := by decide +kernel
theorem dX12_value__14 : decode cX12_value_ 14 = .ok (.iload_n 1, 1) := by decide +kernel
theorem dX12_value__15 : decode cX12_value_ 15 = .ok (.iload_n 2, 1) := by decide +kernel
theorem dX12_value__16 : decode cX12_value_ 16 = .ok (.invokevirtual 686, 3) := by decide +kernel
theorem dX12_value__19 : decode cX12_value_ 19 = .ok (.ifCond .ne 5, 3) := by decide +kernel
theorem dX12_value__22 : decode cX12_value_ 22 = .ok (.iconst 0, 1) := by decide +kernel
theorem dX12_value__23 : decode cX12_value_ 23 = .ok (.ireturn, 1) := by decide +kernel
theorem dX12_value__24 : decode cX12_value_ 24 = .ok (.aload_n 0, 1) := by decide +kernel
theorem dX12_value__25 : decode cX12_value_ 25 = .ok (.getfield 141, 3) := by decide +kernel
theorem dX12_value__28 : decode cX12_value_ 28 = .ok (.bipush 40, 2) := by decide +kernel
theorem dX12_value__30 : decode cX12_value_ 30 = .ok (.aload_n 0, 1) := by decide +kernel
theorem dX12_value__31 : decode cX12_value_ 31 = .ok (.getfield 282, 3) := by decide +kernel
theorem dX12_value__34 : decode cX12_value_ 34 = .ok (.iload_n 1, 1) := by decide +kernel
theorem dX12_value__35 : decode cX12_value_ 35 = .ok (.iaload, 1) := by decide +kernel
theorem dX12_value__36 : decode cX12_value_ 36 = .ok (.imul, 1) := by decide +kernel
theorem dX12_value__37 : decode cX12_value_ 37 = .ok (.iload_n 2, 1) := by decide +kernel
theorem dX12_value__38 : decode cX12_value_ 38 = .ok (.iadd, 1) := by decide +kernel
theorem dX12_value__39 : decode cX12_value_ 39 = .ok (.iaload, 1) := by decide +kernel
theorem dX12_value__40 : decode cX12_value_ 40 = .ok (.istore_n 3, 1) := by decide +kernel
theorem dX12_value__41 : decode cX12_value_ 41 = .ok (.iload_n 3, 1) := by decide +kernel
theorem dX12_value__42 : decode cX12_value_ 42 = .ok (.iconst 3, 1) := by decide +kernel
theorem dX12_value__43 : decode cX12_value_ 43 = .ok (.if_icmp .eq 8, 3) := by decide +kernel
theorem dX12_value__46 : decode cX12_value_ 46 = .ok (.iload_n 3, 1) := by decide +kernel
theorem dX12_value__47 : decode cX12_value_ 47 = .ok (.iconst 5, 1) := by decide +kernel
theorem dX12_value__48 : decode cX12_value_ 48 = .ok (.if_icmp .ne 17, 3) := by decide +kernel
theorem dX12_value__51 : decode cX12_value_ 51 = .ok (.aload_n 0, 1) := by decide +kernel
theorem dX12_value__52 : decode cX12_value_ 52 = .ok (.getfield 297, 3) := by decide +kernel
theorem dX12_value__55 : decode cX12_value_ 55 = .ok (.bipush 40, 2) := by decide +kernel
theorem dX12_value__57 : decode cX12_value_ 57 = .ok (.iload_n 1, 1) := by decide +kernel
theorem dX12_value__58 : decode cX12_value_ 58 = .ok (.imul, 1) := by decide +kernel
theorem dX12_value__59 : decode cX12_value_ 59 = .ok (.iload_n 2, 1) := by decide +kernel
theorem dX12_value__60 : decode cX12_value_ 60 = .ok (.iadd, 1) := by decide +kernel
theorem dX12_value__61 : decode cX12_value_ 61 = .ok (.iaload, 1) := by decide +kernel
theorem dX12_value__62 : decode cX12_value_ 62 = .ok (.goto 14, 3) := by decide +kernel
theorem dX12_value__65 : decode cX12_value_ 65 = .ok (.aload_n 0, 1) := by decide +kernel
theorem dX12_value__66 : decode cX12_value_ 66 = .ok (.getfield 294, 3) := by decide +kernel
theorem dX12_value__69 : decode cX12_value_ 69 = .ok (.bipush 40, 2) := by decide +kernel
theorem dX12_value__71 : decode cX12_value_ 71 = .ok (.iload_n 1, 1) := by decide +kernel
theorem dX12_value__72 : decode cX12_value_ 72 = .ok (.imul, 1) := by decide +kernel
theorem dX12_value__73 : decode cX12_value_ 73 = .ok (.iload_n 2, 1) := by decide +kernel
theorem dX12_value__74 : decode cX12_value_ 74 = .ok (.iadd, 1) := by decide +kernel
theorem dX12_value__75 : decode cX12_value_ 75 = .ok (.iaload, 1) := by decide +kernel
theorem dX12_value__76 : decode cX12_value_ 76 = .ok (.ireturn, 1) := by decide +kernel
theorem dX12_word_0 : decode cX12_word 0 = .ok (.aload_n 0, 1) := by decide +kernel
theorem dX12_word_1 : decode cX12_word 1 = .ok (.iconst 0, 1) := by decide +kernel
theorem dX12_word_2 : decode cX12_word 2 = .ok (.putfield 1, 3) := by decide +kernel
theorem dX12_word_5 : decode cX12_word 5 = .ok (.iload_n 1, 1) := by decide +kernel
theorem dX12_word_6 : decode cX12_word 6 = .ok (.ifCond .lt 39, 3) := by decide +kernel
theorem dX12_word_9 : decode cX12_word 9 = .ok (.iload_n 1, 1) := by decide +kernel
theorem dX12_word_10 : decode cX12_word 10 = .ok (.aload_n 0, 1) := by decide +kernel
theorem dX12_word_11 : decode cX12_word 11 = .ok (.getfield 547, 3) := by decide +kernel
theorem dX12_word_14 : decode cX12_word 14 = .ok (.if_icmp .ge 31, 3) := by decide +kernel
theorem dX12_word_17 : decode cX12_word 17 = .ok (.iload_n 2, 1) := by decide +kernel
theorem dX12_word_18 : decode cX12_word 18 = .ok (.ifCond .lt 27, 3) := by decide +kernel
theorem dX12_word_21 : decode cX12_word 21 = .ok (.iload_n 2, 1) := by decide +kernel
theorem dX12_word_22 : decode cX12_word 22 = .ok (.aload_n 0, 1) := by decide +kernel
theorem dX12_word_23 : decode cX12_word 23 = .ok (.getfield 240, 3) := by decide +kernel
theorem dX12_word_26 : decode cX12_word 26 = .ok (.iload_n 1, 1) := by decide +kernel
theorem dX12_word_27 : decode cX12_word 27 = .ok (.iaload, 1) := by decide +kernel
theorem dX12_word_28 : decode cX12_word 28 = .ok (.if_icmp .ge 17, 3) := by decide +kernel
theorem dX12_word_31 : decode cX12_word 31 = .ok (.aload_n 0, 1) := by decide +kernel
theorem dX12_word_32 : decode cX12_word 32 = .ok (.getfield 237, 3) := by decide +kernel
theorem dX12_word_35 : decode cX12_word 35 = .ok (.bipush 40, 2) := by decide +kernel
theorem dX12_word_37 : decode cX12_word 37 = .ok (.iload_n 1, 1) := by decide +kernel
theorem dX12_word_38 : decode cX12_word 38 = .ok (.imul, 1) := by decide +kernel
theorem dX12_word_39 : decode cX12_word 39 = .ok (.iload_n 2, 1) := by decide +kernel
theorem dX12_word_40 : decode cX12_word 40 = .ok (.iadd, 1) := by decide +kernel
theorem dX12_word_41 : decode cX12_word 41 = .ok (.iaload, 1) := by decide +kernel
theorem dX12_word_42 : decode cX12_word 42 = .ok (.goto 4, 3) := by decide +kernel
theorem dX12_word_45 : decode cX12_word 45 = .ok (.iconst (-1), 1) := by decide +kernel
theorem dX12_word_46 : decode cX12_word 46 = .ok (.ireturn, 1) := by decide +kernel
theorem dX12_wrong_0 : decode cX12_wrong 0 = .ok (.aload_n 0, 1) := by decide +kernel
theorem dX12_wrong_1 : decode cX12_wrong 1 = .ok (.getfield 394, 3) := by decide +kernel
theorem dX12_wrong_4 : decode cX12_wrong 4 = .ok (.ifCond .eq 4, 3) := by decide +kernel
theorem dX12_wrong_7 : decode cX12_wrong 7 = .ok (.return_, 1) := by decide +kernel
theorem dX12_wrong_8 : decode cX12_wrong 8 = .ok (.aload_n 0, 1) := by decide +kernel
theorem dX12_wrong_9 : decode cX12_wrong 9 = .ok (.iload_n 1, 1) := by decide +kernel
theorem dX12_wrong_10 : decode cX12_wrong 10 = .ok (.putfield 394, 3) := by decide +kernel
