theorem dX12_cut_190 : decode cX12_cut 190 = .ok (.if_icmp .ne 9, 3) := by decide +kernel
theorem dX12_cut_193 : decode cX12_cut 193 = .ok (.iconst 0, 1) := by decide +kernel
theorem dX12_cut_194 : decode cX12_cut 194 = .ok (.istore 6, 2) := by decide +kernel
theorem dX12_cut_196 : decode cX12_cut 196 = .ok (.goto (-70), 3) := by decide +kernel
theorem dX12_cut_199 : decode cX12_cut 199 = .ok (.iload 4, 2) := by decide +kernel
theorem dX12_cut_201 : decode cX12_cut 201 = .ok (.ifCond .ne 29, 3) := by decide +kernel
theorem dX12_cut_204 : decode cX12_cut 204 = .ok (.iload 7, 2) := by decide +kernel
theorem dX12_cut_206 : decode cX12_cut 206 = .ok (.bipush 39, 2) := by decide +kernel
theorem dX12_cut_208 : decode cX12_cut 208 = .ok (.if_icmp .eq 10, 3) := by decide +kernel
theorem dX12_cut_211 : decode cX12_cut 211 = .ok (.iload 7, 2) := by decide +kernel
theorem dX12_cut_213 : decode cX12_cut 213 = .ok (.bipush 34, 2) := by decide +kernel
theorem dX12_cut_215 : decode cX12_cut 215 = .ok (.if_icmp .ne 15, 3) := by decide +kernel
theorem dX12_cut_218 : decode cX12_cut 218 = .ok (.iload 7, 2) := by decide +kernel
theorem dX12_cut_220 : decode cX12_cut 220 = .ok (.i2c, 1) := by decide +kernel
theorem dX12_cut_221 : decode cX12_cut 221 = .ok (.istore 4, 2) := by decide +kernel
theorem dX12_cut_223 : decode cX12_cut 223 = .ok (.iload 8, 2) := by decide +kernel
theorem dX12_cut_225 : decode cX12_cut 225 = .ok (.istore 5, 2) := by decide +kernel
theorem dX12_cut_227 : decode cX12_cut 227 = .ok (.goto (-101), 3) := by decide +kernel
theorem dX12_cut_230 : decode cX12_cut 230 = .ok (.iload 4, 2) := by decide +kernel
theorem dX12_cut_232 : decode cX12_cut 232 = .ok (.ifCond .eq 16, 3) := by decide +kernel
theorem dX12_cut_235 : decode cX12_cut 235 = .ok (.iload 7, 2) := by decide +kernel
theorem dX12_cut_237 : decode cX12_cut 237 = .ok (.iload 4, 2) := by decide +kernel
theorem dX12_cut_239 : decode cX12_cut 239 = .ok (.if_icmp .ne 9, 3) := by decide +kernel
theorem dX12_cut_242 : decode cX12_cut 242 = .ok (.iconst 0, 1) := by decide +kernel
theorem dX12_cut_243 : decode cX12_cut 243 = .ok (.istore 4, 2) := by decide +kernel
theorem dX12_cut_245 : decode cX12_cut 245 = .ok (.goto (-119), 3) := by decide +kernel
theorem dX12_cut_248 : decode cX12_cut 248 = .ok (.iload 7, 2) := by decide +kernel
theorem dX12_cut_250 : decode cX12_cut 250 = .ok (.bipush 92, 2) := by decide +kernel
theorem dX12_cut_252 : decode cX12_cut 252 = .ok (.if_icmp .ne 47, 3) := by decide +kernel
theorem dX12_cut_255 : decode cX12_cut 255 = .ok (.iload 4, 2) := by decide +kernel
theorem dX12_cut_257 : decode cX12_cut 257 = .ok (.bipush 39, 2) := by decide +kernel
theorem dX12_cut_259 : decode cX12_cut 259 = .ok (.if_icmp .eq 40, 3) := by decide +kernel
theorem dX12_cut_262 : decode cX12_cut 262 = .ok (.iload_n 2, 1) := by decide +kernel
theorem dX12_cut_263 : decode cX12_cut 263 = .ok (.iload_n 1, 1) := by decide +kernel
theorem dX12_cut_264 : decode cX12_cut 264 = .ok (.if_icmp .lt 21, 3) := by decide +kernel
theorem dX12_cut_267 : decode cX12_cut 267 = .ok (.aload_n 0, 1) := by decide +kernel
theorem dX12_cut_268 : decode cX12_cut 268 = .ok (.iconst 1, 1) := by decide +kernel
theorem dX12_cut_269 : decode cX12_cut 269 = .ok (.iload 4, 2) := by decide +kernel
theorem dX12_cut_271 : decode cX12_cut 271 = .ok (.ifCond .eq 8, 3) := by decide +kernel
theorem dX12_cut_274 : decode cX12_cut 274 = .ok (.iload 5, 2) := by decide +kernel
theorem dX12_cut_276 : decode cX12_cut 276 = .ok (.goto 5, 3) := by decide +kernel
theorem dX12_cut_279 : decode cX12_cut 279 = .ok (.iload 8, 2) := by decide +kernel
theorem dX12_cut_281 : decode cX12_cut 281 = .ok (.invokevirtual 532, 3) := by decide +kernel
theorem dX12_cut_284 : decode cX12_cut 284 = .ok (.ireturn, 1) := by decide +kernel
theorem dX12_cut_285 : decode cX12_cut 285 = .ok (.aload_n 0, 1) := by decide +kernel
theorem dX12_cut_286 : decode cX12_cut 286 = .ok (.getfield 228, 3) := by decide +kernel
theorem dX12_cut_289 : decode cX12_cut 289 = .ok (.iload_n 2, 1) := by decide +kernel
theorem dX12_cut_290 : decode cX12_cut 290 = .ok (.iaload, 1) := by decide +kernel
theorem dX12_cut_291 : decode cX12_cut 291 = .ok (.istore 7, 2) := by decide +kernel
theorem dX12_cut_293 : decode cX12_cut 293 = .ok (.iload_n 2, 1) := by decide +kernel
theorem dX12_cut_294 : decode cX12_cut 294 = .ok (.istore 8, 2) := by decide +kernel
theorem dX12_cut_296 : decode cX12_cut 296 = .ok (.iinc 2 1, 3) := by decide +kernel
theorem dX12_cut_299 : decode cX12_cut 299 = .ok (.iload 7, 2) := by decide +kernel
theorem dX12_cut_301 : decode cX12_cut 301 = .ok (.bipush 32, 2) := by decide +kernel
theorem dX12_cut_303 : decode cX12_cut 303 = .ok (.if_icmp .ge 10, 3) := by decide +kernel
theorem dX12_cut_306 : decode cX12_cut 306 = .ok (.iload 7, 2) := by decide +kernel
theorem dX12_cut_308 : decode cX12_cut 308 = .ok (.bipush 10, 2) := by decide +kernel
theorem dX12_cut_310 : decode cX12_cut 310 = .ok (.if_icmp .ne 10, 3) := by decide +kernel
theorem dX12_cut_313 : decode cX12_cut 313 = .ok (.iload 7, 2) := by decide +kernel
theorem dX12_cut_315 : decode cX12_cut 315 = .ok (.bipush 126, 2) := by decide +kernel
theorem dX12_cut_317 : decode cX12_cut 317 = .ok (.if_icmp .le 11, 3) := by decide +kernel
theorem dX12_cut_320 : decode cX12_cut 320 = .ok (.aload_n 0, 1) := by decide +kernel
theorem dX12_cut_321 : decode cX12_cut 321 = .ok (.iconst 1, 1) := by decide +kernel
theorem dX12_cut_322 : decode cX12_cut 322 = .ok (.iload 8, 2) := by decide +kernel
theorem dX12_cut_324 : decode cX12_cut 324 = .ok (.invokevirtual 532, 3) := by decide +kernel
theorem dX12_cut_327 : decode cX12_cut 327 = .ok (.ireturn, 1) := by decide +kernel
theorem dX12_cut_328 : decode cX12_cut 328 = .ok (.aload_n 0, 1) := by decide +kernel
theorem dX12_cut_329 : decode cX12_cut 329 = .ok (.getfield 234, 3) := by decide +kernel
theorem dX12_cut_332 : decode cX12_cut 332 = .ok (.aload_n 0, 1) := by decide +kernel
theorem dX12_cut_333 : decode cX12_cut 333 = .ok (.getfield 522, 3) := by decide +kernel
theorem dX12_cut_336 : decode cX12_cut 336 = .ok (.iaload, 1) := by decide +kernel
theorem dX12_cut_337 : decode cX12_cut 337 = .ok (.bipush 40, 2) := by decide +kernel
theorem dX12_cut_339 : decode cX12_cut 339 = .ok (.if_icmp .ne 10, 3) := by decide +kernel
theorem dX12_cut_342 : decode cX12_cut 342 = .ok (.aload_n 0, 1) := by decide +kernel
theorem dX12_cut_343 : decode cX12_cut 343 = .ok (.iconst 2, 1) := by decide +kernel
theorem dX12_cut_344 : decode cX12_cut 344 = .ok (.iload_n 3, 1) := by decide +kernel
theorem dX12_cut_345 : decode cX12_cut 345 = .ok (.invokevirtual 532, 3) := by decide +kernel
theorem dX12_cut_348 : decode cX12_cut 348 = .ok (.ireturn, 1) := by decide +kernel
theorem dX12_cut_349 : decode cX12_cut 349 = .ok (.aload_n 0, 1) := by decide +kernel
theorem dX12_cut_350 : decode cX12_cut 350 = .ok (.getfield 231, 3) := by decide +kernel
theorem dX12_cut_353 : decode cX12_cut 353 = .ok (.bipush 40, 2) := by decide +kernel
theorem dX12_cut_355 : decode cX12_cut 355 = .ok (.aload_n 0, 1) := by decide +kernel
theorem dX12_cut_356 : decode cX12_cut 356 = .ok (.getfield 522, 3) := by decide +kernel
theorem dX12_cut_359 : decode cX12_cut 359 = .ok (.imul, 1) := by decide +kernel
theorem dX12_cut_360 : decode cX12_cut 360 = .ok (.aload_n 0, 1) := by decide +kernel
theorem dX12_cut_361 : decode cX12_cut 361 = .ok (.getfield 234, 3) := by decide +kernel
theorem dX12_cut_364 : decode cX12_cut 364 = .ok (.aload_n 0, 1) := by decide +kernel
theorem dX12_cut_365 : decode cX12_cut 365 = .ok (.getfield 522, 3) := by decide +kernel
theorem dX12_cut_368 : decode cX12_cut 368 = .ok (.iaload, 1) := by decide +kernel
theorem dX12_cut_369 : decode cX12_cut 369 = .ok (.iadd, 1) := by decide +kernel
theorem dX12_cut_370 : decode cX12_cut 370 = .ok (.iload 7, 2) := by decide +kernel
theorem dX12_cut_372 : decode cX12_cut 372 = .ok (.iastore, 1) := by decide +kernel
theorem dX12_cut_373 : decode cX12_cut 373 = .ok (.aload_n 0, 1) := by decide +kernel
theorem dX12_cut_374 : decode cX12_cut 374 = .ok (.getfield 234, 3) := by decide +kernel
theorem dX12_cut_377 : decode cX12_cut 377 = .ok (.aload_n 0, 1) := by decide +kernel
theorem dX12_cut_378 : decode cX12_cut 378 = .ok (.getfield 522, 3) := by decide +kernel
theorem dX12_cut_381 : decode cX12_cut 381 = .ok (.dup2, 1) := by decide +kernel
theorem dX12_cut_382 : decode cX12_cut 382 = .ok (.iaload, 1) := by decide +kernel
theorem dX12_cut_383 : decode cX12_cut 383 = .ok (.iconst 1, 1) := by decide +kernel
theorem dX12_cut_384 : decode cX12_cut 384 = .ok (.iadd, 1) := by decide +kernel
theorem dX12_cut_385 : decode cX12_cut 385 = .ok (.iastore, 1) := by decide +kernel
theorem dX12_cut_386 : decode cX12_cut 386 = .ok (.goto (-260), 3) := by decide +kernel
theorem dX12_cut_389 : decode cX12_cut 389 = .ok (.aload_n 0, 1) := by decide +kernel
theorem dX12_cut_390 : decode cX12_cut 390 = .ok (.dup, 1) := by decide +kernel
theorem dX12_cut_391 : decode cX12_cut 391 = .ok (.getfield 522, 3) := by decide +kernel
theorem dX12_cut_394 : decode cX12_cut 394 = .ok (.iconst 1, 1) := by decide +kernel
theorem dX12_cut_395 : decode cX12_cut 395 = .ok (.iadd, 1) := by decide +kernel
theorem dX12_cut_396 : decode cX12_cut 396 = .ok (.putfield 522, 3) := by decide +kernel
theorem dX12_cut_399 : decode cX12_cut 399 = .ok (.goto (-382), 3) := by decide +kernel
theorem dX12_describe_0 : decode cX12_describe 0 = .ok (.aload_n 0, 1) := by decide +kernel
theorem dX12_describe_1 : decode cX12_describe 1 = .ok (.iconst 0, 1) := by decide +kernel
theorem dX12_describe_2 : decode cX12_describe 2 = .ok (.putfield 1, 3) := by decide +kernel
theorem dX12_describe_5 : decode cX12_describe 5 = .ok (.aload_n 0, 1) := by decide +kernel
theorem dX12_describe_6 : decode cX12_describe 6 = .ok (.iload_n 1, 1) := by decide +kernel
theorem dX12_describe_7 : decode cX12_describe 7 = .ok (.ifCond .lt 15, 3) := by decide +kernel
theorem dX12_describe_10 : decode cX12_describe 10 = .ok (.iload_n 1, 1) := by decide +kernel
theorem dX12_describe_11 : decode cX12_describe 11 = .ok (.aload_n 0, 1) := by decide +kernel
theorem dX12_describe_12 : decode cX12_describe 12 = .ok (.getfield 344, 3) := by decide +kernel
theorem dX12_describe_15 : decode cX12_describe 15 = .ok (.if_icmp .gt 7, 3) := by decide +kernel
theorem dX12_describe_18 : decode cX12_describe 18 = .ok (.iconst 1, 1) := by decide +kernel
theorem dX12_describe_19 : decode cX12_describe 19 = .ok (.goto 4, 3) := by decide +kernel
theorem dX12_describe_22 : decode cX12_describe 22 = .ok (.iconst 0, 1) := by decide +kernel
theorem dX12_describe_23 : decode cX12_describe 23 = .ok (.iconst 1, 1) := by decide +kernel
theorem dX12_describe_24 : decode cX12_describe 24 = .ok (.invokevirtual 414, 3) := by decide +kernel
theorem dX12_describe_27 : decode cX12_describe 27 = .ok (.ifCond .ne 5, 3) := by decide +kernel
theorem dX12_describe_30 : decode cX12_describe 30 = .ok (.iconst 0, 1) := by decide +kernel
theorem dX12_describe_31 : decode cX12_describe 31 = .ok (.ireturn, 1) := by decide +kernel
theorem dX12_describe_32 : decode cX12_describe 32 = .ok (.aload_n 0, 1) := by decide +kernel
theorem dX12_describe_33 : decode cX12_describe 33 = .ok (.iload_n 1, 1) := by decide +kernel
theorem dX12_describe_34 : decode cX12_describe 34 = .ok (.putfield 347, 3) := by decide +kernel
theorem dX12_describe_37 : decode cX12_describe 37 = .ok (.aload_n 0, 1) := by decide +kernel
theorem dX12_describe_38 : decode cX12_describe 38 = .ok (.iconst 0, 1) := by decide +kernel
theorem dX12_describe_39 : decode cX12_describe 39 = .ok (.putfield 344, 3) := by decide +kernel
theorem dX12_describe_42 : decode cX12_describe 42 = .ok (.aload_n 0, 1) := by decide +kernel
theorem dX12_describe_43 : decode cX12_describe 43 = .ok (.iconst 0, 1) := by decide +kernel
theorem dX12_describe_44 : decode cX12_describe 44 = .ok (.putfield 350, 3) := by decide +kernel
theorem dX12_describe_47 : decode cX12_describe 47 = .ok (.aload_n 0, 1) := by decide +kernel
theorem dX12_describe_48 : decode cX12_describe 48 = .ok (.iconst 0, 1) := by decide +kernel
theorem dX12_describe_49 : decode cX12_describe 49 = .ok (.putfield 394, 3) := by decide +kernel
theorem dX12_describe_52 : decode cX12_describe 52 = .ok (.aload_n 0, 1) := by decide +kernel
theorem dX12_describe_53 : decode cX12_describe 53 = .ok (.iconst (-1), 1) := by decide +kernel
theorem dX12_describe_54 : decode cX12_describe 54 = .ok (.putfield 195, 3) := by decide +kernel
theorem dX12_describe_57 : decode cX12_describe 57 = .ok (.aload_n 0, 1) := by decide +kernel
theorem dX12_describe_58 : decode cX12_describe 58 = .ok (.iconst 0, 1) := by decide +kernel
theorem dX12_describe_59 : decode cX12_describe 59 = .ok (.putfield 418, 3) := by decide +kernel
theorem dX12_describe_62 : decode cX12_describe 62 = .ok (.aload_n 0, 1) := by decide +kernel
theorem dX12_describe_63 : decode cX12_describe 63 = .ok (.getfield 421, 3) := by decide +kernel
theorem dX12_describe_66 : decode cX12_describe 66 = .ok (.istore_n 2, 1) := by decide +kernel
theorem dX12_describe_67 : decode cX12_describe 67 = .ok (.aload_n 0, 1) := by decide +kernel
theorem dX12_describe_68 : decode cX12_describe 68 = .ok (.getfield 116, 3) := by decide +kernel
theorem dX12_describe_71 : decode cX12_describe 71 = .ok (.iload_n 2, 1) := by decide +kernel
theorem dX12_describe_72 : decode cX12_describe 72 = .ok (.iconst 1, 1) := by decide +kernel
theorem dX12_describe_73 : decode cX12_describe 73 = .ok (.iastore, 1) := by decide +kernel
theorem dX12_describe_74 : decode cX12_describe 74 = .ok (.aload_n 0, 1) := by decide +kernel
theorem dX12_describe_75 : decode cX12_describe 75 = .ok (.getfield 122, 3) := by decide +kernel
theorem dX12_describe_78 : decode cX12_describe 78 = .ok (.iload_n 2, 1) := by decide +kernel
theorem dX12_describe_79 : decode cX12_describe 79 = .ok (.iconst 0, 1) := by decide +kernel
theorem dX12_describe_80 : decode cX12_describe 80 = .ok (.iastore, 1) := by decide +kernel
theorem dX12_describe_81 : decode cX12_describe 81 = .ok (.aload_n 0, 1) := by decide +kernel
theorem dX12_describe_82 : decode cX12_describe 82 = .ok (.getfield 38, 3) := by decide +kernel
theorem dX12_describe_85 : decode cX12_describe 85 = .ok (.bipush 17, 2) := by decide +kernel
theorem dX12_describe_87 : decode cX12_describe 87 = .ok (.iload_n 2, 1) := by decide +kernel
theorem dX12_describe_88 : decode cX12_describe 88 = .ok (.imul, 1) := by decide +kernel
theorem dX12_describe_89 : decode cX12_describe 89 = .ok (.iconst (-1), 1) := by decide +kernel
theorem dX12_describe_90 : decode cX12_describe 90 = .ok (.iastore, 1) := by decide +kernel
theorem dX12_describe_91 : decode cX12_describe 91 = .ok (.aload_n 0, 1) := by decide +kernel
theorem dX12_describe_92 : decode cX12_describe 92 = .ok (.getfield 113, 3) := by decide +kernel
theorem dX12_describe_95 : decode cX12_describe 95 = .ok (.bipush 17, 2) := by decide +kernel
theorem dX12_describe_97 : decode cX12_describe 97 = .ok (.iload_n 2, 1) := by decide +kernel
theorem dX12_describe_98 : decode cX12_describe 98 = .ok (.imul, 1) := by decide +kernel
theorem dX12_describe_99 : decode cX12_describe 99 = .ok (.lconst 0, 1) := by decide +kernel
theorem dX12_describe_100 : decode cX12_describe 100 = .ok (.lastore, 1) := by decide +kernel
theorem dX12_describe_101 : decode cX12_describe 101 = .ok (.aload_n 0, 1) := by decide +kernel
theorem dX12_describe_102 : decode cX12_describe 102 = .ok (.invokevirtual 404, 3) := by decide +kernel
theorem dX12_describe_105 : decode cX12_describe 105 = .ok (.aload_n 0, 1) := by decide +kernel
theorem dX12_describe_106 : decode cX12_describe 106 = .ok (.getstatic 52, 3) := by decide +kernel
theorem dX12_describe_109 : decode cX12_describe 109 = .ok (.invokevirtual 424, 3) := by decide +kernel
theorem dX12_describe_112 : decode cX12_describe 112 = .ok (.aload_n 0, 1) := by decide +kernel
theorem dX12_describe_113 : decode cX12_describe 113 = .ok (.invokevirtual 397, 3) := by decide +kernel
theorem dX12_describe_116 : decode cX12_describe 116 = .ok (.ifCond .eq 20, 3) := by decide +kernel
theorem dX12_describe_119 : decode cX12_describe 119 = .ok (.aload_n 0, 1) := by decide +kernel
theorem dX12_describe_120 : decode cX12_describe 120 = .ok (.getfield 365, 3) := by decide +kernel
theorem dX12_describe_123 : decode cX12_describe 123 = .ok (.iconst 2, 1) := by decide +kernel
theorem dX12_describe_124 : decode cX12_describe 124 = .ok (.if_icmp .eq 12, 3) := by decide +kernel
theorem dX12_describe_127 : decode cX12_describe 127 = .ok (.aload_n 0, 1) := by decide +kernel
theorem dX12_describe_128 : decode cX12_describe 128 = .ok (.iconst 1, 1) := by decide +kernel
theorem dX12_describe_129 : decode cX12_describe 129 = .ok (.aload_n 0, 1) := by decide +kernel
theorem dX12_describe_130 : decode cX12_describe 130 = .ok (.getfield 353, 3) := by decide +kernel
theorem dX12_describe_133 : decode cX12_describe 133 = .ok (.invokevirtual 407, 3) := by decide +kernel
theorem dX12_describe_136 : decode cX12_describe 136 = .ok (.iconst 0, 1) := by decide +kernel
theorem dX12_describe_137 : decode cX12_describe 137 = .ok (.istore_n 3, 1) := by decide +kernel
theorem dX12_describe_138 : decode cX12_describe 138 = .ok (.iload_n 3, 1) := by decide +kernel
theorem dX12_describe_139 : decode cX12_describe 139 = .ok (.aload_n 0, 1) := by decide +kernel
theorem dX12_describe_140 : decode cX12_describe 140 = .ok (.getfield 421, 3) := by decide +kernel
theorem dX12_describe_143 : decode cX12_describe 143 = .ok (.if_icmp .ge 42, 3) := by decide +kernel
theorem dX12_describe_146 : decode cX12_describe 146 = .ok (.aload_n 0, 1) := by decide +kernel
theorem dX12_describe_147 : decode cX12_describe 147 = .ok (.invokevirtual 397, 3) := by decide +kernel
theorem dX12_describe_150 : decode cX12_describe 150 = .ok (.ifCond .eq 35, 3) := by decide +kernel
theorem dX12_describe_153 : decode cX12_describe 153 = .ok (.aload_n 0, 1) := by decide +kernel
theorem dX12_describe_154 : decode cX12_describe 154 = .ok (.getfield 110, 3) := by decide +kernel
theorem dX12_describe_157 : decode cX12_describe 157 = .ok (.bipush 17, 2) := by decide +kernel
theorem dX12_describe_159 : decode cX12_describe 159 = .ok (.iload_n 3, 1) := by decide +kernel
theorem dX12_describe_160 : decode cX12_describe 160 = .ok (.imul, 1) := by decide +kernel
theorem dX12_describe_161 : decode cX12_describe 161 = .ok (.laload, 1) := by decide +kernel
theorem dX12_describe_162 : decode cX12_describe 162 = .ok (.aload_n 0, 1) := by decide +kernel
theorem dX12_describe_163 : decode cX12_describe 163 = .ok (.getfield 362, 3) := by decide +kernel
theorem dX12_describe_166 : decode cX12_describe 166 = .ok (.lcmp, 1) := by decide +kernel
theorem dX12_describe_167 : decode cX12_describe 167 = .ok (.ifCond .ne 12, 3) := by decide +kernel
theorem dX12_describe_170 : decode cX12_describe 170 = .ok (.aload_n 0, 1) := by decide +kernel
theorem dX12_describe_171 : decode cX12_describe 171 = .ok (.iconst 2, 1) := by decide +kernel
theorem dX12_describe_172 : decode cX12_describe 172 = .ok (.aload_n 0, 1) := by decide +kernel
theorem dX12_describe_173 : decode cX12_describe 173 = .ok (.getfield 353, 3) := by decide +kernel
theorem dX12_describe_176 : decode cX12_describe 176 = .ok (.invokevirtual 407, 3) := by decide +kernel
theorem dX12_describe_179 : decode cX12_describe 179 = .ok (.iinc 3 1, 3) := by decide +kernel
theorem dX12_describe_182 : decode cX12_describe 182 = .ok (.goto (-44), 3) := by decide +kernel
theorem dX12_describe_185 : decode cX12_describe 185 = .ok (.aload_n 0, 1) := by decide +kernel
theorem dX12_describe_186 : decode cX12_describe 186 = .ok (.invokevirtual 397, 3) := by decide +kernel
theorem dX12_describe_189 : decode cX12_describe 189 = .ok (.ifCond .eq 21, 3) := by decide +kernel
theorem dX12_describe_192 : decode cX12_describe 192 = .ok (.aload_n 0, 1) := by decide +kernel
theorem dX12_describe_193 : decode cX12_describe 193 = .ok (.getfield 421, 3) := by decide +kernel
theorem dX12_describe_196 : decode cX12_describe 196 = .ok (.bipush 12, 2) := by decide +kernel
theorem dX12_describe_198 : decode cX12_describe 198 = .ok (.if_icmp .ne 12, 3) := by decide +kernel
theorem dX12_describe_201 : decode cX12_describe 201 = .ok (.aload_n 0, 1) := by decide +kernel
theorem dX12_describe_202 : decode cX12_describe 202 = .ok (.iconst 4, 1) := by decide +kernel
theorem dX12_describe_203 : decode cX12_describe 203 = .ok (.aload_n 0, 1) := by decide +kernel
theorem dX12_describe_204 : decode cX12_describe 204 = .ok (.getfield 353, 3) := by decide +kernel
theorem dX12_describe_207 : decode cX12_describe 207 = .ok (.invokevirtual 407, 3) := by decide +kernel
theorem dX12_describe_210 : decode cX12_describe 210 = .ok (.aload_n 0, 1) := by decide +kernel
theorem dX12_describe_211 : decode cX12_describe 211 = .ok (.getfield 110, 3) := by decide +kernel
theorem dX12_describe_214 : decode cX12_describe 214 = .ok (.bipush 17, 2) := by decide +kernel
theorem dX12_describe_216 : decode cX12_describe 216 = .ok (.iload_n 2, 1) := by decide +kernel
theorem dX12_describe_217 : decode cX12_describe 217 = .ok (.imul, 1) := by decide +kernel
theorem dX12_describe_218 : decode cX12_describe 218 = .ok (.aload_n 0, 1) := by decide +kernel
theorem dX12_describe_219 : decode cX12_describe 219 = .ok (.getfield 362, 3) := by decide +kernel
theorem dX12_describe_222 : decode cX12_describe 222 = .ok (.lastore, 1) := by decide +kernel
theorem dX12_describe_223 : decode cX12_describe 223 = .ok (.aload_n 0, 1) := by decide +kernel
theorem dX12_describe_224 : decode cX12_describe 224 = .ok (.invokevirtual 397, 3) := by decide +kernel
theorem dX12_describe_227 : decode cX12_describe 227 = .ok (.ifCond .eq 7, 3) := by decide +kernel
theorem dX12_describe_230 : decode cX12_describe 230 = .ok (.aload_n 0, 1) := by decide +kernel
theorem dX12_describe_231 : decode cX12_describe 231 = .ok (.invokevirtual 404, 3) := by decide +kernel
theorem dX12_describe_234 : decode cX12_describe 234 = .ok (.aload_n 0, 1) := by decide +kernel
theorem dX12_describe_235 : decode cX12_describe 235 = .ok (.iload_n 2, 1) := by decide +kernel
theorem dX12_describe_236 : decode cX12_describe 236 = .ok (.iconst 0, 1) := by decide +kernel
theorem dX12_describe_237 : decode cX12_describe 237 = .ok (.invokevirtual 428, 3) := by decide +kernel
theorem dX12_describe_240 : decode cX12_describe 240 = .ok (.aload_n 0, 1) := by decide +kernel
theorem dX12_describe_241 : decode cX12_describe 241 = .ok (.invokevirtual 397, 3) := by decide +kernel
theorem dX12_describe_244 : decode cX12_describe 244 = .ok (.ifCond .eq 19, 3) := by decide +kernel
theorem dX12_describe_247 : decode cX12_describe 247 = .ok (.aload_n 0, 1) := by decide +kernel
theorem dX12_describe_248 : decode cX12_describe 248 = .ok (.getfield 365, 3) := by decide +kernel
theorem dX12_describe_251 : decode cX12_describe 251 = .ok (.ifCond .eq 12, 3) := by decide +kernel
theorem dX12_describe_254 : decode cX12_describe 254 = .ok (.aload_n 0, 1) := by decide +kernel
theorem dX12_describe_255 : decode cX12_describe 255 = .ok (.iconst 1, 1) := by decide +kernel
theorem dX12_describe_256 : decode cX12_describe 256 = .ok (.aload_n 0, 1) := by decide +kernel
theorem dX12_describe_257 : decode cX12_describe 257 = .ok (.getfield 353, 3) := by decide +kernel
theorem dX12_describe_260 : decode cX12_describe 260 = .ok (.invokevirtual 407, 3) := by decide +kernel
theorem dX12_describe_263 : decode cX12_describe 263 = .ok (.iconst 0, 1) := by decide +kernel
theorem dX12_describe_264 : decode cX12_describe 264 = .ok (.istore_n 3, 1) := by decide +kernel
theorem dX12_describe_265 : decode cX12_describe 265 = .ok (.iload_n 3, 1) := by decide +kernel
theorem dX12_describe_266 : decode cX12_describe 266 = .ok (.aload_n 0, 1) := by decide +kernel
theorem dX12_describe_267 : decode cX12_describe 267 = .ok (.getfield 418, 3) := by decide +kernel
theorem dX12_describe_270 : decode cX12_describe 270 = .ok (.if_icmp .ge 22, 3) := by decide +kernel
theorem dX12_describe_273 : decode cX12_describe 273 = .ok (.aload_n 0, 1) := by decide +kernel
theorem dX12_describe_274 : decode cX12_describe 274 = .ok (.invokevirtual 397, 3) := by decide +kernel
theorem dX12_describe_277 : decode cX12_describe 277 = .ok (.ifCond .eq 15, 3) := by decide +kernel
theorem dX12_describe_280 : decode cX12_describe 280 = .ok (.aload_n 0, 1) := by decide +kernel
theorem dX12_describe_281 : decode cX12_describe 281 = .ok (.iload_n 2, 1) := by decide +kernel
theorem dX12_describe_282 : decode cX12_describe 282 = .ok (.iload_n 3, 1) := by decide +kernel
theorem dX12_describe_283 : decode cX12_describe 283 = .ok (.invokevirtual 431, 3) := by decide +kernel
theorem dX12_describe_286 : decode cX12_describe 286 = .ok (.iinc 3 1, 3) := by decide +kernel
theorem dX12_describe_289 : decode cX12_describe 289 = .ok (.goto (-24), 3) := by decide +kernel
theorem dX12_describe_292 : decode cX12_describe 292 = .ok (.aload_n 0, 1) := by decide +kernel
theorem dX12_describe_293 : decode cX12_describe 293 = .ok (.invokevirtual 397, 3) := by decide +kernel
theorem dX12_describe_296 : decode cX12_describe 296 = .ok (.ifCond .ne 11, 3) := by decide +kernel
theorem dX12_describe_299 : decode cX12_describe 299 = .ok (.aload_n 0, 1) := by decide +kernel
theorem dX12_describe_300 : decode cX12_describe 300 = .ok (.getfield 394, 3) := by decide +kernel
theorem dX12_describe_303 : decode cX12_describe 303 = .ok (.bipush 10, 2) := by decide +kernel
theorem dX12_describe_305 : decode cX12_describe 305 = .ok (.isub, 1) := by decide +kernel
theorem dX12_describe_306 : decode cX12_describe 306 = .ok (.ireturn, 1) := by decide +kernel
theorem dX12_describe_307 : decode cX12_describe 307 = .ok (.aload_n 0, 1) := by decide +kernel
theorem dX12_describe_308 : decode cX12_describe 308 = .ok (.dup, 1) := by decide +kernel
theorem dX12_describe_309 : decode cX12_describe 309 = .ok (.getfield 421, 3) := by decide +kernel
theorem dX12_describe_312 : decode cX12_describe 312 = .ok (.iconst 1, 1) := by decide +kernel
theorem dX12_describe_313 : decode cX12_describe 313 = .ok (.iadd, 1) := by decide +kernel
theorem dX12_describe_314 : decode cX12_describe 314 = .ok (.putfield 421, 3) := by decide +kernel
theorem dX12_describe_317 : decode cX12_describe 317 = .ok (.iload_n 2, 1) := by decide +kernel
theorem dX12_describe_318 : decode cX12_describe 318 = .ok (.ireturn, 1) := by decide +kernel
theorem dX12_ends_0 : decode cX12_ends 0 = .ok (.aload_n 0, 1) := by decide +kernel
theorem dX12_ends_1 : decode cX12_ends 1 = .ok (.iconst 0, 1) := by decide +kernel
theorem dX12_ends_2 : decode cX12_ends 2 = .ok (.putfield 1, 3) := by decide +kernel
theorem dX12_ends_5 : decode cX12_ends 5 = .ok (.aload_n 0, 1) := by decide +kernel
theorem dX12_ends_6 : decode cX12_ends 6 = .ok (.iload_n 1, 1) := by decide +kernel
theorem dX12_ends_7 : decode cX12_ends 7 = .ok (.ifCond .lt 22, 3) := by decide +kernel
theorem dX12_ends_10 : decode cX12_ends 10 = .ok (.iload_n 1, 1) := by decide +kernel
theorem dX12_ends_11 : decode cX12_ends 11 = .ok (.aload_n 0, 1) := by decide +kernel
theorem dX12_ends_12 : decode cX12_ends 12 = .ok (.getfield 344, 3) := by decide +kernel
theorem dX12_ends_15 : decode cX12_ends 15 = .ok (.if_icmp .gt 14, 3) := by decide +kernel
theorem dX12_ends_18 : decode cX12_ends 18 = .ok (.iload_n 1, 1) := by decide +kernel
theorem dX12_ends_19 : decode cX12_ends 19 = .ok (.sipush 400, 3) := by decide +kernel
theorem dX12_ends_22 : decode cX12_ends 22 = .ok (.if_icmp .gt 7, 3) := by decide +kernel
theorem dX12_ends_25 : decode cX12_ends 25 = .ok (.iconst 1, 1) := by decide +kernel
theorem dX12_ends_26 : decode cX12_ends 26 = .ok (.goto 4, 3) := by decide +kernel
theorem dX12_ends_29 : decode cX12_ends 29 = .ok (.iconst 0, 1) := by decide +kernel
theorem dX12_ends_30 : decode cX12_ends 30 = .ok (.iconst 1, 1) := by decide +kernel
theorem dX12_ends_31 : decode cX12_ends 31 = .ok (.invokevirtual 414, 3) := by decide +kernel
theorem dX12_ends_34 : decode cX12_ends 34 = .ok (.ifCond .ne 5, 3) := by decide +kernel
theorem dX12_ends_37 : decode cX12_ends 37 = .ok (.iconst 0, 1) := by decide +kernel
theorem dX12_ends_38 : decode cX12_ends 38 = .ok (.ireturn, 1) := by decide +kernel
theorem dX12_ends_39 : decode cX12_ends 39 = .ok (.iconst 0, 1) := by decide +kernel
theorem dX12_ends_40 : decode cX12_ends 40 = .ok (.istore_n 2, 1) := by decide +kernel
theorem dX12_ends_41 : decode cX12_ends 41 = .ok (.iload_n 2, 1) := by decide +kernel
theorem dX12_ends_42 : decode cX12_ends 42 = .ok (.iload_n 1, 1) := by decide +kernel
theorem dX12_ends_43 : decode cX12_ends 43 = .ok (.if_icmp .ge 21, 3) := by decide +kernel
theorem dX12_ends_46 : decode cX12_ends 46 = .ok (.aload_n 0, 1) := by decide +kernel
theorem dX12_ends_47 : decode cX12_ends 47 = .ok (.getfield 228, 3) := by decide +kernel
theorem dX12_ends_50 : decode cX12_ends 50 = .ok (.iload_n 2, 1) := by decide +kernel
theorem dX12_ends_51 : decode cX12_ends 51 = .ok (.aload_n 0, 1) := by decide +kernel
theorem dX12_ends_52 : decode cX12_ends 52 = .ok (.getfield 192, 3) := by decide +kernel
theorem dX12_ends_55 : decode cX12_ends 55 = .ok (.iload_n 2, 1) := by decide +kernel
theorem dX12_ends_56 : decode cX12_ends 56 = .ok (.iaload, 1) := by decide +kernel
theorem dX12_ends_57 : decode cX12_ends 57 = .ok (.iastore, 1) := by decide +kernel
theorem dX12_ends_58 : decode cX12_ends 58 = .ok (.iinc 2 1, 3) := by decide +kernel
theorem dX12_ends_61 : decode cX12_ends 61 = .ok (.goto (-20), 3) := by decide +kernel
theorem dX12_ends_64 : decode cX12_ends 64 = .ok (.aload_n 0, 1) := by decide +kernel
theorem dX12_ends_65 : decode cX12_ends 65 = .ok (.iconst 0, 1) := by decide +kernel
theorem dX12_ends_66 : decode cX12_ends 66 = .ok (.putfield 344, 3) := by decide +kernel
theorem dX12_ends_69 : decode cX12_ends 69 = .ok (.aload_n 0, 1) := by decide +kernel
theorem dX12_ends_70 : decode cX12_ends 70 = .ok (.invokevirtual 653, 3) := by decide +kernel
theorem dX12_ends_73 : decode cX12_ends 73 = .ok (.aload_n 0, 1) := by decide +kernel
theorem dX12_ends_74 : decode cX12_ends 74 = .ok (.iconst 0, 1) := by decide +kernel
theorem dX12_ends_75 : decode cX12_ends 75 = .ok (.putfield 656, 3) := by decide +kernel
theorem dX12_ends_78 : decode cX12_ends 78 = .ok (.aload_n 0, 1) := by decide +kernel
theorem dX12_ends_79 : decode cX12_ends 79 = .ok (.iload_n 1, 1) := by decide +kernel
theorem dX12_ends_80 : decode cX12_ends 80 = .ok (.invokevirtual 515, 3) := by decide +kernel
theorem dX12_ends_83 : decode cX12_ends 83 = .ok (.istore_n 2, 1) := by decide +kernel
theorem dX12_ends_84 : decode cX12_ends 84 = .ok (.iload_n 2, 1) := by decide +kernel
theorem dX12_ends_85 : decode cX12_ends 85 = .ok (.ifCond .eq 19, 3) := by decide +kernel
theorem dX12_ends_88 : decode cX12_ends 88 = .ok (.aload_n 0, 1) := by decide +kernel
theorem dX12_ends_89 : decode cX12_ends 89 = .ok (.iload_n 2, 1) := by decide +kernel
theorem dX12_ends_90 : decode cX12_ends 90 = .ok (.iconst (-1), 1) := by decide +kernel
theorem dX12_ends_91 : decode cX12_ends 91 = .ok (.aload_n 0, 1) := by decide +kernel
theorem dX12_ends_92 : decode cX12_ends 92 = .ok (.getfield 535, 3) := by decide +kernel
theorem dX12_ends_95 : decode cX12_ends 95 = .ok (.iconst (-1), 1) := by decide +kernel
theorem dX12_ends_96 : decode cX12_ends 96 = .ok (.invokevirtual 557, 3) := by decide +kernel
theorem dX12_ends_99 : decode cX12_ends 99 = .ok (.iload_n 2, 1) := by decide +kernel
theorem dX12_ends_100 : decode cX12_ends 100 = .ok (.bipush 20, 2) := by decide +kernel
theorem dX12_ends_102 : decode cX12_ends 102 = .ok (.isub, 1) := by decide +kernel
theorem dX12_ends_103 : decode cX12_ends 103 = .ok (.ireturn, 1) := by decide +kernel
theorem dX12_ends_104 : decode cX12_ends 104 = .ok (.aload_n 0, 1) := by decide +kernel
theorem dX12_ends_105 : decode cX12_ends 105 = .ok (.getfield 529, 3) := by decide +kernel
theorem dX12_ends_108 : decode cX12_ends 108 = .ok (.istore_n 3, 1) := by decide +kernel
theorem dX12_ends_109 : decode cX12_ends 109 = .ok (.aload_n 0, 1) := by decide +kernel
theorem dX12_ends_110 : decode cX12_ends 110 = .ok (.iconst 0, 1) := by decide +kernel
theorem dX12_ends_111 : decode cX12_ends 111 = .ok (.putfield 719, 3) := by decide +kernel
theorem dX12_ends_114 : decode cX12_ends 114 = .ok (.aload_n 0, 1) := by decide +kernel
theorem dX12_ends_115 : decode cX12_ends 115 = .ok (.getfield 525, 3) := by decide +kernel
theorem dX12_ends_118 : decode cX12_ends 118 = .ok (.ifCond .eq 66, 3) := by decide +kernel
theorem dX12_ends_121 : decode cX12_ends 121 = .ok (.aload_n 0, 1) := by decide +kernel
theorem dX12_ends_122 : decode cX12_ends 122 = .ok (.dup, 1) := by decide +kernel
theorem dX12_ends_123 : decode cX12_ends 123 = .ok (.getfield 522, 3) := by decide +kernel
theorem dX12_ends_126 : decode cX12_ends 126 = .ok (.iconst 1, 1) := by decide +kernel
theorem dX12_ends_127 : decode cX12_ends 127 = .ok (.isub, 1) := by decide +kernel
theorem dX12_ends_128 : decode cX12_ends 128 = .ok (.putfield 522, 3) := by decide +kernel
theorem dX12_ends_131 : decode cX12_ends 131 = .ok (.aload_n 0, 1) := by decide +kernel
theorem dX12_ends_132 : decode cX12_ends 132 = .ok (.aload_n 0, 1) := by decide +kernel
theorem dX12_ends_133 : decode cX12_ends 133 = .ok (.getfield 234, 3) := by decide +kernel
theorem dX12_ends_136 : decode cX12_ends 136 = .ok (.aload_n 0, 1) := by decide +kernel
theorem dX12_ends_137 : decode cX12_ends 137 = .ok (.getfield 522, 3) := by decide +kernel
theorem dX12_ends_140 : decode cX12_ends 140 = .ok (.iaload, 1) := by decide +kernel
theorem dX12_ends_141 : decode cX12_ends 141 = .ok (.putfield 719, 3) := by decide +kernel
theorem dX12_ends_144 : decode cX12_ends 144 = .ok (.iconst 0, 1) := by decide +kernel
theorem dX12_ends_145 : decode cX12_ends 145 = .ok (.istore 4, 2) := by decide +kernel
theorem dX12_ends_147 : decode cX12_ends 147 = .ok (.iload 4, 2) := by decide +kernel
theorem dX12_ends_149 : decode cX12_ends 149 = .ok (.aload_n 0, 1) := by decide +kernel
theorem dX12_ends_150 : decode cX12_ends 150 = .ok (.getfield 719, 3) := by decide +kernel
theorem dX12_ends_153 : decode cX12_ends 153 = .ok (.if_icmp .ge 31, 3) := by decide +kernel
theorem dX12_ends_156 : decode cX12_ends 156 = .ok (.aload_n 0, 1) := by decide +kernel
theorem dX12_ends_157 : decode cX12_ends 157 = .ok (.getfield 332, 3) := by decide +kernel
theorem dX12_ends_160 : decode cX12_ends 160 = .ok (.iload 4, 2) := by decide +kernel
theorem dX12_ends_162 : decode cX12_ends 162 = .ok (.aload_n 0, 1) := by decide +kernel
theorem dX12_ends_163 : decode cX12_ends 163 = .ok (.getfield 231, 3) := by decide +kernel
theorem dX12_ends_166 : decode cX12_ends 166 = .ok (.bipush 40, 2) := by decide +kernel
theorem dX12_ends_168 : decode cX12_ends 168 = .ok (.aload_n 0, 1) := by decide +kernel
theorem dX12_ends_169 : decode cX12_ends 169 = .ok (.getfield 522, 3) := by decide +kernel
theorem dX12_ends_172 : decode cX12_ends 172 = .ok (.imul, 1) := by decide +kernel
theorem dX12_ends_173 : decode cX12_ends 173 = .ok (.iload 4, 2) := by decide +kernel
theorem dX12_ends_175 : decode cX12_ends 175 = .ok (.iadd, 1) := by decide +kernel
theorem dX12_ends_176 : decode cX12_ends 176 = .ok (.iaload, 1) := by decide +kernel
theorem dX12_ends_177 : decode cX12_ends 177 = .ok (.iastore, 1) := by decide +kernel
theorem dX12_ends_178 : decode cX12_ends 178 = .ok (.iinc 4 1, 3) := by decide +kernel
theorem dX12_ends_181 : decode cX12_ends 181 = .ok (.goto (-34), 3) := by decide +kernel
theorem dX12_ends_184 : decode cX12_ends 184 = .ok (.aload_n 0, 1) := by decide +kernel
theorem dX12_ends_185 : decode cX12_ends 185 = .ok (.iload_n 3, 1) := by decide +kernel
theorem dX12_ends_186 : decode cX12_ends 186 = .ok (.invokevirtual 725, 3) := by decide +kernel
theorem dX12_ends_189 : decode cX12_ends 189 = .ok (.ireturn, 1) := by decide +kernel
theorem dX12_fault_0 : decode cX12_fault 0 = .ok (.aload_n 0, 1) := by decide +kernel
theorem dX12_fault_1 : decode cX12_fault 1 = .ok (.iconst 0, 1) := by decide +kernel
theorem dX12_fault_2 : decode cX12_fault 2 = .ok (.putfield 1, 3) := by decide +kernel
theorem dX12_fault_5 : decode cX12_fault 5 = .ok (.aload_n 0, 1) := by decide +kernel
theorem dX12_fault_6 : decode cX12_fault 6 = .ok (.getfield 195, 3) := by decide +kernel
theorem dX12_fault_9 : decode cX12_fault 9 = .ok (.ireturn, 1) := by decide +kernel
theorem dX12_feed_0 : decode cX12_feed 0 = .ok (.aload_n 0, 1) := by decide +kernel
theorem dX12_feed_1 : decode cX12_feed 1 = .ok (.iconst 0, 1) := by decide +kernel
theorem dX12_feed_2 : decode cX12_feed 2 = .ok (.putfield 1, 3) := by decide +kernel
theorem dX12_feed_5 : decode cX12_feed 5 = .ok (.aload_n 0, 1) := by decide +kernel
theorem dX12_feed_6 : decode cX12_feed 6 = .ok (.getfield 344, 3) := by decide +kernel
theorem dX12_feed_9 : decode cX12_feed 9 = .ok (.bipush 20, 2) := by decide +kernel
theorem dX12_feed_11 : decode cX12_feed 11 = .ok (.iadd, 1) := by decide +kernel
theorem dX12_feed_12 : decode cX12_feed 12 = .ok (.sipush 2000, 3) := by decide +kernel
theorem dX12_feed_15 : decode cX12_feed 15 = .ok (.if_icmp .le 5, 3) := by decide +kernel
theorem dX12_feed_18 : decode cX12_feed 18 = .ok (.iconst (-1), 1) := by decide +kernel
theorem dX12_feed_19 : decode cX12_feed 19 = .ok (.ireturn, 1) := by decide +kernel
theorem dX12_feed_20 : decode cX12_feed 20 = .ok (.iconst 0, 1) := by decide +kernel
theorem dX12_feed_21 : decode cX12_feed 21 = .ok (.istore 6, 2) := by decide +kernel
theorem dX12_feed_23 : decode cX12_feed 23 = .ok (.iload 6, 2) := by decide +kernel
theorem dX12_feed_25 : decode cX12_feed 25 = .ok (.bipush 20, 2) := by decide +kernel
theorem dX12_feed_27 : decode cX12_feed 27 = .ok (.if_icmp .ge 93, 3) := by decide +kernel
theorem dX12_feed_30 : decode cX12_feed 30 = .ok (.iload 6, 2) := by decide +kernel
theorem dX12_feed_32 : decode cX12_feed 32 = .ok (.iconst 4, 1) := by decide +kernel
theorem dX12_feed_33 : decode cX12_feed 33 = .ok (.if_icmp .ge 7, 3) := by decide +kernel
theorem dX12_feed_36 : decode cX12_feed 36 = .ok (.iload_n 1, 1) := by decide +kernel
theorem dX12_feed_37 : decode cX12_feed 37 = .ok (.goto 39, 3) := by decide +kernel
theorem dX12_feed_40 : decode cX12_feed 40 = .ok (.iload 6, 2) := by decide +kernel
theorem dX12_feed_42 : decode cX12_feed 42 = .ok (.bipush 8, 2) := by decide +kernel
theorem dX12_feed_44 : decode cX12_feed 44 = .ok (.if_icmp .ge 7, 3) := by decide +kernel
theorem dX12_feed_47 : decode cX12_feed 47 = .ok (.iload_n 2, 1) := by decide +kernel
theorem dX12_feed_48 : decode cX12_feed 48 = .ok (.goto 28, 3) := by decide +kernel
theorem dX12_feed_51 : decode cX12_feed 51 = .ok (.iload 6, 2) := by decide +kernel
theorem dX12_feed_53 : decode cX12_feed 53 = .ok (.bipush 12, 2) := by decide +kernel
theorem dX12_feed_55 : decode cX12_feed 55 = .ok (.if_icmp .ge 7, 3) := by decide +kernel
theorem dX12_feed_58 : decode cX12_feed 58 = .ok (.iload_n 3, 1) := by decide +kernel
theorem dX12_feed_59 : decode cX12_feed 59 = .ok (.goto 17, 3) := by decide +kernel
theorem dX12_feed_62 : decode cX12_feed 62 = .ok (.iload 6, 2) := by decide +kernel
theorem dX12_feed_64 : decode cX12_feed 64 = .ok (.bipush 16, 2) := by decide +kernel
theorem dX12_feed_66 : decode cX12_feed 66 = .ok (.if_icmp .ge 8, 3) := by decide +kernel
theorem dX12_feed_69 : decode cX12_feed 69 = .ok (.iload 4, 2) := by decide +kernel
theorem dX12_feed_71 : decode cX12_feed 71 = .ok (.goto 5, 3) := by decide +kernel
theorem dX12_feed_74 : decode cX12_feed 74 = .ok (.iload 5, 2) := by decide +kernel
theorem dX12_feed_76 : decode cX12_feed 76 = .ok (.istore 7, 2) := by decide +kernel
theorem dX12_feed_78 : decode cX12_feed 78 = .ok (.aload_n 0, 1) := by decide +kernel
theorem dX12_feed_79 : decode cX12_feed 79 = .ok (.getfield 192, 3) := by decide +kernel
theorem dX12_feed_82 : decode cX12_feed 82 = .ok (.aload_n 0, 1) := by decide +kernel
theorem dX12_feed_83 : decode cX12_feed 83 = .ok (.getfield 344, 3) := by decide +kernel
theorem dX12_feed_86 : decode cX12_feed 86 = .ok (.iload 7, 2) := by decide +kernel
theorem dX12_feed_88 : decode cX12_feed 88 = .ok (.bipush 24, 2) := by decide +kernel
theorem dX12_feed_90 : decode cX12_feed 90 = .ok (.bipush 8, 2) := by decide +kernel
theorem dX12_feed_92 : decode cX12_feed 92 = .ok (.iload 6, 2) := by decide +kernel
theorem dX12_feed_94 : decode cX12_feed 94 = .ok (.iconst 4, 1) := by decide +kernel
theorem dX12_feed_95 : decode cX12_feed 95 = .ok (.irem, 1) := by decide +kernel
theorem dX12_feed_96 : decode cX12_feed 96 = .ok (.imul, 1) := by decide +kernel
theorem dX12_feed_97 : decode cX12_feed 97 = .ok (.isub, 1) := by decide +kernel
theorem dX12_feed_98 : decode cX12_feed 98 = .ok (.ishr, 1) := by decide +kernel
theorem dX12_feed_99 : decode cX12_feed 99 = .ok (.sipush 255, 3) := by decide +kernel
theorem dX12_feed_102 : decode cX12_feed 102 = .ok (.iand, 1) := by decide +kernel
theorem dX12_feed_103 : decode cX12_feed 103 = .ok (.iastore, 1) := by decide +kernel
theorem dX12_feed_104 : decode cX12_feed 104 = .ok (.aload_n 0, 1) := by decide +kernel
theorem dX12_feed_105 : decode cX12_feed 105 = .ok (.dup, 1) := by decide +kernel
theorem dX12_feed_106 : decode cX12_feed 106 = .ok (.getfield 344, 3) := by decide +kernel
theorem dX12_feed_109 : decode cX12_feed 109 = .ok (.iconst 1, 1) := by decide +kernel
theorem dX12_feed_110 : decode cX12_feed 110 = .ok (.iadd, 1) := by decide +kernel
theorem dX12_feed_111 : decode cX12_feed 111 = .ok (.putfield 344, 3) := by decide +kernel
theorem dX12_feed_114 : decode cX12_feed 114 = .ok (.iinc 6 1, 3) := by decide +kernel
theorem dX12_feed_117 : decode cX12_feed 117 = .ok (.goto (-94), 3) := by decide +kernel
theorem dX12_feed_120 : decode cX12_feed 120 = .ok (.aload_n 0, 1) := by decide +kernel
theorem dX12_feed_121 : decode cX12_feed 121 = .ok (.getfield 344, 3) := by decide +kernel
theorem dX12_feed_124 : decode cX12_feed 124 = .ok (.ireturn, 1) := by decide +kernel
theorem dX12_findEnds_0 : decode cX12_findEnds 0 = .ok (.aload_n 0, 1) := by decide +kernel
theorem dX12_findEnds_1 : decode cX12_findEnds 1 = .ok (.getfield 522, 3) := by decide +kernel
theorem dX12_findEnds_4 : decode cX12_findEnds 4 = .ok (.ifCond .le 7, 3) := by decide +kernel
theorem dX12_findEnds_7 : decode cX12_findEnds 7 = .ok (.aload_n 0, 1) := by decide +kernel
theorem dX12_findEnds_8 : decode cX12_findEnds 8 = .ok (.invokevirtual 659, 3) := by decide +kernel
theorem dX12_findEnds_11 : decode cX12_findEnds 11 = .ok (.aload_n 0, 1) := by decide +kernel
theorem dX12_findEnds_12 : decode cX12_findEnds 12 = .ok (.getfield 538, 3) := by decide +kernel
theorem dX12_findEnds_15 : decode cX12_findEnds 15 = .ok (.iconst 2, 1) := by decide +kernel
theorem dX12_findEnds_16 : decode cX12_findEnds 16 = .ok (.if_icmp .eq 7, 3) := by decide +kernel
theorem dX12_findEnds_19 : decode cX12_findEnds 19 = .ok (.aload_n 0, 1) := by decide +kernel
theorem dX12_findEnds_20 : decode cX12_findEnds 20 = .ok (.invokevirtual 662, 3) := by decide +kernel
theorem dX12_findEnds_23 : decode cX12_findEnds 23 = .ok (.aload_n 0, 1) := by decide +kernel
theorem dX12_findEnds_24 : decode cX12_findEnds 24 = .ok (.invokevirtual 550, 3) := by decide +kernel
theorem dX12_findEnds_27 : decode cX12_findEnds 27 = .ok (.ifCond .eq 85, 3) := by decide +kernel
theorem dX12_findEnds_30 : decode cX12_findEnds 30 = .ok (.aload_n 0, 1) := by decide +kernel
theorem dX12_findEnds_31 : decode cX12_findEnds 31 = .ok (.getfield 522, 3) := by decide +kernel
theorem dX12_findEnds_34 : decode cX12_findEnds 34 = .ok (.ifCond .ne 78, 3) := by decide +kernel
theorem dX12_findEnds_37 : decode cX12_findEnds 37 = .ok (.iconst 0, 1) := by decide +kernel
theorem dX12_findEnds_38 : decode cX12_findEnds 38 = .ok (.istore_n 2, 1) := by decide +kernel
theorem dX12_findEnds_39 : decode cX12_findEnds 39 = .ok (.iload_n 2, 1) := by decide +kernel
theorem dX12_findEnds_40 : decode cX12_findEnds 40 = .ok (.aload_n 0, 1) := by decide +kernel
theorem dX12_findEnds_41 : decode cX12_findEnds 41 = .ok (.getfield 421, 3) := by decide +kernel
theorem dX12_findEnds_44 : decode cX12_findEnds 44 = .ok (.if_icmp .ge 27, 3) := by decide +kernel
theorem dX12_findEnds_47 : decode cX12_findEnds 47 = .ok (.iload_n 1, 1) := by decide +kernel
theorem dX12_findEnds_48 : decode cX12_findEnds 48 = .ok (.ifCond .ne 23, 3) := by decide +kernel
theorem dX12_findEnds_51 : decode cX12_findEnds 51 = .ok (.aload_n 0, 1) := by decide +kernel
theorem dX12_findEnds_52 : decode cX12_findEnds 52 = .ok (.aload_n 0, 1) := by decide +kernel
theorem dX12_findEnds_53 : decode cX12_findEnds 53 = .ok (.getfield 110, 3) := by decide +kernel
theorem dX12_findEnds_56 : decode cX12_findEnds 56 = .ok (.bipush 17, 2) := by decide +kernel
theorem dX12_findEnds_58 : decode cX12_findEnds 58 = .ok (.iload_n 2, 1) := by decide +kernel
theorem dX12_findEnds_59 : decode cX12_findEnds 59 = .ok (.imul, 1) := by decide +kernel
theorem dX12_findEnds_60 : decode cX12_findEnds 60 = .ok (.laload, 1) := by decide +kernel
theorem dX12_findEnds_61 : decode cX12_findEnds 61 = .ok (.iconst 0, 1) := by decide +kernel
theorem dX12_findEnds_62 : decode cX12_findEnds 62 = .ok (.invokevirtual 729, 3) := by decide +kernel
theorem dX12_findEnds_65 : decode cX12_findEnds 65 = .ok (.iinc 2 1, 3) := by decide +kernel
theorem dX12_findEnds_68 : decode cX12_findEnds 68 = .ok (.goto (-29), 3) := by decide +kernel
theorem dX12_findEnds_71 : decode cX12_findEnds 71 = .ok (.iconst 0, 1) := by decide +kernel
theorem dX12_findEnds_72 : decode cX12_findEnds 72 = .ok (.istore_n 2, 1) := by decide +kernel
theorem dX12_findEnds_73 : decode cX12_findEnds 73 = .ok (.iload_n 2, 1) := by decide +kernel
theorem dX12_findEnds_74 : decode cX12_findEnds 74 = .ok (.aload_n 0, 1) := by decide +kernel
theorem dX12_findEnds_75 : decode cX12_findEnds 75 = .ok (.getfield 225, 3) := by decide +kernel
theorem dX12_findEnds_78 : decode cX12_findEnds 78 = .ok (.iconst 2, 1) := by decide +kernel
theorem dX12_findEnds_79 : decode cX12_findEnds 79 = .ok (.iaload, 1) := by decide +kernel
theorem dX12_findEnds_80 : decode cX12_findEnds 80 = .ok (.if_icmp .ge 27, 3) := by decide +kernel
theorem dX12_findEnds_83 : decode cX12_findEnds 83 = .ok (.iload_n 1, 1) := by decide +kernel
theorem dX12_findEnds_84 : decode cX12_findEnds 84 = .ok (.ifCond .ne 23, 3) := by decide +kernel
theorem dX12_findEnds_87 : decode cX12_findEnds 87 = .ok (.aload_n 0, 1) := by decide +kernel
theorem dX12_findEnds_88 : decode cX12_findEnds 88 = .ok (.aload_n 0, 1) := by decide +kernel
theorem dX12_findEnds_89 : decode cX12_findEnds 89 = .ok (.getfield 210, 3) := by decide +kernel
theorem dX12_findEnds_92 : decode cX12_findEnds 92 = .ok (.bipush 40, 2) := by decide +kernel
theorem dX12_findEnds_94 : decode cX12_findEnds 94 = .ok (.iload_n 2, 1) := by decide +kernel
theorem dX12_findEnds_95 : decode cX12_findEnds 95 = .ok (.iadd, 1) := by decide +kernel
theorem dX12_findEnds_96 : decode cX12_findEnds 96 = .ok (.laload, 1) := by decide +kernel
theorem dX12_findEnds_97 : decode cX12_findEnds 97 = .ok (.iconst 0, 1) := by decide +kernel
theorem dX12_findEnds_98 : decode cX12_findEnds 98 = .ok (.invokevirtual 729, 3) := by decide +kernel
theorem dX12_findEnds_101 : decode cX12_findEnds 101 = .ok (.iinc 2 1, 3) := by decide +kernel
theorem dX12_findEnds_104 : decode cX12_findEnds 104 = .ok (.goto (-31), 3) := by decide +kernel
theorem dX12_findEnds_107 : decode cX12_findEnds 107 = .ok (.aload_n 0, 1) := by decide +kernel
theorem dX12_findEnds_108 : decode cX12_findEnds 108 = .ok (.getfield 656, 3) := by decide +kernel
theorem dX12_findEnds_111 : decode cX12_findEnds 111 = .ok (.ireturn, 1) := by decide +kernel
theorem dX12_findEnds_112 : decode cX12_findEnds 112 = .ok (.aload_n 0, 1) := by decide +kernel
theorem dX12_findEnds_113 : decode cX12_findEnds 113 = .ok (.iconst 1, 1) := by decide +kernel
theorem dX12_findEnds_114 : decode cX12_findEnds 114 = .ok (.putfield 597, 3) := by decide +kernel
theorem dX12_findEnds_117 : decode cX12_findEnds 117 = .ok (.aload_n 0, 1) := by decide +kernel
theorem dX12_findEnds_118 : decode cX12_findEnds 118 = .ok (.invokevirtual 550, 3) := by decide +kernel
theorem dX12_findEnds_121 : decode cX12_findEnds 121 = .ok (.ifCond .eq 7, 3) := by decide +kernel
theorem dX12_findEnds_124 : decode cX12_findEnds 124 = .ok (.aload_n 0, 1) := by decide +kernel
theorem dX12_findEnds_125 : decode cX12_findEnds 125 = .ok (.invokevirtual 665, 3) := by decide +kernel
theorem dX12_findEnds_128 : decode cX12_findEnds 128 = .ok (.aload_n 0, 1) := by decide +kernel
theorem dX12_findEnds_129 : decode cX12_findEnds 129 = .ok (.invokevirtual 550, 3) := by decide +kernel
theorem dX12_findEnds_132 : decode cX12_findEnds 132 = .ok (.ifCond .eq 7, 3) := by decide +kernel
theorem dX12_findEnds_135 : decode cX12_findEnds 135 = .ok (.aload_n 0, 1) := by decide +kernel
theorem dX12_findEnds_136 : decode cX12_findEnds 136 = .ok (.invokevirtual 668, 3) := by decide +kernel
theorem dX12_findEnds_139 : decode cX12_findEnds 139 = .ok (.aload_n 0, 1) := by decide +kernel
theorem dX12_findEnds_140 : decode cX12_findEnds 140 = .ok (.invokevirtual 550, 3) := by decide +kernel
theorem dX12_findEnds_143 : decode cX12_findEnds 143 = .ok (.ifCond .ne 11, 3) := by decide +kernel
theorem dX12_findEnds_146 : decode cX12_findEnds 146 = .ok (.aload_n 0, 1) := by decide +kernel
theorem dX12_findEnds_147 : decode cX12_findEnds 147 = .ok (.getfield 538, 3) := by decide +kernel
theorem dX12_findEnds_150 : decode cX12_findEnds 150 = .ok (.bipush 20, 2) := by decide +kernel
theorem dX12_findEnds_152 : decode cX12_findEnds 152 = .ok (.isub, 1) := by decide +kernel
theorem dX12_findEnds_153 : decode cX12_findEnds 153 = .ok (.ireturn, 1) := by decide +kernel
theorem dX12_findEnds_154 : decode cX12_findEnds 154 = .ok (.iload_n 1, 1) := by decide +kernel
theorem dX12_findEnds_155 : decode cX12_findEnds 155 = .ok (.ifCond .eq 5, 3) := by decide +kernel
theorem dX12_findEnds_158 : decode cX12_findEnds 158 = .ok (.iconst 0, 1) := by decide +kernel
theorem dX12_findEnds_159 : decode cX12_findEnds 159 = .ok (.ireturn, 1) := by decide +kernel
theorem dX12_findEnds_160 : decode cX12_findEnds 160 = .ok (.aload_n 0, 1) := by decide +kernel
theorem dX12_findEnds_161 : decode cX12_findEnds 161 = .ok (.getfield 582, 3) := by decide +kernel
theorem dX12_findEnds_164 : decode cX12_findEnds 164 = .ok (.iconst (-1), 1) := by decide +kernel
theorem dX12_findEnds_165 : decode cX12_findEnds 165 = .ok (.if_icmp .eq 55, 3) := by decide +kernel
theorem dX12_findEnds_168 : decode cX12_findEnds 168 = .ok (.bipush 40, 2) := by decide +kernel
theorem dX12_findEnds_170 : decode cX12_findEnds 170 = .ok (.aload_n 0, 1) := by decide +kernel
theorem dX12_findEnds_171 : decode cX12_findEnds 171 = .ok (.getfield 564, 3) := by decide +kernel
theorem dX12_findEnds_174 : decode cX12_findEnds 174 = .ok (.imul, 1) := by decide +kernel
theorem dX12_findEnds_175 : decode cX12_findEnds 175 = .ok (.aload_n 0, 1) := by decide +kernel
theorem dX12_findEnds_176 : decode cX12_findEnds 176 = .ok (.getfield 582, 3) := by decide +kernel
theorem dX12_findEnds_179 : decode cX12_findEnds 179 = .ok (.iadd, 1) := by decide +kernel
theorem dX12_findEnds_180 : decode cX12_findEnds 180 = .ok (.istore_n 2, 1) := by decide +kernel
theorem dX12_findEnds_181 : decode cX12_findEnds 181 = .ok (.iconst 0, 1) := by decide +kernel
theorem dX12_findEnds_182 : decode cX12_findEnds 182 = .ok (.istore_n 3, 1) := by decide +kernel
theorem dX12_findEnds_183 : decode cX12_findEnds 183 = .ok (.iload_n 3, 1) := by decide +kernel
theorem dX12_findEnds_184 : decode cX12_findEnds 184 = .ok (.aload_n 0, 1) := by decide +kernel
theorem dX12_findEnds_185 : decode cX12_findEnds 185 = .ok (.getfield 153, 3) := by decide +kernel
theorem dX12_findEnds_188 : decode cX12_findEnds 188 = .ok (.iload_n 2, 1) := by decide +kernel
theorem dX12_findEnds_189 : decode cX12_findEnds 189 = .ok (.iaload, 1) := by decide +kernel
theorem dX12_findEnds_190 : decode cX12_findEnds 190 = .ok (.if_icmp .ge 25, 3) := by decide +kernel
theorem dX12_findEnds_193 : decode cX12_findEnds 193 = .ok (.aload_n 0, 1) := by decide +kernel
theorem dX12_findEnds_194 : decode cX12_findEnds 194 = .ok (.aload_n 0, 1) := by decide +kernel
theorem dX12_findEnds_195 : decode cX12_findEnds 195 = .ok (.getfield 135, 3) := by decide +kernel
theorem dX12_findEnds_198 : decode cX12_findEnds 198 = .ok (.bipush 8, 2) := by decide +kernel
theorem dX12_findEnds_200 : decode cX12_findEnds 200 = .ok (.iload_n 2, 1) := by decide +kernel
theorem dX12_findEnds_201 : decode cX12_findEnds 201 = .ok (.imul, 1) := by decide +kernel
theorem dX12_findEnds_202 : decode cX12_findEnds 202 = .ok (.iload_n 3, 1) := by decide +kernel
theorem dX12_findEnds_203 : decode cX12_findEnds 203 = .ok (.iadd, 1) := by decide +kernel
theorem dX12_findEnds_204 : decode cX12_findEnds 204 = .ok (.laload, 1) := by decide +kernel
theorem dX12_findEnds_205 : decode cX12_findEnds 205 = .ok (.iconst 0, 1) := by decide +kernel
theorem dX12_findEnds_206 : decode cX12_findEnds 206 = .ok (.invokevirtual 729, 3) := by decide +kernel
theorem dX12_findEnds_209 : decode cX12_findEnds 209 = .ok (.iinc 3 1, 3) := by decide +kernel
theorem dX12_findEnds_212 : decode cX12_findEnds 212 = .ok (.goto (-29), 3) := by decide +kernel
theorem dX12_findEnds_215 : decode cX12_findEnds 215 = .ok (.aload_n 0, 1) := by decide +kernel
theorem dX12_findEnds_216 : decode cX12_findEnds 216 = .ok (.getfield 656, 3) := by decide +kernel
theorem dX12_findEnds_219 : decode cX12_findEnds 219 = .ok (.ireturn, 1) := by decide +kernel
theorem dX12_findEnds_220 : decode cX12_findEnds 220 = .ok (.iconst 1, 1) := by decide +kernel
theorem dX12_findEnds_221 : decode cX12_findEnds 221 = .ok (.istore_n 2, 1) := by decide +kernel
theorem dX12_findEnds_222 : decode cX12_findEnds 222 = .ok (.iload_n 2, 1) := by decide +kernel
theorem dX12_findEnds_223 : decode cX12_findEnds 223 = .ok (.aload_n 0, 1) := by decide +kernel
theorem dX12_findEnds_224 : decode cX12_findEnds 224 = .ok (.getfield 116, 3) := by decide +kernel
theorem dX12_findEnds_227 : decode cX12_findEnds 227 = .ok (.aload_n 0, 1) := by decide +kernel
theorem dX12_findEnds_228 : decode cX12_findEnds 228 = .ok (.getfield 564, 3) := by decide +kernel
theorem dX12_findEnds_231 : decode cX12_findEnds 231 = .ok (.iaload, 1) := by decide +kernel
theorem dX12_findEnds_232 : decode cX12_findEnds 232 = .ok (.if_icmp .ge 60, 3) := by decide +kernel
theorem dX12_findEnds_235 : decode cX12_findEnds 235 = .ok (.aload_n 0, 1) := by decide +kernel
theorem dX12_findEnds_236 : decode cX12_findEnds 236 = .ok (.getfield 573, 3) := by decide +kernel
theorem dX12_findEnds_239 : decode cX12_findEnds 239 = .ok (.aload_n 0, 1) := by decide +kernel
theorem dX12_findEnds_240 : decode cX12_findEnds 240 = .ok (.getfield 522, 3) := by decide +kernel
theorem dX12_findEnds_243 : decode cX12_findEnds 243 = .ok (.if_icmp .ne 49, 3) := by decide +kernel
theorem dX12_findEnds_246 : decode cX12_findEnds 246 = .ok (.aload_n 0, 1) := by decide +kernel
theorem dX12_findEnds_247 : decode cX12_findEnds 247 = .ok (.getfield 38, 3) := by decide +kernel
theorem dX12_findEnds_250 : decode cX12_findEnds 250 = .ok (.bipush 17, 2) := by decide +kernel
theorem dX12_findEnds_252 : decode cX12_findEnds 252 = .ok (.aload_n 0, 1) := by decide +kernel
theorem dX12_findEnds_253 : decode cX12_findEnds 253 = .ok (.getfield 564, 3) := by decide +kernel
theorem dX12_findEnds_256 : decode cX12_findEnds 256 = .ok (.imul, 1) := by decide +kernel
theorem dX12_findEnds_257 : decode cX12_findEnds 257 = .ok (.iload_n 2, 1) := by decide +kernel
theorem dX12_findEnds_258 : decode cX12_findEnds 258 = .ok (.iadd, 1) := by decide +kernel
theorem dX12_findEnds_259 : decode cX12_findEnds 259 = .ok (.iaload, 1) := by decide +kernel
theorem dX12_findEnds_260 : decode cX12_findEnds 260 = .ok (.aload_n 0, 1) := by decide +kernel
theorem dX12_findEnds_261 : decode cX12_findEnds 261 = .ok (.getfield 567, 3) := by decide +kernel
theorem dX12_findEnds_264 : decode cX12_findEnds 264 = .ok (.if_icmp .ne 22, 3) := by decide +kernel
theorem dX12_findEnds_267 : decode cX12_findEnds 267 = .ok (.aload_n 0, 1) := by decide +kernel
theorem dX12_findEnds_268 : decode cX12_findEnds 268 = .ok (.aload_n 0, 1) := by decide +kernel
theorem dX12_findEnds_269 : decode cX12_findEnds 269 = .ok (.getfield 110, 3) := by decide +kernel
theorem dX12_findEnds_272 : decode cX12_findEnds 272 = .ok (.bipush 17, 2) := by decide +kernel
theorem dX12_findEnds_274 : decode cX12_findEnds 274 = .ok (.aload_n 0, 1) := by decide +kernel
theorem dX12_findEnds_275 : decode cX12_findEnds 275 = .ok (.getfield 564, 3) := by decide +kernel
theorem dX12_findEnds_278 : decode cX12_findEnds 278 = .ok (.imul, 1) := by decide +kernel
theorem dX12_findEnds_279 : decode cX12_findEnds 279 = .ok (.iload_n 2, 1) := by decide +kernel
theorem dX12_findEnds_280 : decode cX12_findEnds 280 = .ok (.iadd, 1) := by decide +kernel
theorem dX12_findEnds_281 : decode cX12_findEnds 281 = .ok (.laload, 1) := by decide +kernel
theorem dX12_findEnds_282 : decode cX12_findEnds 282 = .ok (.iconst 0, 1) := by decide +kernel
theorem dX12_findEnds_283 : decode cX12_findEnds 283 = .ok (.invokevirtual 729, 3) := by decide +kernel
theorem dX12_findEnds_286 : decode cX12_findEnds 286 = .ok (.iinc 2 1, 3) := by decide +kernel
theorem dX12_findEnds_289 : decode cX12_findEnds 289 = .ok (.goto (-67), 3) := by decide +kernel
theorem dX12_findEnds_292 : decode cX12_findEnds 292 = .ok (.iconst 0, 1) := by decide +kernel
theorem dX12_findEnds_293 : decode cX12_findEnds 293 = .ok (.istore_n 2, 1) := by decide +kernel
theorem dX12_findEnds_294 : decode cX12_findEnds 294 = .ok (.iload_n 2, 1) := by decide +kernel
theorem dX12_findEnds_295 : decode cX12_findEnds 295 = .ok (.aload_n 0, 1) := by decide +kernel
theorem dX12_findEnds_296 : decode cX12_findEnds 296 = .ok (.getfield 122, 3) := by decide +kernel
theorem dX12_findEnds_299 : decode cX12_findEnds 299 = .ok (.aload_n 0, 1) := by decide +kernel
theorem dX12_findEnds_300 : decode cX12_findEnds 300 = .ok (.getfield 564, 3) := by decide +kernel
theorem dX12_findEnds_303 : decode cX12_findEnds 303 = .ok (.iaload, 1) := by decide +kernel
theorem dX12_findEnds_304 : decode cX12_findEnds 304 = .ok (.if_icmp .ge 104, 3) := by decide +kernel
theorem dX12_findEnds_307 : decode cX12_findEnds 307 = .ok (.aload_n 0, 1) := by decide +kernel
theorem dX12_findEnds_308 : decode cX12_findEnds 308 = .ok (.getfield 585, 3) := by decide +kernel
theorem dX12_findEnds_311 : decode cX12_findEnds 311 = .ok (.ifCond .ne 97, 3) := by decide +kernel
theorem dX12_findEnds_314 : decode cX12_findEnds 314 = .ok (.bipush 40, 2) := by decide +kernel
theorem dX12_findEnds_316 : decode cX12_findEnds 316 = .ok (.aload_n 0, 1) := by decide +kernel
theorem dX12_findEnds_317 : decode cX12_findEnds 317 = .ok (.getfield 564, 3) := by decide +kernel
theorem dX12_findEnds_320 : decode cX12_findEnds 320 = .ok (.imul, 1) := by decide +kernel
theorem dX12_findEnds_321 : decode cX12_findEnds 321 = .ok (.iload_n 2, 1) := by decide +kernel
theorem dX12_findEnds_322 : decode cX12_findEnds 322 = .ok (.iadd, 1) := by decide +kernel
theorem dX12_findEnds_323 : decode cX12_findEnds 323 = .ok (.istore_n 3, 1) := by decide +kernel
theorem dX12_findEnds_324 : decode cX12_findEnds 324 = .ok (.aload_n 0, 1) := by decide +kernel
theorem dX12_findEnds_325 : decode cX12_findEnds 325 = .ok (.getfield 141, 3) := by decide +kernel
theorem dX12_findEnds_328 : decode cX12_findEnds 328 = .ok (.iload_n 3, 1) := by decide +kernel
theorem dX12_findEnds_329 : decode cX12_findEnds 329 = .ok (.iaload, 1) := by decide +kernel
theorem dX12_findEnds_330 : decode cX12_findEnds 330 = .ok (.ifCond .eq 23, 3) := by decide +kernel
theorem dX12_findEnds_333 : decode cX12_findEnds 333 = .ok (.aload_n 0, 1) := by decide +kernel
theorem dX12_findEnds_334 : decode cX12_findEnds 334 = .ok (.getfield 141, 3) := by decide +kernel
theorem dX12_findEnds_337 : decode cX12_findEnds 337 = .ok (.iload_n 3, 1) := by decide +kernel
theorem dX12_findEnds_338 : decode cX12_findEnds 338 = .ok (.iaload, 1) := by decide +kernel
theorem dX12_findEnds_339 : decode cX12_findEnds 339 = .ok (.iconst 1, 1) := by decide +kernel
theorem dX12_findEnds_340 : decode cX12_findEnds 340 = .ok (.if_icmp .eq 13, 3) := by decide +kernel
theorem dX12_findEnds_343 : decode cX12_findEnds 343 = .ok (.aload_n 0, 1) := by decide +kernel
theorem dX12_findEnds_344 : decode cX12_findEnds 344 = .ok (.getfield 141, 3) := by decide +kernel
theorem dX12_findEnds_347 : decode cX12_findEnds 347 = .ok (.iload_n 3, 1) := by decide +kernel
theorem dX12_findEnds_348 : decode cX12_findEnds 348 = .ok (.iaload, 1) := by decide +kernel
theorem dX12_findEnds_349 : decode cX12_findEnds 349 = .ok (.iconst 5, 1) := by decide +kernel
theorem dX12_findEnds_350 : decode cX12_findEnds 350 = .ok (.if_icmp .ne 7, 3) := by decide +kernel
theorem dX12_findEnds_353 : decode cX12_findEnds 353 = .ok (.iconst 1, 1) := by decide +kernel
theorem dX12_findEnds_354 : decode cX12_findEnds 354 = .ok (.goto 4, 3) := by decide +kernel
theorem dX12_findEnds_357 : decode cX12_findEnds 357 = .ok (.iconst 0, 1) := by decide +kernel
theorem dX12_findEnds_358 : decode cX12_findEnds 358 = .ok (.istore 4, 2) := by decide +kernel
theorem dX12_findEnds_360 : decode cX12_findEnds 360 = .ok (.aload_n 0, 1) := by decide +kernel
theorem dX12_findEnds_361 : decode cX12_findEnds 361 = .ok (.iload_n 2, 1) := by decide +kernel
theorem dX12_findEnds_362 : decode cX12_findEnds 362 = .ok (.invokevirtual 576, 3) := by decide +kernel
theorem dX12_findEnds_365 : decode cX12_findEnds 365 = .ok (.ifCond .eq 37, 3) := by decide +kernel
theorem dX12_findEnds_368 : decode cX12_findEnds 368 = .ok (.aload_n 0, 1) := by decide +kernel
theorem dX12_findEnds_369 : decode cX12_findEnds 369 = .ok (.getfield 180, 3) := by decide +kernel
theorem dX12_findEnds_372 : decode cX12_findEnds 372 = .ok (.iload_n 3, 1) := by decide +kernel
theorem dX12_findEnds_373 : decode cX12_findEnds 373 = .ok (.baload, 1) := by decide +kernel
theorem dX12_findEnds_374 : decode cX12_findEnds 374 = .ok (.ifCond .ne 28, 3) := by decide +kernel
theorem dX12_findEnds_377 : decode cX12_findEnds 377 = .ok (.iload 4, 2) := by decide +kernel
theorem dX12_findEnds_379 : decode cX12_findEnds 379 = .ok (.ifCond .ne 12, 3) := by decide +kernel
theorem dX12_findEnds_382 : decode cX12_findEnds 382 = .ok (.aload_n 0, 1) := by decide +kernel
theorem dX12_findEnds_383 : decode cX12_findEnds 383 = .ok (.getfield 264, 3) := by decide +kernel
theorem dX12_findEnds_386 : decode cX12_findEnds 386 = .ok (.iload_n 2, 1) := by decide +kernel
theorem dX12_findEnds_387 : decode cX12_findEnds 387 = .ok (.baload, 1) := by decide +kernel
theorem dX12_findEnds_388 : decode cX12_findEnds 388 = .ok (.ifCond .ne 14, 3) := by decide +kernel
theorem dX12_findEnds_391 : decode cX12_findEnds 391 = .ok (.aload_n 0, 1) := by decide +kernel
theorem dX12_findEnds_392 : decode cX12_findEnds 392 = .ok (.aload_n 0, 1) := by decide +kernel
theorem dX12_findEnds_393 : decode cX12_findEnds 393 = .ok (.getfield 129, 3) := by decide +kernel
theorem dX12_findEnds_396 : decode cX12_findEnds 396 = .ok (.iload_n 3, 1) := by decide +kernel
theorem dX12_findEnds_397 : decode cX12_findEnds 397 = .ok (.laload, 1) := by decide +kernel
theorem dX12_findEnds_398 : decode cX12_findEnds 398 = .ok (.iconst 1, 1) := by decide +kernel
theorem dX12_findEnds_399 : decode cX12_findEnds 399 = .ok (.invokevirtual 729, 3) := by decide +kernel
theorem dX12_findEnds_402 : decode cX12_findEnds 402 = .ok (.iinc 2 1, 3) := by decide +kernel
theorem dX12_findEnds_405 : decode cX12_findEnds 405 = .ok (.goto (-111), 3) := by decide +kernel
theorem dX12_findEnds_408 : decode cX12_findEnds 408 = .ok (.aload_n 0, 1) := by decide +kernel
theorem dX12_findEnds_409 : decode cX12_findEnds 409 = .ok (.getfield 656, 3) := by decide +kernel
theorem dX12_findEnds_412 : decode cX12_findEnds 412 = .ok (.ireturn, 1) := by decide +kernel
theorem dX12_fine_0 : decode cX12_fine 0 = .ok (.aload_n 0, 1) := by decide +kernel
theorem dX12_fine_1 : decode cX12_fine 1 = .ok (.getfield 394, 3) := by decide +kernel
theorem dX12_fine_4 : decode cX12_fine 4 = .ok (.ifCond .ne 7, 3) := by decide +kernel
theorem dX12_fine_7 : decode cX12_fine 7 = .ok (.iconst 1, 1) := by decide +kernel
theorem dX12_fine_8 : decode cX12_fine 8 = .ok (.goto 4, 3) := by decide +kernel
theorem dX12_fine_11 : decode cX12_fine 11 = .ok (.iconst 0, 1) := by decide +kernel
