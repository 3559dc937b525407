theorem ya_gcons {big : List Cond} {w0 : Cond} {ws : List Cond} (h1 : w0 ∈ big) (h2 : goodWord w0 = true) (h : GoodIn big ws) : GoodIn big (w0 :: ws) := fun w hw => by
  rcases List.mem_cons.mp hw with e | hw
  · rw [e]
    exact ⟨h1, good_of_word h2⟩
  · exact h w hw
theorem dL_board_0 : decode cL_board 0 = .ok (.aload_n 0, 1) := by decide +kernel
theorem dL_board_1 : decode cL_board 1 = .ok (.iconst 0, 1) := by decide +kernel
theorem dL_board_2 : decode cL_board 2 = .ok (.invokevirtual 34, 3) := by decide +kernel
theorem dL_board_5 : decode cL_board 5 = .ok (.istore_n 1, 1) := by decide +kernel
theorem dL_board_6 : decode cL_board 6 = .ok (.iload_n 1, 1) := by decide +kernel
theorem dL_board_7 : decode cL_board 7 = .ok (.iconst 2, 1) := by decide +kernel
theorem dL_board_8 : decode cL_board 8 = .ok (.idiv, 1) := by decide +kernel
theorem dL_board_9 : decode cL_board 9 = .ok (.istore_n 2, 1) := by decide +kernel
theorem dL_board_10 : decode cL_board 10 = .ok (.iconst 0, 1) := by decide +kernel
theorem dL_board_11 : decode cL_board 11 = .ok (.istore_n 3, 1) := by decide +kernel
theorem dL_board_12 : decode cL_board 12 = .ok (.iconst 0, 1) := by decide +kernel
theorem dL_board_13 : decode cL_board 13 = .ok (.istore 4, 2) := by decide +kernel
theorem dL_board_15 : decode cL_board 15 = .ok (.iconst 0, 1) := by decide +kernel
theorem dL_board_16 : decode cL_board 16 = .ok (.istore 5, 2) := by decide +kernel
theorem dL_board_18 : decode cL_board 18 = .ok (.iload_n 1, 1) := by decide +kernel
theorem dL_board_19 : decode cL_board 19 = .ok (.ifCond .lt 75, 3) := by decide +kernel
theorem dL_board_22 : decode cL_board 22 = .ok (.iload_n 1, 1) := by decide +kernel
theorem dL_board_23 : decode cL_board 23 = .ok (.iconst 2, 1) := by decide +kernel
theorem dL_board_24 : decode cL_board 24 = .ok (.irem, 1) := by decide +kernel
theorem dL_board_25 : decode cL_board 25 = .ok (.iconst 1, 1) := by decide +kernel
theorem dL_board_26 : decode cL_board 26 = .ok (.if_icmp .ne 7, 3) := by decide +kernel
theorem dL_board_29 : decode cL_board 29 = .ok (.iconst 1, 1) := by decide +kernel
theorem dL_board_30 : decode cL_board 30 = .ok (.goto 4, 3) := by decide +kernel
theorem dL_board_33 : decode cL_board 33 = .ok (.iconst 0, 1) := by decide +kernel
theorem dL_board_34 : decode cL_board 34 = .ok (.aload_n 0, 1) := by decide +kernel
theorem dL_board_35 : decode cL_board 35 = .ok (.iconst 1, 1) := by decide +kernel
theorem dL_board_36 : decode cL_board 36 = .ok (.invokevirtual 34, 3) := by decide +kernel
theorem dL_board_39 : decode cL_board 39 = .ok (.ifCond .lt 7, 3) := by decide +kernel
theorem dL_board_42 : decode cL_board 42 = .ok (.iconst 1, 1) := by decide +kernel
theorem dL_board_43 : decode cL_board 43 = .ok (.goto 4, 3) := by decide +kernel
theorem dL_board_46 : decode cL_board 46 = .ok (.iconst 0, 1) := by decide +kernel
theorem dL_board_47 : decode cL_board 47 = .ok (.if_icmp .ne 47, 3) := by decide +kernel
theorem dL_board_50 : decode cL_board 50 = .ok (.aload_n 0, 1) := by decide +kernel
theorem dL_board_51 : decode cL_board 51 = .ok (.invokevirtual 37, 3) := by decide +kernel
theorem dL_board_54 : decode cL_board 54 = .ok (.aload_n 0, 1) := by decide +kernel
theorem dL_board_55 : decode cL_board 55 = .ok (.iconst 2, 1) := by decide +kernel
theorem dL_board_56 : decode cL_board 56 = .ok (.invokevirtual 34, 3) := by decide +kernel
theorem dL_board_59 : decode cL_board 59 = .ok (.aload_n 0, 1) := by decide +kernel
theorem dL_board_60 : decode cL_board 60 = .ok (.iconst 1, 1) := by decide +kernel
theorem dL_board_61 : decode cL_board 61 = .ok (.invokevirtual 34, 3) := by decide +kernel
theorem dL_board_64 : decode cL_board 64 = .ok (.ifCond .lt 7, 3) := by decide +kernel
theorem dL_board_67 : decode cL_board 67 = .ok (.iconst 1, 1) := by decide +kernel
theorem dL_board_68 : decode cL_board 68 = .ok (.goto 4, 3) := by decide +kernel
theorem dL_board_71 : decode cL_board 71 = .ok (.iconst 0, 1) := by decide +kernel
theorem dL_board_72 : decode cL_board 72 = .ok (.iadd, 1) := by decide +kernel
theorem dL_board_73 : decode cL_board 73 = .ok (.if_icmp .ne 21, 3) := by decide +kernel
theorem dL_board_76 : decode cL_board 76 = .ok (.aload_n 0, 1) := by decide +kernel
theorem dL_board_77 : decode cL_board 77 = .ok (.bipush 6, 2) := by decide +kernel
theorem dL_board_79 : decode cL_board 79 = .ok (.invokevirtual 34, 3) := by decide +kernel
theorem dL_board_82 : decode cL_board 82 = .ok (.aload_n 0, 1) := by decide +kernel
theorem dL_board_83 : decode cL_board 83 = .ok (.iconst 5, 1) := by decide +kernel
theorem dL_board_84 : decode cL_board 84 = .ok (.invokevirtual 34, 3) := by decide +kernel
theorem dL_board_87 : decode cL_board 87 = .ok (.if_icmp .gt 7, 3) := by decide +kernel
theorem dL_board_90 : decode cL_board 90 = .ok (.iconst 1, 1) := by decide +kernel
theorem dL_board_91 : decode cL_board 91 = .ok (.goto 4, 3) := by decide +kernel
theorem dL_board_94 : decode cL_board 94 = .ok (.iconst 0, 1) := by decide +kernel
theorem dL_board_95 : decode cL_board 95 = .ok (.istore 6, 2) := by decide +kernel
theorem dL_board_97 : decode cL_board 97 = .ok (.iconst 0, 1) := by decide +kernel
theorem dL_board_98 : decode cL_board 98 = .ok (.istore 7, 2) := by decide +kernel
theorem dL_board_100 : decode cL_board 100 = .ok (.iload 7, 2) := by decide +kernel
theorem dL_board_102 : decode cL_board 102 = .ok (.iconst 5, 1) := by decide +kernel
theorem dL_board_103 : decode cL_board 103 = .ok (.if_icmp .ge 100, 3) := by decide +kernel
theorem dL_board_106 : decode cL_board 106 = .ok (.iload 6, 2) := by decide +kernel
theorem dL_board_108 : decode cL_board 108 = .ok (.ifCond .eq 95, 3) := by decide +kernel
theorem dL_board_111 : decode cL_board 111 = .ok (.iload_n 1, 1) := by decide +kernel
theorem dL_board_112 : decode cL_board 112 = .ok (.iconst 2, 1) := by decide +kernel
theorem dL_board_113 : decode cL_board 113 = .ok (.irem, 1) := by decide +kernel
theorem dL_board_114 : decode cL_board 114 = .ok (.iconst 1, 1) := by decide +kernel
theorem dL_board_115 : decode cL_board 115 = .ok (.if_icmp .eq 19, 3) := by decide +kernel
theorem dL_board_118 : decode cL_board 118 = .ok (.aload_n 0, 1) := by decide +kernel
theorem dL_board_119 : decode cL_board 119 = .ok (.iload_n 2, 1) := by decide +kernel
theorem dL_board_120 : decode cL_board 120 = .ok (.iload 7, 2) := by decide +kernel
theorem dL_board_122 : decode cL_board 122 = .ok (.invokevirtual 40, 3) := by decide +kernel
theorem dL_board_125 : decode cL_board 125 = .ok (.aload_n 0, 1) := by decide +kernel
theorem dL_board_126 : decode cL_board 126 = .ok (.iload 7, 2) := by decide +kernel
theorem dL_board_128 : decode cL_board 128 = .ok (.invokevirtual 43, 3) := by decide +kernel
theorem dL_board_131 : decode cL_board 131 = .ok (.if_icmp .ne 63, 3) := by decide +kernel
theorem dL_board_134 : decode cL_board 134 = .ok (.aload_n 0, 1) := by decide +kernel
theorem dL_board_135 : decode cL_board 135 = .ok (.iload_n 2, 1) := by decide +kernel
theorem dL_board_136 : decode cL_board 136 = .ok (.iconst 1, 1) := by decide +kernel
theorem dL_board_137 : decode cL_board 137 = .ok (.iadd, 1) := by decide +kernel
theorem dL_board_138 : decode cL_board 138 = .ok (.iload 7, 2) := by decide +kernel
theorem dL_board_140 : decode cL_board 140 = .ok (.invokevirtual 40, 3) := by decide +kernel
theorem dL_board_143 : decode cL_board 143 = .ok (.iconst (-1), 1) := by decide +kernel
theorem dL_board_144 : decode cL_board 144 = .ok (.if_icmp .ne 50, 3) := by decide +kernel
theorem dL_board_147 : decode cL_board 147 = .ok (.aload_n 0, 1) := by decide +kernel
theorem dL_board_148 : decode cL_board 148 = .ok (.iload_n 2, 1) := by decide +kernel
theorem dL_board_149 : decode cL_board 149 = .ok (.iload 7, 2) := by decide +kernel
theorem dL_board_151 : decode cL_board 151 = .ok (.invokevirtual 40, 3) := by decide +kernel
theorem dL_board_154 : decode cL_board 154 = .ok (.ifCond .lt 40, 3) := by decide +kernel
theorem dL_board_157 : decode cL_board 157 = .ok (.iload_n 2, 1) := by decide +kernel
theorem dL_board_158 : decode cL_board 158 = .ok (.bipush 16, 2) := by decide +kernel
theorem dL_board_160 : decode cL_board 160 = .ok (.if_icmp .lt 30, 3) := by decide +kernel
theorem dL_board_163 : decode cL_board 163 = .ok (.aload_n 0, 1) := by decide +kernel
theorem dL_board_164 : decode cL_board 164 = .ok (.iload_n 2, 1) := by decide +kernel
theorem dL_board_165 : decode cL_board 165 = .ok (.bipush 16, 2) := by decide +kernel
theorem dL_board_167 : decode cL_board 167 = .ok (.isub, 1) := by decide +kernel
theorem dL_board_168 : decode cL_board 168 = .ok (.iload 7, 2) := by decide +kernel
theorem dL_board_170 : decode cL_board 170 = .ok (.invokevirtual 40, 3) := by decide +kernel
theorem dL_board_173 : decode cL_board 173 = .ok (.iconst (-1), 1) := by decide +kernel
theorem dL_board_174 : decode cL_board 174 = .ok (.if_icmp .ne 20, 3) := by decide +kernel
theorem dL_board_177 : decode cL_board 177 = .ok (.aload_n 0, 1) := by decide +kernel
theorem dL_board_178 : decode cL_board 178 = .ok (.iload_n 2, 1) := by decide +kernel
theorem dL_board_179 : decode cL_board 179 = .ok (.bipush 15, 2) := by decide +kernel
theorem dL_board_181 : decode cL_board 181 = .ok (.isub, 1) := by decide +kernel
theorem dL_board_182 : decode cL_board 182 = .ok (.iload 7, 2) := by decide +kernel
theorem dL_board_184 : decode cL_board 184 = .ok (.invokevirtual 40, 3) := by decide +kernel
theorem dL_board_187 : decode cL_board 187 = .ok (.ifCond .lt 7, 3) := by decide +kernel
theorem dL_board_190 : decode cL_board 190 = .ok (.iconst 1, 1) := by decide +kernel
theorem dL_board_191 : decode cL_board 191 = .ok (.goto 4, 3) := by decide +kernel
theorem dL_board_194 : decode cL_board 194 = .ok (.iconst 0, 1) := by decide +kernel
theorem dL_board_195 : decode cL_board 195 = .ok (.istore 6, 2) := by decide +kernel
theorem dL_board_197 : decode cL_board 197 = .ok (.iinc 7 1, 3) := by decide +kernel
theorem dL_board_200 : decode cL_board 200 = .ok (.goto (-100), 3) := by decide +kernel
theorem dL_board_203 : decode cL_board 203 = .ok (.iconst 0, 1) := by decide +kernel
theorem dL_board_204 : decode cL_board 204 = .ok (.istore 7, 2) := by decide +kernel
theorem dL_board_206 : decode cL_board 206 = .ok (.iload 7, 2) := by decide +kernel
theorem dL_board_208 : decode cL_board 208 = .ok (.iconst 3, 1) := by decide +kernel
theorem dL_board_209 : decode cL_board 209 = .ok (.if_icmp .ge 55, 3) := by decide +kernel
theorem dL_board_212 : decode cL_board 212 = .ok (.iload 6, 2) := by decide +kernel
theorem dL_board_214 : decode cL_board 214 = .ok (.ifCond .eq 50, 3) := by decide +kernel
theorem dL_board_217 : decode cL_board 217 = .ok (.aload_n 0, 1) := by decide +kernel
theorem dL_board_218 : decode cL_board 218 = .ok (.iload 7, 2) := by decide +kernel
theorem dL_board_220 : decode cL_board 220 = .ok (.iconst 0, 1) := by decide +kernel
theorem dL_board_221 : decode cL_board 221 = .ok (.invokevirtual 46, 3) := by decide +kernel
theorem dL_board_224 : decode cL_board 224 = .ok (.iconst 1, 1) := by decide +kernel
theorem dL_board_225 : decode cL_board 225 = .ok (.if_icmp .ne 7, 3) := by decide +kernel
theorem dL_board_228 : decode cL_board 228 = .ok (.iconst 1, 1) := by decide +kernel
theorem dL_board_229 : decode cL_board 229 = .ok (.goto 4, 3) := by decide +kernel
theorem dL_board_232 : decode cL_board 232 = .ok (.iconst 0, 1) := by decide +kernel
theorem dL_board_233 : decode cL_board 233 = .ok (.aload_n 0, 1) := by decide +kernel
theorem dL_board_234 : decode cL_board 234 = .ok (.iconst 1, 1) := by decide +kernel
theorem dL_board_235 : decode cL_board 235 = .ok (.invokevirtual 34, 3) := by decide +kernel
theorem dL_board_238 : decode cL_board 238 = .ok (.iload 7, 2) := by decide +kernel
theorem dL_board_240 : decode cL_board 240 = .ok (.if_icmp .ne 7, 3) := by decide +kernel
theorem dL_board_243 : decode cL_board 243 = .ok (.iconst 1, 1) := by decide +kernel
theorem dL_board_244 : decode cL_board 244 = .ok (.goto 4, 3) := by decide +kernel
theorem dL_board_247 : decode cL_board 247 = .ok (.iconst 0, 1) := by decide +kernel
theorem dL_board_248 : decode cL_board 248 = .ok (.if_icmp .ne 7, 3) := by decide +kernel
theorem dL_board_251 : decode cL_board 251 = .ok (.iconst 1, 1) := by decide +kernel
theorem dL_board_252 : decode cL_board 252 = .ok (.goto 4, 3) := by decide +kernel
theorem dL_board_255 : decode cL_board 255 = .ok (.iconst 0, 1) := by decide +kernel
theorem dL_board_256 : decode cL_board 256 = .ok (.istore 6, 2) := by decide +kernel
theorem dL_board_258 : decode cL_board 258 = .ok (.iinc 7 1, 3) := by decide +kernel
theorem dL_board_261 : decode cL_board 261 = .ok (.goto (-55), 3) := by decide +kernel
theorem dL_board_264 : decode cL_board 264 = .ok (.iconst 0, 1) := by decide +kernel
theorem dL_board_265 : decode cL_board 265 = .ok (.istore 7, 2) := by decide +kernel
theorem dL_board_267 : decode cL_board 267 = .ok (.iload 7, 2) := by decide +kernel
theorem dL_board_269 : decode cL_board 269 = .ok (.iconst 4, 1) := by decide +kernel
theorem dL_board_270 : decode cL_board 270 = .ok (.if_icmp .ge 335, 3) := by decide +kernel
theorem dL_board_273 : decode cL_board 273 = .ok (.iload 6, 2) := by decide +kernel
theorem dL_board_275 : decode cL_board 275 = .ok (.ifCond .eq 330, 3) := by decide +kernel
theorem dL_board_278 : decode cL_board 278 = .ok (.aload_n 0, 1) := by decide +kernel
theorem dL_board_279 : decode cL_board 279 = .ok (.iload 7, 2) := by decide +kernel
theorem dL_board_281 : decode cL_board 281 = .ok (.iconst 1, 1) := by decide +kernel
theorem dL_board_282 : decode cL_board 282 = .ok (.invokevirtual 49, 3) := by decide +kernel
theorem dL_board_285 : decode cL_board 285 = .ok (.istore 8, 2) := by decide +kernel
theorem dL_board_287 : decode cL_board 287 = .ok (.aload_n 0, 1) := by decide +kernel
theorem dL_board_288 : decode cL_board 288 = .ok (.iload 7, 2) := by decide +kernel
theorem dL_board_290 : decode cL_board 290 = .ok (.bipush 7, 2) := by decide +kernel
theorem dL_board_292 : decode cL_board 292 = .ok (.invokevirtual 49, 3) := by decide +kernel
theorem dL_board_295 : decode cL_board 295 = .ok (.iconst 1, 1) := by decide +kernel
theorem dL_board_296 : decode cL_board 296 = .ok (.if_icmp .ne 7, 3) := by decide +kernel
theorem dL_board_299 : decode cL_board 299 = .ok (.iconst 1, 1) := by decide +kernel
theorem dL_board_300 : decode cL_board 300 = .ok (.goto 4, 3) := by decide +kernel
theorem dL_board_303 : decode cL_board 303 = .ok (.iconst 0, 1) := by decide +kernel
theorem dL_board_304 : decode cL_board 304 = .ok (.istore 9, 2) := by decide +kernel
theorem dL_board_306 : decode cL_board 306 = .ok (.aload_n 0, 1) := by decide +kernel
theorem dL_board_307 : decode cL_board 307 = .ok (.iload 7, 2) := by decide +kernel
theorem dL_board_309 : decode cL_board 309 = .ok (.invokevirtual 52, 3) := by decide +kernel
theorem dL_board_312 : decode cL_board 312 = .ok (.istore 10, 2) := by decide +kernel
theorem dL_board_314 : decode cL_board 314 = .ok (.iload_n 3, 1) := by decide +kernel
theorem dL_board_315 : decode cL_board 315 = .ok (.aload_n 0, 1) := by decide +kernel
theorem dL_board_316 : decode cL_board 316 = .ok (.iload 7, 2) := by decide +kernel
theorem dL_board_318 : decode cL_board 318 = .ok (.iconst 0, 1) := by decide +kernel
theorem dL_board_319 : decode cL_board 319 = .ok (.invokevirtual 49, 3) := by decide +kernel
theorem dL_board_322 : decode cL_board 322 = .ok (.iconst 1, 1) := by decide +kernel
theorem dL_board_323 : decode cL_board 323 = .ok (.if_icmp .ne 7, 3) := by decide +kernel
theorem dL_board_326 : decode cL_board 326 = .ok (.iconst 1, 1) := by decide +kernel
theorem dL_board_327 : decode cL_board 327 = .ok (.goto 4, 3) := by decide +kernel
theorem dL_board_330 : decode cL_board 330 = .ok (.iconst 0, 1) := by decide +kernel
theorem dL_board_331 : decode cL_board 331 = .ok (.iadd, 1) := by decide +kernel
theorem dL_board_332 : decode cL_board 332 = .ok (.istore_n 3, 1) := by decide +kernel
theorem dL_board_333 : decode cL_board 333 = .ok (.iload 4, 2) := by decide +kernel
theorem dL_board_335 : decode cL_board 335 = .ok (.aload_n 0, 1) := by decide +kernel
theorem dL_board_336 : decode cL_board 336 = .ok (.iload 7, 2) := by decide +kernel
theorem dL_board_338 : decode cL_board 338 = .ok (.iconst 4, 1) := by decide +kernel
theorem dL_board_339 : decode cL_board 339 = .ok (.invokevirtual 49, 3) := by decide +kernel
theorem dL_board_342 : decode cL_board 342 = .ok (.iadd, 1) := by decide +kernel
theorem dL_board_343 : decode cL_board 343 = .ok (.istore 4, 2) := by decide +kernel
theorem dL_board_345 : decode cL_board 345 = .ok (.iload 5, 2) := by decide +kernel
theorem dL_board_347 : decode cL_board 347 = .ok (.aload_n 0, 1) := by decide +kernel
theorem dL_board_348 : decode cL_board 348 = .ok (.iload 7, 2) := by decide +kernel
theorem dL_board_350 : decode cL_board 350 = .ok (.iconst 5, 1) := by decide +kernel
theorem dL_board_351 : decode cL_board 351 = .ok (.invokevirtual 49, 3) := by decide +kernel
theorem dL_board_354 : decode cL_board 354 = .ok (.iadd, 1) := by decide +kernel
theorem dL_board_355 : decode cL_board 355 = .ok (.istore 5, 2) := by decide +kernel
theorem dL_board_357 : decode cL_board 357 = .ok (.iload 8, 2) := by decide +kernel
theorem dL_board_359 : decode cL_board 359 = .ok (.iload_n 1, 1) := by decide +kernel
theorem dL_board_360 : decode cL_board 360 = .ok (.if_icmp .gt 236, 3) := by decide +kernel
theorem dL_board_363 : decode cL_board 363 = .ok (.iload 8, 2) := by decide +kernel
theorem dL_board_365 : decode cL_board 365 = .ok (.iconst (-1), 1) := by decide +kernel
theorem dL_board_366 : decode cL_board 366 = .ok (.if_icmp .eq 15, 3) := by decide +kernel
theorem dL_board_369 : decode cL_board 369 = .ok (.iload 9, 2) := by decide +kernel
theorem dL_board_371 : decode cL_board 371 = .ok (.ifCond .eq 10, 3) := by decide +kernel
theorem dL_board_374 : decode cL_board 374 = .ok (.iload 8, 2) := by decide +kernel
theorem dL_board_376 : decode cL_board 376 = .ok (.iconst 2, 1) := by decide +kernel
theorem dL_board_377 : decode cL_board 377 = .ok (.irem, 1) := by decide +kernel
theorem dL_board_378 : decode cL_board 378 = .ok (.ifCond .ne 218, 3) := by decide +kernel
theorem dL_board_381 : decode cL_board 381 = .ok (.iload 8, 2) := by decide +kernel
theorem dL_board_383 : decode cL_board 383 = .ok (.ifCond .lt 7, 3) := by decide +kernel
theorem dL_board_386 : decode cL_board 386 = .ok (.iconst 1, 1) := by decide +kernel
theorem dL_board_387 : decode cL_board 387 = .ok (.goto 4, 3) := by decide +kernel
theorem dL_board_390 : decode cL_board 390 = .ok (.iconst 0, 1) := by decide +kernel
theorem dL_board_391 : decode cL_board 391 = .ok (.aload_n 0, 1) := by decide +kernel
theorem dL_board_392 : decode cL_board 392 = .ok (.iload 7, 2) := by decide +kernel
theorem dL_board_394 : decode cL_board 394 = .ok (.iconst 0, 1) := by decide +kernel
theorem dL_board_395 : decode cL_board 395 = .ok (.invokevirtual 49, 3) := by decide +kernel
theorem dL_board_398 : decode cL_board 398 = .ok (.iconst 1, 1) := by decide +kernel
theorem dL_board_399 : decode cL_board 399 = .ok (.if_icmp .ne 7, 3) := by decide +kernel
theorem dL_board_402 : decode cL_board 402 = .ok (.iconst 1, 1) := by decide +kernel
theorem dL_board_403 : decode cL_board 403 = .ok (.goto 4, 3) := by decide +kernel
theorem dL_board_406 : decode cL_board 406 = .ok (.iconst 0, 1) := by decide +kernel
theorem dL_board_407 : decode cL_board 407 = .ok (.if_icmp .ne 189, 3) := by decide +kernel
theorem dL_board_410 : decode cL_board 410 = .ok (.aload_n 0, 1) := by decide +kernel
theorem dL_board_411 : decode cL_board 411 = .ok (.iload 7, 2) := by decide +kernel
theorem dL_board_413 : decode cL_board 413 = .ok (.iconst 2, 1) := by decide +kernel
theorem dL_board_414 : decode cL_board 414 = .ok (.invokevirtual 49, 3) := by decide +kernel
theorem dL_board_417 : decode cL_board 417 = .ok (.iconst 5, 1) := by decide +kernel
theorem dL_board_418 : decode cL_board 418 = .ok (.if_icmp .gt 178, 3) := by decide +kernel
theorem dL_board_421 : decode cL_board 421 = .ok (.aload_n 0, 1) := by decide +kernel
theorem dL_board_422 : decode cL_board 422 = .ok (.iload 7, 2) := by decide +kernel
theorem dL_board_424 : decode cL_board 424 = .ok (.iconst 3, 1) := by decide +kernel
theorem dL_board_425 : decode cL_board 425 = .ok (.invokevirtual 49, 3) := by decide +kernel
theorem dL_board_428 : decode cL_board 428 = .ok (.aload_n 0, 1) := by decide +kernel
theorem dL_board_429 : decode cL_board 429 = .ok (.iload 7, 2) := by decide +kernel
theorem dL_board_431 : decode cL_board 431 = .ok (.iconst 4, 1) := by decide +kernel
theorem dL_board_432 : decode cL_board 432 = .ok (.invokevirtual 49, 3) := by decide +kernel
theorem dL_board_435 : decode cL_board 435 = .ok (.if_icmp .gt 161, 3) := by decide +kernel
theorem dL_board_438 : decode cL_board 438 = .ok (.aload_n 0, 1) := by decide +kernel
theorem dL_board_439 : decode cL_board 439 = .ok (.iload 7, 2) := by decide +kernel
theorem dL_board_441 : decode cL_board 441 = .ok (.iconst 0, 1) := by decide +kernel
theorem dL_board_442 : decode cL_board 442 = .ok (.invokevirtual 49, 3) := by decide +kernel
theorem dL_board_445 : decode cL_board 445 = .ok (.iconst 2, 1) := by decide +kernel
theorem dL_board_446 : decode cL_board 446 = .ok (.if_icmp .ne 7, 3) := by decide +kernel
theorem dL_board_449 : decode cL_board 449 = .ok (.iconst 1, 1) := by decide +kernel
theorem dL_board_450 : decode cL_board 450 = .ok (.goto 4, 3) := by decide +kernel
theorem dL_board_453 : decode cL_board 453 = .ok (.iconst 0, 1) := by decide +kernel
theorem dL_board_454 : decode cL_board 454 = .ok (.iload 9, 2) := by decide +kernel
theorem dL_board_456 : decode cL_board 456 = .ok (.ifCond .eq 29, 3) := by decide +kernel
theorem dL_board_459 : decode cL_board 459 = .ok (.iload 8, 2) := by decide +kernel
theorem dL_board_461 : decode cL_board 461 = .ok (.iconst (-1), 1) := by decide +kernel
theorem dL_board_462 : decode cL_board 462 = .ok (.if_icmp .ne 23, 3) := by decide +kernel
theorem dL_board_465 : decode cL_board 465 = .ok (.aload_n 0, 1) := by decide +kernel
theorem dL_board_466 : decode cL_board 466 = .ok (.iload 7, 2) := by decide +kernel
theorem dL_board_468 : decode cL_board 468 = .ok (.iconst 3, 1) := by decide +kernel
theorem dL_board_469 : decode cL_board 469 = .ok (.invokevirtual 49, 3) := by decide +kernel
theorem dL_board_472 : decode cL_board 472 = .ok (.aload_n 0, 1) := by decide +kernel
theorem dL_board_473 : decode cL_board 473 = .ok (.bipush 7, 2) := by decide +kernel
theorem dL_board_475 : decode cL_board 475 = .ok (.invokevirtual 34, 3) := by decide +kernel
theorem dL_board_478 : decode cL_board 478 = .ok (.if_icmp .lt 7, 3) := by decide +kernel
theorem dL_board_481 : decode cL_board 481 = .ok (.iconst 1, 1) := by decide +kernel
theorem dL_board_482 : decode cL_board 482 = .ok (.goto 4, 3) := by decide +kernel
theorem dL_board_485 : decode cL_board 485 = .ok (.iconst 0, 1) := by decide +kernel
theorem dL_board_486 : decode cL_board 486 = .ok (.if_icmp .ne 110, 3) := by decide +kernel
theorem dL_board_489 : decode cL_board 489 = .ok (.iload 10, 2) := by decide +kernel
theorem dL_board_491 : decode cL_board 491 = .ok (.iconst (-1), 1) := by decide +kernel
theorem dL_board_492 : decode cL_board 492 = .ok (.if_icmp .ne 7, 3) := by decide +kernel
theorem dL_board_495 : decode cL_board 495 = .ok (.iconst 1, 1) := by decide +kernel
theorem dL_board_496 : decode cL_board 496 = .ok (.goto 4, 3) := by decide +kernel
theorem dL_board_499 : decode cL_board 499 = .ok (.iconst 0, 1) := by decide +kernel
theorem dL_board_500 : decode cL_board 500 = .ok (.aload_n 0, 1) := by decide +kernel
theorem dL_board_501 : decode cL_board 501 = .ok (.iload 7, 2) := by decide +kernel
theorem dL_board_503 : decode cL_board 503 = .ok (.iconst 0, 1) := by decide +kernel
theorem dL_board_504 : decode cL_board 504 = .ok (.invokevirtual 49, 3) := by decide +kernel
theorem dL_board_507 : decode cL_board 507 = .ok (.iconst 2, 1) := by decide +kernel
theorem dL_board_508 : decode cL_board 508 = .ok (.if_icmp .ne 7, 3) := by decide +kernel
theorem dL_board_511 : decode cL_board 511 = .ok (.iconst 1, 1) := by decide +kernel
theorem dL_board_512 : decode cL_board 512 = .ok (.goto 4, 3) := by decide +kernel
theorem dL_board_515 : decode cL_board 515 = .ok (.iconst 0, 1) := by decide +kernel
theorem dL_board_516 : decode cL_board 516 = .ok (.if_icmp .ne 80, 3) := by decide +kernel
theorem dL_board_519 : decode cL_board 519 = .ok (.iload 9, 2) := by decide +kernel
theorem dL_board_521 : decode cL_board 521 = .ok (.ifCond .ne 9, 3) := by decide +kernel
theorem dL_board_524 : decode cL_board 524 = .ok (.iload 10, 2) := by decide +kernel
theorem dL_board_526 : decode cL_board 526 = .ok (.iconst 1, 1) := by decide +kernel
theorem dL_board_527 : decode cL_board 527 = .ok (.if_icmp .ne 69, 3) := by decide +kernel
theorem dL_board_530 : decode cL_board 530 = .ok (.iload_n 1, 1) := by decide +kernel
theorem dL_board_531 : decode cL_board 531 = .ok (.iconst 2, 1) := by decide +kernel
theorem dL_board_532 : decode cL_board 532 = .ok (.irem, 1) := by decide +kernel
theorem dL_board_533 : decode cL_board 533 = .ok (.iconst 1, 1) := by decide +kernel
theorem dL_board_534 : decode cL_board 534 = .ok (.if_icmp .eq 29, 3) := by decide +kernel
theorem dL_board_537 : decode cL_board 537 = .ok (.iload 8, 2) := by decide +kernel
theorem dL_board_539 : decode cL_board 539 = .ok (.ifCond .ge 24, 3) := by decide +kernel
theorem dL_board_542 : decode cL_board 542 = .ok (.iload 10, 2) := by decide +kernel
theorem dL_board_544 : decode cL_board 544 = .ok (.iconst (-1), 1) := by decide +kernel
theorem dL_board_545 : decode cL_board 545 = .ok (.if_icmp .eq 18, 3) := by decide +kernel
theorem dL_board_548 : decode cL_board 548 = .ok (.iload 10, 2) := by decide +kernel
theorem dL_board_550 : decode cL_board 550 = .ok (.iconst 1, 1) := by decide +kernel
theorem dL_board_551 : decode cL_board 551 = .ok (.if_icmp .ne 45, 3) := by decide +kernel
theorem dL_board_554 : decode cL_board 554 = .ok (.aload_n 0, 1) := by decide +kernel
theorem dL_board_555 : decode cL_board 555 = .ok (.iload 7, 2) := by decide +kernel
theorem dL_board_557 : decode cL_board 557 = .ok (.invokevirtual 55, 3) := by decide +kernel
theorem dL_board_560 : decode cL_board 560 = .ok (.ifCond .ne 36, 3) := by decide +kernel
theorem dL_board_563 : decode cL_board 563 = .ok (.iload 10, 2) := by decide +kernel
theorem dL_board_565 : decode cL_board 565 = .ok (.iconst 1, 1) := by decide +kernel
theorem dL_board_566 : decode cL_board 566 = .ok (.if_icmp .eq 12, 3) := by decide +kernel
theorem dL_board_569 : decode cL_board 569 = .ok (.aload_n 0, 1) := by decide +kernel
theorem dL_board_570 : decode cL_board 570 = .ok (.iload 7, 2) := by decide +kernel
theorem dL_board_572 : decode cL_board 572 = .ok (.invokevirtual 55, 3) := by decide +kernel
theorem dL_board_575 : decode cL_board 575 = .ok (.ifCond .ne 21, 3) := by decide +kernel
theorem dL_board_578 : decode cL_board 578 = .ok (.iload 9, 2) := by decide +kernel
theorem dL_board_580 : decode cL_board 580 = .ok (.ifCond .eq 12, 3) := by decide +kernel
theorem dL_board_583 : decode cL_board 583 = .ok (.aload_n 0, 1) := by decide +kernel
theorem dL_board_584 : decode cL_board 584 = .ok (.iload 7, 2) := by decide +kernel
theorem dL_board_586 : decode cL_board 586 = .ok (.invokevirtual 55, 3) := by decide +kernel
theorem dL_board_589 : decode cL_board 589 = .ok (.ifCond .ne 7, 3) := by decide +kernel
theorem dL_board_592 : decode cL_board 592 = .ok (.iconst 1, 1) := by decide +kernel
theorem dL_board_593 : decode cL_board 593 = .ok (.goto 4, 3) := by decide +kernel
theorem dL_board_596 : decode cL_board 596 = .ok (.iconst 0, 1) := by decide +kernel
theorem dL_board_597 : decode cL_board 597 = .ok (.istore 6, 2) := by decide +kernel
theorem dL_board_599 : decode cL_board 599 = .ok (.iinc 7 1, 3) := by decide +kernel
theorem dL_board_602 : decode cL_board 602 = .ok (.goto (-335), 3) := by decide +kernel
theorem dL_board_605 : decode cL_board 605 = .ok (.iload 6, 2) := by decide +kernel
theorem dL_board_607 : decode cL_board 607 = .ok (.ifCond .eq 54, 3) := by decide +kernel
theorem dL_board_610 : decode cL_board 610 = .ok (.iload_n 3, 1) := by decide +kernel
theorem dL_board_611 : decode cL_board 611 = .ok (.aload_n 0, 1) := by decide +kernel
theorem dL_board_612 : decode cL_board 612 = .ok (.iconst 3, 1) := by decide +kernel
theorem dL_board_613 : decode cL_board 613 = .ok (.invokevirtual 34, 3) := by decide +kernel
theorem dL_board_616 : decode cL_board 616 = .ok (.if_icmp .ne 45, 3) := by decide +kernel
theorem dL_board_619 : decode cL_board 619 = .ok (.iload 4, 2) := by decide +kernel
theorem dL_board_621 : decode cL_board 621 = .ok (.aload_n 0, 1) := by decide +kernel
theorem dL_board_622 : decode cL_board 622 = .ok (.iconst 4, 1) := by decide +kernel
theorem dL_board_623 : decode cL_board 623 = .ok (.invokevirtual 34, 3) := by decide +kernel
theorem dL_board_626 : decode cL_board 626 = .ok (.if_icmp .ne 35, 3) := by decide +kernel
theorem dL_board_629 : decode cL_board 629 = .ok (.iload 5, 2) := by decide +kernel
theorem dL_board_631 : decode cL_board 631 = .ok (.aload_n 0, 1) := by decide +kernel
theorem dL_board_632 : decode cL_board 632 = .ok (.iconst 5, 1) := by decide +kernel
theorem dL_board_633 : decode cL_board 633 = .ok (.invokevirtual 34, 3) := by decide +kernel
theorem dL_board_636 : decode cL_board 636 = .ok (.if_icmp .ne 25, 3) := by decide +kernel
theorem dL_board_639 : decode cL_board 639 = .ok (.aload_n 0, 1) := by decide +kernel
theorem dL_board_640 : decode cL_board 640 = .ok (.invokevirtual 58, 3) := by decide +kernel
theorem dL_board_643 : decode cL_board 643 = .ok (.dconst 0, 1) := by decide +kernel
theorem dL_board_644 : decode cL_board 644 = .ok (.dcmp .l, 1) := by decide +kernel
theorem dL_board_645 : decode cL_board 645 = .ok (.ifCond .lt 16, 3) := by decide +kernel
theorem dL_board_648 : decode cL_board 648 = .ok (.aload_n 0, 1) := by decide +kernel
theorem dL_board_649 : decode cL_board 649 = .ok (.invokevirtual 58, 3) := by decide +kernel
theorem dL_board_652 : decode cL_board 652 = .ok (.dconst 1, 1) := by decide +kernel
theorem dL_board_653 : decode cL_board 653 = .ok (.dcmp .g, 1) := by decide +kernel
theorem dL_board_654 : decode cL_board 654 = .ok (.ifCond .gt 7, 3) := by decide +kernel
theorem dL_board_657 : decode cL_board 657 = .ok (.iconst 1, 1) := by decide +kernel
theorem dL_board_658 : decode cL_board 658 = .ok (.goto 4, 3) := by decide +kernel
theorem dL_board_661 : decode cL_board 661 = .ok (.iconst 0, 1) := by decide +kernel
theorem dL_board_662 : decode cL_board 662 = .ok (.ireturn, 1) := by decide +kernel
set_option maxRecDepth 20000 in
theorem ggL_act_L_cell : GoodIn wsL_act wsL_cell := goodIn_r _ [4, 5] (by decide +kernel) (by decide +kernel)
set_option maxRecDepth 20000 in
theorem gL_act_L_cell : GoodIn wsL_act (va_wsS RL 62 yL_cell wsL_cell) := goodIn_app (goodIn_of _ (by decide +kernel)) ggL_act_L_cell
set_option maxRecDepth 20000 in
theorem ggL_act_L_low : GoodIn wsL_act wsL_low := goodIn_r _ [8, 9] (by decide +kernel) (by decide +kernel)
set_option maxRecDepth 20000 in
theorem gL_act_L_low : GoodIn wsL_act (va_wsS RL 68 yL_low wsL_low) := goodIn_app (goodIn_of _ (by decide +kernel)) ggL_act_L_low
set_option maxRecDepth 20000 in
theorem ggL_act_L_come : GoodIn wsL_act wsL_come := goodIn_ca (goodIn_ca (goodIn_r _ [12, 13, 14, 15, 16, 17, 18, 19, 20, 21, 22, 23, 24, 25, 26, 27, 28, 29, 30, 31, 32, 33, 34, 35, 36, 37, 38, 39, 40, 41, 42, 43, 44, 45, 46, 47, 48, 49, 50, 51, 52, 53, 54, 55, 56, 57, 58, 59, 60, 61, 62, 63, 64, 65, 66, 67, 68, 69, 70, 71, 72, 73, 74, 75, 76, 77, 78, 79, 80, 81, 82, 83, 84, 85, 86, 87, 88, 89, 90, 257, 258, 259, 260, 261, 262, 263, 264, 265, 266, 267, 268, 269, 270, 271, 272, 273, 274, 275, 276, 277, 278, 279, 280, 281] (by decide +kernel) (by decide +kernel)) (goodIn_sub (fun _ h => List.mem_cons_of_mem _ (List.mem_append_left _ (List.mem_append_left _ (List.mem_append_right _ h)))) (by decide +kernel))) (goodIn_sub (fun _ h => List.mem_cons_of_mem _ (List.mem_append_left _ (List.mem_append_right _ h))) (by decide +kernel))
set_option maxRecDepth 20000 in
theorem gL_act_L_come : GoodIn wsL_act (va_wsS RL 71 yL_come wsL_come) := goodIn_app (goodIn_of _ (by decide +kernel)) ggL_act_L_come
set_option maxRecDepth 20000 in
theorem ggL_act_X4_count : GoodIn wsL_act wsX4_count := goodIn_ca (goodIn_r _ [94, 95, 96, 23, 24, 97, 98, 99, 100, 101, 102, 103, 39, 104, 105, 106, 31, 107, 108, 109, 110, 111, 33, 112, 87, 88, 89, 90, 29, 30, 32, 113, 114, 115, 48, 116, 51, 117, 118, 119, 120, 121, 122, 123, 124, 125, 126, 127, 257, 258, 259, 260, 261, 262, 263, 264, 265, 266, 267, 268, 269, 270, 271, 272, 273, 274, 275, 276, 277, 278, 279, 280, 281] (by decide +kernel) (by decide +kernel)) (goodIn_sub (fun _ h => List.mem_cons_of_mem _ (List.mem_append_right _ h)) (by decide +kernel))
set_option maxRecDepth 20000 in
theorem gL_act_X4_count : GoodIn wsL_act (wsV RL 34 RX4 yX4_count wsX4_count) := goodIn_app (goodIn_of _ (by decide +kernel)) ggL_act_X4_count
set_option maxRecDepth 20000 in
theorem ggL_act_L_done : GoodIn wsL_act wsL_done := goodIn_ca (goodIn_ca (goodIn_r _ [130, 13, 131, 132, 133, 17, 134, 19, 20, 21, 22, 23, 24, 25, 26, 27, 135, 109, 110, 31, 111, 33, 34, 35, 36, 37, 38, 39, 40, 41, 42, 43, 44, 45, 46, 47, 48, 49, 50, 51, 52, 53, 54, 55, 56, 57, 58, 59, 60, 61, 62, 63, 64, 65, 66, 67, 68, 69, 70, 71, 72, 73, 74, 75, 76, 77, 78, 79, 80, 81, 136, 137, 138, 139, 140, 141, 142, 143, 144, 145, 146, 147, 148, 149, 150, 151, 152, 153, 154, 155, 156, 157, 158, 86, 87, 88, 89, 90, 29, 30, 32, 257, 258, 259, 260, 261, 262, 263, 264, 265, 266, 267, 268, 269, 270, 271, 272, 273, 274, 275, 276, 277, 278, 279, 280, 281] (by decide +kernel) (by decide +kernel)) (goodIn_sub (fun _ h => List.mem_cons_of_mem _ (List.mem_append_left _ (List.mem_append_left _ (List.mem_append_right _ h)))) (by decide +kernel))) (goodIn_sub (fun _ h => List.mem_cons_of_mem _ (List.mem_append_left _ (List.mem_append_right _ h))) (by decide +kernel))
set_option maxRecDepth 20000 in
theorem gL_act_L_done : GoodIn wsL_act (va_wsS RL 74 yL_done wsL_done) := goodIn_app (goodIn_of _ (by decide +kernel)) ggL_act_L_done
set_option maxRecDepth 20000 in
theorem ggL_act_L_chalk : GoodIn wsL_act wsL_chalk := goodIn_ca (goodIn_ca (goodIn_ca (goodIn_r _ [161, 13, 162, 163, 164, 17, 165, 19, 20, 95, 96, 21, 22, 23, 24, 25, 26, 27, 166, 167, 168, 31, 169, 58, 34, 35, 36, 37, 38, 39, 40, 41, 42, 43, 44, 45, 46, 47, 48, 49, 50, 51, 52, 53, 54, 55, 56, 57, 59, 60, 61, 62, 63, 64, 33, 65, 66, 67, 68, 69, 70, 71, 72, 73, 74, 75, 76, 77, 78, 79, 80, 81, 170, 171, 172, 173, 257, 258, 259, 260, 261, 262, 263, 264, 265, 266, 267, 268, 269, 270, 271, 272, 273, 274, 275, 276, 277, 278, 279, 280, 281] (by decide +kernel) (by decide +kernel)) (goodIn_sub (fun _ h => List.mem_cons_of_mem _ (List.mem_append_left _ (List.mem_append_left _ (List.mem_append_right _ h)))) (by decide +kernel))) (goodIn_sub (fun _ h => List.mem_cons_of_mem _ (List.mem_append_right _ h)) (by decide +kernel))) (goodIn_sub (fun _ h => List.mem_cons_of_mem _ (List.mem_append_left _ (List.mem_append_right _ h))) (by decide +kernel))
set_option maxRecDepth 20000 in
theorem gL_act_L_chalk : GoodIn wsL_act (va_wsS RL 76 yL_chalk wsL_chalk) := goodIn_app (goodIn_of _ (by decide +kernel)) ggL_act_L_chalk
set_option maxRecDepth 20000 in
theorem ggL_act_X4_reader : GoodIn wsL_act wsX4_reader := goodIn_ca (goodIn_r _ [177, 19, 20, 23, 178, 179, 25, 26, 17, 27, 34, 35, 36, 37, 38, 39, 40, 41, 42, 43, 44, 45, 46, 47, 48, 49, 50, 51, 52, 53, 54, 55, 56, 31, 57, 58, 59, 60, 61, 62, 63, 64, 33, 65, 66, 67, 68, 69, 70, 71, 72, 73, 74, 75, 76, 77, 78, 79, 80, 81, 180, 181, 182, 183, 257, 258, 259, 260, 261, 262, 263, 264, 265, 266, 272, 273, 274, 275, 276, 277, 278, 279, 280, 281, 267, 268, 269, 270, 271] (by decide +kernel) (by decide +kernel)) (goodIn_sub (fun _ h => List.mem_cons_of_mem _ (List.mem_append_left _ (List.mem_append_left _ (List.mem_append_right _ h)))) (by decide +kernel))
set_option maxRecDepth 20000 in
theorem gL_act_X4_reader : GoodIn wsL_act (wsV RL 79 RX4 yX4_reader wsX4_reader) := goodIn_app (goodIn_of _ (by decide +kernel)) ggL_act_X4_reader
set_option maxRecDepth 20000 in
theorem ggL_act_X4_set : GoodIn wsL_act wsX4_set := goodIn_ca (goodIn_r _ [187, 95, 96, 23, 103, 34, 35, 36, 17, 37, 38, 39, 40, 41, 42, 43, 44, 45, 46, 47, 48, 49, 50, 51, 52, 53, 54, 55, 56, 31, 57, 58, 59, 60, 61, 62, 63, 64, 33, 65, 66, 67, 68, 69, 70, 71, 72, 73, 74, 75, 76, 77, 78, 79, 80, 81, 257, 258, 259, 260, 261, 262, 263, 264, 265, 266, 267, 268, 269, 270, 271, 272, 273, 274, 275, 276, 277, 278, 279, 280, 281] (by decide +kernel) (by decide +kernel)) (goodIn_sub (fun _ h => List.mem_cons_of_mem _ (List.mem_append_right _ h)) (by decide +kernel))
set_option maxRecDepth 20000 in
theorem gL_act_X4_set : GoodIn wsL_act (wsV RL 83 RX4 yX4_set wsX4_set) := goodIn_app (goodIn_of _ (by decide +kernel)) ggL_act_X4_set
set_option maxRecDepth 20000 in
theorem ggL_act_L_begin : GoodIn wsL_act wsL_begin := goodIn_ca (goodIn_ca (goodIn_r _ [190, 13, 191, 192, 193, 17, 194, 19, 20, 21, 22, 23, 178, 24, 25, 26, 27, 195, 196, 197, 48, 198, 51, 117, 53, 199, 200, 201, 69, 202, 71, 72, 76, 34, 35, 36, 37, 38, 39, 40, 41, 42, 43, 44, 45, 46, 47, 49, 50, 52, 54, 55, 56, 31, 57, 58, 59, 60, 61, 62, 63, 64, 33, 65, 66, 67, 68, 70, 73, 74, 75, 77, 78, 79, 80, 81, 203, 204, 205, 206, 207, 208, 209, 210, 211, 212, 167, 168, 169, 213, 214, 215, 216, 257, 258, 259, 260, 261, 262, 263, 264, 265, 266, 272, 273, 274, 275, 276, 277, 278, 279, 280, 281, 267, 268, 269, 270, 271] (by decide +kernel) (by decide +kernel)) (goodIn_sub (fun _ h => List.mem_cons_of_mem _ (List.mem_append_left _ (List.mem_append_left _ (List.mem_append_right _ h)))) (by decide +kernel))) (goodIn_sub (fun _ h => List.mem_cons_of_mem _ (List.mem_append_left _ (List.mem_append_right _ h))) (by decide +kernel))
set_option maxRecDepth 20000 in
theorem gL_act_L_begin : GoodIn wsL_act (va_wsS RL 86 yL_begin wsL_begin) := goodIn_app (goodIn_of _ (by decide +kernel)) ggL_act_L_begin
set_option maxRecDepth 20000 in
theorem ggL_act_L_undo : GoodIn wsL_act wsL_undo := goodIn_ca (goodIn_r _ [219, 13, 220, 221, 222, 17, 223, 21, 22, 39, 23, 38, 41, 42, 43, 44, 40, 45, 46, 47, 48, 49, 50, 51, 52, 53, 54, 55, 56, 31, 57, 58, 59, 60, 61, 62, 63, 64, 33, 65, 66, 67, 68, 69, 70, 71, 72, 73, 74, 75, 76, 77, 78, 79, 80, 81, 257, 258, 259, 260, 261, 262, 263, 264, 265, 266, 267, 268, 269, 270, 271, 272, 273, 274, 275, 276, 277, 278, 279, 280, 281] (by decide +kernel) (by decide +kernel)) (goodIn_sub (fun _ h => List.mem_cons_of_mem _ (List.mem_append_left _ (List.mem_append_right _ h))) (by decide +kernel))
set_option maxRecDepth 20000 in
theorem gL_act_L_undo : GoodIn wsL_act (va_wsS RL 88 yL_undo wsL_undo) := goodIn_app (goodIn_of _ (by decide +kernel)) ggL_act_L_undo
set_option maxRecDepth 20000 in
theorem ggL_act_L_look : GoodIn wsL_act wsL_look := goodIn_ca (goodIn_ca (goodIn_r _ [226, 13, 227, 228, 229, 17, 230, 19, 20, 21, 22, 23, 178, 231, 25, 26, 27, 34, 35, 36, 37, 38, 39, 40, 41, 42, 43, 44, 45, 46, 47, 48, 49, 50, 51, 52, 53, 54, 55, 56, 31, 57, 58, 59, 60, 61, 62, 63, 64, 33, 65, 66, 67, 68, 69, 70, 71, 72, 73, 74, 75, 76, 77, 78, 79, 80, 81, 232, 233, 234, 235, 236, 237, 238, 239, 240, 241, 242, 243, 209, 210, 211, 207, 212, 167, 168, 169, 244, 214, 215, 216, 245, 246, 247, 248, 249, 250, 251, 252, 148, 149, 150, 151, 152, 153, 154, 155, 156, 157, 158, 253, 254, 255, 256, 257, 258, 259, 260, 261, 262, 263, 264, 265, 266, 272, 273, 274, 275, 276, 277, 278, 279, 280, 281, 267, 268, 269, 270, 271] (by decide +kernel) (by decide +kernel)) (goodIn_sub (fun _ h => List.mem_cons_of_mem _ (List.mem_append_left _ (List.mem_append_left _ (List.mem_append_right _ h)))) (by decide +kernel))) (goodIn_sub (fun _ h => List.mem_cons_of_mem _ (List.mem_append_left _ (List.mem_append_right _ h))) (by decide +kernel))
set_option maxRecDepth 20000 in
theorem gL_act_L_look : GoodIn wsL_act (va_wsS RL 91 yL_look wsL_look) := goodIn_app (goodIn_of _ (by decide +kernel)) ggL_act_L_look
theorem dL_act_0 : decode cL_act 0 = .ok (.aload_n 1, 1) := by decide +kernel
theorem dL_act_1 : decode cL_act 1 = .ok (.iload_n 2, 1) := by decide +kernel
theorem dL_act_2 : decode cL_act 2 = .ok (.iconst 1, 1) := by decide +kernel
theorem dL_act_3 : decode cL_act 3 = .ok (.iadd, 1) := by decide +kernel
theorem dL_act_4 : decode cL_act 4 = .ok (.invokestatic 62, 3) := by decide +kernel
theorem dL_act_7 : decode cL_act 7 = .ok (.istore_n 3, 1) := by decide +kernel
theorem dL_act_8 : decode cL_act 8 = .ok (.iload_n 3, 1) := by decide +kernel
theorem dL_act_9 : decode cL_act 9 = .ok (.iconst 4, 1) := by decide +kernel
theorem dL_act_10 : decode cL_act 10 = .ok (.invokestatic 68, 3) := by decide +kernel
theorem dL_act_13 : decode cL_act 13 = .ok (.istore 4, 2) := by decide +kernel
theorem dL_act_15 : decode cL_act 15 = .ok (.aload_n 1, 1) := by decide +kernel
theorem dL_act_16 : decode cL_act 16 = .ok (.iload_n 2, 1) := by decide +kernel
theorem dL_act_17 : decode cL_act 17 = .ok (.invokestatic 62, 3) := by decide +kernel
theorem dL_act_20 : decode cL_act 20 = .ok (.bipush 26, 2) := by decide +kernel
theorem dL_act_22 : decode cL_act 22 = .ok (.invokestatic 68, 3) := by decide +kernel
theorem dL_act_25 : decode cL_act 25 = .ok (.tableswitch 199 0 17 #[87, 87, 87, 87, 97, 97, 97, 97, 134, 134, 134, 152, 174, 187, 187, 187, 187, 194], 87) := by decide +kernel
theorem dL_act_112 : decode cL_act 112 = .ok (.aload_n 0, 1) := by decide +kernel
theorem dL_act_113 : decode cL_act 113 = .ok (.iload_n 3, 1) := by decide +kernel
theorem dL_act_114 : decode cL_act 114 = .ok (.iconst 3, 1) := by decide +kernel
theorem dL_act_115 : decode cL_act 115 = .ok (.invokestatic 68, 3) := by decide +kernel
theorem dL_act_118 : decode cL_act 118 = .ok (.invokestatic 71, 3) := by decide +kernel
theorem dL_act_121 : decode cL_act 121 = .ok (.ireturn, 1) := by decide +kernel
theorem dL_act_122 : decode cL_act 122 = .ok (.aload_n 0, 1) := by decide +kernel
theorem dL_act_123 : decode cL_act 123 = .ok (.aload_n 0, 1) := by decide +kernel
theorem dL_act_124 : decode cL_act 124 = .ok (.iconst 1, 1) := by decide +kernel
theorem dL_act_125 : decode cL_act 125 = .ok (.invokevirtual 34, 3) := by decide +kernel
theorem dL_act_128 : decode cL_act 128 = .ok (.ifCond .lt 22, 3) := by decide +kernel
theorem dL_act_131 : decode cL_act 131 = .ok (.iload_n 3, 1) := by decide +kernel
theorem dL_act_132 : decode cL_act 132 = .ok (.iconst 3, 1) := by decide +kernel
theorem dL_act_133 : decode cL_act 133 = .ok (.ishr, 1) := by decide +kernel
theorem dL_act_134 : decode cL_act 134 = .ok (.bipush 6, 2) := by decide +kernel
theorem dL_act_136 : decode cL_act 136 = .ok (.invokestatic 68, 3) := by decide +kernel
theorem dL_act_139 : decode cL_act 139 = .ok (.ifCond .le 11, 3) := by decide +kernel
theorem dL_act_142 : decode cL_act 142 = .ok (.aload_n 0, 1) := by decide +kernel
theorem dL_act_143 : decode cL_act 143 = .ok (.iconst 1, 1) := by decide +kernel
theorem dL_act_144 : decode cL_act 144 = .ok (.invokevirtual 34, 3) := by decide +kernel
theorem dL_act_147 : decode cL_act 147 = .ok (.goto 8, 3) := by decide +kernel
theorem dL_act_150 : decode cL_act 150 = .ok (.iload_n 3, 1) := by decide +kernel
theorem dL_act_151 : decode cL_act 151 = .ok (.iconst 3, 1) := by decide +kernel
theorem dL_act_152 : decode cL_act 152 = .ok (.invokestatic 68, 3) := by decide +kernel
theorem dL_act_155 : decode cL_act 155 = .ok (.invokestatic 74, 3) := by decide +kernel
theorem dL_act_158 : decode cL_act 158 = .ok (.ireturn, 1) := by decide +kernel
theorem dL_act_159 : decode cL_act 159 = .ok (.aload_n 0, 1) := by decide +kernel
theorem dL_act_160 : decode cL_act 160 = .ok (.iload_n 3, 1) := by decide +kernel
theorem dL_act_161 : decode cL_act 161 = .ok (.iconst 5, 1) := by decide +kernel
theorem dL_act_162 : decode cL_act 162 = .ok (.invokestatic 68, 3) := by decide +kernel
theorem dL_act_165 : decode cL_act 165 = .ok (.iload_n 3, 1) := by decide +kernel
theorem dL_act_166 : decode cL_act 166 = .ok (.iconst 3, 1) := by decide +kernel
theorem dL_act_167 : decode cL_act 167 = .ok (.ishr, 1) := by decide +kernel
theorem dL_act_168 : decode cL_act 168 = .ok (.bipush 100, 2) := by decide +kernel
theorem dL_act_170 : decode cL_act 170 = .ok (.invokestatic 68, 3) := by decide +kernel
theorem dL_act_173 : decode cL_act 173 = .ok (.invokestatic 76, 3) := by decide +kernel
theorem dL_act_176 : decode cL_act 176 = .ok (.ireturn, 1) := by decide +kernel
theorem dL_act_177 : decode cL_act 177 = .ok (.aload_n 0, 1) := by decide +kernel
theorem dL_act_178 : decode cL_act 178 = .ok (.iload 4, 2) := by decide +kernel
theorem dL_act_180 : decode cL_act 180 = .ok (.iload_n 3, 1) := by decide +kernel
theorem dL_act_181 : decode cL_act 181 = .ok (.iconst 2, 1) := by decide +kernel
theorem dL_act_182 : decode cL_act 182 = .ok (.ishr, 1) := by decide +kernel
theorem dL_act_183 : decode cL_act 183 = .ok (.iconst 2, 1) := by decide +kernel
theorem dL_act_184 : decode cL_act 184 = .ok (.invokestatic 68, 3) := by decide +kernel
theorem dL_act_187 : decode cL_act 187 = .ok (.ifCond .ne 7, 3) := by decide +kernel
theorem dL_act_190 : decode cL_act 190 = .ok (.iconst 1, 1) := by decide +kernel
theorem dL_act_191 : decode cL_act 191 = .ok (.goto 4, 3) := by decide +kernel
theorem dL_act_194 : decode cL_act 194 = .ok (.iconst 0, 1) := by decide +kernel
theorem dL_act_195 : decode cL_act 195 = .ok (.invokevirtual 79, 3) := by decide +kernel
theorem dL_act_198 : decode cL_act 198 = .ok (.ireturn, 1) := by decide +kernel
theorem dL_act_199 : decode cL_act 199 = .ok (.aload_n 0, 1) := by decide +kernel
theorem dL_act_200 : decode cL_act 200 = .ok (.iconst 1, 1) := by decide +kernel
theorem dL_act_201 : decode cL_act 201 = .ok (.iload_n 3, 1) := by decide +kernel
theorem dL_act_202 : decode cL_act 202 = .ok (.bipush 20, 2) := by decide +kernel
theorem dL_act_204 : decode cL_act 204 = .ok (.invokestatic 68, 3) := by decide +kernel
theorem dL_act_207 : decode cL_act 207 = .ok (.iadd, 1) := by decide +kernel
theorem dL_act_208 : decode cL_act 208 = .ok (.invokevirtual 83, 3) := by decide +kernel
theorem dL_act_211 : decode cL_act 211 = .ok (.ireturn, 1) := by decide +kernel
theorem dL_act_212 : decode cL_act 212 = .ok (.aload_n 0, 1) := by decide +kernel
theorem dL_act_213 : decode cL_act 213 = .ok (.iload 4, 2) := by decide +kernel
theorem dL_act_215 : decode cL_act 215 = .ok (.invokestatic 86, 3) := by decide +kernel
theorem dL_act_218 : decode cL_act 218 = .ok (.ireturn, 1) := by decide +kernel
theorem dL_act_219 : decode cL_act 219 = .ok (.aload_n 0, 1) := by decide +kernel
theorem dL_act_220 : decode cL_act 220 = .ok (.invokestatic 88, 3) := by decide +kernel
theorem dL_act_223 : decode cL_act 223 = .ok (.ireturn, 1) := by decide +kernel
theorem dL_act_224 : decode cL_act 224 = .ok (.aload_n 0, 1) := by decide +kernel
theorem dL_act_225 : decode cL_act 225 = .ok (.iload 4, 2) := by decide +kernel
theorem dL_act_227 : decode cL_act 227 = .ok (.invokestatic 91, 3) := by decide +kernel
theorem dL_act_230 : decode cL_act 230 = .ok (.ireturn, 1) := by decide +kernel
set_option maxRecDepth 20000 in
theorem ggL_law_X4_init : GoodIn wsL_law wsX4_init := goodIn_r _ [5, 6, 7, 8, 9, 10, 11, 12, 13, 14, 15, 16, 17, 18, 19, 20, 21, 22, 23, 24, 25, 26, 27, 28, 29, 30, 31, 32, 33, 34, 35, 36, 37, 38, 39, 40, 41, 42, 43, 44, 45, 46, 47, 48, 49, 50, 51, 380, 381, 382, 383, 374, 375, 376, 377, 378, 379, 384, 385, 386, 387, 388, 389, 390, 391, 392, 393, 394, 395, 396, 397, 398, 399, 400, 401, 402] (by decide +kernel) (by decide +kernel)
set_option maxRecDepth 20000 in
theorem gL_law_X4_init : GoodIn wsL_law (wsX4_init) := ggL_law_X4_init
set_option maxRecDepth 20000 in
theorem ggL_law_X4_count : GoodIn wsL_law wsX4_count := goodIn_ca (goodIn_r _ [55, 56, 57, 12, 58, 59, 60, 61, 62, 63, 64, 65, 66, 67, 68, 69, 26, 70, 71, 72, 73, 74, 39, 75, 76, 77, 78, 79, 80, 81, 82, 83, 84, 85, 11, 86, 29, 87, 88, 89, 90, 91, 92, 93, 94, 95, 96, 97, 374, 375, 376, 377, 378, 379, 380, 381, 382, 383, 388, 389, 390, 391, 392, 393, 394, 395, 396, 397, 398, 399, 400, 401, 402] (by decide +kernel) (by decide +kernel)) (goodIn_sub (fun _ h => List.mem_append_left _ (List.mem_append_left _ (List.mem_append_right _ h))) (by decide +kernel))
set_option maxRecDepth 20000 in
theorem gL_law_X4_count : GoodIn wsL_law (wsV RL 34 RX4 yX4_count wsX4_count) := goodIn_app (goodIn_of _ (by decide +kernel)) ggL_law_X4_count
set_option maxRecDepth 20000 in
theorem ggL_law_L_cell : GoodIn wsL_law wsL_cell := goodIn_r _ [101, 102] (by decide +kernel) (by decide +kernel)
set_option maxRecDepth 20000 in
theorem gL_law_L_cell : GoodIn wsL_law (va_wsS RL 62 yL_cell wsL_cell) := goodIn_app (goodIn_of _ (by decide +kernel)) ggL_law_L_cell
set_option maxRecDepth 20000 in
theorem ggL_law_L_low : GoodIn wsL_law wsL_low := goodIn_r _ [105, 106] (by decide +kernel) (by decide +kernel)
set_option maxRecDepth 20000 in
theorem gL_law_L_low : GoodIn wsL_law (va_wsS RL 68 yL_low wsL_low) := goodIn_app (goodIn_of _ (by decide +kernel)) ggL_law_L_low
set_option maxRecDepth 20000 in
theorem ggL_law_L_act : GoodIn wsL_law wsL_act := goodIn_ca (goodIn_ca (goodIn_ca (goodIn_r _ [109, 98, 99, 100, 101, 102, 103, 104, 105, 106, 110, 111, 112, 113, 114, 115, 116, 2, 117, 118, 119, 120, 121, 12, 58, 122, 123, 124, 125, 80, 81, 26, 82, 39, 126, 127, 128, 129, 13, 66, 130, 131, 132, 133, 134, 135, 136, 137, 11, 138, 27, 29, 139, 30, 140, 141, 142, 143, 144, 37, 145, 146, 147, 148, 38, 40, 149, 150, 151, 32, 152, 44, 153, 154, 155, 156, 157, 158, 159, 45, 160, 46, 161, 162, 163, 164, 165, 76, 77, 78, 79, 52, 53, 54, 55, 56, 57, 59, 60, 61, 62, 63, 64, 65, 67, 68, 69, 70, 71, 72, 73, 74, 75, 83, 84, 85, 86, 87, 88, 89, 90, 91, 92, 93, 94, 95, 96, 97, 166, 167, 168, 169, 170, 171, 172, 173, 174, 175, 176, 177, 178, 179, 180, 181, 182, 183, 184, 185, 186, 187, 188, 189, 190, 191, 192, 193, 194, 195, 196, 197, 198, 199, 200, 201, 202, 203, 204, 205, 206, 207, 208, 209, 210, 211, 212, 213, 214, 215, 216, 217, 218, 219, 220, 221, 222, 223, 224, 225, 226, 227, 228, 229, 230, 231, 232, 233, 234, 235, 236, 237, 238, 239, 240, 241, 242, 243, 244, 245, 246, 247, 248, 249, 250, 251, 252, 253, 254, 255, 256, 257, 258, 259, 260, 261, 262, 263, 264, 265, 266, 267, 268, 269, 270, 271, 272, 273, 274, 275, 276, 277, 278, 279, 280, 281, 282, 283, 284, 285, 286, 287, 288, 289, 290, 291, 292, 293, 294, 374, 375, 376, 377, 378, 379, 380, 381, 382, 383, 388, 389, 390, 391, 392, 393, 394, 395, 396, 397, 398, 399, 400, 401, 402] (by decide +kernel) (by decide +kernel)) (goodIn_sub (fun _ h => List.mem_append_left _ (List.mem_append_right _ h)) (by decide +kernel))) (goodIn_sub (fun _ h => List.mem_append_right _ h) (by decide +kernel))) (goodIn_sub (fun _ h => List.mem_append_left _ (List.mem_append_left _ (List.mem_append_right _ h))) (by decide +kernel))
set_option maxRecDepth 20000 in
theorem gL_law_L_act : GoodIn wsL_law (va_wsS RL 94 yL_act wsL_act) := goodIn_app (goodIn_of _ (by decide +kernel)) ggL_law_L_act
set_option maxRecDepth 20000 in
theorem ggL_law_X4_readerOf : GoodIn wsL_law wsX4_readerOf := goodIn_ca (goodIn_ca (goodIn_r _ [298, 118, 119, 56, 57, 12, 216, 65, 269, 299, 300, 301, 302, 303, 304, 58, 305, 217, 122, 123, 2, 124, 306, 307, 308, 32, 309, 153, 310, 238, 239, 240, 44, 157, 311, 288, 289, 26, 290, 186, 187, 188, 189, 144, 190, 191, 192, 193, 194, 195, 196, 291, 292, 293, 294, 40, 374, 375, 376, 377, 378, 379, 380, 381, 382, 383, 393, 394, 395, 396, 397, 398, 399, 400, 401, 402, 388, 389, 390, 391, 392] (by decide +kernel) (by decide +kernel)) (goodIn_sub (fun _ h => List.mem_append_left _ (List.mem_append_right _ h)) (by decide +kernel))) (goodIn_sub (fun _ h => List.mem_append_left _ (List.mem_append_left _ (List.mem_append_right _ h))) (by decide +kernel))
set_option maxRecDepth 20000 in
theorem gL_law_X4_readerOf : GoodIn wsL_law (wsV RL 49 RX4 yX4_readerOf wsX4_readerOf) := goodIn_app (goodIn_of _ (by decide +kernel)) ggL_law_X4_readerOf
set_option maxRecDepth 20000 in
theorem ggL_law_X4_has : GoodIn wsL_law wsX4_has := goodIn_ca (goodIn_r _ [315, 118, 119, 12, 216, 304, 305, 122, 123, 2, 124, 374, 375, 376, 377, 378, 379, 380, 381, 382, 383, 393, 394, 395, 396, 397, 398, 399, 400, 401, 402] (by decide +kernel) (by decide +kernel)) (goodIn_sub (fun _ h => List.mem_append_left _ (List.mem_append_right _ h)) (by decide +kernel))
set_option maxRecDepth 20000 in
theorem gL_law_X4_has : GoodIn wsL_law (wsV RL 98 RX4 yX4_has wsX4_has) := goodIn_app (goodIn_of _ (by decide +kernel)) ggL_law_X4_has
set_option maxRecDepth 20000 in
theorem ggL_law_X4_field : GoodIn wsL_law wsX4_field := goodIn_ca (goodIn_r _ [319, 118, 119, 12, 58, 320, 122, 123, 2, 124, 374, 375, 376, 377, 378, 379, 380, 381, 382, 383, 388, 389, 390, 391, 392] (by decide +kernel) (by decide +kernel)) (goodIn_sub (fun _ h => List.mem_append_left _ (List.mem_append_right _ h)) (by decide +kernel))
set_option maxRecDepth 20000 in
theorem gL_law_X4_field : GoodIn wsL_law (wsV RL 43 RX4 yX4_field wsX4_field) := goodIn_app (goodIn_of _ (by decide +kernel)) ggL_law_X4_field
set_option maxRecDepth 20000 in
theorem ggL_law_L_board : GoodIn wsL_law wsL_board := goodIn_ca (goodIn_ca (ya_gcons (List.mem_of_getElem? (i := 323) rfl) rfl (goodIn_r _ [52, 53, 54, 2, 55, 56, 57, 12, 58, 59, 60, 61, 62, 63, 64, 65, 66, 67, 68, 69, 26, 70, 71, 72, 73, 74, 39, 75, 76, 77, 78, 79, 80, 81, 82, 83, 84, 85, 11, 86, 29, 87, 88, 89, 90, 91, 92, 93, 94, 95, 96, 97, 324, 325, 326, 327, 328, 329, 330, 331, 118, 119, 122, 123, 124, 332, 333, 334, 335, 40, 336, 337, 338, 339, 340, 186, 187, 188, 189, 144, 190, 191, 192, 193, 194, 195, 196, 316, 317, 318, 319, 320, 341, 342, 343, 344, 345, 346, 347, 348, 349, 350, 351, 352, 353, 295, 296, 297, 298, 216, 269, 299, 300, 301, 302, 303, 304, 305, 217, 306, 307, 308, 32, 309, 153, 310, 238, 239, 240, 44, 157, 311, 288, 289, 290, 291, 292, 293, 294, 354, 355, 356, 357, 358, 359, 360, 361, 30, 27, 237, 281, 247, 248, 249, 155, 245, 250, 205, 206, 207, 362, 363, 364, 365, 19, 366, 367, 368, 369, 156, 46, 280, 370, 371, 372, 373, 374, 375, 376, 377, 378, 379, 380, 381, 382, 383, 388, 389, 390, 391, 392, 393, 394, 395, 396, 397, 398, 399, 400, 401, 402] (by decide +kernel) (by decide +kernel))) (goodIn_sub (fun _ h => List.mem_append_left _ (List.mem_append_left _ (List.mem_append_right _ h))) (by decide +kernel))) (goodIn_sub (fun _ h => List.mem_append_left _ (List.mem_append_right _ h)) (by decide +kernel))
set_option maxRecDepth 20000 in
theorem gL_law_L_board : GoodIn wsL_law (va_wsS RL 101 yL_board wsL_board) := goodIn_app (goodIn_of _ (by decide +kernel)) ggL_law_L_board
