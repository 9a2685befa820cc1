theorem dX12_init_0 : decode cX12_init 0 = .ok (.aload_n 0, 1) := by decide +kernel
theorem dX12_init_1 : decode cX12_init 1 = .ok (.invokespecial 1, 3) := by decide +kernel
theorem dX12_init_4 : decode cX12_init 4 = .ok (.aload_n 0, 1) := by decide +kernel
theorem dX12_init_5 : decode cX12_init 5 = .ok (.sipush 3000, 3) := by decide +kernel
theorem dX12_init_8 : decode cX12_init 8 = .ok (.newarray .byte, 2) := by decide +kernel
theorem dX12_init_10 : decode cX12_init 10 = .ok (.putfield 7, 3) := by decide +kernel
theorem dX12_init_13 : decode cX12_init 13 = .ok (.aload_n 0, 1) := by decide +kernel
theorem dX12_init_14 : decode cX12_init 14 = .ok (.iconst (-1), 1) := by decide +kernel
theorem dX12_init_15 : decode cX12_init 15 = .ok (.putfield 13, 3) := by decide +kernel
theorem dX12_init_18 : decode cX12_init 18 = .ok (.aload_n 0, 1) := by decide +kernel
theorem dX12_init_19 : decode cX12_init 19 = .ok (.ldc 17, 2) := by decide +kernel
theorem dX12_init_21 : decode cX12_init 21 = .ok (.newarray .byte, 2) := by decide +kernel
theorem dX12_init_23 : decode cX12_init 23 = .ok (.putfield 18, 3) := by decide +kernel
theorem dX12_init_26 : decode cX12_init 26 = .ok (.aload_n 0, 1) := by decide +kernel
theorem dX12_init_27 : decode cX12_init 27 = .ok (.sipush 5001, 3) := by decide +kernel
theorem dX12_init_30 : decode cX12_init 30 = .ok (.newarray .int, 2) := by decide +kernel
theorem dX12_init_32 : decode cX12_init 32 = .ok (.putfield 21, 3) := by decide +kernel
theorem dX12_init_35 : decode cX12_init 35 = .ok (.aload_n 0, 1) := by decide +kernel
theorem dX12_init_36 : decode cX12_init 36 = .ok (.sipush 5000, 3) := by decide +kernel
theorem dX12_init_39 : decode cX12_init 39 = .ok (.newarray .int, 2) := by decide +kernel
theorem dX12_init_41 : decode cX12_init 41 = .ok (.putfield 25, 3) := by decide +kernel
theorem dX12_init_44 : decode cX12_init 44 = .ok (.aload_n 0, 1) := by decide +kernel
theorem dX12_init_45 : decode cX12_init 45 = .ok (.sipush 5000, 3) := by decide +kernel
theorem dX12_init_48 : decode cX12_init 48 = .ok (.newarray .int, 2) := by decide +kernel
theorem dX12_init_50 : decode cX12_init 50 = .ok (.putfield 28, 3) := by decide +kernel
theorem dX12_init_53 : decode cX12_init 53 = .ok (.aload_n 0, 1) := by decide +kernel
theorem dX12_init_54 : decode cX12_init 54 = .ok (.ldc 31, 2) := by decide +kernel
theorem dX12_init_56 : decode cX12_init 56 = .ok (.newarray .byte, 2) := by decide +kernel
theorem dX12_init_58 : decode cX12_init 58 = .ok (.putfield 32, 3) := by decide +kernel
theorem dX12_init_61 : decode cX12_init 61 = .ok (.aload_n 0, 1) := by decide +kernel
theorem dX12_init_62 : decode cX12_init 62 = .ok (.ldc 31, 2) := by decide +kernel
theorem dX12_init_64 : decode cX12_init 64 = .ok (.newarray .int, 2) := by decide +kernel
theorem dX12_init_66 : decode cX12_init 66 = .ok (.putfield 35, 3) := by decide +kernel
theorem dX12_init_69 : decode cX12_init 69 = .ok (.aload_n 0, 1) := by decide +kernel
theorem dX12_init_70 : decode cX12_init 70 = .ok (.ldc 31, 2) := by decide +kernel
theorem dX12_init_72 : decode cX12_init 72 = .ok (.newarray .int, 2) := by decide +kernel
theorem dX12_init_74 : decode cX12_init 74 = .ok (.putfield 38, 3) := by decide +kernel
theorem dX12_init_77 : decode cX12_init 77 = .ok (.aload_n 0, 1) := by decide +kernel
theorem dX12_init_78 : decode cX12_init 78 = .ok (.ldc 31, 2) := by decide +kernel
theorem dX12_init_80 : decode cX12_init 80 = .ok (.newarray .int, 2) := by decide +kernel
theorem dX12_init_82 : decode cX12_init 82 = .ok (.putfield 41, 3) := by decide +kernel
theorem dX12_init_85 : decode cX12_init 85 = .ok (.aload_n 0, 1) := by decide +kernel
theorem dX12_init_86 : decode cX12_init 86 = .ok (.ldc 44, 2) := by decide +kernel
theorem dX12_init_88 : decode cX12_init 88 = .ok (.newarray .int, 2) := by decide +kernel
theorem dX12_init_90 : decode cX12_init 90 = .ok (.putfield 45, 3) := by decide +kernel
theorem dX12_init_93 : decode cX12_init 93 = .ok (.aload_n 0, 1) := by decide +kernel
theorem dX12_init_94 : decode cX12_init 94 = .ok (.ldc 44, 2) := by decide +kernel
theorem dX12_init_96 : decode cX12_init 96 = .ok (.newarray .int, 2) := by decide +kernel
theorem dX12_init_98 : decode cX12_init 98 = .ok (.putfield 48, 3) := by decide +kernel
theorem dX12_init_101 : decode cX12_init 101 = .ok (.aload_n 0, 1) := by decide +kernel
theorem dX12_init_102 : decode cX12_init 102 = .ok (.sipush 260, 3) := by decide +kernel
theorem dX12_init_105 : decode cX12_init 105 = .ok (.newarray .int, 2) := by decide +kernel
theorem dX12_init_107 : decode cX12_init 107 = .ok (.putfield 51, 3) := by decide +kernel
theorem dX12_init_110 : decode cX12_init 110 = .ok (.aload_n 0, 1) := by decide +kernel
theorem dX12_init_111 : decode cX12_init 111 = .ok (.sipush 261, 3) := by decide +kernel
theorem dX12_init_114 : decode cX12_init 114 = .ok (.newarray .int, 2) := by decide +kernel
theorem dX12_init_116 : decode cX12_init 116 = .ok (.putfield 54, 3) := by decide +kernel
theorem dX12_init_119 : decode cX12_init 119 = .ok (.aload_n 0, 1) := by decide +kernel
theorem dX12_init_120 : decode cX12_init 120 = .ok (.sipush 1600, 3) := by decide +kernel
theorem dX12_init_123 : decode cX12_init 123 = .ok (.newarray .int, 2) := by decide +kernel
theorem dX12_init_125 : decode cX12_init 125 = .ok (.putfield 57, 3) := by decide +kernel
theorem dX12_init_128 : decode cX12_init 128 = .ok (.aload_n 0, 1) := by decide +kernel
theorem dX12_init_129 : decode cX12_init 129 = .ok (.sipush 1600, 3) := by decide +kernel
theorem dX12_init_132 : decode cX12_init 132 = .ok (.newarray .int, 2) := by decide +kernel
theorem dX12_init_134 : decode cX12_init 134 = .ok (.putfield 60, 3) := by decide +kernel
theorem dX12_init_137 : decode cX12_init 137 = .ok (.aload_n 0, 1) := by decide +kernel
theorem dX12_init_138 : decode cX12_init 138 = .ok (.sipush 1600, 3) := by decide +kernel
theorem dX12_init_141 : decode cX12_init 141 = .ok (.newarray .int, 2) := by decide +kernel
theorem dX12_init_143 : decode cX12_init 143 = .ok (.putfield 63, 3) := by decide +kernel
theorem dX12_init_146 : decode cX12_init 146 = .ok (.aload_n 0, 1) := by decide +kernel
theorem dX12_init_147 : decode cX12_init 147 = .ok (.ldc 66, 2) := by decide +kernel
theorem dX12_init_149 : decode cX12_init 149 = .ok (.newarray .byte, 2) := by decide +kernel
theorem dX12_init_151 : decode cX12_init 151 = .ok (.putfield 67, 3) := by decide +kernel
theorem dX12_init_154 : decode cX12_init 154 = .ok (.aload_n 0, 1) := by decide +kernel
theorem dX12_init_155 : decode cX12_init 155 = .ok (.ldc 66, 2) := by decide +kernel
theorem dX12_init_157 : decode cX12_init 157 = .ok (.newarray .int, 2) := by decide +kernel
theorem dX12_init_159 : decode cX12_init 159 = .ok (.putfield 70, 3) := by decide +kernel
theorem dX12_init_162 : decode cX12_init 162 = .ok (.aload_n 0, 1) := by decide +kernel
theorem dX12_init_163 : decode cX12_init 163 = .ok (.ldc 66, 2) := by decide +kernel
theorem dX12_init_165 : decode cX12_init 165 = .ok (.newarray .int, 2) := by decide +kernel
theorem dX12_init_167 : decode cX12_init 167 = .ok (.putfield 73, 3) := by decide +kernel
theorem dX12_init_170 : decode cX12_init 170 = .ok (.aload_n 0, 1) := by decide +kernel
theorem dX12_init_171 : decode cX12_init 171 = .ok (.ldc 66, 2) := by decide +kernel
theorem dX12_init_173 : decode cX12_init 173 = .ok (.newarray .int, 2) := by decide +kernel
theorem dX12_init_175 : decode cX12_init 175 = .ok (.putfield 76, 3) := by decide +kernel
theorem dX12_init_178 : decode cX12_init 178 = .ok (.aload_n 0, 1) := by decide +kernel
theorem dX12_init_179 : decode cX12_init 179 = .ok (.sipush 4000, 3) := by decide +kernel
theorem dX12_init_182 : decode cX12_init 182 = .ok (.newarray .byte, 2) := by decide +kernel
theorem dX12_init_184 : decode cX12_init 184 = .ok (.putfield 79, 3) := by decide +kernel
theorem dX12_init_187 : decode cX12_init 187 = .ok (.aload_n 0, 1) := by decide +kernel
theorem dX12_init_188 : decode cX12_init 188 = .ok (.sipush 4000, 3) := by decide +kernel
theorem dX12_init_191 : decode cX12_init 191 = .ok (.newarray .byte, 2) := by decide +kernel
theorem dX12_init_193 : decode cX12_init 193 = .ok (.putfield 82, 3) := by decide +kernel
theorem dX12_init_196 : decode cX12_init 196 = .ok (.aload_n 0, 1) := by decide +kernel
theorem dX12_init_197 : decode cX12_init 197 = .ok (.sipush 3001, 3) := by decide +kernel
theorem dX12_init_200 : decode cX12_init 200 = .ok (.newarray .int, 2) := by decide +kernel
theorem dX12_init_202 : decode cX12_init 202 = .ok (.putfield 85, 3) := by decide +kernel
theorem dX12_init_205 : decode cX12_init 205 = .ok (.aload_n 0, 1) := by decide +kernel
theorem dX12_init_206 : decode cX12_init 206 = .ok (.bipush 110, 2) := by decide +kernel
theorem dX12_init_208 : decode cX12_init 208 = .ok (.newarray .int, 2) := by decide +kernel
theorem dX12_init_210 : decode cX12_init 210 = .ok (.putfield 88, 3) := by decide +kernel
theorem dX12_init_213 : decode cX12_init 213 = .ok (.aload_n 0, 1) := by decide +kernel
theorem dX12_init_214 : decode cX12_init 214 = .ok (.sipush 1600, 3) := by decide +kernel
theorem dX12_init_217 : decode cX12_init 217 = .ok (.newarray .int, 2) := by decide +kernel
theorem dX12_init_219 : decode cX12_init 219 = .ok (.putfield 91, 3) := by decide +kernel
theorem dX12_init_222 : decode cX12_init 222 = .ok (.aload_n 0, 1) := by decide +kernel
theorem dX12_init_223 : decode cX12_init 223 = .ok (.sipush 1600, 3) := by decide +kernel
theorem dX12_init_226 : decode cX12_init 226 = .ok (.newarray .boolean, 2) := by decide +kernel
theorem dX12_init_228 : decode cX12_init 228 = .ok (.putfield 94, 3) := by decide +kernel
theorem dX12_init_231 : decode cX12_init 231 = .ok (.aload_n 0, 1) := by decide +kernel
theorem dX12_init_232 : decode cX12_init 232 = .ok (.ldc 31, 2) := by decide +kernel
theorem dX12_init_234 : decode cX12_init 234 = .ok (.newarray .int, 2) := by decide +kernel
theorem dX12_init_236 : decode cX12_init 236 = .ok (.putfield 98, 3) := by decide +kernel
theorem dX12_init_239 : decode cX12_init 239 = .ok (.aload_n 0, 1) := by decide +kernel
theorem dX12_init_240 : decode cX12_init 240 = .ok (.ldc 31, 2) := by decide +kernel
theorem dX12_init_242 : decode cX12_init 242 = .ok (.newarray .int, 2) := by decide +kernel
theorem dX12_init_244 : decode cX12_init 244 = .ok (.putfield 101, 3) := by decide +kernel
theorem dX12_init_247 : decode cX12_init 247 = .ok (.aload_n 0, 1) := by decide +kernel
theorem dX12_init_248 : decode cX12_init 248 = .ok (.ldc 31, 2) := by decide +kernel
theorem dX12_init_250 : decode cX12_init 250 = .ok (.newarray .int, 2) := by decide +kernel
theorem dX12_init_252 : decode cX12_init 252 = .ok (.putfield 104, 3) := by decide +kernel
theorem dX12_init_255 : decode cX12_init 255 = .ok (.aload_n 0, 1) := by decide +kernel
theorem dX12_init_256 : decode cX12_init 256 = .ok (.ldc 31, 2) := by decide +kernel
theorem dX12_init_258 : decode cX12_init 258 = .ok (.newarray .int, 2) := by decide +kernel
theorem dX12_init_260 : decode cX12_init 260 = .ok (.putfield 107, 3) := by decide +kernel
theorem dX12_init_263 : decode cX12_init 263 = .ok (.aload_n 0, 1) := by decide +kernel
theorem dX12_init_264 : decode cX12_init 264 = .ok (.sipush 1600, 3) := by decide +kernel
theorem dX12_init_267 : decode cX12_init 267 = .ok (.newarray .int, 2) := by decide +kernel
theorem dX12_init_269 : decode cX12_init 269 = .ok (.putfield 110, 3) := by decide +kernel
theorem dX12_init_272 : decode cX12_init 272 = .ok (.aload_n 0, 1) := by decide +kernel
theorem dX12_init_273 : decode cX12_init 273 = .ok (.sipush 1600, 3) := by decide +kernel
theorem dX12_init_276 : decode cX12_init 276 = .ok (.newarray .int, 2) := by decide +kernel
theorem dX12_init_278 : decode cX12_init 278 = .ok (.putfield 113, 3) := by decide +kernel
theorem dX12_init_281 : decode cX12_init 281 = .ok (.aload_n 0, 1) := by decide +kernel
theorem dX12_init_282 : decode cX12_init 282 = .ok (.ldc 31, 2) := by decide +kernel
theorem dX12_init_284 : decode cX12_init 284 = .ok (.newarray .int, 2) := by decide +kernel
theorem dX12_init_286 : decode cX12_init 286 = .ok (.putfield 116, 3) := by decide +kernel
theorem dX12_init_289 : decode cX12_init 289 = .ok (.aload_n 0, 1) := by decide +kernel
theorem dX12_init_290 : decode cX12_init 290 = .ok (.sipush 4200, 3) := by decide +kernel
theorem dX12_init_293 : decode cX12_init 293 = .ok (.newarray .byte, 2) := by decide +kernel
theorem dX12_init_295 : decode cX12_init 295 = .ok (.putfield 119, 3) := by decide +kernel
theorem dX12_init_298 : decode cX12_init 298 = .ok (.aload_n 0, 1) := by decide +kernel
theorem dX12_init_299 : decode cX12_init 299 = .ok (.sipush 4200, 3) := by decide +kernel
theorem dX12_init_302 : decode cX12_init 302 = .ok (.newarray .int, 2) := by decide +kernel
theorem dX12_init_304 : decode cX12_init 304 = .ok (.putfield 122, 3) := by decide +kernel
theorem dX12_init_307 : decode cX12_init 307 = .ok (.aload_n 0, 1) := by decide +kernel
theorem dX12_init_308 : decode cX12_init 308 = .ok (.sipush 4200, 3) := by decide +kernel
theorem dX12_init_311 : decode cX12_init 311 = .ok (.newarray .int, 2) := by decide +kernel
theorem dX12_init_313 : decode cX12_init 313 = .ok (.putfield 125, 3) := by decide +kernel
theorem dX12_init_316 : decode cX12_init 316 = .ok (.aload_n 0, 1) := by decide +kernel
theorem dX12_init_317 : decode cX12_init 317 = .ok (.sipush 4200, 3) := by decide +kernel
theorem dX12_init_320 : decode cX12_init 320 = .ok (.newarray .int, 2) := by decide +kernel
theorem dX12_init_322 : decode cX12_init 322 = .ok (.putfield 128, 3) := by decide +kernel
theorem dX12_init_325 : decode cX12_init 325 = .ok (.aload_n 0, 1) := by decide +kernel
theorem dX12_init_326 : decode cX12_init 326 = .ok (.ldc2_w 131, 3) := by decide +kernel
theorem dX12_init_329 : decode cX12_init 329 = .ok (.bipush 6, 2) := by decide +kernel
theorem dX12_init_331 : decode cX12_init 331 = .ok (.invokevirtual 133, 3) := by decide +kernel
theorem dX12_init_334 : decode cX12_init 334 = .ok (.aload_n 0, 1) := by decide +kernel
theorem dX12_init_335 : decode cX12_init 335 = .ok (.ldc2_w 137, 3) := by decide +kernel
theorem dX12_init_338 : decode cX12_init 338 = .ok (.iconst 2, 1) := by decide +kernel
theorem dX12_init_339 : decode cX12_init 339 = .ok (.invokevirtual 133, 3) := by decide +kernel
theorem dX12_init_342 : decode cX12_init 342 = .ok (.aload_n 0, 1) := by decide +kernel
theorem dX12_init_343 : decode cX12_init 343 = .ok (.ldc2_w 139, 3) := by decide +kernel
theorem dX12_init_346 : decode cX12_init 346 = .ok (.iconst 5, 1) := by decide +kernel
theorem dX12_init_347 : decode cX12_init 347 = .ok (.invokevirtual 133, 3) := by decide +kernel
theorem dX12_init_350 : decode cX12_init 350 = .ok (.aload_n 0, 1) := by decide +kernel
theorem dX12_init_351 : decode cX12_init 351 = .ok (.ldc2_w 141, 3) := by decide +kernel
theorem dX12_init_354 : decode cX12_init 354 = .ok (.iconst 5, 1) := by decide +kernel
theorem dX12_init_355 : decode cX12_init 355 = .ok (.invokevirtual 133, 3) := by decide +kernel
theorem dX12_init_358 : decode cX12_init 358 = .ok (.aload_n 0, 1) := by decide +kernel
theorem dX12_init_359 : decode cX12_init 359 = .ok (.ldc2_w 143, 3) := by decide +kernel
theorem dX12_init_362 : decode cX12_init 362 = .ok (.iconst 5, 1) := by decide +kernel
theorem dX12_init_363 : decode cX12_init 363 = .ok (.invokevirtual 145, 3) := by decide +kernel
theorem dX12_init_366 : decode cX12_init 366 = .ok (.aload_n 0, 1) := by decide +kernel
theorem dX12_init_367 : decode cX12_init 367 = .ok (.ldc2_w 148, 3) := by decide +kernel
theorem dX12_init_370 : decode cX12_init 370 = .ok (.bipush 6, 2) := by decide +kernel
theorem dX12_init_372 : decode cX12_init 372 = .ok (.invokevirtual 133, 3) := by decide +kernel
theorem dX12_init_375 : decode cX12_init 375 = .ok (.aload_n 0, 1) := by decide +kernel
theorem dX12_init_376 : decode cX12_init 376 = .ok (.ldc2_w 150, 3) := by decide +kernel
theorem dX12_init_379 : decode cX12_init 379 = .ok (.bipush 6, 2) := by decide +kernel
theorem dX12_init_381 : decode cX12_init 381 = .ok (.invokevirtual 145, 3) := by decide +kernel
theorem dX12_init_384 : decode cX12_init 384 = .ok (.aload_n 0, 1) := by decide +kernel
theorem dX12_init_385 : decode cX12_init 385 = .ok (.ldc2_w 152, 3) := by decide +kernel
theorem dX12_init_388 : decode cX12_init 388 = .ok (.bipush 6, 2) := by decide +kernel
theorem dX12_init_390 : decode cX12_init 390 = .ok (.invokevirtual 133, 3) := by decide +kernel
theorem dX12_init_393 : decode cX12_init 393 = .ok (.aload_n 0, 1) := by decide +kernel
theorem dX12_init_394 : decode cX12_init 394 = .ok (.ldc2_w 152, 3) := by decide +kernel
theorem dX12_init_397 : decode cX12_init 397 = .ok (.bipush 6, 2) := by decide +kernel
theorem dX12_init_399 : decode cX12_init 399 = .ok (.invokevirtual 133, 3) := by decide +kernel
theorem dX12_init_402 : decode cX12_init 402 = .ok (.aload_n 0, 1) := by decide +kernel
theorem dX12_init_403 : decode cX12_init 403 = .ok (.ldc2_w 154, 3) := by decide +kernel
theorem dX12_init_406 : decode cX12_init 406 = .ok (.iconst 4, 1) := by decide +kernel
theorem dX12_init_407 : decode cX12_init 407 = .ok (.invokevirtual 145, 3) := by decide +kernel
theorem dX12_init_410 : decode cX12_init 410 = .ok (.aload_n 0, 1) := by decide +kernel
theorem dX12_init_411 : decode cX12_init 411 = .ok (.ldc2_w 156, 3) := by decide +kernel
theorem dX12_init_414 : decode cX12_init 414 = .ok (.iconst 3, 1) := by decide +kernel
theorem dX12_init_415 : decode cX12_init 415 = .ok (.invokevirtual 145, 3) := by decide +kernel
theorem dX12_init_418 : decode cX12_init 418 = .ok (.aload_n 0, 1) := by decide +kernel
theorem dX12_init_419 : decode cX12_init 419 = .ok (.ldc2_w 158, 3) := by decide +kernel
theorem dX12_init_422 : decode cX12_init 422 = .ok (.iconst 3, 1) := by decide +kernel
theorem dX12_init_423 : decode cX12_init 423 = .ok (.invokevirtual 133, 3) := by decide +kernel
theorem dX12_init_426 : decode cX12_init 426 = .ok (.aload_n 0, 1) := by decide +kernel
theorem dX12_init_427 : decode cX12_init 427 = .ok (.ldc2_w 160, 3) := by decide +kernel
theorem dX12_init_430 : decode cX12_init 430 = .ok (.iconst 1, 1) := by decide +kernel
theorem dX12_init_431 : decode cX12_init 431 = .ok (.invokevirtual 133, 3) := by decide +kernel
theorem dX12_init_434 : decode cX12_init 434 = .ok (.aload_n 0, 1) := by decide +kernel
theorem dX12_init_435 : decode cX12_init 435 = .ok (.iconst 1, 1) := by decide +kernel
theorem dX12_init_436 : decode cX12_init 436 = .ok (.putfield 162, 3) := by decide +kernel
theorem dX12_init_439 : decode cX12_init 439 = .ok (.return_, 1) := by decide +kernel
theorem dX12_word_0 : decode cX12_word 0 = .ok (.aload_n 0, 1) := by decide +kernel
theorem dX12_word_1 : decode cX12_word 1 = .ok (.getfield 21, 3) := by decide +kernel
theorem dX12_word_4 : decode cX12_word 4 = .ok (.aload_n 0, 1) := by decide +kernel
theorem dX12_word_5 : decode cX12_word 5 = .ok (.getfield 165, 3) := by decide +kernel
theorem dX12_word_8 : decode cX12_word 8 = .ok (.iconst 1, 1) := by decide +kernel
theorem dX12_word_9 : decode cX12_word 9 = .ok (.iadd, 1) := by decide +kernel
theorem dX12_word_10 : decode cX12_word 10 = .ok (.aload_n 0, 1) := by decide +kernel
theorem dX12_word_11 : decode cX12_word 11 = .ok (.getfield 21, 3) := by decide +kernel
theorem dX12_word_14 : decode cX12_word 14 = .ok (.aload_n 0, 1) := by decide +kernel
theorem dX12_word_15 : decode cX12_word 15 = .ok (.getfield 165, 3) := by decide +kernel
theorem dX12_word_18 : decode cX12_word 18 = .ok (.iaload, 1) := by decide +kernel
theorem dX12_word_19 : decode cX12_word 19 = .ok (.iastore, 1) := by decide +kernel
theorem dX12_word_20 : decode cX12_word 20 = .ok (.aload_n 0, 1) := by decide +kernel
theorem dX12_word_21 : decode cX12_word 21 = .ok (.dup, 1) := by decide +kernel
theorem dX12_word_22 : decode cX12_word 22 = .ok (.getfield 165, 3) := by decide +kernel
theorem dX12_word_25 : decode cX12_word 25 = .ok (.iconst 1, 1) := by decide +kernel
theorem dX12_word_26 : decode cX12_word 26 = .ok (.iadd, 1) := by decide +kernel
theorem dX12_word_27 : decode cX12_word 27 = .ok (.putfield 165, 3) := by decide +kernel
theorem dX12_word_30 : decode cX12_word 30 = .ok (.aload_n 0, 1) := by decide +kernel
theorem dX12_word_31 : decode cX12_word 31 = .ok (.lload_n 1, 1) := by decide +kernel
theorem dX12_word_32 : decode cX12_word 32 = .ok (.iload_n 3, 1) := by decide +kernel
theorem dX12_word_33 : decode cX12_word 33 = .ok (.invokevirtual 145, 3) := by decide +kernel
theorem dX12_word_36 : decode cX12_word 36 = .ok (.return_, 1) := by decide +kernel
theorem dX12_more_0 : decode cX12_more 0 = .ok (.iload_n 3, 1) := by decide +kernel
theorem dX12_more_1 : decode cX12_more 1 = .ok (.iconst 1, 1) := by decide +kernel
theorem dX12_more_2 : decode cX12_more 2 = .ok (.isub, 1) := by decide +kernel
theorem dX12_more_3 : decode cX12_more 3 = .ok (.istore 4, 2) := by decide +kernel
theorem dX12_more_5 : decode cX12_more 5 = .ok (.iload 4, 2) := by decide +kernel
theorem dX12_more_7 : decode cX12_more 7 = .ok (.ifCond .lt 45, 3) := by decide +kernel
theorem dX12_more_10 : decode cX12_more 10 = .ok (.aload_n 0, 1) := by decide +kernel
theorem dX12_more_11 : decode cX12_more 11 = .ok (.getfield 18, 3) := by decide +kernel
theorem dX12_more_14 : decode cX12_more 14 = .ok (.aload_n 0, 1) := by decide +kernel
theorem dX12_more_15 : decode cX12_more 15 = .ok (.getfield 21, 3) := by decide +kernel
theorem dX12_more_18 : decode cX12_more 18 = .ok (.aload_n 0, 1) := by decide +kernel
theorem dX12_more_19 : decode cX12_more 19 = .ok (.getfield 165, 3) := by decide +kernel
theorem dX12_more_22 : decode cX12_more 22 = .ok (.iaload, 1) := by decide +kernel
theorem dX12_more_23 : decode cX12_more 23 = .ok (.lload_n 1, 1) := by decide +kernel
theorem dX12_more_24 : decode cX12_more 24 = .ok (.bipush 8, 2) := by decide +kernel
theorem dX12_more_26 : decode cX12_more 26 = .ok (.iload 4, 2) := by decide +kernel
theorem dX12_more_28 : decode cX12_more 28 = .ok (.imul, 1) := by decide +kernel
theorem dX12_more_29 : decode cX12_more 29 = .ok (.lshr, 1) := by decide +kernel
theorem dX12_more_30 : decode cX12_more 30 = .ok (.l2i, 1) := by decide +kernel
theorem dX12_more_31 : decode cX12_more 31 = .ok (.i2b, 1) := by decide +kernel
theorem dX12_more_32 : decode cX12_more 32 = .ok (.bastore, 1) := by decide +kernel
theorem dX12_more_33 : decode cX12_more 33 = .ok (.aload_n 0, 1) := by decide +kernel
theorem dX12_more_34 : decode cX12_more 34 = .ok (.getfield 21, 3) := by decide +kernel
theorem dX12_more_37 : decode cX12_more 37 = .ok (.aload_n 0, 1) := by decide +kernel
theorem dX12_more_38 : decode cX12_more 38 = .ok (.getfield 165, 3) := by decide +kernel
theorem dX12_more_41 : decode cX12_more 41 = .ok (.dup2, 1) := by decide +kernel
theorem dX12_more_42 : decode cX12_more 42 = .ok (.iaload, 1) := by decide +kernel
theorem dX12_more_43 : decode cX12_more 43 = .ok (.iconst 1, 1) := by decide +kernel
theorem dX12_more_44 : decode cX12_more 44 = .ok (.iadd, 1) := by decide +kernel
theorem dX12_more_45 : decode cX12_more 45 = .ok (.iastore, 1) := by decide +kernel
theorem dX12_more_46 : decode cX12_more 46 = .ok (.iinc 4 (-1), 3) := by decide +kernel
theorem dX12_more_49 : decode cX12_more 49 = .ok (.goto (-44), 3) := by decide +kernel
theorem dX12_more_52 : decode cX12_more 52 = .ok (.return_, 1) := by decide +kernel
theorem dX12_type_0 : decode cX12_type 0 = .ok (.aload_n 0, 1) := by decide +kernel
theorem dX12_type_1 : decode cX12_type 1 = .ok (.iconst 0, 1) := by decide +kernel
theorem dX12_type_2 : decode cX12_type 2 = .ok (.putfield 168, 3) := by decide +kernel
theorem dX12_type_5 : decode cX12_type 5 = .ok (.iload_n 3, 1) := by decide +kernel
theorem dX12_type_6 : decode cX12_type 6 = .ok (.iconst 1, 1) := by decide +kernel
theorem dX12_type_7 : decode cX12_type 7 = .ok (.if_icmp .lt 25, 3) := by decide +kernel
theorem dX12_type_10 : decode cX12_type 10 = .ok (.iload_n 3, 1) := by decide +kernel
theorem dX12_type_11 : decode cX12_type 11 = .ok (.bipush 8, 2) := by decide +kernel
theorem dX12_type_13 : decode cX12_type 13 = .ok (.if_icmp .gt 19, 3) := by decide +kernel
theorem dX12_type_16 : decode cX12_type 16 = .ok (.aload_n 0, 1) := by decide +kernel
theorem dX12_type_17 : decode cX12_type 17 = .ok (.getfield 171, 3) := by decide +kernel
theorem dX12_type_20 : decode cX12_type 20 = .ok (.iload_n 3, 1) := by decide +kernel
theorem dX12_type_21 : decode cX12_type 21 = .ok (.iadd, 1) := by decide +kernel
theorem dX12_type_22 : decode cX12_type 22 = .ok (.sipush 3000, 3) := by decide +kernel
theorem dX12_type_25 : decode cX12_type 25 = .ok (.if_icmp .gt 7, 3) := by decide +kernel
theorem dX12_type_28 : decode cX12_type 28 = .ok (.iconst 1, 1) := by decide +kernel
theorem dX12_type_29 : decode cX12_type 29 = .ok (.goto 4, 3) := by decide +kernel
theorem dX12_type_32 : decode cX12_type 32 = .ok (.iconst 0, 1) := by decide +kernel
theorem dX12_type_33 : decode cX12_type 33 = .ok (.istore 4, 2) := by decide +kernel
theorem dX12_type_35 : decode cX12_type 35 = .ok (.iconst 0, 1) := by decide +kernel
theorem dX12_type_36 : decode cX12_type 36 = .ok (.istore 5, 2) := by decide +kernel
theorem dX12_type_38 : decode cX12_type 38 = .ok (.iload 4, 2) := by decide +kernel
theorem dX12_type_40 : decode cX12_type 40 = .ok (.ifCond .eq 53, 3) := by decide +kernel
theorem dX12_type_43 : decode cX12_type 43 = .ok (.iload 5, 2) := by decide +kernel
theorem dX12_type_45 : decode cX12_type 45 = .ok (.iload_n 3, 1) := by decide +kernel
theorem dX12_type_46 : decode cX12_type 46 = .ok (.if_icmp .ge 47, 3) := by decide +kernel
theorem dX12_type_49 : decode cX12_type 49 = .ok (.lload_n 1, 1) := by decide +kernel
theorem dX12_type_50 : decode cX12_type 50 = .ok (.bipush 8, 2) := by decide +kernel
theorem dX12_type_52 : decode cX12_type 52 = .ok (.iload 5, 2) := by decide +kernel
theorem dX12_type_54 : decode cX12_type 54 = .ok (.imul, 1) := by decide +kernel
theorem dX12_type_55 : decode cX12_type 55 = .ok (.lshr, 1) := by decide +kernel
theorem dX12_type_56 : decode cX12_type 56 = .ok (.ldc2_w 174, 3) := by decide +kernel
theorem dX12_type_59 : decode cX12_type 59 = .ok (.land, 1) := by decide +kernel
theorem dX12_type_60 : decode cX12_type 60 = .ok (.lstore 6, 2) := by decide +kernel
theorem dX12_type_62 : decode cX12_type 62 = .ok (.lload 6, 2) := by decide +kernel
theorem dX12_type_64 : decode cX12_type 64 = .ok (.ldc2_w 176, 3) := by decide +kernel
theorem dX12_type_67 : decode cX12_type 67 = .ok (.lcmp, 1) := by decide +kernel
theorem dX12_type_68 : decode cX12_type 68 = .ok (.ifCond .lt 16, 3) := by decide +kernel
theorem dX12_type_71 : decode cX12_type 71 = .ok (.lload 6, 2) := by decide +kernel
theorem dX12_type_73 : decode cX12_type 73 = .ok (.ldc2_w 178, 3) := by decide +kernel
theorem dX12_type_76 : decode cX12_type 76 = .ok (.lcmp, 1) := by decide +kernel
theorem dX12_type_77 : decode cX12_type 77 = .ok (.ifCond .gt 7, 3) := by decide +kernel
theorem dX12_type_80 : decode cX12_type 80 = .ok (.iconst 1, 1) := by decide +kernel
theorem dX12_type_81 : decode cX12_type 81 = .ok (.goto 4, 3) := by decide +kernel
theorem dX12_type_84 : decode cX12_type 84 = .ok (.iconst 0, 1) := by decide +kernel
theorem dX12_type_85 : decode cX12_type 85 = .ok (.istore 4, 2) := by decide +kernel
theorem dX12_type_87 : decode cX12_type 87 = .ok (.iinc 5 1, 3) := by decide +kernel
theorem dX12_type_90 : decode cX12_type 90 = .ok (.goto (-52), 3) := by decide +kernel
theorem dX12_type_93 : decode cX12_type 93 = .ok (.iload 4, 2) := by decide +kernel
theorem dX12_type_95 : decode cX12_type 95 = .ok (.ifCond .ne 5, 3) := by decide +kernel
theorem dX12_type_98 : decode cX12_type 98 = .ok (.iconst (-1), 1) := by decide +kernel
theorem dX12_type_99 : decode cX12_type 99 = .ok (.ireturn, 1) := by decide +kernel
theorem dX12_type_100 : decode cX12_type 100 = .ok (.iload_n 3, 1) := by decide +kernel
theorem dX12_type_101 : decode cX12_type 101 = .ok (.iconst 1, 1) := by decide +kernel
theorem dX12_type_102 : decode cX12_type 102 = .ok (.isub, 1) := by decide +kernel
theorem dX12_type_103 : decode cX12_type 103 = .ok (.istore 5, 2) := by decide +kernel
theorem dX12_type_105 : decode cX12_type 105 = .ok (.iload 5, 2) := by decide +kernel
theorem dX12_type_107 : decode cX12_type 107 = .ok (.ifCond .lt 37, 3) := by decide +kernel
theorem dX12_type_110 : decode cX12_type 110 = .ok (.aload_n 0, 1) := by decide +kernel
theorem dX12_type_111 : decode cX12_type 111 = .ok (.getfield 7, 3) := by decide +kernel
theorem dX12_type_114 : decode cX12_type 114 = .ok (.aload_n 0, 1) := by decide +kernel
theorem dX12_type_115 : decode cX12_type 115 = .ok (.getfield 171, 3) := by decide +kernel
theorem dX12_type_118 : decode cX12_type 118 = .ok (.lload_n 1, 1) := by decide +kernel
theorem dX12_type_119 : decode cX12_type 119 = .ok (.bipush 8, 2) := by decide +kernel
theorem dX12_type_121 : decode cX12_type 121 = .ok (.iload 5, 2) := by decide +kernel
theorem dX12_type_123 : decode cX12_type 123 = .ok (.imul, 1) := by decide +kernel
theorem dX12_type_124 : decode cX12_type 124 = .ok (.lshr, 1) := by decide +kernel
theorem dX12_type_125 : decode cX12_type 125 = .ok (.l2i, 1) := by decide +kernel
theorem dX12_type_126 : decode cX12_type 126 = .ok (.i2b, 1) := by decide +kernel
theorem dX12_type_127 : decode cX12_type 127 = .ok (.bastore, 1) := by decide +kernel
theorem dX12_type_128 : decode cX12_type 128 = .ok (.aload_n 0, 1) := by decide +kernel
theorem dX12_type_129 : decode cX12_type 129 = .ok (.dup, 1) := by decide +kernel
theorem dX12_type_130 : decode cX12_type 130 = .ok (.getfield 171, 3) := by decide +kernel
theorem dX12_type_133 : decode cX12_type 133 = .ok (.iconst 1, 1) := by decide +kernel
theorem dX12_type_134 : decode cX12_type 134 = .ok (.iadd, 1) := by decide +kernel
theorem dX12_type_135 : decode cX12_type 135 = .ok (.putfield 171, 3) := by decide +kernel
theorem dX12_type_138 : decode cX12_type 138 = .ok (.iinc 5 (-1), 3) := by decide +kernel
theorem dX12_type_141 : decode cX12_type 141 = .ok (.goto (-36), 3) := by decide +kernel
theorem dX12_type_144 : decode cX12_type 144 = .ok (.aload_n 0, 1) := by decide +kernel
theorem dX12_type_145 : decode cX12_type 145 = .ok (.getfield 171, 3) := by decide +kernel
theorem dX12_type_148 : decode cX12_type 148 = .ok (.ireturn, 1) := by decide +kernel
theorem dX12_rootOf_0 : decode cX12_rootOf 0 = .ok (.iload_n 1, 1) := by decide +kernel
theorem dX12_rootOf_1 : decode cX12_rootOf 1 = .ok (.istore_n 2, 1) := by decide +kernel
theorem dX12_rootOf_2 : decode cX12_rootOf 2 = .ok (.iload_n 2, 1) := by decide +kernel
theorem dX12_rootOf_3 : decode cX12_rootOf 3 = .ok (.sipush 5000, 3) := by decide +kernel
theorem dX12_rootOf_6 : decode cX12_rootOf 6 = .ok (.if_icmp .lt 17, 3) := by decide +kernel
theorem dX12_rootOf_9 : decode cX12_rootOf 9 = .ok (.aload_n 0, 1) := by decide +kernel
theorem dX12_rootOf_10 : decode cX12_rootOf 10 = .ok (.getfield 45, 3) := by decide +kernel
theorem dX12_rootOf_13 : decode cX12_rootOf 13 = .ok (.iload_n 2, 1) := by decide +kernel
theorem dX12_rootOf_14 : decode cX12_rootOf 14 = .ok (.sipush 5000, 3) := by decide +kernel
theorem dX12_rootOf_17 : decode cX12_rootOf 17 = .ok (.isub, 1) := by decide +kernel
theorem dX12_rootOf_18 : decode cX12_rootOf 18 = .ok (.iaload, 1) := by decide +kernel
theorem dX12_rootOf_19 : decode cX12_rootOf 19 = .ok (.istore_n 2, 1) := by decide +kernel
theorem dX12_rootOf_20 : decode cX12_rootOf 20 = .ok (.goto (-18), 3) := by decide +kernel
theorem dX12_rootOf_23 : decode cX12_rootOf 23 = .ok (.iload_n 2, 1) := by decide +kernel
theorem dX12_rootOf_24 : decode cX12_rootOf 24 = .ok (.ireturn, 1) := by decide +kernel
theorem dX12_meaning_0 : decode cX12_meaning 0 = .ok (.iload_n 1, 1) := by decide +kernel
theorem dX12_meaning_1 : decode cX12_meaning 1 = .ok (.istore_n 3, 1) := by decide +kernel
theorem dX12_meaning_2 : decode cX12_meaning 2 = .ok (.iload_n 2, 1) := by decide +kernel
theorem dX12_meaning_3 : decode cX12_meaning 3 = .ok (.istore 4, 2) := by decide +kernel
theorem dX12_meaning_5 : decode cX12_meaning 5 = .ok (.iload 4, 2) := by decide +kernel
theorem dX12_meaning_7 : decode cX12_meaning 7 = .ok (.istore 5, 2) := by decide +kernel
theorem dX12_meaning_9 : decode cX12_meaning 9 = .ok (.iload 5, 2) := by decide +kernel
theorem dX12_meaning_11 : decode cX12_meaning 11 = .ok (.ifCond .le 58, 3) := by decide +kernel
theorem dX12_meaning_14 : decode cX12_meaning 14 = .ok (.aload_n 0, 1) := by decide +kernel
theorem dX12_meaning_15 : decode cX12_meaning 15 = .ok (.getfield 54, 3) := by decide +kernel
theorem dX12_meaning_18 : decode cX12_meaning 18 = .ok (.iload 5, 2) := by decide +kernel
theorem dX12_meaning_20 : decode cX12_meaning 20 = .ok (.iaload, 1) := by decide +kernel
theorem dX12_meaning_21 : decode cX12_meaning 21 = .ok (.istore 6, 2) := by decide +kernel
theorem dX12_meaning_23 : decode cX12_meaning 23 = .ok (.iload 6, 2) := by decide +kernel
theorem dX12_meaning_25 : decode cX12_meaning 25 = .ok (.aload_n 0, 1) := by decide +kernel
theorem dX12_meaning_26 : decode cX12_meaning 26 = .ok (.getfield 54, 3) := by decide +kernel
theorem dX12_meaning_29 : decode cX12_meaning 29 = .ok (.iload 5, 2) := by decide +kernel
theorem dX12_meaning_31 : decode cX12_meaning 31 = .ok (.iconst 1, 1) := by decide +kernel
theorem dX12_meaning_32 : decode cX12_meaning 32 = .ok (.iadd, 1) := by decide +kernel
theorem dX12_meaning_33 : decode cX12_meaning 33 = .ok (.iaload, 1) := by decide +kernel
theorem dX12_meaning_34 : decode cX12_meaning 34 = .ok (.if_icmp .ge 23, 3) := by decide +kernel
theorem dX12_meaning_37 : decode cX12_meaning 37 = .ok (.aload_n 0, 1) := by decide +kernel
theorem dX12_meaning_38 : decode cX12_meaning 38 = .ok (.getfield 57, 3) := by decide +kernel
theorem dX12_meaning_41 : decode cX12_meaning 41 = .ok (.iload 6, 2) := by decide +kernel
theorem dX12_meaning_43 : decode cX12_meaning 43 = .ok (.iaload, 1) := by decide +kernel
theorem dX12_meaning_44 : decode cX12_meaning 44 = .ok (.iload_n 3, 1) := by decide +kernel
theorem dX12_meaning_45 : decode cX12_meaning 45 = .ok (.if_icmp .ne 6, 3) := by decide +kernel
theorem dX12_meaning_48 : decode cX12_meaning 48 = .ok (.iload 6, 2) := by decide +kernel
theorem dX12_meaning_50 : decode cX12_meaning 50 = .ok (.ireturn, 1) := by decide +kernel
theorem dX12_meaning_51 : decode cX12_meaning 51 = .ok (.iinc 6 1, 3) := by decide +kernel
theorem dX12_meaning_54 : decode cX12_meaning 54 = .ok (.goto (-31), 3) := by decide +kernel
theorem dX12_meaning_57 : decode cX12_meaning 57 = .ok (.aload_n 0, 1) := by decide +kernel
theorem dX12_meaning_58 : decode cX12_meaning 58 = .ok (.getfield 51, 3) := by decide +kernel
theorem dX12_meaning_61 : decode cX12_meaning 61 = .ok (.iload 5, 2) := by decide +kernel
theorem dX12_meaning_63 : decode cX12_meaning 63 = .ok (.iaload, 1) := by decide +kernel
theorem dX12_meaning_64 : decode cX12_meaning 64 = .ok (.istore 5, 2) := by decide +kernel
theorem dX12_meaning_66 : decode cX12_meaning 66 = .ok (.goto (-57), 3) := by decide +kernel
theorem dX12_meaning_69 : decode cX12_meaning 69 = .ok (.iload_n 3, 1) := by decide +kernel
theorem dX12_meaning_70 : decode cX12_meaning 70 = .ok (.sipush 5000, 3) := by decide +kernel
theorem dX12_meaning_73 : decode cX12_meaning 73 = .ok (.if_icmp .ge 7, 3) := by decide +kernel
theorem dX12_meaning_76 : decode cX12_meaning 76 = .ok (.iconst (-1), 1) := by decide +kernel
theorem dX12_meaning_77 : decode cX12_meaning 77 = .ok (.iload_n 3, 1) := by decide +kernel
theorem dX12_meaning_78 : decode cX12_meaning 78 = .ok (.isub, 1) := by decide +kernel
theorem dX12_meaning_79 : decode cX12_meaning 79 = .ok (.ireturn, 1) := by decide +kernel
theorem dX12_meaning_80 : decode cX12_meaning 80 = .ok (.aload_n 0, 1) := by decide +kernel
theorem dX12_meaning_81 : decode cX12_meaning 81 = .ok (.getfield 48, 3) := by decide +kernel
theorem dX12_meaning_84 : decode cX12_meaning 84 = .ok (.iload_n 3, 1) := by decide +kernel
theorem dX12_meaning_85 : decode cX12_meaning 85 = .ok (.sipush 5000, 3) := by decide +kernel
theorem dX12_meaning_88 : decode cX12_meaning 88 = .ok (.isub, 1) := by decide +kernel
theorem dX12_meaning_89 : decode cX12_meaning 89 = .ok (.iaload, 1) := by decide +kernel
theorem dX12_meaning_90 : decode cX12_meaning 90 = .ok (.istore 4, 2) := by decide +kernel
theorem dX12_meaning_92 : decode cX12_meaning 92 = .ok (.aload_n 0, 1) := by decide +kernel
theorem dX12_meaning_93 : decode cX12_meaning 93 = .ok (.getfield 45, 3) := by decide +kernel
theorem dX12_meaning_96 : decode cX12_meaning 96 = .ok (.iload_n 3, 1) := by decide +kernel
theorem dX12_meaning_97 : decode cX12_meaning 97 = .ok (.sipush 5000, 3) := by decide +kernel
theorem dX12_meaning_100 : decode cX12_meaning 100 = .ok (.isub, 1) := by decide +kernel
theorem dX12_meaning_101 : decode cX12_meaning 101 = .ok (.iaload, 1) := by decide +kernel
theorem dX12_meaning_102 : decode cX12_meaning 102 = .ok (.istore_n 3, 1) := by decide +kernel
theorem dX12_meaning_103 : decode cX12_meaning 103 = .ok (.goto (-98), 3) := by decide +kernel
theorem dX12_isName_0 : decode cX12_isName 0 = .ok (.aload_n 0, 1) := by decide +kernel
theorem dX12_isName_1 : decode cX12_isName 1 = .ok (.getfield 32, 3) := by decide +kernel
theorem dX12_isName_4 : decode cX12_isName 4 = .ok (.iload_n 1, 1) := by decide +kernel
theorem dX12_isName_5 : decode cX12_isName 5 = .ok (.baload, 1) := by decide +kernel
theorem dX12_isName_6 : decode cX12_isName 6 = .ok (.iconst 1, 1) := by decide +kernel
theorem dX12_isName_7 : decode cX12_isName 7 = .ok (.if_icmp .ne 7, 3) := by decide +kernel
theorem dX12_isName_10 : decode cX12_isName 10 = .ok (.iconst 1, 1) := by decide +kernel
theorem dX12_isName_11 : decode cX12_isName 11 = .ok (.goto 4, 3) := by decide +kernel
theorem dX12_isName_14 : decode cX12_isName 14 = .ok (.iconst 0, 1) := by decide +kernel
theorem dX12_isName_15 : decode cX12_isName 15 = .ok (.ireturn, 1) := by decide +kernel
theorem dX12_isList_0 : decode cX12_isList 0 = .ok (.aload_n 0, 1) := by decide +kernel
theorem dX12_isList_1 : decode cX12_isList 1 = .ok (.getfield 32, 3) := by decide +kernel
theorem dX12_isList_4 : decode cX12_isList 4 = .ok (.iload_n 1, 1) := by decide +kernel
theorem dX12_isList_5 : decode cX12_isList 5 = .ok (.baload, 1) := by decide +kernel
theorem dX12_isList_6 : decode cX12_isList 6 = .ok (.iconst 2, 1) := by decide +kernel
theorem dX12_isList_7 : decode cX12_isList 7 = .ok (.if_icmp .ne 17, 3) := by decide +kernel
theorem dX12_isList_10 : decode cX12_isList 10 = .ok (.aload_n 0, 1) := by decide +kernel
theorem dX12_isList_11 : decode cX12_isList 11 = .ok (.getfield 38, 3) := by decide +kernel
theorem dX12_isList_14 : decode cX12_isList 14 = .ok (.iload_n 1, 1) := by decide +kernel
theorem dX12_isList_15 : decode cX12_isList 15 = .ok (.iaload, 1) := by decide +kernel
theorem dX12_isList_16 : decode cX12_isList 16 = .ok (.iload_n 2, 1) := by decide +kernel
theorem dX12_isList_17 : decode cX12_isList 17 = .ok (.if_icmp .ne 7, 3) := by decide +kernel
theorem dX12_isList_20 : decode cX12_isList 20 = .ok (.iconst 1, 1) := by decide +kernel
theorem dX12_isList_21 : decode cX12_isList 21 = .ok (.goto 4, 3) := by decide +kernel
theorem dX12_isList_24 : decode cX12_isList 24 = .ok (.iconst 0, 1) := by decide +kernel
theorem dX12_isList_25 : decode cX12_isList 25 = .ok (.ireturn, 1) := by decide +kernel
theorem dX12_part_0 : decode cX12_part 0 = .ok (.aload_n 0, 1) := by decide +kernel
theorem dX12_part_1 : decode cX12_part 1 = .ok (.getfield 41, 3) := by decide +kernel
theorem dX12_part_4 : decode cX12_part 4 = .ok (.aload_n 0, 1) := by decide +kernel
theorem dX12_part_5 : decode cX12_part 5 = .ok (.getfield 35, 3) := by decide +kernel
theorem dX12_part_8 : decode cX12_part 8 = .ok (.iload_n 1, 1) := by decide +kernel
theorem dX12_part_9 : decode cX12_part 9 = .ok (.iaload, 1) := by decide +kernel
theorem dX12_part_10 : decode cX12_part 10 = .ok (.iload_n 2, 1) := by decide +kernel
theorem dX12_part_11 : decode cX12_part 11 = .ok (.iadd, 1) := by decide +kernel
theorem dX12_part_12 : decode cX12_part 12 = .ok (.iaload, 1) := by decide +kernel
theorem dX12_part_13 : decode cX12_part 13 = .ok (.ireturn, 1) := by decide +kernel
theorem dX12_isFrom_0 : decode cX12_isFrom 0 = .ok (.aload_n 0, 1) := by decide +kernel
theorem dX12_isFrom_1 : decode cX12_isFrom 1 = .ok (.iload_n 1, 1) := by decide +kernel
theorem dX12_isFrom_2 : decode cX12_isFrom 2 = .ok (.invokevirtual 180, 3) := by decide +kernel
theorem dX12_isFrom_5 : decode cX12_isFrom 5 = .ok (.ifCond .eq 21, 3) := by decide +kernel
theorem dX12_isFrom_8 : decode cX12_isFrom 8 = .ok (.aload_n 0, 1) := by decide +kernel
theorem dX12_isFrom_9 : decode cX12_isFrom 9 = .ok (.aload_n 0, 1) := by decide +kernel
theorem dX12_isFrom_10 : decode cX12_isFrom 10 = .ok (.getfield 35, 3) := by decide +kernel
theorem dX12_isFrom_13 : decode cX12_isFrom 13 = .ok (.iload_n 1, 1) := by decide +kernel
theorem dX12_isFrom_14 : decode cX12_isFrom 14 = .ok (.iaload, 1) := by decide +kernel
theorem dX12_isFrom_15 : decode cX12_isFrom 15 = .ok (.invokevirtual 184, 3) := by decide +kernel
theorem dX12_isFrom_18 : decode cX12_isFrom 18 = .ok (.iload_n 2, 1) := by decide +kernel
theorem dX12_isFrom_19 : decode cX12_isFrom 19 = .ok (.if_icmp .ne 7, 3) := by decide +kernel
theorem dX12_isFrom_22 : decode cX12_isFrom 22 = .ok (.iconst 1, 1) := by decide +kernel
theorem dX12_isFrom_23 : decode cX12_isFrom 23 = .ok (.goto 4, 3) := by decide +kernel
theorem dX12_isFrom_26 : decode cX12_isFrom 26 = .ok (.iconst 0, 1) := by decide +kernel
theorem dX12_isFrom_27 : decode cX12_isFrom 27 = .ok (.ireturn, 1) := by decide +kernel
theorem dX12_isBindable_0 : decode cX12_isBindable 0 = .ok (.aload_n 0, 1) := by decide +kernel
theorem dX12_isBindable_1 : decode cX12_isBindable 1 = .ok (.iload_n 1, 1) := by decide +kernel
theorem dX12_isBindable_2 : decode cX12_isBindable 2 = .ok (.invokevirtual 180, 3) := by decide +kernel
theorem dX12_isBindable_5 : decode cX12_isBindable 5 = .ok (.ifCond .eq 27, 3) := by decide +kernel
theorem dX12_isBindable_8 : decode cX12_isBindable 8 = .ok (.aload_n 0, 1) := by decide +kernel
theorem dX12_isBindable_9 : decode cX12_isBindable 9 = .ok (.iload_n 1, 1) := by decide +kernel
theorem dX12_isBindable_10 : decode cX12_isBindable 10 = .ok (.bipush 7, 2) := by decide +kernel
theorem dX12_isBindable_12 : decode cX12_isBindable 12 = .ok (.invokevirtual 188, 3) := by decide +kernel
theorem dX12_isBindable_15 : decode cX12_isBindable 15 = .ok (.ifCond .ne 17, 3) := by decide +kernel
theorem dX12_isBindable_18 : decode cX12_isBindable 18 = .ok (.aload_n 0, 1) := by decide +kernel
theorem dX12_isBindable_19 : decode cX12_isBindable 19 = .ok (.iload_n 1, 1) := by decide +kernel
theorem dX12_isBindable_20 : decode cX12_isBindable 20 = .ok (.bipush 8, 2) := by decide +kernel
theorem dX12_isBindable_22 : decode cX12_isBindable 22 = .ok (.invokevirtual 188, 3) := by decide +kernel
theorem dX12_isBindable_25 : decode cX12_isBindable 25 = .ok (.ifCond .ne 7, 3) := by decide +kernel
theorem dX12_isBindable_28 : decode cX12_isBindable 28 = .ok (.iconst 1, 1) := by decide +kernel
theorem dX12_isBindable_29 : decode cX12_isBindable 29 = .ok (.goto 4, 3) := by decide +kernel
theorem dX12_isBindable_32 : decode cX12_isBindable 32 = .ok (.iconst 0, 1) := by decide +kernel
theorem dX12_isBindable_33 : decode cX12_isBindable 33 = .ok (.ireturn, 1) := by decide +kernel
theorem dX12_isEllipsis_0 : decode cX12_isEllipsis 0 = .ok (.iload_n 2, 1) := by decide +kernel
theorem dX12_isEllipsis_1 : decode cX12_isEllipsis 1 = .ok (.aload_n 0, 1) := by decide +kernel
theorem dX12_isEllipsis_2 : decode cX12_isEllipsis 2 = .ok (.getfield 38, 3) := by decide +kernel
theorem dX12_isEllipsis_5 : decode cX12_isEllipsis 5 = .ok (.iload_n 1, 1) := by decide +kernel
theorem dX12_isEllipsis_6 : decode cX12_isEllipsis 6 = .ok (.iaload, 1) := by decide +kernel
theorem dX12_isEllipsis_7 : decode cX12_isEllipsis 7 = .ok (.if_icmp .ge 22, 3) := by decide +kernel
theorem dX12_isEllipsis_10 : decode cX12_isEllipsis 10 = .ok (.aload_n 0, 1) := by decide +kernel
theorem dX12_isEllipsis_11 : decode cX12_isEllipsis 11 = .ok (.aload_n 0, 1) := by decide +kernel
theorem dX12_isEllipsis_12 : decode cX12_isEllipsis 12 = .ok (.iload_n 1, 1) := by decide +kernel
theorem dX12_isEllipsis_13 : decode cX12_isEllipsis 13 = .ok (.iload_n 2, 1) := by decide +kernel
theorem dX12_isEllipsis_14 : decode cX12_isEllipsis 14 = .ok (.invokevirtual 192, 3) := by decide +kernel
theorem dX12_isEllipsis_17 : decode cX12_isEllipsis 17 = .ok (.bipush 7, 2) := by decide +kernel
theorem dX12_isEllipsis_19 : decode cX12_isEllipsis 19 = .ok (.invokevirtual 188, 3) := by decide +kernel
theorem dX12_isEllipsis_22 : decode cX12_isEllipsis 22 = .ok (.ifCond .eq 7, 3) := by decide +kernel
theorem dX12_isEllipsis_25 : decode cX12_isEllipsis 25 = .ok (.iconst 1, 1) := by decide +kernel
theorem dX12_isEllipsis_26 : decode cX12_isEllipsis 26 = .ok (.goto 4, 3) := by decide +kernel
theorem dX12_isEllipsis_29 : decode cX12_isEllipsis 29 = .ok (.iconst 0, 1) := by decide +kernel
theorem dX12_isEllipsis_30 : decode cX12_isEllipsis 30 = .ok (.ireturn, 1) := by decide +kernel
theorem dX12_newForm_0 : decode cX12_newForm 0 = .ok (.aload_n 0, 1) := by decide +kernel
theorem dX12_newForm_1 : decode cX12_newForm 1 = .ok (.getfield 32, 3) := by decide +kernel
theorem dX12_newForm_4 : decode cX12_newForm 4 = .ok (.aload_n 0, 1) := by decide +kernel
theorem dX12_newForm_5 : decode cX12_newForm 5 = .ok (.getfield 196, 3) := by decide +kernel
theorem dX12_newForm_8 : decode cX12_newForm 8 = .ok (.iload_n 1, 1) := by decide +kernel
theorem dX12_newForm_9 : decode cX12_newForm 9 = .ok (.i2b, 1) := by decide +kernel
theorem dX12_newForm_10 : decode cX12_newForm 10 = .ok (.bastore, 1) := by decide +kernel
theorem dX12_newForm_11 : decode cX12_newForm 11 = .ok (.aload_n 0, 1) := by decide +kernel
theorem dX12_newForm_12 : decode cX12_newForm 12 = .ok (.getfield 35, 3) := by decide +kernel
theorem dX12_newForm_15 : decode cX12_newForm 15 = .ok (.aload_n 0, 1) := by decide +kernel
theorem dX12_newForm_16 : decode cX12_newForm 16 = .ok (.getfield 196, 3) := by decide +kernel
theorem dX12_newForm_19 : decode cX12_newForm 19 = .ok (.iload_n 2, 1) := by decide +kernel
theorem dX12_newForm_20 : decode cX12_newForm 20 = .ok (.iastore, 1) := by decide +kernel
theorem dX12_newForm_21 : decode cX12_newForm 21 = .ok (.aload_n 0, 1) := by decide +kernel
theorem dX12_newForm_22 : decode cX12_newForm 22 = .ok (.getfield 38, 3) := by decide +kernel
theorem dX12_newForm_25 : decode cX12_newForm 25 = .ok (.aload_n 0, 1) := by decide +kernel
theorem dX12_newForm_26 : decode cX12_newForm 26 = .ok (.getfield 196, 3) := by decide +kernel
theorem dX12_newForm_29 : decode cX12_newForm 29 = .ok (.iload_n 3, 1) := by decide +kernel
theorem dX12_newForm_30 : decode cX12_newForm 30 = .ok (.iastore, 1) := by decide +kernel
theorem dX12_newForm_31 : decode cX12_newForm 31 = .ok (.aload_n 0, 1) := by decide +kernel
theorem dX12_newForm_32 : decode cX12_newForm 32 = .ok (.dup, 1) := by decide +kernel
theorem dX12_newForm_33 : decode cX12_newForm 33 = .ok (.getfield 196, 3) := by decide +kernel
theorem dX12_newForm_36 : decode cX12_newForm 36 = .ok (.iconst 1, 1) := by decide +kernel
theorem dX12_newForm_37 : decode cX12_newForm 37 = .ok (.iadd, 1) := by decide +kernel
theorem dX12_newForm_38 : decode cX12_newForm 38 = .ok (.putfield 196, 3) := by decide +kernel
theorem dX12_newForm_41 : decode cX12_newForm 41 = .ok (.aload_n 0, 1) := by decide +kernel
theorem dX12_newForm_42 : decode cX12_newForm 42 = .ok (.getfield 196, 3) := by decide +kernel
theorem dX12_newForm_45 : decode cX12_newForm 45 = .ok (.iconst 1, 1) := by decide +kernel
theorem dX12_newForm_46 : decode cX12_newForm 46 = .ok (.isub, 1) := by decide +kernel
theorem dX12_newForm_47 : decode cX12_newForm 47 = .ok (.ireturn, 1) := by decide +kernel
theorem dX12_isSymbol_0 : decode cX12_isSymbol 0 = .ok (.aload_n 0, 1) := by decide +kernel
theorem dX12_isSymbol_1 : decode cX12_isSymbol 1 = .ok (.getfield 21, 3) := by decide +kernel
theorem dX12_isSymbol_4 : decode cX12_isSymbol 4 = .ok (.iload_n 1, 1) := by decide +kernel
theorem dX12_isSymbol_5 : decode cX12_isSymbol 5 = .ok (.iconst 1, 1) := by decide +kernel
theorem dX12_isSymbol_6 : decode cX12_isSymbol 6 = .ok (.iadd, 1) := by decide +kernel
theorem dX12_isSymbol_7 : decode cX12_isSymbol 7 = .ok (.iaload, 1) := by decide +kernel
theorem dX12_isSymbol_8 : decode cX12_isSymbol 8 = .ok (.aload_n 0, 1) := by decide +kernel
theorem dX12_isSymbol_9 : decode cX12_isSymbol 9 = .ok (.getfield 21, 3) := by decide +kernel
theorem dX12_isSymbol_12 : decode cX12_isSymbol 12 = .ok (.iload_n 1, 1) := by decide +kernel
theorem dX12_isSymbol_13 : decode cX12_isSymbol 13 = .ok (.iaload, 1) := by decide +kernel
theorem dX12_isSymbol_14 : decode cX12_isSymbol 14 = .ok (.isub, 1) := by decide +kernel
theorem dX12_isSymbol_15 : decode cX12_isSymbol 15 = .ok (.iload_n 3, 1) := by decide +kernel
theorem dX12_isSymbol_16 : decode cX12_isSymbol 16 = .ok (.iload_n 2, 1) := by decide +kernel
theorem dX12_isSymbol_17 : decode cX12_isSymbol 17 = .ok (.isub, 1) := by decide +kernel
theorem dX12_isSymbol_18 : decode cX12_isSymbol 18 = .ok (.if_icmp .ne 7, 3) := by decide +kernel
theorem dX12_isSymbol_21 : decode cX12_isSymbol 21 = .ok (.iconst 1, 1) := by decide +kernel
theorem dX12_isSymbol_22 : decode cX12_isSymbol 22 = .ok (.goto 4, 3) := by decide +kernel
theorem dX12_isSymbol_25 : decode cX12_isSymbol 25 = .ok (.iconst 0, 1) := by decide +kernel
theorem dX12_isSymbol_26 : decode cX12_isSymbol 26 = .ok (.istore 4, 2) := by decide +kernel
theorem dX12_isSymbol_28 : decode cX12_isSymbol 28 = .ok (.iconst 0, 1) := by decide +kernel
theorem dX12_isSymbol_29 : decode cX12_isSymbol 29 = .ok (.istore 5, 2) := by decide +kernel
theorem dX12_isSymbol_31 : decode cX12_isSymbol 31 = .ok (.iload 5, 2) := by decide +kernel
theorem dX12_isSymbol_33 : decode cX12_isSymbol 33 = .ok (.iload_n 3, 1) := by decide +kernel
theorem dX12_isSymbol_34 : decode cX12_isSymbol 34 = .ok (.iload_n 2, 1) := by decide +kernel
theorem dX12_isSymbol_35 : decode cX12_isSymbol 35 = .ok (.isub, 1) := by decide +kernel
theorem dX12_isSymbol_36 : decode cX12_isSymbol 36 = .ok (.if_icmp .ge 47, 3) := by decide +kernel
theorem dX12_isSymbol_39 : decode cX12_isSymbol 39 = .ok (.iload 4, 2) := by decide +kernel
theorem dX12_isSymbol_41 : decode cX12_isSymbol 41 = .ok (.ifCond .eq 42, 3) := by decide +kernel
theorem dX12_isSymbol_44 : decode cX12_isSymbol 44 = .ok (.aload_n 0, 1) := by decide +kernel
theorem dX12_isSymbol_45 : decode cX12_isSymbol 45 = .ok (.getfield 18, 3) := by decide +kernel
theorem dX12_isSymbol_48 : decode cX12_isSymbol 48 = .ok (.aload_n 0, 1) := by decide +kernel
theorem dX12_isSymbol_49 : decode cX12_isSymbol 49 = .ok (.getfield 21, 3) := by decide +kernel
theorem dX12_isSymbol_52 : decode cX12_isSymbol 52 = .ok (.iload_n 1, 1) := by decide +kernel
theorem dX12_isSymbol_53 : decode cX12_isSymbol 53 = .ok (.iaload, 1) := by decide +kernel
theorem dX12_isSymbol_54 : decode cX12_isSymbol 54 = .ok (.iload 5, 2) := by decide +kernel
theorem dX12_isSymbol_56 : decode cX12_isSymbol 56 = .ok (.iadd, 1) := by decide +kernel
theorem dX12_isSymbol_57 : decode cX12_isSymbol 57 = .ok (.baload, 1) := by decide +kernel
theorem dX12_isSymbol_58 : decode cX12_isSymbol 58 = .ok (.aload_n 0, 1) := by decide +kernel
theorem dX12_isSymbol_59 : decode cX12_isSymbol 59 = .ok (.getfield 7, 3) := by decide +kernel
theorem dX12_isSymbol_62 : decode cX12_isSymbol 62 = .ok (.iload_n 2, 1) := by decide +kernel
theorem dX12_isSymbol_63 : decode cX12_isSymbol 63 = .ok (.iload 5, 2) := by decide +kernel
theorem dX12_isSymbol_65 : decode cX12_isSymbol 65 = .ok (.iadd, 1) := by decide +kernel
theorem dX12_isSymbol_66 : decode cX12_isSymbol 66 = .ok (.baload, 1) := by decide +kernel
theorem dX12_isSymbol_67 : decode cX12_isSymbol 67 = .ok (.if_icmp .ne 7, 3) := by decide +kernel
theorem dX12_isSymbol_70 : decode cX12_isSymbol 70 = .ok (.iconst 1, 1) := by decide +kernel
theorem dX12_isSymbol_71 : decode cX12_isSymbol 71 = .ok (.goto 4, 3) := by decide +kernel
theorem dX12_isSymbol_74 : decode cX12_isSymbol 74 = .ok (.iconst 0, 1) := by decide +kernel
theorem dX12_isSymbol_75 : decode cX12_isSymbol 75 = .ok (.istore 4, 2) := by decide +kernel
theorem dX12_isSymbol_77 : decode cX12_isSymbol 77 = .ok (.iinc 5 1, 3) := by decide +kernel
theorem dX12_isSymbol_80 : decode cX12_isSymbol 80 = .ok (.goto (-49), 3) := by decide +kernel
theorem dX12_isSymbol_83 : decode cX12_isSymbol 83 = .ok (.iload 4, 2) := by decide +kernel
theorem dX12_isSymbol_85 : decode cX12_isSymbol 85 = .ok (.ireturn, 1) := by decide +kernel
theorem dX12_symbolAt_0 : decode cX12_symbolAt 0 = .ok (.iconst 0, 1) := by decide +kernel
theorem dX12_symbolAt_1 : decode cX12_symbolAt 1 = .ok (.istore_n 3, 1) := by decide +kernel
theorem dX12_symbolAt_2 : decode cX12_symbolAt 2 = .ok (.iload_n 3, 1) := by decide +kernel
theorem dX12_symbolAt_3 : decode cX12_symbolAt 3 = .ok (.aload_n 0, 1) := by decide +kernel
theorem dX12_symbolAt_4 : decode cX12_symbolAt 4 = .ok (.getfield 165, 3) := by decide +kernel
theorem dX12_symbolAt_7 : decode cX12_symbolAt 7 = .ok (.if_icmp .ge 21, 3) := by decide +kernel
theorem dX12_symbolAt_10 : decode cX12_symbolAt 10 = .ok (.aload_n 0, 1) := by decide +kernel
theorem dX12_symbolAt_11 : decode cX12_symbolAt 11 = .ok (.iload_n 3, 1) := by decide +kernel
theorem dX12_symbolAt_12 : decode cX12_symbolAt 12 = .ok (.iload_n 1, 1) := by decide +kernel
theorem dX12_symbolAt_13 : decode cX12_symbolAt 13 = .ok (.iload_n 2, 1) := by decide +kernel
theorem dX12_symbolAt_14 : decode cX12_symbolAt 14 = .ok (.invokevirtual 199, 3) := by decide +kernel
theorem dX12_symbolAt_17 : decode cX12_symbolAt 17 = .ok (.ifCond .eq 5, 3) := by decide +kernel
theorem dX12_symbolAt_20 : decode cX12_symbolAt 20 = .ok (.iload_n 3, 1) := by decide +kernel
theorem dX12_symbolAt_21 : decode cX12_symbolAt 21 = .ok (.ireturn, 1) := by decide +kernel
theorem dX12_symbolAt_22 : decode cX12_symbolAt 22 = .ok (.iinc 3 1, 3) := by decide +kernel
theorem dX12_symbolAt_25 : decode cX12_symbolAt 25 = .ok (.goto (-23), 3) := by decide +kernel
theorem dX12_symbolAt_28 : decode cX12_symbolAt 28 = .ok (.aload_n 0, 1) := by decide +kernel
theorem dX12_symbolAt_29 : decode cX12_symbolAt 29 = .ok (.getfield 21, 3) := by decide +kernel
theorem dX12_symbolAt_32 : decode cX12_symbolAt 32 = .ok (.aload_n 0, 1) := by decide +kernel
theorem dX12_symbolAt_33 : decode cX12_symbolAt 33 = .ok (.getfield 165, 3) := by decide +kernel
theorem dX12_symbolAt_36 : decode cX12_symbolAt 36 = .ok (.iconst 1, 1) := by decide +kernel
theorem dX12_symbolAt_37 : decode cX12_symbolAt 37 = .ok (.iadd, 1) := by decide +kernel
theorem dX12_symbolAt_38 : decode cX12_symbolAt 38 = .ok (.aload_n 0, 1) := by decide +kernel
theorem dX12_symbolAt_39 : decode cX12_symbolAt 39 = .ok (.getfield 21, 3) := by decide +kernel
theorem dX12_symbolAt_42 : decode cX12_symbolAt 42 = .ok (.aload_n 0, 1) := by decide +kernel
theorem dX12_symbolAt_43 : decode cX12_symbolAt 43 = .ok (.getfield 165, 3) := by decide +kernel
theorem dX12_symbolAt_46 : decode cX12_symbolAt 46 = .ok (.iaload, 1) := by decide +kernel
theorem dX12_symbolAt_47 : decode cX12_symbolAt 47 = .ok (.iastore, 1) := by decide +kernel
theorem dX12_symbolAt_48 : decode cX12_symbolAt 48 = .ok (.aload_n 0, 1) := by decide +kernel
theorem dX12_symbolAt_49 : decode cX12_symbolAt 49 = .ok (.dup, 1) := by decide +kernel
theorem dX12_symbolAt_50 : decode cX12_symbolAt 50 = .ok (.getfield 165, 3) := by decide +kernel
theorem dX12_symbolAt_53 : decode cX12_symbolAt 53 = .ok (.iconst 1, 1) := by decide +kernel
theorem dX12_symbolAt_54 : decode cX12_symbolAt 54 = .ok (.iadd, 1) := by decide +kernel
theorem dX12_symbolAt_55 : decode cX12_symbolAt 55 = .ok (.putfield 165, 3) := by decide +kernel
theorem dX12_symbolAt_58 : decode cX12_symbolAt 58 = .ok (.iload_n 1, 1) := by decide +kernel
theorem dX12_symbolAt_59 : decode cX12_symbolAt 59 = .ok (.istore_n 3, 1) := by decide +kernel
theorem dX12_symbolAt_60 : decode cX12_symbolAt 60 = .ok (.iload_n 3, 1) := by decide +kernel
theorem dX12_symbolAt_61 : decode cX12_symbolAt 61 = .ok (.iload_n 2, 1) := by decide +kernel
theorem dX12_symbolAt_62 : decode cX12_symbolAt 62 = .ok (.if_icmp .ge 42, 3) := by decide +kernel
theorem dX12_symbolAt_65 : decode cX12_symbolAt 65 = .ok (.aload_n 0, 1) := by decide +kernel
theorem dX12_symbolAt_66 : decode cX12_symbolAt 66 = .ok (.getfield 18, 3) := by decide +kernel
theorem dX12_symbolAt_69 : decode cX12_symbolAt 69 = .ok (.aload_n 0, 1) := by decide +kernel
theorem dX12_symbolAt_70 : decode cX12_symbolAt 70 = .ok (.getfield 21, 3) := by decide +kernel
theorem dX12_symbolAt_73 : decode cX12_symbolAt 73 = .ok (.aload_n 0, 1) := by decide +kernel
theorem dX12_symbolAt_74 : decode cX12_symbolAt 74 = .ok (.getfield 165, 3) := by decide +kernel
theorem dX12_symbolAt_77 : decode cX12_symbolAt 77 = .ok (.iaload, 1) := by decide +kernel
theorem dX12_symbolAt_78 : decode cX12_symbolAt 78 = .ok (.aload_n 0, 1) := by decide +kernel
theorem dX12_symbolAt_79 : decode cX12_symbolAt 79 = .ok (.getfield 7, 3) := by decide +kernel
theorem dX12_symbolAt_82 : decode cX12_symbolAt 82 = .ok (.iload_n 3, 1) := by decide +kernel
theorem dX12_symbolAt_83 : decode cX12_symbolAt 83 = .ok (.baload, 1) := by decide +kernel
theorem dX12_symbolAt_84 : decode cX12_symbolAt 84 = .ok (.bastore, 1) := by decide +kernel
theorem dX12_symbolAt_85 : decode cX12_symbolAt 85 = .ok (.aload_n 0, 1) := by decide +kernel
theorem dX12_symbolAt_86 : decode cX12_symbolAt 86 = .ok (.getfield 21, 3) := by decide +kernel
theorem dX12_symbolAt_89 : decode cX12_symbolAt 89 = .ok (.aload_n 0, 1) := by decide +kernel
theorem dX12_symbolAt_90 : decode cX12_symbolAt 90 = .ok (.getfield 165, 3) := by decide +kernel
theorem dX12_symbolAt_93 : decode cX12_symbolAt 93 = .ok (.dup2, 1) := by decide +kernel
theorem dX12_symbolAt_94 : decode cX12_symbolAt 94 = .ok (.iaload, 1) := by decide +kernel
theorem dX12_symbolAt_95 : decode cX12_symbolAt 95 = .ok (.iconst 1, 1) := by decide +kernel
theorem dX12_symbolAt_96 : decode cX12_symbolAt 96 = .ok (.iadd, 1) := by decide +kernel
theorem dX12_symbolAt_97 : decode cX12_symbolAt 97 = .ok (.iastore, 1) := by decide +kernel
theorem dX12_symbolAt_98 : decode cX12_symbolAt 98 = .ok (.iinc 3 1, 3) := by decide +kernel
theorem dX12_symbolAt_101 : decode cX12_symbolAt 101 = .ok (.goto (-41), 3) := by decide +kernel
theorem dX12_symbolAt_104 : decode cX12_symbolAt 104 = .ok (.aload_n 0, 1) := by decide +kernel
theorem dX12_symbolAt_105 : decode cX12_symbolAt 105 = .ok (.getfield 165, 3) := by decide +kernel
theorem dX12_symbolAt_108 : decode cX12_symbolAt 108 = .ok (.iconst 1, 1) := by decide +kernel
theorem dX12_symbolAt_109 : decode cX12_symbolAt 109 = .ok (.isub, 1) := by decide +kernel
theorem dX12_symbolAt_110 : decode cX12_symbolAt 110 = .ok (.ireturn, 1) := by decide +kernel
theorem dX12_token_0 : decode cX12_token 0 = .ok (.iconst 1, 1) := by decide +kernel
theorem dX12_token_1 : decode cX12_token 1 = .ok (.istore_n 3, 1) := by decide +kernel
theorem dX12_token_2 : decode cX12_token 2 = .ok (.iconst 0, 1) := by decide +kernel
theorem dX12_token_3 : decode cX12_token 3 = .ok (.istore 4, 2) := by decide +kernel
theorem dX12_token_5 : decode cX12_token 5 = .ok (.iload_n 1, 1) := by decide +kernel
theorem dX12_token_6 : decode cX12_token 6 = .ok (.istore 5, 2) := by decide +kernel
theorem dX12_token_8 : decode cX12_token 8 = .ok (.iload 5, 2) := by decide +kernel
theorem dX12_token_10 : decode cX12_token 10 = .ok (.iload_n 2, 1) := by decide +kernel
theorem dX12_token_11 : decode cX12_token 11 = .ok (.if_icmp .ge 43, 3) := by decide +kernel
theorem dX12_token_14 : decode cX12_token 14 = .ok (.iload_n 3, 1) := by decide +kernel
theorem dX12_token_15 : decode cX12_token 15 = .ok (.ifCond .eq 31, 3) := by decide +kernel
theorem dX12_token_18 : decode cX12_token 18 = .ok (.aload_n 0, 1) := by decide +kernel
theorem dX12_token_19 : decode cX12_token 19 = .ok (.getfield 7, 3) := by decide +kernel
theorem dX12_token_22 : decode cX12_token 22 = .ok (.iload 5, 2) := by decide +kernel
theorem dX12_token_24 : decode cX12_token 24 = .ok (.baload, 1) := by decide +kernel
theorem dX12_token_25 : decode cX12_token 25 = .ok (.bipush 48, 2) := by decide +kernel
theorem dX12_token_27 : decode cX12_token 27 = .ok (.if_icmp .lt 19, 3) := by decide +kernel
theorem dX12_token_30 : decode cX12_token 30 = .ok (.aload_n 0, 1) := by decide +kernel
theorem dX12_token_31 : decode cX12_token 31 = .ok (.getfield 7, 3) := by decide +kernel
theorem dX12_token_34 : decode cX12_token 34 = .ok (.iload 5, 2) := by decide +kernel
theorem dX12_token_36 : decode cX12_token 36 = .ok (.baload, 1) := by decide +kernel
theorem dX12_token_37 : decode cX12_token 37 = .ok (.bipush 57, 2) := by decide +kernel
theorem dX12_token_39 : decode cX12_token 39 = .ok (.if_icmp .gt 7, 3) := by decide +kernel
theorem dX12_token_42 : decode cX12_token 42 = .ok (.iconst 1, 1) := by decide +kernel
theorem dX12_token_43 : decode cX12_token 43 = .ok (.goto 4, 3) := by decide +kernel
theorem dX12_token_46 : decode cX12_token 46 = .ok (.iconst 0, 1) := by decide +kernel
theorem dX12_token_47 : decode cX12_token 47 = .ok (.istore_n 3, 1) := by decide +kernel
theorem dX12_token_48 : decode cX12_token 48 = .ok (.iinc 5 1, 3) := by decide +kernel
theorem dX12_token_51 : decode cX12_token 51 = .ok (.goto (-43), 3) := by decide +kernel
theorem dX12_token_54 : decode cX12_token 54 = .ok (.iload_n 2, 1) := by decide +kernel
theorem dX12_token_55 : decode cX12_token 55 = .ok (.iload_n 1, 1) := by decide +kernel
theorem dX12_token_56 : decode cX12_token 56 = .ok (.isub, 1) := by decide +kernel
theorem dX12_token_57 : decode cX12_token 57 = .ok (.iload_n 3, 1) := by decide +kernel
theorem dX12_token_58 : decode cX12_token 58 = .ok (.ifCond .eq 8, 3) := by decide +kernel
theorem dX12_token_61 : decode cX12_token 61 = .ok (.bipush 6, 2) := by decide +kernel
theorem dX12_token_63 : decode cX12_token 63 = .ok (.goto 5, 3) := by decide +kernel
theorem dX12_token_66 : decode cX12_token 66 = .ok (.bipush 12, 2) := by decide +kernel
theorem dX12_token_68 : decode cX12_token 68 = .ok (.if_icmp .le 16, 3) := by decide +kernel
theorem dX12_token_71 : decode cX12_token 71 = .ok (.aload_n 0, 1) := by decide +kernel
theorem dX12_token_72 : decode cX12_token 72 = .ok (.bipush 6, 2) := by decide +kernel
theorem dX12_token_74 : decode cX12_token 74 = .ok (.iload_n 1, 1) := by decide +kernel
theorem dX12_token_75 : decode cX12_token 75 = .ok (.iload_n 2, 1) := by decide +kernel
theorem dX12_token_76 : decode cX12_token 76 = .ok (.invokevirtual 199, 3) := by decide +kernel
theorem dX12_token_79 : decode cX12_token 79 = .ok (.ifCond .ne 5, 3) := by decide +kernel
theorem dX12_token_82 : decode cX12_token 82 = .ok (.iconst 0, 1) := by decide +kernel
theorem dX12_token_83 : decode cX12_token 83 = .ok (.ireturn, 1) := by decide +kernel
theorem dX12_token_84 : decode cX12_token 84 = .ok (.iload_n 1, 1) := by decide +kernel
theorem dX12_token_85 : decode cX12_token 85 = .ok (.istore 5, 2) := by decide +kernel
theorem dX12_token_87 : decode cX12_token 87 = .ok (.iload 5, 2) := by decide +kernel
theorem dX12_token_89 : decode cX12_token 89 = .ok (.iload_n 2, 1) := by decide +kernel
theorem dX12_token_90 : decode cX12_token 90 = .ok (.if_icmp .ge 31, 3) := by decide +kernel
theorem dX12_token_93 : decode cX12_token 93 = .ok (.iload_n 3, 1) := by decide +kernel
theorem dX12_token_94 : decode cX12_token 94 = .ok (.ifCond .eq 27, 3) := by decide +kernel
theorem dX12_token_97 : decode cX12_token 97 = .ok (.bipush 10, 2) := by decide +kernel
theorem dX12_token_99 : decode cX12_token 99 = .ok (.iload 4, 2) := by decide +kernel
theorem dX12_token_101 : decode cX12_token 101 = .ok (.imul, 1) := by decide +kernel
theorem dX12_token_102 : decode cX12_token 102 = .ok (.aload_n 0, 1) := by decide +kernel
theorem dX12_token_103 : decode cX12_token 103 = .ok (.getfield 7, 3) := by decide +kernel
theorem dX12_token_106 : decode cX12_token 106 = .ok (.iload 5, 2) := by decide +kernel
theorem dX12_token_108 : decode cX12_token 108 = .ok (.baload, 1) := by decide +kernel
theorem dX12_token_109 : decode cX12_token 109 = .ok (.iadd, 1) := by decide +kernel
theorem dX12_token_110 : decode cX12_token 110 = .ok (.bipush 48, 2) := by decide +kernel
theorem dX12_token_112 : decode cX12_token 112 = .ok (.isub, 1) := by decide +kernel
theorem dX12_token_113 : decode cX12_token 113 = .ok (.istore 4, 2) := by decide +kernel
theorem dX12_token_115 : decode cX12_token 115 = .ok (.iinc 5 1, 3) := by decide +kernel
theorem dX12_token_118 : decode cX12_token 118 = .ok (.goto (-31), 3) := by decide +kernel
theorem dX12_token_121 : decode cX12_token 121 = .ok (.aload_n 0, 1) := by decide +kernel
theorem dX12_token_122 : decode cX12_token 122 = .ok (.getfield 85, 3) := by decide +kernel
theorem dX12_token_125 : decode cX12_token 125 = .ok (.aload_n 0, 1) := by decide +kernel
theorem dX12_token_126 : decode cX12_token 126 = .ok (.getfield 203, 3) := by decide +kernel
theorem dX12_token_129 : decode cX12_token 129 = .ok (.iload_n 3, 1) := by decide +kernel
theorem dX12_token_130 : decode cX12_token 130 = .ok (.ifCond .eq 14, 3) := by decide +kernel
theorem dX12_token_133 : decode cX12_token 133 = .ok (.aload_n 0, 1) := by decide +kernel
theorem dX12_token_134 : decode cX12_token 134 = .ok (.iconst 0, 1) := by decide +kernel
theorem dX12_token_135 : decode cX12_token 135 = .ok (.iload 4, 2) := by decide +kernel
theorem dX12_token_137 : decode cX12_token 137 = .ok (.iconst 0, 1) := by decide +kernel
theorem dX12_token_138 : decode cX12_token 138 = .ok (.invokevirtual 206, 3) := by decide +kernel
theorem dX12_token_141 : decode cX12_token 141 = .ok (.goto 15, 3) := by decide +kernel
theorem dX12_token_144 : decode cX12_token 144 = .ok (.aload_n 0, 1) := by decide +kernel
theorem dX12_token_145 : decode cX12_token 145 = .ok (.iconst 1, 1) := by decide +kernel
theorem dX12_token_146 : decode cX12_token 146 = .ok (.aload_n 0, 1) := by decide +kernel
theorem dX12_token_147 : decode cX12_token 147 = .ok (.iload_n 1, 1) := by decide +kernel
theorem dX12_token_148 : decode cX12_token 148 = .ok (.iload_n 2, 1) := by decide +kernel
theorem dX12_token_149 : decode cX12_token 149 = .ok (.invokevirtual 210, 3) := by decide +kernel
theorem dX12_token_152 : decode cX12_token 152 = .ok (.iconst 0, 1) := by decide +kernel
theorem dX12_token_153 : decode cX12_token 153 = .ok (.invokevirtual 206, 3) := by decide +kernel
theorem dX12_token_156 : decode cX12_token 156 = .ok (.iastore, 1) := by decide +kernel
theorem dX12_token_157 : decode cX12_token 157 = .ok (.aload_n 0, 1) := by decide +kernel
theorem dX12_token_158 : decode cX12_token 158 = .ok (.dup, 1) := by decide +kernel
theorem dX12_token_159 : decode cX12_token 159 = .ok (.getfield 203, 3) := by decide +kernel
theorem dX12_token_162 : decode cX12_token 162 = .ok (.iconst 1, 1) := by decide +kernel
theorem dX12_token_163 : decode cX12_token 163 = .ok (.iadd, 1) := by decide +kernel
theorem dX12_token_164 : decode cX12_token 164 = .ok (.putfield 203, 3) := by decide +kernel
theorem dX12_token_167 : decode cX12_token 167 = .ok (.iconst 1, 1) := by decide +kernel
theorem dX12_token_168 : decode cX12_token 168 = .ok (.ireturn, 1) := by decide +kernel
theorem dX12_parse_0 : decode cX12_parse 0 = .ok (.aload_n 0, 1) := by decide +kernel
theorem dX12_parse_1 : decode cX12_parse 1 = .ok (.iconst 0, 1) := by decide +kernel
theorem dX12_parse_2 : decode cX12_parse 2 = .ok (.putfield 203, 3) := by decide +kernel
theorem dX12_parse_5 : decode cX12_parse 5 = .ok (.iconst 0, 1) := by decide +kernel
theorem dX12_parse_6 : decode cX12_parse 6 = .ok (.istore_n 1, 1) := by decide +kernel
theorem dX12_parse_7 : decode cX12_parse 7 = .ok (.iconst 0, 1) := by decide +kernel
theorem dX12_parse_8 : decode cX12_parse 8 = .ok (.istore_n 2, 1) := by decide +kernel
theorem dX12_parse_9 : decode cX12_parse 9 = .ok (.iconst 1, 1) := by decide +kernel
theorem dX12_parse_10 : decode cX12_parse 10 = .ok (.istore_n 3, 1) := by decide +kernel
theorem dX12_parse_11 : decode cX12_parse 11 = .ok (.iload_n 2, 1) := by decide +kernel
theorem dX12_parse_12 : decode cX12_parse 12 = .ok (.aload_n 0, 1) := by decide +kernel
theorem dX12_parse_13 : decode cX12_parse 13 = .ok (.getfield 171, 3) := by decide +kernel
theorem dX12_parse_16 : decode cX12_parse 16 = .ok (.if_icmp .ge 171, 3) := by decide +kernel
theorem dX12_parse_19 : decode cX12_parse 19 = .ok (.iload_n 3, 1) := by decide +kernel
theorem dX12_parse_20 : decode cX12_parse 20 = .ok (.ifCond .eq 167, 3) := by decide +kernel
theorem dX12_parse_23 : decode cX12_parse 23 = .ok (.aload_n 0, 1) := by decide +kernel
theorem dX12_parse_24 : decode cX12_parse 24 = .ok (.getfield 7, 3) := by decide +kernel
theorem dX12_parse_27 : decode cX12_parse 27 = .ok (.iload_n 2, 1) := by decide +kernel
theorem dX12_parse_28 : decode cX12_parse 28 = .ok (.baload, 1) := by decide +kernel
theorem dX12_parse_29 : decode cX12_parse 29 = .ok (.istore 4, 2) := by decide +kernel
theorem dX12_parse_31 : decode cX12_parse 31 = .ok (.iload 4, 2) := by decide +kernel
theorem dX12_parse_33 : decode cX12_parse 33 = .ok (.bipush 40, 2) := by decide +kernel
theorem dX12_parse_35 : decode cX12_parse 35 = .ok (.if_icmp .ne 35, 3) := by decide +kernel
theorem dX12_parse_38 : decode cX12_parse 38 = .ok (.iload_n 1, 1) := by decide +kernel
theorem dX12_parse_39 : decode cX12_parse 39 = .ok (.bipush 60, 2) := by decide +kernel
theorem dX12_parse_41 : decode cX12_parse 41 = .ok (.if_icmp .gt 7, 3) := by decide +kernel
theorem dX12_parse_44 : decode cX12_parse 44 = .ok (.iconst 1, 1) := by decide +kernel
theorem dX12_parse_45 : decode cX12_parse 45 = .ok (.goto 4, 3) := by decide +kernel
theorem dX12_parse_48 : decode cX12_parse 48 = .ok (.iconst 0, 1) := by decide +kernel
theorem dX12_parse_49 : decode cX12_parse 49 = .ok (.istore_n 3, 1) := by decide +kernel
theorem dX12_parse_50 : decode cX12_parse 50 = .ok (.iload_n 3, 1) := by decide +kernel
theorem dX12_parse_51 : decode cX12_parse 51 = .ok (.ifCond .eq 130, 3) := by decide +kernel
theorem dX12_parse_54 : decode cX12_parse 54 = .ok (.aload_n 0, 1) := by decide +kernel
theorem dX12_parse_55 : decode cX12_parse 55 = .ok (.getfield 88, 3) := by decide +kernel
theorem dX12_parse_58 : decode cX12_parse 58 = .ok (.iload_n 1, 1) := by decide +kernel
theorem dX12_parse_59 : decode cX12_parse 59 = .ok (.aload_n 0, 1) := by decide +kernel
theorem dX12_parse_60 : decode cX12_parse 60 = .ok (.getfield 203, 3) := by decide +kernel
theorem dX12_parse_63 : decode cX12_parse 63 = .ok (.iastore, 1) := by decide +kernel
theorem dX12_parse_64 : decode cX12_parse 64 = .ok (.iinc 1 1, 3) := by decide +kernel
theorem dX12_parse_67 : decode cX12_parse 67 = .ok (.goto 114, 3) := by decide +kernel
theorem dX12_parse_70 : decode cX12_parse 70 = .ok (.iload 4, 2) := by decide +kernel
theorem dX12_parse_72 : decode cX12_parse 72 = .ok (.bipush 41, 2) := by decide +kernel
theorem dX12_parse_74 : decode cX12_parse 74 = .ok (.if_icmp .ne 33, 3) := by decide +kernel
theorem dX12_parse_77 : decode cX12_parse 77 = .ok (.iload_n 1, 1) := by decide +kernel
theorem dX12_parse_78 : decode cX12_parse 78 = .ok (.ifCond .le 7, 3) := by decide +kernel
theorem dX12_parse_81 : decode cX12_parse 81 = .ok (.iconst 1, 1) := by decide +kernel
theorem dX12_parse_82 : decode cX12_parse 82 = .ok (.goto 4, 3) := by decide +kernel
theorem dX12_parse_85 : decode cX12_parse 85 = .ok (.iconst 0, 1) := by decide +kernel
theorem dX12_parse_86 : decode cX12_parse 86 = .ok (.istore_n 3, 1) := by decide +kernel
theorem dX12_parse_87 : decode cX12_parse 87 = .ok (.iload_n 3, 1) := by decide +kernel
theorem dX12_parse_88 : decode cX12_parse 88 = .ok (.ifCond .eq 93, 3) := by decide +kernel
theorem dX12_parse_91 : decode cX12_parse 91 = .ok (.iinc 1 (-1), 3) := by decide +kernel
theorem dX12_parse_94 : decode cX12_parse 94 = .ok (.aload_n 0, 1) := by decide +kernel
theorem dX12_parse_95 : decode cX12_parse 95 = .ok (.aload_n 0, 1) := by decide +kernel
theorem dX12_parse_96 : decode cX12_parse 96 = .ok (.getfield 88, 3) := by decide +kernel
theorem dX12_parse_99 : decode cX12_parse 99 = .ok (.iload_n 1, 1) := by decide +kernel
theorem dX12_parse_100 : decode cX12_parse 100 = .ok (.iaload, 1) := by decide +kernel
theorem dX12_parse_101 : decode cX12_parse 101 = .ok (.invokevirtual 213, 3) := by decide +kernel
theorem dX12_parse_104 : decode cX12_parse 104 = .ok (.goto 77, 3) := by decide +kernel
theorem dX12_parse_107 : decode cX12_parse 107 = .ok (.iload 4, 2) := by decide +kernel
theorem dX12_parse_109 : decode cX12_parse 109 = .ok (.bipush 32, 2) := by decide +kernel
theorem dX12_parse_111 : decode cX12_parse 111 = .ok (.if_icmp .eq 70, 3) := by decide +kernel
theorem dX12_parse_114 : decode cX12_parse 114 = .ok (.iload_n 2, 1) := by decide +kernel
theorem dX12_parse_115 : decode cX12_parse 115 = .ok (.istore 5, 2) := by decide +kernel
theorem dX12_parse_117 : decode cX12_parse 117 = .ok (.iload 5, 2) := by decide +kernel
theorem dX12_parse_119 : decode cX12_parse 119 = .ok (.aload_n 0, 1) := by decide +kernel
theorem dX12_parse_120 : decode cX12_parse 120 = .ok (.getfield 171, 3) := by decide +kernel
theorem dX12_parse_123 : decode cX12_parse 123 = .ok (.if_icmp .ge 45, 3) := by decide +kernel
theorem dX12_parse_126 : decode cX12_parse 126 = .ok (.aload_n 0, 1) := by decide +kernel
theorem dX12_parse_127 : decode cX12_parse 127 = .ok (.getfield 7, 3) := by decide +kernel
theorem dX12_parse_130 : decode cX12_parse 130 = .ok (.iload 5, 2) := by decide +kernel
theorem dX12_parse_132 : decode cX12_parse 132 = .ok (.baload, 1) := by decide +kernel
theorem dX12_parse_133 : decode cX12_parse 133 = .ok (.bipush 32, 2) := by decide +kernel
theorem dX12_parse_135 : decode cX12_parse 135 = .ok (.if_icmp .eq 33, 3) := by decide +kernel
theorem dX12_parse_138 : decode cX12_parse 138 = .ok (.aload_n 0, 1) := by decide +kernel
theorem dX12_parse_139 : decode cX12_parse 139 = .ok (.getfield 7, 3) := by decide +kernel
theorem dX12_parse_142 : decode cX12_parse 142 = .ok (.iload 5, 2) := by decide +kernel
theorem dX12_parse_144 : decode cX12_parse 144 = .ok (.baload, 1) := by decide +kernel
theorem dX12_parse_145 : decode cX12_parse 145 = .ok (.bipush 40, 2) := by decide +kernel
theorem dX12_parse_147 : decode cX12_parse 147 = .ok (.if_icmp .eq 21, 3) := by decide +kernel
theorem dX12_parse_150 : decode cX12_parse 150 = .ok (.aload_n 0, 1) := by decide +kernel
theorem dX12_parse_151 : decode cX12_parse 151 = .ok (.getfield 7, 3) := by decide +kernel
theorem dX12_parse_154 : decode cX12_parse 154 = .ok (.iload 5, 2) := by decide +kernel
theorem dX12_parse_156 : decode cX12_parse 156 = .ok (.baload, 1) := by decide +kernel
theorem dX12_parse_157 : decode cX12_parse 157 = .ok (.bipush 41, 2) := by decide +kernel
theorem dX12_parse_159 : decode cX12_parse 159 = .ok (.if_icmp .eq 9, 3) := by decide +kernel
theorem dX12_parse_162 : decode cX12_parse 162 = .ok (.iinc 5 1, 3) := by decide +kernel
theorem dX12_parse_165 : decode cX12_parse 165 = .ok (.goto (-48), 3) := by decide +kernel
theorem dX12_parse_168 : decode cX12_parse 168 = .ok (.aload_n 0, 1) := by decide +kernel
theorem dX12_parse_169 : decode cX12_parse 169 = .ok (.iload_n 2, 1) := by decide +kernel
theorem dX12_parse_170 : decode cX12_parse 170 = .ok (.iload 5, 2) := by decide +kernel
theorem dX12_parse_172 : decode cX12_parse 172 = .ok (.invokevirtual 217, 3) := by decide +kernel
theorem dX12_parse_175 : decode cX12_parse 175 = .ok (.istore_n 3, 1) := by decide +kernel
theorem dX12_parse_176 : decode cX12_parse 176 = .ok (.iload 5, 2) := by decide +kernel
theorem dX12_parse_178 : decode cX12_parse 178 = .ok (.iconst 1, 1) := by decide +kernel
theorem dX12_parse_179 : decode cX12_parse 179 = .ok (.isub, 1) := by decide +kernel
theorem dX12_parse_180 : decode cX12_parse 180 = .ok (.istore_n 2, 1) := by decide +kernel
theorem dX12_parse_181 : decode cX12_parse 181 = .ok (.iinc 2 1, 3) := by decide +kernel
theorem dX12_parse_184 : decode cX12_parse 184 = .ok (.goto (-173), 3) := by decide +kernel
theorem dX12_parse_187 : decode cX12_parse 187 = .ok (.iload_n 3, 1) := by decide +kernel
theorem dX12_parse_188 : decode cX12_parse 188 = .ok (.ifCond .eq 11, 3) := by decide +kernel
theorem dX12_parse_191 : decode cX12_parse 191 = .ok (.iload_n 1, 1) := by decide +kernel
theorem dX12_parse_192 : decode cX12_parse 192 = .ok (.ifCond .ne 7, 3) := by decide +kernel
theorem dX12_parse_195 : decode cX12_parse 195 = .ok (.iconst 1, 1) := by decide +kernel
theorem dX12_parse_196 : decode cX12_parse 196 = .ok (.goto 4, 3) := by decide +kernel
theorem dX12_parse_199 : decode cX12_parse 199 = .ok (.iconst 0, 1) := by decide +kernel
theorem dX12_parse_200 : decode cX12_parse 200 = .ok (.ireturn, 1) := by decide +kernel
theorem dX12_endList_0 : decode cX12_endList 0 = .ok (.aload_n 0, 1) := by decide +kernel
theorem dX12_endList_1 : decode cX12_endList 1 = .ok (.iconst 2, 1) := by decide +kernel
theorem dX12_endList_2 : decode cX12_endList 2 = .ok (.aload_n 0, 1) := by decide +kernel
theorem dX12_endList_3 : decode cX12_endList 3 = .ok (.getfield 220, 3) := by decide +kernel
theorem dX12_endList_6 : decode cX12_endList 6 = .ok (.aload_n 0, 1) := by decide +kernel
theorem dX12_endList_7 : decode cX12_endList 7 = .ok (.getfield 203, 3) := by decide +kernel
theorem dX12_endList_10 : decode cX12_endList 10 = .ok (.iload_n 1, 1) := by decide +kernel
theorem dX12_endList_11 : decode cX12_endList 11 = .ok (.isub, 1) := by decide +kernel
theorem dX12_endList_12 : decode cX12_endList 12 = .ok (.invokevirtual 206, 3) := by decide +kernel
theorem dX12_endList_15 : decode cX12_endList 15 = .ok (.istore_n 2, 1) := by decide +kernel
theorem dX12_endList_16 : decode cX12_endList 16 = .ok (.iload_n 1, 1) := by decide +kernel
theorem dX12_endList_17 : decode cX12_endList 17 = .ok (.istore_n 3, 1) := by decide +kernel
theorem dX12_endList_18 : decode cX12_endList 18 = .ok (.iload_n 3, 1) := by decide +kernel
theorem dX12_endList_19 : decode cX12_endList 19 = .ok (.aload_n 0, 1) := by decide +kernel
theorem dX12_endList_20 : decode cX12_endList 20 = .ok (.getfield 203, 3) := by decide +kernel
theorem dX12_endList_23 : decode cX12_endList 23 = .ok (.if_icmp .ge 34, 3) := by decide +kernel
theorem dX12_endList_26 : decode cX12_endList 26 = .ok (.aload_n 0, 1) := by decide +kernel
theorem dX12_endList_27 : decode cX12_endList 27 = .ok (.getfield 41, 3) := by decide +kernel
theorem dX12_endList_30 : decode cX12_endList 30 = .ok (.aload_n 0, 1) := by decide +kernel
theorem dX12_endList_31 : decode cX12_endList 31 = .ok (.getfield 220, 3) := by decide +kernel
theorem dX12_endList_34 : decode cX12_endList 34 = .ok (.aload_n 0, 1) := by decide +kernel
theorem dX12_endList_35 : decode cX12_endList 35 = .ok (.getfield 85, 3) := by decide +kernel
theorem dX12_endList_38 : decode cX12_endList 38 = .ok (.iload_n 3, 1) := by decide +kernel
theorem dX12_endList_39 : decode cX12_endList 39 = .ok (.iaload, 1) := by decide +kernel
theorem dX12_endList_40 : decode cX12_endList 40 = .ok (.iastore, 1) := by decide +kernel
theorem dX12_endList_41 : decode cX12_endList 41 = .ok (.aload_n 0, 1) := by decide +kernel
theorem dX12_endList_42 : decode cX12_endList 42 = .ok (.dup, 1) := by decide +kernel
theorem dX12_endList_43 : decode cX12_endList 43 = .ok (.getfield 220, 3) := by decide +kernel
theorem dX12_endList_46 : decode cX12_endList 46 = .ok (.iconst 1, 1) := by decide +kernel
theorem dX12_endList_47 : decode cX12_endList 47 = .ok (.iadd, 1) := by decide +kernel
theorem dX12_endList_48 : decode cX12_endList 48 = .ok (.putfield 220, 3) := by decide +kernel
theorem dX12_endList_51 : decode cX12_endList 51 = .ok (.iinc 3 1, 3) := by decide +kernel
theorem dX12_endList_54 : decode cX12_endList 54 = .ok (.goto (-36), 3) := by decide +kernel
theorem dX12_endList_57 : decode cX12_endList 57 = .ok (.aload_n 0, 1) := by decide +kernel
theorem dX12_endList_58 : decode cX12_endList 58 = .ok (.iload_n 1, 1) := by decide +kernel
theorem dX12_endList_59 : decode cX12_endList 59 = .ok (.putfield 203, 3) := by decide +kernel
theorem dX12_endList_62 : decode cX12_endList 62 = .ok (.aload_n 0, 1) := by decide +kernel
theorem dX12_endList_63 : decode cX12_endList 63 = .ok (.getfield 85, 3) := by decide +kernel
theorem dX12_endList_66 : decode cX12_endList 66 = .ok (.aload_n 0, 1) := by decide +kernel
theorem dX12_endList_67 : decode cX12_endList 67 = .ok (.getfield 203, 3) := by decide +kernel
theorem dX12_endList_70 : decode cX12_endList 70 = .ok (.iload_n 2, 1) := by decide +kernel
theorem dX12_endList_71 : decode cX12_endList 71 = .ok (.iastore, 1) := by decide +kernel
theorem dX12_endList_72 : decode cX12_endList 72 = .ok (.aload_n 0, 1) := by decide +kernel
theorem dX12_endList_73 : decode cX12_endList 73 = .ok (.dup, 1) := by decide +kernel
theorem dX12_endList_74 : decode cX12_endList 74 = .ok (.getfield 203, 3) := by decide +kernel
theorem dX12_endList_77 : decode cX12_endList 77 = .ok (.iconst 1, 1) := by decide +kernel
theorem dX12_endList_78 : decode cX12_endList 78 = .ok (.iadd, 1) := by decide +kernel
theorem dX12_endList_79 : decode cX12_endList 79 = .ok (.putfield 203, 3) := by decide +kernel
theorem dX12_endList_82 : decode cX12_endList 82 = .ok (.return_, 1) := by decide +kernel
theorem dX12_say_0 : decode cX12_say 0 = .ok (.aload_n 0, 1) := by decide +kernel
theorem dX12_say_1 : decode cX12_say 1 = .ok (.getfield 223, 3) := by decide +kernel
theorem dX12_say_4 : decode cX12_say 4 = .ok (.sipush 4000, 3) := by decide +kernel
theorem dX12_say_7 : decode cX12_say 7 = .ok (.if_icmp .ge 14, 3) := by decide +kernel
theorem dX12_say_10 : decode cX12_say 10 = .ok (.aload_n 0, 1) := by decide +kernel
theorem dX12_say_11 : decode cX12_say 11 = .ok (.getfield 79, 3) := by decide +kernel
theorem dX12_say_14 : decode cX12_say 14 = .ok (.aload_n 0, 1) := by decide +kernel
theorem dX12_say_15 : decode cX12_say 15 = .ok (.getfield 223, 3) := by decide +kernel
theorem dX12_say_18 : decode cX12_say 18 = .ok (.iload_n 1, 1) := by decide +kernel
theorem dX12_say_19 : decode cX12_say 19 = .ok (.i2b, 1) := by decide +kernel
theorem dX12_say_20 : decode cX12_say 20 = .ok (.bastore, 1) := by decide +kernel
theorem dX12_say_21 : decode cX12_say 21 = .ok (.aload_n 0, 1) := by decide +kernel
theorem dX12_say_22 : decode cX12_say 22 = .ok (.dup, 1) := by decide +kernel
theorem dX12_say_23 : decode cX12_say 23 = .ok (.getfield 223, 3) := by decide +kernel
theorem dX12_say_26 : decode cX12_say 26 = .ok (.iconst 1, 1) := by decide +kernel
theorem dX12_say_27 : decode cX12_say 27 = .ok (.iadd, 1) := by decide +kernel
theorem dX12_say_28 : decode cX12_say 28 = .ok (.putfield 223, 3) := by decide +kernel
theorem dX12_say_31 : decode cX12_say 31 = .ok (.return_, 1) := by decide +kernel
theorem dX12_sayNumber_0 : decode cX12_sayNumber 0 = .ok (.iconst 1, 1) := by decide +kernel
theorem dX12_sayNumber_1 : decode cX12_sayNumber 1 = .ok (.istore_n 2, 1) := by decide +kernel
theorem dX12_sayNumber_2 : decode cX12_sayNumber 2 = .ok (.iload_n 1, 1) := by decide +kernel
theorem dX12_sayNumber_3 : decode cX12_sayNumber 3 = .ok (.iload_n 2, 1) := by decide +kernel
theorem dX12_sayNumber_4 : decode cX12_sayNumber 4 = .ok (.idiv, 1) := by decide +kernel
theorem dX12_sayNumber_5 : decode cX12_sayNumber 5 = .ok (.bipush 9, 2) := by decide +kernel
theorem dX12_sayNumber_7 : decode cX12_sayNumber 7 = .ok (.if_icmp .le 11, 3) := by decide +kernel
theorem dX12_sayNumber_10 : decode cX12_sayNumber 10 = .ok (.iload_n 2, 1) := by decide +kernel
theorem dX12_sayNumber_11 : decode cX12_sayNumber 11 = .ok (.bipush 10, 2) := by decide +kernel
theorem dX12_sayNumber_13 : decode cX12_sayNumber 13 = .ok (.imul, 1) := by decide +kernel
theorem dX12_sayNumber_14 : decode cX12_sayNumber 14 = .ok (.istore_n 2, 1) := by decide +kernel
theorem dX12_sayNumber_15 : decode cX12_sayNumber 15 = .ok (.goto (-13), 3) := by decide +kernel
theorem dX12_sayNumber_18 : decode cX12_sayNumber 18 = .ok (.iload_n 2, 1) := by decide +kernel
theorem dX12_sayNumber_19 : decode cX12_sayNumber 19 = .ok (.istore_n 3, 1) := by decide +kernel
theorem dX12_sayNumber_20 : decode cX12_sayNumber 20 = .ok (.iload_n 3, 1) := by decide +kernel
theorem dX12_sayNumber_21 : decode cX12_sayNumber 21 = .ok (.ifCond .le 24, 3) := by decide +kernel
theorem dX12_sayNumber_24 : decode cX12_sayNumber 24 = .ok (.aload_n 0, 1) := by decide +kernel
theorem dX12_sayNumber_25 : decode cX12_sayNumber 25 = .ok (.bipush 48, 2) := by decide +kernel
theorem dX12_sayNumber_27 : decode cX12_sayNumber 27 = .ok (.iload_n 1, 1) := by decide +kernel
theorem dX12_sayNumber_28 : decode cX12_sayNumber 28 = .ok (.iload_n 3, 1) := by decide +kernel
theorem dX12_sayNumber_29 : decode cX12_sayNumber 29 = .ok (.idiv, 1) := by decide +kernel
theorem dX12_sayNumber_30 : decode cX12_sayNumber 30 = .ok (.bipush 10, 2) := by decide +kernel
theorem dX12_sayNumber_32 : decode cX12_sayNumber 32 = .ok (.irem, 1) := by decide +kernel
theorem dX12_sayNumber_33 : decode cX12_sayNumber 33 = .ok (.iadd, 1) := by decide +kernel
theorem dX12_sayNumber_34 : decode cX12_sayNumber 34 = .ok (.invokevirtual 226, 3) := by decide +kernel
theorem dX12_sayNumber_37 : decode cX12_sayNumber 37 = .ok (.iload_n 3, 1) := by decide +kernel
theorem dX12_sayNumber_38 : decode cX12_sayNumber 38 = .ok (.bipush 10, 2) := by decide +kernel
theorem dX12_sayNumber_40 : decode cX12_sayNumber 40 = .ok (.idiv, 1) := by decide +kernel
theorem dX12_sayNumber_41 : decode cX12_sayNumber 41 = .ok (.istore_n 3, 1) := by decide +kernel
theorem dX12_sayNumber_42 : decode cX12_sayNumber 42 = .ok (.goto (-22), 3) := by decide +kernel
theorem dX12_sayNumber_45 : decode cX12_sayNumber 45 = .ok (.return_, 1) := by decide +kernel
theorem dX12_saySymbol_0 : decode cX12_saySymbol 0 = .ok (.aload_n 0, 1) := by decide +kernel
theorem dX12_saySymbol_1 : decode cX12_saySymbol 1 = .ok (.getfield 21, 3) := by decide +kernel
theorem dX12_saySymbol_4 : decode cX12_saySymbol 4 = .ok (.iload_n 1, 1) := by decide +kernel
theorem dX12_saySymbol_5 : decode cX12_saySymbol 5 = .ok (.iaload, 1) := by decide +kernel
theorem dX12_saySymbol_6 : decode cX12_saySymbol 6 = .ok (.istore_n 2, 1) := by decide +kernel
theorem dX12_saySymbol_7 : decode cX12_saySymbol 7 = .ok (.iload_n 2, 1) := by decide +kernel
theorem dX12_saySymbol_8 : decode cX12_saySymbol 8 = .ok (.aload_n 0, 1) := by decide +kernel
theorem dX12_saySymbol_9 : decode cX12_saySymbol 9 = .ok (.getfield 21, 3) := by decide +kernel
theorem dX12_saySymbol_12 : decode cX12_saySymbol 12 = .ok (.iload_n 1, 1) := by decide +kernel
theorem dX12_saySymbol_13 : decode cX12_saySymbol 13 = .ok (.iconst 1, 1) := by decide +kernel
theorem dX12_saySymbol_14 : decode cX12_saySymbol 14 = .ok (.iadd, 1) := by decide +kernel
theorem dX12_saySymbol_15 : decode cX12_saySymbol 15 = .ok (.iaload, 1) := by decide +kernel
theorem dX12_saySymbol_16 : decode cX12_saySymbol 16 = .ok (.if_icmp .ge 19, 3) := by decide +kernel
theorem dX12_saySymbol_19 : decode cX12_saySymbol 19 = .ok (.aload_n 0, 1) := by decide +kernel
theorem dX12_saySymbol_20 : decode cX12_saySymbol 20 = .ok (.aload_n 0, 1) := by decide +kernel
theorem dX12_saySymbol_21 : decode cX12_saySymbol 21 = .ok (.getfield 18, 3) := by decide +kernel
theorem dX12_saySymbol_24 : decode cX12_saySymbol 24 = .ok (.iload_n 2, 1) := by decide +kernel
theorem dX12_saySymbol_25 : decode cX12_saySymbol 25 = .ok (.baload, 1) := by decide +kernel
theorem dX12_saySymbol_26 : decode cX12_saySymbol 26 = .ok (.invokevirtual 226, 3) := by decide +kernel
theorem dX12_saySymbol_29 : decode cX12_saySymbol 29 = .ok (.iinc 2 1, 3) := by decide +kernel
theorem dX12_saySymbol_32 : decode cX12_saySymbol 32 = .ok (.goto (-25), 3) := by decide +kernel
theorem dX12_saySymbol_35 : decode cX12_saySymbol 35 = .ok (.return_, 1) := by decide +kernel
theorem dX12_task_0 : decode cX12_task 0 = .ok (.aload_n 0, 1) := by decide +kernel
theorem dX12_task_1 : decode cX12_task 1 = .ok (.getfield 67, 3) := by decide +kernel
theorem dX12_task_4 : decode cX12_task 4 = .ok (.aload_n 0, 1) := by decide +kernel
theorem dX12_task_5 : decode cX12_task 5 = .ok (.getfield 229, 3) := by decide +kernel
theorem dX12_task_8 : decode cX12_task 8 = .ok (.iload_n 1, 1) := by decide +kernel
theorem dX12_task_9 : decode cX12_task 9 = .ok (.i2b, 1) := by decide +kernel
theorem dX12_task_10 : decode cX12_task 10 = .ok (.bastore, 1) := by decide +kernel
theorem dX12_task_11 : decode cX12_task 11 = .ok (.aload_n 0, 1) := by decide +kernel
theorem dX12_task_12 : decode cX12_task 12 = .ok (.getfield 70, 3) := by decide +kernel
theorem dX12_task_15 : decode cX12_task 15 = .ok (.aload_n 0, 1) := by decide +kernel
theorem dX12_task_16 : decode cX12_task 16 = .ok (.getfield 229, 3) := by decide +kernel
theorem dX12_task_19 : decode cX12_task 19 = .ok (.iload_n 2, 1) := by decide +kernel
theorem dX12_task_20 : decode cX12_task 20 = .ok (.iastore, 1) := by decide +kernel
theorem dX12_task_21 : decode cX12_task 21 = .ok (.aload_n 0, 1) := by decide +kernel
theorem dX12_task_22 : decode cX12_task 22 = .ok (.getfield 73, 3) := by decide +kernel
theorem dX12_task_25 : decode cX12_task 25 = .ok (.aload_n 0, 1) := by decide +kernel
theorem dX12_task_26 : decode cX12_task 26 = .ok (.getfield 229, 3) := by decide +kernel
theorem dX12_task_29 : decode cX12_task 29 = .ok (.iload_n 3, 1) := by decide +kernel
theorem dX12_task_30 : decode cX12_task 30 = .ok (.iastore, 1) := by decide +kernel
theorem dX12_task_31 : decode cX12_task 31 = .ok (.aload_n 0, 1) := by decide +kernel
theorem dX12_task_32 : decode cX12_task 32 = .ok (.getfield 76, 3) := by decide +kernel
theorem dX12_task_35 : decode cX12_task 35 = .ok (.aload_n 0, 1) := by decide +kernel
theorem dX12_task_36 : decode cX12_task 36 = .ok (.getfield 229, 3) := by decide +kernel
theorem dX12_task_39 : decode cX12_task 39 = .ok (.iload 4, 2) := by decide +kernel
theorem dX12_task_41 : decode cX12_task 41 = .ok (.iastore, 1) := by decide +kernel
theorem dX12_task_42 : decode cX12_task 42 = .ok (.aload_n 0, 1) := by decide +kernel
theorem dX12_task_43 : decode cX12_task 43 = .ok (.dup, 1) := by decide +kernel
theorem dX12_task_44 : decode cX12_task 44 = .ok (.getfield 229, 3) := by decide +kernel
theorem dX12_task_47 : decode cX12_task 47 = .ok (.iconst 1, 1) := by decide +kernel
theorem dX12_task_48 : decode cX12_task 48 = .ok (.iadd, 1) := by decide +kernel
theorem dX12_task_49 : decode cX12_task 49 = .ok (.putfield 229, 3) := by decide +kernel
theorem dX12_task_52 : decode cX12_task 52 = .ok (.return_, 1) := by decide +kernel
theorem dX12_taskParts_0 : decode cX12_taskParts 0 = .ok (.aload_n 0, 1) := by decide +kernel
theorem dX12_taskParts_1 : decode cX12_taskParts 1 = .ok (.getfield 38, 3) := by decide +kernel
theorem dX12_taskParts_4 : decode cX12_taskParts 4 = .ok (.iload_n 2, 1) := by decide +kernel
theorem dX12_taskParts_5 : decode cX12_taskParts 5 = .ok (.iaload, 1) := by decide +kernel
theorem dX12_taskParts_6 : decode cX12_taskParts 6 = .ok (.iconst 1, 1) := by decide +kernel
theorem dX12_taskParts_7 : decode cX12_taskParts 7 = .ok (.isub, 1) := by decide +kernel
theorem dX12_taskParts_8 : decode cX12_taskParts 8 = .ok (.istore 6, 2) := by decide +kernel
theorem dX12_taskParts_10 : decode cX12_taskParts 10 = .ok (.iload 6, 2) := by decide +kernel
theorem dX12_taskParts_12 : decode cX12_taskParts 12 = .ok (.iload_n 3, 1) := by decide +kernel
theorem dX12_taskParts_13 : decode cX12_taskParts 13 = .ok (.if_icmp .lt 40, 3) := by decide +kernel
theorem dX12_taskParts_16 : decode cX12_taskParts 16 = .ok (.aload_n 0, 1) := by decide +kernel
theorem dX12_taskParts_17 : decode cX12_taskParts 17 = .ok (.iload_n 1, 1) := by decide +kernel
theorem dX12_taskParts_18 : decode cX12_taskParts 18 = .ok (.aload_n 0, 1) := by decide +kernel
theorem dX12_taskParts_19 : decode cX12_taskParts 19 = .ok (.iload_n 2, 1) := by decide +kernel
theorem dX12_taskParts_20 : decode cX12_taskParts 20 = .ok (.iload 6, 2) := by decide +kernel
theorem dX12_taskParts_22 : decode cX12_taskParts 22 = .ok (.invokevirtual 192, 3) := by decide +kernel
theorem dX12_taskParts_25 : decode cX12_taskParts 25 = .ok (.iload 4, 2) := by decide +kernel
theorem dX12_taskParts_27 : decode cX12_taskParts 27 = .ok (.iload 5, 2) := by decide +kernel
theorem dX12_taskParts_29 : decode cX12_taskParts 29 = .ok (.invokevirtual 232, 3) := by decide +kernel
theorem dX12_taskParts_32 : decode cX12_taskParts 32 = .ok (.iload 6, 2) := by decide +kernel
theorem dX12_taskParts_34 : decode cX12_taskParts 34 = .ok (.iload_n 3, 1) := by decide +kernel
theorem dX12_taskParts_35 : decode cX12_taskParts 35 = .ok (.if_icmp .le 12, 3) := by decide +kernel
theorem dX12_taskParts_38 : decode cX12_taskParts 38 = .ok (.aload_n 0, 1) := by decide +kernel
theorem dX12_taskParts_39 : decode cX12_taskParts 39 = .ok (.iconst 2, 1) := by decide +kernel
theorem dX12_taskParts_40 : decode cX12_taskParts 40 = .ok (.bipush 32, 2) := by decide +kernel
theorem dX12_taskParts_42 : decode cX12_taskParts 42 = .ok (.iconst 0, 1) := by decide +kernel
theorem dX12_taskParts_43 : decode cX12_taskParts 43 = .ok (.iconst 0, 1) := by decide +kernel
theorem dX12_taskParts_44 : decode cX12_taskParts 44 = .ok (.invokevirtual 232, 3) := by decide +kernel
theorem dX12_taskParts_47 : decode cX12_taskParts 47 = .ok (.iinc 6 (-1), 3) := by decide +kernel
theorem dX12_taskParts_50 : decode cX12_taskParts 50 = .ok (.goto (-40), 3) := by decide +kernel
theorem dX12_taskParts_53 : decode cX12_taskParts 53 = .ok (.return_, 1) := by decide +kernel
theorem dX12_fail_0 : decode cX12_fail 0 = .ok (.aload_n 0, 1) := by decide +kernel
theorem dX12_fail_1 : decode cX12_fail 1 = .ok (.aload_n 0, 1) := by decide +kernel
theorem dX12_fail_2 : decode cX12_fail 2 = .ok (.getfield 236, 3) := by decide +kernel
theorem dX12_fail_5 : decode cX12_fail 5 = .ok (.ifCond .ne 7, 3) := by decide +kernel
theorem dX12_fail_8 : decode cX12_fail 8 = .ok (.iload_n 1, 1) := by decide +kernel
theorem dX12_fail_9 : decode cX12_fail 9 = .ok (.goto 7, 3) := by decide +kernel
theorem dX12_fail_12 : decode cX12_fail 12 = .ok (.aload_n 0, 1) := by decide +kernel
theorem dX12_fail_13 : decode cX12_fail 13 = .ok (.getfield 236, 3) := by decide +kernel
theorem dX12_fail_16 : decode cX12_fail 16 = .ok (.putfield 236, 3) := by decide +kernel
theorem dX12_fail_19 : decode cX12_fail 19 = .ok (.return_, 1) := by decide +kernel
theorem dX12_need_0 : decode cX12_need 0 = .ok (.iload_n 1, 1) := by decide +kernel
theorem dX12_need_1 : decode cX12_need 1 = .ok (.ifCond .ne 8, 3) := by decide +kernel
theorem dX12_need_4 : decode cX12_need 4 = .ok (.aload_n 0, 1) := by decide +kernel
theorem dX12_need_5 : decode cX12_need 5 = .ok (.iload_n 2, 1) := by decide +kernel
theorem dX12_need_6 : decode cX12_need 6 = .ok (.invokevirtual 239, 3) := by decide +kernel
theorem dX12_need_9 : decode cX12_need 9 = .ok (.aload_n 0, 1) := by decide +kernel
theorem dX12_need_10 : decode cX12_need 10 = .ok (.getfield 236, 3) := by decide +kernel
theorem dX12_need_13 : decode cX12_need 13 = .ok (.ifCond .ne 7, 3) := by decide +kernel
theorem dX12_need_16 : decode cX12_need 16 = .ok (.iconst 1, 1) := by decide +kernel
theorem dX12_need_17 : decode cX12_need 17 = .ok (.goto 4, 3) := by decide +kernel
theorem dX12_need_20 : decode cX12_need 20 = .ok (.iconst 0, 1) := by decide +kernel
theorem dX12_need_21 : decode cX12_need 21 = .ok (.ireturn, 1) := by decide +kernel
theorem dX12_sayPlain_0 : decode cX12_sayPlain 0 = .ok (.aload_n 0, 1) := by decide +kernel
theorem dX12_sayPlain_1 : decode cX12_sayPlain 1 = .ok (.getfield 32, 3) := by decide +kernel
theorem dX12_sayPlain_4 : decode cX12_sayPlain 4 = .ok (.iload_n 1, 1) := by decide +kernel
theorem dX12_sayPlain_5 : decode cX12_sayPlain 5 = .ok (.baload, 1) := by decide +kernel
theorem dX12_sayPlain_6 : decode cX12_sayPlain 6 = .ok (.ifCond .ne 16, 3) := by decide +kernel
theorem dX12_sayPlain_9 : decode cX12_sayPlain 9 = .ok (.aload_n 0, 1) := by decide +kernel
theorem dX12_sayPlain_10 : decode cX12_sayPlain 10 = .ok (.aload_n 0, 1) := by decide +kernel
theorem dX12_sayPlain_11 : decode cX12_sayPlain 11 = .ok (.getfield 35, 3) := by decide +kernel
theorem dX12_sayPlain_14 : decode cX12_sayPlain 14 = .ok (.iload_n 1, 1) := by decide +kernel
theorem dX12_sayPlain_15 : decode cX12_sayPlain 15 = .ok (.iaload, 1) := by decide +kernel
theorem dX12_sayPlain_16 : decode cX12_sayPlain 16 = .ok (.invokevirtual 242, 3) := by decide +kernel
theorem dX12_sayPlain_19 : decode cX12_sayPlain 19 = .ok (.goto 52, 3) := by decide +kernel
theorem dX12_sayPlain_22 : decode cX12_sayPlain 22 = .ok (.aload_n 0, 1) := by decide +kernel
theorem dX12_sayPlain_23 : decode cX12_sayPlain 23 = .ok (.iload_n 1, 1) := by decide +kernel
theorem dX12_sayPlain_24 : decode cX12_sayPlain 24 = .ok (.invokevirtual 180, 3) := by decide +kernel
theorem dX12_sayPlain_27 : decode cX12_sayPlain 27 = .ok (.ifCond .eq 20, 3) := by decide +kernel
theorem dX12_sayPlain_30 : decode cX12_sayPlain 30 = .ok (.aload_n 0, 1) := by decide +kernel
theorem dX12_sayPlain_31 : decode cX12_sayPlain 31 = .ok (.aload_n 0, 1) := by decide +kernel
theorem dX12_sayPlain_32 : decode cX12_sayPlain 32 = .ok (.aload_n 0, 1) := by decide +kernel
theorem dX12_sayPlain_33 : decode cX12_sayPlain 33 = .ok (.getfield 35, 3) := by decide +kernel
theorem dX12_sayPlain_36 : decode cX12_sayPlain 36 = .ok (.iload_n 1, 1) := by decide +kernel
theorem dX12_sayPlain_37 : decode cX12_sayPlain 37 = .ok (.iaload, 1) := by decide +kernel
theorem dX12_sayPlain_38 : decode cX12_sayPlain 38 = .ok (.invokevirtual 184, 3) := by decide +kernel
theorem dX12_sayPlain_41 : decode cX12_sayPlain 41 = .ok (.invokevirtual 245, 3) := by decide +kernel
theorem dX12_sayPlain_44 : decode cX12_sayPlain 44 = .ok (.goto 27, 3) := by decide +kernel
theorem dX12_sayPlain_47 : decode cX12_sayPlain 47 = .ok (.aload_n 0, 1) := by decide +kernel
theorem dX12_sayPlain_48 : decode cX12_sayPlain 48 = .ok (.bipush 40, 2) := by decide +kernel
theorem dX12_sayPlain_50 : decode cX12_sayPlain 50 = .ok (.invokevirtual 226, 3) := by decide +kernel
theorem dX12_sayPlain_53 : decode cX12_sayPlain 53 = .ok (.aload_n 0, 1) := by decide +kernel
theorem dX12_sayPlain_54 : decode cX12_sayPlain 54 = .ok (.iconst 2, 1) := by decide +kernel
theorem dX12_sayPlain_55 : decode cX12_sayPlain 55 = .ok (.bipush 41, 2) := by decide +kernel
theorem dX12_sayPlain_57 : decode cX12_sayPlain 57 = .ok (.iconst 0, 1) := by decide +kernel
theorem dX12_sayPlain_58 : decode cX12_sayPlain 58 = .ok (.iconst 0, 1) := by decide +kernel
theorem dX12_sayPlain_59 : decode cX12_sayPlain 59 = .ok (.invokevirtual 232, 3) := by decide +kernel
theorem dX12_sayPlain_62 : decode cX12_sayPlain 62 = .ok (.aload_n 0, 1) := by decide +kernel
theorem dX12_sayPlain_63 : decode cX12_sayPlain 63 = .ok (.iconst 1, 1) := by decide +kernel
theorem dX12_sayPlain_64 : decode cX12_sayPlain 64 = .ok (.iload_n 1, 1) := by decide +kernel
theorem dX12_sayPlain_65 : decode cX12_sayPlain 65 = .ok (.iconst 0, 1) := by decide +kernel
theorem dX12_sayPlain_66 : decode cX12_sayPlain 66 = .ok (.iconst 0, 1) := by decide +kernel
theorem dX12_sayPlain_67 : decode cX12_sayPlain 67 = .ok (.iconst 0, 1) := by decide +kernel
theorem dX12_sayPlain_68 : decode cX12_sayPlain 68 = .ok (.invokevirtual 248, 3) := by decide +kernel
theorem dX12_sayPlain_71 : decode cX12_sayPlain 71 = .ok (.return_, 1) := by decide +kernel
theorem dX12_sayName_0 : decode cX12_sayName 0 = .ok (.aload_n 0, 1) := by decide +kernel
theorem dX12_sayName_1 : decode cX12_sayName 1 = .ok (.aload_n 0, 1) := by decide +kernel
theorem dX12_sayName_2 : decode cX12_sayName 2 = .ok (.getfield 35, 3) := by decide +kernel
theorem dX12_sayName_5 : decode cX12_sayName 5 = .ok (.iload_n 1, 1) := by decide +kernel
theorem dX12_sayName_6 : decode cX12_sayName 6 = .ok (.iaload, 1) := by decide +kernel
theorem dX12_sayName_7 : decode cX12_sayName 7 = .ok (.iload_n 2, 1) := by decide +kernel
theorem dX12_sayName_8 : decode cX12_sayName 8 = .ok (.invokevirtual 252, 3) := by decide +kernel
theorem dX12_sayName_11 : decode cX12_sayName 11 = .ok (.istore_n 3, 1) := by decide +kernel
theorem dX12_sayName_12 : decode cX12_sayName 12 = .ok (.iload_n 3, 1) := by decide +kernel
theorem dX12_sayName_13 : decode cX12_sayName 13 = .ok (.ifCond .lt 42, 3) := by decide +kernel
theorem dX12_sayName_16 : decode cX12_sayName 16 = .ok (.aload_n 0, 1) := by decide +kernel
theorem dX12_sayName_17 : decode cX12_sayName 17 = .ok (.aload_n 0, 1) := by decide +kernel
theorem dX12_sayName_18 : decode cX12_sayName 18 = .ok (.getfield 60, 3) := by decide +kernel
theorem dX12_sayName_21 : decode cX12_sayName 21 = .ok (.iload_n 3, 1) := by decide +kernel
theorem dX12_sayName_22 : decode cX12_sayName 22 = .ok (.iaload, 1) := by decide +kernel
theorem dX12_sayName_23 : decode cX12_sayName 23 = .ok (.ifCond .lt 7, 3) := by decide +kernel
theorem dX12_sayName_26 : decode cX12_sayName 26 = .ok (.iconst 1, 1) := by decide +kernel
theorem dX12_sayName_27 : decode cX12_sayName 27 = .ok (.goto 4, 3) := by decide +kernel
theorem dX12_sayName_30 : decode cX12_sayName 30 = .ok (.iconst 0, 1) := by decide +kernel
theorem dX12_sayName_31 : decode cX12_sayName 31 = .ok (.iconst 4, 1) := by decide +kernel
theorem dX12_sayName_32 : decode cX12_sayName 32 = .ok (.invokevirtual 255, 3) := by decide +kernel
theorem dX12_sayName_35 : decode cX12_sayName 35 = .ok (.ifCond .eq 19, 3) := by decide +kernel
theorem dX12_sayName_38 : decode cX12_sayName 38 = .ok (.aload_n 0, 1) := by decide +kernel
theorem dX12_sayName_39 : decode cX12_sayName 39 = .ok (.bipush 37, 2) := by decide +kernel
theorem dX12_sayName_41 : decode cX12_sayName 41 = .ok (.invokevirtual 226, 3) := by decide +kernel
theorem dX12_sayName_44 : decode cX12_sayName 44 = .ok (.aload_n 0, 1) := by decide +kernel
theorem dX12_sayName_45 : decode cX12_sayName 45 = .ok (.aload_n 0, 1) := by decide +kernel
theorem dX12_sayName_46 : decode cX12_sayName 46 = .ok (.getfield 60, 3) := by decide +kernel
theorem dX12_sayName_49 : decode cX12_sayName 49 = .ok (.iload_n 3, 1) := by decide +kernel
theorem dX12_sayName_50 : decode cX12_sayName 50 = .ok (.iaload, 1) := by decide +kernel
theorem dX12_sayName_51 : decode cX12_sayName 51 = .ok (.invokevirtual 242, 3) := by decide +kernel
theorem dX12_sayName_54 : decode cX12_sayName 54 = .ok (.return_, 1) := by decide +kernel
theorem dX12_sayName_55 : decode cX12_sayName 55 = .ok (.iconst (-1), 1) := by decide +kernel
theorem dX12_sayName_56 : decode cX12_sayName 56 = .ok (.iload_n 3, 1) := by decide +kernel
theorem dX12_sayName_57 : decode cX12_sayName 57 = .ok (.isub, 1) := by decide +kernel
theorem dX12_sayName_58 : decode cX12_sayName 58 = .ok (.istore 4, 2) := by decide +kernel
theorem dX12_sayName_60 : decode cX12_sayName 60 = .ok (.aload_n 0, 1) := by decide +kernel
theorem dX12_sayName_61 : decode cX12_sayName 61 = .ok (.iload 4, 2) := by decide +kernel
theorem dX12_sayName_63 : decode cX12_sayName 63 = .ok (.iconst 4, 1) := by decide +kernel
theorem dX12_sayName_64 : decode cX12_sayName 64 = .ok (.if_icmp .le 17, 3) := by decide +kernel
theorem dX12_sayName_67 : decode cX12_sayName 67 = .ok (.aload_n 0, 1) := by decide +kernel
theorem dX12_sayName_68 : decode cX12_sayName 68 = .ok (.getfield 25, 3) := by decide +kernel
theorem dX12_sayName_71 : decode cX12_sayName 71 = .ok (.iload 4, 2) := by decide +kernel
theorem dX12_sayName_73 : decode cX12_sayName 73 = .ok (.iaload, 1) := by decide +kernel
theorem dX12_sayName_74 : decode cX12_sayName 74 = .ok (.ifCond .ne 7, 3) := by decide +kernel
theorem dX12_sayName_77 : decode cX12_sayName 77 = .ok (.iconst 1, 1) := by decide +kernel
theorem dX12_sayName_78 : decode cX12_sayName 78 = .ok (.goto 4, 3) := by decide +kernel
theorem dX12_sayName_81 : decode cX12_sayName 81 = .ok (.iconst 0, 1) := by decide +kernel
theorem dX12_sayName_82 : decode cX12_sayName 82 = .ok (.iconst 4, 1) := by decide +kernel
theorem dX12_sayName_83 : decode cX12_sayName 83 = .ok (.invokevirtual 255, 3) := by decide +kernel
theorem dX12_sayName_86 : decode cX12_sayName 86 = .ok (.ifCond .eq 9, 3) := by decide +kernel
theorem dX12_sayName_89 : decode cX12_sayName 89 = .ok (.aload_n 0, 1) := by decide +kernel
theorem dX12_sayName_90 : decode cX12_sayName 90 = .ok (.iload 4, 2) := by decide +kernel
theorem dX12_sayName_92 : decode cX12_sayName 92 = .ok (.invokevirtual 245, 3) := by decide +kernel
theorem dX12_sayName_95 : decode cX12_sayName 95 = .ok (.return_, 1) := by decide +kernel
theorem dX12_expand_0 : decode cX12_expand 0 = .ok (.aload_n 0, 1) := by decide +kernel
theorem dX12_expand_1 : decode cX12_expand 1 = .ok (.getfield 32, 3) := by decide +kernel
theorem dX12_expand_4 : decode cX12_expand 4 = .ok (.iload_n 1, 1) := by decide +kernel
theorem dX12_expand_5 : decode cX12_expand 5 = .ok (.baload, 1) := by decide +kernel
theorem dX12_expand_6 : decode cX12_expand 6 = .ok (.ifCond .ne 16, 3) := by decide +kernel
theorem dX12_expand_9 : decode cX12_expand 9 = .ok (.aload_n 0, 1) := by decide +kernel
theorem dX12_expand_10 : decode cX12_expand 10 = .ok (.aload_n 0, 1) := by decide +kernel
theorem dX12_expand_11 : decode cX12_expand 11 = .ok (.getfield 35, 3) := by decide +kernel
theorem dX12_expand_14 : decode cX12_expand 14 = .ok (.iload_n 1, 1) := by decide +kernel
theorem dX12_expand_15 : decode cX12_expand 15 = .ok (.iaload, 1) := by decide +kernel
theorem dX12_expand_16 : decode cX12_expand 16 = .ok (.invokevirtual 242, 3) := by decide +kernel
theorem dX12_expand_19 : decode cX12_expand 19 = .ok (.goto 68, 3) := by decide +kernel
theorem dX12_expand_22 : decode cX12_expand 22 = .ok (.aload_n 0, 1) := by decide +kernel
theorem dX12_expand_23 : decode cX12_expand 23 = .ok (.iload_n 1, 1) := by decide +kernel
theorem dX12_expand_24 : decode cX12_expand 24 = .ok (.invokevirtual 180, 3) := by decide +kernel
theorem dX12_expand_27 : decode cX12_expand 27 = .ok (.ifCond .eq 12, 3) := by decide +kernel
theorem dX12_expand_30 : decode cX12_expand 30 = .ok (.aload_n 0, 1) := by decide +kernel
theorem dX12_expand_31 : decode cX12_expand 31 = .ok (.iload_n 1, 1) := by decide +kernel
theorem dX12_expand_32 : decode cX12_expand 32 = .ok (.iload_n 2, 1) := by decide +kernel
theorem dX12_expand_33 : decode cX12_expand 33 = .ok (.invokevirtual 259, 3) := by decide +kernel
theorem dX12_expand_36 : decode cX12_expand 36 = .ok (.goto 51, 3) := by decide +kernel
theorem dX12_expand_39 : decode cX12_expand 39 = .ok (.aload_n 0, 1) := by decide +kernel
theorem dX12_expand_40 : decode cX12_expand 40 = .ok (.iload_n 3, 1) := by decide +kernel
theorem dX12_expand_41 : decode cX12_expand 41 = .ok (.bipush 100, 2) := by decide +kernel
theorem dX12_expand_43 : decode cX12_expand 43 = .ok (.if_icmp .gt 7, 3) := by decide +kernel
theorem dX12_expand_46 : decode cX12_expand 46 = .ok (.iconst 1, 1) := by decide +kernel
theorem dX12_expand_47 : decode cX12_expand 47 = .ok (.goto 4, 3) := by decide +kernel
theorem dX12_expand_50 : decode cX12_expand 50 = .ok (.iconst 0, 1) := by decide +kernel
theorem dX12_expand_51 : decode cX12_expand 51 = .ok (.iconst 2, 1) := by decide +kernel
theorem dX12_expand_52 : decode cX12_expand 52 = .ok (.invokevirtual 255, 3) := by decide +kernel
theorem dX12_expand_55 : decode cX12_expand 55 = .ok (.ifCond .eq 32, 3) := by decide +kernel
theorem dX12_expand_58 : decode cX12_expand 58 = .ok (.aload_n 0, 1) := by decide +kernel
theorem dX12_expand_59 : decode cX12_expand 59 = .ok (.aload_n 0, 1) := by decide +kernel
theorem dX12_expand_60 : decode cX12_expand 60 = .ok (.getfield 38, 3) := by decide +kernel
theorem dX12_expand_63 : decode cX12_expand 63 = .ok (.iload_n 1, 1) := by decide +kernel
theorem dX12_expand_64 : decode cX12_expand 64 = .ok (.iaload, 1) := by decide +kernel
theorem dX12_expand_65 : decode cX12_expand 65 = .ok (.ifCond .le 7, 3) := by decide +kernel
theorem dX12_expand_68 : decode cX12_expand 68 = .ok (.iconst 1, 1) := by decide +kernel
theorem dX12_expand_69 : decode cX12_expand 69 = .ok (.goto 4, 3) := by decide +kernel
theorem dX12_expand_72 : decode cX12_expand 72 = .ok (.iconst 0, 1) := by decide +kernel
theorem dX12_expand_73 : decode cX12_expand 73 = .ok (.iconst 3, 1) := by decide +kernel
theorem dX12_expand_74 : decode cX12_expand 74 = .ok (.invokevirtual 255, 3) := by decide +kernel
theorem dX12_expand_77 : decode cX12_expand 77 = .ok (.ifCond .eq 10, 3) := by decide +kernel
theorem dX12_expand_80 : decode cX12_expand 80 = .ok (.aload_n 0, 1) := by decide +kernel
theorem dX12_expand_81 : decode cX12_expand 81 = .ok (.iload_n 1, 1) := by decide +kernel
theorem dX12_expand_82 : decode cX12_expand 82 = .ok (.iload_n 2, 1) := by decide +kernel
theorem dX12_expand_83 : decode cX12_expand 83 = .ok (.iload_n 3, 1) := by decide +kernel
theorem dX12_expand_84 : decode cX12_expand 84 = .ok (.invokevirtual 263, 3) := by decide +kernel
theorem dX12_expand_87 : decode cX12_expand 87 = .ok (.return_, 1) := by decide +kernel
theorem dX12_expandList_0 : decode cX12_expandList 0 = .ok (.aload_n 0, 1) := by decide +kernel
theorem dX12_expandList_1 : decode cX12_expandList 1 = .ok (.iload_n 1, 1) := by decide +kernel
theorem dX12_expandList_2 : decode cX12_expandList 2 = .ok (.iconst 0, 1) := by decide +kernel
theorem dX12_expandList_3 : decode cX12_expandList 3 = .ok (.invokevirtual 192, 3) := by decide +kernel
theorem dX12_expandList_6 : decode cX12_expandList 6 = .ok (.istore 4, 2) := by decide +kernel
theorem dX12_expandList_8 : decode cX12_expandList 8 = .ok (.aload_n 0, 1) := by decide +kernel
theorem dX12_expandList_9 : decode cX12_expandList 9 = .ok (.iload 4, 2) := by decide +kernel
theorem dX12_expandList_11 : decode cX12_expandList 11 = .ok (.invokevirtual 180, 3) := by decide +kernel
theorem dX12_expandList_14 : decode cX12_expandList 14 = .ok (.ifCond .eq 18, 3) := by decide +kernel
theorem dX12_expandList_17 : decode cX12_expandList 17 = .ok (.aload_n 0, 1) := by decide +kernel
theorem dX12_expandList_18 : decode cX12_expandList 18 = .ok (.aload_n 0, 1) := by decide +kernel
theorem dX12_expandList_19 : decode cX12_expandList 19 = .ok (.getfield 35, 3) := by decide +kernel
theorem dX12_expandList_22 : decode cX12_expandList 22 = .ok (.iload 4, 2) := by decide +kernel
theorem dX12_expandList_24 : decode cX12_expandList 24 = .ok (.iaload, 1) := by decide +kernel
theorem dX12_expandList_25 : decode cX12_expandList 25 = .ok (.iload_n 2, 1) := by decide +kernel
theorem dX12_expandList_26 : decode cX12_expandList 26 = .ok (.invokevirtual 252, 3) := by decide +kernel
theorem dX12_expandList_29 : decode cX12_expandList 29 = .ok (.goto 4, 3) := by decide +kernel
theorem dX12_expandList_32 : decode cX12_expandList 32 = .ok (.iconst (-1), 1) := by decide +kernel
theorem dX12_expandList_33 : decode cX12_expandList 33 = .ok (.istore 5, 2) := by decide +kernel
theorem dX12_expandList_35 : decode cX12_expandList 35 = .ok (.aload_n 0, 1) := by decide +kernel
theorem dX12_expandList_36 : decode cX12_expandList 36 = .ok (.iload 4, 2) := by decide +kernel
theorem dX12_expandList_38 : decode cX12_expandList 38 = .ok (.invokevirtual 180, 3) := by decide +kernel
theorem dX12_expandList_41 : decode cX12_expandList 41 = .ok (.ifCond .eq 12, 3) := by decide +kernel
theorem dX12_expandList_44 : decode cX12_expandList 44 = .ok (.iload 5, 2) := by decide +kernel
theorem dX12_expandList_46 : decode cX12_expandList 46 = .ok (.ifCond .lt 7, 3) := by decide +kernel
theorem dX12_expandList_49 : decode cX12_expandList 49 = .ok (.iconst 1, 1) := by decide +kernel
theorem dX12_expandList_50 : decode cX12_expandList 50 = .ok (.goto 4, 3) := by decide +kernel
theorem dX12_expandList_53 : decode cX12_expandList 53 = .ok (.iconst 0, 1) := by decide +kernel
theorem dX12_expandList_54 : decode cX12_expandList 54 = .ok (.istore 6, 2) := by decide +kernel
theorem dX12_expandList_56 : decode cX12_expandList 56 = .ok (.aload_n 0, 1) := by decide +kernel
theorem dX12_expandList_57 : decode cX12_expandList 57 = .ok (.iload 4, 2) := by decide +kernel
theorem dX12_expandList_59 : decode cX12_expandList 59 = .ok (.invokevirtual 180, 3) := by decide +kernel
theorem dX12_expandList_62 : decode cX12_expandList 62 = .ok (.ifCond .eq 15, 3) := by decide +kernel
theorem dX12_expandList_65 : decode cX12_expandList 65 = .ok (.iload 5, 2) := by decide +kernel
theorem dX12_expandList_67 : decode cX12_expandList 67 = .ok (.ifCond .ge 10, 3) := by decide +kernel
theorem dX12_expandList_70 : decode cX12_expandList 70 = .ok (.iconst (-1), 1) := by decide +kernel
theorem dX12_expandList_71 : decode cX12_expandList 71 = .ok (.iload 5, 2) := by decide +kernel
theorem dX12_expandList_73 : decode cX12_expandList 73 = .ok (.isub, 1) := by decide +kernel
theorem dX12_expandList_74 : decode cX12_expandList 74 = .ok (.goto 4, 3) := by decide +kernel
theorem dX12_expandList_77 : decode cX12_expandList 77 = .ok (.iconst (-1), 1) := by decide +kernel
theorem dX12_expandList_78 : decode cX12_expandList 78 = .ok (.istore 7, 2) := by decide +kernel
theorem dX12_expandList_80 : decode cX12_expandList 80 = .ok (.iload 6, 2) := by decide +kernel
theorem dX12_expandList_82 : decode cX12_expandList 82 = .ok (.ifCond .eq 36, 3) := by decide +kernel
theorem dX12_expandList_85 : decode cX12_expandList 85 = .ok (.aload_n 0, 1) := by decide +kernel
theorem dX12_expandList_86 : decode cX12_expandList 86 = .ok (.getfield 60, 3) := by decide +kernel
theorem dX12_expandList_89 : decode cX12_expandList 89 = .ok (.iload 5, 2) := by decide +kernel
theorem dX12_expandList_91 : decode cX12_expandList 91 = .ok (.iaload, 1) := by decide +kernel
theorem dX12_expandList_92 : decode cX12_expandList 92 = .ok (.ifCond .ge 26, 3) := by decide +kernel
theorem dX12_expandList_95 : decode cX12_expandList 95 = .ok (.aload_n 0, 1) := by decide +kernel
theorem dX12_expandList_96 : decode cX12_expandList 96 = .ok (.aload_n 0, 1) := by decide +kernel
theorem dX12_expandList_97 : decode cX12_expandList 97 = .ok (.getfield 63, 3) := by decide +kernel
theorem dX12_expandList_100 : decode cX12_expandList 100 = .ok (.iload 5, 2) := by decide +kernel
theorem dX12_expandList_102 : decode cX12_expandList 102 = .ok (.iaload, 1) := by decide +kernel
theorem dX12_expandList_103 : decode cX12_expandList 103 = .ok (.aload_n 0, 1) := by decide +kernel
theorem dX12_expandList_104 : decode cX12_expandList 104 = .ok (.iload 5, 2) := by decide +kernel
theorem dX12_expandList_106 : decode cX12_expandList 106 = .ok (.invokevirtual 267, 3) := by decide +kernel
theorem dX12_expandList_109 : decode cX12_expandList 109 = .ok (.iload_n 1, 1) := by decide +kernel
theorem dX12_expandList_110 : decode cX12_expandList 110 = .ok (.iload_n 2, 1) := by decide +kernel
theorem dX12_expandList_111 : decode cX12_expandList 111 = .ok (.iload_n 3, 1) := by decide +kernel
theorem dX12_expandList_112 : decode cX12_expandList 112 = .ok (.invokevirtual 270, 3) := by decide +kernel
theorem dX12_expandList_115 : decode cX12_expandList 115 = .ok (.goto 89, 3) := by decide +kernel
theorem dX12_expandList_118 : decode cX12_expandList 118 = .ok (.iload 7, 2) := by decide +kernel
theorem dX12_expandList_120 : decode cX12_expandList 120 = .ok (.ifCond .lt 21, 3) := by decide +kernel
theorem dX12_expandList_123 : decode cX12_expandList 123 = .ok (.iload 7, 2) := by decide +kernel
theorem dX12_expandList_125 : decode cX12_expandList 125 = .ok (.iconst 4, 1) := by decide +kernel
theorem dX12_expandList_126 : decode cX12_expandList 126 = .ok (.if_icmp .gt 15, 3) := by decide +kernel
theorem dX12_expandList_129 : decode cX12_expandList 129 = .ok (.aload_n 0, 1) := by decide +kernel
theorem dX12_expandList_130 : decode cX12_expandList 130 = .ok (.iload 7, 2) := by decide +kernel
theorem dX12_expandList_132 : decode cX12_expandList 132 = .ok (.iload_n 1, 1) := by decide +kernel
theorem dX12_expandList_133 : decode cX12_expandList 133 = .ok (.iload_n 2, 1) := by decide +kernel
theorem dX12_expandList_134 : decode cX12_expandList 134 = .ok (.iload_n 3, 1) := by decide +kernel
theorem dX12_expandList_135 : decode cX12_expandList 135 = .ok (.invokevirtual 273, 3) := by decide +kernel
theorem dX12_expandList_138 : decode cX12_expandList 138 = .ok (.goto 66, 3) := by decide +kernel
theorem dX12_expandList_141 : decode cX12_expandList 141 = .ok (.iload 7, 2) := by decide +kernel
theorem dX12_expandList_143 : decode cX12_expandList 143 = .ok (.bipush 8, 2) := by decide +kernel
theorem dX12_expandList_145 : decode cX12_expandList 145 = .ok (.if_icmp .le 33, 3) := by decide +kernel
theorem dX12_expandList_148 : decode cX12_expandList 148 = .ok (.aload_n 0, 1) := by decide +kernel
theorem dX12_expandList_149 : decode cX12_expandList 149 = .ok (.getfield 25, 3) := by decide +kernel
theorem dX12_expandList_152 : decode cX12_expandList 152 = .ok (.iload 7, 2) := by decide +kernel
theorem dX12_expandList_154 : decode cX12_expandList 154 = .ok (.iaload, 1) := by decide +kernel
theorem dX12_expandList_155 : decode cX12_expandList 155 = .ok (.ifCond .le 23, 3) := by decide +kernel
theorem dX12_expandList_158 : decode cX12_expandList 158 = .ok (.aload_n 0, 1) := by decide +kernel
theorem dX12_expandList_159 : decode cX12_expandList 159 = .ok (.aload_n 0, 1) := by decide +kernel
theorem dX12_expandList_160 : decode cX12_expandList 160 = .ok (.getfield 25, 3) := by decide +kernel
theorem dX12_expandList_163 : decode cX12_expandList 163 = .ok (.iload 7, 2) := by decide +kernel
theorem dX12_expandList_165 : decode cX12_expandList 165 = .ok (.iaload, 1) := by decide +kernel
theorem dX12_expandList_166 : decode cX12_expandList 166 = .ok (.iconst 1, 1) := by decide +kernel
theorem dX12_expandList_167 : decode cX12_expandList 167 = .ok (.isub, 1) := by decide +kernel
theorem dX12_expandList_168 : decode cX12_expandList 168 = .ok (.iconst 0, 1) := by decide +kernel
theorem dX12_expandList_169 : decode cX12_expandList 169 = .ok (.iload_n 1, 1) := by decide +kernel
theorem dX12_expandList_170 : decode cX12_expandList 170 = .ok (.iload_n 2, 1) := by decide +kernel
theorem dX12_expandList_171 : decode cX12_expandList 171 = .ok (.iload_n 3, 1) := by decide +kernel
theorem dX12_expandList_172 : decode cX12_expandList 172 = .ok (.invokevirtual 270, 3) := by decide +kernel
theorem dX12_expandList_175 : decode cX12_expandList 175 = .ok (.goto 29, 3) := by decide +kernel
theorem dX12_expandList_178 : decode cX12_expandList 178 = .ok (.aload_n 0, 1) := by decide +kernel
theorem dX12_expandList_179 : decode cX12_expandList 179 = .ok (.bipush 40, 2) := by decide +kernel
theorem dX12_expandList_181 : decode cX12_expandList 181 = .ok (.invokevirtual 226, 3) := by decide +kernel
theorem dX12_expandList_184 : decode cX12_expandList 184 = .ok (.aload_n 0, 1) := by decide +kernel
theorem dX12_expandList_185 : decode cX12_expandList 185 = .ok (.iconst 2, 1) := by decide +kernel
theorem dX12_expandList_186 : decode cX12_expandList 186 = .ok (.bipush 41, 2) := by decide +kernel
theorem dX12_expandList_188 : decode cX12_expandList 188 = .ok (.iconst 0, 1) := by decide +kernel
theorem dX12_expandList_189 : decode cX12_expandList 189 = .ok (.iconst 0, 1) := by decide +kernel
theorem dX12_expandList_190 : decode cX12_expandList 190 = .ok (.invokevirtual 232, 3) := by decide +kernel
theorem dX12_expandList_193 : decode cX12_expandList 193 = .ok (.aload_n 0, 1) := by decide +kernel
theorem dX12_expandList_194 : decode cX12_expandList 194 = .ok (.iconst 0, 1) := by decide +kernel
theorem dX12_expandList_195 : decode cX12_expandList 195 = .ok (.iload_n 1, 1) := by decide +kernel
theorem dX12_expandList_196 : decode cX12_expandList 196 = .ok (.iconst 0, 1) := by decide +kernel
theorem dX12_expandList_197 : decode cX12_expandList 197 = .ok (.iload_n 2, 1) := by decide +kernel
theorem dX12_expandList_198 : decode cX12_expandList 198 = .ok (.iload_n 3, 1) := by decide +kernel
theorem dX12_expandList_199 : decode cX12_expandList 199 = .ok (.iconst 1, 1) := by decide +kernel
theorem dX12_expandList_200 : decode cX12_expandList 200 = .ok (.iadd, 1) := by decide +kernel
theorem dX12_expandList_201 : decode cX12_expandList 201 = .ok (.invokevirtual 248, 3) := by decide +kernel
theorem dX12_expandList_204 : decode cX12_expandList 204 = .ok (.return_, 1) := by decide +kernel
theorem dX12_environmentOf_0 : decode cX12_environmentOf 0 = .ok (.iconst 1, 1) := by decide +kernel
theorem dX12_environmentOf_1 : decode cX12_environmentOf 1 = .ok (.istore_n 2, 1) := by decide +kernel
theorem dX12_environmentOf_2 : decode cX12_environmentOf 2 = .ok (.aload_n 0, 1) := by decide +kernel
theorem dX12_environmentOf_3 : decode cX12_environmentOf 3 = .ok (.getfield 54, 3) := by decide +kernel
theorem dX12_environmentOf_6 : decode cX12_environmentOf 6 = .ok (.iload_n 2, 1) := by decide +kernel
theorem dX12_environmentOf_7 : decode cX12_environmentOf 7 = .ok (.iconst 1, 1) := by decide +kernel
theorem dX12_environmentOf_8 : decode cX12_environmentOf 8 = .ok (.iadd, 1) := by decide +kernel
theorem dX12_environmentOf_9 : decode cX12_environmentOf 9 = .ok (.iaload, 1) := by decide +kernel
theorem dX12_environmentOf_10 : decode cX12_environmentOf 10 = .ok (.iload_n 1, 1) := by decide +kernel
theorem dX12_environmentOf_11 : decode cX12_environmentOf 11 = .ok (.if_icmp .gt 9, 3) := by decide +kernel
theorem dX12_environmentOf_14 : decode cX12_environmentOf 14 = .ok (.iinc 2 1, 3) := by decide +kernel
theorem dX12_environmentOf_17 : decode cX12_environmentOf 17 = .ok (.goto (-15), 3) := by decide +kernel
theorem dX12_environmentOf_20 : decode cX12_environmentOf 20 = .ok (.iload_n 2, 1) := by decide +kernel
theorem dX12_environmentOf_21 : decode cX12_environmentOf 21 = .ok (.ireturn, 1) := by decide +kernel
theorem dX12_expandWord_0 : decode cX12_expandWord 0 = .ok (.iload_n 1, 1) := by decide +kernel
theorem dX12_expandWord_1 : decode cX12_expandWord 1 = .ok (.iconst 2, 1) := by decide +kernel
theorem dX12_expandWord_2 : decode cX12_expandWord 2 = .ok (.if_icmp .ne 59, 3) := by decide +kernel
theorem dX12_expandWord_5 : decode cX12_expandWord 5 = .ok (.aload_n 0, 1) := by decide +kernel
theorem dX12_expandWord_6 : decode cX12_expandWord 6 = .ok (.aload_n 0, 1) := by decide +kernel
theorem dX12_expandWord_7 : decode cX12_expandWord 7 = .ok (.iload_n 2, 1) := by decide +kernel
theorem dX12_expandWord_8 : decode cX12_expandWord 8 = .ok (.iconst 2, 1) := by decide +kernel
theorem dX12_expandWord_9 : decode cX12_expandWord 9 = .ok (.invokevirtual 276, 3) := by decide +kernel
theorem dX12_expandWord_12 : decode cX12_expandWord 12 = .ok (.iconst 3, 1) := by decide +kernel
theorem dX12_expandWord_13 : decode cX12_expandWord 13 = .ok (.invokevirtual 255, 3) := by decide +kernel
theorem dX12_expandWord_16 : decode cX12_expandWord 16 = .ok (.ifCond .eq 207, 3) := by decide +kernel
theorem dX12_expandWord_19 : decode cX12_expandWord 19 = .ok (.aload_n 0, 1) := by decide +kernel
theorem dX12_expandWord_20 : decode cX12_expandWord 20 = .ok (.bipush 40, 2) := by decide +kernel
theorem dX12_expandWord_22 : decode cX12_expandWord 22 = .ok (.invokevirtual 226, 3) := by decide +kernel
theorem dX12_expandWord_25 : decode cX12_expandWord 25 = .ok (.aload_n 0, 1) := by decide +kernel
theorem dX12_expandWord_26 : decode cX12_expandWord 26 = .ok (.iconst 2, 1) := by decide +kernel
theorem dX12_expandWord_27 : decode cX12_expandWord 27 = .ok (.invokevirtual 245, 3) := by decide +kernel
theorem dX12_expandWord_30 : decode cX12_expandWord 30 = .ok (.aload_n 0, 1) := by decide +kernel
theorem dX12_expandWord_31 : decode cX12_expandWord 31 = .ok (.bipush 32, 2) := by decide +kernel
theorem dX12_expandWord_33 : decode cX12_expandWord 33 = .ok (.invokevirtual 226, 3) := by decide +kernel
theorem dX12_expandWord_36 : decode cX12_expandWord 36 = .ok (.aload_n 0, 1) := by decide +kernel
theorem dX12_expandWord_37 : decode cX12_expandWord 37 = .ok (.iconst 2, 1) := by decide +kernel
theorem dX12_expandWord_38 : decode cX12_expandWord 38 = .ok (.bipush 41, 2) := by decide +kernel
theorem dX12_expandWord_40 : decode cX12_expandWord 40 = .ok (.iconst 0, 1) := by decide +kernel
theorem dX12_expandWord_41 : decode cX12_expandWord 41 = .ok (.iconst 0, 1) := by decide +kernel
theorem dX12_expandWord_42 : decode cX12_expandWord 42 = .ok (.invokevirtual 232, 3) := by decide +kernel
theorem dX12_expandWord_45 : decode cX12_expandWord 45 = .ok (.aload_n 0, 1) := by decide +kernel
theorem dX12_expandWord_46 : decode cX12_expandWord 46 = .ok (.iconst 1, 1) := by decide +kernel
theorem dX12_expandWord_47 : decode cX12_expandWord 47 = .ok (.aload_n 0, 1) := by decide +kernel
theorem dX12_expandWord_48 : decode cX12_expandWord 48 = .ok (.iload_n 2, 1) := by decide +kernel
theorem dX12_expandWord_49 : decode cX12_expandWord 49 = .ok (.iconst 1, 1) := by decide +kernel
theorem dX12_expandWord_50 : decode cX12_expandWord 50 = .ok (.invokevirtual 192, 3) := by decide +kernel
theorem dX12_expandWord_53 : decode cX12_expandWord 53 = .ok (.iconst 0, 1) := by decide +kernel
theorem dX12_expandWord_54 : decode cX12_expandWord 54 = .ok (.iconst 0, 1) := by decide +kernel
theorem dX12_expandWord_55 : decode cX12_expandWord 55 = .ok (.invokevirtual 232, 3) := by decide +kernel
theorem dX12_expandWord_58 : decode cX12_expandWord 58 = .ok (.goto 165, 3) := by decide +kernel
theorem dX12_expandWord_61 : decode cX12_expandWord 61 = .ok (.iload_n 1, 1) := by decide +kernel
theorem dX12_expandWord_62 : decode cX12_expandWord 62 = .ok (.iconst 1, 1) := by decide +kernel
theorem dX12_expandWord_63 : decode cX12_expandWord 63 = .ok (.if_icmp .ne 58, 3) := by decide +kernel
theorem dX12_expandWord_66 : decode cX12_expandWord 66 = .ok (.aload_n 0, 1) := by decide +kernel
theorem dX12_expandWord_67 : decode cX12_expandWord 67 = .ok (.aload_n 0, 1) := by decide +kernel
theorem dX12_expandWord_68 : decode cX12_expandWord 68 = .ok (.iload_n 2, 1) := by decide +kernel
theorem dX12_expandWord_69 : decode cX12_expandWord 69 = .ok (.iconst 4, 1) := by decide +kernel
theorem dX12_expandWord_70 : decode cX12_expandWord 70 = .ok (.invokevirtual 276, 3) := by decide +kernel
theorem dX12_expandWord_73 : decode cX12_expandWord 73 = .ok (.iconst 3, 1) := by decide +kernel
theorem dX12_expandWord_74 : decode cX12_expandWord 74 = .ok (.invokevirtual 255, 3) := by decide +kernel
theorem dX12_expandWord_77 : decode cX12_expandWord 77 = .ok (.ifCond .eq 146, 3) := by decide +kernel
theorem dX12_expandWord_80 : decode cX12_expandWord 80 = .ok (.aload_n 0, 1) := by decide +kernel
theorem dX12_expandWord_81 : decode cX12_expandWord 81 = .ok (.bipush 40, 2) := by decide +kernel
theorem dX12_expandWord_83 : decode cX12_expandWord 83 = .ok (.invokevirtual 226, 3) := by decide +kernel
theorem dX12_expandWord_86 : decode cX12_expandWord 86 = .ok (.aload_n 0, 1) := by decide +kernel
theorem dX12_expandWord_87 : decode cX12_expandWord 87 = .ok (.iconst 1, 1) := by decide +kernel
theorem dX12_expandWord_88 : decode cX12_expandWord 88 = .ok (.invokevirtual 245, 3) := by decide +kernel
theorem dX12_expandWord_91 : decode cX12_expandWord 91 = .ok (.aload_n 0, 1) := by decide +kernel
theorem dX12_expandWord_92 : decode cX12_expandWord 92 = .ok (.bipush 32, 2) := by decide +kernel
theorem dX12_expandWord_94 : decode cX12_expandWord 94 = .ok (.invokevirtual 226, 3) := by decide +kernel
theorem dX12_expandWord_97 : decode cX12_expandWord 97 = .ok (.aload_n 0, 1) := by decide +kernel
theorem dX12_expandWord_98 : decode cX12_expandWord 98 = .ok (.iconst 2, 1) := by decide +kernel
theorem dX12_expandWord_99 : decode cX12_expandWord 99 = .ok (.bipush 41, 2) := by decide +kernel
theorem dX12_expandWord_101 : decode cX12_expandWord 101 = .ok (.iconst 0, 1) := by decide +kernel
theorem dX12_expandWord_102 : decode cX12_expandWord 102 = .ok (.iconst 0, 1) := by decide +kernel
theorem dX12_expandWord_103 : decode cX12_expandWord 103 = .ok (.invokevirtual 232, 3) := by decide +kernel
theorem dX12_expandWord_106 : decode cX12_expandWord 106 = .ok (.aload_n 0, 1) := by decide +kernel
theorem dX12_expandWord_107 : decode cX12_expandWord 107 = .ok (.iconst 0, 1) := by decide +kernel
theorem dX12_expandWord_108 : decode cX12_expandWord 108 = .ok (.iload_n 2, 1) := by decide +kernel
theorem dX12_expandWord_109 : decode cX12_expandWord 109 = .ok (.iconst 1, 1) := by decide +kernel
theorem dX12_expandWord_110 : decode cX12_expandWord 110 = .ok (.iload_n 3, 1) := by decide +kernel
theorem dX12_expandWord_111 : decode cX12_expandWord 111 = .ok (.iload 4, 2) := by decide +kernel
theorem dX12_expandWord_113 : decode cX12_expandWord 113 = .ok (.iconst 1, 1) := by decide +kernel
theorem dX12_expandWord_114 : decode cX12_expandWord 114 = .ok (.iadd, 1) := by decide +kernel
theorem dX12_expandWord_115 : decode cX12_expandWord 115 = .ok (.invokevirtual 248, 3) := by decide +kernel
theorem dX12_expandWord_118 : decode cX12_expandWord 118 = .ok (.goto 105, 3) := by decide +kernel
theorem dX12_expandWord_121 : decode cX12_expandWord 121 = .ok (.iload_n 1, 1) := by decide +kernel
theorem dX12_expandWord_122 : decode cX12_expandWord 122 = .ok (.ifCond .ne 47, 3) := by decide +kernel
theorem dX12_expandWord_125 : decode cX12_expandWord 125 = .ok (.aload_n 0, 1) := by decide +kernel
theorem dX12_expandWord_126 : decode cX12_expandWord 126 = .ok (.aload_n 0, 1) := by decide +kernel
theorem dX12_expandWord_127 : decode cX12_expandWord 127 = .ok (.getfield 279, 3) := by decide +kernel
theorem dX12_expandWord_130 : decode cX12_expandWord 130 = .ok (.sipush 250, 3) := by decide +kernel
theorem dX12_expandWord_133 : decode cX12_expandWord 133 = .ok (.if_icmp .ge 7, 3) := by decide +kernel
theorem dX12_expandWord_136 : decode cX12_expandWord 136 = .ok (.iconst 1, 1) := by decide +kernel
theorem dX12_expandWord_137 : decode cX12_expandWord 137 = .ok (.goto 4, 3) := by decide +kernel
theorem dX12_expandWord_140 : decode cX12_expandWord 140 = .ok (.iconst 0, 1) := by decide +kernel
theorem dX12_expandWord_141 : decode cX12_expandWord 141 = .ok (.iconst 2, 1) := by decide +kernel
theorem dX12_expandWord_142 : decode cX12_expandWord 142 = .ok (.invokevirtual 255, 3) := by decide +kernel
theorem dX12_expandWord_145 : decode cX12_expandWord 145 = .ok (.ifCond .eq 78, 3) := by decide +kernel
theorem dX12_expandWord_148 : decode cX12_expandWord 148 = .ok (.aload_n 0, 1) := by decide +kernel
theorem dX12_expandWord_149 : decode cX12_expandWord 149 = .ok (.dup, 1) := by decide +kernel
theorem dX12_expandWord_150 : decode cX12_expandWord 150 = .ok (.getfield 279, 3) := by decide +kernel
theorem dX12_expandWord_153 : decode cX12_expandWord 153 = .ok (.iconst 1, 1) := by decide +kernel
theorem dX12_expandWord_154 : decode cX12_expandWord 154 = .ok (.iadd, 1) := by decide +kernel
theorem dX12_expandWord_155 : decode cX12_expandWord 155 = .ok (.putfield 279, 3) := by decide +kernel
theorem dX12_expandWord_158 : decode cX12_expandWord 158 = .ok (.aload_n 0, 1) := by decide +kernel
theorem dX12_expandWord_159 : decode cX12_expandWord 159 = .ok (.iload_n 2, 1) := by decide +kernel
theorem dX12_expandWord_160 : decode cX12_expandWord 160 = .ok (.iload_n 3, 1) := by decide +kernel
theorem dX12_expandWord_161 : decode cX12_expandWord 161 = .ok (.iload 4, 2) := by decide +kernel
theorem dX12_expandWord_163 : decode cX12_expandWord 163 = .ok (.invokevirtual 282, 3) := by decide +kernel
theorem dX12_expandWord_166 : decode cX12_expandWord 166 = .ok (.goto 57, 3) := by decide +kernel
theorem dX12_expandWord_169 : decode cX12_expandWord 169 = .ok (.iload_n 1, 1) := by decide +kernel
theorem dX12_expandWord_170 : decode cX12_expandWord 170 = .ok (.iconst 3, 1) := by decide +kernel
theorem dX12_expandWord_171 : decode cX12_expandWord 171 = .ok (.if_icmp .ne 47, 3) := by decide +kernel
theorem dX12_expandWord_174 : decode cX12_expandWord 174 = .ok (.aload_n 0, 1) := by decide +kernel
theorem dX12_expandWord_175 : decode cX12_expandWord 175 = .ok (.aload_n 0, 1) := by decide +kernel
theorem dX12_expandWord_176 : decode cX12_expandWord 176 = .ok (.getfield 279, 3) := by decide +kernel
theorem dX12_expandWord_179 : decode cX12_expandWord 179 = .ok (.sipush 250, 3) := by decide +kernel
theorem dX12_expandWord_182 : decode cX12_expandWord 182 = .ok (.if_icmp .ge 7, 3) := by decide +kernel
theorem dX12_expandWord_185 : decode cX12_expandWord 185 = .ok (.iconst 1, 1) := by decide +kernel
theorem dX12_expandWord_186 : decode cX12_expandWord 186 = .ok (.goto 4, 3) := by decide +kernel
theorem dX12_expandWord_189 : decode cX12_expandWord 189 = .ok (.iconst 0, 1) := by decide +kernel
theorem dX12_expandWord_190 : decode cX12_expandWord 190 = .ok (.iconst 2, 1) := by decide +kernel
theorem dX12_expandWord_191 : decode cX12_expandWord 191 = .ok (.invokevirtual 255, 3) := by decide +kernel
theorem dX12_expandWord_194 : decode cX12_expandWord 194 = .ok (.ifCond .eq 29, 3) := by decide +kernel
theorem dX12_expandWord_197 : decode cX12_expandWord 197 = .ok (.aload_n 0, 1) := by decide +kernel
theorem dX12_expandWord_198 : decode cX12_expandWord 198 = .ok (.dup, 1) := by decide +kernel
theorem dX12_expandWord_199 : decode cX12_expandWord 199 = .ok (.getfield 279, 3) := by decide +kernel
theorem dX12_expandWord_202 : decode cX12_expandWord 202 = .ok (.iconst 1, 1) := by decide +kernel
theorem dX12_expandWord_203 : decode cX12_expandWord 203 = .ok (.iadd, 1) := by decide +kernel
theorem dX12_expandWord_204 : decode cX12_expandWord 204 = .ok (.putfield 279, 3) := by decide +kernel
theorem dX12_expandWord_207 : decode cX12_expandWord 207 = .ok (.aload_n 0, 1) := by decide +kernel
theorem dX12_expandWord_208 : decode cX12_expandWord 208 = .ok (.iload_n 2, 1) := by decide +kernel
theorem dX12_expandWord_209 : decode cX12_expandWord 209 = .ok (.iload_n 3, 1) := by decide +kernel
theorem dX12_expandWord_210 : decode cX12_expandWord 210 = .ok (.iload 4, 2) := by decide +kernel
theorem dX12_expandWord_212 : decode cX12_expandWord 212 = .ok (.invokevirtual 285, 3) := by decide +kernel
theorem dX12_expandWord_215 : decode cX12_expandWord 215 = .ok (.goto 8, 3) := by decide +kernel
theorem dX12_expandWord_218 : decode cX12_expandWord 218 = .ok (.aload_n 0, 1) := by decide +kernel
theorem dX12_expandWord_219 : decode cX12_expandWord 219 = .ok (.iconst 3, 1) := by decide +kernel
theorem dX12_expandWord_220 : decode cX12_expandWord 220 = .ok (.invokevirtual 239, 3) := by decide +kernel
theorem dX12_expandWord_223 : decode cX12_expandWord 223 = .ok (.return_, 1) := by decide +kernel
theorem dX12_bind_0 : decode cX12_bind 0 = .ok (.aload_n 0, 1) := by decide +kernel
theorem dX12_bind_1 : decode cX12_bind 1 = .ok (.getfield 57, 3) := by decide +kernel
theorem dX12_bind_4 : decode cX12_bind 4 = .ok (.aload_n 0, 1) := by decide +kernel
theorem dX12_bind_5 : decode cX12_bind 5 = .ok (.getfield 288, 3) := by decide +kernel
theorem dX12_bind_8 : decode cX12_bind 8 = .ok (.iload_n 1, 1) := by decide +kernel
theorem dX12_bind_9 : decode cX12_bind 9 = .ok (.iastore, 1) := by decide +kernel
theorem dX12_bind_10 : decode cX12_bind 10 = .ok (.aload_n 0, 1) := by decide +kernel
theorem dX12_bind_11 : decode cX12_bind 11 = .ok (.getfield 60, 3) := by decide +kernel
theorem dX12_bind_14 : decode cX12_bind 14 = .ok (.aload_n 0, 1) := by decide +kernel
theorem dX12_bind_15 : decode cX12_bind 15 = .ok (.getfield 288, 3) := by decide +kernel
theorem dX12_bind_18 : decode cX12_bind 18 = .ok (.iload_n 2, 1) := by decide +kernel
theorem dX12_bind_19 : decode cX12_bind 19 = .ok (.iastore, 1) := by decide +kernel
theorem dX12_bind_20 : decode cX12_bind 20 = .ok (.aload_n 0, 1) := by decide +kernel
theorem dX12_bind_21 : decode cX12_bind 21 = .ok (.getfield 63, 3) := by decide +kernel
theorem dX12_bind_24 : decode cX12_bind 24 = .ok (.aload_n 0, 1) := by decide +kernel
theorem dX12_bind_25 : decode cX12_bind 25 = .ok (.getfield 288, 3) := by decide +kernel
theorem dX12_bind_28 : decode cX12_bind 28 = .ok (.iload_n 3, 1) := by decide +kernel
theorem dX12_bind_29 : decode cX12_bind 29 = .ok (.iastore, 1) := by decide +kernel
theorem dX12_bind_30 : decode cX12_bind 30 = .ok (.aload_n 0, 1) := by decide +kernel
theorem dX12_bind_31 : decode cX12_bind 31 = .ok (.dup, 1) := by decide +kernel
theorem dX12_bind_32 : decode cX12_bind 32 = .ok (.getfield 288, 3) := by decide +kernel
theorem dX12_bind_35 : decode cX12_bind 35 = .ok (.iconst 1, 1) := by decide +kernel
theorem dX12_bind_36 : decode cX12_bind 36 = .ok (.iadd, 1) := by decide +kernel
theorem dX12_bind_37 : decode cX12_bind 37 = .ok (.putfield 288, 3) := by decide +kernel
theorem dX12_bind_40 : decode cX12_bind 40 = .ok (.aload_n 0, 1) := by decide +kernel
theorem dX12_bind_41 : decode cX12_bind 41 = .ok (.getfield 54, 3) := by decide +kernel
theorem dX12_bind_44 : decode cX12_bind 44 = .ok (.aload_n 0, 1) := by decide +kernel
theorem dX12_bind_45 : decode cX12_bind 45 = .ok (.getfield 162, 3) := by decide +kernel
theorem dX12_bind_48 : decode cX12_bind 48 = .ok (.aload_n 0, 1) := by decide +kernel
theorem dX12_bind_49 : decode cX12_bind 49 = .ok (.getfield 288, 3) := by decide +kernel
theorem dX12_bind_52 : decode cX12_bind 52 = .ok (.iastore, 1) := by decide +kernel
theorem dX12_bind_53 : decode cX12_bind 53 = .ok (.return_, 1) := by decide +kernel
theorem dX12_newEnvironment_0 : decode cX12_newEnvironment 0 = .ok (.aload_n 0, 1) := by decide +kernel
theorem dX12_newEnvironment_1 : decode cX12_newEnvironment 1 = .ok (.getfield 51, 3) := by decide +kernel
theorem dX12_newEnvironment_4 : decode cX12_newEnvironment 4 = .ok (.aload_n 0, 1) := by decide +kernel
theorem dX12_newEnvironment_5 : decode cX12_newEnvironment 5 = .ok (.getfield 162, 3) := by decide +kernel
theorem dX12_newEnvironment_8 : decode cX12_newEnvironment 8 = .ok (.iload_n 1, 1) := by decide +kernel
theorem dX12_newEnvironment_9 : decode cX12_newEnvironment 9 = .ok (.iastore, 1) := by decide +kernel
theorem dX12_newEnvironment_10 : decode cX12_newEnvironment 10 = .ok (.aload_n 0, 1) := by decide +kernel
theorem dX12_newEnvironment_11 : decode cX12_newEnvironment 11 = .ok (.dup, 1) := by decide +kernel
theorem dX12_newEnvironment_12 : decode cX12_newEnvironment 12 = .ok (.getfield 162, 3) := by decide +kernel
theorem dX12_newEnvironment_15 : decode cX12_newEnvironment 15 = .ok (.iconst 1, 1) := by decide +kernel
theorem dX12_newEnvironment_16 : decode cX12_newEnvironment 16 = .ok (.iadd, 1) := by decide +kernel
theorem dX12_newEnvironment_17 : decode cX12_newEnvironment 17 = .ok (.putfield 162, 3) := by decide +kernel
theorem dX12_newEnvironment_20 : decode cX12_newEnvironment 20 = .ok (.aload_n 0, 1) := by decide +kernel
theorem dX12_newEnvironment_21 : decode cX12_newEnvironment 21 = .ok (.getfield 54, 3) := by decide +kernel
theorem dX12_newEnvironment_24 : decode cX12_newEnvironment 24 = .ok (.aload_n 0, 1) := by decide +kernel
theorem dX12_newEnvironment_25 : decode cX12_newEnvironment 25 = .ok (.getfield 162, 3) := by decide +kernel
theorem dX12_newEnvironment_28 : decode cX12_newEnvironment 28 = .ok (.aload_n 0, 1) := by decide +kernel
theorem dX12_newEnvironment_29 : decode cX12_newEnvironment 29 = .ok (.getfield 288, 3) := by decide +kernel
theorem dX12_newEnvironment_32 : decode cX12_newEnvironment 32 = .ok (.iastore, 1) := by decide +kernel
theorem dX12_newEnvironment_33 : decode cX12_newEnvironment 33 = .ok (.aload_n 0, 1) := by decide +kernel
theorem dX12_newEnvironment_34 : decode cX12_newEnvironment 34 = .ok (.getfield 162, 3) := by decide +kernel
theorem dX12_newEnvironment_37 : decode cX12_newEnvironment 37 = .ok (.iconst 1, 1) := by decide +kernel
theorem dX12_newEnvironment_38 : decode cX12_newEnvironment 38 = .ok (.isub, 1) := by decide +kernel
theorem dX12_newEnvironment_39 : decode cX12_newEnvironment 39 = .ok (.ireturn, 1) := by decide +kernel
theorem dX12_lambda_0 : decode cX12_lambda 0 = .ok (.aload_n 0, 1) := by decide +kernel
theorem dX12_lambda_1 : decode cX12_lambda 1 = .ok (.iload_n 1, 1) := by decide +kernel
theorem dX12_lambda_2 : decode cX12_lambda 2 = .ok (.iconst 3, 1) := by decide +kernel
theorem dX12_lambda_3 : decode cX12_lambda 3 = .ok (.invokevirtual 276, 3) := by decide +kernel
theorem dX12_lambda_6 : decode cX12_lambda 6 = .ok (.ifCond .eq 38, 3) := by decide +kernel
theorem dX12_lambda_9 : decode cX12_lambda 9 = .ok (.aload_n 0, 1) := by decide +kernel
theorem dX12_lambda_10 : decode cX12_lambda 10 = .ok (.getfield 32, 3) := by decide +kernel
theorem dX12_lambda_13 : decode cX12_lambda 13 = .ok (.aload_n 0, 1) := by decide +kernel
theorem dX12_lambda_14 : decode cX12_lambda 14 = .ok (.iload_n 1, 1) := by decide +kernel
theorem dX12_lambda_15 : decode cX12_lambda 15 = .ok (.iconst 1, 1) := by decide +kernel
theorem dX12_lambda_16 : decode cX12_lambda 16 = .ok (.invokevirtual 192, 3) := by decide +kernel
theorem dX12_lambda_19 : decode cX12_lambda 19 = .ok (.baload, 1) := by decide +kernel
theorem dX12_lambda_20 : decode cX12_lambda 20 = .ok (.iconst 2, 1) := by decide +kernel
theorem dX12_lambda_21 : decode cX12_lambda 21 = .ok (.if_icmp .ne 23, 3) := by decide +kernel
theorem dX12_lambda_24 : decode cX12_lambda 24 = .ok (.aload_n 0, 1) := by decide +kernel
theorem dX12_lambda_25 : decode cX12_lambda 25 = .ok (.getfield 38, 3) := by decide +kernel
theorem dX12_lambda_28 : decode cX12_lambda 28 = .ok (.aload_n 0, 1) := by decide +kernel
theorem dX12_lambda_29 : decode cX12_lambda 29 = .ok (.iload_n 1, 1) := by decide +kernel
theorem dX12_lambda_30 : decode cX12_lambda 30 = .ok (.iconst 1, 1) := by decide +kernel
theorem dX12_lambda_31 : decode cX12_lambda 31 = .ok (.invokevirtual 192, 3) := by decide +kernel
theorem dX12_lambda_34 : decode cX12_lambda 34 = .ok (.iaload, 1) := by decide +kernel
theorem dX12_lambda_35 : decode cX12_lambda 35 = .ok (.bipush 6, 2) := by decide +kernel
theorem dX12_lambda_37 : decode cX12_lambda 37 = .ok (.if_icmp .gt 7, 3) := by decide +kernel
theorem dX12_lambda_40 : decode cX12_lambda 40 = .ok (.iconst 1, 1) := by decide +kernel
theorem dX12_lambda_41 : decode cX12_lambda 41 = .ok (.goto 4, 3) := by decide +kernel
theorem dX12_lambda_44 : decode cX12_lambda 44 = .ok (.iconst 0, 1) := by decide +kernel
theorem dX12_lambda_45 : decode cX12_lambda 45 = .ok (.istore 4, 2) := by decide +kernel
theorem dX12_lambda_47 : decode cX12_lambda 47 = .ok (.iload 4, 2) := by decide +kernel
theorem dX12_lambda_49 : decode cX12_lambda 49 = .ok (.ifCond .eq 12, 3) := by decide +kernel
theorem dX12_lambda_52 : decode cX12_lambda 52 = .ok (.aload_n 0, 1) := by decide +kernel
theorem dX12_lambda_53 : decode cX12_lambda 53 = .ok (.iload_n 1, 1) := by decide +kernel
theorem dX12_lambda_54 : decode cX12_lambda 54 = .ok (.iconst 1, 1) := by decide +kernel
theorem dX12_lambda_55 : decode cX12_lambda 55 = .ok (.invokevirtual 192, 3) := by decide +kernel
theorem dX12_lambda_58 : decode cX12_lambda 58 = .ok (.goto 4, 3) := by decide +kernel
theorem dX12_lambda_61 : decode cX12_lambda 61 = .ok (.iconst 0, 1) := by decide +kernel
theorem dX12_lambda_62 : decode cX12_lambda 62 = .ok (.istore 5, 2) := by decide +kernel
theorem dX12_lambda_64 : decode cX12_lambda 64 = .ok (.iconst 0, 1) := by decide +kernel
theorem dX12_lambda_65 : decode cX12_lambda 65 = .ok (.istore 6, 2) := by decide +kernel
theorem dX12_lambda_67 : decode cX12_lambda 67 = .ok (.iload 4, 2) := by decide +kernel
theorem dX12_lambda_69 : decode cX12_lambda 69 = .ok (.ifCond .eq 92, 3) := by decide +kernel
theorem dX12_lambda_72 : decode cX12_lambda 72 = .ok (.iload 6, 2) := by decide +kernel
theorem dX12_lambda_74 : decode cX12_lambda 74 = .ok (.aload_n 0, 1) := by decide +kernel
theorem dX12_lambda_75 : decode cX12_lambda 75 = .ok (.getfield 38, 3) := by decide +kernel
theorem dX12_lambda_78 : decode cX12_lambda 78 = .ok (.iload 5, 2) := by decide +kernel
theorem dX12_lambda_80 : decode cX12_lambda 80 = .ok (.iaload, 1) := by decide +kernel
theorem dX12_lambda_81 : decode cX12_lambda 81 = .ok (.if_icmp .ge 80, 3) := by decide +kernel
theorem dX12_lambda_84 : decode cX12_lambda 84 = .ok (.aload_n 0, 1) := by decide +kernel
theorem dX12_lambda_85 : decode cX12_lambda 85 = .ok (.aload_n 0, 1) := by decide +kernel
theorem dX12_lambda_86 : decode cX12_lambda 86 = .ok (.iload 5, 2) := by decide +kernel
theorem dX12_lambda_88 : decode cX12_lambda 88 = .ok (.iload 6, 2) := by decide +kernel
theorem dX12_lambda_90 : decode cX12_lambda 90 = .ok (.invokevirtual 192, 3) := by decide +kernel
theorem dX12_lambda_93 : decode cX12_lambda 93 = .ok (.invokevirtual 291, 3) := by decide +kernel
theorem dX12_lambda_96 : decode cX12_lambda 96 = .ok (.istore 4, 2) := by decide +kernel
theorem dX12_lambda_98 : decode cX12_lambda 98 = .ok (.iconst 0, 1) := by decide +kernel
theorem dX12_lambda_99 : decode cX12_lambda 99 = .ok (.istore 7, 2) := by decide +kernel
theorem dX12_lambda_101 : decode cX12_lambda 101 = .ok (.iload 7, 2) := by decide +kernel
theorem dX12_lambda_103 : decode cX12_lambda 103 = .ok (.iload 6, 2) := by decide +kernel
theorem dX12_lambda_105 : decode cX12_lambda 105 = .ok (.if_icmp .ge 50, 3) := by decide +kernel
theorem dX12_lambda_108 : decode cX12_lambda 108 = .ok (.iload 4, 2) := by decide +kernel
theorem dX12_lambda_110 : decode cX12_lambda 110 = .ok (.ifCond .eq 45, 3) := by decide +kernel
theorem dX12_lambda_113 : decode cX12_lambda 113 = .ok (.aload_n 0, 1) := by decide +kernel
theorem dX12_lambda_114 : decode cX12_lambda 114 = .ok (.getfield 35, 3) := by decide +kernel
theorem dX12_lambda_117 : decode cX12_lambda 117 = .ok (.aload_n 0, 1) := by decide +kernel
theorem dX12_lambda_118 : decode cX12_lambda 118 = .ok (.iload 5, 2) := by decide +kernel
theorem dX12_lambda_120 : decode cX12_lambda 120 = .ok (.iload 7, 2) := by decide +kernel
theorem dX12_lambda_122 : decode cX12_lambda 122 = .ok (.invokevirtual 192, 3) := by decide +kernel
theorem dX12_lambda_125 : decode cX12_lambda 125 = .ok (.iaload, 1) := by decide +kernel
theorem dX12_lambda_126 : decode cX12_lambda 126 = .ok (.aload_n 0, 1) := by decide +kernel
theorem dX12_lambda_127 : decode cX12_lambda 127 = .ok (.getfield 35, 3) := by decide +kernel
theorem dX12_lambda_130 : decode cX12_lambda 130 = .ok (.aload_n 0, 1) := by decide +kernel
theorem dX12_lambda_131 : decode cX12_lambda 131 = .ok (.iload 5, 2) := by decide +kernel
theorem dX12_lambda_133 : decode cX12_lambda 133 = .ok (.iload 6, 2) := by decide +kernel
theorem dX12_lambda_135 : decode cX12_lambda 135 = .ok (.invokevirtual 192, 3) := by decide +kernel
theorem dX12_lambda_138 : decode cX12_lambda 138 = .ok (.iaload, 1) := by decide +kernel
theorem dX12_lambda_139 : decode cX12_lambda 139 = .ok (.if_icmp .eq 7, 3) := by decide +kernel
theorem dX12_lambda_142 : decode cX12_lambda 142 = .ok (.iconst 1, 1) := by decide +kernel
theorem dX12_lambda_143 : decode cX12_lambda 143 = .ok (.goto 4, 3) := by decide +kernel
theorem dX12_lambda_146 : decode cX12_lambda 146 = .ok (.iconst 0, 1) := by decide +kernel
theorem dX12_lambda_147 : decode cX12_lambda 147 = .ok (.istore 4, 2) := by decide +kernel
theorem dX12_lambda_149 : decode cX12_lambda 149 = .ok (.iinc 7 1, 3) := by decide +kernel
theorem dX12_lambda_152 : decode cX12_lambda 152 = .ok (.goto (-51), 3) := by decide +kernel
theorem dX12_lambda_155 : decode cX12_lambda 155 = .ok (.iinc 6 1, 3) := by decide +kernel
theorem dX12_lambda_158 : decode cX12_lambda 158 = .ok (.goto (-91), 3) := by decide +kernel
theorem dX12_lambda_161 : decode cX12_lambda 161 = .ok (.aload_n 0, 1) := by decide +kernel
theorem dX12_lambda_162 : decode cX12_lambda 162 = .ok (.iload 4, 2) := by decide +kernel
theorem dX12_lambda_164 : decode cX12_lambda 164 = .ok (.iconst 3, 1) := by decide +kernel
theorem dX12_lambda_165 : decode cX12_lambda 165 = .ok (.invokevirtual 255, 3) := by decide +kernel
theorem dX12_lambda_168 : decode cX12_lambda 168 = .ok (.ifCond .ne 4, 3) := by decide +kernel
theorem dX12_lambda_171 : decode cX12_lambda 171 = .ok (.return_, 1) := by decide +kernel
theorem dX12_lambda_172 : decode cX12_lambda 172 = .ok (.aload_n 0, 1) := by decide +kernel
theorem dX12_lambda_173 : decode cX12_lambda 173 = .ok (.iload_n 2, 1) := by decide +kernel
theorem dX12_lambda_174 : decode cX12_lambda 174 = .ok (.invokevirtual 294, 3) := by decide +kernel
theorem dX12_lambda_177 : decode cX12_lambda 177 = .ok (.istore 6, 2) := by decide +kernel
theorem dX12_lambda_179 : decode cX12_lambda 179 = .ok (.aload_n 0, 1) := by decide +kernel
theorem dX12_lambda_180 : decode cX12_lambda 180 = .ok (.bipush 40, 2) := by decide +kernel
theorem dX12_lambda_182 : decode cX12_lambda 182 = .ok (.invokevirtual 226, 3) := by decide +kernel
theorem dX12_lambda_185 : decode cX12_lambda 185 = .ok (.aload_n 0, 1) := by decide +kernel
theorem dX12_lambda_186 : decode cX12_lambda 186 = .ok (.iconst 0, 1) := by decide +kernel
theorem dX12_lambda_187 : decode cX12_lambda 187 = .ok (.invokevirtual 245, 3) := by decide +kernel
theorem dX12_lambda_190 : decode cX12_lambda 190 = .ok (.aload_n 0, 1) := by decide +kernel
theorem dX12_lambda_191 : decode cX12_lambda 191 = .ok (.bipush 32, 2) := by decide +kernel
theorem dX12_lambda_193 : decode cX12_lambda 193 = .ok (.invokevirtual 226, 3) := by decide +kernel
theorem dX12_lambda_196 : decode cX12_lambda 196 = .ok (.aload_n 0, 1) := by decide +kernel
theorem dX12_lambda_197 : decode cX12_lambda 197 = .ok (.bipush 40, 2) := by decide +kernel
theorem dX12_lambda_199 : decode cX12_lambda 199 = .ok (.invokevirtual 226, 3) := by decide +kernel
theorem dX12_lambda_202 : decode cX12_lambda 202 = .ok (.iconst 0, 1) := by decide +kernel
theorem dX12_lambda_203 : decode cX12_lambda 203 = .ok (.istore 7, 2) := by decide +kernel
theorem dX12_lambda_205 : decode cX12_lambda 205 = .ok (.iload 7, 2) := by decide +kernel
theorem dX12_lambda_207 : decode cX12_lambda 207 = .ok (.aload_n 0, 1) := by decide +kernel
theorem dX12_lambda_208 : decode cX12_lambda 208 = .ok (.getfield 38, 3) := by decide +kernel
theorem dX12_lambda_211 : decode cX12_lambda 211 = .ok (.iload 5, 2) := by decide +kernel
theorem dX12_lambda_213 : decode cX12_lambda 213 = .ok (.iaload, 1) := by decide +kernel
theorem dX12_lambda_214 : decode cX12_lambda 214 = .ok (.if_icmp .ge 66, 3) := by decide +kernel
theorem dX12_lambda_217 : decode cX12_lambda 217 = .ok (.iload 7, 2) := by decide +kernel
theorem dX12_lambda_219 : decode cX12_lambda 219 = .ok (.ifCond .le 9, 3) := by decide +kernel
theorem dX12_lambda_222 : decode cX12_lambda 222 = .ok (.aload_n 0, 1) := by decide +kernel
theorem dX12_lambda_223 : decode cX12_lambda 223 = .ok (.bipush 32, 2) := by decide +kernel
theorem dX12_lambda_225 : decode cX12_lambda 225 = .ok (.invokevirtual 226, 3) := by decide +kernel
theorem dX12_lambda_228 : decode cX12_lambda 228 = .ok (.aload_n 0, 1) := by decide +kernel
theorem dX12_lambda_229 : decode cX12_lambda 229 = .ok (.bipush 37, 2) := by decide +kernel
theorem dX12_lambda_231 : decode cX12_lambda 231 = .ok (.invokevirtual 226, 3) := by decide +kernel
theorem dX12_lambda_234 : decode cX12_lambda 234 = .ok (.aload_n 0, 1) := by decide +kernel
theorem dX12_lambda_235 : decode cX12_lambda 235 = .ok (.aload_n 0, 1) := by decide +kernel
theorem dX12_lambda_236 : decode cX12_lambda 236 = .ok (.getfield 297, 3) := by decide +kernel
theorem dX12_lambda_239 : decode cX12_lambda 239 = .ok (.invokevirtual 242, 3) := by decide +kernel
theorem dX12_lambda_242 : decode cX12_lambda 242 = .ok (.aload_n 0, 1) := by decide +kernel
theorem dX12_lambda_243 : decode cX12_lambda 243 = .ok (.aload_n 0, 1) := by decide +kernel
theorem dX12_lambda_244 : decode cX12_lambda 244 = .ok (.getfield 35, 3) := by decide +kernel
theorem dX12_lambda_247 : decode cX12_lambda 247 = .ok (.aload_n 0, 1) := by decide +kernel
theorem dX12_lambda_248 : decode cX12_lambda 248 = .ok (.iload 5, 2) := by decide +kernel
theorem dX12_lambda_250 : decode cX12_lambda 250 = .ok (.iload 7, 2) := by decide +kernel
theorem dX12_lambda_252 : decode cX12_lambda 252 = .ok (.invokevirtual 192, 3) := by decide +kernel
theorem dX12_lambda_255 : decode cX12_lambda 255 = .ok (.iaload, 1) := by decide +kernel
theorem dX12_lambda_256 : decode cX12_lambda 256 = .ok (.aload_n 0, 1) := by decide +kernel
theorem dX12_lambda_257 : decode cX12_lambda 257 = .ok (.getfield 297, 3) := by decide +kernel
theorem dX12_lambda_260 : decode cX12_lambda 260 = .ok (.iconst (-1), 1) := by decide +kernel
theorem dX12_lambda_261 : decode cX12_lambda 261 = .ok (.invokevirtual 300, 3) := by decide +kernel
theorem dX12_lambda_264 : decode cX12_lambda 264 = .ok (.aload_n 0, 1) := by decide +kernel
theorem dX12_lambda_265 : decode cX12_lambda 265 = .ok (.dup, 1) := by decide +kernel
theorem dX12_lambda_266 : decode cX12_lambda 266 = .ok (.getfield 297, 3) := by decide +kernel
theorem dX12_lambda_269 : decode cX12_lambda 269 = .ok (.iconst 1, 1) := by decide +kernel
theorem dX12_lambda_270 : decode cX12_lambda 270 = .ok (.iadd, 1) := by decide +kernel
theorem dX12_lambda_271 : decode cX12_lambda 271 = .ok (.putfield 297, 3) := by decide +kernel
theorem dX12_lambda_274 : decode cX12_lambda 274 = .ok (.iinc 7 1, 3) := by decide +kernel
theorem dX12_lambda_277 : decode cX12_lambda 277 = .ok (.goto (-72), 3) := by decide +kernel
theorem dX12_lambda_280 : decode cX12_lambda 280 = .ok (.aload_n 0, 1) := by decide +kernel
theorem dX12_lambda_281 : decode cX12_lambda 281 = .ok (.bipush 41, 2) := by decide +kernel
theorem dX12_lambda_283 : decode cX12_lambda 283 = .ok (.invokevirtual 226, 3) := by decide +kernel
theorem dX12_lambda_286 : decode cX12_lambda 286 = .ok (.aload_n 0, 1) := by decide +kernel
theorem dX12_lambda_287 : decode cX12_lambda 287 = .ok (.bipush 32, 2) := by decide +kernel
theorem dX12_lambda_289 : decode cX12_lambda 289 = .ok (.invokevirtual 226, 3) := by decide +kernel
theorem dX12_lambda_292 : decode cX12_lambda 292 = .ok (.aload_n 0, 1) := by decide +kernel
theorem dX12_lambda_293 : decode cX12_lambda 293 = .ok (.iconst 2, 1) := by decide +kernel
theorem dX12_lambda_294 : decode cX12_lambda 294 = .ok (.bipush 41, 2) := by decide +kernel
theorem dX12_lambda_296 : decode cX12_lambda 296 = .ok (.iconst 0, 1) := by decide +kernel
theorem dX12_lambda_297 : decode cX12_lambda 297 = .ok (.iconst 0, 1) := by decide +kernel
theorem dX12_lambda_298 : decode cX12_lambda 298 = .ok (.invokevirtual 232, 3) := by decide +kernel
theorem dX12_lambda_301 : decode cX12_lambda 301 = .ok (.aload_n 0, 1) := by decide +kernel
theorem dX12_lambda_302 : decode cX12_lambda 302 = .ok (.iconst 0, 1) := by decide +kernel
theorem dX12_lambda_303 : decode cX12_lambda 303 = .ok (.aload_n 0, 1) := by decide +kernel
theorem dX12_lambda_304 : decode cX12_lambda 304 = .ok (.iload_n 1, 1) := by decide +kernel
theorem dX12_lambda_305 : decode cX12_lambda 305 = .ok (.iconst 2, 1) := by decide +kernel
theorem dX12_lambda_306 : decode cX12_lambda 306 = .ok (.invokevirtual 192, 3) := by decide +kernel
theorem dX12_lambda_309 : decode cX12_lambda 309 = .ok (.iload 6, 2) := by decide +kernel
theorem dX12_lambda_311 : decode cX12_lambda 311 = .ok (.iload_n 3, 1) := by decide +kernel
theorem dX12_lambda_312 : decode cX12_lambda 312 = .ok (.iconst 1, 1) := by decide +kernel
theorem dX12_lambda_313 : decode cX12_lambda 313 = .ok (.iadd, 1) := by decide +kernel
theorem dX12_lambda_314 : decode cX12_lambda 314 = .ok (.invokevirtual 232, 3) := by decide +kernel
theorem dX12_lambda_317 : decode cX12_lambda 317 = .ok (.return_, 1) := by decide +kernel
theorem dX12_letSyntax_0 : decode cX12_letSyntax 0 = .ok (.aload_n 0, 1) := by decide +kernel
theorem dX12_letSyntax_1 : decode cX12_letSyntax 1 = .ok (.iload_n 1, 1) := by decide +kernel
theorem dX12_letSyntax_2 : decode cX12_letSyntax 2 = .ok (.iconst 3, 1) := by decide +kernel
theorem dX12_letSyntax_3 : decode cX12_letSyntax 3 = .ok (.invokevirtual 276, 3) := by decide +kernel
theorem dX12_letSyntax_6 : decode cX12_letSyntax 6 = .ok (.ifCond .eq 53, 3) := by decide +kernel
theorem dX12_letSyntax_9 : decode cX12_letSyntax 9 = .ok (.aload_n 0, 1) := by decide +kernel
theorem dX12_letSyntax_10 : decode cX12_letSyntax 10 = .ok (.getfield 32, 3) := by decide +kernel
theorem dX12_letSyntax_13 : decode cX12_letSyntax 13 = .ok (.aload_n 0, 1) := by decide +kernel
theorem dX12_letSyntax_14 : decode cX12_letSyntax 14 = .ok (.iload_n 1, 1) := by decide +kernel
theorem dX12_letSyntax_15 : decode cX12_letSyntax 15 = .ok (.iconst 1, 1) := by decide +kernel
theorem dX12_letSyntax_16 : decode cX12_letSyntax 16 = .ok (.invokevirtual 192, 3) := by decide +kernel
theorem dX12_letSyntax_19 : decode cX12_letSyntax 19 = .ok (.baload, 1) := by decide +kernel
theorem dX12_letSyntax_20 : decode cX12_letSyntax 20 = .ok (.iconst 2, 1) := by decide +kernel
theorem dX12_letSyntax_21 : decode cX12_letSyntax 21 = .ok (.if_icmp .ne 38, 3) := by decide +kernel
theorem dX12_letSyntax_24 : decode cX12_letSyntax 24 = .ok (.aload_n 0, 1) := by decide +kernel
theorem dX12_letSyntax_25 : decode cX12_letSyntax 25 = .ok (.getfield 38, 3) := by decide +kernel
theorem dX12_letSyntax_28 : decode cX12_letSyntax 28 = .ok (.aload_n 0, 1) := by decide +kernel
theorem dX12_letSyntax_29 : decode cX12_letSyntax 29 = .ok (.iload_n 1, 1) := by decide +kernel
theorem dX12_letSyntax_30 : decode cX12_letSyntax 30 = .ok (.iconst 1, 1) := by decide +kernel
theorem dX12_letSyntax_31 : decode cX12_letSyntax 31 = .ok (.invokevirtual 192, 3) := by decide +kernel
theorem dX12_letSyntax_34 : decode cX12_letSyntax 34 = .ok (.iaload, 1) := by decide +kernel
theorem dX12_letSyntax_35 : decode cX12_letSyntax 35 = .ok (.iconst 1, 1) := by decide +kernel
theorem dX12_letSyntax_36 : decode cX12_letSyntax 36 = .ok (.if_icmp .lt 23, 3) := by decide +kernel
theorem dX12_letSyntax_39 : decode cX12_letSyntax 39 = .ok (.aload_n 0, 1) := by decide +kernel
theorem dX12_letSyntax_40 : decode cX12_letSyntax 40 = .ok (.getfield 38, 3) := by decide +kernel
theorem dX12_letSyntax_43 : decode cX12_letSyntax 43 = .ok (.aload_n 0, 1) := by decide +kernel
theorem dX12_letSyntax_44 : decode cX12_letSyntax 44 = .ok (.iload_n 1, 1) := by decide +kernel
theorem dX12_letSyntax_45 : decode cX12_letSyntax 45 = .ok (.iconst 1, 1) := by decide +kernel
theorem dX12_letSyntax_46 : decode cX12_letSyntax 46 = .ok (.invokevirtual 192, 3) := by decide +kernel
theorem dX12_letSyntax_49 : decode cX12_letSyntax 49 = .ok (.iaload, 1) := by decide +kernel
theorem dX12_letSyntax_50 : decode cX12_letSyntax 50 = .ok (.bipush 6, 2) := by decide +kernel
theorem dX12_letSyntax_52 : decode cX12_letSyntax 52 = .ok (.if_icmp .gt 7, 3) := by decide +kernel
theorem dX12_letSyntax_55 : decode cX12_letSyntax 55 = .ok (.iconst 1, 1) := by decide +kernel
theorem dX12_letSyntax_56 : decode cX12_letSyntax 56 = .ok (.goto 4, 3) := by decide +kernel
theorem dX12_letSyntax_59 : decode cX12_letSyntax 59 = .ok (.iconst 0, 1) := by decide +kernel
theorem dX12_letSyntax_60 : decode cX12_letSyntax 60 = .ok (.istore 4, 2) := by decide +kernel
theorem dX12_letSyntax_62 : decode cX12_letSyntax 62 = .ok (.iload 4, 2) := by decide +kernel
theorem dX12_letSyntax_64 : decode cX12_letSyntax 64 = .ok (.ifCond .eq 12, 3) := by decide +kernel
theorem dX12_letSyntax_67 : decode cX12_letSyntax 67 = .ok (.aload_n 0, 1) := by decide +kernel
theorem dX12_letSyntax_68 : decode cX12_letSyntax 68 = .ok (.iload_n 1, 1) := by decide +kernel
theorem dX12_letSyntax_69 : decode cX12_letSyntax 69 = .ok (.iconst 1, 1) := by decide +kernel
theorem dX12_letSyntax_70 : decode cX12_letSyntax 70 = .ok (.invokevirtual 192, 3) := by decide +kernel
theorem dX12_letSyntax_73 : decode cX12_letSyntax 73 = .ok (.goto 4, 3) := by decide +kernel
theorem dX12_letSyntax_76 : decode cX12_letSyntax 76 = .ok (.iconst 0, 1) := by decide +kernel
theorem dX12_letSyntax_77 : decode cX12_letSyntax 77 = .ok (.istore 5, 2) := by decide +kernel
theorem dX12_letSyntax_79 : decode cX12_letSyntax 79 = .ok (.iconst 0, 1) := by decide +kernel
theorem dX12_letSyntax_80 : decode cX12_letSyntax 80 = .ok (.istore 6, 2) := by decide +kernel
theorem dX12_letSyntax_82 : decode cX12_letSyntax 82 = .ok (.iload 4, 2) := by decide +kernel
theorem dX12_letSyntax_84 : decode cX12_letSyntax 84 = .ok (.ifCond .eq 131, 3) := by decide +kernel
theorem dX12_letSyntax_87 : decode cX12_letSyntax 87 = .ok (.iload 6, 2) := by decide +kernel
theorem dX12_letSyntax_89 : decode cX12_letSyntax 89 = .ok (.aload_n 0, 1) := by decide +kernel
theorem dX12_letSyntax_90 : decode cX12_letSyntax 90 = .ok (.getfield 38, 3) := by decide +kernel
theorem dX12_letSyntax_93 : decode cX12_letSyntax 93 = .ok (.iload 5, 2) := by decide +kernel
theorem dX12_letSyntax_95 : decode cX12_letSyntax 95 = .ok (.iaload, 1) := by decide +kernel
theorem dX12_letSyntax_96 : decode cX12_letSyntax 96 = .ok (.if_icmp .ge 119, 3) := by decide +kernel
theorem dX12_letSyntax_99 : decode cX12_letSyntax 99 = .ok (.aload_n 0, 1) := by decide +kernel
theorem dX12_letSyntax_100 : decode cX12_letSyntax 100 = .ok (.aload_n 0, 1) := by decide +kernel
theorem dX12_letSyntax_101 : decode cX12_letSyntax 101 = .ok (.iload 5, 2) := by decide +kernel
theorem dX12_letSyntax_103 : decode cX12_letSyntax 103 = .ok (.iload 6, 2) := by decide +kernel
theorem dX12_letSyntax_105 : decode cX12_letSyntax 105 = .ok (.invokevirtual 192, 3) := by decide +kernel
theorem dX12_letSyntax_108 : decode cX12_letSyntax 108 = .ok (.iconst 2, 1) := by decide +kernel
theorem dX12_letSyntax_109 : decode cX12_letSyntax 109 = .ok (.invokevirtual 276, 3) := by decide +kernel
theorem dX12_letSyntax_112 : decode cX12_letSyntax 112 = .ok (.ifCond .eq 27, 3) := by decide +kernel
theorem dX12_letSyntax_115 : decode cX12_letSyntax 115 = .ok (.aload_n 0, 1) := by decide +kernel
theorem dX12_letSyntax_116 : decode cX12_letSyntax 116 = .ok (.aload_n 0, 1) := by decide +kernel
theorem dX12_letSyntax_117 : decode cX12_letSyntax 117 = .ok (.aload_n 0, 1) := by decide +kernel
theorem dX12_letSyntax_118 : decode cX12_letSyntax 118 = .ok (.iload 5, 2) := by decide +kernel
theorem dX12_letSyntax_120 : decode cX12_letSyntax 120 = .ok (.iload 6, 2) := by decide +kernel
theorem dX12_letSyntax_122 : decode cX12_letSyntax 122 = .ok (.invokevirtual 192, 3) := by decide +kernel
theorem dX12_letSyntax_125 : decode cX12_letSyntax 125 = .ok (.iconst 0, 1) := by decide +kernel
theorem dX12_letSyntax_126 : decode cX12_letSyntax 126 = .ok (.invokevirtual 192, 3) := by decide +kernel
theorem dX12_letSyntax_129 : decode cX12_letSyntax 129 = .ok (.invokevirtual 291, 3) := by decide +kernel
theorem dX12_letSyntax_132 : decode cX12_letSyntax 132 = .ok (.ifCond .eq 7, 3) := by decide +kernel
theorem dX12_letSyntax_135 : decode cX12_letSyntax 135 = .ok (.iconst 1, 1) := by decide +kernel
theorem dX12_letSyntax_136 : decode cX12_letSyntax 136 = .ok (.goto 4, 3) := by decide +kernel
theorem dX12_letSyntax_139 : decode cX12_letSyntax 139 = .ok (.iconst 0, 1) := by decide +kernel
theorem dX12_letSyntax_140 : decode cX12_letSyntax 140 = .ok (.istore 4, 2) := by decide +kernel
theorem dX12_letSyntax_142 : decode cX12_letSyntax 142 = .ok (.iconst 0, 1) := by decide +kernel
theorem dX12_letSyntax_143 : decode cX12_letSyntax 143 = .ok (.istore 7, 2) := by decide +kernel
theorem dX12_letSyntax_145 : decode cX12_letSyntax 145 = .ok (.iload 7, 2) := by decide +kernel
theorem dX12_letSyntax_147 : decode cX12_letSyntax 147 = .ok (.iload 6, 2) := by decide +kernel
theorem dX12_letSyntax_149 : decode cX12_letSyntax 149 = .ok (.if_icmp .ge 60, 3) := by decide +kernel
theorem dX12_letSyntax_152 : decode cX12_letSyntax 152 = .ok (.iload 4, 2) := by decide +kernel
theorem dX12_letSyntax_154 : decode cX12_letSyntax 154 = .ok (.ifCond .eq 55, 3) := by decide +kernel
theorem dX12_letSyntax_157 : decode cX12_letSyntax 157 = .ok (.aload_n 0, 1) := by decide +kernel
theorem dX12_letSyntax_158 : decode cX12_letSyntax 158 = .ok (.getfield 35, 3) := by decide +kernel
theorem dX12_letSyntax_161 : decode cX12_letSyntax 161 = .ok (.aload_n 0, 1) := by decide +kernel
theorem dX12_letSyntax_162 : decode cX12_letSyntax 162 = .ok (.aload_n 0, 1) := by decide +kernel
theorem dX12_letSyntax_163 : decode cX12_letSyntax 163 = .ok (.iload 5, 2) := by decide +kernel
theorem dX12_letSyntax_165 : decode cX12_letSyntax 165 = .ok (.iload 7, 2) := by decide +kernel
theorem dX12_letSyntax_167 : decode cX12_letSyntax 167 = .ok (.invokevirtual 192, 3) := by decide +kernel
theorem dX12_letSyntax_170 : decode cX12_letSyntax 170 = .ok (.iconst 0, 1) := by decide +kernel
theorem dX12_letSyntax_171 : decode cX12_letSyntax 171 = .ok (.invokevirtual 192, 3) := by decide +kernel
theorem dX12_letSyntax_174 : decode cX12_letSyntax 174 = .ok (.iaload, 1) := by decide +kernel
theorem dX12_letSyntax_175 : decode cX12_letSyntax 175 = .ok (.aload_n 0, 1) := by decide +kernel
theorem dX12_letSyntax_176 : decode cX12_letSyntax 176 = .ok (.getfield 35, 3) := by decide +kernel
theorem dX12_letSyntax_179 : decode cX12_letSyntax 179 = .ok (.aload_n 0, 1) := by decide +kernel
theorem dX12_letSyntax_180 : decode cX12_letSyntax 180 = .ok (.aload_n 0, 1) := by decide +kernel
theorem dX12_letSyntax_181 : decode cX12_letSyntax 181 = .ok (.iload 5, 2) := by decide +kernel
theorem dX12_letSyntax_183 : decode cX12_letSyntax 183 = .ok (.iload 6, 2) := by decide +kernel
theorem dX12_letSyntax_185 : decode cX12_letSyntax 185 = .ok (.invokevirtual 192, 3) := by decide +kernel
theorem dX12_letSyntax_188 : decode cX12_letSyntax 188 = .ok (.iconst 0, 1) := by decide +kernel
theorem dX12_letSyntax_189 : decode cX12_letSyntax 189 = .ok (.invokevirtual 192, 3) := by decide +kernel
theorem dX12_letSyntax_192 : decode cX12_letSyntax 192 = .ok (.iaload, 1) := by decide +kernel
theorem dX12_letSyntax_193 : decode cX12_letSyntax 193 = .ok (.if_icmp .eq 7, 3) := by decide +kernel
theorem dX12_letSyntax_196 : decode cX12_letSyntax 196 = .ok (.iconst 1, 1) := by decide +kernel
theorem dX12_letSyntax_197 : decode cX12_letSyntax 197 = .ok (.goto 4, 3) := by decide +kernel
theorem dX12_letSyntax_200 : decode cX12_letSyntax 200 = .ok (.iconst 0, 1) := by decide +kernel
theorem dX12_letSyntax_201 : decode cX12_letSyntax 201 = .ok (.istore 4, 2) := by decide +kernel
theorem dX12_letSyntax_203 : decode cX12_letSyntax 203 = .ok (.iinc 7 1, 3) := by decide +kernel
theorem dX12_letSyntax_206 : decode cX12_letSyntax 206 = .ok (.goto (-61), 3) := by decide +kernel
theorem dX12_letSyntax_209 : decode cX12_letSyntax 209 = .ok (.iinc 6 1, 3) := by decide +kernel
theorem dX12_letSyntax_212 : decode cX12_letSyntax 212 = .ok (.goto (-130), 3) := by decide +kernel
theorem dX12_letSyntax_215 : decode cX12_letSyntax 215 = .ok (.aload_n 0, 1) := by decide +kernel
theorem dX12_letSyntax_216 : decode cX12_letSyntax 216 = .ok (.iload 4, 2) := by decide +kernel
theorem dX12_letSyntax_218 : decode cX12_letSyntax 218 = .ok (.iconst 3, 1) := by decide +kernel
theorem dX12_letSyntax_219 : decode cX12_letSyntax 219 = .ok (.invokevirtual 255, 3) := by decide +kernel
theorem dX12_letSyntax_222 : decode cX12_letSyntax 222 = .ok (.ifCond .ne 4, 3) := by decide +kernel
theorem dX12_letSyntax_225 : decode cX12_letSyntax 225 = .ok (.return_, 1) := by decide +kernel
theorem dX12_letSyntax_226 : decode cX12_letSyntax 226 = .ok (.aload_n 0, 1) := by decide +kernel
theorem dX12_letSyntax_227 : decode cX12_letSyntax 227 = .ok (.iload_n 2, 1) := by decide +kernel
theorem dX12_letSyntax_228 : decode cX12_letSyntax 228 = .ok (.invokevirtual 294, 3) := by decide +kernel
theorem dX12_letSyntax_231 : decode cX12_letSyntax 231 = .ok (.istore 6, 2) := by decide +kernel
theorem dX12_letSyntax_233 : decode cX12_letSyntax 233 = .ok (.iconst 0, 1) := by decide +kernel
theorem dX12_letSyntax_234 : decode cX12_letSyntax 234 = .ok (.istore 7, 2) := by decide +kernel
theorem dX12_letSyntax_236 : decode cX12_letSyntax 236 = .ok (.iload 7, 2) := by decide +kernel
theorem dX12_letSyntax_238 : decode cX12_letSyntax 238 = .ok (.aload_n 0, 1) := by decide +kernel
theorem dX12_letSyntax_239 : decode cX12_letSyntax 239 = .ok (.getfield 38, 3) := by decide +kernel
theorem dX12_letSyntax_242 : decode cX12_letSyntax 242 = .ok (.iload 5, 2) := by decide +kernel
theorem dX12_letSyntax_244 : decode cX12_letSyntax 244 = .ok (.iaload, 1) := by decide +kernel
theorem dX12_letSyntax_245 : decode cX12_letSyntax 245 = .ok (.if_icmp .ge 45, 3) := by decide +kernel
theorem dX12_letSyntax_248 : decode cX12_letSyntax 248 = .ok (.aload_n 0, 1) := by decide +kernel
theorem dX12_letSyntax_249 : decode cX12_letSyntax 249 = .ok (.aload_n 0, 1) := by decide +kernel
theorem dX12_letSyntax_250 : decode cX12_letSyntax 250 = .ok (.getfield 35, 3) := by decide +kernel
theorem dX12_letSyntax_253 : decode cX12_letSyntax 253 = .ok (.aload_n 0, 1) := by decide +kernel
theorem dX12_letSyntax_254 : decode cX12_letSyntax 254 = .ok (.aload_n 0, 1) := by decide +kernel
theorem dX12_letSyntax_255 : decode cX12_letSyntax 255 = .ok (.iload 5, 2) := by decide +kernel
theorem dX12_letSyntax_257 : decode cX12_letSyntax 257 = .ok (.iload 7, 2) := by decide +kernel
theorem dX12_letSyntax_259 : decode cX12_letSyntax 259 = .ok (.invokevirtual 192, 3) := by decide +kernel
theorem dX12_letSyntax_262 : decode cX12_letSyntax 262 = .ok (.iconst 0, 1) := by decide +kernel
theorem dX12_letSyntax_263 : decode cX12_letSyntax 263 = .ok (.invokevirtual 192, 3) := by decide +kernel
theorem dX12_letSyntax_266 : decode cX12_letSyntax 266 = .ok (.iaload, 1) := by decide +kernel
theorem dX12_letSyntax_267 : decode cX12_letSyntax 267 = .ok (.iconst (-1), 1) := by decide +kernel
theorem dX12_letSyntax_268 : decode cX12_letSyntax 268 = .ok (.aload_n 0, 1) := by decide +kernel
theorem dX12_letSyntax_269 : decode cX12_letSyntax 269 = .ok (.aload_n 0, 1) := by decide +kernel
theorem dX12_letSyntax_270 : decode cX12_letSyntax 270 = .ok (.iload 5, 2) := by decide +kernel
theorem dX12_letSyntax_272 : decode cX12_letSyntax 272 = .ok (.iload 7, 2) := by decide +kernel
theorem dX12_letSyntax_274 : decode cX12_letSyntax 274 = .ok (.invokevirtual 192, 3) := by decide +kernel
theorem dX12_letSyntax_277 : decode cX12_letSyntax 277 = .ok (.iconst 1, 1) := by decide +kernel
theorem dX12_letSyntax_278 : decode cX12_letSyntax 278 = .ok (.invokevirtual 192, 3) := by decide +kernel
theorem dX12_letSyntax_281 : decode cX12_letSyntax 281 = .ok (.invokevirtual 300, 3) := by decide +kernel
theorem dX12_letSyntax_284 : decode cX12_letSyntax 284 = .ok (.iinc 7 1, 3) := by decide +kernel
theorem dX12_letSyntax_287 : decode cX12_letSyntax 287 = .ok (.goto (-51), 3) := by decide +kernel
theorem dX12_letSyntax_290 : decode cX12_letSyntax 290 = .ok (.iconst 0, 1) := by decide +kernel
theorem dX12_letSyntax_291 : decode cX12_letSyntax 291 = .ok (.istore 7, 2) := by decide +kernel
theorem dX12_letSyntax_293 : decode cX12_letSyntax 293 = .ok (.iload 7, 2) := by decide +kernel
theorem dX12_letSyntax_295 : decode cX12_letSyntax 295 = .ok (.aload_n 0, 1) := by decide +kernel
theorem dX12_letSyntax_296 : decode cX12_letSyntax 296 = .ok (.getfield 38, 3) := by decide +kernel
theorem dX12_letSyntax_299 : decode cX12_letSyntax 299 = .ok (.iload 5, 2) := by decide +kernel
theorem dX12_letSyntax_301 : decode cX12_letSyntax 301 = .ok (.iaload, 1) := by decide +kernel
theorem dX12_letSyntax_302 : decode cX12_letSyntax 302 = .ok (.if_icmp .ge 43, 3) := by decide +kernel
theorem dX12_letSyntax_305 : decode cX12_letSyntax 305 = .ok (.iload 4, 2) := by decide +kernel
theorem dX12_letSyntax_307 : decode cX12_letSyntax 307 = .ok (.ifCond .eq 29, 3) := by decide +kernel
theorem dX12_letSyntax_310 : decode cX12_letSyntax 310 = .ok (.aload_n 0, 1) := by decide +kernel
theorem dX12_letSyntax_311 : decode cX12_letSyntax 311 = .ok (.aload_n 0, 1) := by decide +kernel
theorem dX12_letSyntax_312 : decode cX12_letSyntax 312 = .ok (.aload_n 0, 1) := by decide +kernel
theorem dX12_letSyntax_313 : decode cX12_letSyntax 313 = .ok (.iload 5, 2) := by decide +kernel
theorem dX12_letSyntax_315 : decode cX12_letSyntax 315 = .ok (.iload 7, 2) := by decide +kernel
theorem dX12_letSyntax_317 : decode cX12_letSyntax 317 = .ok (.invokevirtual 192, 3) := by decide +kernel
theorem dX12_letSyntax_320 : decode cX12_letSyntax 320 = .ok (.iconst 1, 1) := by decide +kernel
theorem dX12_letSyntax_321 : decode cX12_letSyntax 321 = .ok (.invokevirtual 192, 3) := by decide +kernel
theorem dX12_letSyntax_324 : decode cX12_letSyntax 324 = .ok (.iload 6, 2) := by decide +kernel
theorem dX12_letSyntax_326 : decode cX12_letSyntax 326 = .ok (.invokevirtual 303, 3) := by decide +kernel
theorem dX12_letSyntax_329 : decode cX12_letSyntax 329 = .ok (.ifCond .eq 7, 3) := by decide +kernel
theorem dX12_letSyntax_332 : decode cX12_letSyntax 332 = .ok (.iconst 1, 1) := by decide +kernel
theorem dX12_letSyntax_333 : decode cX12_letSyntax 333 = .ok (.goto 4, 3) := by decide +kernel
theorem dX12_letSyntax_336 : decode cX12_letSyntax 336 = .ok (.iconst 0, 1) := by decide +kernel
theorem dX12_letSyntax_337 : decode cX12_letSyntax 337 = .ok (.istore 4, 2) := by decide +kernel
theorem dX12_letSyntax_339 : decode cX12_letSyntax 339 = .ok (.iinc 7 1, 3) := by decide +kernel
theorem dX12_letSyntax_342 : decode cX12_letSyntax 342 = .ok (.goto (-49), 3) := by decide +kernel
theorem dX12_letSyntax_345 : decode cX12_letSyntax 345 = .ok (.aload_n 0, 1) := by decide +kernel
theorem dX12_letSyntax_346 : decode cX12_letSyntax 346 = .ok (.iload 4, 2) := by decide +kernel
theorem dX12_letSyntax_348 : decode cX12_letSyntax 348 = .ok (.iconst 3, 1) := by decide +kernel
theorem dX12_letSyntax_349 : decode cX12_letSyntax 349 = .ok (.invokevirtual 255, 3) := by decide +kernel
theorem dX12_letSyntax_352 : decode cX12_letSyntax 352 = .ok (.ifCond .eq 19, 3) := by decide +kernel
theorem dX12_letSyntax_355 : decode cX12_letSyntax 355 = .ok (.aload_n 0, 1) := by decide +kernel
theorem dX12_letSyntax_356 : decode cX12_letSyntax 356 = .ok (.iconst 0, 1) := by decide +kernel
theorem dX12_letSyntax_357 : decode cX12_letSyntax 357 = .ok (.aload_n 0, 1) := by decide +kernel
theorem dX12_letSyntax_358 : decode cX12_letSyntax 358 = .ok (.iload_n 1, 1) := by decide +kernel
theorem dX12_letSyntax_359 : decode cX12_letSyntax 359 = .ok (.iconst 2, 1) := by decide +kernel
theorem dX12_letSyntax_360 : decode cX12_letSyntax 360 = .ok (.invokevirtual 192, 3) := by decide +kernel
theorem dX12_letSyntax_363 : decode cX12_letSyntax 363 = .ok (.iload 6, 2) := by decide +kernel
theorem dX12_letSyntax_365 : decode cX12_letSyntax 365 = .ok (.iload_n 3, 1) := by decide +kernel
theorem dX12_letSyntax_366 : decode cX12_letSyntax 366 = .ok (.iconst 1, 1) := by decide +kernel
theorem dX12_letSyntax_367 : decode cX12_letSyntax 367 = .ok (.iadd, 1) := by decide +kernel
theorem dX12_letSyntax_368 : decode cX12_letSyntax 368 = .ok (.invokevirtual 232, 3) := by decide +kernel
theorem dX12_letSyntax_371 : decode cX12_letSyntax 371 = .ok (.return_, 1) := by decide +kernel
theorem dX12_lookAt_0 : decode cX12_lookAt 0 = .ok (.aload_n 0, 1) := by decide +kernel
theorem dX12_lookAt_1 : decode cX12_lookAt 1 = .ok (.getfield 98, 3) := by decide +kernel
theorem dX12_lookAt_4 : decode cX12_lookAt 4 = .ok (.aload_n 0, 1) := by decide +kernel
theorem dX12_lookAt_5 : decode cX12_lookAt 5 = .ok (.getfield 306, 3) := by decide +kernel
theorem dX12_lookAt_8 : decode cX12_lookAt 8 = .ok (.iload_n 1, 1) := by decide +kernel
theorem dX12_lookAt_9 : decode cX12_lookAt 9 = .ok (.iastore, 1) := by decide +kernel
theorem dX12_lookAt_10 : decode cX12_lookAt 10 = .ok (.aload_n 0, 1) := by decide +kernel
theorem dX12_lookAt_11 : decode cX12_lookAt 11 = .ok (.getfield 101, 3) := by decide +kernel
theorem dX12_lookAt_14 : decode cX12_lookAt 14 = .ok (.aload_n 0, 1) := by decide +kernel
theorem dX12_lookAt_15 : decode cX12_lookAt 15 = .ok (.getfield 306, 3) := by decide +kernel
theorem dX12_lookAt_18 : decode cX12_lookAt 18 = .ok (.iload_n 2, 1) := by decide +kernel
theorem dX12_lookAt_19 : decode cX12_lookAt 19 = .ok (.iastore, 1) := by decide +kernel
theorem dX12_lookAt_20 : decode cX12_lookAt 20 = .ok (.aload_n 0, 1) := by decide +kernel
theorem dX12_lookAt_21 : decode cX12_lookAt 21 = .ok (.getfield 104, 3) := by decide +kernel
theorem dX12_lookAt_24 : decode cX12_lookAt 24 = .ok (.aload_n 0, 1) := by decide +kernel
theorem dX12_lookAt_25 : decode cX12_lookAt 25 = .ok (.getfield 306, 3) := by decide +kernel
theorem dX12_lookAt_28 : decode cX12_lookAt 28 = .ok (.iload_n 3, 1) := by decide +kernel
theorem dX12_lookAt_29 : decode cX12_lookAt 29 = .ok (.iastore, 1) := by decide +kernel
theorem dX12_lookAt_30 : decode cX12_lookAt 30 = .ok (.aload_n 0, 1) := by decide +kernel
theorem dX12_lookAt_31 : decode cX12_lookAt 31 = .ok (.dup, 1) := by decide +kernel
theorem dX12_lookAt_32 : decode cX12_lookAt 32 = .ok (.getfield 306, 3) := by decide +kernel
theorem dX12_lookAt_35 : decode cX12_lookAt 35 = .ok (.iconst 1, 1) := by decide +kernel
theorem dX12_lookAt_36 : decode cX12_lookAt 36 = .ok (.iadd, 1) := by decide +kernel
theorem dX12_lookAt_37 : decode cX12_lookAt 37 = .ok (.putfield 306, 3) := by decide +kernel
theorem dX12_lookAt_40 : decode cX12_lookAt 40 = .ok (.return_, 1) := by decide +kernel
theorem dX12_isLiteral_0 : decode cX12_isLiteral 0 = .ok (.aload_n 0, 1) := by decide +kernel
theorem dX12_isLiteral_1 : decode cX12_isLiteral 1 = .ok (.iload_n 1, 1) := by decide +kernel
theorem dX12_isLiteral_2 : decode cX12_isLiteral 2 = .ok (.iconst 1, 1) := by decide +kernel
theorem dX12_isLiteral_3 : decode cX12_isLiteral 3 = .ok (.invokevirtual 192, 3) := by decide +kernel
theorem dX12_isLiteral_6 : decode cX12_isLiteral 6 = .ok (.istore_n 3, 1) := by decide +kernel
theorem dX12_isLiteral_7 : decode cX12_isLiteral 7 = .ok (.iconst 0, 1) := by decide +kernel
theorem dX12_isLiteral_8 : decode cX12_isLiteral 8 = .ok (.istore 4, 2) := by decide +kernel
theorem dX12_isLiteral_10 : decode cX12_isLiteral 10 = .ok (.iconst 0, 1) := by decide +kernel
theorem dX12_isLiteral_11 : decode cX12_isLiteral 11 = .ok (.istore 5, 2) := by decide +kernel
theorem dX12_isLiteral_13 : decode cX12_isLiteral 13 = .ok (.iload 5, 2) := by decide +kernel
theorem dX12_isLiteral_15 : decode cX12_isLiteral 15 = .ok (.aload_n 0, 1) := by decide +kernel
theorem dX12_isLiteral_16 : decode cX12_isLiteral 16 = .ok (.getfield 38, 3) := by decide +kernel
theorem dX12_isLiteral_19 : decode cX12_isLiteral 19 = .ok (.iload_n 3, 1) := by decide +kernel
theorem dX12_isLiteral_20 : decode cX12_isLiteral 20 = .ok (.iaload, 1) := by decide +kernel
theorem dX12_isLiteral_21 : decode cX12_isLiteral 21 = .ok (.if_icmp .ge 37, 3) := by decide +kernel
theorem dX12_isLiteral_24 : decode cX12_isLiteral 24 = .ok (.iload 4, 2) := by decide +kernel
theorem dX12_isLiteral_26 : decode cX12_isLiteral 26 = .ok (.ifCond .ne 19, 3) := by decide +kernel
theorem dX12_isLiteral_29 : decode cX12_isLiteral 29 = .ok (.aload_n 0, 1) := by decide +kernel
theorem dX12_isLiteral_30 : decode cX12_isLiteral 30 = .ok (.getfield 35, 3) := by decide +kernel
theorem dX12_isLiteral_33 : decode cX12_isLiteral 33 = .ok (.aload_n 0, 1) := by decide +kernel
theorem dX12_isLiteral_34 : decode cX12_isLiteral 34 = .ok (.iload_n 3, 1) := by decide +kernel
theorem dX12_isLiteral_35 : decode cX12_isLiteral 35 = .ok (.iload 5, 2) := by decide +kernel
theorem dX12_isLiteral_37 : decode cX12_isLiteral 37 = .ok (.invokevirtual 192, 3) := by decide +kernel
theorem dX12_isLiteral_40 : decode cX12_isLiteral 40 = .ok (.iaload, 1) := by decide +kernel
theorem dX12_isLiteral_41 : decode cX12_isLiteral 41 = .ok (.iload_n 2, 1) := by decide +kernel
theorem dX12_isLiteral_42 : decode cX12_isLiteral 42 = .ok (.if_icmp .ne 7, 3) := by decide +kernel
theorem dX12_isLiteral_45 : decode cX12_isLiteral 45 = .ok (.iconst 1, 1) := by decide +kernel
theorem dX12_isLiteral_46 : decode cX12_isLiteral 46 = .ok (.goto 4, 3) := by decide +kernel
theorem dX12_isLiteral_49 : decode cX12_isLiteral 49 = .ok (.iconst 0, 1) := by decide +kernel
theorem dX12_isLiteral_50 : decode cX12_isLiteral 50 = .ok (.istore 4, 2) := by decide +kernel
theorem dX12_isLiteral_52 : decode cX12_isLiteral 52 = .ok (.iinc 5 1, 3) := by decide +kernel
theorem dX12_isLiteral_55 : decode cX12_isLiteral 55 = .ok (.goto (-42), 3) := by decide +kernel
theorem dX12_isLiteral_58 : decode cX12_isLiteral 58 = .ok (.iload 4, 2) := by decide +kernel
theorem dX12_isLiteral_60 : decode cX12_isLiteral 60 = .ok (.ireturn, 1) := by decide +kernel
theorem dX12_variable_0 : decode cX12_variable 0 = .ok (.iconst (-1), 1) := by decide +kernel
theorem dX12_variable_1 : decode cX12_variable 1 = .ok (.istore_n 2, 1) := by decide +kernel
theorem dX12_variable_2 : decode cX12_variable 2 = .ok (.iconst 0, 1) := by decide +kernel
theorem dX12_variable_3 : decode cX12_variable 3 = .ok (.istore_n 3, 1) := by decide +kernel
theorem dX12_variable_4 : decode cX12_variable 4 = .ok (.iload_n 3, 1) := by decide +kernel
theorem dX12_variable_5 : decode cX12_variable 5 = .ok (.aload_n 0, 1) := by decide +kernel
theorem dX12_variable_6 : decode cX12_variable 6 = .ok (.getfield 309, 3) := by decide +kernel
theorem dX12_variable_9 : decode cX12_variable 9 = .ok (.if_icmp .ge 25, 3) := by decide +kernel
theorem dX12_variable_12 : decode cX12_variable 12 = .ok (.aload_n 0, 1) := by decide +kernel
theorem dX12_variable_13 : decode cX12_variable 13 = .ok (.getfield 91, 3) := by decide +kernel
theorem dX12_variable_16 : decode cX12_variable 16 = .ok (.iload_n 3, 1) := by decide +kernel
theorem dX12_variable_17 : decode cX12_variable 17 = .ok (.iaload, 1) := by decide +kernel
theorem dX12_variable_18 : decode cX12_variable 18 = .ok (.iload_n 1, 1) := by decide +kernel
theorem dX12_variable_19 : decode cX12_variable 19 = .ok (.if_icmp .ne 7, 3) := by decide +kernel
theorem dX12_variable_22 : decode cX12_variable 22 = .ok (.iload_n 3, 1) := by decide +kernel
theorem dX12_variable_23 : decode cX12_variable 23 = .ok (.goto 4, 3) := by decide +kernel
theorem dX12_variable_26 : decode cX12_variable 26 = .ok (.iload_n 2, 1) := by decide +kernel
theorem dX12_variable_27 : decode cX12_variable 27 = .ok (.istore_n 2, 1) := by decide +kernel
theorem dX12_variable_28 : decode cX12_variable 28 = .ok (.iinc 3 1, 3) := by decide +kernel
theorem dX12_variable_31 : decode cX12_variable 31 = .ok (.goto (-27), 3) := by decide +kernel
theorem dX12_variable_34 : decode cX12_variable 34 = .ok (.iload_n 2, 1) := by decide +kernel
theorem dX12_variable_35 : decode cX12_variable 35 = .ok (.ireturn, 1) := by decide +kernel
theorem dX12_areRules_0 : decode cX12_areRules 0 = .ok (.aload_n 0, 1) := by decide +kernel
theorem dX12_areRules_1 : decode cX12_areRules 1 = .ok (.getfield 32, 3) := by decide +kernel
theorem dX12_areRules_4 : decode cX12_areRules 4 = .ok (.iload_n 1, 1) := by decide +kernel
theorem dX12_areRules_5 : decode cX12_areRules 5 = .ok (.baload, 1) := by decide +kernel
theorem dX12_areRules_6 : decode cX12_areRules 6 = .ok (.iconst 2, 1) := by decide +kernel
theorem dX12_areRules_7 : decode cX12_areRules 7 = .ok (.if_icmp .ne 28, 3) := by decide +kernel
theorem dX12_areRules_10 : decode cX12_areRules 10 = .ok (.aload_n 0, 1) := by decide +kernel
theorem dX12_areRules_11 : decode cX12_areRules 11 = .ok (.getfield 38, 3) := by decide +kernel
theorem dX12_areRules_14 : decode cX12_areRules 14 = .ok (.iload_n 1, 1) := by decide +kernel
theorem dX12_areRules_15 : decode cX12_areRules 15 = .ok (.iaload, 1) := by decide +kernel
theorem dX12_areRules_16 : decode cX12_areRules 16 = .ok (.iconst 2, 1) := by decide +kernel
theorem dX12_areRules_17 : decode cX12_areRules 17 = .ok (.if_icmp .le 18, 3) := by decide +kernel
theorem dX12_areRules_20 : decode cX12_areRules 20 = .ok (.aload_n 0, 1) := by decide +kernel
theorem dX12_areRules_21 : decode cX12_areRules 21 = .ok (.getfield 38, 3) := by decide +kernel
theorem dX12_areRules_24 : decode cX12_areRules 24 = .ok (.iload_n 1, 1) := by decide +kernel
theorem dX12_areRules_25 : decode cX12_areRules 25 = .ok (.iaload, 1) := by decide +kernel
theorem dX12_areRules_26 : decode cX12_areRules 26 = .ok (.bipush 10, 2) := by decide +kernel
theorem dX12_areRules_28 : decode cX12_areRules 28 = .ok (.if_icmp .gt 7, 3) := by decide +kernel
theorem dX12_areRules_31 : decode cX12_areRules 31 = .ok (.iconst 1, 1) := by decide +kernel
theorem dX12_areRules_32 : decode cX12_areRules 32 = .ok (.goto 4, 3) := by decide +kernel
theorem dX12_areRules_35 : decode cX12_areRules 35 = .ok (.iconst 0, 1) := by decide +kernel
theorem dX12_areRules_36 : decode cX12_areRules 36 = .ok (.istore_n 3, 1) := by decide +kernel
theorem dX12_areRules_37 : decode cX12_areRules 37 = .ok (.iload_n 3, 1) := by decide +kernel
theorem dX12_areRules_38 : decode cX12_areRules 38 = .ok (.ifCond .eq 72, 3) := by decide +kernel
theorem dX12_areRules_41 : decode cX12_areRules 41 = .ok (.aload_n 0, 1) := by decide +kernel
theorem dX12_areRules_42 : decode cX12_areRules 42 = .ok (.aload_n 0, 1) := by decide +kernel
theorem dX12_areRules_43 : decode cX12_areRules 43 = .ok (.iload_n 1, 1) := by decide +kernel
theorem dX12_areRules_44 : decode cX12_areRules 44 = .ok (.iconst 0, 1) := by decide +kernel
theorem dX12_areRules_45 : decode cX12_areRules 45 = .ok (.invokevirtual 192, 3) := by decide +kernel
theorem dX12_areRules_48 : decode cX12_areRules 48 = .ok (.invokevirtual 180, 3) := by decide +kernel
theorem dX12_areRules_51 : decode cX12_areRules 51 = .ok (.ifCond .eq 59, 3) := by decide +kernel
theorem dX12_areRules_54 : decode cX12_areRules 54 = .ok (.aload_n 0, 1) := by decide +kernel
theorem dX12_areRules_55 : decode cX12_areRules 55 = .ok (.aload_n 0, 1) := by decide +kernel
theorem dX12_areRules_56 : decode cX12_areRules 56 = .ok (.getfield 35, 3) := by decide +kernel
theorem dX12_areRules_59 : decode cX12_areRules 59 = .ok (.aload_n 0, 1) := by decide +kernel
theorem dX12_areRules_60 : decode cX12_areRules 60 = .ok (.iload_n 1, 1) := by decide +kernel
theorem dX12_areRules_61 : decode cX12_areRules 61 = .ok (.iconst 0, 1) := by decide +kernel
theorem dX12_areRules_62 : decode cX12_areRules 62 = .ok (.invokevirtual 192, 3) := by decide +kernel
theorem dX12_areRules_65 : decode cX12_areRules 65 = .ok (.iaload, 1) := by decide +kernel
theorem dX12_areRules_66 : decode cX12_areRules 66 = .ok (.iload_n 2, 1) := by decide +kernel
theorem dX12_areRules_67 : decode cX12_areRules 67 = .ok (.invokevirtual 252, 3) := by decide +kernel
theorem dX12_areRules_70 : decode cX12_areRules 70 = .ok (.bipush (-5), 2) := by decide +kernel
theorem dX12_areRules_72 : decode cX12_areRules 72 = .ok (.if_icmp .ne 38, 3) := by decide +kernel
theorem dX12_areRules_75 : decode cX12_areRules 75 = .ok (.aload_n 0, 1) := by decide +kernel
theorem dX12_areRules_76 : decode cX12_areRules 76 = .ok (.getfield 32, 3) := by decide +kernel
theorem dX12_areRules_79 : decode cX12_areRules 79 = .ok (.aload_n 0, 1) := by decide +kernel
theorem dX12_areRules_80 : decode cX12_areRules 80 = .ok (.iload_n 1, 1) := by decide +kernel
theorem dX12_areRules_81 : decode cX12_areRules 81 = .ok (.iconst 1, 1) := by decide +kernel
theorem dX12_areRules_82 : decode cX12_areRules 82 = .ok (.invokevirtual 192, 3) := by decide +kernel
theorem dX12_areRules_85 : decode cX12_areRules 85 = .ok (.baload, 1) := by decide +kernel
theorem dX12_areRules_86 : decode cX12_areRules 86 = .ok (.iconst 2, 1) := by decide +kernel
theorem dX12_areRules_87 : decode cX12_areRules 87 = .ok (.if_icmp .ne 23, 3) := by decide +kernel
theorem dX12_areRules_90 : decode cX12_areRules 90 = .ok (.aload_n 0, 1) := by decide +kernel
theorem dX12_areRules_91 : decode cX12_areRules 91 = .ok (.getfield 38, 3) := by decide +kernel
theorem dX12_areRules_94 : decode cX12_areRules 94 = .ok (.aload_n 0, 1) := by decide +kernel
theorem dX12_areRules_95 : decode cX12_areRules 95 = .ok (.iload_n 1, 1) := by decide +kernel
theorem dX12_areRules_96 : decode cX12_areRules 96 = .ok (.iconst 1, 1) := by decide +kernel
theorem dX12_areRules_97 : decode cX12_areRules 97 = .ok (.invokevirtual 192, 3) := by decide +kernel
theorem dX12_areRules_100 : decode cX12_areRules 100 = .ok (.iaload, 1) := by decide +kernel
theorem dX12_areRules_101 : decode cX12_areRules 101 = .ok (.bipush 6, 2) := by decide +kernel
theorem dX12_areRules_103 : decode cX12_areRules 103 = .ok (.if_icmp .gt 7, 3) := by decide +kernel
theorem dX12_areRules_106 : decode cX12_areRules 106 = .ok (.iconst 1, 1) := by decide +kernel
theorem dX12_areRules_107 : decode cX12_areRules 107 = .ok (.goto 4, 3) := by decide +kernel
theorem dX12_areRules_110 : decode cX12_areRules 110 = .ok (.iconst 0, 1) := by decide +kernel
theorem dX12_areRules_111 : decode cX12_areRules 111 = .ok (.istore_n 3, 1) := by decide +kernel
theorem dX12_areRules_112 : decode cX12_areRules 112 = .ok (.iconst 0, 1) := by decide +kernel
theorem dX12_areRules_113 : decode cX12_areRules 113 = .ok (.istore 4, 2) := by decide +kernel
theorem dX12_areRules_115 : decode cX12_areRules 115 = .ok (.iload_n 3, 1) := by decide +kernel
theorem dX12_areRules_116 : decode cX12_areRules 116 = .ok (.ifCond .eq 42, 3) := by decide +kernel
theorem dX12_areRules_119 : decode cX12_areRules 119 = .ok (.iload 4, 2) := by decide +kernel
theorem dX12_areRules_121 : decode cX12_areRules 121 = .ok (.aload_n 0, 1) := by decide +kernel
theorem dX12_areRules_122 : decode cX12_areRules 122 = .ok (.getfield 38, 3) := by decide +kernel
theorem dX12_areRules_125 : decode cX12_areRules 125 = .ok (.aload_n 0, 1) := by decide +kernel
theorem dX12_areRules_126 : decode cX12_areRules 126 = .ok (.iload_n 1, 1) := by decide +kernel
theorem dX12_areRules_127 : decode cX12_areRules 127 = .ok (.iconst 1, 1) := by decide +kernel
theorem dX12_areRules_128 : decode cX12_areRules 128 = .ok (.invokevirtual 192, 3) := by decide +kernel
theorem dX12_areRules_131 : decode cX12_areRules 131 = .ok (.iaload, 1) := by decide +kernel
theorem dX12_areRules_132 : decode cX12_areRules 132 = .ok (.if_icmp .ge 26, 3) := by decide +kernel
theorem dX12_areRules_135 : decode cX12_areRules 135 = .ok (.aload_n 0, 1) := by decide +kernel
theorem dX12_areRules_136 : decode cX12_areRules 136 = .ok (.aload_n 0, 1) := by decide +kernel
theorem dX12_areRules_137 : decode cX12_areRules 137 = .ok (.aload_n 0, 1) := by decide +kernel
theorem dX12_areRules_138 : decode cX12_areRules 138 = .ok (.iload_n 1, 1) := by decide +kernel
theorem dX12_areRules_139 : decode cX12_areRules 139 = .ok (.iconst 1, 1) := by decide +kernel
theorem dX12_areRules_140 : decode cX12_areRules 140 = .ok (.invokevirtual 192, 3) := by decide +kernel
theorem dX12_areRules_143 : decode cX12_areRules 143 = .ok (.iload 4, 2) := by decide +kernel
theorem dX12_areRules_145 : decode cX12_areRules 145 = .ok (.invokevirtual 192, 3) := by decide +kernel
theorem dX12_areRules_148 : decode cX12_areRules 148 = .ok (.invokevirtual 291, 3) := by decide +kernel
theorem dX12_areRules_151 : decode cX12_areRules 151 = .ok (.istore_n 3, 1) := by decide +kernel
theorem dX12_areRules_152 : decode cX12_areRules 152 = .ok (.iinc 4 1, 3) := by decide +kernel
theorem dX12_areRules_155 : decode cX12_areRules 155 = .ok (.goto (-40), 3) := by decide +kernel
theorem dX12_areRules_158 : decode cX12_areRules 158 = .ok (.iconst 2, 1) := by decide +kernel
theorem dX12_areRules_159 : decode cX12_areRules 159 = .ok (.istore 4, 2) := by decide +kernel
theorem dX12_areRules_161 : decode cX12_areRules 161 = .ok (.iload_n 3, 1) := by decide +kernel
theorem dX12_areRules_162 : decode cX12_areRules 162 = .ok (.ifCond .eq 115, 3) := by decide +kernel
theorem dX12_areRules_165 : decode cX12_areRules 165 = .ok (.iload 4, 2) := by decide +kernel
theorem dX12_areRules_167 : decode cX12_areRules 167 = .ok (.aload_n 0, 1) := by decide +kernel
theorem dX12_areRules_168 : decode cX12_areRules 168 = .ok (.getfield 38, 3) := by decide +kernel
theorem dX12_areRules_171 : decode cX12_areRules 171 = .ok (.iload_n 1, 1) := by decide +kernel
theorem dX12_areRules_172 : decode cX12_areRules 172 = .ok (.iaload, 1) := by decide +kernel
theorem dX12_areRules_173 : decode cX12_areRules 173 = .ok (.if_icmp .ge 104, 3) := by decide +kernel
theorem dX12_areRules_176 : decode cX12_areRules 176 = .ok (.aload_n 0, 1) := by decide +kernel
theorem dX12_areRules_177 : decode cX12_areRules 177 = .ok (.iload_n 1, 1) := by decide +kernel
theorem dX12_areRules_178 : decode cX12_areRules 178 = .ok (.iload 4, 2) := by decide +kernel
theorem dX12_areRules_180 : decode cX12_areRules 180 = .ok (.invokevirtual 192, 3) := by decide +kernel
theorem dX12_areRules_183 : decode cX12_areRules 183 = .ok (.istore 5, 2) := by decide +kernel
theorem dX12_areRules_185 : decode cX12_areRules 185 = .ok (.aload_n 0, 1) := by decide +kernel
theorem dX12_areRules_186 : decode cX12_areRules 186 = .ok (.iload 5, 2) := by decide +kernel
theorem dX12_areRules_188 : decode cX12_areRules 188 = .ok (.iconst 2, 1) := by decide +kernel
theorem dX12_areRules_189 : decode cX12_areRules 189 = .ok (.invokevirtual 276, 3) := by decide +kernel
theorem dX12_areRules_192 : decode cX12_areRules 192 = .ok (.ifCond .eq 38, 3) := by decide +kernel
theorem dX12_areRules_195 : decode cX12_areRules 195 = .ok (.aload_n 0, 1) := by decide +kernel
theorem dX12_areRules_196 : decode cX12_areRules 196 = .ok (.getfield 32, 3) := by decide +kernel
theorem dX12_areRules_199 : decode cX12_areRules 199 = .ok (.aload_n 0, 1) := by decide +kernel
theorem dX12_areRules_200 : decode cX12_areRules 200 = .ok (.iload 5, 2) := by decide +kernel
theorem dX12_areRules_202 : decode cX12_areRules 202 = .ok (.iconst 0, 1) := by decide +kernel
theorem dX12_areRules_203 : decode cX12_areRules 203 = .ok (.invokevirtual 192, 3) := by decide +kernel
theorem dX12_areRules_206 : decode cX12_areRules 206 = .ok (.baload, 1) := by decide +kernel
theorem dX12_areRules_207 : decode cX12_areRules 207 = .ok (.iconst 2, 1) := by decide +kernel
theorem dX12_areRules_208 : decode cX12_areRules 208 = .ok (.if_icmp .ne 22, 3) := by decide +kernel
theorem dX12_areRules_211 : decode cX12_areRules 211 = .ok (.aload_n 0, 1) := by decide +kernel
theorem dX12_areRules_212 : decode cX12_areRules 212 = .ok (.getfield 38, 3) := by decide +kernel
theorem dX12_areRules_215 : decode cX12_areRules 215 = .ok (.aload_n 0, 1) := by decide +kernel
theorem dX12_areRules_216 : decode cX12_areRules 216 = .ok (.iload 5, 2) := by decide +kernel
theorem dX12_areRules_218 : decode cX12_areRules 218 = .ok (.iconst 0, 1) := by decide +kernel
theorem dX12_areRules_219 : decode cX12_areRules 219 = .ok (.invokevirtual 192, 3) := by decide +kernel
theorem dX12_areRules_222 : decode cX12_areRules 222 = .ok (.iaload, 1) := by decide +kernel
theorem dX12_areRules_223 : decode cX12_areRules 223 = .ok (.ifCond .le 7, 3) := by decide +kernel
theorem dX12_areRules_226 : decode cX12_areRules 226 = .ok (.iconst 1, 1) := by decide +kernel
theorem dX12_areRules_227 : decode cX12_areRules 227 = .ok (.goto 4, 3) := by decide +kernel
theorem dX12_areRules_230 : decode cX12_areRules 230 = .ok (.iconst 0, 1) := by decide +kernel
theorem dX12_areRules_231 : decode cX12_areRules 231 = .ok (.istore_n 3, 1) := by decide +kernel
theorem dX12_areRules_232 : decode cX12_areRules 232 = .ok (.iload_n 3, 1) := by decide +kernel
theorem dX12_areRules_233 : decode cX12_areRules 233 = .ok (.ifCond .eq 36, 3) := by decide +kernel
theorem dX12_areRules_236 : decode cX12_areRules 236 = .ok (.aload_n 0, 1) := by decide +kernel
theorem dX12_areRules_237 : decode cX12_areRules 237 = .ok (.iload_n 1, 1) := by decide +kernel
theorem dX12_areRules_238 : decode cX12_areRules 238 = .ok (.aload_n 0, 1) := by decide +kernel
theorem dX12_areRules_239 : decode cX12_areRules 239 = .ok (.iload 5, 2) := by decide +kernel
theorem dX12_areRules_241 : decode cX12_areRules 241 = .ok (.iconst 0, 1) := by decide +kernel
theorem dX12_areRules_242 : decode cX12_areRules 242 = .ok (.invokevirtual 192, 3) := by decide +kernel
theorem dX12_areRules_245 : decode cX12_areRules 245 = .ok (.invokevirtual 312, 3) := by decide +kernel
theorem dX12_areRules_248 : decode cX12_areRules 248 = .ok (.ifCond .eq 21, 3) := by decide +kernel
theorem dX12_areRules_251 : decode cX12_areRules 251 = .ok (.aload_n 0, 1) := by decide +kernel
theorem dX12_areRules_252 : decode cX12_areRules 252 = .ok (.aload_n 0, 1) := by decide +kernel
theorem dX12_areRules_253 : decode cX12_areRules 253 = .ok (.iload 5, 2) := by decide +kernel
theorem dX12_areRules_255 : decode cX12_areRules 255 = .ok (.iconst 1, 1) := by decide +kernel
theorem dX12_areRules_256 : decode cX12_areRules 256 = .ok (.invokevirtual 192, 3) := by decide +kernel
theorem dX12_areRules_259 : decode cX12_areRules 259 = .ok (.invokevirtual 315, 3) := by decide +kernel
theorem dX12_areRules_262 : decode cX12_areRules 262 = .ok (.ifCond .eq 7, 3) := by decide +kernel
theorem dX12_areRules_265 : decode cX12_areRules 265 = .ok (.iconst 1, 1) := by decide +kernel
theorem dX12_areRules_266 : decode cX12_areRules 266 = .ok (.goto 4, 3) := by decide +kernel
theorem dX12_areRules_269 : decode cX12_areRules 269 = .ok (.iconst 0, 1) := by decide +kernel
theorem dX12_areRules_270 : decode cX12_areRules 270 = .ok (.istore_n 3, 1) := by decide +kernel
theorem dX12_areRules_271 : decode cX12_areRules 271 = .ok (.iinc 4 1, 3) := by decide +kernel
theorem dX12_areRules_274 : decode cX12_areRules 274 = .ok (.goto (-113), 3) := by decide +kernel
theorem dX12_areRules_277 : decode cX12_areRules 277 = .ok (.iload_n 3, 1) := by decide +kernel
theorem dX12_areRules_278 : decode cX12_areRules 278 = .ok (.ireturn, 1) := by decide +kernel
theorem dX12_isPattern_0 : decode cX12_isPattern 0 = .ok (.aload_n 0, 1) := by decide +kernel
theorem dX12_isPattern_1 : decode cX12_isPattern 1 = .ok (.iconst 0, 1) := by decide +kernel
theorem dX12_isPattern_2 : decode cX12_isPattern 2 = .ok (.putfield 309, 3) := by decide +kernel
theorem dX12_isPattern_5 : decode cX12_isPattern 5 = .ok (.aload_n 0, 1) := by decide +kernel
theorem dX12_isPattern_6 : decode cX12_isPattern 6 = .ok (.iconst 0, 1) := by decide +kernel
theorem dX12_isPattern_7 : decode cX12_isPattern 7 = .ok (.putfield 306, 3) := by decide +kernel
theorem dX12_isPattern_10 : decode cX12_isPattern 10 = .ok (.aload_n 0, 1) := by decide +kernel
theorem dX12_isPattern_11 : decode cX12_isPattern 11 = .ok (.iload_n 2, 1) := by decide +kernel
theorem dX12_isPattern_12 : decode cX12_isPattern 12 = .ok (.iconst 0, 1) := by decide +kernel
theorem dX12_isPattern_13 : decode cX12_isPattern 13 = .ok (.iconst 1, 1) := by decide +kernel
theorem dX12_isPattern_14 : decode cX12_isPattern 14 = .ok (.invokevirtual 318, 3) := by decide +kernel
theorem dX12_isPattern_17 : decode cX12_isPattern 17 = .ok (.iconst 1, 1) := by decide +kernel
theorem dX12_isPattern_18 : decode cX12_isPattern 18 = .ok (.istore_n 3, 1) := by decide +kernel
theorem dX12_isPattern_19 : decode cX12_isPattern 19 = .ok (.iconst 0, 1) := by decide +kernel
theorem dX12_isPattern_20 : decode cX12_isPattern 20 = .ok (.istore 4, 2) := by decide +kernel
theorem dX12_isPattern_22 : decode cX12_isPattern 22 = .ok (.iload 4, 2) := by decide +kernel
theorem dX12_isPattern_24 : decode cX12_isPattern 24 = .ok (.aload_n 0, 1) := by decide +kernel
theorem dX12_isPattern_25 : decode cX12_isPattern 25 = .ok (.getfield 306, 3) := by decide +kernel
theorem dX12_isPattern_28 : decode cX12_isPattern 28 = .ok (.if_icmp .ge 268, 3) := by decide +kernel
theorem dX12_isPattern_31 : decode cX12_isPattern 31 = .ok (.iload_n 3, 1) := by decide +kernel
theorem dX12_isPattern_32 : decode cX12_isPattern 32 = .ok (.ifCond .eq 264, 3) := by decide +kernel
theorem dX12_isPattern_35 : decode cX12_isPattern 35 = .ok (.aload_n 0, 1) := by decide +kernel
theorem dX12_isPattern_36 : decode cX12_isPattern 36 = .ok (.getfield 98, 3) := by decide +kernel
theorem dX12_isPattern_39 : decode cX12_isPattern 39 = .ok (.iload 4, 2) := by decide +kernel
theorem dX12_isPattern_41 : decode cX12_isPattern 41 = .ok (.iaload, 1) := by decide +kernel
theorem dX12_isPattern_42 : decode cX12_isPattern 42 = .ok (.istore 5, 2) := by decide +kernel
theorem dX12_isPattern_44 : decode cX12_isPattern 44 = .ok (.aload_n 0, 1) := by decide +kernel
theorem dX12_isPattern_45 : decode cX12_isPattern 45 = .ok (.getfield 104, 3) := by decide +kernel
theorem dX12_isPattern_48 : decode cX12_isPattern 48 = .ok (.iload 4, 2) := by decide +kernel
theorem dX12_isPattern_50 : decode cX12_isPattern 50 = .ok (.iaload, 1) := by decide +kernel
theorem dX12_isPattern_51 : decode cX12_isPattern 51 = .ok (.istore 6, 2) := by decide +kernel
theorem dX12_isPattern_53 : decode cX12_isPattern 53 = .ok (.aload_n 0, 1) := by decide +kernel
theorem dX12_isPattern_54 : decode cX12_isPattern 54 = .ok (.getfield 101, 3) := by decide +kernel
theorem dX12_isPattern_57 : decode cX12_isPattern 57 = .ok (.iload 4, 2) := by decide +kernel
theorem dX12_isPattern_59 : decode cX12_isPattern 59 = .ok (.iaload, 1) := by decide +kernel
theorem dX12_isPattern_60 : decode cX12_isPattern 60 = .ok (.iconst 1, 1) := by decide +kernel
theorem dX12_isPattern_61 : decode cX12_isPattern 61 = .ok (.if_icmp .ne 7, 3) := by decide +kernel
theorem dX12_isPattern_64 : decode cX12_isPattern 64 = .ok (.iconst 1, 1) := by decide +kernel
theorem dX12_isPattern_65 : decode cX12_isPattern 65 = .ok (.goto 4, 3) := by decide +kernel
theorem dX12_isPattern_68 : decode cX12_isPattern 68 = .ok (.iconst 0, 1) := by decide +kernel
theorem dX12_isPattern_69 : decode cX12_isPattern 69 = .ok (.istore 7, 2) := by decide +kernel
theorem dX12_isPattern_71 : decode cX12_isPattern 71 = .ok (.iload 6, 2) := by decide +kernel
theorem dX12_isPattern_73 : decode cX12_isPattern 73 = .ok (.istore 8, 2) := by decide +kernel
theorem dX12_isPattern_75 : decode cX12_isPattern 75 = .ok (.iload 8, 2) := by decide +kernel
theorem dX12_isPattern_77 : decode cX12_isPattern 77 = .ok (.aload_n 0, 1) := by decide +kernel
theorem dX12_isPattern_78 : decode cX12_isPattern 78 = .ok (.getfield 38, 3) := by decide +kernel
theorem dX12_isPattern_81 : decode cX12_isPattern 81 = .ok (.iload 5, 2) := by decide +kernel
theorem dX12_isPattern_83 : decode cX12_isPattern 83 = .ok (.iaload, 1) := by decide +kernel
theorem dX12_isPattern_84 : decode cX12_isPattern 84 = .ok (.if_icmp .ge 206, 3) := by decide +kernel
theorem dX12_isPattern_87 : decode cX12_isPattern 87 = .ok (.iload_n 3, 1) := by decide +kernel
theorem dX12_isPattern_88 : decode cX12_isPattern 88 = .ok (.ifCond .eq 202, 3) := by decide +kernel
theorem dX12_isPattern_91 : decode cX12_isPattern 91 = .ok (.aload_n 0, 1) := by decide +kernel
theorem dX12_isPattern_92 : decode cX12_isPattern 92 = .ok (.iload 5, 2) := by decide +kernel
theorem dX12_isPattern_94 : decode cX12_isPattern 94 = .ok (.iload 8, 2) := by decide +kernel
theorem dX12_isPattern_96 : decode cX12_isPattern 96 = .ok (.invokevirtual 192, 3) := by decide +kernel
theorem dX12_isPattern_99 : decode cX12_isPattern 99 = .ok (.istore 9, 2) := by decide +kernel
theorem dX12_isPattern_101 : decode cX12_isPattern 101 = .ok (.iload 7, 2) := by decide +kernel
theorem dX12_isPattern_103 : decode cX12_isPattern 103 = .ok (.ifCond .ne 16, 3) := by decide +kernel
theorem dX12_isPattern_106 : decode cX12_isPattern 106 = .ok (.aload_n 0, 1) := by decide +kernel
theorem dX12_isPattern_107 : decode cX12_isPattern 107 = .ok (.iload 5, 2) := by decide +kernel
theorem dX12_isPattern_109 : decode cX12_isPattern 109 = .ok (.iload 8, 2) := by decide +kernel
theorem dX12_isPattern_111 : decode cX12_isPattern 111 = .ok (.iconst 1, 1) := by decide +kernel
theorem dX12_isPattern_112 : decode cX12_isPattern 112 = .ok (.iadd, 1) := by decide +kernel
theorem dX12_isPattern_113 : decode cX12_isPattern 113 = .ok (.invokevirtual 321, 3) := by decide +kernel
theorem dX12_isPattern_116 : decode cX12_isPattern 116 = .ok (.ifCond .eq 7, 3) := by decide +kernel
theorem dX12_isPattern_119 : decode cX12_isPattern 119 = .ok (.iconst 1, 1) := by decide +kernel
theorem dX12_isPattern_120 : decode cX12_isPattern 120 = .ok (.goto 4, 3) := by decide +kernel
theorem dX12_isPattern_123 : decode cX12_isPattern 123 = .ok (.iconst 0, 1) := by decide +kernel
theorem dX12_isPattern_124 : decode cX12_isPattern 124 = .ok (.istore 10, 2) := by decide +kernel
theorem dX12_isPattern_126 : decode cX12_isPattern 126 = .ok (.aload_n 0, 1) := by decide +kernel
theorem dX12_isPattern_127 : decode cX12_isPattern 127 = .ok (.iload 5, 2) := by decide +kernel
theorem dX12_isPattern_129 : decode cX12_isPattern 129 = .ok (.iload 8, 2) := by decide +kernel
theorem dX12_isPattern_131 : decode cX12_isPattern 131 = .ok (.invokevirtual 321, 3) := by decide +kernel
theorem dX12_isPattern_134 : decode cX12_isPattern 134 = .ok (.ifCond .eq 38, 3) := by decide +kernel
theorem dX12_isPattern_137 : decode cX12_isPattern 137 = .ok (.iload 8, 2) := by decide +kernel
theorem dX12_isPattern_139 : decode cX12_isPattern 139 = .ok (.aload_n 0, 1) := by decide +kernel
theorem dX12_isPattern_140 : decode cX12_isPattern 140 = .ok (.getfield 38, 3) := by decide +kernel
theorem dX12_isPattern_143 : decode cX12_isPattern 143 = .ok (.iload 5, 2) := by decide +kernel
theorem dX12_isPattern_145 : decode cX12_isPattern 145 = .ok (.iaload, 1) := by decide +kernel
theorem dX12_isPattern_146 : decode cX12_isPattern 146 = .ok (.iconst 1, 1) := by decide +kernel
theorem dX12_isPattern_147 : decode cX12_isPattern 147 = .ok (.isub, 1) := by decide +kernel
theorem dX12_isPattern_148 : decode cX12_isPattern 148 = .ok (.if_icmp .ne 19, 3) := by decide +kernel
theorem dX12_isPattern_151 : decode cX12_isPattern 151 = .ok (.iload 8, 2) := by decide +kernel
theorem dX12_isPattern_153 : decode cX12_isPattern 153 = .ok (.iload 6, 2) := by decide +kernel
theorem dX12_isPattern_155 : decode cX12_isPattern 155 = .ok (.if_icmp .le 12, 3) := by decide +kernel
theorem dX12_isPattern_158 : decode cX12_isPattern 158 = .ok (.iload 7, 2) := by decide +kernel
theorem dX12_isPattern_160 : decode cX12_isPattern 160 = .ok (.ifCond .ne 7, 3) := by decide +kernel
theorem dX12_isPattern_163 : decode cX12_isPattern 163 = .ok (.iconst 1, 1) := by decide +kernel
theorem dX12_isPattern_164 : decode cX12_isPattern 164 = .ok (.goto 4, 3) := by decide +kernel
