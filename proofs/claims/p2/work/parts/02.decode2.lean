theorem dX12_isPattern_167 : decode cX12_isPattern 167 = .ok (.iconst 0, 1) := by decide +kernel
theorem dX12_isPattern_168 : decode cX12_isPattern 168 = .ok (.istore_n 3, 1) := by decide +kernel
theorem dX12_isPattern_169 : decode cX12_isPattern 169 = .ok (.goto 115, 3) := by decide +kernel
theorem dX12_isPattern_172 : decode cX12_isPattern 172 = .ok (.aload_n 0, 1) := by decide +kernel
theorem dX12_isPattern_173 : decode cX12_isPattern 173 = .ok (.getfield 32, 3) := by decide +kernel
theorem dX12_isPattern_176 : decode cX12_isPattern 176 = .ok (.iload 9, 2) := by decide +kernel
theorem dX12_isPattern_178 : decode cX12_isPattern 178 = .ok (.baload, 1) := by decide +kernel
theorem dX12_isPattern_179 : decode cX12_isPattern 179 = .ok (.iconst 2, 1) := by decide +kernel
theorem dX12_isPattern_180 : decode cX12_isPattern 180 = .ok (.if_icmp .ne 23, 3) := by decide +kernel
theorem dX12_isPattern_183 : decode cX12_isPattern 183 = .ok (.aload_n 0, 1) := by decide +kernel
theorem dX12_isPattern_184 : decode cX12_isPattern 184 = .ok (.iload 9, 2) := by decide +kernel
theorem dX12_isPattern_186 : decode cX12_isPattern 186 = .ok (.iload 10, 2) := by decide +kernel
theorem dX12_isPattern_188 : decode cX12_isPattern 188 = .ok (.ifCond .eq 7, 3) := by decide +kernel
theorem dX12_isPattern_191 : decode cX12_isPattern 191 = .ok (.iconst 1, 1) := by decide +kernel
theorem dX12_isPattern_192 : decode cX12_isPattern 192 = .ok (.goto 4, 3) := by decide +kernel
theorem dX12_isPattern_195 : decode cX12_isPattern 195 = .ok (.iconst 0, 1) := by decide +kernel
theorem dX12_isPattern_196 : decode cX12_isPattern 196 = .ok (.iconst 0, 1) := by decide +kernel
theorem dX12_isPattern_197 : decode cX12_isPattern 197 = .ok (.invokevirtual 318, 3) := by decide +kernel
theorem dX12_isPattern_200 : decode cX12_isPattern 200 = .ok (.goto 84, 3) := by decide +kernel
theorem dX12_isPattern_203 : decode cX12_isPattern 203 = .ok (.aload_n 0, 1) := by decide +kernel
theorem dX12_isPattern_204 : decode cX12_isPattern 204 = .ok (.iload 9, 2) := by decide +kernel
theorem dX12_isPattern_206 : decode cX12_isPattern 206 = .ok (.invokevirtual 291, 3) := by decide +kernel
theorem dX12_isPattern_209 : decode cX12_isPattern 209 = .ok (.ifCond .eq 75, 3) := by decide +kernel
theorem dX12_isPattern_212 : decode cX12_isPattern 212 = .ok (.aload_n 0, 1) := by decide +kernel
theorem dX12_isPattern_213 : decode cX12_isPattern 213 = .ok (.iload_n 1, 1) := by decide +kernel
theorem dX12_isPattern_214 : decode cX12_isPattern 214 = .ok (.aload_n 0, 1) := by decide +kernel
theorem dX12_isPattern_215 : decode cX12_isPattern 215 = .ok (.getfield 35, 3) := by decide +kernel
theorem dX12_isPattern_218 : decode cX12_isPattern 218 = .ok (.iload 9, 2) := by decide +kernel
theorem dX12_isPattern_220 : decode cX12_isPattern 220 = .ok (.iaload, 1) := by decide +kernel
theorem dX12_isPattern_221 : decode cX12_isPattern 221 = .ok (.invokevirtual 324, 3) := by decide +kernel
theorem dX12_isPattern_224 : decode cX12_isPattern 224 = .ok (.ifCond .ne 60, 3) := by decide +kernel
theorem dX12_isPattern_227 : decode cX12_isPattern 227 = .ok (.aload_n 0, 1) := by decide +kernel
theorem dX12_isPattern_228 : decode cX12_isPattern 228 = .ok (.aload_n 0, 1) := by decide +kernel
theorem dX12_isPattern_229 : decode cX12_isPattern 229 = .ok (.getfield 35, 3) := by decide +kernel
theorem dX12_isPattern_232 : decode cX12_isPattern 232 = .ok (.iload 9, 2) := by decide +kernel
theorem dX12_isPattern_234 : decode cX12_isPattern 234 = .ok (.iaload, 1) := by decide +kernel
theorem dX12_isPattern_235 : decode cX12_isPattern 235 = .ok (.invokevirtual 327, 3) := by decide +kernel
theorem dX12_isPattern_238 : decode cX12_isPattern 238 = .ok (.ifCond .ge 7, 3) := by decide +kernel
theorem dX12_isPattern_241 : decode cX12_isPattern 241 = .ok (.iconst 1, 1) := by decide +kernel
theorem dX12_isPattern_242 : decode cX12_isPattern 242 = .ok (.goto 4, 3) := by decide +kernel
theorem dX12_isPattern_245 : decode cX12_isPattern 245 = .ok (.iconst 0, 1) := by decide +kernel
theorem dX12_isPattern_246 : decode cX12_isPattern 246 = .ok (.istore_n 3, 1) := by decide +kernel
theorem dX12_isPattern_247 : decode cX12_isPattern 247 = .ok (.aload_n 0, 1) := by decide +kernel
theorem dX12_isPattern_248 : decode cX12_isPattern 248 = .ok (.getfield 91, 3) := by decide +kernel
theorem dX12_isPattern_251 : decode cX12_isPattern 251 = .ok (.aload_n 0, 1) := by decide +kernel
theorem dX12_isPattern_252 : decode cX12_isPattern 252 = .ok (.getfield 309, 3) := by decide +kernel
theorem dX12_isPattern_255 : decode cX12_isPattern 255 = .ok (.aload_n 0, 1) := by decide +kernel
theorem dX12_isPattern_256 : decode cX12_isPattern 256 = .ok (.getfield 35, 3) := by decide +kernel
theorem dX12_isPattern_259 : decode cX12_isPattern 259 = .ok (.iload 9, 2) := by decide +kernel
theorem dX12_isPattern_261 : decode cX12_isPattern 261 = .ok (.iaload, 1) := by decide +kernel
theorem dX12_isPattern_262 : decode cX12_isPattern 262 = .ok (.iastore, 1) := by decide +kernel
theorem dX12_isPattern_263 : decode cX12_isPattern 263 = .ok (.aload_n 0, 1) := by decide +kernel
theorem dX12_isPattern_264 : decode cX12_isPattern 264 = .ok (.getfield 94, 3) := by decide +kernel
theorem dX12_isPattern_267 : decode cX12_isPattern 267 = .ok (.aload_n 0, 1) := by decide +kernel
theorem dX12_isPattern_268 : decode cX12_isPattern 268 = .ok (.getfield 309, 3) := by decide +kernel
theorem dX12_isPattern_271 : decode cX12_isPattern 271 = .ok (.iload 10, 2) := by decide +kernel
theorem dX12_isPattern_273 : decode cX12_isPattern 273 = .ok (.bastore, 1) := by decide +kernel
theorem dX12_isPattern_274 : decode cX12_isPattern 274 = .ok (.aload_n 0, 1) := by decide +kernel
theorem dX12_isPattern_275 : decode cX12_isPattern 275 = .ok (.dup, 1) := by decide +kernel
theorem dX12_isPattern_276 : decode cX12_isPattern 276 = .ok (.getfield 309, 3) := by decide +kernel
theorem dX12_isPattern_279 : decode cX12_isPattern 279 = .ok (.iconst 1, 1) := by decide +kernel
theorem dX12_isPattern_280 : decode cX12_isPattern 280 = .ok (.iadd, 1) := by decide +kernel
theorem dX12_isPattern_281 : decode cX12_isPattern 281 = .ok (.putfield 309, 3) := by decide +kernel
theorem dX12_isPattern_284 : decode cX12_isPattern 284 = .ok (.iinc 8 1, 3) := by decide +kernel
theorem dX12_isPattern_287 : decode cX12_isPattern 287 = .ok (.goto (-212), 3) := by decide +kernel
theorem dX12_isPattern_290 : decode cX12_isPattern 290 = .ok (.iinc 4 1, 3) := by decide +kernel
theorem dX12_isPattern_293 : decode cX12_isPattern 293 = .ok (.goto (-271), 3) := by decide +kernel
theorem dX12_isPattern_296 : decode cX12_isPattern 296 = .ok (.iload_n 3, 1) := by decide +kernel
theorem dX12_isPattern_297 : decode cX12_isPattern 297 = .ok (.ireturn, 1) := by decide +kernel
theorem dX12_isRepeated_0 : decode cX12_isRepeated 0 = .ok (.aload_n 0, 1) := by decide +kernel
theorem dX12_isRepeated_1 : decode cX12_isRepeated 1 = .ok (.iload_n 1, 1) := by decide +kernel
theorem dX12_isRepeated_2 : decode cX12_isRepeated 2 = .ok (.invokevirtual 180, 3) := by decide +kernel
theorem dX12_isRepeated_5 : decode cX12_isRepeated 5 = .ok (.ifCond .eq 16, 3) := by decide +kernel
theorem dX12_isRepeated_8 : decode cX12_isRepeated 8 = .ok (.aload_n 0, 1) := by decide +kernel
theorem dX12_isRepeated_9 : decode cX12_isRepeated 9 = .ok (.aload_n 0, 1) := by decide +kernel
theorem dX12_isRepeated_10 : decode cX12_isRepeated 10 = .ok (.getfield 35, 3) := by decide +kernel
theorem dX12_isRepeated_13 : decode cX12_isRepeated 13 = .ok (.iload_n 1, 1) := by decide +kernel
theorem dX12_isRepeated_14 : decode cX12_isRepeated 14 = .ok (.iaload, 1) := by decide +kernel
theorem dX12_isRepeated_15 : decode cX12_isRepeated 15 = .ok (.invokevirtual 327, 3) := by decide +kernel
theorem dX12_isRepeated_18 : decode cX12_isRepeated 18 = .ok (.goto 4, 3) := by decide +kernel
theorem dX12_isRepeated_21 : decode cX12_isRepeated 21 = .ok (.iconst (-1), 1) := by decide +kernel
theorem dX12_isRepeated_22 : decode cX12_isRepeated 22 = .ok (.istore_n 2, 1) := by decide +kernel
theorem dX12_isRepeated_23 : decode cX12_isRepeated 23 = .ok (.iload_n 2, 1) := by decide +kernel
theorem dX12_isRepeated_24 : decode cX12_isRepeated 24 = .ok (.ifCond .lt 16, 3) := by decide +kernel
theorem dX12_isRepeated_27 : decode cX12_isRepeated 27 = .ok (.aload_n 0, 1) := by decide +kernel
theorem dX12_isRepeated_28 : decode cX12_isRepeated 28 = .ok (.getfield 94, 3) := by decide +kernel
theorem dX12_isRepeated_31 : decode cX12_isRepeated 31 = .ok (.iload_n 2, 1) := by decide +kernel
theorem dX12_isRepeated_32 : decode cX12_isRepeated 32 = .ok (.baload, 1) := by decide +kernel
theorem dX12_isRepeated_33 : decode cX12_isRepeated 33 = .ok (.ifCond .eq 7, 3) := by decide +kernel
theorem dX12_isRepeated_36 : decode cX12_isRepeated 36 = .ok (.iconst 1, 1) := by decide +kernel
theorem dX12_isRepeated_37 : decode cX12_isRepeated 37 = .ok (.goto 4, 3) := by decide +kernel
theorem dX12_isRepeated_40 : decode cX12_isRepeated 40 = .ok (.iconst 0, 1) := by decide +kernel
theorem dX12_isRepeated_41 : decode cX12_isRepeated 41 = .ok (.ireturn, 1) := by decide +kernel
theorem dX12_hasRepeated_0 : decode cX12_hasRepeated 0 = .ok (.iconst 1, 1) := by decide +kernel
theorem dX12_hasRepeated_1 : decode cX12_hasRepeated 1 = .ok (.istore_n 2, 1) := by decide +kernel
theorem dX12_hasRepeated_2 : decode cX12_hasRepeated 2 = .ok (.aload_n 0, 1) := by decide +kernel
theorem dX12_hasRepeated_3 : decode cX12_hasRepeated 3 = .ok (.getfield 107, 3) := by decide +kernel
theorem dX12_hasRepeated_6 : decode cX12_hasRepeated 6 = .ok (.iconst 0, 1) := by decide +kernel
theorem dX12_hasRepeated_7 : decode cX12_hasRepeated 7 = .ok (.iload_n 1, 1) := by decide +kernel
theorem dX12_hasRepeated_8 : decode cX12_hasRepeated 8 = .ok (.iastore, 1) := by decide +kernel
theorem dX12_hasRepeated_9 : decode cX12_hasRepeated 9 = .ok (.iconst 0, 1) := by decide +kernel
theorem dX12_hasRepeated_10 : decode cX12_hasRepeated 10 = .ok (.istore_n 3, 1) := by decide +kernel
theorem dX12_hasRepeated_11 : decode cX12_hasRepeated 11 = .ok (.iload_n 2, 1) := by decide +kernel
theorem dX12_hasRepeated_12 : decode cX12_hasRepeated 12 = .ok (.ifCond .le 66, 3) := by decide +kernel
theorem dX12_hasRepeated_15 : decode cX12_hasRepeated 15 = .ok (.iload_n 3, 1) := by decide +kernel
theorem dX12_hasRepeated_16 : decode cX12_hasRepeated 16 = .ok (.ifCond .ne 62, 3) := by decide +kernel
theorem dX12_hasRepeated_19 : decode cX12_hasRepeated 19 = .ok (.iinc 2 (-1), 3) := by decide +kernel
theorem dX12_hasRepeated_22 : decode cX12_hasRepeated 22 = .ok (.aload_n 0, 1) := by decide +kernel
theorem dX12_hasRepeated_23 : decode cX12_hasRepeated 23 = .ok (.getfield 107, 3) := by decide +kernel
theorem dX12_hasRepeated_26 : decode cX12_hasRepeated 26 = .ok (.iload_n 2, 1) := by decide +kernel
theorem dX12_hasRepeated_27 : decode cX12_hasRepeated 27 = .ok (.iaload, 1) := by decide +kernel
theorem dX12_hasRepeated_28 : decode cX12_hasRepeated 28 = .ok (.istore 4, 2) := by decide +kernel
theorem dX12_hasRepeated_30 : decode cX12_hasRepeated 30 = .ok (.aload_n 0, 1) := by decide +kernel
theorem dX12_hasRepeated_31 : decode cX12_hasRepeated 31 = .ok (.iload 4, 2) := by decide +kernel
theorem dX12_hasRepeated_33 : decode cX12_hasRepeated 33 = .ok (.invokevirtual 330, 3) := by decide +kernel
theorem dX12_hasRepeated_36 : decode cX12_hasRepeated 36 = .ok (.istore_n 3, 1) := by decide +kernel
theorem dX12_hasRepeated_37 : decode cX12_hasRepeated 37 = .ok (.iconst 0, 1) := by decide +kernel
theorem dX12_hasRepeated_38 : decode cX12_hasRepeated 38 = .ok (.istore 5, 2) := by decide +kernel
theorem dX12_hasRepeated_40 : decode cX12_hasRepeated 40 = .ok (.iload 5, 2) := by decide +kernel
theorem dX12_hasRepeated_42 : decode cX12_hasRepeated 42 = .ok (.aload_n 0, 1) := by decide +kernel
theorem dX12_hasRepeated_43 : decode cX12_hasRepeated 43 = .ok (.getfield 38, 3) := by decide +kernel
theorem dX12_hasRepeated_46 : decode cX12_hasRepeated 46 = .ok (.iload 4, 2) := by decide +kernel
theorem dX12_hasRepeated_48 : decode cX12_hasRepeated 48 = .ok (.iaload, 1) := by decide +kernel
theorem dX12_hasRepeated_49 : decode cX12_hasRepeated 49 = .ok (.if_icmp .ge 26, 3) := by decide +kernel
theorem dX12_hasRepeated_52 : decode cX12_hasRepeated 52 = .ok (.aload_n 0, 1) := by decide +kernel
theorem dX12_hasRepeated_53 : decode cX12_hasRepeated 53 = .ok (.getfield 107, 3) := by decide +kernel
theorem dX12_hasRepeated_56 : decode cX12_hasRepeated 56 = .ok (.iload_n 2, 1) := by decide +kernel
theorem dX12_hasRepeated_57 : decode cX12_hasRepeated 57 = .ok (.aload_n 0, 1) := by decide +kernel
theorem dX12_hasRepeated_58 : decode cX12_hasRepeated 58 = .ok (.iload 4, 2) := by decide +kernel
theorem dX12_hasRepeated_60 : decode cX12_hasRepeated 60 = .ok (.iload 5, 2) := by decide +kernel
theorem dX12_hasRepeated_62 : decode cX12_hasRepeated 62 = .ok (.invokevirtual 192, 3) := by decide +kernel
theorem dX12_hasRepeated_65 : decode cX12_hasRepeated 65 = .ok (.iastore, 1) := by decide +kernel
theorem dX12_hasRepeated_66 : decode cX12_hasRepeated 66 = .ok (.iinc 2 1, 3) := by decide +kernel
theorem dX12_hasRepeated_69 : decode cX12_hasRepeated 69 = .ok (.iinc 5 1, 3) := by decide +kernel
theorem dX12_hasRepeated_72 : decode cX12_hasRepeated 72 = .ok (.goto (-32), 3) := by decide +kernel
theorem dX12_hasRepeated_75 : decode cX12_hasRepeated 75 = .ok (.goto (-64), 3) := by decide +kernel
theorem dX12_hasRepeated_78 : decode cX12_hasRepeated 78 = .ok (.iload_n 3, 1) := by decide +kernel
theorem dX12_hasRepeated_79 : decode cX12_hasRepeated 79 = .ok (.ireturn, 1) := by decide +kernel
theorem dX12_isTemplate_0 : decode cX12_isTemplate 0 = .ok (.aload_n 0, 1) := by decide +kernel
theorem dX12_isTemplate_1 : decode cX12_isTemplate 1 = .ok (.iconst 0, 1) := by decide +kernel
theorem dX12_isTemplate_2 : decode cX12_isTemplate 2 = .ok (.putfield 306, 3) := by decide +kernel
theorem dX12_isTemplate_5 : decode cX12_isTemplate 5 = .ok (.aload_n 0, 1) := by decide +kernel
theorem dX12_isTemplate_6 : decode cX12_isTemplate 6 = .ok (.iload_n 1, 1) := by decide +kernel
theorem dX12_isTemplate_7 : decode cX12_isTemplate 7 = .ok (.iconst 0, 1) := by decide +kernel
theorem dX12_isTemplate_8 : decode cX12_isTemplate 8 = .ok (.iconst 0, 1) := by decide +kernel
theorem dX12_isTemplate_9 : decode cX12_isTemplate 9 = .ok (.invokevirtual 318, 3) := by decide +kernel
theorem dX12_isTemplate_12 : decode cX12_isTemplate 12 = .ok (.aload_n 0, 1) := by decide +kernel
theorem dX12_isTemplate_13 : decode cX12_isTemplate 13 = .ok (.iload_n 1, 1) := by decide +kernel
theorem dX12_isTemplate_14 : decode cX12_isTemplate 14 = .ok (.bipush 7, 2) := by decide +kernel
theorem dX12_isTemplate_16 : decode cX12_isTemplate 16 = .ok (.invokevirtual 188, 3) := by decide +kernel
theorem dX12_isTemplate_19 : decode cX12_isTemplate 19 = .ok (.ifCond .ne 7, 3) := by decide +kernel
theorem dX12_isTemplate_22 : decode cX12_isTemplate 22 = .ok (.iconst 1, 1) := by decide +kernel
theorem dX12_isTemplate_23 : decode cX12_isTemplate 23 = .ok (.goto 4, 3) := by decide +kernel
theorem dX12_isTemplate_26 : decode cX12_isTemplate 26 = .ok (.iconst 0, 1) := by decide +kernel
theorem dX12_isTemplate_27 : decode cX12_isTemplate 27 = .ok (.istore_n 2, 1) := by decide +kernel
theorem dX12_isTemplate_28 : decode cX12_isTemplate 28 = .ok (.iconst 0, 1) := by decide +kernel
theorem dX12_isTemplate_29 : decode cX12_isTemplate 29 = .ok (.istore_n 3, 1) := by decide +kernel
theorem dX12_isTemplate_30 : decode cX12_isTemplate 30 = .ok (.iload_n 3, 1) := by decide +kernel
theorem dX12_isTemplate_31 : decode cX12_isTemplate 31 = .ok (.aload_n 0, 1) := by decide +kernel
theorem dX12_isTemplate_32 : decode cX12_isTemplate 32 = .ok (.getfield 306, 3) := by decide +kernel
theorem dX12_isTemplate_35 : decode cX12_isTemplate 35 = .ok (.if_icmp .ge 192, 3) := by decide +kernel
theorem dX12_isTemplate_38 : decode cX12_isTemplate 38 = .ok (.iload_n 2, 1) := by decide +kernel
theorem dX12_isTemplate_39 : decode cX12_isTemplate 39 = .ok (.ifCond .eq 188, 3) := by decide +kernel
theorem dX12_isTemplate_42 : decode cX12_isTemplate 42 = .ok (.aload_n 0, 1) := by decide +kernel
theorem dX12_isTemplate_43 : decode cX12_isTemplate 43 = .ok (.getfield 98, 3) := by decide +kernel
theorem dX12_isTemplate_46 : decode cX12_isTemplate 46 = .ok (.iload_n 3, 1) := by decide +kernel
theorem dX12_isTemplate_47 : decode cX12_isTemplate 47 = .ok (.iaload, 1) := by decide +kernel
theorem dX12_isTemplate_48 : decode cX12_isTemplate 48 = .ok (.istore 4, 2) := by decide +kernel
theorem dX12_isTemplate_50 : decode cX12_isTemplate 50 = .ok (.aload_n 0, 1) := by decide +kernel
theorem dX12_isTemplate_51 : decode cX12_isTemplate 51 = .ok (.getfield 101, 3) := by decide +kernel
theorem dX12_isTemplate_54 : decode cX12_isTemplate 54 = .ok (.iload_n 3, 1) := by decide +kernel
theorem dX12_isTemplate_55 : decode cX12_isTemplate 55 = .ok (.iaload, 1) := by decide +kernel
theorem dX12_isTemplate_56 : decode cX12_isTemplate 56 = .ok (.iconst 1, 1) := by decide +kernel
theorem dX12_isTemplate_57 : decode cX12_isTemplate 57 = .ok (.if_icmp .ne 7, 3) := by decide +kernel
theorem dX12_isTemplate_60 : decode cX12_isTemplate 60 = .ok (.iconst 1, 1) := by decide +kernel
theorem dX12_isTemplate_61 : decode cX12_isTemplate 61 = .ok (.goto 4, 3) := by decide +kernel
theorem dX12_isTemplate_64 : decode cX12_isTemplate 64 = .ok (.iconst 0, 1) := by decide +kernel
theorem dX12_isTemplate_65 : decode cX12_isTemplate 65 = .ok (.istore 5, 2) := by decide +kernel
theorem dX12_isTemplate_67 : decode cX12_isTemplate 67 = .ok (.iload 5, 2) := by decide +kernel
theorem dX12_isTemplate_69 : decode cX12_isTemplate 69 = .ok (.ifCond .ne 12, 3) := by decide +kernel
theorem dX12_isTemplate_72 : decode cX12_isTemplate 72 = .ok (.aload_n 0, 1) := by decide +kernel
theorem dX12_isTemplate_73 : decode cX12_isTemplate 73 = .ok (.iload 4, 2) := by decide +kernel
theorem dX12_isTemplate_75 : decode cX12_isTemplate 75 = .ok (.invokevirtual 330, 3) := by decide +kernel
theorem dX12_isTemplate_78 : decode cX12_isTemplate 78 = .ok (.ifCond .ne 7, 3) := by decide +kernel
theorem dX12_isTemplate_81 : decode cX12_isTemplate 81 = .ok (.iconst 1, 1) := by decide +kernel
theorem dX12_isTemplate_82 : decode cX12_isTemplate 82 = .ok (.goto 4, 3) := by decide +kernel
theorem dX12_isTemplate_85 : decode cX12_isTemplate 85 = .ok (.iconst 0, 1) := by decide +kernel
theorem dX12_isTemplate_86 : decode cX12_isTemplate 86 = .ok (.istore_n 2, 1) := by decide +kernel
theorem dX12_isTemplate_87 : decode cX12_isTemplate 87 = .ok (.iconst 0, 1) := by decide +kernel
theorem dX12_isTemplate_88 : decode cX12_isTemplate 88 = .ok (.istore 6, 2) := by decide +kernel
theorem dX12_isTemplate_90 : decode cX12_isTemplate 90 = .ok (.iload 6, 2) := by decide +kernel
theorem dX12_isTemplate_92 : decode cX12_isTemplate 92 = .ok (.aload_n 0, 1) := by decide +kernel
theorem dX12_isTemplate_93 : decode cX12_isTemplate 93 = .ok (.getfield 38, 3) := by decide +kernel
theorem dX12_isTemplate_96 : decode cX12_isTemplate 96 = .ok (.iload 4, 2) := by decide +kernel
theorem dX12_isTemplate_98 : decode cX12_isTemplate 98 = .ok (.iaload, 1) := by decide +kernel
theorem dX12_isTemplate_99 : decode cX12_isTemplate 99 = .ok (.if_icmp .ge 122, 3) := by decide +kernel
theorem dX12_isTemplate_102 : decode cX12_isTemplate 102 = .ok (.iload_n 2, 1) := by decide +kernel
theorem dX12_isTemplate_103 : decode cX12_isTemplate 103 = .ok (.ifCond .eq 118, 3) := by decide +kernel
theorem dX12_isTemplate_106 : decode cX12_isTemplate 106 = .ok (.aload_n 0, 1) := by decide +kernel
theorem dX12_isTemplate_107 : decode cX12_isTemplate 107 = .ok (.iload 4, 2) := by decide +kernel
theorem dX12_isTemplate_109 : decode cX12_isTemplate 109 = .ok (.iload 6, 2) := by decide +kernel
theorem dX12_isTemplate_111 : decode cX12_isTemplate 111 = .ok (.iconst 1, 1) := by decide +kernel
theorem dX12_isTemplate_112 : decode cX12_isTemplate 112 = .ok (.iadd, 1) := by decide +kernel
theorem dX12_isTemplate_113 : decode cX12_isTemplate 113 = .ok (.invokevirtual 321, 3) := by decide +kernel
theorem dX12_isTemplate_116 : decode cX12_isTemplate 116 = .ok (.istore 7, 2) := by decide +kernel
theorem dX12_isTemplate_118 : decode cX12_isTemplate 118 = .ok (.aload_n 0, 1) := by decide +kernel
theorem dX12_isTemplate_119 : decode cX12_isTemplate 119 = .ok (.iload 4, 2) := by decide +kernel
theorem dX12_isTemplate_121 : decode cX12_isTemplate 121 = .ok (.iload 6, 2) := by decide +kernel
theorem dX12_isTemplate_123 : decode cX12_isTemplate 123 = .ok (.invokevirtual 321, 3) := by decide +kernel
theorem dX12_isTemplate_126 : decode cX12_isTemplate 126 = .ok (.ifCond .eq 35, 3) := by decide +kernel
theorem dX12_isTemplate_129 : decode cX12_isTemplate 129 = .ok (.iload 6, 2) := by decide +kernel
theorem dX12_isTemplate_131 : decode cX12_isTemplate 131 = .ok (.ifCond .le 25, 3) := by decide +kernel
theorem dX12_isTemplate_134 : decode cX12_isTemplate 134 = .ok (.iload 5, 2) := by decide +kernel
theorem dX12_isTemplate_136 : decode cX12_isTemplate 136 = .ok (.ifCond .ne 20, 3) := by decide +kernel
theorem dX12_isTemplate_139 : decode cX12_isTemplate 139 = .ok (.aload_n 0, 1) := by decide +kernel
theorem dX12_isTemplate_140 : decode cX12_isTemplate 140 = .ok (.iload 4, 2) := by decide +kernel
theorem dX12_isTemplate_142 : decode cX12_isTemplate 142 = .ok (.iload 6, 2) := by decide +kernel
theorem dX12_isTemplate_144 : decode cX12_isTemplate 144 = .ok (.iconst 1, 1) := by decide +kernel
theorem dX12_isTemplate_145 : decode cX12_isTemplate 145 = .ok (.isub, 1) := by decide +kernel
theorem dX12_isTemplate_146 : decode cX12_isTemplate 146 = .ok (.invokevirtual 321, 3) := by decide +kernel
theorem dX12_isTemplate_149 : decode cX12_isTemplate 149 = .ok (.ifCond .ne 7, 3) := by decide +kernel
theorem dX12_isTemplate_152 : decode cX12_isTemplate 152 = .ok (.iconst 1, 1) := by decide +kernel
theorem dX12_isTemplate_153 : decode cX12_isTemplate 153 = .ok (.goto 4, 3) := by decide +kernel
theorem dX12_isTemplate_156 : decode cX12_isTemplate 156 = .ok (.iconst 0, 1) := by decide +kernel
theorem dX12_isTemplate_157 : decode cX12_isTemplate 157 = .ok (.istore_n 2, 1) := by decide +kernel
theorem dX12_isTemplate_158 : decode cX12_isTemplate 158 = .ok (.goto 57, 3) := by decide +kernel
theorem dX12_isTemplate_161 : decode cX12_isTemplate 161 = .ok (.iload 7, 2) := by decide +kernel
theorem dX12_isTemplate_163 : decode cX12_isTemplate 163 = .ok (.ifCond .eq 18, 3) := by decide +kernel
theorem dX12_isTemplate_166 : decode cX12_isTemplate 166 = .ok (.aload_n 0, 1) := by decide +kernel
theorem dX12_isTemplate_167 : decode cX12_isTemplate 167 = .ok (.aload_n 0, 1) := by decide +kernel
theorem dX12_isTemplate_168 : decode cX12_isTemplate 168 = .ok (.iload 4, 2) := by decide +kernel
theorem dX12_isTemplate_170 : decode cX12_isTemplate 170 = .ok (.iload 6, 2) := by decide +kernel
theorem dX12_isTemplate_172 : decode cX12_isTemplate 172 = .ok (.invokevirtual 192, 3) := by decide +kernel
theorem dX12_isTemplate_175 : decode cX12_isTemplate 175 = .ok (.invokevirtual 333, 3) := by decide +kernel
theorem dX12_isTemplate_178 : decode cX12_isTemplate 178 = .ok (.ifCond .eq 7, 3) := by decide +kernel
theorem dX12_isTemplate_181 : decode cX12_isTemplate 181 = .ok (.iconst 1, 1) := by decide +kernel
theorem dX12_isTemplate_182 : decode cX12_isTemplate 182 = .ok (.goto 4, 3) := by decide +kernel
theorem dX12_isTemplate_185 : decode cX12_isTemplate 185 = .ok (.iconst 0, 1) := by decide +kernel
theorem dX12_isTemplate_186 : decode cX12_isTemplate 186 = .ok (.istore_n 2, 1) := by decide +kernel
theorem dX12_isTemplate_187 : decode cX12_isTemplate 187 = .ok (.aload_n 0, 1) := by decide +kernel
theorem dX12_isTemplate_188 : decode cX12_isTemplate 188 = .ok (.aload_n 0, 1) := by decide +kernel
theorem dX12_isTemplate_189 : decode cX12_isTemplate 189 = .ok (.iload 4, 2) := by decide +kernel
theorem dX12_isTemplate_191 : decode cX12_isTemplate 191 = .ok (.iload 6, 2) := by decide +kernel
theorem dX12_isTemplate_193 : decode cX12_isTemplate 193 = .ok (.invokevirtual 192, 3) := by decide +kernel
theorem dX12_isTemplate_196 : decode cX12_isTemplate 196 = .ok (.iload 5, 2) := by decide +kernel
theorem dX12_isTemplate_198 : decode cX12_isTemplate 198 = .ok (.ifCond .ne 8, 3) := by decide +kernel
theorem dX12_isTemplate_201 : decode cX12_isTemplate 201 = .ok (.iload 7, 2) := by decide +kernel
theorem dX12_isTemplate_203 : decode cX12_isTemplate 203 = .ok (.ifCond .eq 7, 3) := by decide +kernel
theorem dX12_isTemplate_206 : decode cX12_isTemplate 206 = .ok (.iconst 1, 1) := by decide +kernel
theorem dX12_isTemplate_207 : decode cX12_isTemplate 207 = .ok (.goto 4, 3) := by decide +kernel
theorem dX12_isTemplate_210 : decode cX12_isTemplate 210 = .ok (.iconst 0, 1) := by decide +kernel
theorem dX12_isTemplate_211 : decode cX12_isTemplate 211 = .ok (.iconst 0, 1) := by decide +kernel
theorem dX12_isTemplate_212 : decode cX12_isTemplate 212 = .ok (.invokevirtual 318, 3) := by decide +kernel
theorem dX12_isTemplate_215 : decode cX12_isTemplate 215 = .ok (.iinc 6 1, 3) := by decide +kernel
theorem dX12_isTemplate_218 : decode cX12_isTemplate 218 = .ok (.goto (-128), 3) := by decide +kernel
theorem dX12_isTemplate_221 : decode cX12_isTemplate 221 = .ok (.iinc 3 1, 3) := by decide +kernel
theorem dX12_isTemplate_224 : decode cX12_isTemplate 224 = .ok (.goto (-194), 3) := by decide +kernel
theorem dX12_isTemplate_227 : decode cX12_isTemplate 227 = .ok (.iload_n 2, 1) := by decide +kernel
theorem dX12_isTemplate_228 : decode cX12_isTemplate 228 = .ok (.ireturn, 1) := by decide +kernel
theorem dX12_matches_0 : decode cX12_matches 0 = .ok (.aload_n 0, 1) := by decide +kernel
theorem dX12_matches_1 : decode cX12_matches 1 = .ok (.iconst 0, 1) := by decide +kernel
theorem dX12_matches_2 : decode cX12_matches 2 = .ok (.putfield 306, 3) := by decide +kernel
theorem dX12_matches_5 : decode cX12_matches 5 = .ok (.aload_n 0, 1) := by decide +kernel
theorem dX12_matches_6 : decode cX12_matches 6 = .ok (.iload_n 3, 1) := by decide +kernel
theorem dX12_matches_7 : decode cX12_matches 7 = .ok (.iconst 1, 1) := by decide +kernel
theorem dX12_matches_8 : decode cX12_matches 8 = .ok (.iload 4, 2) := by decide +kernel
theorem dX12_matches_10 : decode cX12_matches 10 = .ok (.invokevirtual 318, 3) := by decide +kernel
theorem dX12_matches_13 : decode cX12_matches 13 = .ok (.iconst 1, 1) := by decide +kernel
theorem dX12_matches_14 : decode cX12_matches 14 = .ok (.istore 6, 2) := by decide +kernel
theorem dX12_matches_16 : decode cX12_matches 16 = .ok (.iconst 0, 1) := by decide +kernel
theorem dX12_matches_17 : decode cX12_matches 17 = .ok (.istore 7, 2) := by decide +kernel
theorem dX12_matches_19 : decode cX12_matches 19 = .ok (.iload 7, 2) := by decide +kernel
theorem dX12_matches_21 : decode cX12_matches 21 = .ok (.aload_n 0, 1) := by decide +kernel
theorem dX12_matches_22 : decode cX12_matches 22 = .ok (.getfield 306, 3) := by decide +kernel
theorem dX12_matches_25 : decode cX12_matches 25 = .ok (.if_icmp .ge 188, 3) := by decide +kernel
theorem dX12_matches_28 : decode cX12_matches 28 = .ok (.iload 6, 2) := by decide +kernel
theorem dX12_matches_30 : decode cX12_matches 30 = .ok (.ifCond .eq 183, 3) := by decide +kernel
theorem dX12_matches_33 : decode cX12_matches 33 = .ok (.aload_n 0, 1) := by decide +kernel
theorem dX12_matches_34 : decode cX12_matches 34 = .ok (.getfield 98, 3) := by decide +kernel
theorem dX12_matches_37 : decode cX12_matches 37 = .ok (.iload 7, 2) := by decide +kernel
theorem dX12_matches_39 : decode cX12_matches 39 = .ok (.iaload, 1) := by decide +kernel
theorem dX12_matches_40 : decode cX12_matches 40 = .ok (.istore 8, 2) := by decide +kernel
theorem dX12_matches_42 : decode cX12_matches 42 = .ok (.aload_n 0, 1) := by decide +kernel
theorem dX12_matches_43 : decode cX12_matches 43 = .ok (.getfield 104, 3) := by decide +kernel
theorem dX12_matches_46 : decode cX12_matches 46 = .ok (.iload 7, 2) := by decide +kernel
theorem dX12_matches_48 : decode cX12_matches 48 = .ok (.iaload, 1) := by decide +kernel
theorem dX12_matches_49 : decode cX12_matches 49 = .ok (.istore 9, 2) := by decide +kernel
theorem dX12_matches_51 : decode cX12_matches 51 = .ok (.aload_n 0, 1) := by decide +kernel
theorem dX12_matches_52 : decode cX12_matches 52 = .ok (.getfield 32, 3) := by decide +kernel
theorem dX12_matches_55 : decode cX12_matches 55 = .ok (.iload 8, 2) := by decide +kernel
theorem dX12_matches_57 : decode cX12_matches 57 = .ok (.baload, 1) := by decide +kernel
theorem dX12_matches_58 : decode cX12_matches 58 = .ok (.iconst 2, 1) := by decide +kernel
theorem dX12_matches_59 : decode cX12_matches 59 = .ok (.if_icmp .ne 42, 3) := by decide +kernel
theorem dX12_matches_62 : decode cX12_matches 62 = .ok (.aload_n 0, 1) := by decide +kernel
theorem dX12_matches_63 : decode cX12_matches 63 = .ok (.getfield 32, 3) := by decide +kernel
theorem dX12_matches_66 : decode cX12_matches 66 = .ok (.iload 9, 2) := by decide +kernel
theorem dX12_matches_68 : decode cX12_matches 68 = .ok (.baload, 1) := by decide +kernel
theorem dX12_matches_69 : decode cX12_matches 69 = .ok (.iconst 2, 1) := by decide +kernel
theorem dX12_matches_70 : decode cX12_matches 70 = .ok (.if_icmp .ne 25, 3) := by decide +kernel
theorem dX12_matches_73 : decode cX12_matches 73 = .ok (.aload_n 0, 1) := by decide +kernel
theorem dX12_matches_74 : decode cX12_matches 74 = .ok (.iload 8, 2) := by decide +kernel
theorem dX12_matches_76 : decode cX12_matches 76 = .ok (.iload 9, 2) := by decide +kernel
theorem dX12_matches_78 : decode cX12_matches 78 = .ok (.aload_n 0, 1) := by decide +kernel
theorem dX12_matches_79 : decode cX12_matches 79 = .ok (.getfield 101, 3) := by decide +kernel
theorem dX12_matches_82 : decode cX12_matches 82 = .ok (.iload 7, 2) := by decide +kernel
theorem dX12_matches_84 : decode cX12_matches 84 = .ok (.iaload, 1) := by decide +kernel
theorem dX12_matches_85 : decode cX12_matches 85 = .ok (.invokevirtual 336, 3) := by decide +kernel
theorem dX12_matches_88 : decode cX12_matches 88 = .ok (.ifCond .eq 7, 3) := by decide +kernel
theorem dX12_matches_91 : decode cX12_matches 91 = .ok (.iconst 1, 1) := by decide +kernel
theorem dX12_matches_92 : decode cX12_matches 92 = .ok (.goto 4, 3) := by decide +kernel
theorem dX12_matches_95 : decode cX12_matches 95 = .ok (.iconst 0, 1) := by decide +kernel
theorem dX12_matches_96 : decode cX12_matches 96 = .ok (.istore 6, 2) := by decide +kernel
theorem dX12_matches_98 : decode cX12_matches 98 = .ok (.goto 109, 3) := by decide +kernel
theorem dX12_matches_101 : decode cX12_matches 101 = .ok (.aload_n 0, 1) := by decide +kernel
theorem dX12_matches_102 : decode cX12_matches 102 = .ok (.getfield 32, 3) := by decide +kernel
theorem dX12_matches_105 : decode cX12_matches 105 = .ok (.iload 8, 2) := by decide +kernel
theorem dX12_matches_107 : decode cX12_matches 107 = .ok (.baload, 1) := by decide +kernel
theorem dX12_matches_108 : decode cX12_matches 108 = .ok (.ifCond .ne 40, 3) := by decide +kernel
theorem dX12_matches_111 : decode cX12_matches 111 = .ok (.aload_n 0, 1) := by decide +kernel
theorem dX12_matches_112 : decode cX12_matches 112 = .ok (.getfield 32, 3) := by decide +kernel
theorem dX12_matches_115 : decode cX12_matches 115 = .ok (.iload 9, 2) := by decide +kernel
theorem dX12_matches_117 : decode cX12_matches 117 = .ok (.baload, 1) := by decide +kernel
theorem dX12_matches_118 : decode cX12_matches 118 = .ok (.ifCond .ne 24, 3) := by decide +kernel
theorem dX12_matches_121 : decode cX12_matches 121 = .ok (.aload_n 0, 1) := by decide +kernel
theorem dX12_matches_122 : decode cX12_matches 122 = .ok (.getfield 35, 3) := by decide +kernel
theorem dX12_matches_125 : decode cX12_matches 125 = .ok (.iload 9, 2) := by decide +kernel
theorem dX12_matches_127 : decode cX12_matches 127 = .ok (.iaload, 1) := by decide +kernel
theorem dX12_matches_128 : decode cX12_matches 128 = .ok (.aload_n 0, 1) := by decide +kernel
theorem dX12_matches_129 : decode cX12_matches 129 = .ok (.getfield 35, 3) := by decide +kernel
theorem dX12_matches_132 : decode cX12_matches 132 = .ok (.iload 8, 2) := by decide +kernel
theorem dX12_matches_134 : decode cX12_matches 134 = .ok (.iaload, 1) := by decide +kernel
theorem dX12_matches_135 : decode cX12_matches 135 = .ok (.if_icmp .ne 7, 3) := by decide +kernel
theorem dX12_matches_138 : decode cX12_matches 138 = .ok (.iconst 1, 1) := by decide +kernel
theorem dX12_matches_139 : decode cX12_matches 139 = .ok (.goto 4, 3) := by decide +kernel
theorem dX12_matches_142 : decode cX12_matches 142 = .ok (.iconst 0, 1) := by decide +kernel
theorem dX12_matches_143 : decode cX12_matches 143 = .ok (.istore 6, 2) := by decide +kernel
theorem dX12_matches_145 : decode cX12_matches 145 = .ok (.goto 62, 3) := by decide +kernel
theorem dX12_matches_148 : decode cX12_matches 148 = .ok (.aload_n 0, 1) := by decide +kernel
theorem dX12_matches_149 : decode cX12_matches 149 = .ok (.iload_n 1, 1) := by decide +kernel
theorem dX12_matches_150 : decode cX12_matches 150 = .ok (.aload_n 0, 1) := by decide +kernel
theorem dX12_matches_151 : decode cX12_matches 151 = .ok (.getfield 35, 3) := by decide +kernel
theorem dX12_matches_154 : decode cX12_matches 154 = .ok (.iload 8, 2) := by decide +kernel
theorem dX12_matches_156 : decode cX12_matches 156 = .ok (.iaload, 1) := by decide +kernel
theorem dX12_matches_157 : decode cX12_matches 157 = .ok (.invokevirtual 324, 3) := by decide +kernel
theorem dX12_matches_160 : decode cX12_matches 160 = .ok (.ifCond .eq 47, 3) := by decide +kernel
theorem dX12_matches_163 : decode cX12_matches 163 = .ok (.aload_n 0, 1) := by decide +kernel
theorem dX12_matches_164 : decode cX12_matches 164 = .ok (.iload 9, 2) := by decide +kernel
theorem dX12_matches_166 : decode cX12_matches 166 = .ok (.invokevirtual 180, 3) := by decide +kernel
theorem dX12_matches_169 : decode cX12_matches 169 = .ok (.ifCond .eq 35, 3) := by decide +kernel
theorem dX12_matches_172 : decode cX12_matches 172 = .ok (.aload_n 0, 1) := by decide +kernel
theorem dX12_matches_173 : decode cX12_matches 173 = .ok (.aload_n 0, 1) := by decide +kernel
theorem dX12_matches_174 : decode cX12_matches 174 = .ok (.getfield 35, 3) := by decide +kernel
theorem dX12_matches_177 : decode cX12_matches 177 = .ok (.iload 8, 2) := by decide +kernel
theorem dX12_matches_179 : decode cX12_matches 179 = .ok (.iaload, 1) := by decide +kernel
theorem dX12_matches_180 : decode cX12_matches 180 = .ok (.iload_n 2, 1) := by decide +kernel
theorem dX12_matches_181 : decode cX12_matches 181 = .ok (.invokevirtual 252, 3) := by decide +kernel
theorem dX12_matches_184 : decode cX12_matches 184 = .ok (.aload_n 0, 1) := by decide +kernel
theorem dX12_matches_185 : decode cX12_matches 185 = .ok (.aload_n 0, 1) := by decide +kernel
theorem dX12_matches_186 : decode cX12_matches 186 = .ok (.getfield 35, 3) := by decide +kernel
theorem dX12_matches_189 : decode cX12_matches 189 = .ok (.iload 9, 2) := by decide +kernel
theorem dX12_matches_191 : decode cX12_matches 191 = .ok (.iaload, 1) := by decide +kernel
theorem dX12_matches_192 : decode cX12_matches 192 = .ok (.iload 5, 2) := by decide +kernel
theorem dX12_matches_194 : decode cX12_matches 194 = .ok (.invokevirtual 252, 3) := by decide +kernel
theorem dX12_matches_197 : decode cX12_matches 197 = .ok (.if_icmp .ne 7, 3) := by decide +kernel
theorem dX12_matches_200 : decode cX12_matches 200 = .ok (.iconst 1, 1) := by decide +kernel
theorem dX12_matches_201 : decode cX12_matches 201 = .ok (.goto 4, 3) := by decide +kernel
theorem dX12_matches_204 : decode cX12_matches 204 = .ok (.iconst 0, 1) := by decide +kernel
theorem dX12_matches_205 : decode cX12_matches 205 = .ok (.istore 6, 2) := by decide +kernel
theorem dX12_matches_207 : decode cX12_matches 207 = .ok (.iinc 7 1, 3) := by decide +kernel
theorem dX12_matches_210 : decode cX12_matches 210 = .ok (.goto (-191), 3) := by decide +kernel
theorem dX12_matches_213 : decode cX12_matches 213 = .ok (.iload 6, 2) := by decide +kernel
theorem dX12_matches_215 : decode cX12_matches 215 = .ok (.ireturn, 1) := by decide +kernel
theorem dX12_lookAtParts_0 : decode cX12_lookAtParts 0 = .ok (.aload_n 0, 1) := by decide +kernel
theorem dX12_lookAtParts_1 : decode cX12_lookAtParts 1 = .ok (.getfield 38, 3) := by decide +kernel
theorem dX12_lookAtParts_4 : decode cX12_lookAtParts 4 = .ok (.iload_n 1, 1) := by decide +kernel
theorem dX12_lookAtParts_5 : decode cX12_lookAtParts 5 = .ok (.iaload, 1) := by decide +kernel
theorem dX12_lookAtParts_6 : decode cX12_lookAtParts 6 = .ok (.istore 4, 2) := by decide +kernel
theorem dX12_lookAtParts_8 : decode cX12_lookAtParts 8 = .ok (.iload 4, 2) := by decide +kernel
theorem dX12_lookAtParts_10 : decode cX12_lookAtParts 10 = .ok (.iload_n 3, 1) := by decide +kernel
theorem dX12_lookAtParts_11 : decode cX12_lookAtParts 11 = .ok (.if_icmp .le 19, 3) := by decide +kernel
theorem dX12_lookAtParts_14 : decode cX12_lookAtParts 14 = .ok (.aload_n 0, 1) := by decide +kernel
theorem dX12_lookAtParts_15 : decode cX12_lookAtParts 15 = .ok (.iload_n 1, 1) := by decide +kernel
theorem dX12_lookAtParts_16 : decode cX12_lookAtParts 16 = .ok (.iload 4, 2) := by decide +kernel
theorem dX12_lookAtParts_18 : decode cX12_lookAtParts 18 = .ok (.iconst 1, 1) := by decide +kernel
theorem dX12_lookAtParts_19 : decode cX12_lookAtParts 19 = .ok (.isub, 1) := by decide +kernel
theorem dX12_lookAtParts_20 : decode cX12_lookAtParts 20 = .ok (.invokevirtual 321, 3) := by decide +kernel
theorem dX12_lookAtParts_23 : decode cX12_lookAtParts 23 = .ok (.ifCond .eq 7, 3) := by decide +kernel
theorem dX12_lookAtParts_26 : decode cX12_lookAtParts 26 = .ok (.iconst 1, 1) := by decide +kernel
theorem dX12_lookAtParts_27 : decode cX12_lookAtParts 27 = .ok (.goto 4, 3) := by decide +kernel
theorem dX12_lookAtParts_30 : decode cX12_lookAtParts 30 = .ok (.iconst 0, 1) := by decide +kernel
theorem dX12_lookAtParts_31 : decode cX12_lookAtParts 31 = .ok (.istore 5, 2) := by decide +kernel
theorem dX12_lookAtParts_33 : decode cX12_lookAtParts 33 = .ok (.iload 5, 2) := by decide +kernel
theorem dX12_lookAtParts_35 : decode cX12_lookAtParts 35 = .ok (.ifCond .eq 10, 3) := by decide +kernel
theorem dX12_lookAtParts_38 : decode cX12_lookAtParts 38 = .ok (.iload 4, 2) := by decide +kernel
theorem dX12_lookAtParts_40 : decode cX12_lookAtParts 40 = .ok (.iconst 2, 1) := by decide +kernel
theorem dX12_lookAtParts_41 : decode cX12_lookAtParts 41 = .ok (.isub, 1) := by decide +kernel
theorem dX12_lookAtParts_42 : decode cX12_lookAtParts 42 = .ok (.goto 5, 3) := by decide +kernel
theorem dX12_lookAtParts_45 : decode cX12_lookAtParts 45 = .ok (.iload 4, 2) := by decide +kernel
theorem dX12_lookAtParts_47 : decode cX12_lookAtParts 47 = .ok (.istore 6, 2) := by decide +kernel
theorem dX12_lookAtParts_49 : decode cX12_lookAtParts 49 = .ok (.iload 5, 2) := by decide +kernel
theorem dX12_lookAtParts_51 : decode cX12_lookAtParts 51 = .ok (.ifCond .eq 22, 3) := by decide +kernel
theorem dX12_lookAtParts_54 : decode cX12_lookAtParts 54 = .ok (.aload_n 0, 1) := by decide +kernel
theorem dX12_lookAtParts_55 : decode cX12_lookAtParts 55 = .ok (.getfield 38, 3) := by decide +kernel
theorem dX12_lookAtParts_58 : decode cX12_lookAtParts 58 = .ok (.iload_n 2, 1) := by decide +kernel
theorem dX12_lookAtParts_59 : decode cX12_lookAtParts 59 = .ok (.iaload, 1) := by decide +kernel
theorem dX12_lookAtParts_60 : decode cX12_lookAtParts 60 = .ok (.iload 6, 2) := by decide +kernel
theorem dX12_lookAtParts_62 : decode cX12_lookAtParts 62 = .ok (.if_icmp .lt 7, 3) := by decide +kernel
theorem dX12_lookAtParts_65 : decode cX12_lookAtParts 65 = .ok (.iconst 1, 1) := by decide +kernel
theorem dX12_lookAtParts_66 : decode cX12_lookAtParts 66 = .ok (.goto 23, 3) := by decide +kernel
theorem dX12_lookAtParts_69 : decode cX12_lookAtParts 69 = .ok (.iconst 0, 1) := by decide +kernel
theorem dX12_lookAtParts_70 : decode cX12_lookAtParts 70 = .ok (.goto 19, 3) := by decide +kernel
theorem dX12_lookAtParts_73 : decode cX12_lookAtParts 73 = .ok (.aload_n 0, 1) := by decide +kernel
theorem dX12_lookAtParts_74 : decode cX12_lookAtParts 74 = .ok (.getfield 38, 3) := by decide +kernel
theorem dX12_lookAtParts_77 : decode cX12_lookAtParts 77 = .ok (.iload_n 2, 1) := by decide +kernel
theorem dX12_lookAtParts_78 : decode cX12_lookAtParts 78 = .ok (.iaload, 1) := by decide +kernel
theorem dX12_lookAtParts_79 : decode cX12_lookAtParts 79 = .ok (.iload 4, 2) := by decide +kernel
theorem dX12_lookAtParts_81 : decode cX12_lookAtParts 81 = .ok (.if_icmp .ne 7, 3) := by decide +kernel
theorem dX12_lookAtParts_84 : decode cX12_lookAtParts 84 = .ok (.iconst 1, 1) := by decide +kernel
theorem dX12_lookAtParts_85 : decode cX12_lookAtParts 85 = .ok (.goto 4, 3) := by decide +kernel
theorem dX12_lookAtParts_88 : decode cX12_lookAtParts 88 = .ok (.iconst 0, 1) := by decide +kernel
theorem dX12_lookAtParts_89 : decode cX12_lookAtParts 89 = .ok (.istore 7, 2) := by decide +kernel
theorem dX12_lookAtParts_91 : decode cX12_lookAtParts 91 = .ok (.iload_n 3, 1) := by decide +kernel
theorem dX12_lookAtParts_92 : decode cX12_lookAtParts 92 = .ok (.istore 8, 2) := by decide +kernel
theorem dX12_lookAtParts_94 : decode cX12_lookAtParts 94 = .ok (.iload 8, 2) := by decide +kernel
theorem dX12_lookAtParts_96 : decode cX12_lookAtParts 96 = .ok (.aload_n 0, 1) := by decide +kernel
theorem dX12_lookAtParts_97 : decode cX12_lookAtParts 97 = .ok (.getfield 38, 3) := by decide +kernel
theorem dX12_lookAtParts_100 : decode cX12_lookAtParts 100 = .ok (.iload_n 2, 1) := by decide +kernel
theorem dX12_lookAtParts_101 : decode cX12_lookAtParts 101 = .ok (.iaload, 1) := by decide +kernel
theorem dX12_lookAtParts_102 : decode cX12_lookAtParts 102 = .ok (.if_icmp .ge 45, 3) := by decide +kernel
theorem dX12_lookAtParts_105 : decode cX12_lookAtParts 105 = .ok (.iload 7, 2) := by decide +kernel
theorem dX12_lookAtParts_107 : decode cX12_lookAtParts 107 = .ok (.ifCond .eq 40, 3) := by decide +kernel
theorem dX12_lookAtParts_110 : decode cX12_lookAtParts 110 = .ok (.aload_n 0, 1) := by decide +kernel
theorem dX12_lookAtParts_111 : decode cX12_lookAtParts 111 = .ok (.aload_n 0, 1) := by decide +kernel
theorem dX12_lookAtParts_112 : decode cX12_lookAtParts 112 = .ok (.iload_n 1, 1) := by decide +kernel
theorem dX12_lookAtParts_113 : decode cX12_lookAtParts 113 = .ok (.iload 8, 2) := by decide +kernel
theorem dX12_lookAtParts_115 : decode cX12_lookAtParts 115 = .ok (.iload 6, 2) := by decide +kernel
theorem dX12_lookAtParts_117 : decode cX12_lookAtParts 117 = .ok (.if_icmp .ge 8, 3) := by decide +kernel
theorem dX12_lookAtParts_120 : decode cX12_lookAtParts 120 = .ok (.iload 8, 2) := by decide +kernel
theorem dX12_lookAtParts_122 : decode cX12_lookAtParts 122 = .ok (.goto 5, 3) := by decide +kernel
theorem dX12_lookAtParts_125 : decode cX12_lookAtParts 125 = .ok (.iload 6, 2) := by decide +kernel
theorem dX12_lookAtParts_127 : decode cX12_lookAtParts 127 = .ok (.invokevirtual 192, 3) := by decide +kernel
theorem dX12_lookAtParts_130 : decode cX12_lookAtParts 130 = .ok (.iconst 0, 1) := by decide +kernel
theorem dX12_lookAtParts_131 : decode cX12_lookAtParts 131 = .ok (.aload_n 0, 1) := by decide +kernel
theorem dX12_lookAtParts_132 : decode cX12_lookAtParts 132 = .ok (.iload_n 2, 1) := by decide +kernel
theorem dX12_lookAtParts_133 : decode cX12_lookAtParts 133 = .ok (.iload 8, 2) := by decide +kernel
theorem dX12_lookAtParts_135 : decode cX12_lookAtParts 135 = .ok (.invokevirtual 192, 3) := by decide +kernel
theorem dX12_lookAtParts_138 : decode cX12_lookAtParts 138 = .ok (.invokevirtual 318, 3) := by decide +kernel
theorem dX12_lookAtParts_141 : decode cX12_lookAtParts 141 = .ok (.iinc 8 1, 3) := by decide +kernel
theorem dX12_lookAtParts_144 : decode cX12_lookAtParts 144 = .ok (.goto (-50), 3) := by decide +kernel
theorem dX12_lookAtParts_147 : decode cX12_lookAtParts 147 = .ok (.iload 7, 2) := by decide +kernel
theorem dX12_lookAtParts_149 : decode cX12_lookAtParts 149 = .ok (.ireturn, 1) := by decide +kernel
theorem dX12_setCounts_0 : decode cX12_setCounts 0 = .ok (.iconst 1, 1) := by decide +kernel
theorem dX12_setCounts_1 : decode cX12_setCounts 1 = .ok (.istore_n 3, 1) := by decide +kernel
theorem dX12_setCounts_2 : decode cX12_setCounts 2 = .ok (.aload_n 0, 1) := by decide +kernel
theorem dX12_setCounts_3 : decode cX12_setCounts 3 = .ok (.getfield 107, 3) := by decide +kernel
theorem dX12_setCounts_6 : decode cX12_setCounts 6 = .ok (.iconst 0, 1) := by decide +kernel
theorem dX12_setCounts_7 : decode cX12_setCounts 7 = .ok (.iload_n 1, 1) := by decide +kernel
theorem dX12_setCounts_8 : decode cX12_setCounts 8 = .ok (.iastore, 1) := by decide +kernel
theorem dX12_setCounts_9 : decode cX12_setCounts 9 = .ok (.iload_n 3, 1) := by decide +kernel
theorem dX12_setCounts_10 : decode cX12_setCounts 10 = .ok (.ifCond .le 94, 3) := by decide +kernel
theorem dX12_setCounts_13 : decode cX12_setCounts 13 = .ok (.iinc 3 (-1), 3) := by decide +kernel
theorem dX12_setCounts_16 : decode cX12_setCounts 16 = .ok (.aload_n 0, 1) := by decide +kernel
theorem dX12_setCounts_17 : decode cX12_setCounts 17 = .ok (.getfield 107, 3) := by decide +kernel
theorem dX12_setCounts_20 : decode cX12_setCounts 20 = .ok (.iload_n 3, 1) := by decide +kernel
theorem dX12_setCounts_21 : decode cX12_setCounts 21 = .ok (.iaload, 1) := by decide +kernel
theorem dX12_setCounts_22 : decode cX12_setCounts 22 = .ok (.istore 4, 2) := by decide +kernel
theorem dX12_setCounts_24 : decode cX12_setCounts 24 = .ok (.aload_n 0, 1) := by decide +kernel
theorem dX12_setCounts_25 : decode cX12_setCounts 25 = .ok (.iload 4, 2) := by decide +kernel
theorem dX12_setCounts_27 : decode cX12_setCounts 27 = .ok (.invokevirtual 180, 3) := by decide +kernel
theorem dX12_setCounts_30 : decode cX12_setCounts 30 = .ok (.ifCond .eq 17, 3) := by decide +kernel
theorem dX12_setCounts_33 : decode cX12_setCounts 33 = .ok (.aload_n 0, 1) := by decide +kernel
theorem dX12_setCounts_34 : decode cX12_setCounts 34 = .ok (.aload_n 0, 1) := by decide +kernel
theorem dX12_setCounts_35 : decode cX12_setCounts 35 = .ok (.getfield 35, 3) := by decide +kernel
theorem dX12_setCounts_38 : decode cX12_setCounts 38 = .ok (.iload 4, 2) := by decide +kernel
theorem dX12_setCounts_40 : decode cX12_setCounts 40 = .ok (.iaload, 1) := by decide +kernel
theorem dX12_setCounts_41 : decode cX12_setCounts 41 = .ok (.invokevirtual 327, 3) := by decide +kernel
theorem dX12_setCounts_44 : decode cX12_setCounts 44 = .ok (.goto 4, 3) := by decide +kernel
theorem dX12_setCounts_47 : decode cX12_setCounts 47 = .ok (.iconst (-1), 1) := by decide +kernel
theorem dX12_setCounts_48 : decode cX12_setCounts 48 = .ok (.istore 5, 2) := by decide +kernel
theorem dX12_setCounts_50 : decode cX12_setCounts 50 = .ok (.iload 5, 2) := by decide +kernel
theorem dX12_setCounts_52 : decode cX12_setCounts 52 = .ok (.ifCond .lt 11, 3) := by decide +kernel
theorem dX12_setCounts_55 : decode cX12_setCounts 55 = .ok (.aload_n 0, 1) := by decide +kernel
theorem dX12_setCounts_56 : decode cX12_setCounts 56 = .ok (.getfield 113, 3) := by decide +kernel
theorem dX12_setCounts_59 : decode cX12_setCounts 59 = .ok (.iload 5, 2) := by decide +kernel
theorem dX12_setCounts_61 : decode cX12_setCounts 61 = .ok (.iload_n 2, 1) := by decide +kernel
theorem dX12_setCounts_62 : decode cX12_setCounts 62 = .ok (.iastore, 1) := by decide +kernel
theorem dX12_setCounts_63 : decode cX12_setCounts 63 = .ok (.iconst 0, 1) := by decide +kernel
theorem dX12_setCounts_64 : decode cX12_setCounts 64 = .ok (.istore 6, 2) := by decide +kernel
theorem dX12_setCounts_66 : decode cX12_setCounts 66 = .ok (.iload 6, 2) := by decide +kernel
theorem dX12_setCounts_68 : decode cX12_setCounts 68 = .ok (.aload_n 0, 1) := by decide +kernel
theorem dX12_setCounts_69 : decode cX12_setCounts 69 = .ok (.getfield 38, 3) := by decide +kernel
theorem dX12_setCounts_72 : decode cX12_setCounts 72 = .ok (.iload 4, 2) := by decide +kernel
theorem dX12_setCounts_74 : decode cX12_setCounts 74 = .ok (.iaload, 1) := by decide +kernel
theorem dX12_setCounts_75 : decode cX12_setCounts 75 = .ok (.if_icmp .ge 26, 3) := by decide +kernel
theorem dX12_setCounts_78 : decode cX12_setCounts 78 = .ok (.aload_n 0, 1) := by decide +kernel
theorem dX12_setCounts_79 : decode cX12_setCounts 79 = .ok (.getfield 107, 3) := by decide +kernel
theorem dX12_setCounts_82 : decode cX12_setCounts 82 = .ok (.iload_n 3, 1) := by decide +kernel
theorem dX12_setCounts_83 : decode cX12_setCounts 83 = .ok (.aload_n 0, 1) := by decide +kernel
theorem dX12_setCounts_84 : decode cX12_setCounts 84 = .ok (.iload 4, 2) := by decide +kernel
theorem dX12_setCounts_86 : decode cX12_setCounts 86 = .ok (.iload 6, 2) := by decide +kernel
theorem dX12_setCounts_88 : decode cX12_setCounts 88 = .ok (.invokevirtual 192, 3) := by decide +kernel
theorem dX12_setCounts_91 : decode cX12_setCounts 91 = .ok (.iastore, 1) := by decide +kernel
theorem dX12_setCounts_92 : decode cX12_setCounts 92 = .ok (.iinc 3 1, 3) := by decide +kernel
theorem dX12_setCounts_95 : decode cX12_setCounts 95 = .ok (.iinc 6 1, 3) := by decide +kernel
theorem dX12_setCounts_98 : decode cX12_setCounts 98 = .ok (.goto (-32), 3) := by decide +kernel
theorem dX12_setCounts_101 : decode cX12_setCounts 101 = .ok (.goto (-92), 3) := by decide +kernel
theorem dX12_setCounts_104 : decode cX12_setCounts 104 = .ok (.return_, 1) := by decide +kernel
theorem dX12_keepMatches_0 : decode cX12_keepMatches 0 = .ok (.iconst 0, 1) := by decide +kernel
theorem dX12_keepMatches_1 : decode cX12_keepMatches 1 = .ok (.istore_n 3, 1) := by decide +kernel
theorem dX12_keepMatches_2 : decode cX12_keepMatches 2 = .ok (.iload_n 3, 1) := by decide +kernel
theorem dX12_keepMatches_3 : decode cX12_keepMatches 3 = .ok (.aload_n 0, 1) := by decide +kernel
theorem dX12_keepMatches_4 : decode cX12_keepMatches 4 = .ok (.getfield 309, 3) := by decide +kernel
theorem dX12_keepMatches_7 : decode cX12_keepMatches 7 = .ok (.if_icmp .ge 16, 3) := by decide +kernel
theorem dX12_keepMatches_10 : decode cX12_keepMatches 10 = .ok (.aload_n 0, 1) := by decide +kernel
theorem dX12_keepMatches_11 : decode cX12_keepMatches 11 = .ok (.getfield 113, 3) := by decide +kernel
theorem dX12_keepMatches_14 : decode cX12_keepMatches 14 = .ok (.iload_n 3, 1) := by decide +kernel
theorem dX12_keepMatches_15 : decode cX12_keepMatches 15 = .ok (.iconst 1, 1) := by decide +kernel
theorem dX12_keepMatches_16 : decode cX12_keepMatches 16 = .ok (.iastore, 1) := by decide +kernel
theorem dX12_keepMatches_17 : decode cX12_keepMatches 17 = .ok (.iinc 3 1, 3) := by decide +kernel
theorem dX12_keepMatches_20 : decode cX12_keepMatches 20 = .ok (.goto (-18), 3) := by decide +kernel
theorem dX12_keepMatches_23 : decode cX12_keepMatches 23 = .ok (.iconst 0, 1) := by decide +kernel
theorem dX12_keepMatches_24 : decode cX12_keepMatches 24 = .ok (.istore_n 3, 1) := by decide +kernel
theorem dX12_keepMatches_25 : decode cX12_keepMatches 25 = .ok (.iload_n 3, 1) := by decide +kernel
theorem dX12_keepMatches_26 : decode cX12_keepMatches 26 = .ok (.iconst 2, 1) := by decide +kernel
theorem dX12_keepMatches_27 : decode cX12_keepMatches 27 = .ok (.if_icmp .ge 200, 3) := by decide +kernel
theorem dX12_keepMatches_30 : decode cX12_keepMatches 30 = .ok (.aload_n 0, 1) := by decide +kernel
theorem dX12_keepMatches_31 : decode cX12_keepMatches 31 = .ok (.iconst 0, 1) := by decide +kernel
theorem dX12_keepMatches_32 : decode cX12_keepMatches 32 = .ok (.putfield 306, 3) := by decide +kernel
theorem dX12_keepMatches_35 : decode cX12_keepMatches 35 = .ok (.aload_n 0, 1) := by decide +kernel
theorem dX12_keepMatches_36 : decode cX12_keepMatches 36 = .ok (.iload_n 1, 1) := by decide +kernel
theorem dX12_keepMatches_37 : decode cX12_keepMatches 37 = .ok (.iconst 0, 1) := by decide +kernel
theorem dX12_keepMatches_38 : decode cX12_keepMatches 38 = .ok (.iload_n 2, 1) := by decide +kernel
theorem dX12_keepMatches_39 : decode cX12_keepMatches 39 = .ok (.invokevirtual 318, 3) := by decide +kernel
theorem dX12_keepMatches_42 : decode cX12_keepMatches 42 = .ok (.iconst 0, 1) := by decide +kernel
theorem dX12_keepMatches_43 : decode cX12_keepMatches 43 = .ok (.istore 4, 2) := by decide +kernel
theorem dX12_keepMatches_45 : decode cX12_keepMatches 45 = .ok (.iload 4, 2) := by decide +kernel
theorem dX12_keepMatches_47 : decode cX12_keepMatches 47 = .ok (.aload_n 0, 1) := by decide +kernel
theorem dX12_keepMatches_48 : decode cX12_keepMatches 48 = .ok (.getfield 306, 3) := by decide +kernel
theorem dX12_keepMatches_51 : decode cX12_keepMatches 51 = .ok (.if_icmp .ge 124, 3) := by decide +kernel
theorem dX12_keepMatches_54 : decode cX12_keepMatches 54 = .ok (.aload_n 0, 1) := by decide +kernel
theorem dX12_keepMatches_55 : decode cX12_keepMatches 55 = .ok (.getfield 98, 3) := by decide +kernel
theorem dX12_keepMatches_58 : decode cX12_keepMatches 58 = .ok (.iload 4, 2) := by decide +kernel
theorem dX12_keepMatches_60 : decode cX12_keepMatches 60 = .ok (.iaload, 1) := by decide +kernel
theorem dX12_keepMatches_61 : decode cX12_keepMatches 61 = .ok (.istore 5, 2) := by decide +kernel
theorem dX12_keepMatches_63 : decode cX12_keepMatches 63 = .ok (.aload_n 0, 1) := by decide +kernel
theorem dX12_keepMatches_64 : decode cX12_keepMatches 64 = .ok (.getfield 104, 3) := by decide +kernel
theorem dX12_keepMatches_67 : decode cX12_keepMatches 67 = .ok (.iload 4, 2) := by decide +kernel
theorem dX12_keepMatches_69 : decode cX12_keepMatches 69 = .ok (.iaload, 1) := by decide +kernel
theorem dX12_keepMatches_70 : decode cX12_keepMatches 70 = .ok (.istore 6, 2) := by decide +kernel
theorem dX12_keepMatches_72 : decode cX12_keepMatches 72 = .ok (.aload_n 0, 1) := by decide +kernel
theorem dX12_keepMatches_73 : decode cX12_keepMatches 73 = .ok (.iload 5, 2) := by decide +kernel
theorem dX12_keepMatches_75 : decode cX12_keepMatches 75 = .ok (.invokevirtual 180, 3) := by decide +kernel
theorem dX12_keepMatches_78 : decode cX12_keepMatches 78 = .ok (.ifCond .eq 17, 3) := by decide +kernel
theorem dX12_keepMatches_81 : decode cX12_keepMatches 81 = .ok (.aload_n 0, 1) := by decide +kernel
theorem dX12_keepMatches_82 : decode cX12_keepMatches 82 = .ok (.aload_n 0, 1) := by decide +kernel
theorem dX12_keepMatches_83 : decode cX12_keepMatches 83 = .ok (.getfield 35, 3) := by decide +kernel
theorem dX12_keepMatches_86 : decode cX12_keepMatches 86 = .ok (.iload 5, 2) := by decide +kernel
theorem dX12_keepMatches_88 : decode cX12_keepMatches 88 = .ok (.iaload, 1) := by decide +kernel
theorem dX12_keepMatches_89 : decode cX12_keepMatches 89 = .ok (.invokevirtual 327, 3) := by decide +kernel
theorem dX12_keepMatches_92 : decode cX12_keepMatches 92 = .ok (.goto 4, 3) := by decide +kernel
theorem dX12_keepMatches_95 : decode cX12_keepMatches 95 = .ok (.iconst (-1), 1) := by decide +kernel
theorem dX12_keepMatches_96 : decode cX12_keepMatches 96 = .ok (.istore 7, 2) := by decide +kernel
theorem dX12_keepMatches_98 : decode cX12_keepMatches 98 = .ok (.iload 7, 2) := by decide +kernel
theorem dX12_keepMatches_100 : decode cX12_keepMatches 100 = .ok (.ifCond .lt 33, 3) := by decide +kernel
theorem dX12_keepMatches_103 : decode cX12_keepMatches 103 = .ok (.iload_n 3, 1) := by decide +kernel
theorem dX12_keepMatches_104 : decode cX12_keepMatches 104 = .ok (.iconst 1, 1) := by decide +kernel
theorem dX12_keepMatches_105 : decode cX12_keepMatches 105 = .ok (.if_icmp .ne 28, 3) := by decide +kernel
theorem dX12_keepMatches_108 : decode cX12_keepMatches 108 = .ok (.aload_n 0, 1) := by decide +kernel
theorem dX12_keepMatches_109 : decode cX12_keepMatches 109 = .ok (.getfield 116, 3) := by decide +kernel
theorem dX12_keepMatches_112 : decode cX12_keepMatches 112 = .ok (.aload_n 0, 1) := by decide +kernel
theorem dX12_keepMatches_113 : decode cX12_keepMatches 113 = .ok (.getfield 110, 3) := by decide +kernel
theorem dX12_keepMatches_116 : decode cX12_keepMatches 116 = .ok (.iload 7, 2) := by decide +kernel
theorem dX12_keepMatches_118 : decode cX12_keepMatches 118 = .ok (.iaload, 1) := by decide +kernel
theorem dX12_keepMatches_119 : decode cX12_keepMatches 119 = .ok (.aload_n 0, 1) := by decide +kernel
theorem dX12_keepMatches_120 : decode cX12_keepMatches 120 = .ok (.getfield 101, 3) := by decide +kernel
theorem dX12_keepMatches_123 : decode cX12_keepMatches 123 = .ok (.iload 4, 2) := by decide +kernel
theorem dX12_keepMatches_125 : decode cX12_keepMatches 125 = .ok (.iaload, 1) := by decide +kernel
theorem dX12_keepMatches_126 : decode cX12_keepMatches 126 = .ok (.iadd, 1) := by decide +kernel
theorem dX12_keepMatches_127 : decode cX12_keepMatches 127 = .ok (.iload 6, 2) := by decide +kernel
theorem dX12_keepMatches_129 : decode cX12_keepMatches 129 = .ok (.iastore, 1) := by decide +kernel
theorem dX12_keepMatches_130 : decode cX12_keepMatches 130 = .ok (.goto 39, 3) := by decide +kernel
theorem dX12_keepMatches_133 : decode cX12_keepMatches 133 = .ok (.aload_n 0, 1) := by decide +kernel
theorem dX12_keepMatches_134 : decode cX12_keepMatches 134 = .ok (.getfield 32, 3) := by decide +kernel
theorem dX12_keepMatches_137 : decode cX12_keepMatches 137 = .ok (.iload 5, 2) := by decide +kernel
theorem dX12_keepMatches_139 : decode cX12_keepMatches 139 = .ok (.baload, 1) := by decide +kernel
theorem dX12_keepMatches_140 : decode cX12_keepMatches 140 = .ok (.iconst 2, 1) := by decide +kernel
theorem dX12_keepMatches_141 : decode cX12_keepMatches 141 = .ok (.if_icmp .ne 28, 3) := by decide +kernel
theorem dX12_keepMatches_144 : decode cX12_keepMatches 144 = .ok (.aload_n 0, 1) := by decide +kernel
theorem dX12_keepMatches_145 : decode cX12_keepMatches 145 = .ok (.iload 5, 2) := by decide +kernel
theorem dX12_keepMatches_147 : decode cX12_keepMatches 147 = .ok (.iload 6, 2) := by decide +kernel
theorem dX12_keepMatches_149 : decode cX12_keepMatches 149 = .ok (.iload 4, 2) := by decide +kernel
theorem dX12_keepMatches_151 : decode cX12_keepMatches 151 = .ok (.ifCond .ne 7, 3) := by decide +kernel
theorem dX12_keepMatches_154 : decode cX12_keepMatches 154 = .ok (.iconst 1, 1) := by decide +kernel
theorem dX12_keepMatches_155 : decode cX12_keepMatches 155 = .ok (.goto 4, 3) := by decide +kernel
theorem dX12_keepMatches_158 : decode cX12_keepMatches 158 = .ok (.iconst 0, 1) := by decide +kernel
theorem dX12_keepMatches_159 : decode cX12_keepMatches 159 = .ok (.aload_n 0, 1) := by decide +kernel
theorem dX12_keepMatches_160 : decode cX12_keepMatches 160 = .ok (.getfield 101, 3) := by decide +kernel
theorem dX12_keepMatches_163 : decode cX12_keepMatches 163 = .ok (.iload 4, 2) := by decide +kernel
theorem dX12_keepMatches_165 : decode cX12_keepMatches 165 = .ok (.iaload, 1) := by decide +kernel
theorem dX12_keepMatches_166 : decode cX12_keepMatches 166 = .ok (.invokevirtual 339, 3) := by decide +kernel
theorem dX12_keepMatches_169 : decode cX12_keepMatches 169 = .ok (.iinc 4 1, 3) := by decide +kernel
theorem dX12_keepMatches_172 : decode cX12_keepMatches 172 = .ok (.goto (-127), 3) := by decide +kernel
theorem dX12_keepMatches_175 : decode cX12_keepMatches 175 = .ok (.iconst 0, 1) := by decide +kernel
theorem dX12_keepMatches_176 : decode cX12_keepMatches 176 = .ok (.istore 4, 2) := by decide +kernel
theorem dX12_keepMatches_178 : decode cX12_keepMatches 178 = .ok (.iconst 0, 1) := by decide +kernel
theorem dX12_keepMatches_179 : decode cX12_keepMatches 179 = .ok (.istore 5, 2) := by decide +kernel
theorem dX12_keepMatches_181 : decode cX12_keepMatches 181 = .ok (.iload 5, 2) := by decide +kernel
theorem dX12_keepMatches_183 : decode cX12_keepMatches 183 = .ok (.aload_n 0, 1) := by decide +kernel
theorem dX12_keepMatches_184 : decode cX12_keepMatches 184 = .ok (.getfield 309, 3) := by decide +kernel
theorem dX12_keepMatches_187 : decode cX12_keepMatches 187 = .ok (.if_icmp .ge 34, 3) := by decide +kernel
theorem dX12_keepMatches_190 : decode cX12_keepMatches 190 = .ok (.iload_n 3, 1) := by decide +kernel
theorem dX12_keepMatches_191 : decode cX12_keepMatches 191 = .ok (.ifCond .ne 30, 3) := by decide +kernel
theorem dX12_keepMatches_194 : decode cX12_keepMatches 194 = .ok (.aload_n 0, 1) := by decide +kernel
theorem dX12_keepMatches_195 : decode cX12_keepMatches 195 = .ok (.getfield 110, 3) := by decide +kernel
theorem dX12_keepMatches_198 : decode cX12_keepMatches 198 = .ok (.iload 5, 2) := by decide +kernel
theorem dX12_keepMatches_200 : decode cX12_keepMatches 200 = .ok (.iload 4, 2) := by decide +kernel
theorem dX12_keepMatches_202 : decode cX12_keepMatches 202 = .ok (.iastore, 1) := by decide +kernel
theorem dX12_keepMatches_203 : decode cX12_keepMatches 203 = .ok (.iload 4, 2) := by decide +kernel
theorem dX12_keepMatches_205 : decode cX12_keepMatches 205 = .ok (.aload_n 0, 1) := by decide +kernel
theorem dX12_keepMatches_206 : decode cX12_keepMatches 206 = .ok (.getfield 113, 3) := by decide +kernel
theorem dX12_keepMatches_209 : decode cX12_keepMatches 209 = .ok (.iload 5, 2) := by decide +kernel
theorem dX12_keepMatches_211 : decode cX12_keepMatches 211 = .ok (.iaload, 1) := by decide +kernel
theorem dX12_keepMatches_212 : decode cX12_keepMatches 212 = .ok (.iadd, 1) := by decide +kernel
theorem dX12_keepMatches_213 : decode cX12_keepMatches 213 = .ok (.istore 4, 2) := by decide +kernel
theorem dX12_keepMatches_215 : decode cX12_keepMatches 215 = .ok (.iinc 5 1, 3) := by decide +kernel
theorem dX12_keepMatches_218 : decode cX12_keepMatches 218 = .ok (.goto (-37), 3) := by decide +kernel
theorem dX12_keepMatches_221 : decode cX12_keepMatches 221 = .ok (.iinc 3 1, 3) := by decide +kernel
theorem dX12_keepMatches_224 : decode cX12_keepMatches 224 = .ok (.goto (-199), 3) := by decide +kernel
theorem dX12_keepMatches_227 : decode cX12_keepMatches 227 = .ok (.return_, 1) := by decide +kernel
theorem dX12_keepParts_0 : decode cX12_keepParts 0 = .ok (.aload_n 0, 1) := by decide +kernel
theorem dX12_keepParts_1 : decode cX12_keepParts 1 = .ok (.getfield 38, 3) := by decide +kernel
theorem dX12_keepParts_4 : decode cX12_keepParts 4 = .ok (.iload_n 1, 1) := by decide +kernel
theorem dX12_keepParts_5 : decode cX12_keepParts 5 = .ok (.iaload, 1) := by decide +kernel
theorem dX12_keepParts_6 : decode cX12_keepParts 6 = .ok (.istore 5, 2) := by decide +kernel
theorem dX12_keepParts_8 : decode cX12_keepParts 8 = .ok (.iload 5, 2) := by decide +kernel
theorem dX12_keepParts_10 : decode cX12_keepParts 10 = .ok (.iload_n 3, 1) := by decide +kernel
theorem dX12_keepParts_11 : decode cX12_keepParts 11 = .ok (.if_icmp .le 19, 3) := by decide +kernel
theorem dX12_keepParts_14 : decode cX12_keepParts 14 = .ok (.aload_n 0, 1) := by decide +kernel
theorem dX12_keepParts_15 : decode cX12_keepParts 15 = .ok (.iload_n 1, 1) := by decide +kernel
theorem dX12_keepParts_16 : decode cX12_keepParts 16 = .ok (.iload 5, 2) := by decide +kernel
theorem dX12_keepParts_18 : decode cX12_keepParts 18 = .ok (.iconst 1, 1) := by decide +kernel
theorem dX12_keepParts_19 : decode cX12_keepParts 19 = .ok (.isub, 1) := by decide +kernel
theorem dX12_keepParts_20 : decode cX12_keepParts 20 = .ok (.invokevirtual 321, 3) := by decide +kernel
theorem dX12_keepParts_23 : decode cX12_keepParts 23 = .ok (.ifCond .eq 7, 3) := by decide +kernel
theorem dX12_keepParts_26 : decode cX12_keepParts 26 = .ok (.iconst 1, 1) := by decide +kernel
theorem dX12_keepParts_27 : decode cX12_keepParts 27 = .ok (.goto 4, 3) := by decide +kernel
theorem dX12_keepParts_30 : decode cX12_keepParts 30 = .ok (.iconst 0, 1) := by decide +kernel
theorem dX12_keepParts_31 : decode cX12_keepParts 31 = .ok (.istore 6, 2) := by decide +kernel
theorem dX12_keepParts_33 : decode cX12_keepParts 33 = .ok (.iload 6, 2) := by decide +kernel
theorem dX12_keepParts_35 : decode cX12_keepParts 35 = .ok (.ifCond .eq 10, 3) := by decide +kernel
theorem dX12_keepParts_38 : decode cX12_keepParts 38 = .ok (.iload 5, 2) := by decide +kernel
theorem dX12_keepParts_40 : decode cX12_keepParts 40 = .ok (.iconst 2, 1) := by decide +kernel
theorem dX12_keepParts_41 : decode cX12_keepParts 41 = .ok (.isub, 1) := by decide +kernel
theorem dX12_keepParts_42 : decode cX12_keepParts 42 = .ok (.goto 5, 3) := by decide +kernel
theorem dX12_keepParts_45 : decode cX12_keepParts 45 = .ok (.iload 5, 2) := by decide +kernel
theorem dX12_keepParts_47 : decode cX12_keepParts 47 = .ok (.istore 7, 2) := by decide +kernel
theorem dX12_keepParts_49 : decode cX12_keepParts 49 = .ok (.iload 6, 2) := by decide +kernel
theorem dX12_keepParts_51 : decode cX12_keepParts 51 = .ok (.ifCond .eq 23, 3) := by decide +kernel
theorem dX12_keepParts_54 : decode cX12_keepParts 54 = .ok (.aload_n 0, 1) := by decide +kernel
theorem dX12_keepParts_55 : decode cX12_keepParts 55 = .ok (.aload_n 0, 1) := by decide +kernel
theorem dX12_keepParts_56 : decode cX12_keepParts 56 = .ok (.iload_n 1, 1) := by decide +kernel
theorem dX12_keepParts_57 : decode cX12_keepParts 57 = .ok (.iload 7, 2) := by decide +kernel
theorem dX12_keepParts_59 : decode cX12_keepParts 59 = .ok (.invokevirtual 192, 3) := by decide +kernel
theorem dX12_keepParts_62 : decode cX12_keepParts 62 = .ok (.aload_n 0, 1) := by decide +kernel
theorem dX12_keepParts_63 : decode cX12_keepParts 63 = .ok (.getfield 38, 3) := by decide +kernel
theorem dX12_keepParts_66 : decode cX12_keepParts 66 = .ok (.iload_n 2, 1) := by decide +kernel
theorem dX12_keepParts_67 : decode cX12_keepParts 67 = .ok (.iaload, 1) := by decide +kernel
theorem dX12_keepParts_68 : decode cX12_keepParts 68 = .ok (.iload 7, 2) := by decide +kernel
theorem dX12_keepParts_70 : decode cX12_keepParts 70 = .ok (.isub, 1) := by decide +kernel
theorem dX12_keepParts_71 : decode cX12_keepParts 71 = .ok (.invokevirtual 342, 3) := by decide +kernel
theorem dX12_keepParts_74 : decode cX12_keepParts 74 = .ok (.iload_n 3, 1) := by decide +kernel
theorem dX12_keepParts_75 : decode cX12_keepParts 75 = .ok (.istore 8, 2) := by decide +kernel
theorem dX12_keepParts_77 : decode cX12_keepParts 77 = .ok (.iload 8, 2) := by decide +kernel
theorem dX12_keepParts_79 : decode cX12_keepParts 79 = .ok (.aload_n 0, 1) := by decide +kernel
theorem dX12_keepParts_80 : decode cX12_keepParts 80 = .ok (.getfield 38, 3) := by decide +kernel
theorem dX12_keepParts_83 : decode cX12_keepParts 83 = .ok (.iload_n 2, 1) := by decide +kernel
theorem dX12_keepParts_84 : decode cX12_keepParts 84 = .ok (.iaload, 1) := by decide +kernel
theorem dX12_keepParts_85 : decode cX12_keepParts 85 = .ok (.if_icmp .ge 56, 3) := by decide +kernel
theorem dX12_keepParts_88 : decode cX12_keepParts 88 = .ok (.aload_n 0, 1) := by decide +kernel
theorem dX12_keepParts_89 : decode cX12_keepParts 89 = .ok (.aload_n 0, 1) := by decide +kernel
theorem dX12_keepParts_90 : decode cX12_keepParts 90 = .ok (.iload_n 1, 1) := by decide +kernel
theorem dX12_keepParts_91 : decode cX12_keepParts 91 = .ok (.iload 8, 2) := by decide +kernel
theorem dX12_keepParts_93 : decode cX12_keepParts 93 = .ok (.iload 7, 2) := by decide +kernel
theorem dX12_keepParts_95 : decode cX12_keepParts 95 = .ok (.if_icmp .ge 8, 3) := by decide +kernel
theorem dX12_keepParts_98 : decode cX12_keepParts 98 = .ok (.iload 8, 2) := by decide +kernel
theorem dX12_keepParts_100 : decode cX12_keepParts 100 = .ok (.goto 5, 3) := by decide +kernel
theorem dX12_keepParts_103 : decode cX12_keepParts 103 = .ok (.iload 7, 2) := by decide +kernel
theorem dX12_keepParts_105 : decode cX12_keepParts 105 = .ok (.invokevirtual 192, 3) := by decide +kernel
theorem dX12_keepParts_108 : decode cX12_keepParts 108 = .ok (.iload 8, 2) := by decide +kernel
theorem dX12_keepParts_110 : decode cX12_keepParts 110 = .ok (.iload 7, 2) := by decide +kernel
theorem dX12_keepParts_112 : decode cX12_keepParts 112 = .ok (.if_icmp .ge 8, 3) := by decide +kernel
theorem dX12_keepParts_115 : decode cX12_keepParts 115 = .ok (.iload 4, 2) := by decide +kernel
theorem dX12_keepParts_117 : decode cX12_keepParts 117 = .ok (.goto 8, 3) := by decide +kernel
theorem dX12_keepParts_120 : decode cX12_keepParts 120 = .ok (.iload 8, 2) := by decide +kernel
theorem dX12_keepParts_122 : decode cX12_keepParts 122 = .ok (.iload 7, 2) := by decide +kernel
theorem dX12_keepParts_124 : decode cX12_keepParts 124 = .ok (.isub, 1) := by decide +kernel
theorem dX12_keepParts_125 : decode cX12_keepParts 125 = .ok (.aload_n 0, 1) := by decide +kernel
theorem dX12_keepParts_126 : decode cX12_keepParts 126 = .ok (.iload_n 2, 1) := by decide +kernel
theorem dX12_keepParts_127 : decode cX12_keepParts 127 = .ok (.iload 8, 2) := by decide +kernel
theorem dX12_keepParts_129 : decode cX12_keepParts 129 = .ok (.invokevirtual 192, 3) := by decide +kernel
theorem dX12_keepParts_132 : decode cX12_keepParts 132 = .ok (.invokevirtual 318, 3) := by decide +kernel
theorem dX12_keepParts_135 : decode cX12_keepParts 135 = .ok (.iinc 8 1, 3) := by decide +kernel
theorem dX12_keepParts_138 : decode cX12_keepParts 138 = .ok (.goto (-61), 3) := by decide +kernel
theorem dX12_keepParts_141 : decode cX12_keepParts 141 = .ok (.return_, 1) := by decide +kernel
theorem dX12_use_0 : decode cX12_use 0 = .ok (.aload_n 0, 1) := by decide +kernel
theorem dX12_use_1 : decode cX12_use 1 = .ok (.aload_n 0, 1) := by decide +kernel
theorem dX12_use_2 : decode cX12_use 2 = .ok (.getfield 345, 3) := by decide +kernel
theorem dX12_use_5 : decode cX12_use 5 = .ok (.bipush 100, 2) := by decide +kernel
theorem dX12_use_7 : decode cX12_use 7 = .ok (.if_icmp .ge 7, 3) := by decide +kernel
theorem dX12_use_10 : decode cX12_use 10 = .ok (.iconst 1, 1) := by decide +kernel
theorem dX12_use_11 : decode cX12_use 11 = .ok (.goto 4, 3) := by decide +kernel
theorem dX12_use_14 : decode cX12_use 14 = .ok (.iconst 0, 1) := by decide +kernel
theorem dX12_use_15 : decode cX12_use 15 = .ok (.iconst 2, 1) := by decide +kernel
theorem dX12_use_16 : decode cX12_use 16 = .ok (.invokevirtual 255, 3) := by decide +kernel
theorem dX12_use_19 : decode cX12_use 19 = .ok (.ifCond .ne 4, 3) := by decide +kernel
theorem dX12_use_22 : decode cX12_use 22 = .ok (.return_, 1) := by decide +kernel
theorem dX12_use_23 : decode cX12_use 23 = .ok (.aload_n 0, 1) := by decide +kernel
theorem dX12_use_24 : decode cX12_use 24 = .ok (.dup, 1) := by decide +kernel
theorem dX12_use_25 : decode cX12_use 25 = .ok (.getfield 345, 3) := by decide +kernel
theorem dX12_use_28 : decode cX12_use 28 = .ok (.iconst 1, 1) := by decide +kernel
theorem dX12_use_29 : decode cX12_use 29 = .ok (.iadd, 1) := by decide +kernel
theorem dX12_use_30 : decode cX12_use 30 = .ok (.putfield 345, 3) := by decide +kernel
theorem dX12_use_33 : decode cX12_use 33 = .ok (.iconst (-1), 1) := by decide +kernel
theorem dX12_use_34 : decode cX12_use 34 = .ok (.istore 6, 2) := by decide +kernel
theorem dX12_use_36 : decode cX12_use 36 = .ok (.iconst 2, 1) := by decide +kernel
theorem dX12_use_37 : decode cX12_use 37 = .ok (.istore 7, 2) := by decide +kernel
theorem dX12_use_39 : decode cX12_use 39 = .ok (.iload 7, 2) := by decide +kernel
theorem dX12_use_41 : decode cX12_use 41 = .ok (.aload_n 0, 1) := by decide +kernel
theorem dX12_use_42 : decode cX12_use 42 = .ok (.getfield 38, 3) := by decide +kernel
theorem dX12_use_45 : decode cX12_use 45 = .ok (.iload_n 1, 1) := by decide +kernel
theorem dX12_use_46 : decode cX12_use 46 = .ok (.iaload, 1) := by decide +kernel
theorem dX12_use_47 : decode cX12_use 47 = .ok (.if_icmp .ge 50, 3) := by decide +kernel
theorem dX12_use_50 : decode cX12_use 50 = .ok (.iload 6, 2) := by decide +kernel
theorem dX12_use_52 : decode cX12_use 52 = .ok (.ifCond .ge 45, 3) := by decide +kernel
theorem dX12_use_55 : decode cX12_use 55 = .ok (.aload_n 0, 1) := by decide +kernel
theorem dX12_use_56 : decode cX12_use 56 = .ok (.iload_n 1, 1) := by decide +kernel
theorem dX12_use_57 : decode cX12_use 57 = .ok (.iload 7, 2) := by decide +kernel
theorem dX12_use_59 : decode cX12_use 59 = .ok (.invokevirtual 192, 3) := by decide +kernel
theorem dX12_use_62 : decode cX12_use 62 = .ok (.istore 8, 2) := by decide +kernel
theorem dX12_use_64 : decode cX12_use 64 = .ok (.aload_n 0, 1) := by decide +kernel
theorem dX12_use_65 : decode cX12_use 65 = .ok (.iload_n 1, 1) := by decide +kernel
theorem dX12_use_66 : decode cX12_use 66 = .ok (.iload_n 2, 1) := by decide +kernel
theorem dX12_use_67 : decode cX12_use 67 = .ok (.aload_n 0, 1) := by decide +kernel
theorem dX12_use_68 : decode cX12_use 68 = .ok (.iload 8, 2) := by decide +kernel
theorem dX12_use_70 : decode cX12_use 70 = .ok (.iconst 0, 1) := by decide +kernel
theorem dX12_use_71 : decode cX12_use 71 = .ok (.invokevirtual 192, 3) := by decide +kernel
theorem dX12_use_74 : decode cX12_use 74 = .ok (.iload_n 3, 1) := by decide +kernel
theorem dX12_use_75 : decode cX12_use 75 = .ok (.iload 4, 2) := by decide +kernel
theorem dX12_use_77 : decode cX12_use 77 = .ok (.invokevirtual 348, 3) := by decide +kernel
theorem dX12_use_80 : decode cX12_use 80 = .ok (.ifCond .eq 8, 3) := by decide +kernel
theorem dX12_use_83 : decode cX12_use 83 = .ok (.iload 8, 2) := by decide +kernel
theorem dX12_use_85 : decode cX12_use 85 = .ok (.goto 4, 3) := by decide +kernel
theorem dX12_use_88 : decode cX12_use 88 = .ok (.iconst (-1), 1) := by decide +kernel
theorem dX12_use_89 : decode cX12_use 89 = .ok (.istore 6, 2) := by decide +kernel
theorem dX12_use_91 : decode cX12_use 91 = .ok (.iinc 7 1, 3) := by decide +kernel
theorem dX12_use_94 : decode cX12_use 94 = .ok (.goto (-55), 3) := by decide +kernel
theorem dX12_use_97 : decode cX12_use 97 = .ok (.aload_n 0, 1) := by decide +kernel
theorem dX12_use_98 : decode cX12_use 98 = .ok (.iload 6, 2) := by decide +kernel
theorem dX12_use_100 : decode cX12_use 100 = .ok (.ifCond .lt 7, 3) := by decide +kernel
theorem dX12_use_103 : decode cX12_use 103 = .ok (.iconst 1, 1) := by decide +kernel
theorem dX12_use_104 : decode cX12_use 104 = .ok (.goto 4, 3) := by decide +kernel
theorem dX12_use_107 : decode cX12_use 107 = .ok (.iconst 0, 1) := by decide +kernel
theorem dX12_use_108 : decode cX12_use 108 = .ok (.iconst 5, 1) := by decide +kernel
theorem dX12_use_109 : decode cX12_use 109 = .ok (.invokevirtual 255, 3) := by decide +kernel
theorem dX12_use_112 : decode cX12_use 112 = .ok (.ifCond .ne 4, 3) := by decide +kernel
theorem dX12_use_115 : decode cX12_use 115 = .ok (.return_, 1) := by decide +kernel
theorem dX12_use_116 : decode cX12_use 116 = .ok (.aload_n 0, 1) := by decide +kernel
theorem dX12_use_117 : decode cX12_use 117 = .ok (.iload_n 1, 1) := by decide +kernel
theorem dX12_use_118 : decode cX12_use 118 = .ok (.aload_n 0, 1) := by decide +kernel
theorem dX12_use_119 : decode cX12_use 119 = .ok (.iload 6, 2) := by decide +kernel
theorem dX12_use_121 : decode cX12_use 121 = .ok (.iconst 0, 1) := by decide +kernel
theorem dX12_use_122 : decode cX12_use 122 = .ok (.invokevirtual 192, 3) := by decide +kernel
theorem dX12_use_125 : decode cX12_use 125 = .ok (.invokevirtual 312, 3) := by decide +kernel
theorem dX12_use_128 : decode cX12_use 128 = .ok (.istore 7, 2) := by decide +kernel
theorem dX12_use_130 : decode cX12_use 130 = .ok (.aload_n 0, 1) := by decide +kernel
theorem dX12_use_131 : decode cX12_use 131 = .ok (.aload_n 0, 1) := by decide +kernel
theorem dX12_use_132 : decode cX12_use 132 = .ok (.iload 6, 2) := by decide +kernel
theorem dX12_use_134 : decode cX12_use 134 = .ok (.iconst 0, 1) := by decide +kernel
theorem dX12_use_135 : decode cX12_use 135 = .ok (.invokevirtual 192, 3) := by decide +kernel
theorem dX12_use_138 : decode cX12_use 138 = .ok (.iload_n 3, 1) := by decide +kernel
theorem dX12_use_139 : decode cX12_use 139 = .ok (.invokevirtual 352, 3) := by decide +kernel
theorem dX12_use_142 : decode cX12_use 142 = .ok (.aload_n 0, 1) := by decide +kernel
theorem dX12_use_143 : decode cX12_use 143 = .ok (.iload 6, 2) := by decide +kernel
theorem dX12_use_145 : decode cX12_use 145 = .ok (.iconst 1, 1) := by decide +kernel
theorem dX12_use_146 : decode cX12_use 146 = .ok (.invokevirtual 192, 3) := by decide +kernel
theorem dX12_use_149 : decode cX12_use 149 = .ok (.istore 8, 2) := by decide +kernel
theorem dX12_use_151 : decode cX12_use 151 = .ok (.aload_n 0, 1) := by decide +kernel
theorem dX12_use_152 : decode cX12_use 152 = .ok (.aload_n 0, 1) := by decide +kernel
theorem dX12_use_153 : decode cX12_use 153 = .ok (.iload 8, 2) := by decide +kernel
theorem dX12_use_155 : decode cX12_use 155 = .ok (.invokevirtual 355, 3) := by decide +kernel
theorem dX12_use_158 : decode cX12_use 158 = .ok (.bipush 6, 2) := by decide +kernel
theorem dX12_use_160 : decode cX12_use 160 = .ok (.invokevirtual 255, 3) := by decide +kernel
theorem dX12_use_163 : decode cX12_use 163 = .ok (.ifCond .eq 74, 3) := by decide +kernel
theorem dX12_use_166 : decode cX12_use 166 = .ok (.aload_n 0, 1) := by decide +kernel
theorem dX12_use_167 : decode cX12_use 167 = .ok (.aload_n 0, 1) := by decide +kernel
theorem dX12_use_168 : decode cX12_use 168 = .ok (.iload 8, 2) := by decide +kernel
theorem dX12_use_170 : decode cX12_use 170 = .ok (.invokevirtual 358, 3) := by decide +kernel
theorem dX12_use_173 : decode cX12_use 173 = .ok (.sipush 600, 3) := by decide +kernel
theorem dX12_use_176 : decode cX12_use 176 = .ok (.if_icmp .gt 7, 3) := by decide +kernel
theorem dX12_use_179 : decode cX12_use 179 = .ok (.iconst 1, 1) := by decide +kernel
theorem dX12_use_180 : decode cX12_use 180 = .ok (.goto 4, 3) := by decide +kernel
theorem dX12_use_183 : decode cX12_use 183 = .ok (.iconst 0, 1) := by decide +kernel
theorem dX12_use_184 : decode cX12_use 184 = .ok (.iconst 2, 1) := by decide +kernel
theorem dX12_use_185 : decode cX12_use 185 = .ok (.invokevirtual 255, 3) := by decide +kernel
theorem dX12_use_188 : decode cX12_use 188 = .ok (.ifCond .eq 49, 3) := by decide +kernel
theorem dX12_use_191 : decode cX12_use 191 = .ok (.aload_n 0, 1) := by decide +kernel
theorem dX12_use_192 : decode cX12_use 192 = .ok (.iload 8, 2) := by decide +kernel
theorem dX12_use_194 : decode cX12_use 194 = .ok (.iload_n 2, 1) := by decide +kernel
theorem dX12_use_195 : decode cX12_use 195 = .ok (.invokevirtual 361, 3) := by decide +kernel
theorem dX12_use_198 : decode cX12_use 198 = .ok (.istore 9, 2) := by decide +kernel
theorem dX12_use_200 : decode cX12_use 200 = .ok (.aload_n 0, 1) := by decide +kernel
theorem dX12_use_201 : decode cX12_use 201 = .ok (.aload_n 0, 1) := by decide +kernel
theorem dX12_use_202 : decode cX12_use 202 = .ok (.iload 9, 2) := by decide +kernel
theorem dX12_use_204 : decode cX12_use 204 = .ok (.invokevirtual 364, 3) := by decide +kernel
theorem dX12_use_207 : decode cX12_use 207 = .ok (.bipush 61, 2) := by decide +kernel
theorem dX12_use_209 : decode cX12_use 209 = .ok (.if_icmp .gt 7, 3) := by decide +kernel
theorem dX12_use_212 : decode cX12_use 212 = .ok (.iconst 1, 1) := by decide +kernel
theorem dX12_use_213 : decode cX12_use 213 = .ok (.goto 4, 3) := by decide +kernel
theorem dX12_use_216 : decode cX12_use 216 = .ok (.iconst 0, 1) := by decide +kernel
theorem dX12_use_217 : decode cX12_use 217 = .ok (.iconst 2, 1) := by decide +kernel
theorem dX12_use_218 : decode cX12_use 218 = .ok (.invokevirtual 255, 3) := by decide +kernel
theorem dX12_use_221 : decode cX12_use 221 = .ok (.ifCond .eq 16, 3) := by decide +kernel
theorem dX12_use_224 : decode cX12_use 224 = .ok (.aload_n 0, 1) := by decide +kernel
theorem dX12_use_225 : decode cX12_use 225 = .ok (.iconst 0, 1) := by decide +kernel
theorem dX12_use_226 : decode cX12_use 226 = .ok (.iload 9, 2) := by decide +kernel
theorem dX12_use_228 : decode cX12_use 228 = .ok (.iload 4, 2) := by decide +kernel
theorem dX12_use_230 : decode cX12_use 230 = .ok (.iload 5, 2) := by decide +kernel
theorem dX12_use_232 : decode cX12_use 232 = .ok (.iconst 1, 1) := by decide +kernel
theorem dX12_use_233 : decode cX12_use 233 = .ok (.iadd, 1) := by decide +kernel
theorem dX12_use_234 : decode cX12_use 234 = .ok (.invokevirtual 232, 3) := by decide +kernel
theorem dX12_use_237 : decode cX12_use 237 = .ok (.return_, 1) := by decide +kernel
theorem dX12_turnsOf_0 : decode cX12_turnsOf 0 = .ok (.iconst 1, 1) := by decide +kernel
theorem dX12_turnsOf_1 : decode cX12_turnsOf 1 = .ok (.istore_n 2, 1) := by decide +kernel
theorem dX12_turnsOf_2 : decode cX12_turnsOf 2 = .ok (.aload_n 0, 1) := by decide +kernel
theorem dX12_turnsOf_3 : decode cX12_turnsOf 3 = .ok (.getfield 107, 3) := by decide +kernel
theorem dX12_turnsOf_6 : decode cX12_turnsOf 6 = .ok (.iconst 0, 1) := by decide +kernel
theorem dX12_turnsOf_7 : decode cX12_turnsOf 7 = .ok (.iload_n 1, 1) := by decide +kernel
theorem dX12_turnsOf_8 : decode cX12_turnsOf 8 = .ok (.iastore, 1) := by decide +kernel
theorem dX12_turnsOf_9 : decode cX12_turnsOf 9 = .ok (.iconst (-1), 1) := by decide +kernel
theorem dX12_turnsOf_10 : decode cX12_turnsOf 10 = .ok (.istore_n 3, 1) := by decide +kernel
theorem dX12_turnsOf_11 : decode cX12_turnsOf 11 = .ok (.iload_n 2, 1) := by decide +kernel
theorem dX12_turnsOf_12 : decode cX12_turnsOf 12 = .ok (.ifCond .le 101, 3) := by decide +kernel
theorem dX12_turnsOf_15 : decode cX12_turnsOf 15 = .ok (.iinc 2 (-1), 3) := by decide +kernel
theorem dX12_turnsOf_18 : decode cX12_turnsOf 18 = .ok (.aload_n 0, 1) := by decide +kernel
theorem dX12_turnsOf_19 : decode cX12_turnsOf 19 = .ok (.getfield 107, 3) := by decide +kernel
theorem dX12_turnsOf_22 : decode cX12_turnsOf 22 = .ok (.iload_n 2, 1) := by decide +kernel
theorem dX12_turnsOf_23 : decode cX12_turnsOf 23 = .ok (.iaload, 1) := by decide +kernel
theorem dX12_turnsOf_24 : decode cX12_turnsOf 24 = .ok (.istore 4, 2) := by decide +kernel
theorem dX12_turnsOf_26 : decode cX12_turnsOf 26 = .ok (.aload_n 0, 1) := by decide +kernel
theorem dX12_turnsOf_27 : decode cX12_turnsOf 27 = .ok (.iload 4, 2) := by decide +kernel
theorem dX12_turnsOf_29 : decode cX12_turnsOf 29 = .ok (.invokevirtual 330, 3) := by decide +kernel
theorem dX12_turnsOf_32 : decode cX12_turnsOf 32 = .ok (.ifCond .eq 40, 3) := by decide +kernel
theorem dX12_turnsOf_35 : decode cX12_turnsOf 35 = .ok (.aload_n 0, 1) := by decide +kernel
theorem dX12_turnsOf_36 : decode cX12_turnsOf 36 = .ok (.getfield 113, 3) := by decide +kernel
theorem dX12_turnsOf_39 : decode cX12_turnsOf 39 = .ok (.aload_n 0, 1) := by decide +kernel
theorem dX12_turnsOf_40 : decode cX12_turnsOf 40 = .ok (.aload_n 0, 1) := by decide +kernel
theorem dX12_turnsOf_41 : decode cX12_turnsOf 41 = .ok (.getfield 35, 3) := by decide +kernel
theorem dX12_turnsOf_44 : decode cX12_turnsOf 44 = .ok (.iload 4, 2) := by decide +kernel
theorem dX12_turnsOf_46 : decode cX12_turnsOf 46 = .ok (.iaload, 1) := by decide +kernel
theorem dX12_turnsOf_47 : decode cX12_turnsOf 47 = .ok (.invokevirtual 327, 3) := by decide +kernel
theorem dX12_turnsOf_50 : decode cX12_turnsOf 50 = .ok (.iaload, 1) := by decide +kernel
theorem dX12_turnsOf_51 : decode cX12_turnsOf 51 = .ok (.istore 5, 2) := by decide +kernel
theorem dX12_turnsOf_53 : decode cX12_turnsOf 53 = .ok (.iload_n 3, 1) := by decide +kernel
theorem dX12_turnsOf_54 : decode cX12_turnsOf 54 = .ok (.iconst (-1), 1) := by decide +kernel
theorem dX12_turnsOf_55 : decode cX12_turnsOf 55 = .ok (.if_icmp .eq 9, 3) := by decide +kernel
theorem dX12_turnsOf_58 : decode cX12_turnsOf 58 = .ok (.iload_n 3, 1) := by decide +kernel
theorem dX12_turnsOf_59 : decode cX12_turnsOf 59 = .ok (.iload 5, 2) := by decide +kernel
theorem dX12_turnsOf_61 : decode cX12_turnsOf 61 = .ok (.if_icmp .ne 8, 3) := by decide +kernel
theorem dX12_turnsOf_64 : decode cX12_turnsOf 64 = .ok (.iload 5, 2) := by decide +kernel
theorem dX12_turnsOf_66 : decode cX12_turnsOf 66 = .ok (.goto 5, 3) := by decide +kernel
theorem dX12_turnsOf_69 : decode cX12_turnsOf 69 = .ok (.bipush (-2), 2) := by decide +kernel
theorem dX12_turnsOf_71 : decode cX12_turnsOf 71 = .ok (.istore_n 3, 1) := by decide +kernel
theorem dX12_turnsOf_72 : decode cX12_turnsOf 72 = .ok (.iconst 0, 1) := by decide +kernel
theorem dX12_turnsOf_73 : decode cX12_turnsOf 73 = .ok (.istore 5, 2) := by decide +kernel
theorem dX12_turnsOf_75 : decode cX12_turnsOf 75 = .ok (.iload 5, 2) := by decide +kernel
theorem dX12_turnsOf_77 : decode cX12_turnsOf 77 = .ok (.aload_n 0, 1) := by decide +kernel
theorem dX12_turnsOf_78 : decode cX12_turnsOf 78 = .ok (.getfield 38, 3) := by decide +kernel
theorem dX12_turnsOf_81 : decode cX12_turnsOf 81 = .ok (.iload 4, 2) := by decide +kernel
theorem dX12_turnsOf_83 : decode cX12_turnsOf 83 = .ok (.iaload, 1) := by decide +kernel
theorem dX12_turnsOf_84 : decode cX12_turnsOf 84 = .ok (.if_icmp .ge 26, 3) := by decide +kernel
theorem dX12_turnsOf_87 : decode cX12_turnsOf 87 = .ok (.aload_n 0, 1) := by decide +kernel
theorem dX12_turnsOf_88 : decode cX12_turnsOf 88 = .ok (.getfield 107, 3) := by decide +kernel
theorem dX12_turnsOf_91 : decode cX12_turnsOf 91 = .ok (.iload_n 2, 1) := by decide +kernel
theorem dX12_turnsOf_92 : decode cX12_turnsOf 92 = .ok (.aload_n 0, 1) := by decide +kernel
theorem dX12_turnsOf_93 : decode cX12_turnsOf 93 = .ok (.iload 4, 2) := by decide +kernel
theorem dX12_turnsOf_95 : decode cX12_turnsOf 95 = .ok (.iload 5, 2) := by decide +kernel
theorem dX12_turnsOf_97 : decode cX12_turnsOf 97 = .ok (.invokevirtual 192, 3) := by decide +kernel
theorem dX12_turnsOf_100 : decode cX12_turnsOf 100 = .ok (.iastore, 1) := by decide +kernel
theorem dX12_turnsOf_101 : decode cX12_turnsOf 101 = .ok (.iinc 2 1, 3) := by decide +kernel
theorem dX12_turnsOf_104 : decode cX12_turnsOf 104 = .ok (.iinc 5 1, 3) := by decide +kernel
theorem dX12_turnsOf_107 : decode cX12_turnsOf 107 = .ok (.goto (-32), 3) := by decide +kernel
theorem dX12_turnsOf_110 : decode cX12_turnsOf 110 = .ok (.goto (-99), 3) := by decide +kernel
theorem dX12_turnsOf_113 : decode cX12_turnsOf 113 = .ok (.iload_n 3, 1) := by decide +kernel
theorem dX12_turnsOf_114 : decode cX12_turnsOf 114 = .ok (.ireturn, 1) := by decide +kernel
theorem dX12_areCountsAlike_0 : decode cX12_areCountsAlike 0 = .ok (.aload_n 0, 1) := by decide +kernel
theorem dX12_areCountsAlike_1 : decode cX12_areCountsAlike 1 = .ok (.iconst 0, 1) := by decide +kernel
theorem dX12_areCountsAlike_2 : decode cX12_areCountsAlike 2 = .ok (.putfield 306, 3) := by decide +kernel
theorem dX12_areCountsAlike_5 : decode cX12_areCountsAlike 5 = .ok (.aload_n 0, 1) := by decide +kernel
theorem dX12_areCountsAlike_6 : decode cX12_areCountsAlike 6 = .ok (.iload_n 1, 1) := by decide +kernel
theorem dX12_areCountsAlike_7 : decode cX12_areCountsAlike 7 = .ok (.iconst 0, 1) := by decide +kernel
theorem dX12_areCountsAlike_8 : decode cX12_areCountsAlike 8 = .ok (.iconst 0, 1) := by decide +kernel
theorem dX12_areCountsAlike_9 : decode cX12_areCountsAlike 9 = .ok (.invokevirtual 318, 3) := by decide +kernel
theorem dX12_areCountsAlike_12 : decode cX12_areCountsAlike 12 = .ok (.iconst 1, 1) := by decide +kernel
theorem dX12_areCountsAlike_13 : decode cX12_areCountsAlike 13 = .ok (.istore_n 2, 1) := by decide +kernel
theorem dX12_areCountsAlike_14 : decode cX12_areCountsAlike 14 = .ok (.iconst 0, 1) := by decide +kernel
theorem dX12_areCountsAlike_15 : decode cX12_areCountsAlike 15 = .ok (.istore_n 3, 1) := by decide +kernel
theorem dX12_areCountsAlike_16 : decode cX12_areCountsAlike 16 = .ok (.iload_n 3, 1) := by decide +kernel
theorem dX12_areCountsAlike_17 : decode cX12_areCountsAlike 17 = .ok (.aload_n 0, 1) := by decide +kernel
theorem dX12_areCountsAlike_18 : decode cX12_areCountsAlike 18 = .ok (.getfield 306, 3) := by decide +kernel
theorem dX12_areCountsAlike_21 : decode cX12_areCountsAlike 21 = .ok (.if_icmp .ge 97, 3) := by decide +kernel
theorem dX12_areCountsAlike_24 : decode cX12_areCountsAlike 24 = .ok (.iload_n 2, 1) := by decide +kernel
theorem dX12_areCountsAlike_25 : decode cX12_areCountsAlike 25 = .ok (.ifCond .eq 93, 3) := by decide +kernel
theorem dX12_areCountsAlike_28 : decode cX12_areCountsAlike 28 = .ok (.aload_n 0, 1) := by decide +kernel
theorem dX12_areCountsAlike_29 : decode cX12_areCountsAlike 29 = .ok (.getfield 98, 3) := by decide +kernel
theorem dX12_areCountsAlike_32 : decode cX12_areCountsAlike 32 = .ok (.iload_n 3, 1) := by decide +kernel
theorem dX12_areCountsAlike_33 : decode cX12_areCountsAlike 33 = .ok (.iaload, 1) := by decide +kernel
theorem dX12_areCountsAlike_34 : decode cX12_areCountsAlike 34 = .ok (.istore 4, 2) := by decide +kernel
theorem dX12_areCountsAlike_36 : decode cX12_areCountsAlike 36 = .ok (.iconst 0, 1) := by decide +kernel
theorem dX12_areCountsAlike_37 : decode cX12_areCountsAlike 37 = .ok (.istore 5, 2) := by decide +kernel
theorem dX12_areCountsAlike_39 : decode cX12_areCountsAlike 39 = .ok (.iload 5, 2) := by decide +kernel
theorem dX12_areCountsAlike_41 : decode cX12_areCountsAlike 41 = .ok (.aload_n 0, 1) := by decide +kernel
theorem dX12_areCountsAlike_42 : decode cX12_areCountsAlike 42 = .ok (.getfield 38, 3) := by decide +kernel
theorem dX12_areCountsAlike_45 : decode cX12_areCountsAlike 45 = .ok (.iload 4, 2) := by decide +kernel
theorem dX12_areCountsAlike_47 : decode cX12_areCountsAlike 47 = .ok (.iaload, 1) := by decide +kernel
theorem dX12_areCountsAlike_48 : decode cX12_areCountsAlike 48 = .ok (.if_icmp .ge 64, 3) := by decide +kernel
theorem dX12_areCountsAlike_51 : decode cX12_areCountsAlike 51 = .ok (.iload_n 2, 1) := by decide +kernel
theorem dX12_areCountsAlike_52 : decode cX12_areCountsAlike 52 = .ok (.ifCond .eq 60, 3) := by decide +kernel
theorem dX12_areCountsAlike_55 : decode cX12_areCountsAlike 55 = .ok (.aload_n 0, 1) := by decide +kernel
theorem dX12_areCountsAlike_56 : decode cX12_areCountsAlike 56 = .ok (.iload 4, 2) := by decide +kernel
theorem dX12_areCountsAlike_58 : decode cX12_areCountsAlike 58 = .ok (.iload 5, 2) := by decide +kernel
theorem dX12_areCountsAlike_60 : decode cX12_areCountsAlike 60 = .ok (.iconst 1, 1) := by decide +kernel
theorem dX12_areCountsAlike_61 : decode cX12_areCountsAlike 61 = .ok (.iadd, 1) := by decide +kernel
theorem dX12_areCountsAlike_62 : decode cX12_areCountsAlike 62 = .ok (.invokevirtual 321, 3) := by decide +kernel
theorem dX12_areCountsAlike_65 : decode cX12_areCountsAlike 65 = .ok (.ifCond .eq 27, 3) := by decide +kernel
theorem dX12_areCountsAlike_68 : decode cX12_areCountsAlike 68 = .ok (.aload_n 0, 1) := by decide +kernel
theorem dX12_areCountsAlike_69 : decode cX12_areCountsAlike 69 = .ok (.aload_n 0, 1) := by decide +kernel
theorem dX12_areCountsAlike_70 : decode cX12_areCountsAlike 70 = .ok (.iload 4, 2) := by decide +kernel
theorem dX12_areCountsAlike_72 : decode cX12_areCountsAlike 72 = .ok (.iload 5, 2) := by decide +kernel
theorem dX12_areCountsAlike_74 : decode cX12_areCountsAlike 74 = .ok (.invokevirtual 192, 3) := by decide +kernel
theorem dX12_areCountsAlike_77 : decode cX12_areCountsAlike 77 = .ok (.invokevirtual 367, 3) := by decide +kernel
theorem dX12_areCountsAlike_80 : decode cX12_areCountsAlike 80 = .ok (.ifCond .lt 7, 3) := by decide +kernel
theorem dX12_areCountsAlike_83 : decode cX12_areCountsAlike 83 = .ok (.iconst 1, 1) := by decide +kernel
theorem dX12_areCountsAlike_84 : decode cX12_areCountsAlike 84 = .ok (.goto 4, 3) := by decide +kernel
theorem dX12_areCountsAlike_87 : decode cX12_areCountsAlike 87 = .ok (.iconst 0, 1) := by decide +kernel
theorem dX12_areCountsAlike_88 : decode cX12_areCountsAlike 88 = .ok (.istore_n 2, 1) := by decide +kernel
theorem dX12_areCountsAlike_89 : decode cX12_areCountsAlike 89 = .ok (.goto 17, 3) := by decide +kernel
theorem dX12_areCountsAlike_92 : decode cX12_areCountsAlike 92 = .ok (.aload_n 0, 1) := by decide +kernel
theorem dX12_areCountsAlike_93 : decode cX12_areCountsAlike 93 = .ok (.aload_n 0, 1) := by decide +kernel
theorem dX12_areCountsAlike_94 : decode cX12_areCountsAlike 94 = .ok (.iload 4, 2) := by decide +kernel
theorem dX12_areCountsAlike_96 : decode cX12_areCountsAlike 96 = .ok (.iload 5, 2) := by decide +kernel
theorem dX12_areCountsAlike_98 : decode cX12_areCountsAlike 98 = .ok (.invokevirtual 192, 3) := by decide +kernel
theorem dX12_areCountsAlike_101 : decode cX12_areCountsAlike 101 = .ok (.iconst 0, 1) := by decide +kernel
theorem dX12_areCountsAlike_102 : decode cX12_areCountsAlike 102 = .ok (.iconst 0, 1) := by decide +kernel
theorem dX12_areCountsAlike_103 : decode cX12_areCountsAlike 103 = .ok (.invokevirtual 318, 3) := by decide +kernel
theorem dX12_areCountsAlike_106 : decode cX12_areCountsAlike 106 = .ok (.iinc 5 1, 3) := by decide +kernel
theorem dX12_areCountsAlike_109 : decode cX12_areCountsAlike 109 = .ok (.goto (-70), 3) := by decide +kernel
theorem dX12_areCountsAlike_112 : decode cX12_areCountsAlike 112 = .ok (.iinc 3 1, 3) := by decide +kernel
theorem dX12_areCountsAlike_115 : decode cX12_areCountsAlike 115 = .ok (.goto (-99), 3) := by decide +kernel
theorem dX12_areCountsAlike_118 : decode cX12_areCountsAlike 118 = .ok (.iload_n 2, 1) := by decide +kernel
theorem dX12_areCountsAlike_119 : decode cX12_areCountsAlike 119 = .ok (.ireturn, 1) := by decide +kernel
theorem dX12_sizeOf_0 : decode cX12_sizeOf 0 = .ok (.iconst 1, 1) := by decide +kernel
theorem dX12_sizeOf_1 : decode cX12_sizeOf 1 = .ok (.istore_n 2, 1) := by decide +kernel
theorem dX12_sizeOf_2 : decode cX12_sizeOf 2 = .ok (.iconst 0, 1) := by decide +kernel
theorem dX12_sizeOf_3 : decode cX12_sizeOf 3 = .ok (.istore_n 3, 1) := by decide +kernel
theorem dX12_sizeOf_4 : decode cX12_sizeOf 4 = .ok (.aload_n 0, 1) := by decide +kernel
theorem dX12_sizeOf_5 : decode cX12_sizeOf 5 = .ok (.getfield 107, 3) := by decide +kernel
theorem dX12_sizeOf_8 : decode cX12_sizeOf 8 = .ok (.iconst 0, 1) := by decide +kernel
theorem dX12_sizeOf_9 : decode cX12_sizeOf 9 = .ok (.iload_n 1, 1) := by decide +kernel
theorem dX12_sizeOf_10 : decode cX12_sizeOf 10 = .ok (.iastore, 1) := by decide +kernel
theorem dX12_sizeOf_11 : decode cX12_sizeOf 11 = .ok (.iload_n 2, 1) := by decide +kernel
theorem dX12_sizeOf_12 : decode cX12_sizeOf 12 = .ok (.ifCond .le 58, 3) := by decide +kernel
theorem dX12_sizeOf_15 : decode cX12_sizeOf 15 = .ok (.iinc 2 (-1), 3) := by decide +kernel
theorem dX12_sizeOf_18 : decode cX12_sizeOf 18 = .ok (.aload_n 0, 1) := by decide +kernel
theorem dX12_sizeOf_19 : decode cX12_sizeOf 19 = .ok (.getfield 107, 3) := by decide +kernel
theorem dX12_sizeOf_22 : decode cX12_sizeOf 22 = .ok (.iload_n 2, 1) := by decide +kernel
theorem dX12_sizeOf_23 : decode cX12_sizeOf 23 = .ok (.iaload, 1) := by decide +kernel
theorem dX12_sizeOf_24 : decode cX12_sizeOf 24 = .ok (.istore 4, 2) := by decide +kernel
theorem dX12_sizeOf_26 : decode cX12_sizeOf 26 = .ok (.iinc 3 1, 3) := by decide +kernel
theorem dX12_sizeOf_29 : decode cX12_sizeOf 29 = .ok (.iconst 0, 1) := by decide +kernel
theorem dX12_sizeOf_30 : decode cX12_sizeOf 30 = .ok (.istore 5, 2) := by decide +kernel
theorem dX12_sizeOf_32 : decode cX12_sizeOf 32 = .ok (.iload 5, 2) := by decide +kernel
theorem dX12_sizeOf_34 : decode cX12_sizeOf 34 = .ok (.aload_n 0, 1) := by decide +kernel
theorem dX12_sizeOf_35 : decode cX12_sizeOf 35 = .ok (.getfield 38, 3) := by decide +kernel
theorem dX12_sizeOf_38 : decode cX12_sizeOf 38 = .ok (.iload 4, 2) := by decide +kernel
theorem dX12_sizeOf_40 : decode cX12_sizeOf 40 = .ok (.iaload, 1) := by decide +kernel
theorem dX12_sizeOf_41 : decode cX12_sizeOf 41 = .ok (.if_icmp .ge 26, 3) := by decide +kernel
theorem dX12_sizeOf_44 : decode cX12_sizeOf 44 = .ok (.aload_n 0, 1) := by decide +kernel
theorem dX12_sizeOf_45 : decode cX12_sizeOf 45 = .ok (.getfield 107, 3) := by decide +kernel
theorem dX12_sizeOf_48 : decode cX12_sizeOf 48 = .ok (.iload_n 2, 1) := by decide +kernel
theorem dX12_sizeOf_49 : decode cX12_sizeOf 49 = .ok (.aload_n 0, 1) := by decide +kernel
theorem dX12_sizeOf_50 : decode cX12_sizeOf 50 = .ok (.iload 4, 2) := by decide +kernel
theorem dX12_sizeOf_52 : decode cX12_sizeOf 52 = .ok (.iload 5, 2) := by decide +kernel
theorem dX12_sizeOf_54 : decode cX12_sizeOf 54 = .ok (.invokevirtual 192, 3) := by decide +kernel
theorem dX12_sizeOf_57 : decode cX12_sizeOf 57 = .ok (.iastore, 1) := by decide +kernel
theorem dX12_sizeOf_58 : decode cX12_sizeOf 58 = .ok (.iinc 2 1, 3) := by decide +kernel
theorem dX12_sizeOf_61 : decode cX12_sizeOf 61 = .ok (.iinc 5 1, 3) := by decide +kernel
theorem dX12_sizeOf_64 : decode cX12_sizeOf 64 = .ok (.goto (-32), 3) := by decide +kernel
theorem dX12_sizeOf_67 : decode cX12_sizeOf 67 = .ok (.goto (-56), 3) := by decide +kernel
theorem dX12_sizeOf_70 : decode cX12_sizeOf 70 = .ok (.iload_n 3, 1) := by decide +kernel
theorem dX12_sizeOf_71 : decode cX12_sizeOf 71 = .ok (.ireturn, 1) := by decide +kernel
theorem dX12_nested_0 : decode cX12_nested 0 = .ok (.aload_n 0, 1) := by decide +kernel
theorem dX12_nested_1 : decode cX12_nested 1 = .ok (.iconst 0, 1) := by decide +kernel
theorem dX12_nested_2 : decode cX12_nested 2 = .ok (.putfield 306, 3) := by decide +kernel
theorem dX12_nested_5 : decode cX12_nested 5 = .ok (.aload_n 0, 1) := by decide +kernel
theorem dX12_nested_6 : decode cX12_nested 6 = .ok (.iload_n 1, 1) := by decide +kernel
theorem dX12_nested_7 : decode cX12_nested 7 = .ok (.iconst 1, 1) := by decide +kernel
theorem dX12_nested_8 : decode cX12_nested 8 = .ok (.iconst 0, 1) := by decide +kernel
theorem dX12_nested_9 : decode cX12_nested 9 = .ok (.invokevirtual 318, 3) := by decide +kernel
theorem dX12_nested_12 : decode cX12_nested 12 = .ok (.iconst 0, 1) := by decide +kernel
theorem dX12_nested_13 : decode cX12_nested 13 = .ok (.istore_n 2, 1) := by decide +kernel
theorem dX12_nested_14 : decode cX12_nested 14 = .ok (.iconst 0, 1) := by decide +kernel
theorem dX12_nested_15 : decode cX12_nested 15 = .ok (.istore_n 3, 1) := by decide +kernel
theorem dX12_nested_16 : decode cX12_nested 16 = .ok (.iload_n 3, 1) := by decide +kernel
theorem dX12_nested_17 : decode cX12_nested 17 = .ok (.aload_n 0, 1) := by decide +kernel
theorem dX12_nested_18 : decode cX12_nested 18 = .ok (.getfield 306, 3) := by decide +kernel
theorem dX12_nested_21 : decode cX12_nested 21 = .ok (.if_icmp .ge 91, 3) := by decide +kernel
theorem dX12_nested_24 : decode cX12_nested 24 = .ok (.aload_n 0, 1) := by decide +kernel
theorem dX12_nested_25 : decode cX12_nested 25 = .ok (.getfield 98, 3) := by decide +kernel
theorem dX12_nested_28 : decode cX12_nested 28 = .ok (.iload_n 3, 1) := by decide +kernel
theorem dX12_nested_29 : decode cX12_nested 29 = .ok (.iaload, 1) := by decide +kernel
theorem dX12_nested_30 : decode cX12_nested 30 = .ok (.istore 4, 2) := by decide +kernel
theorem dX12_nested_32 : decode cX12_nested 32 = .ok (.aload_n 0, 1) := by decide +kernel
theorem dX12_nested_33 : decode cX12_nested 33 = .ok (.getfield 32, 3) := by decide +kernel
theorem dX12_nested_36 : decode cX12_nested 36 = .ok (.iload 4, 2) := by decide +kernel
theorem dX12_nested_38 : decode cX12_nested 38 = .ok (.baload, 1) := by decide +kernel
theorem dX12_nested_39 : decode cX12_nested 39 = .ok (.iconst 2, 1) := by decide +kernel
theorem dX12_nested_40 : decode cX12_nested 40 = .ok (.if_icmp .ne 22, 3) := by decide +kernel
theorem dX12_nested_43 : decode cX12_nested 43 = .ok (.aload_n 0, 1) := by decide +kernel
theorem dX12_nested_44 : decode cX12_nested 44 = .ok (.getfield 101, 3) := by decide +kernel
theorem dX12_nested_47 : decode cX12_nested 47 = .ok (.iload_n 3, 1) := by decide +kernel
theorem dX12_nested_48 : decode cX12_nested 48 = .ok (.iaload, 1) := by decide +kernel
theorem dX12_nested_49 : decode cX12_nested 49 = .ok (.iload_n 2, 1) := by decide +kernel
theorem dX12_nested_50 : decode cX12_nested 50 = .ok (.if_icmp .le 12, 3) := by decide +kernel
theorem dX12_nested_53 : decode cX12_nested 53 = .ok (.aload_n 0, 1) := by decide +kernel
theorem dX12_nested_54 : decode cX12_nested 54 = .ok (.getfield 101, 3) := by decide +kernel
theorem dX12_nested_57 : decode cX12_nested 57 = .ok (.iload_n 3, 1) := by decide +kernel
theorem dX12_nested_58 : decode cX12_nested 58 = .ok (.iaload, 1) := by decide +kernel
theorem dX12_nested_59 : decode cX12_nested 59 = .ok (.goto 4, 3) := by decide +kernel
theorem dX12_nested_62 : decode cX12_nested 62 = .ok (.iload_n 2, 1) := by decide +kernel
theorem dX12_nested_63 : decode cX12_nested 63 = .ok (.istore_n 2, 1) := by decide +kernel
theorem dX12_nested_64 : decode cX12_nested 64 = .ok (.iconst 0, 1) := by decide +kernel
theorem dX12_nested_65 : decode cX12_nested 65 = .ok (.istore 5, 2) := by decide +kernel
theorem dX12_nested_67 : decode cX12_nested 67 = .ok (.iload 5, 2) := by decide +kernel
theorem dX12_nested_69 : decode cX12_nested 69 = .ok (.aload_n 0, 1) := by decide +kernel
theorem dX12_nested_70 : decode cX12_nested 70 = .ok (.getfield 38, 3) := by decide +kernel
theorem dX12_nested_73 : decode cX12_nested 73 = .ok (.iload 4, 2) := by decide +kernel
theorem dX12_nested_75 : decode cX12_nested 75 = .ok (.iaload, 1) := by decide +kernel
theorem dX12_nested_76 : decode cX12_nested 76 = .ok (.if_icmp .ge 30, 3) := by decide +kernel
theorem dX12_nested_79 : decode cX12_nested 79 = .ok (.aload_n 0, 1) := by decide +kernel
theorem dX12_nested_80 : decode cX12_nested 80 = .ok (.aload_n 0, 1) := by decide +kernel
theorem dX12_nested_81 : decode cX12_nested 81 = .ok (.iload 4, 2) := by decide +kernel
theorem dX12_nested_83 : decode cX12_nested 83 = .ok (.iload 5, 2) := by decide +kernel
theorem dX12_nested_85 : decode cX12_nested 85 = .ok (.invokevirtual 192, 3) := by decide +kernel
theorem dX12_nested_88 : decode cX12_nested 88 = .ok (.aload_n 0, 1) := by decide +kernel
theorem dX12_nested_89 : decode cX12_nested 89 = .ok (.getfield 101, 3) := by decide +kernel
theorem dX12_nested_92 : decode cX12_nested 92 = .ok (.iload_n 3, 1) := by decide +kernel
theorem dX12_nested_93 : decode cX12_nested 93 = .ok (.iaload, 1) := by decide +kernel
theorem dX12_nested_94 : decode cX12_nested 94 = .ok (.iconst 1, 1) := by decide +kernel
theorem dX12_nested_95 : decode cX12_nested 95 = .ok (.iadd, 1) := by decide +kernel
theorem dX12_nested_96 : decode cX12_nested 96 = .ok (.iconst 0, 1) := by decide +kernel
theorem dX12_nested_97 : decode cX12_nested 97 = .ok (.invokevirtual 318, 3) := by decide +kernel
theorem dX12_nested_100 : decode cX12_nested 100 = .ok (.iinc 5 1, 3) := by decide +kernel
theorem dX12_nested_103 : decode cX12_nested 103 = .ok (.goto (-36), 3) := by decide +kernel
theorem dX12_nested_106 : decode cX12_nested 106 = .ok (.iinc 3 1, 3) := by decide +kernel
theorem dX12_nested_109 : decode cX12_nested 109 = .ok (.goto (-93), 3) := by decide +kernel
theorem dX12_nested_112 : decode cX12_nested 112 = .ok (.iload_n 2, 1) := by decide +kernel
theorem dX12_nested_113 : decode cX12_nested 113 = .ok (.ireturn, 1) := by decide +kernel
theorem dX12_sizeMade_0 : decode cX12_sizeMade 0 = .ok (.aload_n 0, 1) := by decide +kernel
theorem dX12_sizeMade_1 : decode cX12_sizeMade 1 = .ok (.iconst 0, 1) := by decide +kernel
theorem dX12_sizeMade_2 : decode cX12_sizeMade 2 = .ok (.putfield 306, 3) := by decide +kernel
theorem dX12_sizeMade_5 : decode cX12_sizeMade 5 = .ok (.aload_n 0, 1) := by decide +kernel
theorem dX12_sizeMade_6 : decode cX12_sizeMade 6 = .ok (.iload_n 1, 1) := by decide +kernel
theorem dX12_sizeMade_7 : decode cX12_sizeMade 7 = .ok (.iconst 0, 1) := by decide +kernel
theorem dX12_sizeMade_8 : decode cX12_sizeMade 8 = .ok (.iconst 0, 1) := by decide +kernel
theorem dX12_sizeMade_9 : decode cX12_sizeMade 9 = .ok (.invokevirtual 318, 3) := by decide +kernel
theorem dX12_sizeMade_12 : decode cX12_sizeMade 12 = .ok (.iconst 0, 1) := by decide +kernel
theorem dX12_sizeMade_13 : decode cX12_sizeMade 13 = .ok (.istore_n 2, 1) := by decide +kernel
theorem dX12_sizeMade_14 : decode cX12_sizeMade 14 = .ok (.iconst 0, 1) := by decide +kernel
theorem dX12_sizeMade_15 : decode cX12_sizeMade 15 = .ok (.istore_n 3, 1) := by decide +kernel
theorem dX12_sizeMade_16 : decode cX12_sizeMade 16 = .ok (.iload_n 3, 1) := by decide +kernel
theorem dX12_sizeMade_17 : decode cX12_sizeMade 17 = .ok (.aload_n 0, 1) := by decide +kernel
theorem dX12_sizeMade_18 : decode cX12_sizeMade 18 = .ok (.getfield 306, 3) := by decide +kernel
theorem dX12_sizeMade_21 : decode cX12_sizeMade 21 = .ok (.if_icmp .ge 225, 3) := by decide +kernel
theorem dX12_sizeMade_24 : decode cX12_sizeMade 24 = .ok (.iload_n 2, 1) := by decide +kernel
theorem dX12_sizeMade_25 : decode cX12_sizeMade 25 = .ok (.sipush 600, 3) := by decide +kernel
theorem dX12_sizeMade_28 : decode cX12_sizeMade 28 = .ok (.if_icmp .gt 218, 3) := by decide +kernel
theorem dX12_sizeMade_31 : decode cX12_sizeMade 31 = .ok (.aload_n 0, 1) := by decide +kernel
theorem dX12_sizeMade_32 : decode cX12_sizeMade 32 = .ok (.getfield 98, 3) := by decide +kernel
theorem dX12_sizeMade_35 : decode cX12_sizeMade 35 = .ok (.iload_n 3, 1) := by decide +kernel
theorem dX12_sizeMade_36 : decode cX12_sizeMade 36 = .ok (.iaload, 1) := by decide +kernel
theorem dX12_sizeMade_37 : decode cX12_sizeMade 37 = .ok (.istore 4, 2) := by decide +kernel
theorem dX12_sizeMade_39 : decode cX12_sizeMade 39 = .ok (.aload_n 0, 1) := by decide +kernel
theorem dX12_sizeMade_40 : decode cX12_sizeMade 40 = .ok (.iload 4, 2) := by decide +kernel
theorem dX12_sizeMade_42 : decode cX12_sizeMade 42 = .ok (.invokevirtual 180, 3) := by decide +kernel
theorem dX12_sizeMade_45 : decode cX12_sizeMade 45 = .ok (.ifCond .eq 17, 3) := by decide +kernel
theorem dX12_sizeMade_48 : decode cX12_sizeMade 48 = .ok (.aload_n 0, 1) := by decide +kernel
theorem dX12_sizeMade_49 : decode cX12_sizeMade 49 = .ok (.aload_n 0, 1) := by decide +kernel
theorem dX12_sizeMade_50 : decode cX12_sizeMade 50 = .ok (.getfield 35, 3) := by decide +kernel
theorem dX12_sizeMade_53 : decode cX12_sizeMade 53 = .ok (.iload 4, 2) := by decide +kernel
theorem dX12_sizeMade_55 : decode cX12_sizeMade 55 = .ok (.iaload, 1) := by decide +kernel
theorem dX12_sizeMade_56 : decode cX12_sizeMade 56 = .ok (.invokevirtual 327, 3) := by decide +kernel
theorem dX12_sizeMade_59 : decode cX12_sizeMade 59 = .ok (.goto 4, 3) := by decide +kernel
theorem dX12_sizeMade_62 : decode cX12_sizeMade 62 = .ok (.iconst (-1), 1) := by decide +kernel
theorem dX12_sizeMade_63 : decode cX12_sizeMade 63 = .ok (.istore 5, 2) := by decide +kernel
theorem dX12_sizeMade_65 : decode cX12_sizeMade 65 = .ok (.iload_n 2, 1) := by decide +kernel
theorem dX12_sizeMade_66 : decode cX12_sizeMade 66 = .ok (.iload 5, 2) := by decide +kernel
theorem dX12_sizeMade_68 : decode cX12_sizeMade 68 = .ok (.ifCond .lt 43, 3) := by decide +kernel
theorem dX12_sizeMade_71 : decode cX12_sizeMade 71 = .ok (.aload_n 0, 1) := by decide +kernel
theorem dX12_sizeMade_72 : decode cX12_sizeMade 72 = .ok (.aload_n 0, 1) := by decide +kernel
theorem dX12_sizeMade_73 : decode cX12_sizeMade 73 = .ok (.getfield 116, 3) := by decide +kernel
theorem dX12_sizeMade_76 : decode cX12_sizeMade 76 = .ok (.aload_n 0, 1) := by decide +kernel
theorem dX12_sizeMade_77 : decode cX12_sizeMade 77 = .ok (.getfield 110, 3) := by decide +kernel
theorem dX12_sizeMade_80 : decode cX12_sizeMade 80 = .ok (.iload 5, 2) := by decide +kernel
theorem dX12_sizeMade_82 : decode cX12_sizeMade 82 = .ok (.iaload, 1) := by decide +kernel
theorem dX12_sizeMade_83 : decode cX12_sizeMade 83 = .ok (.aload_n 0, 1) := by decide +kernel
theorem dX12_sizeMade_84 : decode cX12_sizeMade 84 = .ok (.getfield 94, 3) := by decide +kernel
theorem dX12_sizeMade_87 : decode cX12_sizeMade 87 = .ok (.iload 5, 2) := by decide +kernel
theorem dX12_sizeMade_89 : decode cX12_sizeMade 89 = .ok (.baload, 1) := by decide +kernel
theorem dX12_sizeMade_90 : decode cX12_sizeMade 90 = .ok (.ifCond .eq 12, 3) := by decide +kernel
theorem dX12_sizeMade_93 : decode cX12_sizeMade 93 = .ok (.aload_n 0, 1) := by decide +kernel
theorem dX12_sizeMade_94 : decode cX12_sizeMade 94 = .ok (.getfield 101, 3) := by decide +kernel
theorem dX12_sizeMade_97 : decode cX12_sizeMade 97 = .ok (.iload_n 3, 1) := by decide +kernel
theorem dX12_sizeMade_98 : decode cX12_sizeMade 98 = .ok (.iaload, 1) := by decide +kernel
theorem dX12_sizeMade_99 : decode cX12_sizeMade 99 = .ok (.goto 4, 3) := by decide +kernel
theorem dX12_sizeMade_102 : decode cX12_sizeMade 102 = .ok (.iconst 0, 1) := by decide +kernel
theorem dX12_sizeMade_103 : decode cX12_sizeMade 103 = .ok (.iadd, 1) := by decide +kernel
theorem dX12_sizeMade_104 : decode cX12_sizeMade 104 = .ok (.iaload, 1) := by decide +kernel
theorem dX12_sizeMade_105 : decode cX12_sizeMade 105 = .ok (.invokevirtual 370, 3) := by decide +kernel
theorem dX12_sizeMade_108 : decode cX12_sizeMade 108 = .ok (.goto 4, 3) := by decide +kernel
theorem dX12_sizeMade_111 : decode cX12_sizeMade 111 = .ok (.iconst 1, 1) := by decide +kernel
theorem dX12_sizeMade_112 : decode cX12_sizeMade 112 = .ok (.iadd, 1) := by decide +kernel
theorem dX12_sizeMade_113 : decode cX12_sizeMade 113 = .ok (.istore_n 2, 1) := by decide +kernel
theorem dX12_sizeMade_114 : decode cX12_sizeMade 114 = .ok (.iconst 0, 1) := by decide +kernel
theorem dX12_sizeMade_115 : decode cX12_sizeMade 115 = .ok (.istore 6, 2) := by decide +kernel
theorem dX12_sizeMade_117 : decode cX12_sizeMade 117 = .ok (.iload 6, 2) := by decide +kernel
theorem dX12_sizeMade_119 : decode cX12_sizeMade 119 = .ok (.aload_n 0, 1) := by decide +kernel
theorem dX12_sizeMade_120 : decode cX12_sizeMade 120 = .ok (.getfield 38, 3) := by decide +kernel
theorem dX12_sizeMade_123 : decode cX12_sizeMade 123 = .ok (.iload 4, 2) := by decide +kernel
theorem dX12_sizeMade_125 : decode cX12_sizeMade 125 = .ok (.iaload, 1) := by decide +kernel
theorem dX12_sizeMade_126 : decode cX12_sizeMade 126 = .ok (.if_icmp .ge 114, 3) := by decide +kernel
theorem dX12_sizeMade_129 : decode cX12_sizeMade 129 = .ok (.aload_n 0, 1) := by decide +kernel
theorem dX12_sizeMade_130 : decode cX12_sizeMade 130 = .ok (.getfield 306, 3) := by decide +kernel
theorem dX12_sizeMade_133 : decode cX12_sizeMade 133 = .ok (.ldc_w 373, 3) := by decide +kernel
theorem dX12_sizeMade_136 : decode cX12_sizeMade 136 = .ok (.if_icmp .ge 104, 3) := by decide +kernel
theorem dX12_sizeMade_139 : decode cX12_sizeMade 139 = .ok (.aload_n 0, 1) := by decide +kernel
theorem dX12_sizeMade_140 : decode cX12_sizeMade 140 = .ok (.iload 4, 2) := by decide +kernel
theorem dX12_sizeMade_142 : decode cX12_sizeMade 142 = .ok (.iload 6, 2) := by decide +kernel
theorem dX12_sizeMade_144 : decode cX12_sizeMade 144 = .ok (.iconst 1, 1) := by decide +kernel
theorem dX12_sizeMade_145 : decode cX12_sizeMade 145 = .ok (.iadd, 1) := by decide +kernel
theorem dX12_sizeMade_146 : decode cX12_sizeMade 146 = .ok (.invokevirtual 321, 3) := by decide +kernel
theorem dX12_sizeMade_149 : decode cX12_sizeMade 149 = .ok (.ifCond .eq 18, 3) := by decide +kernel
theorem dX12_sizeMade_152 : decode cX12_sizeMade 152 = .ok (.aload_n 0, 1) := by decide +kernel
theorem dX12_sizeMade_153 : decode cX12_sizeMade 153 = .ok (.aload_n 0, 1) := by decide +kernel
theorem dX12_sizeMade_154 : decode cX12_sizeMade 154 = .ok (.iload 4, 2) := by decide +kernel
theorem dX12_sizeMade_156 : decode cX12_sizeMade 156 = .ok (.iload 6, 2) := by decide +kernel
theorem dX12_sizeMade_158 : decode cX12_sizeMade 158 = .ok (.invokevirtual 192, 3) := by decide +kernel
theorem dX12_sizeMade_161 : decode cX12_sizeMade 161 = .ok (.invokevirtual 367, 3) := by decide +kernel
theorem dX12_sizeMade_164 : decode cX12_sizeMade 164 = .ok (.goto 4, 3) := by decide +kernel
theorem dX12_sizeMade_167 : decode cX12_sizeMade 167 = .ok (.iconst 1, 1) := by decide +kernel
theorem dX12_sizeMade_168 : decode cX12_sizeMade 168 = .ok (.istore 7, 2) := by decide +kernel
theorem dX12_sizeMade_170 : decode cX12_sizeMade 170 = .ok (.iconst 0, 1) := by decide +kernel
theorem dX12_sizeMade_171 : decode cX12_sizeMade 171 = .ok (.istore 8, 2) := by decide +kernel
theorem dX12_sizeMade_173 : decode cX12_sizeMade 173 = .ok (.iload 8, 2) := by decide +kernel
theorem dX12_sizeMade_175 : decode cX12_sizeMade 175 = .ok (.iload 7, 2) := by decide +kernel
theorem dX12_sizeMade_177 : decode cX12_sizeMade 177 = .ok (.if_icmp .ge 57, 3) := by decide +kernel
theorem dX12_sizeMade_180 : decode cX12_sizeMade 180 = .ok (.aload_n 0, 1) := by decide +kernel
theorem dX12_sizeMade_181 : decode cX12_sizeMade 181 = .ok (.iload 4, 2) := by decide +kernel
theorem dX12_sizeMade_183 : decode cX12_sizeMade 183 = .ok (.iload 6, 2) := by decide +kernel
theorem dX12_sizeMade_185 : decode cX12_sizeMade 185 = .ok (.invokevirtual 321, 3) := by decide +kernel
theorem dX12_sizeMade_188 : decode cX12_sizeMade 188 = .ok (.ifCond .ne 46, 3) := by decide +kernel
theorem dX12_sizeMade_191 : decode cX12_sizeMade 191 = .ok (.aload_n 0, 1) := by decide +kernel
theorem dX12_sizeMade_192 : decode cX12_sizeMade 192 = .ok (.aload_n 0, 1) := by decide +kernel
theorem dX12_sizeMade_193 : decode cX12_sizeMade 193 = .ok (.iload 4, 2) := by decide +kernel
theorem dX12_sizeMade_195 : decode cX12_sizeMade 195 = .ok (.iload 6, 2) := by decide +kernel
theorem dX12_sizeMade_197 : decode cX12_sizeMade 197 = .ok (.invokevirtual 192, 3) := by decide +kernel
theorem dX12_sizeMade_200 : decode cX12_sizeMade 200 = .ok (.aload_n 0, 1) := by decide +kernel
theorem dX12_sizeMade_201 : decode cX12_sizeMade 201 = .ok (.iload 4, 2) := by decide +kernel
theorem dX12_sizeMade_203 : decode cX12_sizeMade 203 = .ok (.iload 6, 2) := by decide +kernel
theorem dX12_sizeMade_205 : decode cX12_sizeMade 205 = .ok (.iconst 1, 1) := by decide +kernel
theorem dX12_sizeMade_206 : decode cX12_sizeMade 206 = .ok (.iadd, 1) := by decide +kernel
theorem dX12_sizeMade_207 : decode cX12_sizeMade 207 = .ok (.invokevirtual 321, 3) := by decide +kernel
theorem dX12_sizeMade_210 : decode cX12_sizeMade 210 = .ok (.ifCond .eq 8, 3) := by decide +kernel
theorem dX12_sizeMade_213 : decode cX12_sizeMade 213 = .ok (.iload 8, 2) := by decide +kernel
theorem dX12_sizeMade_215 : decode cX12_sizeMade 215 = .ok (.goto 9, 3) := by decide +kernel
theorem dX12_sizeMade_218 : decode cX12_sizeMade 218 = .ok (.aload_n 0, 1) := by decide +kernel
theorem dX12_sizeMade_219 : decode cX12_sizeMade 219 = .ok (.getfield 101, 3) := by decide +kernel
theorem dX12_sizeMade_222 : decode cX12_sizeMade 222 = .ok (.iload_n 3, 1) := by decide +kernel
theorem dX12_sizeMade_223 : decode cX12_sizeMade 223 = .ok (.iaload, 1) := by decide +kernel
theorem dX12_sizeMade_224 : decode cX12_sizeMade 224 = .ok (.iconst 0, 1) := by decide +kernel
theorem dX12_sizeMade_225 : decode cX12_sizeMade 225 = .ok (.invokevirtual 318, 3) := by decide +kernel
theorem dX12_sizeMade_228 : decode cX12_sizeMade 228 = .ok (.iinc 8 1, 3) := by decide +kernel
theorem dX12_sizeMade_231 : decode cX12_sizeMade 231 = .ok (.goto (-58), 3) := by decide +kernel
theorem dX12_sizeMade_234 : decode cX12_sizeMade 234 = .ok (.iinc 6 1, 3) := by decide +kernel
theorem dX12_sizeMade_237 : decode cX12_sizeMade 237 = .ok (.goto (-120), 3) := by decide +kernel
theorem dX12_sizeMade_240 : decode cX12_sizeMade 240 = .ok (.iinc 3 1, 3) := by decide +kernel
theorem dX12_sizeMade_243 : decode cX12_sizeMade 243 = .ok (.goto (-227), 3) := by decide +kernel
theorem dX12_sizeMade_246 : decode cX12_sizeMade 246 = .ok (.iload_n 2, 1) := by decide +kernel
theorem dX12_sizeMade_247 : decode cX12_sizeMade 247 = .ok (.ireturn, 1) := by decide +kernel
theorem dX12_alias_0 : decode cX12_alias 0 = .ok (.iload_n 2, 1) := by decide +kernel
theorem dX12_alias_1 : decode cX12_alias 1 = .ok (.istore 4, 2) := by decide +kernel
theorem dX12_alias_3 : decode cX12_alias 3 = .ok (.iload 4, 2) := by decide +kernel
theorem dX12_alias_5 : decode cX12_alias 5 = .ok (.aload_n 0, 1) := by decide +kernel
theorem dX12_alias_6 : decode cX12_alias 6 = .ok (.getfield 374, 3) := by decide +kernel
theorem dX12_alias_9 : decode cX12_alias 9 = .ok (.if_icmp .ge 27, 3) := by decide +kernel
theorem dX12_alias_12 : decode cX12_alias 12 = .ok (.aload_n 0, 1) := by decide +kernel
theorem dX12_alias_13 : decode cX12_alias 13 = .ok (.getfield 45, 3) := by decide +kernel
theorem dX12_alias_16 : decode cX12_alias 16 = .ok (.iload 4, 2) := by decide +kernel
theorem dX12_alias_18 : decode cX12_alias 18 = .ok (.iaload, 1) := by decide +kernel
theorem dX12_alias_19 : decode cX12_alias 19 = .ok (.iload_n 1, 1) := by decide +kernel
theorem dX12_alias_20 : decode cX12_alias 20 = .ok (.if_icmp .ne 10, 3) := by decide +kernel
theorem dX12_alias_23 : decode cX12_alias 23 = .ok (.sipush 5000, 3) := by decide +kernel
theorem dX12_alias_26 : decode cX12_alias 26 = .ok (.iload 4, 2) := by decide +kernel
theorem dX12_alias_28 : decode cX12_alias 28 = .ok (.iadd, 1) := by decide +kernel
theorem dX12_alias_29 : decode cX12_alias 29 = .ok (.ireturn, 1) := by decide +kernel
theorem dX12_alias_30 : decode cX12_alias 30 = .ok (.iinc 4 1, 3) := by decide +kernel
theorem dX12_alias_33 : decode cX12_alias 33 = .ok (.goto (-30), 3) := by decide +kernel
theorem dX12_alias_36 : decode cX12_alias 36 = .ok (.aload_n 0, 1) := by decide +kernel
theorem dX12_alias_37 : decode cX12_alias 37 = .ok (.getfield 45, 3) := by decide +kernel
theorem dX12_alias_40 : decode cX12_alias 40 = .ok (.aload_n 0, 1) := by decide +kernel
theorem dX12_alias_41 : decode cX12_alias 41 = .ok (.getfield 374, 3) := by decide +kernel
theorem dX12_alias_44 : decode cX12_alias 44 = .ok (.iload_n 1, 1) := by decide +kernel
theorem dX12_alias_45 : decode cX12_alias 45 = .ok (.iastore, 1) := by decide +kernel
theorem dX12_alias_46 : decode cX12_alias 46 = .ok (.aload_n 0, 1) := by decide +kernel
theorem dX12_alias_47 : decode cX12_alias 47 = .ok (.getfield 48, 3) := by decide +kernel
theorem dX12_alias_50 : decode cX12_alias 50 = .ok (.aload_n 0, 1) := by decide +kernel
theorem dX12_alias_51 : decode cX12_alias 51 = .ok (.getfield 374, 3) := by decide +kernel
theorem dX12_alias_54 : decode cX12_alias 54 = .ok (.iload_n 3, 1) := by decide +kernel
theorem dX12_alias_55 : decode cX12_alias 55 = .ok (.iastore, 1) := by decide +kernel
theorem dX12_alias_56 : decode cX12_alias 56 = .ok (.aload_n 0, 1) := by decide +kernel
theorem dX12_alias_57 : decode cX12_alias 57 = .ok (.dup, 1) := by decide +kernel
theorem dX12_alias_58 : decode cX12_alias 58 = .ok (.getfield 374, 3) := by decide +kernel
theorem dX12_alias_61 : decode cX12_alias 61 = .ok (.iconst 1, 1) := by decide +kernel
theorem dX12_alias_62 : decode cX12_alias 62 = .ok (.iadd, 1) := by decide +kernel
theorem dX12_alias_63 : decode cX12_alias 63 = .ok (.putfield 374, 3) := by decide +kernel
theorem dX12_alias_66 : decode cX12_alias 66 = .ok (.sipush 5000, 3) := by decide +kernel
theorem dX12_alias_69 : decode cX12_alias 69 = .ok (.aload_n 0, 1) := by decide +kernel
theorem dX12_alias_70 : decode cX12_alias 70 = .ok (.getfield 374, 3) := by decide +kernel
theorem dX12_alias_73 : decode cX12_alias 73 = .ok (.iadd, 1) := by decide +kernel
theorem dX12_alias_74 : decode cX12_alias 74 = .ok (.iconst 1, 1) := by decide +kernel
theorem dX12_alias_75 : decode cX12_alias 75 = .ok (.isub, 1) := by decide +kernel
theorem dX12_alias_76 : decode cX12_alias 76 = .ok (.ireturn, 1) := by decide +kernel
theorem dX12_begin_0 : decode cX12_begin 0 = .ok (.aload_n 0, 1) := by decide +kernel
theorem dX12_begin_1 : decode cX12_begin 1 = .ok (.getfield 32, 3) := by decide +kernel
theorem dX12_begin_4 : decode cX12_begin 4 = .ok (.iload_n 1, 1) := by decide +kernel
theorem dX12_begin_5 : decode cX12_begin 5 = .ok (.baload, 1) := by decide +kernel
theorem dX12_begin_6 : decode cX12_begin 6 = .ok (.ifCond .ne 5, 3) := by decide +kernel
theorem dX12_begin_9 : decode cX12_begin 9 = .ok (.iload_n 1, 1) := by decide +kernel
theorem dX12_begin_10 : decode cX12_begin 10 = .ok (.ireturn, 1) := by decide +kernel
theorem dX12_begin_11 : decode cX12_begin 11 = .ok (.aload_n 0, 1) := by decide +kernel
theorem dX12_begin_12 : decode cX12_begin 12 = .ok (.getfield 32, 3) := by decide +kernel
theorem dX12_begin_15 : decode cX12_begin 15 = .ok (.iload_n 1, 1) := by decide +kernel
theorem dX12_begin_16 : decode cX12_begin 16 = .ok (.baload, 1) := by decide +kernel
theorem dX12_begin_17 : decode cX12_begin 17 = .ok (.iconst 2, 1) := by decide +kernel
theorem dX12_begin_18 : decode cX12_begin 18 = .ok (.if_icmp .ne 23, 3) := by decide +kernel
theorem dX12_begin_21 : decode cX12_begin 21 = .ok (.aload_n 0, 1) := by decide +kernel
theorem dX12_begin_22 : decode cX12_begin 22 = .ok (.iconst 2, 1) := by decide +kernel
theorem dX12_begin_23 : decode cX12_begin 23 = .ok (.iconst 0, 1) := by decide +kernel
theorem dX12_begin_24 : decode cX12_begin 24 = .ok (.iconst 0, 1) := by decide +kernel
theorem dX12_begin_25 : decode cX12_begin 25 = .ok (.invokevirtual 206, 3) := by decide +kernel
theorem dX12_begin_28 : decode cX12_begin 28 = .ok (.istore 5, 2) := by decide +kernel
theorem dX12_begin_30 : decode cX12_begin 30 = .ok (.aload_n 0, 1) := by decide +kernel
theorem dX12_begin_31 : decode cX12_begin 31 = .ok (.iload_n 1, 1) := by decide +kernel
theorem dX12_begin_32 : decode cX12_begin 32 = .ok (.iload_n 2, 1) := by decide +kernel
theorem dX12_begin_33 : decode cX12_begin 33 = .ok (.iload 5, 2) := by decide +kernel
theorem dX12_begin_35 : decode cX12_begin 35 = .ok (.invokevirtual 318, 3) := by decide +kernel
theorem dX12_begin_38 : decode cX12_begin 38 = .ok (.iload 5, 2) := by decide +kernel
theorem dX12_begin_40 : decode cX12_begin 40 = .ok (.ireturn, 1) := by decide +kernel
theorem dX12_begin_41 : decode cX12_begin 41 = .ok (.aload_n 0, 1) := by decide +kernel
theorem dX12_begin_42 : decode cX12_begin 42 = .ok (.aload_n 0, 1) := by decide +kernel
theorem dX12_begin_43 : decode cX12_begin 43 = .ok (.getfield 35, 3) := by decide +kernel
theorem dX12_begin_46 : decode cX12_begin 46 = .ok (.iload_n 1, 1) := by decide +kernel
theorem dX12_begin_47 : decode cX12_begin 47 = .ok (.iaload, 1) := by decide +kernel
theorem dX12_begin_48 : decode cX12_begin 48 = .ok (.invokevirtual 327, 3) := by decide +kernel
theorem dX12_begin_51 : decode cX12_begin 51 = .ok (.istore 5, 2) := by decide +kernel
theorem dX12_begin_53 : decode cX12_begin 53 = .ok (.iload 5, 2) := by decide +kernel
theorem dX12_begin_55 : decode cX12_begin 55 = .ok (.ifCond .lt 32, 3) := by decide +kernel
theorem dX12_begin_58 : decode cX12_begin 58 = .ok (.aload_n 0, 1) := by decide +kernel
theorem dX12_begin_59 : decode cX12_begin 59 = .ok (.getfield 116, 3) := by decide +kernel
theorem dX12_begin_62 : decode cX12_begin 62 = .ok (.aload_n 0, 1) := by decide +kernel
theorem dX12_begin_63 : decode cX12_begin 63 = .ok (.getfield 110, 3) := by decide +kernel
theorem dX12_begin_66 : decode cX12_begin 66 = .ok (.iload 5, 2) := by decide +kernel
theorem dX12_begin_68 : decode cX12_begin 68 = .ok (.iaload, 1) := by decide +kernel
theorem dX12_begin_69 : decode cX12_begin 69 = .ok (.aload_n 0, 1) := by decide +kernel
theorem dX12_begin_70 : decode cX12_begin 70 = .ok (.getfield 94, 3) := by decide +kernel
theorem dX12_begin_73 : decode cX12_begin 73 = .ok (.iload 5, 2) := by decide +kernel
theorem dX12_begin_75 : decode cX12_begin 75 = .ok (.baload, 1) := by decide +kernel
theorem dX12_begin_76 : decode cX12_begin 76 = .ok (.ifCond .eq 7, 3) := by decide +kernel
theorem dX12_begin_79 : decode cX12_begin 79 = .ok (.iload_n 2, 1) := by decide +kernel
theorem dX12_begin_80 : decode cX12_begin 80 = .ok (.goto 4, 3) := by decide +kernel
theorem dX12_begin_83 : decode cX12_begin 83 = .ok (.iconst 0, 1) := by decide +kernel
theorem dX12_begin_84 : decode cX12_begin 84 = .ok (.iadd, 1) := by decide +kernel
theorem dX12_begin_85 : decode cX12_begin 85 = .ok (.iaload, 1) := by decide +kernel
theorem dX12_begin_86 : decode cX12_begin 86 = .ok (.ireturn, 1) := by decide +kernel
theorem dX12_begin_87 : decode cX12_begin 87 = .ok (.aload_n 0, 1) := by decide +kernel
theorem dX12_begin_88 : decode cX12_begin 88 = .ok (.iconst 1, 1) := by decide +kernel
theorem dX12_begin_89 : decode cX12_begin 89 = .ok (.aload_n 0, 1) := by decide +kernel
theorem dX12_begin_90 : decode cX12_begin 90 = .ok (.aload_n 0, 1) := by decide +kernel
theorem dX12_begin_91 : decode cX12_begin 91 = .ok (.getfield 35, 3) := by decide +kernel
theorem dX12_begin_94 : decode cX12_begin 94 = .ok (.iload_n 1, 1) := by decide +kernel
theorem dX12_begin_95 : decode cX12_begin 95 = .ok (.iaload, 1) := by decide +kernel
theorem dX12_begin_96 : decode cX12_begin 96 = .ok (.iload_n 3, 1) := by decide +kernel
theorem dX12_begin_97 : decode cX12_begin 97 = .ok (.iload 4, 2) := by decide +kernel
theorem dX12_begin_99 : decode cX12_begin 99 = .ok (.invokevirtual 377, 3) := by decide +kernel
theorem dX12_begin_102 : decode cX12_begin 102 = .ok (.iconst 0, 1) := by decide +kernel
theorem dX12_begin_103 : decode cX12_begin 103 = .ok (.invokevirtual 206, 3) := by decide +kernel
theorem dX12_begin_106 : decode cX12_begin 106 = .ok (.ireturn, 1) := by decide +kernel
theorem dX12_make_0 : decode cX12_make 0 = .ok (.aload_n 0, 1) := by decide +kernel
theorem dX12_make_1 : decode cX12_make 1 = .ok (.iconst 0, 1) := by decide +kernel
theorem dX12_make_2 : decode cX12_make 2 = .ok (.putfield 306, 3) := by decide +kernel
theorem dX12_make_5 : decode cX12_make 5 = .ok (.aload_n 0, 1) := by decide +kernel
theorem dX12_make_6 : decode cX12_make 6 = .ok (.getfield 374, 3) := by decide +kernel
theorem dX12_make_9 : decode cX12_make 9 = .ok (.istore_n 3, 1) := by decide +kernel
theorem dX12_make_10 : decode cX12_make 10 = .ok (.aload_n 0, 1) := by decide +kernel
theorem dX12_make_11 : decode cX12_make 11 = .ok (.iload_n 1, 1) := by decide +kernel
theorem dX12_make_12 : decode cX12_make 12 = .ok (.iconst 0, 1) := by decide +kernel
theorem dX12_make_13 : decode cX12_make 13 = .ok (.iload_n 3, 1) := by decide +kernel
theorem dX12_make_14 : decode cX12_make 14 = .ok (.iload_n 2, 1) := by decide +kernel
theorem dX12_make_15 : decode cX12_make 15 = .ok (.invokevirtual 380, 3) := by decide +kernel
theorem dX12_make_18 : decode cX12_make 18 = .ok (.istore 4, 2) := by decide +kernel
theorem dX12_make_20 : decode cX12_make 20 = .ok (.iconst 0, 1) := by decide +kernel
theorem dX12_make_21 : decode cX12_make 21 = .ok (.istore 5, 2) := by decide +kernel
theorem dX12_make_23 : decode cX12_make 23 = .ok (.iload 5, 2) := by decide +kernel
theorem dX12_make_25 : decode cX12_make 25 = .ok (.aload_n 0, 1) := by decide +kernel
theorem dX12_make_26 : decode cX12_make 26 = .ok (.getfield 306, 3) := by decide +kernel
theorem dX12_make_29 : decode cX12_make 29 = .ok (.if_icmp .ge 189, 3) := by decide +kernel
theorem dX12_make_32 : decode cX12_make 32 = .ok (.aload_n 0, 1) := by decide +kernel
theorem dX12_make_33 : decode cX12_make 33 = .ok (.getfield 98, 3) := by decide +kernel
theorem dX12_make_36 : decode cX12_make 36 = .ok (.iload 5, 2) := by decide +kernel
theorem dX12_make_38 : decode cX12_make 38 = .ok (.iaload, 1) := by decide +kernel
theorem dX12_make_39 : decode cX12_make 39 = .ok (.istore 6, 2) := by decide +kernel
theorem dX12_make_41 : decode cX12_make 41 = .ok (.aload_n 0, 1) := by decide +kernel
theorem dX12_make_42 : decode cX12_make 42 = .ok (.getfield 104, 3) := by decide +kernel
theorem dX12_make_45 : decode cX12_make 45 = .ok (.iload 5, 2) := by decide +kernel
theorem dX12_make_47 : decode cX12_make 47 = .ok (.iaload, 1) := by decide +kernel
theorem dX12_make_48 : decode cX12_make 48 = .ok (.istore 7, 2) := by decide +kernel
theorem dX12_make_50 : decode cX12_make 50 = .ok (.aload_n 0, 1) := by decide +kernel
theorem dX12_make_51 : decode cX12_make 51 = .ok (.getfield 220, 3) := by decide +kernel
theorem dX12_make_54 : decode cX12_make 54 = .ok (.istore 8, 2) := by decide +kernel
theorem dX12_make_56 : decode cX12_make 56 = .ok (.iconst 0, 1) := by decide +kernel
theorem dX12_make_57 : decode cX12_make 57 = .ok (.istore 9, 2) := by decide +kernel
theorem dX12_make_59 : decode cX12_make 59 = .ok (.iload 9, 2) := by decide +kernel
theorem dX12_make_61 : decode cX12_make 61 = .ok (.aload_n 0, 1) := by decide +kernel
theorem dX12_make_62 : decode cX12_make 62 = .ok (.getfield 38, 3) := by decide +kernel
theorem dX12_make_65 : decode cX12_make 65 = .ok (.iload 6, 2) := by decide +kernel
theorem dX12_make_67 : decode cX12_make 67 = .ok (.iaload, 1) := by decide +kernel
theorem dX12_make_68 : decode cX12_make 68 = .ok (.if_icmp .ge 121, 3) := by decide +kernel
theorem dX12_make_71 : decode cX12_make 71 = .ok (.aload_n 0, 1) := by decide +kernel
theorem dX12_make_72 : decode cX12_make 72 = .ok (.iload 6, 2) := by decide +kernel
theorem dX12_make_74 : decode cX12_make 74 = .ok (.iload 9, 2) := by decide +kernel
theorem dX12_make_76 : decode cX12_make 76 = .ok (.iconst 1, 1) := by decide +kernel
theorem dX12_make_77 : decode cX12_make 77 = .ok (.iadd, 1) := by decide +kernel
theorem dX12_make_78 : decode cX12_make 78 = .ok (.invokevirtual 321, 3) := by decide +kernel
theorem dX12_make_81 : decode cX12_make 81 = .ok (.istore 10, 2) := by decide +kernel
theorem dX12_make_83 : decode cX12_make 83 = .ok (.iload 10, 2) := by decide +kernel
theorem dX12_make_85 : decode cX12_make 85 = .ok (.ifCond .eq 18, 3) := by decide +kernel
theorem dX12_make_88 : decode cX12_make 88 = .ok (.aload_n 0, 1) := by decide +kernel
theorem dX12_make_89 : decode cX12_make 89 = .ok (.aload_n 0, 1) := by decide +kernel
theorem dX12_make_90 : decode cX12_make 90 = .ok (.iload 6, 2) := by decide +kernel
theorem dX12_make_92 : decode cX12_make 92 = .ok (.iload 9, 2) := by decide +kernel
theorem dX12_make_94 : decode cX12_make 94 = .ok (.invokevirtual 192, 3) := by decide +kernel
theorem dX12_make_97 : decode cX12_make 97 = .ok (.invokevirtual 367, 3) := by decide +kernel
theorem dX12_make_100 : decode cX12_make 100 = .ok (.goto 4, 3) := by decide +kernel
theorem dX12_make_103 : decode cX12_make 103 = .ok (.iconst 1, 1) := by decide +kernel
theorem dX12_make_104 : decode cX12_make 104 = .ok (.istore 11, 2) := by decide +kernel
theorem dX12_make_106 : decode cX12_make 106 = .ok (.iconst 0, 1) := by decide +kernel
theorem dX12_make_107 : decode cX12_make 107 = .ok (.istore 12, 2) := by decide +kernel
theorem dX12_make_109 : decode cX12_make 109 = .ok (.iload 12, 2) := by decide +kernel
theorem dX12_make_111 : decode cX12_make 111 = .ok (.iload 11, 2) := by decide +kernel
theorem dX12_make_113 : decode cX12_make 113 = .ok (.if_icmp .ge 70, 3) := by decide +kernel
theorem dX12_make_116 : decode cX12_make 116 = .ok (.aload_n 0, 1) := by decide +kernel
theorem dX12_make_117 : decode cX12_make 117 = .ok (.iload 6, 2) := by decide +kernel
theorem dX12_make_119 : decode cX12_make 119 = .ok (.iload 9, 2) := by decide +kernel
theorem dX12_make_121 : decode cX12_make 121 = .ok (.invokevirtual 321, 3) := by decide +kernel
theorem dX12_make_124 : decode cX12_make 124 = .ok (.ifCond .ne 59, 3) := by decide +kernel
theorem dX12_make_127 : decode cX12_make 127 = .ok (.aload_n 0, 1) := by decide +kernel
theorem dX12_make_128 : decode cX12_make 128 = .ok (.getfield 41, 3) := by decide +kernel
theorem dX12_make_131 : decode cX12_make 131 = .ok (.aload_n 0, 1) := by decide +kernel
theorem dX12_make_132 : decode cX12_make 132 = .ok (.getfield 220, 3) := by decide +kernel
theorem dX12_make_135 : decode cX12_make 135 = .ok (.aload_n 0, 1) := by decide +kernel
theorem dX12_make_136 : decode cX12_make 136 = .ok (.aload_n 0, 1) := by decide +kernel
theorem dX12_make_137 : decode cX12_make 137 = .ok (.iload 6, 2) := by decide +kernel
theorem dX12_make_139 : decode cX12_make 139 = .ok (.iload 9, 2) := by decide +kernel
theorem dX12_make_141 : decode cX12_make 141 = .ok (.invokevirtual 192, 3) := by decide +kernel
theorem dX12_make_144 : decode cX12_make 144 = .ok (.iload 10, 2) := by decide +kernel
theorem dX12_make_146 : decode cX12_make 146 = .ok (.ifCond .eq 8, 3) := by decide +kernel
theorem dX12_make_149 : decode cX12_make 149 = .ok (.iload 12, 2) := by decide +kernel
theorem dX12_make_151 : decode cX12_make 151 = .ok (.goto 10, 3) := by decide +kernel
theorem dX12_make_154 : decode cX12_make 154 = .ok (.aload_n 0, 1) := by decide +kernel
theorem dX12_make_155 : decode cX12_make 155 = .ok (.getfield 101, 3) := by decide +kernel
theorem dX12_make_158 : decode cX12_make 158 = .ok (.iload 5, 2) := by decide +kernel
theorem dX12_make_160 : decode cX12_make 160 = .ok (.iaload, 1) := by decide +kernel
theorem dX12_make_161 : decode cX12_make 161 = .ok (.iload_n 3, 1) := by decide +kernel
theorem dX12_make_162 : decode cX12_make 162 = .ok (.iload_n 2, 1) := by decide +kernel
theorem dX12_make_163 : decode cX12_make 163 = .ok (.invokevirtual 380, 3) := by decide +kernel
theorem dX12_make_166 : decode cX12_make 166 = .ok (.iastore, 1) := by decide +kernel
theorem dX12_make_167 : decode cX12_make 167 = .ok (.aload_n 0, 1) := by decide +kernel
theorem dX12_make_168 : decode cX12_make 168 = .ok (.dup, 1) := by decide +kernel
theorem dX12_make_169 : decode cX12_make 169 = .ok (.getfield 220, 3) := by decide +kernel
theorem dX12_make_172 : decode cX12_make 172 = .ok (.iconst 1, 1) := by decide +kernel
theorem dX12_make_173 : decode cX12_make 173 = .ok (.iadd, 1) := by decide +kernel
theorem dX12_make_174 : decode cX12_make 174 = .ok (.putfield 220, 3) := by decide +kernel
theorem dX12_make_177 : decode cX12_make 177 = .ok (.iinc 12 1, 3) := by decide +kernel
theorem dX12_make_180 : decode cX12_make 180 = .ok (.goto (-71), 3) := by decide +kernel
theorem dX12_make_183 : decode cX12_make 183 = .ok (.iinc 9 1, 3) := by decide +kernel
theorem dX12_make_186 : decode cX12_make 186 = .ok (.goto (-127), 3) := by decide +kernel
theorem dX12_make_189 : decode cX12_make 189 = .ok (.aload_n 0, 1) := by decide +kernel
theorem dX12_make_190 : decode cX12_make 190 = .ok (.getfield 35, 3) := by decide +kernel
theorem dX12_make_193 : decode cX12_make 193 = .ok (.iload 7, 2) := by decide +kernel
theorem dX12_make_195 : decode cX12_make 195 = .ok (.iload 8, 2) := by decide +kernel
theorem dX12_make_197 : decode cX12_make 197 = .ok (.iastore, 1) := by decide +kernel
theorem dX12_make_198 : decode cX12_make 198 = .ok (.aload_n 0, 1) := by decide +kernel
theorem dX12_make_199 : decode cX12_make 199 = .ok (.getfield 38, 3) := by decide +kernel
theorem dX12_make_202 : decode cX12_make 202 = .ok (.iload 7, 2) := by decide +kernel
theorem dX12_make_204 : decode cX12_make 204 = .ok (.aload_n 0, 1) := by decide +kernel
theorem dX12_make_205 : decode cX12_make 205 = .ok (.getfield 220, 3) := by decide +kernel
theorem dX12_make_208 : decode cX12_make 208 = .ok (.iload 8, 2) := by decide +kernel
theorem dX12_make_210 : decode cX12_make 210 = .ok (.isub, 1) := by decide +kernel
theorem dX12_make_211 : decode cX12_make 211 = .ok (.iastore, 1) := by decide +kernel
theorem dX12_make_212 : decode cX12_make 212 = .ok (.iinc 5 1, 3) := by decide +kernel
theorem dX12_make_215 : decode cX12_make 215 = .ok (.goto (-192), 3) := by decide +kernel
theorem dX12_make_218 : decode cX12_make 218 = .ok (.iload 4, 2) := by decide +kernel
theorem dX12_make_220 : decode cX12_make 220 = .ok (.ireturn, 1) := by decide +kernel
theorem dX12_isDefinition_0 : decode cX12_isDefinition 0 = .ok (.aload_n 0, 1) := by decide +kernel
theorem dX12_isDefinition_1 : decode cX12_isDefinition 1 = .ok (.getfield 32, 3) := by decide +kernel
theorem dX12_isDefinition_4 : decode cX12_isDefinition 4 = .ok (.iload_n 1, 1) := by decide +kernel
theorem dX12_isDefinition_5 : decode cX12_isDefinition 5 = .ok (.baload, 1) := by decide +kernel
theorem dX12_isDefinition_6 : decode cX12_isDefinition 6 = .ok (.iconst 2, 1) := by decide +kernel
theorem dX12_isDefinition_7 : decode cX12_isDefinition 7 = .ok (.if_icmp .ne 44, 3) := by decide +kernel
theorem dX12_isDefinition_10 : decode cX12_isDefinition 10 = .ok (.aload_n 0, 1) := by decide +kernel
theorem dX12_isDefinition_11 : decode cX12_isDefinition 11 = .ok (.getfield 38, 3) := by decide +kernel
theorem dX12_isDefinition_14 : decode cX12_isDefinition 14 = .ok (.iload_n 1, 1) := by decide +kernel
theorem dX12_isDefinition_15 : decode cX12_isDefinition 15 = .ok (.iaload, 1) := by decide +kernel
theorem dX12_isDefinition_16 : decode cX12_isDefinition 16 = .ok (.ifCond .le 35, 3) := by decide +kernel
theorem dX12_isDefinition_19 : decode cX12_isDefinition 19 = .ok (.aload_n 0, 1) := by decide +kernel
theorem dX12_isDefinition_20 : decode cX12_isDefinition 20 = .ok (.aload_n 0, 1) := by decide +kernel
theorem dX12_isDefinition_21 : decode cX12_isDefinition 21 = .ok (.iload_n 1, 1) := by decide +kernel
theorem dX12_isDefinition_22 : decode cX12_isDefinition 22 = .ok (.iconst 0, 1) := by decide +kernel
theorem dX12_isDefinition_23 : decode cX12_isDefinition 23 = .ok (.invokevirtual 192, 3) := by decide +kernel
theorem dX12_isDefinition_26 : decode cX12_isDefinition 26 = .ok (.invokevirtual 180, 3) := by decide +kernel
theorem dX12_isDefinition_29 : decode cX12_isDefinition 29 = .ok (.ifCond .eq 22, 3) := by decide +kernel
theorem dX12_isDefinition_32 : decode cX12_isDefinition 32 = .ok (.aload_n 0, 1) := by decide +kernel
theorem dX12_isDefinition_33 : decode cX12_isDefinition 33 = .ok (.getfield 35, 3) := by decide +kernel
theorem dX12_isDefinition_36 : decode cX12_isDefinition 36 = .ok (.aload_n 0, 1) := by decide +kernel
theorem dX12_isDefinition_37 : decode cX12_isDefinition 37 = .ok (.iload_n 1, 1) := by decide +kernel
theorem dX12_isDefinition_38 : decode cX12_isDefinition 38 = .ok (.iconst 0, 1) := by decide +kernel
theorem dX12_isDefinition_39 : decode cX12_isDefinition 39 = .ok (.invokevirtual 192, 3) := by decide +kernel
theorem dX12_isDefinition_42 : decode cX12_isDefinition 42 = .ok (.iaload, 1) := by decide +kernel
theorem dX12_isDefinition_43 : decode cX12_isDefinition 43 = .ok (.iload_n 2, 1) := by decide +kernel
theorem dX12_isDefinition_44 : decode cX12_isDefinition 44 = .ok (.if_icmp .ne 7, 3) := by decide +kernel
theorem dX12_isDefinition_47 : decode cX12_isDefinition 47 = .ok (.iconst 1, 1) := by decide +kernel
theorem dX12_isDefinition_48 : decode cX12_isDefinition 48 = .ok (.goto 4, 3) := by decide +kernel
theorem dX12_isDefinition_51 : decode cX12_isDefinition 51 = .ok (.iconst 0, 1) := by decide +kernel
theorem dX12_isDefinition_52 : decode cX12_isDefinition 52 = .ok (.ireturn, 1) := by decide +kernel
theorem dX12_doAll_0 : decode cX12_doAll 0 = .ok (.aload_n 0, 1) := by decide +kernel
theorem dX12_doAll_1 : decode cX12_doAll 1 = .ok (.getfield 229, 3) := by decide +kernel
theorem dX12_doAll_4 : decode cX12_doAll 4 = .ok (.ifCond .le 97, 3) := by decide +kernel
theorem dX12_doAll_7 : decode cX12_doAll 7 = .ok (.aload_n 0, 1) := by decide +kernel
theorem dX12_doAll_8 : decode cX12_doAll 8 = .ok (.getfield 236, 3) := by decide +kernel
theorem dX12_doAll_11 : decode cX12_doAll 11 = .ok (.ifCond .ne 90, 3) := by decide +kernel
theorem dX12_doAll_14 : decode cX12_doAll 14 = .ok (.aload_n 0, 1) := by decide +kernel
theorem dX12_doAll_15 : decode cX12_doAll 15 = .ok (.dup, 1) := by decide +kernel
theorem dX12_doAll_16 : decode cX12_doAll 16 = .ok (.getfield 229, 3) := by decide +kernel
theorem dX12_doAll_19 : decode cX12_doAll 19 = .ok (.iconst 1, 1) := by decide +kernel
theorem dX12_doAll_20 : decode cX12_doAll 20 = .ok (.isub, 1) := by decide +kernel
theorem dX12_doAll_21 : decode cX12_doAll 21 = .ok (.putfield 229, 3) := by decide +kernel
theorem dX12_doAll_24 : decode cX12_doAll 24 = .ok (.aload_n 0, 1) := by decide +kernel
theorem dX12_doAll_25 : decode cX12_doAll 25 = .ok (.getfield 70, 3) := by decide +kernel
theorem dX12_doAll_28 : decode cX12_doAll 28 = .ok (.aload_n 0, 1) := by decide +kernel
theorem dX12_doAll_29 : decode cX12_doAll 29 = .ok (.getfield 229, 3) := by decide +kernel
theorem dX12_doAll_32 : decode cX12_doAll 32 = .ok (.iaload, 1) := by decide +kernel
theorem dX12_doAll_33 : decode cX12_doAll 33 = .ok (.istore_n 1, 1) := by decide +kernel
theorem dX12_doAll_34 : decode cX12_doAll 34 = .ok (.aload_n 0, 1) := by decide +kernel
theorem dX12_doAll_35 : decode cX12_doAll 35 = .ok (.getfield 67, 3) := by decide +kernel
theorem dX12_doAll_38 : decode cX12_doAll 38 = .ok (.aload_n 0, 1) := by decide +kernel
theorem dX12_doAll_39 : decode cX12_doAll 39 = .ok (.getfield 229, 3) := by decide +kernel
theorem dX12_doAll_42 : decode cX12_doAll 42 = .ok (.baload, 1) := by decide +kernel
theorem dX12_doAll_43 : decode cX12_doAll 43 = .ok (.ifCond .ne 29, 3) := by decide +kernel
theorem dX12_doAll_46 : decode cX12_doAll 46 = .ok (.aload_n 0, 1) := by decide +kernel
theorem dX12_doAll_47 : decode cX12_doAll 47 = .ok (.iload_n 1, 1) := by decide +kernel
theorem dX12_doAll_48 : decode cX12_doAll 48 = .ok (.aload_n 0, 1) := by decide +kernel
theorem dX12_doAll_49 : decode cX12_doAll 49 = .ok (.getfield 73, 3) := by decide +kernel
theorem dX12_doAll_52 : decode cX12_doAll 52 = .ok (.aload_n 0, 1) := by decide +kernel
theorem dX12_doAll_53 : decode cX12_doAll 53 = .ok (.getfield 229, 3) := by decide +kernel
theorem dX12_doAll_56 : decode cX12_doAll 56 = .ok (.iaload, 1) := by decide +kernel
theorem dX12_doAll_57 : decode cX12_doAll 57 = .ok (.aload_n 0, 1) := by decide +kernel
theorem dX12_doAll_58 : decode cX12_doAll 58 = .ok (.getfield 76, 3) := by decide +kernel
theorem dX12_doAll_61 : decode cX12_doAll 61 = .ok (.aload_n 0, 1) := by decide +kernel
theorem dX12_doAll_62 : decode cX12_doAll 62 = .ok (.getfield 229, 3) := by decide +kernel
theorem dX12_doAll_65 : decode cX12_doAll 65 = .ok (.iaload, 1) := by decide +kernel
theorem dX12_doAll_66 : decode cX12_doAll 66 = .ok (.invokevirtual 384, 3) := by decide +kernel
theorem dX12_doAll_69 : decode cX12_doAll 69 = .ok (.goto 29, 3) := by decide +kernel
theorem dX12_doAll_72 : decode cX12_doAll 72 = .ok (.aload_n 0, 1) := by decide +kernel
theorem dX12_doAll_73 : decode cX12_doAll 73 = .ok (.getfield 67, 3) := by decide +kernel
theorem dX12_doAll_76 : decode cX12_doAll 76 = .ok (.aload_n 0, 1) := by decide +kernel
theorem dX12_doAll_77 : decode cX12_doAll 77 = .ok (.getfield 229, 3) := by decide +kernel
theorem dX12_doAll_80 : decode cX12_doAll 80 = .ok (.baload, 1) := by decide +kernel
theorem dX12_doAll_81 : decode cX12_doAll 81 = .ok (.iconst 1, 1) := by decide +kernel
theorem dX12_doAll_82 : decode cX12_doAll 82 = .ok (.if_icmp .ne 11, 3) := by decide +kernel
theorem dX12_doAll_85 : decode cX12_doAll 85 = .ok (.aload_n 0, 1) := by decide +kernel
theorem dX12_doAll_86 : decode cX12_doAll 86 = .ok (.iload_n 1, 1) := by decide +kernel
theorem dX12_doAll_87 : decode cX12_doAll 87 = .ok (.invokevirtual 387, 3) := by decide +kernel
theorem dX12_doAll_90 : decode cX12_doAll 90 = .ok (.goto 8, 3) := by decide +kernel
theorem dX12_doAll_93 : decode cX12_doAll 93 = .ok (.aload_n 0, 1) := by decide +kernel
theorem dX12_doAll_94 : decode cX12_doAll 94 = .ok (.iload_n 1, 1) := by decide +kernel
theorem dX12_doAll_95 : decode cX12_doAll 95 = .ok (.invokevirtual 226, 3) := by decide +kernel
theorem dX12_doAll_98 : decode cX12_doAll 98 = .ok (.goto (-98), 3) := by decide +kernel
theorem dX12_doAll_101 : decode cX12_doAll 101 = .ok (.return_, 1) := by decide +kernel
theorem dX12_defineSyntax_0 : decode cX12_defineSyntax 0 = .ok (.aload_n 0, 1) := by decide +kernel
theorem dX12_defineSyntax_1 : decode cX12_defineSyntax 1 = .ok (.iload_n 1, 1) := by decide +kernel
theorem dX12_defineSyntax_2 : decode cX12_defineSyntax 2 = .ok (.iconst 2, 1) := by decide +kernel
theorem dX12_defineSyntax_3 : decode cX12_defineSyntax 3 = .ok (.invokevirtual 192, 3) := by decide +kernel
theorem dX12_defineSyntax_6 : decode cX12_defineSyntax 6 = .ok (.istore_n 3, 1) := by decide +kernel
theorem dX12_defineSyntax_7 : decode cX12_defineSyntax 7 = .ok (.aload_n 0, 1) := by decide +kernel
theorem dX12_defineSyntax_8 : decode cX12_defineSyntax 8 = .ok (.aload_n 0, 1) := by decide +kernel
theorem dX12_defineSyntax_9 : decode cX12_defineSyntax 9 = .ok (.iload_n 3, 1) := by decide +kernel
theorem dX12_defineSyntax_10 : decode cX12_defineSyntax 10 = .ok (.iconst 0, 1) := by decide +kernel
theorem dX12_defineSyntax_11 : decode cX12_defineSyntax 11 = .ok (.invokevirtual 303, 3) := by decide +kernel
theorem dX12_defineSyntax_14 : decode cX12_defineSyntax 14 = .ok (.iconst 3, 1) := by decide +kernel
theorem dX12_defineSyntax_15 : decode cX12_defineSyntax 15 = .ok (.invokevirtual 255, 3) := by decide +kernel
theorem dX12_defineSyntax_18 : decode cX12_defineSyntax 18 = .ok (.ifCond .eq 55, 3) := by decide +kernel
theorem dX12_defineSyntax_21 : decode cX12_defineSyntax 21 = .ok (.aload_n 0, 1) := by decide +kernel
theorem dX12_defineSyntax_22 : decode cX12_defineSyntax 22 = .ok (.aload_n 0, 1) := by decide +kernel
theorem dX12_defineSyntax_23 : decode cX12_defineSyntax 23 = .ok (.getfield 390, 3) := by decide +kernel
theorem dX12_defineSyntax_26 : decode cX12_defineSyntax 26 = .ok (.aload_n 0, 1) := by decide +kernel
theorem dX12_defineSyntax_27 : decode cX12_defineSyntax 27 = .ok (.iload_n 3, 1) := by decide +kernel
theorem dX12_defineSyntax_28 : decode cX12_defineSyntax 28 = .ok (.invokevirtual 370, 3) := by decide +kernel
theorem dX12_defineSyntax_31 : decode cX12_defineSyntax 31 = .ok (.iadd, 1) := by decide +kernel
theorem dX12_defineSyntax_32 : decode cX12_defineSyntax 32 = .ok (.sipush 4000, 3) := by decide +kernel
theorem dX12_defineSyntax_35 : decode cX12_defineSyntax 35 = .ok (.if_icmp .gt 7, 3) := by decide +kernel
theorem dX12_defineSyntax_38 : decode cX12_defineSyntax 38 = .ok (.iconst 1, 1) := by decide +kernel
theorem dX12_defineSyntax_39 : decode cX12_defineSyntax 39 = .ok (.goto 4, 3) := by decide +kernel
theorem dX12_defineSyntax_42 : decode cX12_defineSyntax 42 = .ok (.iconst 0, 1) := by decide +kernel
theorem dX12_defineSyntax_43 : decode cX12_defineSyntax 43 = .ok (.iconst 2, 1) := by decide +kernel
theorem dX12_defineSyntax_44 : decode cX12_defineSyntax 44 = .ok (.invokevirtual 255, 3) := by decide +kernel
theorem dX12_defineSyntax_47 : decode cX12_defineSyntax 47 = .ok (.ifCond .eq 26, 3) := by decide +kernel
theorem dX12_defineSyntax_50 : decode cX12_defineSyntax 50 = .ok (.aload_n 0, 1) := by decide +kernel
theorem dX12_defineSyntax_51 : decode cX12_defineSyntax 51 = .ok (.aload_n 0, 1) := by decide +kernel
theorem dX12_defineSyntax_52 : decode cX12_defineSyntax 52 = .ok (.getfield 390, 3) := by decide +kernel
theorem dX12_defineSyntax_55 : decode cX12_defineSyntax 55 = .ok (.aload_n 0, 1) := by decide +kernel
theorem dX12_defineSyntax_56 : decode cX12_defineSyntax 56 = .ok (.iload_n 3, 1) := by decide +kernel
theorem dX12_defineSyntax_57 : decode cX12_defineSyntax 57 = .ok (.invokevirtual 370, 3) := by decide +kernel
theorem dX12_defineSyntax_60 : decode cX12_defineSyntax 60 = .ok (.iadd, 1) := by decide +kernel
theorem dX12_defineSyntax_61 : decode cX12_defineSyntax 61 = .ok (.putfield 390, 3) := by decide +kernel
theorem dX12_defineSyntax_64 : decode cX12_defineSyntax 64 = .ok (.aload_n 0, 1) := by decide +kernel
theorem dX12_defineSyntax_65 : decode cX12_defineSyntax 65 = .ok (.getfield 25, 3) := by decide +kernel
theorem dX12_defineSyntax_68 : decode cX12_defineSyntax 68 = .ok (.iload_n 2, 1) := by decide +kernel
theorem dX12_defineSyntax_69 : decode cX12_defineSyntax 69 = .ok (.iload_n 3, 1) := by decide +kernel
theorem dX12_defineSyntax_70 : decode cX12_defineSyntax 70 = .ok (.iconst 1, 1) := by decide +kernel
theorem dX12_defineSyntax_71 : decode cX12_defineSyntax 71 = .ok (.iadd, 1) := by decide +kernel
theorem dX12_defineSyntax_72 : decode cX12_defineSyntax 72 = .ok (.iastore, 1) := by decide +kernel
theorem dX12_defineSyntax_73 : decode cX12_defineSyntax 73 = .ok (.return_, 1) := by decide +kernel
theorem dX12_top_0 : decode cX12_top 0 = .ok (.aload_n 0, 1) := by decide +kernel
theorem dX12_top_1 : decode cX12_top 1 = .ok (.iload_n 1, 1) := by decide +kernel
theorem dX12_top_2 : decode cX12_top 2 = .ok (.bipush 6, 2) := by decide +kernel
theorem dX12_top_4 : decode cX12_top 4 = .ok (.invokevirtual 393, 3) := by decide +kernel
theorem dX12_top_7 : decode cX12_top 7 = .ok (.istore_n 2, 1) := by decide +kernel
theorem dX12_top_8 : decode cX12_top 8 = .ok (.aload_n 0, 1) := by decide +kernel
theorem dX12_top_9 : decode cX12_top 9 = .ok (.iload_n 1, 1) := by decide +kernel
theorem dX12_top_10 : decode cX12_top 10 = .ok (.iconst 5, 1) := by decide +kernel
theorem dX12_top_11 : decode cX12_top 11 = .ok (.invokevirtual 393, 3) := by decide +kernel
theorem dX12_top_14 : decode cX12_top 14 = .ok (.istore_n 3, 1) := by decide +kernel
theorem dX12_top_15 : decode cX12_top 15 = .ok (.iconst (-1), 1) := by decide +kernel
theorem dX12_top_16 : decode cX12_top 16 = .ok (.istore 4, 2) := by decide +kernel
theorem dX12_top_18 : decode cX12_top 18 = .ok (.aload_n 0, 1) := by decide +kernel
theorem dX12_top_19 : decode cX12_top 19 = .ok (.getfield 223, 3) := by decide +kernel
theorem dX12_top_22 : decode cX12_top 22 = .ok (.ifCond .le 13, 3) := by decide +kernel
theorem dX12_top_25 : decode cX12_top 25 = .ok (.iload_n 2, 1) := by decide +kernel
theorem dX12_top_26 : decode cX12_top 26 = .ok (.ifCond .ne 9, 3) := by decide +kernel
theorem dX12_top_29 : decode cX12_top 29 = .ok (.aload_n 0, 1) := by decide +kernel
theorem dX12_top_30 : decode cX12_top 30 = .ok (.bipush 32, 2) := by decide +kernel
theorem dX12_top_32 : decode cX12_top 32 = .ok (.invokevirtual 226, 3) := by decide +kernel
theorem dX12_top_35 : decode cX12_top 35 = .ok (.iload_n 2, 1) := by decide +kernel
theorem dX12_top_36 : decode cX12_top 36 = .ok (.ifCond .ne 7, 3) := by decide +kernel
theorem dX12_top_39 : decode cX12_top 39 = .ok (.iload_n 3, 1) := by decide +kernel
theorem dX12_top_40 : decode cX12_top 40 = .ok (.ifCond .eq 72, 3) := by decide +kernel
theorem dX12_top_43 : decode cX12_top 43 = .ok (.aload_n 0, 1) := by decide +kernel
theorem dX12_top_44 : decode cX12_top 44 = .ok (.iload_n 1, 1) := by decide +kernel
theorem dX12_top_45 : decode cX12_top 45 = .ok (.iconst 3, 1) := by decide +kernel
theorem dX12_top_46 : decode cX12_top 46 = .ok (.invokevirtual 276, 3) := by decide +kernel
theorem dX12_top_49 : decode cX12_top 49 = .ok (.ifCond .eq 36, 3) := by decide +kernel
theorem dX12_top_52 : decode cX12_top 52 = .ok (.aload_n 0, 1) := by decide +kernel
theorem dX12_top_53 : decode cX12_top 53 = .ok (.aload_n 0, 1) := by decide +kernel
theorem dX12_top_54 : decode cX12_top 54 = .ok (.iload_n 1, 1) := by decide +kernel
theorem dX12_top_55 : decode cX12_top 55 = .ok (.iconst 1, 1) := by decide +kernel
theorem dX12_top_56 : decode cX12_top 56 = .ok (.invokevirtual 192, 3) := by decide +kernel
theorem dX12_top_59 : decode cX12_top 59 = .ok (.invokevirtual 180, 3) := by decide +kernel
theorem dX12_top_62 : decode cX12_top 62 = .ok (.ifCond .eq 23, 3) := by decide +kernel
theorem dX12_top_65 : decode cX12_top 65 = .ok (.aload_n 0, 1) := by decide +kernel
theorem dX12_top_66 : decode cX12_top 66 = .ok (.getfield 35, 3) := by decide +kernel
theorem dX12_top_69 : decode cX12_top 69 = .ok (.aload_n 0, 1) := by decide +kernel
theorem dX12_top_70 : decode cX12_top 70 = .ok (.iload_n 1, 1) := by decide +kernel
theorem dX12_top_71 : decode cX12_top 71 = .ok (.iconst 1, 1) := by decide +kernel
theorem dX12_top_72 : decode cX12_top 72 = .ok (.invokevirtual 192, 3) := by decide +kernel
theorem dX12_top_75 : decode cX12_top 75 = .ok (.iaload, 1) := by decide +kernel
theorem dX12_top_76 : decode cX12_top 76 = .ok (.bipush 8, 2) := by decide +kernel
theorem dX12_top_78 : decode cX12_top 78 = .ok (.if_icmp .le 7, 3) := by decide +kernel
theorem dX12_top_81 : decode cX12_top 81 = .ok (.iconst 1, 1) := by decide +kernel
theorem dX12_top_82 : decode cX12_top 82 = .ok (.goto 4, 3) := by decide +kernel
theorem dX12_top_85 : decode cX12_top 85 = .ok (.iconst 0, 1) := by decide +kernel
theorem dX12_top_86 : decode cX12_top 86 = .ok (.istore 5, 2) := by decide +kernel
theorem dX12_top_88 : decode cX12_top 88 = .ok (.aload_n 0, 1) := by decide +kernel
theorem dX12_top_89 : decode cX12_top 89 = .ok (.iload 5, 2) := by decide +kernel
theorem dX12_top_91 : decode cX12_top 91 = .ok (.iconst 3, 1) := by decide +kernel
theorem dX12_top_92 : decode cX12_top 92 = .ok (.invokevirtual 255, 3) := by decide +kernel
theorem dX12_top_95 : decode cX12_top 95 = .ok (.ifCond .ne 4, 3) := by decide +kernel
theorem dX12_top_98 : decode cX12_top 98 = .ok (.return_, 1) := by decide +kernel
theorem dX12_top_99 : decode cX12_top 99 = .ok (.aload_n 0, 1) := by decide +kernel
theorem dX12_top_100 : decode cX12_top 100 = .ok (.getfield 35, 3) := by decide +kernel
theorem dX12_top_103 : decode cX12_top 103 = .ok (.aload_n 0, 1) := by decide +kernel
theorem dX12_top_104 : decode cX12_top 104 = .ok (.iload_n 1, 1) := by decide +kernel
theorem dX12_top_105 : decode cX12_top 105 = .ok (.iconst 1, 1) := by decide +kernel
theorem dX12_top_106 : decode cX12_top 106 = .ok (.invokevirtual 192, 3) := by decide +kernel
theorem dX12_top_109 : decode cX12_top 109 = .ok (.iaload, 1) := by decide +kernel
theorem dX12_top_110 : decode cX12_top 110 = .ok (.istore 4, 2) := by decide +kernel
theorem dX12_top_112 : decode cX12_top 112 = .ok (.iload_n 2, 1) := by decide +kernel
theorem dX12_top_113 : decode cX12_top 113 = .ok (.ifCond .eq 11, 3) := by decide +kernel
theorem dX12_top_116 : decode cX12_top 116 = .ok (.aload_n 0, 1) := by decide +kernel
theorem dX12_top_117 : decode cX12_top 117 = .ok (.iload_n 1, 1) := by decide +kernel
theorem dX12_top_118 : decode cX12_top 118 = .ok (.iload 4, 2) := by decide +kernel
theorem dX12_top_120 : decode cX12_top 120 = .ok (.invokevirtual 396, 3) := by decide +kernel
theorem dX12_top_123 : decode cX12_top 123 = .ok (.return_, 1) := by decide +kernel
theorem dX12_top_124 : decode cX12_top 124 = .ok (.aload_n 0, 1) := by decide +kernel
theorem dX12_top_125 : decode cX12_top 125 = .ok (.iconst 0, 1) := by decide +kernel
theorem dX12_top_126 : decode cX12_top 126 = .ok (.putfield 229, 3) := by decide +kernel
theorem dX12_top_129 : decode cX12_top 129 = .ok (.iload_n 3, 1) := by decide +kernel
theorem dX12_top_130 : decode cX12_top 130 = .ok (.ifCond .eq 41, 3) := by decide +kernel
theorem dX12_top_133 : decode cX12_top 133 = .ok (.aload_n 0, 1) := by decide +kernel
theorem dX12_top_134 : decode cX12_top 134 = .ok (.bipush 40, 2) := by decide +kernel
theorem dX12_top_136 : decode cX12_top 136 = .ok (.invokevirtual 226, 3) := by decide +kernel
theorem dX12_top_139 : decode cX12_top 139 = .ok (.aload_n 0, 1) := by decide +kernel
theorem dX12_top_140 : decode cX12_top 140 = .ok (.iconst 5, 1) := by decide +kernel
theorem dX12_top_141 : decode cX12_top 141 = .ok (.invokevirtual 245, 3) := by decide +kernel
theorem dX12_top_144 : decode cX12_top 144 = .ok (.aload_n 0, 1) := by decide +kernel
theorem dX12_top_145 : decode cX12_top 145 = .ok (.bipush 32, 2) := by decide +kernel
theorem dX12_top_147 : decode cX12_top 147 = .ok (.invokevirtual 226, 3) := by decide +kernel
theorem dX12_top_150 : decode cX12_top 150 = .ok (.aload_n 0, 1) := by decide +kernel
theorem dX12_top_151 : decode cX12_top 151 = .ok (.iload 4, 2) := by decide +kernel
theorem dX12_top_153 : decode cX12_top 153 = .ok (.invokevirtual 245, 3) := by decide +kernel
theorem dX12_top_156 : decode cX12_top 156 = .ok (.aload_n 0, 1) := by decide +kernel
theorem dX12_top_157 : decode cX12_top 157 = .ok (.bipush 32, 2) := by decide +kernel
theorem dX12_top_159 : decode cX12_top 159 = .ok (.invokevirtual 226, 3) := by decide +kernel
theorem dX12_top_162 : decode cX12_top 162 = .ok (.aload_n 0, 1) := by decide +kernel
theorem dX12_top_163 : decode cX12_top 163 = .ok (.iconst 2, 1) := by decide +kernel
theorem dX12_top_164 : decode cX12_top 164 = .ok (.bipush 41, 2) := by decide +kernel
theorem dX12_top_166 : decode cX12_top 166 = .ok (.iconst 0, 1) := by decide +kernel
theorem dX12_top_167 : decode cX12_top 167 = .ok (.iconst 0, 1) := by decide +kernel
theorem dX12_top_168 : decode cX12_top 168 = .ok (.invokevirtual 232, 3) := by decide +kernel
theorem dX12_top_171 : decode cX12_top 171 = .ok (.aload_n 0, 1) := by decide +kernel
theorem dX12_top_172 : decode cX12_top 172 = .ok (.iconst 0, 1) := by decide +kernel
theorem dX12_top_173 : decode cX12_top 173 = .ok (.iload_n 3, 1) := by decide +kernel
theorem dX12_top_174 : decode cX12_top 174 = .ok (.ifCond .eq 12, 3) := by decide +kernel
theorem dX12_top_177 : decode cX12_top 177 = .ok (.aload_n 0, 1) := by decide +kernel
theorem dX12_top_178 : decode cX12_top 178 = .ok (.iload_n 1, 1) := by decide +kernel
theorem dX12_top_179 : decode cX12_top 179 = .ok (.iconst 2, 1) := by decide +kernel
theorem dX12_top_180 : decode cX12_top 180 = .ok (.invokevirtual 192, 3) := by decide +kernel
theorem dX12_top_183 : decode cX12_top 183 = .ok (.goto 4, 3) := by decide +kernel
theorem dX12_top_186 : decode cX12_top 186 = .ok (.iload_n 1, 1) := by decide +kernel
theorem dX12_top_187 : decode cX12_top 187 = .ok (.iconst 0, 1) := by decide +kernel
theorem dX12_top_188 : decode cX12_top 188 = .ok (.iconst 0, 1) := by decide +kernel
theorem dX12_top_189 : decode cX12_top 189 = .ok (.invokevirtual 232, 3) := by decide +kernel
theorem dX12_top_192 : decode cX12_top 192 = .ok (.aload_n 0, 1) := by decide +kernel
theorem dX12_top_193 : decode cX12_top 193 = .ok (.invokevirtual 399, 3) := by decide +kernel
theorem dX12_top_196 : decode cX12_top 196 = .ok (.iload_n 3, 1) := by decide +kernel
theorem dX12_top_197 : decode cX12_top 197 = .ok (.ifCond .eq 18, 3) := by decide +kernel
theorem dX12_top_200 : decode cX12_top 200 = .ok (.aload_n 0, 1) := by decide +kernel
theorem dX12_top_201 : decode cX12_top 201 = .ok (.getfield 236, 3) := by decide +kernel
theorem dX12_top_204 : decode cX12_top 204 = .ok (.ifCond .ne 11, 3) := by decide +kernel
theorem dX12_top_207 : decode cX12_top 207 = .ok (.aload_n 0, 1) := by decide +kernel
theorem dX12_top_208 : decode cX12_top 208 = .ok (.getfield 25, 3) := by decide +kernel
theorem dX12_top_211 : decode cX12_top 211 = .ok (.iload 4, 2) := by decide +kernel
theorem dX12_top_213 : decode cX12_top 213 = .ok (.iconst 0, 1) := by decide +kernel
theorem dX12_top_214 : decode cX12_top 214 = .ok (.iastore, 1) := by decide +kernel
theorem dX12_top_215 : decode cX12_top 215 = .ok (.return_, 1) := by decide +kernel
theorem dX12_beginText_0 : decode cX12_beginText 0 = .ok (.aload_n 0, 1) := by decide +kernel
theorem dX12_beginText_1 : decode cX12_beginText 1 = .ok (.aload_n 0, 1) := by decide +kernel
theorem dX12_beginText_2 : decode cX12_beginText 2 = .ok (.getfield 402, 3) := by decide +kernel
theorem dX12_beginText_5 : decode cX12_beginText 5 = .ok (.putfield 196, 3) := by decide +kernel
theorem dX12_beginText_8 : decode cX12_beginText 8 = .ok (.aload_n 0, 1) := by decide +kernel
theorem dX12_beginText_9 : decode cX12_beginText 9 = .ok (.aload_n 0, 1) := by decide +kernel
theorem dX12_beginText_10 : decode cX12_beginText 10 = .ok (.getfield 405, 3) := by decide +kernel
theorem dX12_beginText_13 : decode cX12_beginText 13 = .ok (.putfield 220, 3) := by decide +kernel
theorem dX12_beginText_16 : decode cX12_beginText 16 = .ok (.aload_n 0, 1) := by decide +kernel
theorem dX12_beginText_17 : decode cX12_beginText 17 = .ok (.iconst 0, 1) := by decide +kernel
theorem dX12_beginText_18 : decode cX12_beginText 18 = .ok (.putfield 374, 3) := by decide +kernel
theorem dX12_beginText_21 : decode cX12_beginText 21 = .ok (.aload_n 0, 1) := by decide +kernel
theorem dX12_beginText_22 : decode cX12_beginText 22 = .ok (.iconst 1, 1) := by decide +kernel
theorem dX12_beginText_23 : decode cX12_beginText 23 = .ok (.putfield 162, 3) := by decide +kernel
theorem dX12_beginText_26 : decode cX12_beginText 26 = .ok (.aload_n 0, 1) := by decide +kernel
theorem dX12_beginText_27 : decode cX12_beginText 27 = .ok (.iconst 0, 1) := by decide +kernel
theorem dX12_beginText_28 : decode cX12_beginText 28 = .ok (.putfield 288, 3) := by decide +kernel
theorem dX12_beginText_31 : decode cX12_beginText 31 = .ok (.aload_n 0, 1) := by decide +kernel
theorem dX12_beginText_32 : decode cX12_beginText 32 = .ok (.getfield 54, 3) := by decide +kernel
theorem dX12_beginText_35 : decode cX12_beginText 35 = .ok (.iconst 1, 1) := by decide +kernel
theorem dX12_beginText_36 : decode cX12_beginText 36 = .ok (.iconst 0, 1) := by decide +kernel
theorem dX12_beginText_37 : decode cX12_beginText 37 = .ok (.iastore, 1) := by decide +kernel
theorem dX12_beginText_38 : decode cX12_beginText 38 = .ok (.aload_n 0, 1) := by decide +kernel
theorem dX12_beginText_39 : decode cX12_beginText 39 = .ok (.iconst 0, 1) := by decide +kernel
theorem dX12_beginText_40 : decode cX12_beginText 40 = .ok (.putfield 297, 3) := by decide +kernel
theorem dX12_beginText_43 : decode cX12_beginText 43 = .ok (.aload_n 0, 1) := by decide +kernel
theorem dX12_beginText_44 : decode cX12_beginText 44 = .ok (.iconst 0, 1) := by decide +kernel
theorem dX12_beginText_45 : decode cX12_beginText 45 = .ok (.putfield 345, 3) := by decide +kernel
theorem dX12_beginText_48 : decode cX12_beginText 48 = .ok (.aload_n 0, 1) := by decide +kernel
theorem dX12_beginText_49 : decode cX12_beginText 49 = .ok (.iconst 0, 1) := by decide +kernel
theorem dX12_beginText_50 : decode cX12_beginText 50 = .ok (.putfield 279, 3) := by decide +kernel
theorem dX12_beginText_53 : decode cX12_beginText 53 = .ok (.aload_n 0, 1) := by decide +kernel
theorem dX12_beginText_54 : decode cX12_beginText 54 = .ok (.iconst 0, 1) := by decide +kernel
theorem dX12_beginText_55 : decode cX12_beginText 55 = .ok (.putfield 223, 3) := by decide +kernel
theorem dX12_beginText_58 : decode cX12_beginText 58 = .ok (.aload_n 0, 1) := by decide +kernel
theorem dX12_beginText_59 : decode cX12_beginText 59 = .ok (.iconst 0, 1) := by decide +kernel
theorem dX12_beginText_60 : decode cX12_beginText 60 = .ok (.putfield 236, 3) := by decide +kernel
theorem dX12_beginText_63 : decode cX12_beginText 63 = .ok (.aload_n 0, 1) := by decide +kernel
theorem dX12_beginText_64 : decode cX12_beginText 64 = .ok (.iconst (-1), 1) := by decide +kernel
theorem dX12_beginText_65 : decode cX12_beginText 65 = .ok (.putfield 13, 3) := by decide +kernel
theorem dX12_beginText_68 : decode cX12_beginText 68 = .ok (.return_, 1) := by decide +kernel
theorem dX12_read_0 : decode cX12_read 0 = .ok (.aload_n 0, 1) := by decide +kernel
theorem dX12_read_1 : decode cX12_read 1 = .ok (.iconst 0, 1) := by decide +kernel
theorem dX12_read_2 : decode cX12_read 2 = .ok (.putfield 168, 3) := by decide +kernel
theorem dX12_read_5 : decode cX12_read 5 = .ok (.aload_n 0, 1) := by decide +kernel
theorem dX12_read_6 : decode cX12_read 6 = .ok (.invokevirtual 408, 3) := by decide +kernel
theorem dX12_read_9 : decode cX12_read 9 = .ok (.aload_n 0, 1) := by decide +kernel
theorem dX12_read_10 : decode cX12_read 10 = .ok (.getfield 390, 3) := by decide +kernel
theorem dX12_read_13 : decode cX12_read 13 = .ok (.istore_n 1, 1) := by decide +kernel
theorem dX12_read_14 : decode cX12_read 14 = .ok (.iconst 0, 1) := by decide +kernel
theorem dX12_read_15 : decode cX12_read 15 = .ok (.istore_n 2, 1) := by decide +kernel
theorem dX12_read_16 : decode cX12_read 16 = .ok (.iload_n 2, 1) := by decide +kernel
theorem dX12_read_17 : decode cX12_read 17 = .ok (.sipush 5000, 3) := by decide +kernel
theorem dX12_read_20 : decode cX12_read 20 = .ok (.if_icmp .ge 21, 3) := by decide +kernel
theorem dX12_read_23 : decode cX12_read 23 = .ok (.aload_n 0, 1) := by decide +kernel
theorem dX12_read_24 : decode cX12_read 24 = .ok (.getfield 28, 3) := by decide +kernel
theorem dX12_read_27 : decode cX12_read 27 = .ok (.iload_n 2, 1) := by decide +kernel
theorem dX12_read_28 : decode cX12_read 28 = .ok (.aload_n 0, 1) := by decide +kernel
theorem dX12_read_29 : decode cX12_read 29 = .ok (.getfield 25, 3) := by decide +kernel
theorem dX12_read_32 : decode cX12_read 32 = .ok (.iload_n 2, 1) := by decide +kernel
theorem dX12_read_33 : decode cX12_read 33 = .ok (.iaload, 1) := by decide +kernel
theorem dX12_read_34 : decode cX12_read 34 = .ok (.iastore, 1) := by decide +kernel
theorem dX12_read_35 : decode cX12_read 35 = .ok (.iinc 2 1, 3) := by decide +kernel
theorem dX12_read_38 : decode cX12_read 38 = .ok (.goto (-22), 3) := by decide +kernel
theorem dX12_read_41 : decode cX12_read 41 = .ok (.aload_n 0, 1) := by decide +kernel
theorem dX12_read_42 : decode cX12_read 42 = .ok (.invokevirtual 411, 3) := by decide +kernel
theorem dX12_read_45 : decode cX12_read 45 = .ok (.istore_n 2, 1) := by decide +kernel
theorem dX12_read_46 : decode cX12_read 46 = .ok (.aload_n 0, 1) := by decide +kernel
theorem dX12_read_47 : decode cX12_read 47 = .ok (.iconst 0, 1) := by decide +kernel
theorem dX12_read_48 : decode cX12_read 48 = .ok (.putfield 171, 3) := by decide +kernel
theorem dX12_read_51 : decode cX12_read 51 = .ok (.iload_n 2, 1) := by decide +kernel
theorem dX12_read_52 : decode cX12_read 52 = .ok (.ifCond .ne 5, 3) := by decide +kernel
theorem dX12_read_55 : decode cX12_read 55 = .ok (.iconst 1, 1) := by decide +kernel
theorem dX12_read_56 : decode cX12_read 56 = .ok (.ireturn, 1) := by decide +kernel
theorem dX12_read_57 : decode cX12_read 57 = .ok (.aload_n 0, 1) := by decide +kernel
theorem dX12_read_58 : decode cX12_read 58 = .ok (.getfield 203, 3) := by decide +kernel
theorem dX12_read_61 : decode cX12_read 61 = .ok (.istore_n 3, 1) := by decide +kernel
theorem dX12_read_62 : decode cX12_read 62 = .ok (.iconst 0, 1) := by decide +kernel
theorem dX12_read_63 : decode cX12_read 63 = .ok (.istore 4, 2) := by decide +kernel
theorem dX12_read_65 : decode cX12_read 65 = .ok (.iload 4, 2) := by decide +kernel
theorem dX12_read_67 : decode cX12_read 67 = .ok (.iload_n 3, 1) := by decide +kernel
theorem dX12_read_68 : decode cX12_read 68 = .ok (.if_icmp .ge 44, 3) := by decide +kernel
theorem dX12_read_71 : decode cX12_read 71 = .ok (.aload_n 0, 1) := by decide +kernel
theorem dX12_read_72 : decode cX12_read 72 = .ok (.getfield 236, 3) := by decide +kernel
theorem dX12_read_75 : decode cX12_read 75 = .ok (.ifCond .ne 37, 3) := by decide +kernel
theorem dX12_read_78 : decode cX12_read 78 = .ok (.aload_n 0, 1) := by decide +kernel
theorem dX12_read_79 : decode cX12_read 79 = .ok (.aload_n 0, 1) := by decide +kernel
theorem dX12_read_80 : decode cX12_read 80 = .ok (.getfield 85, 3) := by decide +kernel
theorem dX12_read_83 : decode cX12_read 83 = .ok (.iload 4, 2) := by decide +kernel
theorem dX12_read_85 : decode cX12_read 85 = .ok (.iaload, 1) := by decide +kernel
theorem dX12_read_86 : decode cX12_read 86 = .ok (.invokevirtual 415, 3) := by decide +kernel
theorem dX12_read_89 : decode cX12_read 89 = .ok (.aload_n 0, 1) := by decide +kernel
theorem dX12_read_90 : decode cX12_read 90 = .ok (.aload_n 0, 1) := by decide +kernel
theorem dX12_read_91 : decode cX12_read 91 = .ok (.getfield 236, 3) := by decide +kernel
theorem dX12_read_94 : decode cX12_read 94 = .ok (.ifCond .le 8, 3) := by decide +kernel
theorem dX12_read_97 : decode cX12_read 97 = .ok (.iload 4, 2) := by decide +kernel
theorem dX12_read_99 : decode cX12_read 99 = .ok (.goto 4, 3) := by decide +kernel
theorem dX12_read_102 : decode cX12_read 102 = .ok (.iconst (-1), 1) := by decide +kernel
theorem dX12_read_103 : decode cX12_read 103 = .ok (.putfield 13, 3) := by decide +kernel
theorem dX12_read_106 : decode cX12_read 106 = .ok (.iinc 4 1, 3) := by decide +kernel
theorem dX12_read_109 : decode cX12_read 109 = .ok (.goto (-44), 3) := by decide +kernel
theorem dX12_read_112 : decode cX12_read 112 = .ok (.aload_n 0, 1) := by decide +kernel
theorem dX12_read_113 : decode cX12_read 113 = .ok (.getfield 236, 3) := by decide +kernel
theorem dX12_read_116 : decode cX12_read 116 = .ok (.ifCond .ne 25, 3) := by decide +kernel
theorem dX12_read_119 : decode cX12_read 119 = .ok (.aload_n 0, 1) := by decide +kernel
theorem dX12_read_120 : decode cX12_read 120 = .ok (.getfield 223, 3) := by decide +kernel
theorem dX12_read_123 : decode cX12_read 123 = .ok (.sipush 4000, 3) := by decide +kernel
theorem dX12_read_126 : decode cX12_read 126 = .ok (.if_icmp .le 15, 3) := by decide +kernel
theorem dX12_read_129 : decode cX12_read 129 = .ok (.aload_n 0, 1) := by decide +kernel
theorem dX12_read_130 : decode cX12_read 130 = .ok (.iconst 2, 1) := by decide +kernel
theorem dX12_read_131 : decode cX12_read 131 = .ok (.putfield 236, 3) := by decide +kernel
theorem dX12_read_134 : decode cX12_read 134 = .ok (.aload_n 0, 1) := by decide +kernel
theorem dX12_read_135 : decode cX12_read 135 = .ok (.iload_n 3, 1) := by decide +kernel
theorem dX12_read_136 : decode cX12_read 136 = .ok (.iconst 1, 1) := by decide +kernel
theorem dX12_read_137 : decode cX12_read 137 = .ok (.isub, 1) := by decide +kernel
theorem dX12_read_138 : decode cX12_read 138 = .ok (.putfield 13, 3) := by decide +kernel
theorem dX12_read_141 : decode cX12_read 141 = .ok (.aload_n 0, 1) := by decide +kernel
theorem dX12_read_142 : decode cX12_read 142 = .ok (.getfield 236, 3) := by decide +kernel
theorem dX12_read_145 : decode cX12_read 145 = .ok (.ifCond .le 44, 3) := by decide +kernel
theorem dX12_read_148 : decode cX12_read 148 = .ok (.aload_n 0, 1) := by decide +kernel
theorem dX12_read_149 : decode cX12_read 149 = .ok (.iload_n 1, 1) := by decide +kernel
theorem dX12_read_150 : decode cX12_read 150 = .ok (.putfield 390, 3) := by decide +kernel
theorem dX12_read_153 : decode cX12_read 153 = .ok (.iconst 0, 1) := by decide +kernel
theorem dX12_read_154 : decode cX12_read 154 = .ok (.istore 4, 2) := by decide +kernel
theorem dX12_read_156 : decode cX12_read 156 = .ok (.iload 4, 2) := by decide +kernel
theorem dX12_read_158 : decode cX12_read 158 = .ok (.sipush 5000, 3) := by decide +kernel
theorem dX12_read_161 : decode cX12_read 161 = .ok (.if_icmp .ge 23, 3) := by decide +kernel
theorem dX12_read_164 : decode cX12_read 164 = .ok (.aload_n 0, 1) := by decide +kernel
theorem dX12_read_165 : decode cX12_read 165 = .ok (.getfield 25, 3) := by decide +kernel
theorem dX12_read_168 : decode cX12_read 168 = .ok (.iload 4, 2) := by decide +kernel
theorem dX12_read_170 : decode cX12_read 170 = .ok (.aload_n 0, 1) := by decide +kernel
theorem dX12_read_171 : decode cX12_read 171 = .ok (.getfield 28, 3) := by decide +kernel
theorem dX12_read_174 : decode cX12_read 174 = .ok (.iload 4, 2) := by decide +kernel
theorem dX12_read_176 : decode cX12_read 176 = .ok (.iaload, 1) := by decide +kernel
theorem dX12_read_177 : decode cX12_read 177 = .ok (.iastore, 1) := by decide +kernel
theorem dX12_read_178 : decode cX12_read 178 = .ok (.iinc 4 1, 3) := by decide +kernel
theorem dX12_read_181 : decode cX12_read 181 = .ok (.goto (-25), 3) := by decide +kernel
theorem dX12_read_184 : decode cX12_read 184 = .ok (.aload_n 0, 1) := by decide +kernel
theorem dX12_read_185 : decode cX12_read 185 = .ok (.getfield 236, 3) := by decide +kernel
theorem dX12_read_188 : decode cX12_read 188 = .ok (.ireturn, 1) := by decide +kernel
theorem dX12_read_189 : decode cX12_read 189 = .ok (.iconst 0, 1) := by decide +kernel
theorem dX12_read_190 : decode cX12_read 190 = .ok (.istore 4, 2) := by decide +kernel
theorem dX12_read_192 : decode cX12_read 192 = .ok (.iload 4, 2) := by decide +kernel
theorem dX12_read_194 : decode cX12_read 194 = .ok (.aload_n 0, 1) := by decide +kernel
theorem dX12_read_195 : decode cX12_read 195 = .ok (.getfield 223, 3) := by decide +kernel
theorem dX12_read_198 : decode cX12_read 198 = .ok (.if_icmp .ge 23, 3) := by decide +kernel
theorem dX12_read_201 : decode cX12_read 201 = .ok (.aload_n 0, 1) := by decide +kernel
theorem dX12_read_202 : decode cX12_read 202 = .ok (.getfield 82, 3) := by decide +kernel
theorem dX12_read_205 : decode cX12_read 205 = .ok (.iload 4, 2) := by decide +kernel
theorem dX12_read_207 : decode cX12_read 207 = .ok (.aload_n 0, 1) := by decide +kernel
theorem dX12_read_208 : decode cX12_read 208 = .ok (.getfield 79, 3) := by decide +kernel
theorem dX12_read_211 : decode cX12_read 211 = .ok (.iload 4, 2) := by decide +kernel
theorem dX12_read_213 : decode cX12_read 213 = .ok (.baload, 1) := by decide +kernel
theorem dX12_read_214 : decode cX12_read 214 = .ok (.bastore, 1) := by decide +kernel
theorem dX12_read_215 : decode cX12_read 215 = .ok (.iinc 4 1, 3) := by decide +kernel
theorem dX12_read_218 : decode cX12_read 218 = .ok (.goto (-26), 3) := by decide +kernel
theorem dX12_read_221 : decode cX12_read 221 = .ok (.aload_n 0, 1) := by decide +kernel
theorem dX12_read_222 : decode cX12_read 222 = .ok (.aload_n 0, 1) := by decide +kernel
theorem dX12_read_223 : decode cX12_read 223 = .ok (.getfield 223, 3) := by decide +kernel
theorem dX12_read_226 : decode cX12_read 226 = .ok (.putfield 418, 3) := by decide +kernel
theorem dX12_read_229 : decode cX12_read 229 = .ok (.aload_n 0, 1) := by decide +kernel
theorem dX12_read_230 : decode cX12_read 230 = .ok (.aload_n 0, 1) := by decide +kernel
theorem dX12_read_231 : decode cX12_read 231 = .ok (.getfield 345, 3) := by decide +kernel
theorem dX12_read_234 : decode cX12_read 234 = .ok (.putfield 421, 3) := by decide +kernel
theorem dX12_read_237 : decode cX12_read 237 = .ok (.aload_n 0, 1) := by decide +kernel
theorem dX12_read_238 : decode cX12_read 238 = .ok (.aload_n 0, 1) := by decide +kernel
theorem dX12_read_239 : decode cX12_read 239 = .ok (.getfield 297, 3) := by decide +kernel
theorem dX12_read_242 : decode cX12_read 242 = .ok (.putfield 424, 3) := by decide +kernel
theorem dX12_read_245 : decode cX12_read 245 = .ok (.aload_n 0, 1) := by decide +kernel
theorem dX12_read_246 : decode cX12_read 246 = .ok (.iload_n 3, 1) := by decide +kernel
theorem dX12_read_247 : decode cX12_read 247 = .ok (.putfield 427, 3) := by decide +kernel
theorem dX12_read_250 : decode cX12_read 250 = .ok (.aload_n 0, 1) := by decide +kernel
theorem dX12_read_251 : decode cX12_read 251 = .ok (.invokevirtual 430, 3) := by decide +kernel
theorem dX12_read_254 : decode cX12_read 254 = .ok (.iconst 0, 1) := by decide +kernel
theorem dX12_read_255 : decode cX12_read 255 = .ok (.ireturn, 1) := by decide +kernel
theorem dX12_copyOne_0 : decode cX12_copyOne 0 = .ok (.aload_n 0, 1) := by decide +kernel
theorem dX12_copyOne_1 : decode cX12_copyOne 1 = .ok (.getfield 119, 3) := by decide +kernel
theorem dX12_copyOne_4 : decode cX12_copyOne 4 = .ok (.aload_n 0, 1) := by decide +kernel
theorem dX12_copyOne_5 : decode cX12_copyOne 5 = .ok (.getfield 433, 3) := by decide +kernel
theorem dX12_copyOne_8 : decode cX12_copyOne 8 = .ok (.aload_n 0, 1) := by decide +kernel
theorem dX12_copyOne_9 : decode cX12_copyOne 9 = .ok (.getfield 32, 3) := by decide +kernel
theorem dX12_copyOne_12 : decode cX12_copyOne 12 = .ok (.iload_n 1, 1) := by decide +kernel
theorem dX12_copyOne_13 : decode cX12_copyOne 13 = .ok (.baload, 1) := by decide +kernel
theorem dX12_copyOne_14 : decode cX12_copyOne 14 = .ok (.bastore, 1) := by decide +kernel
theorem dX12_copyOne_15 : decode cX12_copyOne 15 = .ok (.aload_n 0, 1) := by decide +kernel
theorem dX12_copyOne_16 : decode cX12_copyOne 16 = .ok (.getfield 122, 3) := by decide +kernel
theorem dX12_copyOne_19 : decode cX12_copyOne 19 = .ok (.aload_n 0, 1) := by decide +kernel
theorem dX12_copyOne_20 : decode cX12_copyOne 20 = .ok (.getfield 433, 3) := by decide +kernel
theorem dX12_copyOne_23 : decode cX12_copyOne 23 = .ok (.aload_n 0, 1) := by decide +kernel
theorem dX12_copyOne_24 : decode cX12_copyOne 24 = .ok (.getfield 35, 3) := by decide +kernel
theorem dX12_copyOne_27 : decode cX12_copyOne 27 = .ok (.iload_n 1, 1) := by decide +kernel
theorem dX12_copyOne_28 : decode cX12_copyOne 28 = .ok (.iaload, 1) := by decide +kernel
theorem dX12_copyOne_29 : decode cX12_copyOne 29 = .ok (.iastore, 1) := by decide +kernel
theorem dX12_copyOne_30 : decode cX12_copyOne 30 = .ok (.aload_n 0, 1) := by decide +kernel
theorem dX12_copyOne_31 : decode cX12_copyOne 31 = .ok (.getfield 125, 3) := by decide +kernel
theorem dX12_copyOne_34 : decode cX12_copyOne 34 = .ok (.aload_n 0, 1) := by decide +kernel
theorem dX12_copyOne_35 : decode cX12_copyOne 35 = .ok (.getfield 433, 3) := by decide +kernel
theorem dX12_copyOne_38 : decode cX12_copyOne 38 = .ok (.aload_n 0, 1) := by decide +kernel
theorem dX12_copyOne_39 : decode cX12_copyOne 39 = .ok (.getfield 38, 3) := by decide +kernel
theorem dX12_copyOne_42 : decode cX12_copyOne 42 = .ok (.iload_n 1, 1) := by decide +kernel
theorem dX12_copyOne_43 : decode cX12_copyOne 43 = .ok (.iaload, 1) := by decide +kernel
theorem dX12_copyOne_44 : decode cX12_copyOne 44 = .ok (.iastore, 1) := by decide +kernel
theorem dX12_copyOne_45 : decode cX12_copyOne 45 = .ok (.aload_n 0, 1) := by decide +kernel
theorem dX12_copyOne_46 : decode cX12_copyOne 46 = .ok (.iload_n 1, 1) := by decide +kernel
theorem dX12_copyOne_47 : decode cX12_copyOne 47 = .ok (.aload_n 0, 1) := by decide +kernel
theorem dX12_copyOne_48 : decode cX12_copyOne 48 = .ok (.getfield 433, 3) := by decide +kernel
theorem dX12_copyOne_51 : decode cX12_copyOne 51 = .ok (.iconst 0, 1) := by decide +kernel
theorem dX12_copyOne_52 : decode cX12_copyOne 52 = .ok (.invokevirtual 318, 3) := by decide +kernel
theorem dX12_copyOne_55 : decode cX12_copyOne 55 = .ok (.aload_n 0, 1) := by decide +kernel
theorem dX12_copyOne_56 : decode cX12_copyOne 56 = .ok (.dup, 1) := by decide +kernel
theorem dX12_copyOne_57 : decode cX12_copyOne 57 = .ok (.getfield 433, 3) := by decide +kernel
theorem dX12_copyOne_60 : decode cX12_copyOne 60 = .ok (.iconst 1, 1) := by decide +kernel
theorem dX12_copyOne_61 : decode cX12_copyOne 61 = .ok (.iadd, 1) := by decide +kernel
theorem dX12_copyOne_62 : decode cX12_copyOne 62 = .ok (.putfield 433, 3) := by decide +kernel
theorem dX12_copyOne_65 : decode cX12_copyOne 65 = .ok (.aload_n 0, 1) := by decide +kernel
theorem dX12_copyOne_66 : decode cX12_copyOne 66 = .ok (.getfield 402, 3) := by decide +kernel
theorem dX12_copyOne_69 : decode cX12_copyOne 69 = .ok (.aload_n 0, 1) := by decide +kernel
theorem dX12_copyOne_70 : decode cX12_copyOne 70 = .ok (.getfield 433, 3) := by decide +kernel
theorem dX12_copyOne_73 : decode cX12_copyOne 73 = .ok (.iadd, 1) := by decide +kernel
theorem dX12_copyOne_74 : decode cX12_copyOne 74 = .ok (.iconst 1, 1) := by decide +kernel
theorem dX12_copyOne_75 : decode cX12_copyOne 75 = .ok (.isub, 1) := by decide +kernel
theorem dX12_copyOne_76 : decode cX12_copyOne 76 = .ok (.ireturn, 1) := by decide +kernel
theorem dX12_stay_0 : decode cX12_stay 0 = .ok (.aload_n 0, 1) := by decide +kernel
theorem dX12_stay_1 : decode cX12_stay 1 = .ok (.iconst 0, 1) := by decide +kernel
theorem dX12_stay_2 : decode cX12_stay 2 = .ok (.putfield 433, 3) := by decide +kernel
theorem dX12_stay_5 : decode cX12_stay 5 = .ok (.aload_n 0, 1) := by decide +kernel
theorem dX12_stay_6 : decode cX12_stay 6 = .ok (.iconst 0, 1) := by decide +kernel
theorem dX12_stay_7 : decode cX12_stay 7 = .ok (.putfield 436, 3) := by decide +kernel
theorem dX12_stay_10 : decode cX12_stay 10 = .ok (.aload_n 0, 1) := by decide +kernel
theorem dX12_stay_11 : decode cX12_stay 11 = .ok (.iconst 0, 1) := by decide +kernel
theorem dX12_stay_12 : decode cX12_stay 12 = .ok (.putfield 306, 3) := by decide +kernel
theorem dX12_stay_15 : decode cX12_stay 15 = .ok (.iconst 0, 1) := by decide +kernel
theorem dX12_stay_16 : decode cX12_stay 16 = .ok (.istore_n 1, 1) := by decide +kernel
theorem dX12_stay_17 : decode cX12_stay 17 = .ok (.iload_n 1, 1) := by decide +kernel
theorem dX12_stay_18 : decode cX12_stay 18 = .ok (.aload_n 0, 1) := by decide +kernel
theorem dX12_stay_19 : decode cX12_stay 19 = .ok (.getfield 165, 3) := by decide +kernel
theorem dX12_stay_22 : decode cX12_stay 22 = .ok (.if_icmp .ge 42, 3) := by decide +kernel
theorem dX12_stay_25 : decode cX12_stay 25 = .ok (.aload_n 0, 1) := by decide +kernel
theorem dX12_stay_26 : decode cX12_stay 26 = .ok (.getfield 25, 3) := by decide +kernel
theorem dX12_stay_29 : decode cX12_stay 29 = .ok (.iload_n 1, 1) := by decide +kernel
theorem dX12_stay_30 : decode cX12_stay 30 = .ok (.iaload, 1) := by decide +kernel
theorem dX12_stay_31 : decode cX12_stay 31 = .ok (.aload_n 0, 1) := by decide +kernel
theorem dX12_stay_32 : decode cX12_stay 32 = .ok (.getfield 402, 3) := by decide +kernel
theorem dX12_stay_35 : decode cX12_stay 35 = .ok (.if_icmp .le 23, 3) := by decide +kernel
theorem dX12_stay_38 : decode cX12_stay 38 = .ok (.aload_n 0, 1) := by decide +kernel
theorem dX12_stay_39 : decode cX12_stay 39 = .ok (.getfield 25, 3) := by decide +kernel
theorem dX12_stay_42 : decode cX12_stay 42 = .ok (.iload_n 1, 1) := by decide +kernel
theorem dX12_stay_43 : decode cX12_stay 43 = .ok (.aload_n 0, 1) := by decide +kernel
theorem dX12_stay_44 : decode cX12_stay 44 = .ok (.aload_n 0, 1) := by decide +kernel
theorem dX12_stay_45 : decode cX12_stay 45 = .ok (.getfield 25, 3) := by decide +kernel
theorem dX12_stay_48 : decode cX12_stay 48 = .ok (.iload_n 1, 1) := by decide +kernel
theorem dX12_stay_49 : decode cX12_stay 49 = .ok (.iaload, 1) := by decide +kernel
theorem dX12_stay_50 : decode cX12_stay 50 = .ok (.iconst 1, 1) := by decide +kernel
theorem dX12_stay_51 : decode cX12_stay 51 = .ok (.isub, 1) := by decide +kernel
theorem dX12_stay_52 : decode cX12_stay 52 = .ok (.invokevirtual 439, 3) := by decide +kernel
theorem dX12_stay_55 : decode cX12_stay 55 = .ok (.iconst 1, 1) := by decide +kernel
theorem dX12_stay_56 : decode cX12_stay 56 = .ok (.iadd, 1) := by decide +kernel
theorem dX12_stay_57 : decode cX12_stay 57 = .ok (.iastore, 1) := by decide +kernel
theorem dX12_stay_58 : decode cX12_stay 58 = .ok (.iinc 1 1, 3) := by decide +kernel
theorem dX12_stay_61 : decode cX12_stay 61 = .ok (.goto (-44), 3) := by decide +kernel
theorem dX12_stay_64 : decode cX12_stay 64 = .ok (.iconst 0, 1) := by decide +kernel
theorem dX12_stay_65 : decode cX12_stay 65 = .ok (.istore_n 1, 1) := by decide +kernel
theorem dX12_stay_66 : decode cX12_stay 66 = .ok (.iload_n 1, 1) := by decide +kernel
theorem dX12_stay_67 : decode cX12_stay 67 = .ok (.aload_n 0, 1) := by decide +kernel
theorem dX12_stay_68 : decode cX12_stay 68 = .ok (.getfield 306, 3) := by decide +kernel
theorem dX12_stay_71 : decode cX12_stay 71 = .ok (.if_icmp .ge 103, 3) := by decide +kernel
theorem dX12_stay_74 : decode cX12_stay 74 = .ok (.aload_n 0, 1) := by decide +kernel
theorem dX12_stay_75 : decode cX12_stay 75 = .ok (.getfield 98, 3) := by decide +kernel
theorem dX12_stay_78 : decode cX12_stay 78 = .ok (.iload_n 1, 1) := by decide +kernel
theorem dX12_stay_79 : decode cX12_stay 79 = .ok (.iaload, 1) := by decide +kernel
theorem dX12_stay_80 : decode cX12_stay 80 = .ok (.istore_n 2, 1) := by decide +kernel
theorem dX12_stay_81 : decode cX12_stay 81 = .ok (.aload_n 0, 1) := by decide +kernel
theorem dX12_stay_82 : decode cX12_stay 82 = .ok (.getfield 32, 3) := by decide +kernel
theorem dX12_stay_85 : decode cX12_stay 85 = .ok (.iload_n 2, 1) := by decide +kernel
theorem dX12_stay_86 : decode cX12_stay 86 = .ok (.baload, 1) := by decide +kernel
theorem dX12_stay_87 : decode cX12_stay 87 = .ok (.iconst 2, 1) := by decide +kernel
theorem dX12_stay_88 : decode cX12_stay 88 = .ok (.if_icmp .ne 80, 3) := by decide +kernel
theorem dX12_stay_91 : decode cX12_stay 91 = .ok (.aload_n 0, 1) := by decide +kernel
theorem dX12_stay_92 : decode cX12_stay 92 = .ok (.getfield 436, 3) := by decide +kernel
theorem dX12_stay_95 : decode cX12_stay 95 = .ok (.istore_n 3, 1) := by decide +kernel
theorem dX12_stay_96 : decode cX12_stay 96 = .ok (.aload_n 0, 1) := by decide +kernel
theorem dX12_stay_97 : decode cX12_stay 97 = .ok (.aload_n 0, 1) := by decide +kernel
theorem dX12_stay_98 : decode cX12_stay 98 = .ok (.getfield 436, 3) := by decide +kernel
theorem dX12_stay_101 : decode cX12_stay 101 = .ok (.aload_n 0, 1) := by decide +kernel
theorem dX12_stay_102 : decode cX12_stay 102 = .ok (.getfield 38, 3) := by decide +kernel
theorem dX12_stay_105 : decode cX12_stay 105 = .ok (.iload_n 2, 1) := by decide +kernel
theorem dX12_stay_106 : decode cX12_stay 106 = .ok (.iaload, 1) := by decide +kernel
theorem dX12_stay_107 : decode cX12_stay 107 = .ok (.iadd, 1) := by decide +kernel
theorem dX12_stay_108 : decode cX12_stay 108 = .ok (.putfield 436, 3) := by decide +kernel
theorem dX12_stay_111 : decode cX12_stay 111 = .ok (.iconst 0, 1) := by decide +kernel
theorem dX12_stay_112 : decode cX12_stay 112 = .ok (.istore 4, 2) := by decide +kernel
theorem dX12_stay_114 : decode cX12_stay 114 = .ok (.iload 4, 2) := by decide +kernel
theorem dX12_stay_116 : decode cX12_stay 116 = .ok (.aload_n 0, 1) := by decide +kernel
theorem dX12_stay_117 : decode cX12_stay 117 = .ok (.getfield 38, 3) := by decide +kernel
theorem dX12_stay_120 : decode cX12_stay 120 = .ok (.iload_n 2, 1) := by decide +kernel
theorem dX12_stay_121 : decode cX12_stay 121 = .ok (.iaload, 1) := by decide +kernel
theorem dX12_stay_122 : decode cX12_stay 122 = .ok (.if_icmp .ge 29, 3) := by decide +kernel
theorem dX12_stay_125 : decode cX12_stay 125 = .ok (.aload_n 0, 1) := by decide +kernel
theorem dX12_stay_126 : decode cX12_stay 126 = .ok (.getfield 128, 3) := by decide +kernel
theorem dX12_stay_129 : decode cX12_stay 129 = .ok (.iload_n 3, 1) := by decide +kernel
theorem dX12_stay_130 : decode cX12_stay 130 = .ok (.iload 4, 2) := by decide +kernel
theorem dX12_stay_132 : decode cX12_stay 132 = .ok (.iadd, 1) := by decide +kernel
theorem dX12_stay_133 : decode cX12_stay 133 = .ok (.aload_n 0, 1) := by decide +kernel
theorem dX12_stay_134 : decode cX12_stay 134 = .ok (.aload_n 0, 1) := by decide +kernel
theorem dX12_stay_135 : decode cX12_stay 135 = .ok (.iload_n 2, 1) := by decide +kernel
theorem dX12_stay_136 : decode cX12_stay 136 = .ok (.iload 4, 2) := by decide +kernel
theorem dX12_stay_138 : decode cX12_stay 138 = .ok (.invokevirtual 192, 3) := by decide +kernel
theorem dX12_stay_141 : decode cX12_stay 141 = .ok (.invokevirtual 439, 3) := by decide +kernel
theorem dX12_stay_144 : decode cX12_stay 144 = .ok (.iastore, 1) := by decide +kernel
theorem dX12_stay_145 : decode cX12_stay 145 = .ok (.iinc 4 1, 3) := by decide +kernel
theorem dX12_stay_148 : decode cX12_stay 148 = .ok (.goto (-34), 3) := by decide +kernel
theorem dX12_stay_151 : decode cX12_stay 151 = .ok (.aload_n 0, 1) := by decide +kernel
theorem dX12_stay_152 : decode cX12_stay 152 = .ok (.getfield 122, 3) := by decide +kernel
theorem dX12_stay_155 : decode cX12_stay 155 = .ok (.aload_n 0, 1) := by decide +kernel
theorem dX12_stay_156 : decode cX12_stay 156 = .ok (.getfield 101, 3) := by decide +kernel
theorem dX12_stay_159 : decode cX12_stay 159 = .ok (.iload_n 1, 1) := by decide +kernel
theorem dX12_stay_160 : decode cX12_stay 160 = .ok (.iaload, 1) := by decide +kernel
theorem dX12_stay_161 : decode cX12_stay 161 = .ok (.aload_n 0, 1) := by decide +kernel
theorem dX12_stay_162 : decode cX12_stay 162 = .ok (.getfield 405, 3) := by decide +kernel
theorem dX12_stay_165 : decode cX12_stay 165 = .ok (.iload_n 3, 1) := by decide +kernel
theorem dX12_stay_166 : decode cX12_stay 166 = .ok (.iadd, 1) := by decide +kernel
theorem dX12_stay_167 : decode cX12_stay 167 = .ok (.iastore, 1) := by decide +kernel
theorem dX12_stay_168 : decode cX12_stay 168 = .ok (.iinc 1 1, 3) := by decide +kernel
theorem dX12_stay_171 : decode cX12_stay 171 = .ok (.goto (-105), 3) := by decide +kernel
theorem dX12_stay_174 : decode cX12_stay 174 = .ok (.iconst 0, 1) := by decide +kernel
theorem dX12_stay_175 : decode cX12_stay 175 = .ok (.istore_n 1, 1) := by decide +kernel
theorem dX12_stay_176 : decode cX12_stay 176 = .ok (.iload_n 1, 1) := by decide +kernel
theorem dX12_stay_177 : decode cX12_stay 177 = .ok (.aload_n 0, 1) := by decide +kernel
theorem dX12_stay_178 : decode cX12_stay 178 = .ok (.getfield 433, 3) := by decide +kernel
theorem dX12_stay_181 : decode cX12_stay 181 = .ok (.if_icmp .ge 60, 3) := by decide +kernel
theorem dX12_stay_184 : decode cX12_stay 184 = .ok (.aload_n 0, 1) := by decide +kernel
theorem dX12_stay_185 : decode cX12_stay 185 = .ok (.getfield 32, 3) := by decide +kernel
theorem dX12_stay_188 : decode cX12_stay 188 = .ok (.aload_n 0, 1) := by decide +kernel
theorem dX12_stay_189 : decode cX12_stay 189 = .ok (.getfield 402, 3) := by decide +kernel
theorem dX12_stay_192 : decode cX12_stay 192 = .ok (.iload_n 1, 1) := by decide +kernel
theorem dX12_stay_193 : decode cX12_stay 193 = .ok (.iadd, 1) := by decide +kernel
theorem dX12_stay_194 : decode cX12_stay 194 = .ok (.aload_n 0, 1) := by decide +kernel
theorem dX12_stay_195 : decode cX12_stay 195 = .ok (.getfield 119, 3) := by decide +kernel
theorem dX12_stay_198 : decode cX12_stay 198 = .ok (.iload_n 1, 1) := by decide +kernel
theorem dX12_stay_199 : decode cX12_stay 199 = .ok (.baload, 1) := by decide +kernel
theorem dX12_stay_200 : decode cX12_stay 200 = .ok (.bastore, 1) := by decide +kernel
theorem dX12_stay_201 : decode cX12_stay 201 = .ok (.aload_n 0, 1) := by decide +kernel
theorem dX12_stay_202 : decode cX12_stay 202 = .ok (.getfield 35, 3) := by decide +kernel
theorem dX12_stay_205 : decode cX12_stay 205 = .ok (.aload_n 0, 1) := by decide +kernel
theorem dX12_stay_206 : decode cX12_stay 206 = .ok (.getfield 402, 3) := by decide +kernel
theorem dX12_stay_209 : decode cX12_stay 209 = .ok (.iload_n 1, 1) := by decide +kernel
theorem dX12_stay_210 : decode cX12_stay 210 = .ok (.iadd, 1) := by decide +kernel
theorem dX12_stay_211 : decode cX12_stay 211 = .ok (.aload_n 0, 1) := by decide +kernel
theorem dX12_stay_212 : decode cX12_stay 212 = .ok (.getfield 122, 3) := by decide +kernel
theorem dX12_stay_215 : decode cX12_stay 215 = .ok (.iload_n 1, 1) := by decide +kernel
theorem dX12_stay_216 : decode cX12_stay 216 = .ok (.iaload, 1) := by decide +kernel
theorem dX12_stay_217 : decode cX12_stay 217 = .ok (.iastore, 1) := by decide +kernel
theorem dX12_stay_218 : decode cX12_stay 218 = .ok (.aload_n 0, 1) := by decide +kernel
theorem dX12_stay_219 : decode cX12_stay 219 = .ok (.getfield 38, 3) := by decide +kernel
theorem dX12_stay_222 : decode cX12_stay 222 = .ok (.aload_n 0, 1) := by decide +kernel
theorem dX12_stay_223 : decode cX12_stay 223 = .ok (.getfield 402, 3) := by decide +kernel
theorem dX12_stay_226 : decode cX12_stay 226 = .ok (.iload_n 1, 1) := by decide +kernel
theorem dX12_stay_227 : decode cX12_stay 227 = .ok (.iadd, 1) := by decide +kernel
theorem dX12_stay_228 : decode cX12_stay 228 = .ok (.aload_n 0, 1) := by decide +kernel
theorem dX12_stay_229 : decode cX12_stay 229 = .ok (.getfield 125, 3) := by decide +kernel
theorem dX12_stay_232 : decode cX12_stay 232 = .ok (.iload_n 1, 1) := by decide +kernel
theorem dX12_stay_233 : decode cX12_stay 233 = .ok (.iaload, 1) := by decide +kernel
theorem dX12_stay_234 : decode cX12_stay 234 = .ok (.iastore, 1) := by decide +kernel
theorem dX12_stay_235 : decode cX12_stay 235 = .ok (.iinc 1 1, 3) := by decide +kernel
theorem dX12_stay_238 : decode cX12_stay 238 = .ok (.goto (-62), 3) := by decide +kernel
theorem dX12_stay_241 : decode cX12_stay 241 = .ok (.iconst 0, 1) := by decide +kernel
theorem dX12_stay_242 : decode cX12_stay 242 = .ok (.istore_n 1, 1) := by decide +kernel
theorem dX12_stay_243 : decode cX12_stay 243 = .ok (.iload_n 1, 1) := by decide +kernel
theorem dX12_stay_244 : decode cX12_stay 244 = .ok (.aload_n 0, 1) := by decide +kernel
theorem dX12_stay_245 : decode cX12_stay 245 = .ok (.getfield 436, 3) := by decide +kernel
theorem dX12_stay_248 : decode cX12_stay 248 = .ok (.if_icmp .ge 26, 3) := by decide +kernel
theorem dX12_stay_251 : decode cX12_stay 251 = .ok (.aload_n 0, 1) := by decide +kernel
theorem dX12_stay_252 : decode cX12_stay 252 = .ok (.getfield 41, 3) := by decide +kernel
theorem dX12_stay_255 : decode cX12_stay 255 = .ok (.aload_n 0, 1) := by decide +kernel
theorem dX12_stay_256 : decode cX12_stay 256 = .ok (.getfield 405, 3) := by decide +kernel
theorem dX12_stay_259 : decode cX12_stay 259 = .ok (.iload_n 1, 1) := by decide +kernel
theorem dX12_stay_260 : decode cX12_stay 260 = .ok (.iadd, 1) := by decide +kernel
theorem dX12_stay_261 : decode cX12_stay 261 = .ok (.aload_n 0, 1) := by decide +kernel
theorem dX12_stay_262 : decode cX12_stay 262 = .ok (.getfield 128, 3) := by decide +kernel
theorem dX12_stay_265 : decode cX12_stay 265 = .ok (.iload_n 1, 1) := by decide +kernel
theorem dX12_stay_266 : decode cX12_stay 266 = .ok (.iaload, 1) := by decide +kernel
theorem dX12_stay_267 : decode cX12_stay 267 = .ok (.iastore, 1) := by decide +kernel
theorem dX12_stay_268 : decode cX12_stay 268 = .ok (.iinc 1 1, 3) := by decide +kernel
theorem dX12_stay_271 : decode cX12_stay 271 = .ok (.goto (-28), 3) := by decide +kernel
theorem dX12_stay_274 : decode cX12_stay 274 = .ok (.aload_n 0, 1) := by decide +kernel
theorem dX12_stay_275 : decode cX12_stay 275 = .ok (.aload_n 0, 1) := by decide +kernel
theorem dX12_stay_276 : decode cX12_stay 276 = .ok (.getfield 402, 3) := by decide +kernel
theorem dX12_stay_279 : decode cX12_stay 279 = .ok (.aload_n 0, 1) := by decide +kernel
theorem dX12_stay_280 : decode cX12_stay 280 = .ok (.getfield 433, 3) := by decide +kernel
theorem dX12_stay_283 : decode cX12_stay 283 = .ok (.iadd, 1) := by decide +kernel
theorem dX12_stay_284 : decode cX12_stay 284 = .ok (.putfield 402, 3) := by decide +kernel
theorem dX12_stay_287 : decode cX12_stay 287 = .ok (.aload_n 0, 1) := by decide +kernel
theorem dX12_stay_288 : decode cX12_stay 288 = .ok (.aload_n 0, 1) := by decide +kernel
theorem dX12_stay_289 : decode cX12_stay 289 = .ok (.getfield 405, 3) := by decide +kernel
theorem dX12_stay_292 : decode cX12_stay 292 = .ok (.aload_n 0, 1) := by decide +kernel
theorem dX12_stay_293 : decode cX12_stay 293 = .ok (.getfield 436, 3) := by decide +kernel
theorem dX12_stay_296 : decode cX12_stay 296 = .ok (.iadd, 1) := by decide +kernel
theorem dX12_stay_297 : decode cX12_stay 297 = .ok (.putfield 405, 3) := by decide +kernel
theorem dX12_stay_300 : decode cX12_stay 300 = .ok (.return_, 1) := by decide +kernel
theorem dX12_place_0 : decode cX12_place 0 = .ok (.aload_n 0, 1) := by decide +kernel
theorem dX12_place_1 : decode cX12_place 1 = .ok (.iconst 0, 1) := by decide +kernel
theorem dX12_place_2 : decode cX12_place 2 = .ok (.putfield 168, 3) := by decide +kernel
theorem dX12_place_5 : decode cX12_place 5 = .ok (.aload_n 0, 1) := by decide +kernel
theorem dX12_place_6 : decode cX12_place 6 = .ok (.getfield 13, 3) := by decide +kernel
theorem dX12_place_9 : decode cX12_place 9 = .ok (.ireturn, 1) := by decide +kernel
theorem dX12_count_0 : decode cX12_count 0 = .ok (.aload_n 0, 1) := by decide +kernel
theorem dX12_count_1 : decode cX12_count 1 = .ok (.iconst 0, 1) := by decide +kernel
theorem dX12_count_2 : decode cX12_count 2 = .ok (.putfield 168, 3) := by decide +kernel
theorem dX12_count_5 : decode cX12_count 5 = .ok (.iconst 0, 1) := by decide +kernel
theorem dX12_count_6 : decode cX12_count 6 = .ok (.istore_n 2, 1) := by decide +kernel
theorem dX12_count_7 : decode cX12_count 7 = .ok (.iconst 0, 1) := by decide +kernel
theorem dX12_count_8 : decode cX12_count 8 = .ok (.istore_n 3, 1) := by decide +kernel
theorem dX12_count_9 : decode cX12_count 9 = .ok (.iload_n 3, 1) := by decide +kernel
theorem dX12_count_10 : decode cX12_count 10 = .ok (.aload_n 0, 1) := by decide +kernel
theorem dX12_count_11 : decode cX12_count 11 = .ok (.getfield 165, 3) := by decide +kernel
theorem dX12_count_14 : decode cX12_count 14 = .ok (.if_icmp .ge 26, 3) := by decide +kernel
theorem dX12_count_17 : decode cX12_count 17 = .ok (.aload_n 0, 1) := by decide +kernel
theorem dX12_count_18 : decode cX12_count 18 = .ok (.getfield 25, 3) := by decide +kernel
theorem dX12_count_21 : decode cX12_count 21 = .ok (.iload_n 3, 1) := by decide +kernel
theorem dX12_count_22 : decode cX12_count 22 = .ok (.iaload, 1) := by decide +kernel
theorem dX12_count_23 : decode cX12_count 23 = .ok (.ifCond .le 9, 3) := by decide +kernel
theorem dX12_count_26 : decode cX12_count 26 = .ok (.iload_n 2, 1) := by decide +kernel
theorem dX12_count_27 : decode cX12_count 27 = .ok (.iconst 1, 1) := by decide +kernel
theorem dX12_count_28 : decode cX12_count 28 = .ok (.iadd, 1) := by decide +kernel
theorem dX12_count_29 : decode cX12_count 29 = .ok (.goto 4, 3) := by decide +kernel
theorem dX12_count_32 : decode cX12_count 32 = .ok (.iload_n 2, 1) := by decide +kernel
theorem dX12_count_33 : decode cX12_count 33 = .ok (.istore_n 2, 1) := by decide +kernel
theorem dX12_count_34 : decode cX12_count 34 = .ok (.iinc 3 1, 3) := by decide +kernel
theorem dX12_count_37 : decode cX12_count 37 = .ok (.goto (-28), 3) := by decide +kernel
theorem dX12_count_40 : decode cX12_count 40 = .ok (.iload_n 1, 1) := by decide +kernel
theorem dX12_count_41 : decode cX12_count 41 = .ok (.ifCond .ne 10, 3) := by decide +kernel
theorem dX12_count_44 : decode cX12_count 44 = .ok (.aload_n 0, 1) := by decide +kernel
theorem dX12_count_45 : decode cX12_count 45 = .ok (.getfield 418, 3) := by decide +kernel
theorem dX12_count_48 : decode cX12_count 48 = .ok (.goto 61, 3) := by decide +kernel
theorem dX12_count_51 : decode cX12_count 51 = .ok (.iload_n 1, 1) := by decide +kernel
theorem dX12_count_52 : decode cX12_count 52 = .ok (.iconst 1, 1) := by decide +kernel
theorem dX12_count_53 : decode cX12_count 53 = .ok (.if_icmp .ne 10, 3) := by decide +kernel
theorem dX12_count_56 : decode cX12_count 56 = .ok (.aload_n 0, 1) := by decide +kernel
theorem dX12_count_57 : decode cX12_count 57 = .ok (.getfield 421, 3) := by decide +kernel
theorem dX12_count_60 : decode cX12_count 60 = .ok (.goto 49, 3) := by decide +kernel
theorem dX12_count_63 : decode cX12_count 63 = .ok (.iload_n 1, 1) := by decide +kernel
theorem dX12_count_64 : decode cX12_count 64 = .ok (.iconst 2, 1) := by decide +kernel
theorem dX12_count_65 : decode cX12_count 65 = .ok (.if_icmp .ne 10, 3) := by decide +kernel
theorem dX12_count_68 : decode cX12_count 68 = .ok (.aload_n 0, 1) := by decide +kernel
theorem dX12_count_69 : decode cX12_count 69 = .ok (.getfield 424, 3) := by decide +kernel
theorem dX12_count_72 : decode cX12_count 72 = .ok (.goto 37, 3) := by decide +kernel
theorem dX12_count_75 : decode cX12_count 75 = .ok (.iload_n 1, 1) := by decide +kernel
theorem dX12_count_76 : decode cX12_count 76 = .ok (.iconst 3, 1) := by decide +kernel
theorem dX12_count_77 : decode cX12_count 77 = .ok (.if_icmp .ne 10, 3) := by decide +kernel
theorem dX12_count_80 : decode cX12_count 80 = .ok (.aload_n 0, 1) := by decide +kernel
theorem dX12_count_81 : decode cX12_count 81 = .ok (.getfield 427, 3) := by decide +kernel
theorem dX12_count_84 : decode cX12_count 84 = .ok (.goto 25, 3) := by decide +kernel
theorem dX12_count_87 : decode cX12_count 87 = .ok (.iload_n 1, 1) := by decide +kernel
theorem dX12_count_88 : decode cX12_count 88 = .ok (.iconst 4, 1) := by decide +kernel
theorem dX12_count_89 : decode cX12_count 89 = .ok (.if_icmp .ne 7, 3) := by decide +kernel
theorem dX12_count_92 : decode cX12_count 92 = .ok (.iload_n 2, 1) := by decide +kernel
theorem dX12_count_93 : decode cX12_count 93 = .ok (.goto 16, 3) := by decide +kernel
theorem dX12_count_96 : decode cX12_count 96 = .ok (.iload_n 1, 1) := by decide +kernel
theorem dX12_count_97 : decode cX12_count 97 = .ok (.iconst 5, 1) := by decide +kernel
theorem dX12_count_98 : decode cX12_count 98 = .ok (.if_icmp .ne 10, 3) := by decide +kernel
theorem dX12_count_101 : decode cX12_count 101 = .ok (.aload_n 0, 1) := by decide +kernel
theorem dX12_count_102 : decode cX12_count 102 = .ok (.getfield 390, 3) := by decide +kernel
theorem dX12_count_105 : decode cX12_count 105 = .ok (.goto 4, 3) := by decide +kernel
theorem dX12_count_108 : decode cX12_count 108 = .ok (.iconst (-1), 1) := by decide +kernel
theorem dX12_count_109 : decode cX12_count 109 = .ok (.ireturn, 1) := by decide +kernel
theorem dX12_character_0 : decode cX12_character 0 = .ok (.aload_n 0, 1) := by decide +kernel
theorem dX12_character_1 : decode cX12_character 1 = .ok (.iconst 0, 1) := by decide +kernel
theorem dX12_character_2 : decode cX12_character 2 = .ok (.putfield 168, 3) := by decide +kernel
theorem dX12_character_5 : decode cX12_character 5 = .ok (.iload_n 1, 1) := by decide +kernel
theorem dX12_character_6 : decode cX12_character 6 = .ok (.ifCond .lt 20, 3) := by decide +kernel
theorem dX12_character_9 : decode cX12_character 9 = .ok (.iload_n 1, 1) := by decide +kernel
theorem dX12_character_10 : decode cX12_character 10 = .ok (.aload_n 0, 1) := by decide +kernel
theorem dX12_character_11 : decode cX12_character 11 = .ok (.getfield 418, 3) := by decide +kernel
theorem dX12_character_14 : decode cX12_character 14 = .ok (.if_icmp .ge 12, 3) := by decide +kernel
theorem dX12_character_17 : decode cX12_character 17 = .ok (.aload_n 0, 1) := by decide +kernel
theorem dX12_character_18 : decode cX12_character 18 = .ok (.getfield 82, 3) := by decide +kernel
theorem dX12_character_21 : decode cX12_character 21 = .ok (.iload_n 1, 1) := by decide +kernel
theorem dX12_character_22 : decode cX12_character 22 = .ok (.baload, 1) := by decide +kernel
theorem dX12_character_23 : decode cX12_character 23 = .ok (.goto 4, 3) := by decide +kernel
theorem dX12_character_26 : decode cX12_character 26 = .ok (.iconst (-1), 1) := by decide +kernel
theorem dX12_character_27 : decode cX12_character 27 = .ok (.ireturn, 1) := by decide +kernel
theorem dX12_means_0 : decode cX12_means 0 = .ok (.aload_n 0, 1) := by decide +kernel
theorem dX12_means_1 : decode cX12_means 1 = .ok (.iconst 0, 1) := by decide +kernel
theorem dX12_means_2 : decode cX12_means 2 = .ok (.putfield 168, 3) := by decide +kernel
theorem dX12_means_5 : decode cX12_means 5 = .ok (.aload_n 0, 1) := by decide +kernel
theorem dX12_means_6 : decode cX12_means 6 = .ok (.aload_n 0, 1) := by decide +kernel
theorem dX12_means_7 : decode cX12_means 7 = .ok (.getfield 402, 3) := by decide +kernel
theorem dX12_means_10 : decode cX12_means 10 = .ok (.putfield 196, 3) := by decide +kernel
theorem dX12_means_13 : decode cX12_means 13 = .ok (.aload_n 0, 1) := by decide +kernel
theorem dX12_means_14 : decode cX12_means 14 = .ok (.aload_n 0, 1) := by decide +kernel
theorem dX12_means_15 : decode cX12_means 15 = .ok (.getfield 405, 3) := by decide +kernel
theorem dX12_means_18 : decode cX12_means 18 = .ok (.putfield 220, 3) := by decide +kernel
theorem dX12_means_21 : decode cX12_means 21 = .ok (.aload_n 0, 1) := by decide +kernel
theorem dX12_means_22 : decode cX12_means 22 = .ok (.invokevirtual 411, 3) := by decide +kernel
theorem dX12_means_25 : decode cX12_means 25 = .ok (.istore_n 1, 1) := by decide +kernel
theorem dX12_means_26 : decode cX12_means 26 = .ok (.aload_n 0, 1) := by decide +kernel
theorem dX12_means_27 : decode cX12_means 27 = .ok (.iconst 0, 1) := by decide +kernel
theorem dX12_means_28 : decode cX12_means 28 = .ok (.putfield 171, 3) := by decide +kernel
theorem dX12_means_31 : decode cX12_means 31 = .ok (.iload_n 1, 1) := by decide +kernel
theorem dX12_means_32 : decode cX12_means 32 = .ok (.ifCond .eq 24, 3) := by decide +kernel
theorem dX12_means_35 : decode cX12_means 35 = .ok (.aload_n 0, 1) := by decide +kernel
theorem dX12_means_36 : decode cX12_means 36 = .ok (.getfield 203, 3) := by decide +kernel
theorem dX12_means_39 : decode cX12_means 39 = .ok (.iconst 1, 1) := by decide +kernel
theorem dX12_means_40 : decode cX12_means 40 = .ok (.if_icmp .ne 16, 3) := by decide +kernel
theorem dX12_means_43 : decode cX12_means 43 = .ok (.aload_n 0, 1) := by decide +kernel
theorem dX12_means_44 : decode cX12_means 44 = .ok (.aload_n 0, 1) := by decide +kernel
theorem dX12_means_45 : decode cX12_means 45 = .ok (.getfield 85, 3) := by decide +kernel
theorem dX12_means_48 : decode cX12_means 48 = .ok (.iconst 0, 1) := by decide +kernel
theorem dX12_means_49 : decode cX12_means 49 = .ok (.iaload, 1) := by decide +kernel
theorem dX12_means_50 : decode cX12_means 50 = .ok (.invokevirtual 180, 3) := by decide +kernel
theorem dX12_means_53 : decode cX12_means 53 = .ok (.ifCond .ne 5, 3) := by decide +kernel
theorem dX12_means_56 : decode cX12_means 56 = .ok (.iconst (-1), 1) := by decide +kernel
theorem dX12_means_57 : decode cX12_means 57 = .ok (.ireturn, 1) := by decide +kernel
theorem dX12_means_58 : decode cX12_means 58 = .ok (.aload_n 0, 1) := by decide +kernel
theorem dX12_means_59 : decode cX12_means 59 = .ok (.getfield 35, 3) := by decide +kernel
theorem dX12_means_62 : decode cX12_means 62 = .ok (.aload_n 0, 1) := by decide +kernel
theorem dX12_means_63 : decode cX12_means 63 = .ok (.getfield 85, 3) := by decide +kernel
theorem dX12_means_66 : decode cX12_means 66 = .ok (.iconst 0, 1) := by decide +kernel
theorem dX12_means_67 : decode cX12_means 67 = .ok (.iaload, 1) := by decide +kernel
theorem dX12_means_68 : decode cX12_means 68 = .ok (.iaload, 1) := by decide +kernel
theorem dX12_means_69 : decode cX12_means 69 = .ok (.istore_n 2, 1) := by decide +kernel
theorem dX12_means_70 : decode cX12_means 70 = .ok (.iload_n 2, 1) := by decide +kernel
theorem dX12_means_71 : decode cX12_means 71 = .ok (.bipush 6, 2) := by decide +kernel
theorem dX12_means_73 : decode cX12_means 73 = .ok (.if_icmp .gt 7, 3) := by decide +kernel
theorem dX12_means_76 : decode cX12_means 76 = .ok (.iconst 1, 1) := by decide +kernel
theorem dX12_means_77 : decode cX12_means 77 = .ok (.goto 17, 3) := by decide +kernel
theorem dX12_means_80 : decode cX12_means 80 = .ok (.aload_n 0, 1) := by decide +kernel
theorem dX12_means_81 : decode cX12_means 81 = .ok (.getfield 25, 3) := by decide +kernel
theorem dX12_means_84 : decode cX12_means 84 = .ok (.iload_n 2, 1) := by decide +kernel
theorem dX12_means_85 : decode cX12_means 85 = .ok (.iaload, 1) := by decide +kernel
theorem dX12_means_86 : decode cX12_means 86 = .ok (.ifCond .le 7, 3) := by decide +kernel
theorem dX12_means_89 : decode cX12_means 89 = .ok (.iconst 2, 1) := by decide +kernel
theorem dX12_means_90 : decode cX12_means 90 = .ok (.goto 4, 3) := by decide +kernel
theorem dX12_means_93 : decode cX12_means 93 = .ok (.iconst 0, 1) := by decide +kernel
theorem dX12_means_94 : decode cX12_means 94 = .ok (.ireturn, 1) := by decide +kernel
theorem dX12_check_0 : decode cX12_check 0 = .ok (.aload_n 0, 1) := by decide +kernel
theorem dX12_check_1 : decode cX12_check 1 = .ok (.iconst 0, 1) := by decide +kernel
theorem dX12_check_2 : decode cX12_check 2 = .ok (.putfield 168, 3) := by decide +kernel
theorem dX12_check_5 : decode cX12_check 5 = .ok (.iconst 1, 1) := by decide +kernel
theorem dX12_check_6 : decode cX12_check 6 = .ok (.ireturn, 1) := by decide +kernel
