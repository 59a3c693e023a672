theorem dL_areStores_0 : decode cL_areStores 0 = .ok (.aload_n 0, 1) := by decide +kernel
theorem dL_areStores_1 : decode cL_areStores 1 = .ok (.invokevirtual 43, 3) := by decide +kernel
theorem dL_areStores_4 : decode cL_areStores 4 = .ok (.aload 9, 2) := by decide +kernel
theorem dL_areStores_6 : decode cL_areStores 6 = .ok (.iconst 0, 1) := by decide +kernel
theorem dL_areStores_7 : decode cL_areStores 7 = .ok (.iaload, 1) := by decide +kernel
theorem dL_areStores_8 : decode cL_areStores 8 = .ok (.if_icmp .ne 7, 3) := by decide +kernel
theorem dL_areStores_11 : decode cL_areStores 11 = .ok (.iconst 1, 1) := by decide +kernel
theorem dL_areStores_12 : decode cL_areStores 12 = .ok (.goto 4, 3) := by decide +kernel
theorem dL_areStores_15 : decode cL_areStores 15 = .ok (.iconst 0, 1) := by decide +kernel
theorem dL_areStores_16 : decode cL_areStores 16 = .ok (.istore 10, 2) := by decide +kernel
theorem dL_areStores_18 : decode cL_areStores 18 = .ok (.iconst 0, 1) := by decide +kernel
theorem dL_areStores_19 : decode cL_areStores 19 = .ok (.istore 11, 2) := by decide +kernel
theorem dL_areStores_21 : decode cL_areStores 21 = .ok (.iload 11, 2) := by decide +kernel
theorem dL_areStores_23 : decode cL_areStores 23 = .ok (.iconst 3, 1) := by decide +kernel
theorem dL_areStores_24 : decode cL_areStores 24 = .ok (.if_icmp .ge 616, 3) := by decide +kernel
theorem dL_areStores_27 : decode cL_areStores 27 = .ok (.iload 10, 2) := by decide +kernel
theorem dL_areStores_29 : decode cL_areStores 29 = .ok (.ifCond .eq 611, 3) := by decide +kernel
theorem dL_areStores_32 : decode cL_areStores 32 = .ok (.iconst 0, 1) := by decide +kernel
theorem dL_areStores_33 : decode cL_areStores 33 = .ok (.istore 12, 2) := by decide +kernel
theorem dL_areStores_35 : decode cL_areStores 35 = .ok (.aload_n 0, 1) := by decide +kernel
theorem dL_areStores_36 : decode cL_areStores 36 = .ok (.iload 11, 2) := by decide +kernel
theorem dL_areStores_38 : decode cL_areStores 38 = .ok (.invokevirtual 49, 3) := by decide +kernel
theorem dL_areStores_41 : decode cL_areStores 41 = .ok (.aload 6, 2) := by decide +kernel
theorem dL_areStores_43 : decode cL_areStores 43 = .ok (.bipush 8, 2) := by decide +kernel
theorem dL_areStores_45 : decode cL_areStores 45 = .ok (.iload 11, 2) := by decide +kernel
theorem dL_areStores_47 : decode cL_areStores 47 = .ok (.iadd, 1) := by decide +kernel
theorem dL_areStores_48 : decode cL_areStores 48 = .ok (.iaload, 1) := by decide +kernel
theorem dL_areStores_49 : decode cL_areStores 49 = .ok (.if_icmp .ne 24, 3) := by decide +kernel
theorem dL_areStores_52 : decode cL_areStores 52 = .ok (.aload_n 0, 1) := by decide +kernel
theorem dL_areStores_53 : decode cL_areStores 53 = .ok (.iload 11, 2) := by decide +kernel
theorem dL_areStores_55 : decode cL_areStores 55 = .ok (.invokevirtual 52, 3) := by decide +kernel
theorem dL_areStores_58 : decode cL_areStores 58 = .ok (.aload 6, 2) := by decide +kernel
theorem dL_areStores_60 : decode cL_areStores 60 = .ok (.iload 11, 2) := by decide +kernel
theorem dL_areStores_62 : decode cL_areStores 62 = .ok (.iaload, 1) := by decide +kernel
theorem dL_areStores_63 : decode cL_areStores 63 = .ok (.invokestatic 23, 3) := by decide +kernel
theorem dL_areStores_66 : decode cL_areStores 66 = .ok (.if_icmp .ne 7, 3) := by decide +kernel
theorem dL_areStores_69 : decode cL_areStores 69 = .ok (.iconst 1, 1) := by decide +kernel
theorem dL_areStores_70 : decode cL_areStores 70 = .ok (.goto 4, 3) := by decide +kernel
theorem dL_areStores_73 : decode cL_areStores 73 = .ok (.iconst 0, 1) := by decide +kernel
theorem dL_areStores_74 : decode cL_areStores 74 = .ok (.istore 10, 2) := by decide +kernel
theorem dL_areStores_76 : decode cL_areStores 76 = .ok (.iconst 0, 1) := by decide +kernel
theorem dL_areStores_77 : decode cL_areStores 77 = .ok (.istore 13, 2) := by decide +kernel
theorem dL_areStores_79 : decode cL_areStores 79 = .ok (.iload 13, 2) := by decide +kernel
theorem dL_areStores_81 : decode cL_areStores 81 = .ok (.iconst 4, 1) := by decide +kernel
theorem dL_areStores_82 : decode cL_areStores 82 = .ok (.if_icmp .ge 329, 3) := by decide +kernel
theorem dL_areStores_85 : decode cL_areStores 85 = .ok (.iload 10, 2) := by decide +kernel
theorem dL_areStores_87 : decode cL_areStores 87 = .ok (.ifCond .eq 324, 3) := by decide +kernel
theorem dL_areStores_90 : decode cL_areStores 90 = .ok (.aload_n 1, 1) := by decide +kernel
theorem dL_areStores_91 : decode cL_areStores 91 = .ok (.aload 5, 2) := by decide +kernel
theorem dL_areStores_93 : decode cL_areStores 93 = .ok (.aload 9, 2) := by decide +kernel
theorem dL_areStores_95 : decode cL_areStores 95 = .ok (.aload 6, 2) := by decide +kernel
theorem dL_areStores_97 : decode cL_areStores 97 = .ok (.iload 11, 2) := by decide +kernel
theorem dL_areStores_99 : decode cL_areStores 99 = .ok (.iaload, 1) := by decide +kernel
theorem dL_areStores_100 : decode cL_areStores 100 = .ok (.iload 13, 2) := by decide +kernel
theorem dL_areStores_102 : decode cL_areStores 102 = .ok (.invokestatic 9, 3) := by decide +kernel
theorem dL_areStores_105 : decode cL_areStores 105 = .ok (.istore 14, 2) := by decide +kernel
theorem dL_areStores_107 : decode cL_areStores 107 = .ok (.aload_n 1, 1) := by decide +kernel
theorem dL_areStores_108 : decode cL_areStores 108 = .ok (.aload_n 2, 1) := by decide +kernel
theorem dL_areStores_109 : decode cL_areStores 109 = .ok (.aload_n 3, 1) := by decide +kernel
theorem dL_areStores_110 : decode cL_areStores 110 = .ok (.aload 4, 2) := by decide +kernel
theorem dL_areStores_112 : decode cL_areStores 112 = .ok (.aload 5, 2) := by decide +kernel
theorem dL_areStores_114 : decode cL_areStores 114 = .ok (.aload 9, 2) := by decide +kernel
theorem dL_areStores_116 : decode cL_areStores 116 = .ok (.aload 6, 2) := by decide +kernel
theorem dL_areStores_118 : decode cL_areStores 118 = .ok (.iload 11, 2) := by decide +kernel
theorem dL_areStores_120 : decode cL_areStores 120 = .ok (.iaload, 1) := by decide +kernel
theorem dL_areStores_121 : decode cL_areStores 121 = .ok (.iload 13, 2) := by decide +kernel
theorem dL_areStores_123 : decode cL_areStores 123 = .ok (.invokestatic 55, 3) := by decide +kernel
theorem dL_areStores_126 : decode cL_areStores 126 = .ok (.istore 15, 2) := by decide +kernel
theorem dL_areStores_128 : decode cL_areStores 128 = .ok (.iconst 0, 1) := by decide +kernel
theorem dL_areStores_129 : decode cL_areStores 129 = .ok (.istore 16, 2) := by decide +kernel
theorem dL_areStores_131 : decode cL_areStores 131 = .ok (.iconst 0, 1) := by decide +kernel
theorem dL_areStores_132 : decode cL_areStores 132 = .ok (.istore 17, 2) := by decide +kernel
theorem dL_areStores_134 : decode cL_areStores 134 = .ok (.iload 17, 2) := by decide +kernel
theorem dL_areStores_136 : decode cL_areStores 136 = .ok (.aload 9, 2) := by decide +kernel
theorem dL_areStores_138 : decode cL_areStores 138 = .ok (.iconst 0, 1) := by decide +kernel
theorem dL_areStores_139 : decode cL_areStores 139 = .ok (.iaload, 1) := by decide +kernel
theorem dL_areStores_140 : decode cL_areStores 140 = .ok (.if_icmp .ge 115, 3) := by decide +kernel
theorem dL_areStores_143 : decode cL_areStores 143 = .ok (.iload 10, 2) := by decide +kernel
theorem dL_areStores_145 : decode cL_areStores 145 = .ok (.ifCond .eq 110, 3) := by decide +kernel
theorem dL_areStores_148 : decode cL_areStores 148 = .ok (.iload 16, 2) := by decide +kernel
theorem dL_areStores_150 : decode cL_areStores 150 = .ok (.iload 14, 2) := by decide +kernel
theorem dL_areStores_152 : decode cL_areStores 152 = .ok (.iload 17, 2) := by decide +kernel
theorem dL_areStores_154 : decode cL_areStores 154 = .ok (.ishr, 1) := by decide +kernel
theorem dL_areStores_155 : decode cL_areStores 155 = .ok (.iconst 1, 1) := by decide +kernel
theorem dL_areStores_156 : decode cL_areStores 156 = .ok (.iand, 1) := by decide +kernel
theorem dL_areStores_157 : decode cL_areStores 157 = .ok (.iconst 1, 1) := by decide +kernel
theorem dL_areStores_158 : decode cL_areStores 158 = .ok (.if_icmp .ne 14, 3) := by decide +kernel
theorem dL_areStores_161 : decode cL_areStores 161 = .ok (.aload_n 2, 1) := by decide +kernel
theorem dL_areStores_162 : decode cL_areStores 162 = .ok (.iload 17, 2) := by decide +kernel
theorem dL_areStores_164 : decode cL_areStores 164 = .ok (.iaload, 1) := by decide +kernel
theorem dL_areStores_165 : decode cL_areStores 165 = .ok (.ifCond .lt 7, 3) := by decide +kernel
theorem dL_areStores_168 : decode cL_areStores 168 = .ok (.iconst 1, 1) := by decide +kernel
theorem dL_areStores_169 : decode cL_areStores 169 = .ok (.goto 4, 3) := by decide +kernel
theorem dL_areStores_172 : decode cL_areStores 172 = .ok (.iconst 0, 1) := by decide +kernel
theorem dL_areStores_173 : decode cL_areStores 173 = .ok (.iadd, 1) := by decide +kernel
theorem dL_areStores_174 : decode cL_areStores 174 = .ok (.istore 16, 2) := by decide +kernel
theorem dL_areStores_176 : decode cL_areStores 176 = .ok (.aload_n 1, 1) := by decide +kernel
theorem dL_areStores_177 : decode cL_areStores 177 = .ok (.iload 17, 2) := by decide +kernel
theorem dL_areStores_179 : decode cL_areStores 179 = .ok (.iaload, 1) := by decide +kernel
theorem dL_areStores_180 : decode cL_areStores 180 = .ok (.iload 13, 2) := by decide +kernel
theorem dL_areStores_182 : decode cL_areStores 182 = .ok (.if_icmp .ne 60, 3) := by decide +kernel
theorem dL_areStores_185 : decode cL_areStores 185 = .ok (.aload_n 0, 1) := by decide +kernel
theorem dL_areStores_186 : decode cL_areStores 186 = .ok (.iload 11, 2) := by decide +kernel
theorem dL_areStores_188 : decode cL_areStores 188 = .ok (.iload 17, 2) := by decide +kernel
theorem dL_areStores_190 : decode cL_areStores 190 = .ok (.invokevirtual 59, 3) := by decide +kernel
theorem dL_areStores_193 : decode cL_areStores 193 = .ok (.iload 14, 2) := by decide +kernel
theorem dL_areStores_195 : decode cL_areStores 195 = .ok (.iload 17, 2) := by decide +kernel
theorem dL_areStores_197 : decode cL_areStores 197 = .ok (.ishr, 1) := by decide +kernel
theorem dL_areStores_198 : decode cL_areStores 198 = .ok (.iconst 1, 1) := by decide +kernel
theorem dL_areStores_199 : decode cL_areStores 199 = .ok (.iand, 1) := by decide +kernel
theorem dL_areStores_200 : decode cL_areStores 200 = .ok (.iconst 1, 1) := by decide +kernel
theorem dL_areStores_201 : decode cL_areStores 201 = .ok (.if_icmp .ne 7, 3) := by decide +kernel
theorem dL_areStores_204 : decode cL_areStores 204 = .ok (.iconst 1, 1) := by decide +kernel
theorem dL_areStores_205 : decode cL_areStores 205 = .ok (.goto 4, 3) := by decide +kernel
theorem dL_areStores_208 : decode cL_areStores 208 = .ok (.iconst 0, 1) := by decide +kernel
theorem dL_areStores_209 : decode cL_areStores 209 = .ok (.if_icmp .ne 37, 3) := by decide +kernel
theorem dL_areStores_212 : decode cL_areStores 212 = .ok (.aload_n 0, 1) := by decide +kernel
theorem dL_areStores_213 : decode cL_areStores 213 = .ok (.iload 11, 2) := by decide +kernel
theorem dL_areStores_215 : decode cL_areStores 215 = .ok (.iload 17, 2) := by decide +kernel
theorem dL_areStores_217 : decode cL_areStores 217 = .ok (.invokevirtual 63, 3) := by decide +kernel
theorem dL_areStores_220 : decode cL_areStores 220 = .ok (.aload 6, 2) := by decide +kernel
theorem dL_areStores_222 : decode cL_areStores 222 = .ok (.iload 11, 2) := by decide +kernel
theorem dL_areStores_224 : decode cL_areStores 224 = .ok (.iaload, 1) := by decide +kernel
theorem dL_areStores_225 : decode cL_areStores 225 = .ok (.iload 17, 2) := by decide +kernel
theorem dL_areStores_227 : decode cL_areStores 227 = .ok (.ishr, 1) := by decide +kernel
theorem dL_areStores_228 : decode cL_areStores 228 = .ok (.iconst 1, 1) := by decide +kernel
theorem dL_areStores_229 : decode cL_areStores 229 = .ok (.iand, 1) := by decide +kernel
theorem dL_areStores_230 : decode cL_areStores 230 = .ok (.iconst 1, 1) := by decide +kernel
theorem dL_areStores_231 : decode cL_areStores 231 = .ok (.if_icmp .ne 7, 3) := by decide +kernel
theorem dL_areStores_234 : decode cL_areStores 234 = .ok (.iconst 1, 1) := by decide +kernel
theorem dL_areStores_235 : decode cL_areStores 235 = .ok (.goto 4, 3) := by decide +kernel
theorem dL_areStores_238 : decode cL_areStores 238 = .ok (.iconst 0, 1) := by decide +kernel
theorem dL_areStores_239 : decode cL_areStores 239 = .ok (.if_icmp .ne 7, 3) := by decide +kernel
theorem dL_areStores_242 : decode cL_areStores 242 = .ok (.iconst 1, 1) := by decide +kernel
theorem dL_areStores_243 : decode cL_areStores 243 = .ok (.goto 4, 3) := by decide +kernel
theorem dL_areStores_246 : decode cL_areStores 246 = .ok (.iconst 0, 1) := by decide +kernel
theorem dL_areStores_247 : decode cL_areStores 247 = .ok (.istore 10, 2) := by decide +kernel
theorem dL_areStores_249 : decode cL_areStores 249 = .ok (.iinc 17 1, 3) := by decide +kernel
theorem dL_areStores_252 : decode cL_areStores 252 = .ok (.goto (-118), 3) := by decide +kernel
theorem dL_areStores_255 : decode cL_areStores 255 = .ok (.iload 12, 2) := by decide +kernel
theorem dL_areStores_257 : decode cL_areStores 257 = .ok (.iload 15, 2) := by decide +kernel
theorem dL_areStores_259 : decode cL_areStores 259 = .ok (.ifCond .lt 14, 3) := by decide +kernel
theorem dL_areStores_262 : decode cL_areStores 262 = .ok (.aload_n 2, 1) := by decide +kernel
theorem dL_areStores_263 : decode cL_areStores 263 = .ok (.iload 15, 2) := by decide +kernel
theorem dL_areStores_265 : decode cL_areStores 265 = .ok (.iaload, 1) := by decide +kernel
theorem dL_areStores_266 : decode cL_areStores 266 = .ok (.ifCond .lt 7, 3) := by decide +kernel
theorem dL_areStores_269 : decode cL_areStores 269 = .ok (.iconst 1, 1) := by decide +kernel
theorem dL_areStores_270 : decode cL_areStores 270 = .ok (.goto 4, 3) := by decide +kernel
theorem dL_areStores_273 : decode cL_areStores 273 = .ok (.iconst 0, 1) := by decide +kernel
theorem dL_areStores_274 : decode cL_areStores 274 = .ok (.iadd, 1) := by decide +kernel
theorem dL_areStores_275 : decode cL_areStores 275 = .ok (.istore 12, 2) := by decide +kernel
theorem dL_areStores_277 : decode cL_areStores 277 = .ok (.iload 10, 2) := by decide +kernel
theorem dL_areStores_279 : decode cL_areStores 279 = .ok (.ifCond .eq 44, 3) := by decide +kernel
theorem dL_areStores_282 : decode cL_areStores 282 = .ok (.aload_n 0, 1) := by decide +kernel
theorem dL_areStores_283 : decode cL_areStores 283 = .ok (.iload 11, 2) := by decide +kernel
theorem dL_areStores_285 : decode cL_areStores 285 = .ok (.iload 13, 2) := by decide +kernel
theorem dL_areStores_287 : decode cL_areStores 287 = .ok (.invokevirtual 66, 3) := by decide +kernel
theorem dL_areStores_290 : decode cL_areStores 290 = .ok (.iload 15, 2) := by decide +kernel
theorem dL_areStores_292 : decode cL_areStores 292 = .ok (.if_icmp .ne 31, 3) := by decide +kernel
theorem dL_areStores_295 : decode cL_areStores 295 = .ok (.aload_n 0, 1) := by decide +kernel
theorem dL_areStores_296 : decode cL_areStores 296 = .ok (.iload 11, 2) := by decide +kernel
theorem dL_areStores_298 : decode cL_areStores 298 = .ok (.iload 13, 2) := by decide +kernel
theorem dL_areStores_300 : decode cL_areStores 300 = .ok (.invokevirtual 69, 3) := by decide +kernel
theorem dL_areStores_303 : decode cL_areStores 303 = .ok (.iload 16, 2) := by decide +kernel
theorem dL_areStores_305 : decode cL_areStores 305 = .ok (.ifCond .ne 7, 3) := by decide +kernel
theorem dL_areStores_308 : decode cL_areStores 308 = .ok (.iconst 0, 1) := by decide +kernel
theorem dL_areStores_309 : decode cL_areStores 309 = .ok (.goto 7, 3) := by decide +kernel
theorem dL_areStores_312 : decode cL_areStores 312 = .ok (.iload 16, 2) := by decide +kernel
theorem dL_areStores_314 : decode cL_areStores 314 = .ok (.iconst 1, 1) := by decide +kernel
theorem dL_areStores_315 : decode cL_areStores 315 = .ok (.isub, 1) := by decide +kernel
theorem dL_areStores_316 : decode cL_areStores 316 = .ok (.if_icmp .ne 7, 3) := by decide +kernel
theorem dL_areStores_319 : decode cL_areStores 319 = .ok (.iconst 1, 1) := by decide +kernel
theorem dL_areStores_320 : decode cL_areStores 320 = .ok (.goto 4, 3) := by decide +kernel
theorem dL_areStores_323 : decode cL_areStores 323 = .ok (.iconst 0, 1) := by decide +kernel
theorem dL_areStores_324 : decode cL_areStores 324 = .ok (.istore 10, 2) := by decide +kernel
theorem dL_areStores_326 : decode cL_areStores 326 = .ok (.iload 10, 2) := by decide +kernel
theorem dL_areStores_328 : decode cL_areStores 328 = .ok (.ifCond .eq 74, 3) := by decide +kernel
theorem dL_areStores_331 : decode cL_areStores 331 = .ok (.iload 15, 2) := by decide +kernel
theorem dL_areStores_333 : decode cL_areStores 333 = .ok (.ifCond .lt 28, 3) := by decide +kernel
theorem dL_areStores_336 : decode cL_areStores 336 = .ok (.aload_n 2, 1) := by decide +kernel
theorem dL_areStores_337 : decode cL_areStores 337 = .ok (.iload 15, 2) := by decide +kernel
theorem dL_areStores_339 : decode cL_areStores 339 = .ok (.iaload, 1) := by decide +kernel
theorem dL_areStores_340 : decode cL_areStores 340 = .ok (.ifCond .lt 21, 3) := by decide +kernel
theorem dL_areStores_343 : decode cL_areStores 343 = .ok (.aload_n 0, 1) := by decide +kernel
theorem dL_areStores_344 : decode cL_areStores 344 = .ok (.iload 11, 2) := by decide +kernel
theorem dL_areStores_346 : decode cL_areStores 346 = .ok (.aload_n 2, 1) := by decide +kernel
theorem dL_areStores_347 : decode cL_areStores 347 = .ok (.iload 15, 2) := by decide +kernel
theorem dL_areStores_349 : decode cL_areStores 349 = .ok (.iaload, 1) := by decide +kernel
theorem dL_areStores_350 : decode cL_areStores 350 = .ok (.aload_n 2, 1) := by decide +kernel
theorem dL_areStores_351 : decode cL_areStores 351 = .ok (.iload 15, 2) := by decide +kernel
theorem dL_areStores_353 : decode cL_areStores 353 = .ok (.iaload, 1) := by decide +kernel
theorem dL_areStores_354 : decode cL_areStores 354 = .ok (.invokevirtual 72, 3) := by decide +kernel
theorem dL_areStores_357 : decode cL_areStores 357 = .ok (.iconst 1, 1) := by decide +kernel
theorem dL_areStores_358 : decode cL_areStores 358 = .ok (.if_icmp .lt 44, 3) := by decide +kernel
theorem dL_areStores_361 : decode cL_areStores 361 = .ok (.aload_n 0, 1) := by decide +kernel
theorem dL_areStores_362 : decode cL_areStores 362 = .ok (.iload 13, 2) := by decide +kernel
theorem dL_areStores_364 : decode cL_areStores 364 = .ok (.invokevirtual 76, 3) := by decide +kernel
theorem dL_areStores_367 : decode cL_areStores 367 = .ok (.aload_n 1, 1) := by decide +kernel
theorem dL_areStores_368 : decode cL_areStores 368 = .ok (.aload_n 2, 1) := by decide +kernel
theorem dL_areStores_369 : decode cL_areStores 369 = .ok (.aload_n 3, 1) := by decide +kernel
theorem dL_areStores_370 : decode cL_areStores 370 = .ok (.aload 4, 2) := by decide +kernel
theorem dL_areStores_372 : decode cL_areStores 372 = .ok (.aload 5, 2) := by decide +kernel
theorem dL_areStores_374 : decode cL_areStores 374 = .ok (.aload 9, 2) := by decide +kernel
theorem dL_areStores_376 : decode cL_areStores 376 = .ok (.aload 6, 2) := by decide +kernel
theorem dL_areStores_378 : decode cL_areStores 378 = .ok (.iconst 0, 1) := by decide +kernel
theorem dL_areStores_379 : decode cL_areStores 379 = .ok (.iaload, 1) := by decide +kernel
theorem dL_areStores_380 : decode cL_areStores 380 = .ok (.aload 6, 2) := by decide +kernel
theorem dL_areStores_382 : decode cL_areStores 382 = .ok (.iconst 1, 1) := by decide +kernel
theorem dL_areStores_383 : decode cL_areStores 383 = .ok (.iaload, 1) := by decide +kernel
theorem dL_areStores_384 : decode cL_areStores 384 = .ok (.ior, 1) := by decide +kernel
theorem dL_areStores_385 : decode cL_areStores 385 = .ok (.aload 6, 2) := by decide +kernel
theorem dL_areStores_387 : decode cL_areStores 387 = .ok (.iconst 2, 1) := by decide +kernel
theorem dL_areStores_388 : decode cL_areStores 388 = .ok (.iaload, 1) := by decide +kernel
theorem dL_areStores_389 : decode cL_areStores 389 = .ok (.ior, 1) := by decide +kernel
theorem dL_areStores_390 : decode cL_areStores 390 = .ok (.iload 13, 2) := by decide +kernel
theorem dL_areStores_392 : decode cL_areStores 392 = .ok (.invokestatic 55, 3) := by decide +kernel
theorem dL_areStores_395 : decode cL_areStores 395 = .ok (.if_icmp .ne 7, 3) := by decide +kernel
theorem dL_areStores_398 : decode cL_areStores 398 = .ok (.iconst 1, 1) := by decide +kernel
theorem dL_areStores_399 : decode cL_areStores 399 = .ok (.goto 4, 3) := by decide +kernel
theorem dL_areStores_402 : decode cL_areStores 402 = .ok (.iconst 0, 1) := by decide +kernel
theorem dL_areStores_403 : decode cL_areStores 403 = .ok (.istore 10, 2) := by decide +kernel
theorem dL_areStores_405 : decode cL_areStores 405 = .ok (.iinc 13 1, 3) := by decide +kernel
theorem dL_areStores_408 : decode cL_areStores 408 = .ok (.goto (-329), 3) := by decide +kernel
theorem dL_areStores_411 : decode cL_areStores 411 = .ok (.iload 10, 2) := by decide +kernel
theorem dL_areStores_413 : decode cL_areStores 413 = .ok (.ifCond .eq 21, 3) := by decide +kernel
theorem dL_areStores_416 : decode cL_areStores 416 = .ok (.aload_n 0, 1) := by decide +kernel
theorem dL_areStores_417 : decode cL_areStores 417 = .ok (.iload 11, 2) := by decide +kernel
theorem dL_areStores_419 : decode cL_areStores 419 = .ok (.iconst 0, 1) := by decide +kernel
theorem dL_areStores_420 : decode cL_areStores 420 = .ok (.bipush 99, 2) := by decide +kernel
theorem dL_areStores_422 : decode cL_areStores 422 = .ok (.invokevirtual 72, 3) := by decide +kernel
theorem dL_areStores_425 : decode cL_areStores 425 = .ok (.iload 12, 2) := by decide +kernel
theorem dL_areStores_427 : decode cL_areStores 427 = .ok (.if_icmp .ne 7, 3) := by decide +kernel
theorem dL_areStores_430 : decode cL_areStores 430 = .ok (.iconst 1, 1) := by decide +kernel
theorem dL_areStores_431 : decode cL_areStores 431 = .ok (.goto 4, 3) := by decide +kernel
theorem dL_areStores_434 : decode cL_areStores 434 = .ok (.iconst 0, 1) := by decide +kernel
theorem dL_areStores_435 : decode cL_areStores 435 = .ok (.istore 10, 2) := by decide +kernel
theorem dL_areStores_437 : decode cL_areStores 437 = .ok (.iconst (-1), 1) := by decide +kernel
theorem dL_areStores_438 : decode cL_areStores 438 = .ok (.istore 13, 2) := by decide +kernel
theorem dL_areStores_440 : decode cL_areStores 440 = .ok (.iconst 0, 1) := by decide +kernel
theorem dL_areStores_441 : decode cL_areStores 441 = .ok (.istore 14, 2) := by decide +kernel
theorem dL_areStores_443 : decode cL_areStores 443 = .ok (.iload 14, 2) := by decide +kernel
theorem dL_areStores_445 : decode cL_areStores 445 = .ok (.iload 12, 2) := by decide +kernel
theorem dL_areStores_447 : decode cL_areStores 447 = .ok (.if_icmp .ge 70, 3) := by decide +kernel
theorem dL_areStores_450 : decode cL_areStores 450 = .ok (.iload 10, 2) := by decide +kernel
theorem dL_areStores_452 : decode cL_areStores 452 = .ok (.ifCond .eq 65, 3) := by decide +kernel
theorem dL_areStores_455 : decode cL_areStores 455 = .ok (.aload_n 0, 1) := by decide +kernel
theorem dL_areStores_456 : decode cL_areStores 456 = .ok (.iload 11, 2) := by decide +kernel
theorem dL_areStores_458 : decode cL_areStores 458 = .ok (.iload 14, 2) := by decide +kernel
theorem dL_areStores_460 : decode cL_areStores 460 = .ok (.invokevirtual 79, 3) := by decide +kernel
theorem dL_areStores_463 : decode cL_areStores 463 = .ok (.istore 15, 2) := by decide +kernel
theorem dL_areStores_465 : decode cL_areStores 465 = .ok (.iconst 4, 1) := by decide +kernel
theorem dL_areStores_466 : decode cL_areStores 466 = .ok (.aload_n 2, 1) := by decide +kernel
theorem dL_areStores_467 : decode cL_areStores 467 = .ok (.aload_n 1, 1) := by decide +kernel
theorem dL_areStores_468 : decode cL_areStores 468 = .ok (.aload_n 2, 1) := by decide +kernel
theorem dL_areStores_469 : decode cL_areStores 469 = .ok (.aload_n 3, 1) := by decide +kernel
theorem dL_areStores_470 : decode cL_areStores 470 = .ok (.aload 4, 2) := by decide +kernel
theorem dL_areStores_472 : decode cL_areStores 472 = .ok (.aload 5, 2) := by decide +kernel
theorem dL_areStores_474 : decode cL_areStores 474 = .ok (.aload 9, 2) := by decide +kernel
theorem dL_areStores_476 : decode cL_areStores 476 = .ok (.aload 6, 2) := by decide +kernel
theorem dL_areStores_478 : decode cL_areStores 478 = .ok (.iload 11, 2) := by decide +kernel
theorem dL_areStores_480 : decode cL_areStores 480 = .ok (.iaload, 1) := by decide +kernel
theorem dL_areStores_481 : decode cL_areStores 481 = .ok (.iload 15, 2) := by decide +kernel
theorem dL_areStores_483 : decode cL_areStores 483 = .ok (.invokestatic 55, 3) := by decide +kernel
theorem dL_areStores_486 : decode cL_areStores 486 = .ok (.iaload, 1) := by decide +kernel
theorem dL_areStores_487 : decode cL_areStores 487 = .ok (.imul, 1) := by decide +kernel
theorem dL_areStores_488 : decode cL_areStores 488 = .ok (.iload 15, 2) := by decide +kernel
theorem dL_areStores_490 : decode cL_areStores 490 = .ok (.iadd, 1) := by decide +kernel
theorem dL_areStores_491 : decode cL_areStores 491 = .ok (.istore 16, 2) := by decide +kernel
theorem dL_areStores_493 : decode cL_areStores 493 = .ok (.iload 16, 2) := by decide +kernel
theorem dL_areStores_495 : decode cL_areStores 495 = .ok (.iload 13, 2) := by decide +kernel
theorem dL_areStores_497 : decode cL_areStores 497 = .ok (.if_icmp .le 7, 3) := by decide +kernel
theorem dL_areStores_500 : decode cL_areStores 500 = .ok (.iconst 1, 1) := by decide +kernel
theorem dL_areStores_501 : decode cL_areStores 501 = .ok (.goto 4, 3) := by decide +kernel
theorem dL_areStores_504 : decode cL_areStores 504 = .ok (.iconst 0, 1) := by decide +kernel
theorem dL_areStores_505 : decode cL_areStores 505 = .ok (.istore 10, 2) := by decide +kernel
theorem dL_areStores_507 : decode cL_areStores 507 = .ok (.iload 16, 2) := by decide +kernel
theorem dL_areStores_509 : decode cL_areStores 509 = .ok (.istore 13, 2) := by decide +kernel
theorem dL_areStores_511 : decode cL_areStores 511 = .ok (.iinc 14 1, 3) := by decide +kernel
theorem dL_areStores_514 : decode cL_areStores 514 = .ok (.goto (-71), 3) := by decide +kernel
theorem dL_areStores_517 : decode cL_areStores 517 = .ok (.iconst 0, 1) := by decide +kernel
theorem dL_areStores_518 : decode cL_areStores 518 = .ok (.istore 14, 2) := by decide +kernel
theorem dL_areStores_520 : decode cL_areStores 520 = .ok (.iload 14, 2) := by decide +kernel
theorem dL_areStores_522 : decode cL_areStores 522 = .ok (.iconst 3, 1) := by decide +kernel
theorem dL_areStores_523 : decode cL_areStores 523 = .ok (.if_icmp .ge 111, 3) := by decide +kernel
theorem dL_areStores_526 : decode cL_areStores 526 = .ok (.iload 10, 2) := by decide +kernel
theorem dL_areStores_528 : decode cL_areStores 528 = .ok (.ifCond .eq 106, 3) := by decide +kernel
theorem dL_areStores_531 : decode cL_areStores 531 = .ok (.iconst 0, 1) := by decide +kernel
theorem dL_areStores_532 : decode cL_areStores 532 = .ok (.istore 15, 2) := by decide +kernel
theorem dL_areStores_534 : decode cL_areStores 534 = .ok (.iconst 0, 1) := by decide +kernel
theorem dL_areStores_535 : decode cL_areStores 535 = .ok (.istore 16, 2) := by decide +kernel
theorem dL_areStores_537 : decode cL_areStores 537 = .ok (.iload 16, 2) := by decide +kernel
theorem dL_areStores_539 : decode cL_areStores 539 = .ok (.iconst 4, 1) := by decide +kernel
theorem dL_areStores_540 : decode cL_areStores 540 = .ok (.if_icmp .ge 41, 3) := by decide +kernel
theorem dL_areStores_543 : decode cL_areStores 543 = .ok (.iload 15, 2) := by decide +kernel
theorem dL_areStores_545 : decode cL_areStores 545 = .ok (.aload 7, 2) := by decide +kernel
theorem dL_areStores_547 : decode cL_areStores 547 = .ok (.iconst 4, 1) := by decide +kernel
theorem dL_areStores_548 : decode cL_areStores 548 = .ok (.iload 11, 2) := by decide +kernel
theorem dL_areStores_550 : decode cL_areStores 550 = .ok (.imul, 1) := by decide +kernel
theorem dL_areStores_551 : decode cL_areStores 551 = .ok (.iload 16, 2) := by decide +kernel
theorem dL_areStores_553 : decode cL_areStores 553 = .ok (.iadd, 1) := by decide +kernel
theorem dL_areStores_554 : decode cL_areStores 554 = .ok (.iaload, 1) := by decide +kernel
theorem dL_areStores_555 : decode cL_areStores 555 = .ok (.aload 8, 2) := by decide +kernel
theorem dL_areStores_557 : decode cL_areStores 557 = .ok (.iload 11, 2) := by decide +kernel
theorem dL_areStores_559 : decode cL_areStores 559 = .ok (.iload 14, 2) := by decide +kernel
theorem dL_areStores_561 : decode cL_areStores 561 = .ok (.invokestatic 35, 3) := by decide +kernel
theorem dL_areStores_564 : decode cL_areStores 564 = .ok (.if_icmp .le 7, 3) := by decide +kernel
theorem dL_areStores_567 : decode cL_areStores 567 = .ok (.iconst 1, 1) := by decide +kernel
theorem dL_areStores_568 : decode cL_areStores 568 = .ok (.goto 4, 3) := by decide +kernel
theorem dL_areStores_571 : decode cL_areStores 571 = .ok (.iconst 0, 1) := by decide +kernel
theorem dL_areStores_572 : decode cL_areStores 572 = .ok (.iadd, 1) := by decide +kernel
theorem dL_areStores_573 : decode cL_areStores 573 = .ok (.istore 15, 2) := by decide +kernel
theorem dL_areStores_575 : decode cL_areStores 575 = .ok (.iinc 16 1, 3) := by decide +kernel
theorem dL_areStores_578 : decode cL_areStores 578 = .ok (.goto (-41), 3) := by decide +kernel
theorem dL_areStores_581 : decode cL_areStores 581 = .ok (.iload 14, 2) := by decide +kernel
theorem dL_areStores_583 : decode cL_areStores 583 = .ok (.iload 11, 2) := by decide +kernel
theorem dL_areStores_585 : decode cL_areStores 585 = .ok (.if_icmp .eq 36, 3) := by decide +kernel
theorem dL_areStores_588 : decode cL_areStores 588 = .ok (.aload_n 0, 1) := by decide +kernel
theorem dL_areStores_589 : decode cL_areStores 589 = .ok (.iload 11, 2) := by decide +kernel
theorem dL_areStores_591 : decode cL_areStores 591 = .ok (.iload 14, 2) := by decide +kernel
theorem dL_areStores_593 : decode cL_areStores 593 = .ok (.invokevirtual 82, 3) := by decide +kernel
theorem dL_areStores_596 : decode cL_areStores 596 = .ok (.aload 8, 2) := by decide +kernel
theorem dL_areStores_598 : decode cL_areStores 598 = .ok (.iload 11, 2) := by decide +kernel
theorem dL_areStores_600 : decode cL_areStores 600 = .ok (.iload 14, 2) := by decide +kernel
theorem dL_areStores_602 : decode cL_areStores 602 = .ok (.invokestatic 35, 3) := by decide +kernel
theorem dL_areStores_605 : decode cL_areStores 605 = .ok (.if_icmp .ne 20, 3) := by decide +kernel
theorem dL_areStores_608 : decode cL_areStores 608 = .ok (.aload_n 0, 1) := by decide +kernel
theorem dL_areStores_609 : decode cL_areStores 609 = .ok (.iload 11, 2) := by decide +kernel
theorem dL_areStores_611 : decode cL_areStores 611 = .ok (.iload 14, 2) := by decide +kernel
theorem dL_areStores_613 : decode cL_areStores 613 = .ok (.invokevirtual 85, 3) := by decide +kernel
theorem dL_areStores_616 : decode cL_areStores 616 = .ok (.iload 15, 2) := by decide +kernel
theorem dL_areStores_618 : decode cL_areStores 618 = .ok (.if_icmp .ne 7, 3) := by decide +kernel
theorem dL_areStores_621 : decode cL_areStores 621 = .ok (.iconst 1, 1) := by decide +kernel
theorem dL_areStores_622 : decode cL_areStores 622 = .ok (.goto 4, 3) := by decide +kernel
theorem dL_areStores_625 : decode cL_areStores 625 = .ok (.iconst 0, 1) := by decide +kernel
theorem dL_areStores_626 : decode cL_areStores 626 = .ok (.istore 10, 2) := by decide +kernel
theorem dL_areStores_628 : decode cL_areStores 628 = .ok (.iinc 14 1, 3) := by decide +kernel
theorem dL_areStores_631 : decode cL_areStores 631 = .ok (.goto (-111), 3) := by decide +kernel
theorem dL_areStores_634 : decode cL_areStores 634 = .ok (.iinc 11 1, 3) := by decide +kernel
theorem dL_areStores_637 : decode cL_areStores 637 = .ok (.goto (-616), 3) := by decide +kernel
theorem dL_areStores_640 : decode cL_areStores 640 = .ok (.iload 10, 2) := by decide +kernel
theorem dL_areStores_642 : decode cL_areStores 642 = .ok (.ireturn, 1) := by decide +kernel
set_option maxRecDepth 20000 in
theorem ggL_areRevisions_X3_documentOf : GoodIn wsL_areRevisions wsX3_documentOf := goodIn_ca (goodIn_r _ [5, 6, 7, 8, 9, 4, 10, 11, 12, 29, 30, 31, 32, 33, 34, 35, 36, 37, 38] (by decide +kernel) (by decide +kernel)) (goodIn_sub (fun _ h => List.mem_cons_of_mem _ (List.mem_append_right _ h)) (by decide +kernel))
set_option maxRecDepth 20000 in
theorem gL_areRevisions_X3_documentOf : GoodIn wsL_areRevisions (wsV RL 88 RX3 yX3_documentOf wsX3_documentOf) := goodIn_app (goodIn_of _ (by decide +kernel)) ggL_areRevisions_X3_documentOf
set_option maxRecDepth 20000 in
theorem ggL_areRevisions_X3_parentOf : GoodIn wsL_areRevisions wsX3_parentOf := goodIn_ca (goodIn_r _ [16, 6, 7, 8, 9, 4, 10, 11, 12, 29, 30, 31, 32, 33, 34, 35, 36, 37, 38] (by decide +kernel) (by decide +kernel)) (goodIn_sub (fun _ h => List.mem_cons_of_mem _ (List.mem_append_right _ h)) (by decide +kernel))
set_option maxRecDepth 20000 in
theorem gL_areRevisions_X3_parentOf : GoodIn wsL_areRevisions (wsV RL 91 RX3 yX3_parentOf wsX3_parentOf) := goodIn_app (goodIn_of _ (by decide +kernel)) ggL_areRevisions_X3_parentOf
set_option maxRecDepth 20000 in
theorem ggL_areRevisions_X3_generation : GoodIn wsL_areRevisions wsX3_generation := goodIn_ca (goodIn_r _ [20, 6, 7, 8, 9, 4, 10, 11, 12, 29, 30, 31, 32, 33, 34, 35, 36, 37, 38] (by decide +kernel) (by decide +kernel)) (goodIn_sub (fun _ h => List.mem_cons_of_mem _ (List.mem_append_right _ h)) (by decide +kernel))
set_option maxRecDepth 20000 in
theorem gL_areRevisions_X3_generation : GoodIn wsL_areRevisions (wsV RL 94 RX3 yX3_generation wsX3_generation) := goodIn_app (goodIn_of _ (by decide +kernel)) ggL_areRevisions_X3_generation
set_option maxRecDepth 20000 in
theorem ggL_areRevisions_X3_sum : GoodIn wsL_areRevisions wsX3_sum := goodIn_ca (goodIn_r _ [24, 6, 7, 8, 9, 4, 10, 11, 12, 29, 30, 31, 32, 33, 34, 35, 36, 37, 38] (by decide +kernel) (by decide +kernel)) (goodIn_sub (fun _ h => List.mem_cons_of_mem _ (List.mem_append_right _ h)) (by decide +kernel))
set_option maxRecDepth 20000 in
theorem gL_areRevisions_X3_sum : GoodIn wsL_areRevisions (wsV RL 97 RX3 yX3_sum wsX3_sum) := goodIn_app (goodIn_of _ (by decide +kernel)) ggL_areRevisions_X3_sum
set_option maxRecDepth 20000 in
theorem ggL_areRevisions_X3_valueOf : GoodIn wsL_areRevisions wsX3_valueOf := goodIn_ca (goodIn_r _ [28, 6, 7, 8, 9, 4, 10, 11, 12, 29, 30, 31, 32, 33, 34, 35, 36, 37, 38] (by decide +kernel) (by decide +kernel)) (goodIn_sub (fun _ h => List.mem_cons_of_mem _ (List.mem_append_right _ h)) (by decide +kernel))
set_option maxRecDepth 20000 in
theorem gL_areRevisions_X3_valueOf : GoodIn wsL_areRevisions (wsV RL 100 RX3 yX3_valueOf wsX3_valueOf) := goodIn_app (goodIn_of _ (by decide +kernel)) ggL_areRevisions_X3_valueOf
