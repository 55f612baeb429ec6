theorem dL_law_0 : decode cL_law 0 = .ok (.new 14, 3) := by decide +kernel
theorem dL_law_3 : decode cL_law 3 = .ok (.dup, 1) := by decide +kernel
theorem dL_law_4 : decode cL_law 4 = .ok (.invokespecial 105, 3) := by decide +kernel
theorem dL_law_7 : decode cL_law 7 = .ok (.astore_n 1, 1) := by decide +kernel
theorem dL_law_8 : decode cL_law 8 = .ok (.aload_n 1, 1) := by decide +kernel
theorem dL_law_9 : decode cL_law 9 = .ok (.aload_n 0, 1) := by decide +kernel
theorem dL_law_10 : decode cL_law 10 = .ok (.invokestatic 106, 3) := by decide +kernel
theorem dL_law_13 : decode cL_law 13 = .ok (.iconst 0, 1) := by decide +kernel
theorem dL_law_14 : decode cL_law 14 = .ok (.istore_n 2, 1) := by decide +kernel
theorem dL_law_15 : decode cL_law 15 = .ok (.iload_n 2, 1) := by decide +kernel
theorem dL_law_16 : decode cL_law 16 = .ok (.iconst 3, 1) := by decide +kernel
theorem dL_law_17 : decode cL_law 17 = .ok (.if_icmp .ge 1113, 3) := by decide +kernel
theorem dL_law_20 : decode cL_law 20 = .ok (.aload_n 1, 1) := by decide +kernel
theorem dL_law_21 : decode cL_law 21 = .ok (.invokevirtual 75, 3) := by decide +kernel
theorem dL_law_24 : decode cL_law 24 = .ok (.istore_n 3, 1) := by decide +kernel
theorem dL_law_25 : decode cL_law 25 = .ok (.iconst 0, 1) := by decide +kernel
theorem dL_law_26 : decode cL_law 26 = .ok (.istore 4, 2) := by decide +kernel
theorem dL_law_28 : decode cL_law 28 = .ok (.iconst 0, 1) := by decide +kernel
theorem dL_law_29 : decode cL_law 29 = .ok (.istore 5, 2) := by decide +kernel
theorem dL_law_31 : decode cL_law 31 = .ok (.iconst 0, 1) := by decide +kernel
theorem dL_law_32 : decode cL_law 32 = .ok (.istore 6, 2) := by decide +kernel
theorem dL_law_34 : decode cL_law 34 = .ok (.iconst 1, 1) := by decide +kernel
theorem dL_law_35 : decode cL_law 35 = .ok (.aload_n 0, 1) := by decide +kernel
theorem dL_law_36 : decode cL_law 36 = .ok (.bipush 100, 2) := by decide +kernel
theorem dL_law_38 : decode cL_law 38 = .ok (.iload_n 2, 1) := by decide +kernel
theorem dL_law_39 : decode cL_law 39 = .ok (.iadd, 1) := by decide +kernel
theorem dL_law_40 : decode cL_law 40 = .ok (.bipush 60, 2) := by decide +kernel
theorem dL_law_42 : decode cL_law 42 = .ok (.invokestatic 64, 3) := by decide +kernel
theorem dL_law_45 : decode cL_law 45 = .ok (.iadd, 1) := by decide +kernel
theorem dL_law_46 : decode cL_law 46 = .ok (.istore 7, 2) := by decide +kernel
theorem dL_law_48 : decode cL_law 48 = .ok (.iconst 0, 1) := by decide +kernel
theorem dL_law_49 : decode cL_law 49 = .ok (.istore 8, 2) := by decide +kernel
theorem dL_law_51 : decode cL_law 51 = .ok (.iconst 0, 1) := by decide +kernel
theorem dL_law_52 : decode cL_law 52 = .ok (.istore 9, 2) := by decide +kernel
theorem dL_law_54 : decode cL_law 54 = .ok (.iconst 0, 1) := by decide +kernel
theorem dL_law_55 : decode cL_law 55 = .ok (.istore 10, 2) := by decide +kernel
theorem dL_law_57 : decode cL_law 57 = .ok (.iload 10, 2) := by decide +kernel
theorem dL_law_59 : decode cL_law 59 = .ok (.iload_n 3, 1) := by decide +kernel
theorem dL_law_60 : decode cL_law 60 = .ok (.if_icmp .ge 562, 3) := by decide +kernel
theorem dL_law_63 : decode cL_law 63 = .ok (.aload_n 1, 1) := by decide +kernel
theorem dL_law_64 : decode cL_law 64 = .ok (.iload 10, 2) := by decide +kernel
theorem dL_law_66 : decode cL_law 66 = .ok (.invokevirtual 49, 3) := by decide +kernel
theorem dL_law_69 : decode cL_law 69 = .ok (.istore 11, 2) := by decide +kernel
theorem dL_law_71 : decode cL_law 71 = .ok (.aload_n 1, 1) := by decide +kernel
theorem dL_law_72 : decode cL_law 72 = .ok (.iload 11, 2) := by decide +kernel
theorem dL_law_74 : decode cL_law 74 = .ok (.invokevirtual 110, 3) := by decide +kernel
theorem dL_law_77 : decode cL_law 77 = .ok (.istore 12, 2) := by decide +kernel
theorem dL_law_79 : decode cL_law 79 = .ok (.aload_n 1, 1) := by decide +kernel
theorem dL_law_80 : decode cL_law 80 = .ok (.iload 11, 2) := by decide +kernel
theorem dL_law_82 : decode cL_law 82 = .ok (.invokevirtual 113, 3) := by decide +kernel
theorem dL_law_85 : decode cL_law 85 = .ok (.istore 13, 2) := by decide +kernel
theorem dL_law_87 : decode cL_law 87 = .ok (.aload_n 1, 1) := by decide +kernel
theorem dL_law_88 : decode cL_law 88 = .ok (.iload 11, 2) := by decide +kernel
theorem dL_law_90 : decode cL_law 90 = .ok (.invokevirtual 116, 3) := by decide +kernel
theorem dL_law_93 : decode cL_law 93 = .ok (.istore 14, 2) := by decide +kernel
theorem dL_law_95 : decode cL_law 95 = .ok (.iload 12, 2) := by decide +kernel
theorem dL_law_97 : decode cL_law 97 = .ok (.iconst 1, 1) := by decide +kernel
theorem dL_law_98 : decode cL_law 98 = .ok (.if_icmp .lt 105, 3) := by decide +kernel
theorem dL_law_101 : decode cL_law 101 = .ok (.iload 12, 2) := by decide +kernel
theorem dL_law_103 : decode cL_law 103 = .ok (.bipush 20, 2) := by decide +kernel
theorem dL_law_105 : decode cL_law 105 = .ok (.if_icmp .gt 98, 3) := by decide +kernel
theorem dL_law_108 : decode cL_law 108 = .ok (.iload 13, 2) := by decide +kernel
theorem dL_law_110 : decode cL_law 110 = .ok (.iconst 2, 1) := by decide +kernel
theorem dL_law_111 : decode cL_law 111 = .ok (.if_icmp .lt 92, 3) := by decide +kernel
theorem dL_law_114 : decode cL_law 114 = .ok (.iload 13, 2) := by decide +kernel
theorem dL_law_116 : decode cL_law 116 = .ok (.bipush 60, 2) := by decide +kernel
theorem dL_law_118 : decode cL_law 118 = .ok (.if_icmp .gt 85, 3) := by decide +kernel
theorem dL_law_121 : decode cL_law 121 = .ok (.iload 14, 2) := by decide +kernel
theorem dL_law_123 : decode cL_law 123 = .ok (.aload_n 1, 1) := by decide +kernel
theorem dL_law_124 : decode cL_law 124 = .ok (.invokevirtual 119, 3) := by decide +kernel
theorem dL_law_127 : decode cL_law 127 = .ok (.if_icmp .le 76, 3) := by decide +kernel
theorem dL_law_130 : decode cL_law 130 = .ok (.iload 14, 2) := by decide +kernel
theorem dL_law_132 : decode cL_law 132 = .ok (.aload_n 1, 1) := by decide +kernel
theorem dL_law_133 : decode cL_law 133 = .ok (.invokevirtual 119, 3) := by decide +kernel
theorem dL_law_136 : decode cL_law 136 = .ok (.bipush 60, 2) := by decide +kernel
theorem dL_law_138 : decode cL_law 138 = .ok (.iadd, 1) := by decide +kernel
theorem dL_law_139 : decode cL_law 139 = .ok (.if_icmp .gt 64, 3) := by decide +kernel
theorem dL_law_142 : decode cL_law 142 = .ok (.aload_n 1, 1) := by decide +kernel
theorem dL_law_143 : decode cL_law 143 = .ok (.iload 11, 2) := by decide +kernel
theorem dL_law_145 : decode cL_law 145 = .ok (.invokevirtual 122, 3) := by decide +kernel
theorem dL_law_148 : decode cL_law 148 = .ok (.iconst 1, 1) := by decide +kernel
theorem dL_law_149 : decode cL_law 149 = .ok (.iload 12, 2) := by decide +kernel
theorem dL_law_151 : decode cL_law 151 = .ok (.iconst 5, 1) := by decide +kernel
theorem dL_law_152 : decode cL_law 152 = .ok (.idiv, 1) := by decide +kernel
theorem dL_law_153 : decode cL_law 153 = .ok (.iadd, 1) := by decide +kernel
theorem dL_law_154 : decode cL_law 154 = .ok (.if_icmp .ne 49, 3) := by decide +kernel
theorem dL_law_157 : decode cL_law 157 = .ok (.aload_n 1, 1) := by decide +kernel
theorem dL_law_158 : decode cL_law 158 = .ok (.iload 11, 2) := by decide +kernel
theorem dL_law_160 : decode cL_law 160 = .ok (.invokevirtual 125, 3) := by decide +kernel
theorem dL_law_163 : decode cL_law 163 = .ok (.iload 14, 2) := by decide +kernel
theorem dL_law_165 : decode cL_law 165 = .ok (.iload 12, 2) := by decide +kernel
theorem dL_law_167 : decode cL_law 167 = .ok (.iconst 1, 1) := by decide +kernel
theorem dL_law_168 : decode cL_law 168 = .ok (.isub, 1) := by decide +kernel
theorem dL_law_169 : decode cL_law 169 = .ok (.iload 13, 2) := by decide +kernel
theorem dL_law_171 : decode cL_law 171 = .ok (.imul, 1) := by decide +kernel
theorem dL_law_172 : decode cL_law 172 = .ok (.iadd, 1) := by decide +kernel
theorem dL_law_173 : decode cL_law 173 = .ok (.if_icmp .ne 30, 3) := by decide +kernel
theorem dL_law_176 : decode cL_law 176 = .ok (.aload_n 1, 1) := by decide +kernel
theorem dL_law_177 : decode cL_law 177 = .ok (.iload 11, 2) := by decide +kernel
theorem dL_law_179 : decode cL_law 179 = .ok (.invokevirtual 128, 3) := by decide +kernel
theorem dL_law_182 : decode cL_law 182 = .ok (.ifCond .eq 21, 3) := by decide +kernel
theorem dL_law_185 : decode cL_law 185 = .ok (.iload 10, 2) := by decide +kernel
theorem dL_law_187 : decode cL_law 187 = .ok (.ifCond .le 18, 3) := by decide +kernel
theorem dL_law_190 : decode cL_law 190 = .ok (.iload 11, 2) := by decide +kernel
theorem dL_law_192 : decode cL_law 192 = .ok (.aload_n 1, 1) := by decide +kernel
theorem dL_law_193 : decode cL_law 193 = .ok (.iload 10, 2) := by decide +kernel
theorem dL_law_195 : decode cL_law 195 = .ok (.iconst 1, 1) := by decide +kernel
theorem dL_law_196 : decode cL_law 196 = .ok (.isub, 1) := by decide +kernel
theorem dL_law_197 : decode cL_law 197 = .ok (.invokevirtual 49, 3) := by decide +kernel
theorem dL_law_200 : decode cL_law 200 = .ok (.if_icmp .gt 5, 3) := by decide +kernel
theorem dL_law_203 : decode cL_law 203 = .ok (.iconst 0, 1) := by decide +kernel
theorem dL_law_204 : decode cL_law 204 = .ok (.ireturn, 1) := by decide +kernel
theorem dL_law_205 : decode cL_law 205 = .ok (.aload_n 1, 1) := by decide +kernel
theorem dL_law_206 : decode cL_law 206 = .ok (.aload_n 1, 1) := by decide +kernel
theorem dL_law_207 : decode cL_law 207 = .ok (.iload 11, 2) := by decide +kernel
theorem dL_law_209 : decode cL_law 209 = .ok (.invokevirtual 132, 3) := by decide +kernel
theorem dL_law_212 : decode cL_law 212 = .ok (.new 135, 3) := by decide +kernel
theorem dL_law_215 : decode cL_law 215 = .ok (.dup, 1) := by decide +kernel
theorem dL_law_216 : decode cL_law 216 = .ok (.invokespecial 137, 3) := by decide +kernel
theorem dL_law_219 : decode cL_law 219 = .ok (.iload 11, 2) := by decide +kernel
theorem dL_law_221 : decode cL_law 221 = .ok (.invokevirtual 138, 3) := by decide +kernel
theorem dL_law_224 : decode cL_law 224 = .ok (.ldc 142, 2) := by decide +kernel
theorem dL_law_226 : decode cL_law 226 = .ok (.invokevirtual 144, 3) := by decide +kernel
theorem dL_law_229 : decode cL_law 229 = .ok (.iload 12, 2) := by decide +kernel
theorem dL_law_231 : decode cL_law 231 = .ok (.invokevirtual 138, 3) := by decide +kernel
theorem dL_law_234 : decode cL_law 234 = .ok (.ldc 147, 2) := by decide +kernel
theorem dL_law_236 : decode cL_law 236 = .ok (.invokevirtual 144, 3) := by decide +kernel
theorem dL_law_239 : decode cL_law 239 = .ok (.iload 13, 2) := by decide +kernel
theorem dL_law_241 : decode cL_law 241 = .ok (.invokevirtual 138, 3) := by decide +kernel
theorem dL_law_244 : decode cL_law 244 = .ok (.ldc 149, 2) := by decide +kernel
theorem dL_law_246 : decode cL_law 246 = .ok (.invokevirtual 144, 3) := by decide +kernel
theorem dL_law_249 : decode cL_law 249 = .ok (.iload 14, 2) := by decide +kernel
theorem dL_law_251 : decode cL_law 251 = .ok (.invokevirtual 138, 3) := by decide +kernel
theorem dL_law_254 : decode cL_law 254 = .ok (.invokevirtual 151, 3) := by decide +kernel
theorem dL_law_257 : decode cL_law 257 = .ok (.invokestatic 155, 3) := by decide +kernel
theorem dL_law_260 : decode cL_law 260 = .ok (.ifCond .ne 5, 3) := by decide +kernel
theorem dL_law_263 : decode cL_law 263 = .ok (.iconst 0, 1) := by decide +kernel
theorem dL_law_264 : decode cL_law 264 = .ok (.ireturn, 1) := by decide +kernel
theorem dL_law_265 : decode cL_law 265 = .ok (.iload 4, 2) := by decide +kernel
theorem dL_law_267 : decode cL_law 267 = .ok (.iload 12, 2) := by decide +kernel
theorem dL_law_269 : decode cL_law 269 = .ok (.iadd, 1) := by decide +kernel
theorem dL_law_270 : decode cL_law 270 = .ok (.istore 4, 2) := by decide +kernel
theorem dL_law_272 : decode cL_law 272 = .ok (.aload_n 1, 1) := by decide +kernel
theorem dL_law_273 : decode cL_law 273 = .ok (.invokevirtual 159, 3) := by decide +kernel
theorem dL_law_276 : decode cL_law 276 = .ok (.iload 13, 2) := by decide +kernel
theorem dL_law_278 : decode cL_law 278 = .ok (.i2l, 1) := by decide +kernel
theorem dL_law_279 : decode cL_law 279 = .ok (.lrem, 1) := by decide +kernel
theorem dL_law_280 : decode cL_law 280 = .ok (.lconst 0, 1) := by decide +kernel
theorem dL_law_281 : decode cL_law 281 = .ok (.lcmp, 1) := by decide +kernel
theorem dL_law_282 : decode cL_law 282 = .ok (.ifCond .eq 5, 3) := by decide +kernel
theorem dL_law_285 : decode cL_law 285 = .ok (.iconst 0, 1) := by decide +kernel
theorem dL_law_286 : decode cL_law 286 = .ok (.ireturn, 1) := by decide +kernel
theorem dL_law_287 : decode cL_law 287 = .ok (.iconst 0, 1) := by decide +kernel
theorem dL_law_288 : decode cL_law 288 = .ok (.istore 15, 2) := by decide +kernel
theorem dL_law_290 : decode cL_law 290 = .ok (.iload 15, 2) := by decide +kernel
theorem dL_law_292 : decode cL_law 292 = .ok (.iload 12, 2) := by decide +kernel
theorem dL_law_294 : decode cL_law 294 = .ok (.if_icmp .ge 43, 3) := by decide +kernel
theorem dL_law_297 : decode cL_law 297 = .ok (.iload 14, 2) := by decide +kernel
theorem dL_law_299 : decode cL_law 299 = .ok (.iload 15, 2) := by decide +kernel
theorem dL_law_301 : decode cL_law 301 = .ok (.iload 13, 2) := by decide +kernel
theorem dL_law_303 : decode cL_law 303 = .ok (.imul, 1) := by decide +kernel
theorem dL_law_304 : decode cL_law 304 = .ok (.iadd, 1) := by decide +kernel
theorem dL_law_305 : decode cL_law 305 = .ok (.aload_n 1, 1) := by decide +kernel
theorem dL_law_306 : decode cL_law 306 = .ok (.invokevirtual 119, 3) := by decide +kernel
theorem dL_law_309 : decode cL_law 309 = .ok (.iload 7, 2) := by decide +kernel
theorem dL_law_311 : decode cL_law 311 = .ok (.iadd, 1) := by decide +kernel
theorem dL_law_312 : decode cL_law 312 = .ok (.if_icmp .le 6, 3) := by decide +kernel
theorem dL_law_315 : decode cL_law 315 = .ok (.goto 16, 3) := by decide +kernel
theorem dL_law_318 : decode cL_law 318 = .ok (.iinc 8 1, 3) := by decide +kernel
theorem dL_law_321 : decode cL_law 321 = .ok (.iload 9, 2) := by decide +kernel
theorem dL_law_323 : decode cL_law 323 = .ok (.iload 12, 2) := by decide +kernel
theorem dL_law_325 : decode cL_law 325 = .ok (.iload 15, 2) := by decide +kernel
theorem dL_law_327 : decode cL_law 327 = .ok (.isub, 1) := by decide +kernel
theorem dL_law_328 : decode cL_law 328 = .ok (.iadd, 1) := by decide +kernel
theorem dL_law_329 : decode cL_law 329 = .ok (.istore 9, 2) := by decide +kernel
theorem dL_law_331 : decode cL_law 331 = .ok (.iinc 15 1, 3) := by decide +kernel
theorem dL_law_334 : decode cL_law 334 = .ok (.goto (-44), 3) := by decide +kernel
theorem dL_law_337 : decode cL_law 337 = .ok (.iconst 0, 1) := by decide +kernel
theorem dL_law_338 : decode cL_law 338 = .ok (.istore 15, 2) := by decide +kernel
theorem dL_law_340 : decode cL_law 340 = .ok (.iload 15, 2) := by decide +kernel
theorem dL_law_342 : decode cL_law 342 = .ok (.iload_n 3, 1) := by decide +kernel
theorem dL_law_343 : decode cL_law 343 = .ok (.if_icmp .ge 188, 3) := by decide +kernel
theorem dL_law_346 : decode cL_law 346 = .ok (.aload_n 1, 1) := by decide +kernel
theorem dL_law_347 : decode cL_law 347 = .ok (.iload 15, 2) := by decide +kernel
theorem dL_law_349 : decode cL_law 349 = .ok (.invokevirtual 49, 3) := by decide +kernel
theorem dL_law_352 : decode cL_law 352 = .ok (.istore 16, 2) := by decide +kernel
theorem dL_law_354 : decode cL_law 354 = .ok (.aload_n 1, 1) := by decide +kernel
theorem dL_law_355 : decode cL_law 355 = .ok (.iload 11, 2) := by decide +kernel
theorem dL_law_357 : decode cL_law 357 = .ok (.iload 16, 2) := by decide +kernel
theorem dL_law_359 : decode cL_law 359 = .ok (.invokestatic 163, 3) := by decide +kernel
theorem dL_law_362 : decode cL_law 362 = .ok (.istore 17, 2) := by decide +kernel
theorem dL_law_364 : decode cL_law 364 = .ok (.iload 17, 2) := by decide +kernel
theorem dL_law_366 : decode cL_law 366 = .ok (.aload_n 1, 1) := by decide +kernel
theorem dL_law_367 : decode cL_law 367 = .ok (.iload 16, 2) := by decide +kernel
theorem dL_law_369 : decode cL_law 369 = .ok (.iload 11, 2) := by decide +kernel
theorem dL_law_371 : decode cL_law 371 = .ok (.invokestatic 165, 3) := by decide +kernel
theorem dL_law_374 : decode cL_law 374 = .ok (.if_icmp .ne 31, 3) := by decide +kernel
theorem dL_law_377 : decode cL_law 377 = .ok (.iload 15, 2) := by decide +kernel
theorem dL_law_379 : decode cL_law 379 = .ok (.iload 10, 2) := by decide +kernel
theorem dL_law_381 : decode cL_law 381 = .ok (.if_icmp .ne 7, 3) := by decide +kernel
theorem dL_law_384 : decode cL_law 384 = .ok (.iconst 1, 1) := by decide +kernel
theorem dL_law_385 : decode cL_law 385 = .ok (.goto 4, 3) := by decide +kernel
theorem dL_law_388 : decode cL_law 388 = .ok (.iconst 0, 1) := by decide +kernel
theorem dL_law_389 : decode cL_law 389 = .ok (.iload 17, 2) := by decide +kernel
theorem dL_law_391 : decode cL_law 391 = .ok (.sipush (-20000), 3) := by decide +kernel
theorem dL_law_394 : decode cL_law 394 = .ok (.if_icmp .ne 7, 3) := by decide +kernel
theorem dL_law_397 : decode cL_law 397 = .ok (.iconst 1, 1) := by decide +kernel
theorem dL_law_398 : decode cL_law 398 = .ok (.goto 4, 3) := by decide +kernel
theorem dL_law_401 : decode cL_law 401 = .ok (.iconst 0, 1) := by decide +kernel
theorem dL_law_402 : decode cL_law 402 = .ok (.if_icmp .eq 5, 3) := by decide +kernel
theorem dL_law_405 : decode cL_law 405 = .ok (.iconst 0, 1) := by decide +kernel
theorem dL_law_406 : decode cL_law 406 = .ok (.ireturn, 1) := by decide +kernel
theorem dL_law_407 : decode cL_law 407 = .ok (.iload 17, 2) := by decide +kernel
theorem dL_law_409 : decode cL_law 409 = .ok (.sipush (-20000), 3) := by decide +kernel
theorem dL_law_412 : decode cL_law 412 = .ok (.if_icmp .ne 6, 3) := by decide +kernel
theorem dL_law_415 : decode cL_law 415 = .ok (.goto 110, 3) := by decide +kernel
theorem dL_law_418 : decode cL_law 418 = .ok (.iload 14, 2) := by decide +kernel
theorem dL_law_420 : decode cL_law 420 = .ok (.aload_n 1, 1) := by decide +kernel
theorem dL_law_421 : decode cL_law 421 = .ok (.iload 16, 2) := by decide +kernel
theorem dL_law_423 : decode cL_law 423 = .ok (.invokevirtual 116, 3) := by decide +kernel
theorem dL_law_426 : decode cL_law 426 = .ok (.invokestatic 167, 3) := by decide +kernel
theorem dL_law_429 : decode cL_law 429 = .ok (.istore 18, 2) := by decide +kernel
theorem dL_law_431 : decode cL_law 431 = .ok (.sipush (-15000), 3) := by decide +kernel
theorem dL_law_434 : decode cL_law 434 = .ok (.istore 19, 2) := by decide +kernel
theorem dL_law_436 : decode cL_law 436 = .ok (.iconst 0, 1) := by decide +kernel
theorem dL_law_437 : decode cL_law 437 = .ok (.istore 20, 2) := by decide +kernel
theorem dL_law_439 : decode cL_law 439 = .ok (.iload 20, 2) := by decide +kernel
theorem dL_law_441 : decode cL_law 441 = .ok (.iload 13, 2) := by decide +kernel
theorem dL_law_443 : decode cL_law 443 = .ok (.aload_n 1, 1) := by decide +kernel
theorem dL_law_444 : decode cL_law 444 = .ok (.iload 16, 2) := by decide +kernel
theorem dL_law_446 : decode cL_law 446 = .ok (.invokevirtual 113, 3) := by decide +kernel
theorem dL_law_449 : decode cL_law 449 = .ok (.imul, 1) := by decide +kernel
theorem dL_law_450 : decode cL_law 450 = .ok (.if_icmp .ge 66, 3) := by decide +kernel
theorem dL_law_453 : decode cL_law 453 = .ok (.iload 19, 2) := by decide +kernel
theorem dL_law_455 : decode cL_law 455 = .ok (.sipush (-15000), 3) := by decide +kernel
theorem dL_law_458 : decode cL_law 458 = .ok (.if_icmp .ne 58, 3) := by decide +kernel
theorem dL_law_461 : decode cL_law 461 = .ok (.iload 18, 2) := by decide +kernel
theorem dL_law_463 : decode cL_law 463 = .ok (.iload 20, 2) := by decide +kernel
theorem dL_law_465 : decode cL_law 465 = .ok (.iadd, 1) := by decide +kernel
theorem dL_law_466 : decode cL_law 466 = .ok (.iload 14, 2) := by decide +kernel
theorem dL_law_468 : decode cL_law 468 = .ok (.isub, 1) := by decide +kernel
theorem dL_law_469 : decode cL_law 469 = .ok (.iload 13, 2) := by decide +kernel
theorem dL_law_471 : decode cL_law 471 = .ok (.irem, 1) := by decide +kernel
theorem dL_law_472 : decode cL_law 472 = .ok (.ifCond .ne 33, 3) := by decide +kernel
theorem dL_law_475 : decode cL_law 475 = .ok (.iload 18, 2) := by decide +kernel
theorem dL_law_477 : decode cL_law 477 = .ok (.iload 20, 2) := by decide +kernel
theorem dL_law_479 : decode cL_law 479 = .ok (.iadd, 1) := by decide +kernel
theorem dL_law_480 : decode cL_law 480 = .ok (.aload_n 1, 1) := by decide +kernel
theorem dL_law_481 : decode cL_law 481 = .ok (.iload 16, 2) := by decide +kernel
theorem dL_law_483 : decode cL_law 483 = .ok (.invokevirtual 116, 3) := by decide +kernel
theorem dL_law_486 : decode cL_law 486 = .ok (.isub, 1) := by decide +kernel
theorem dL_law_487 : decode cL_law 487 = .ok (.aload_n 1, 1) := by decide +kernel
theorem dL_law_488 : decode cL_law 488 = .ok (.iload 16, 2) := by decide +kernel
theorem dL_law_490 : decode cL_law 490 = .ok (.invokevirtual 113, 3) := by decide +kernel
theorem dL_law_493 : decode cL_law 493 = .ok (.irem, 1) := by decide +kernel
theorem dL_law_494 : decode cL_law 494 = .ok (.ifCond .ne 11, 3) := by decide +kernel
theorem dL_law_497 : decode cL_law 497 = .ok (.iload 18, 2) := by decide +kernel
theorem dL_law_499 : decode cL_law 499 = .ok (.iload 20, 2) := by decide +kernel
theorem dL_law_501 : decode cL_law 501 = .ok (.iadd, 1) := by decide +kernel
theorem dL_law_502 : decode cL_law 502 = .ok (.goto 6, 3) := by decide +kernel
theorem dL_law_505 : decode cL_law 505 = .ok (.sipush (-15000), 3) := by decide +kernel
theorem dL_law_508 : decode cL_law 508 = .ok (.istore 19, 2) := by decide +kernel
theorem dL_law_510 : decode cL_law 510 = .ok (.iinc 20 1, 3) := by decide +kernel
theorem dL_law_513 : decode cL_law 513 = .ok (.goto (-74), 3) := by decide +kernel
theorem dL_law_516 : decode cL_law 516 = .ok (.iload 19, 2) := by decide +kernel
theorem dL_law_518 : decode cL_law 518 = .ok (.iload 17, 2) := by decide +kernel
theorem dL_law_520 : decode cL_law 520 = .ok (.if_icmp .eq 5, 3) := by decide +kernel
theorem dL_law_523 : decode cL_law 523 = .ok (.iconst 0, 1) := by decide +kernel
theorem dL_law_524 : decode cL_law 524 = .ok (.ireturn, 1) := by decide +kernel
theorem dL_law_525 : decode cL_law 525 = .ok (.iinc 15 1, 3) := by decide +kernel
theorem dL_law_528 : decode cL_law 528 = .ok (.goto (-188), 3) := by decide +kernel
theorem dL_law_531 : decode cL_law 531 = .ok (.iload 10, 2) := by decide +kernel
theorem dL_law_533 : decode cL_law 533 = .ok (.ifCond .ne 6, 3) := by decide +kernel
theorem dL_law_536 : decode cL_law 536 = .ok (.goto 80, 3) := by decide +kernel
theorem dL_law_539 : decode cL_law 539 = .ok (.aload_n 1, 1) := by decide +kernel
theorem dL_law_540 : decode cL_law 540 = .ok (.iload 10, 2) := by decide +kernel
theorem dL_law_542 : decode cL_law 542 = .ok (.iconst 1, 1) := by decide +kernel
theorem dL_law_543 : decode cL_law 543 = .ok (.isub, 1) := by decide +kernel
theorem dL_law_544 : decode cL_law 544 = .ok (.invokevirtual 52, 3) := by decide +kernel
theorem dL_law_547 : decode cL_law 547 = .ok (.istore 15, 2) := by decide +kernel
theorem dL_law_549 : decode cL_law 549 = .ok (.aload_n 1, 1) := by decide +kernel
theorem dL_law_550 : decode cL_law 550 = .ok (.iload 10, 2) := by decide +kernel
theorem dL_law_552 : decode cL_law 552 = .ok (.invokevirtual 52, 3) := by decide +kernel
theorem dL_law_555 : decode cL_law 555 = .ok (.istore 16, 2) := by decide +kernel
theorem dL_law_557 : decode cL_law 557 = .ok (.aload_n 1, 1) := by decide +kernel
theorem dL_law_558 : decode cL_law 558 = .ok (.iload 15, 2) := by decide +kernel
theorem dL_law_560 : decode cL_law 560 = .ok (.invokevirtual 110, 3) := by decide +kernel
theorem dL_law_563 : decode cL_law 563 = .ok (.aload_n 1, 1) := by decide +kernel
theorem dL_law_564 : decode cL_law 564 = .ok (.iload 16, 2) := by decide +kernel
theorem dL_law_566 : decode cL_law 566 = .ok (.invokevirtual 110, 3) := by decide +kernel
theorem dL_law_569 : decode cL_law 569 = .ok (.isub, 1) := by decide +kernel
theorem dL_law_570 : decode cL_law 570 = .ok (.istore 17, 2) := by decide +kernel
theorem dL_law_572 : decode cL_law 572 = .ok (.aload_n 1, 1) := by decide +kernel
theorem dL_law_573 : decode cL_law 573 = .ok (.iload 16, 2) := by decide +kernel
theorem dL_law_575 : decode cL_law 575 = .ok (.invokevirtual 116, 3) := by decide +kernel
theorem dL_law_578 : decode cL_law 578 = .ok (.aload_n 1, 1) := by decide +kernel
theorem dL_law_579 : decode cL_law 579 = .ok (.iload 15, 2) := by decide +kernel
theorem dL_law_581 : decode cL_law 581 = .ok (.invokevirtual 116, 3) := by decide +kernel
theorem dL_law_584 : decode cL_law 584 = .ok (.isub, 1) := by decide +kernel
theorem dL_law_585 : decode cL_law 585 = .ok (.istore 18, 2) := by decide +kernel
theorem dL_law_587 : decode cL_law 587 = .ok (.iload 17, 2) := by decide +kernel
theorem dL_law_589 : decode cL_law 589 = .ok (.ifCond .lt 25, 3) := by decide +kernel
theorem dL_law_592 : decode cL_law 592 = .ok (.iload 17, 2) := by decide +kernel
theorem dL_law_594 : decode cL_law 594 = .ok (.ifCond .ne 22, 3) := by decide +kernel
theorem dL_law_597 : decode cL_law 597 = .ok (.iload 18, 2) := by decide +kernel
theorem dL_law_599 : decode cL_law 599 = .ok (.ifCond .lt 15, 3) := by decide +kernel
theorem dL_law_602 : decode cL_law 602 = .ok (.iload 18, 2) := by decide +kernel
theorem dL_law_604 : decode cL_law 604 = .ok (.ifCond .ne 12, 3) := by decide +kernel
theorem dL_law_607 : decode cL_law 607 = .ok (.iload 15, 2) := by decide +kernel
theorem dL_law_609 : decode cL_law 609 = .ok (.iload 16, 2) := by decide +kernel
theorem dL_law_611 : decode cL_law 611 = .ok (.if_icmp .le 5, 3) := by decide +kernel
theorem dL_law_614 : decode cL_law 614 = .ok (.iconst 0, 1) := by decide +kernel
theorem dL_law_615 : decode cL_law 615 = .ok (.ireturn, 1) := by decide +kernel
theorem dL_law_616 : decode cL_law 616 = .ok (.iinc 10 1, 3) := by decide +kernel
theorem dL_law_619 : decode cL_law 619 = .ok (.goto (-562), 3) := by decide +kernel
theorem dL_law_622 : decode cL_law 622 = .ok (.aload_n 1, 1) := by decide +kernel
theorem dL_law_623 : decode cL_law 623 = .ok (.iload 7, 2) := by decide +kernel
theorem dL_law_625 : decode cL_law 625 = .ok (.invokevirtual 172, 3) := by decide +kernel
theorem dL_law_628 : decode cL_law 628 = .ok (.istore 10, 2) := by decide +kernel
theorem dL_law_630 : decode cL_law 630 = .ok (.aload_n 1, 1) := by decide +kernel
theorem dL_law_631 : decode cL_law 631 = .ok (.iload 7, 2) := by decide +kernel
theorem dL_law_633 : decode cL_law 633 = .ok (.invokevirtual 175, 3) := by decide +kernel
theorem dL_law_636 : decode cL_law 636 = .ok (.istore 11, 2) := by decide +kernel
theorem dL_law_638 : decode cL_law 638 = .ok (.aload_n 1, 1) := by decide +kernel
theorem dL_law_639 : decode cL_law 639 = .ok (.iload 7, 2) := by decide +kernel
theorem dL_law_641 : decode cL_law 641 = .ok (.invokevirtual 178, 3) := by decide +kernel
theorem dL_law_644 : decode cL_law 644 = .ok (.iload 8, 2) := by decide +kernel
theorem dL_law_646 : decode cL_law 646 = .ok (.if_icmp .ne 97, 3) := by decide +kernel
theorem dL_law_649 : decode cL_law 649 = .ok (.aload_n 1, 1) := by decide +kernel
theorem dL_law_650 : decode cL_law 650 = .ok (.iload 7, 2) := by decide +kernel
theorem dL_law_652 : decode cL_law 652 = .ok (.invokevirtual 181, 3) := by decide +kernel
theorem dL_law_655 : decode cL_law 655 = .ok (.iload 10, 2) := by decide +kernel
theorem dL_law_657 : decode cL_law 657 = .ok (.if_icmp .ne 86, 3) := by decide +kernel
theorem dL_law_660 : decode cL_law 660 = .ok (.iload 10, 2) := by decide +kernel
theorem dL_law_662 : decode cL_law 662 = .ok (.iload 9, 2) := by decide +kernel
theorem dL_law_664 : decode cL_law 664 = .ok (.if_icmp .gt 79, 3) := by decide +kernel
theorem dL_law_667 : decode cL_law 667 = .ok (.iload 10, 2) := by decide +kernel
theorem dL_law_669 : decode cL_law 669 = .ok (.aload_n 1, 1) := by decide +kernel
theorem dL_law_670 : decode cL_law 670 = .ok (.iload 7, 2) := by decide +kernel
theorem dL_law_672 : decode cL_law 672 = .ok (.iconst 1, 1) := by decide +kernel
theorem dL_law_673 : decode cL_law 673 = .ok (.isub, 1) := by decide +kernel
theorem dL_law_674 : decode cL_law 674 = .ok (.invokevirtual 172, 3) := by decide +kernel
theorem dL_law_677 : decode cL_law 677 = .ok (.if_icmp .lt 66, 3) := by decide +kernel
theorem dL_law_680 : decode cL_law 680 = .ok (.iload 11, 2) := by decide +kernel
theorem dL_law_682 : decode cL_law 682 = .ok (.iload 8, 2) := by decide +kernel
theorem dL_law_684 : decode cL_law 684 = .ok (.if_icmp .gt 59, 3) := by decide +kernel
theorem dL_law_687 : decode cL_law 687 = .ok (.iload 11, 2) := by decide +kernel
theorem dL_law_689 : decode cL_law 689 = .ok (.iload 7, 2) := by decide +kernel
theorem dL_law_691 : decode cL_law 691 = .ok (.if_icmp .gt 52, 3) := by decide +kernel
theorem dL_law_694 : decode cL_law 694 = .ok (.iload 11, 2) := by decide +kernel
theorem dL_law_696 : decode cL_law 696 = .ok (.ifCond .ne 7, 3) := by decide +kernel
theorem dL_law_699 : decode cL_law 699 = .ok (.iconst 1, 1) := by decide +kernel
theorem dL_law_700 : decode cL_law 700 = .ok (.goto 4, 3) := by decide +kernel
theorem dL_law_703 : decode cL_law 703 = .ok (.iconst 0, 1) := by decide +kernel
theorem dL_law_704 : decode cL_law 704 = .ok (.iload 10, 2) := by decide +kernel
theorem dL_law_706 : decode cL_law 706 = .ok (.ifCond .ne 7, 3) := by decide +kernel
theorem dL_law_709 : decode cL_law 709 = .ok (.iconst 1, 1) := by decide +kernel
theorem dL_law_710 : decode cL_law 710 = .ok (.goto 4, 3) := by decide +kernel
theorem dL_law_713 : decode cL_law 713 = .ok (.iconst 0, 1) := by decide +kernel
theorem dL_law_714 : decode cL_law 714 = .ok (.if_icmp .ne 29, 3) := by decide +kernel
theorem dL_law_717 : decode cL_law 717 = .ok (.bipush 20, 2) := by decide +kernel
theorem dL_law_719 : decode cL_law 719 = .ok (.iload 11, 2) := by decide +kernel
theorem dL_law_721 : decode cL_law 721 = .ok (.imul, 1) := by decide +kernel
theorem dL_law_722 : decode cL_law 722 = .ok (.iload 10, 2) := by decide +kernel
theorem dL_law_724 : decode cL_law 724 = .ok (.if_icmp .lt 19, 3) := by decide +kernel
theorem dL_law_727 : decode cL_law 727 = .ok (.aload_n 1, 1) := by decide +kernel
theorem dL_law_728 : decode cL_law 728 = .ok (.iconst 0, 1) := by decide +kernel
theorem dL_law_729 : decode cL_law 729 = .ok (.invokevirtual 172, 3) := by decide +kernel
theorem dL_law_732 : decode cL_law 732 = .ok (.ifCond .ne 11, 3) := by decide +kernel
theorem dL_law_735 : decode cL_law 735 = .ok (.aload_n 1, 1) := by decide +kernel
theorem dL_law_736 : decode cL_law 736 = .ok (.iconst 0, 1) := by decide +kernel
theorem dL_law_737 : decode cL_law 737 = .ok (.invokevirtual 175, 3) := by decide +kernel
theorem dL_law_740 : decode cL_law 740 = .ok (.ifCond .eq 5, 3) := by decide +kernel
theorem dL_law_743 : decode cL_law 743 = .ok (.iconst 0, 1) := by decide +kernel
theorem dL_law_744 : decode cL_law 744 = .ok (.ireturn, 1) := by decide +kernel
theorem dL_law_745 : decode cL_law 745 = .ok (.ldc 184, 2) := by decide +kernel
theorem dL_law_747 : decode cL_law 747 = .ok (.astore 12, 2) := by decide +kernel
theorem dL_law_749 : decode cL_law 749 = .ok (.sipush (-1000), 3) := by decide +kernel
theorem dL_law_752 : decode cL_law 752 = .ok (.istore 13, 2) := by decide +kernel
theorem dL_law_754 : decode cL_law 754 = .ok (.iconst 0, 1) := by decide +kernel
theorem dL_law_755 : decode cL_law 755 = .ok (.istore 14, 2) := by decide +kernel
theorem dL_law_757 : decode cL_law 757 = .ok (.iconst 0, 1) := by decide +kernel
theorem dL_law_758 : decode cL_law 758 = .ok (.istore 15, 2) := by decide +kernel
theorem dL_law_760 : decode cL_law 760 = .ok (.iconst 0, 1) := by decide +kernel
theorem dL_law_761 : decode cL_law 761 = .ok (.istore 16, 2) := by decide +kernel
theorem dL_law_763 : decode cL_law 763 = .ok (.iload 16, 2) := by decide +kernel
theorem dL_law_765 : decode cL_law 765 = .ok (.bipush 12, 2) := by decide +kernel
theorem dL_law_767 : decode cL_law 767 = .ok (.if_icmp .ge 80, 3) := by decide +kernel
theorem dL_law_770 : decode cL_law 770 = .ok (.iload 6, 2) := by decide +kernel
theorem dL_law_772 : decode cL_law 772 = .ok (.aload_n 1, 1) := by decide +kernel
theorem dL_law_773 : decode cL_law 773 = .ok (.iload 16, 2) := by decide +kernel
theorem dL_law_775 : decode cL_law 775 = .ok (.invokevirtual 61, 3) := by decide +kernel
theorem dL_law_778 : decode cL_law 778 = .ok (.iadd, 1) := by decide +kernel
theorem dL_law_779 : decode cL_law 779 = .ok (.istore 6, 2) := by decide +kernel
theorem dL_law_781 : decode cL_law 781 = .ok (.iload 5, 2) := by decide +kernel
theorem dL_law_783 : decode cL_law 783 = .ok (.aload_n 1, 1) := by decide +kernel
theorem dL_law_784 : decode cL_law 784 = .ok (.iload 16, 2) := by decide +kernel
theorem dL_law_786 : decode cL_law 786 = .ok (.invokevirtual 61, 3) := by decide +kernel
theorem dL_law_789 : decode cL_law 789 = .ok (.ifCond .le 7, 3) := by decide +kernel
theorem dL_law_792 : decode cL_law 792 = .ok (.iconst 1, 1) := by decide +kernel
theorem dL_law_793 : decode cL_law 793 = .ok (.goto 4, 3) := by decide +kernel
theorem dL_law_796 : decode cL_law 796 = .ok (.iconst 0, 1) := by decide +kernel
theorem dL_law_797 : decode cL_law 797 = .ok (.iadd, 1) := by decide +kernel
theorem dL_law_798 : decode cL_law 798 = .ok (.istore 5, 2) := by decide +kernel
theorem dL_law_800 : decode cL_law 800 = .ok (.new 135, 3) := by decide +kernel
theorem dL_law_803 : decode cL_law 803 = .ok (.dup, 1) := by decide +kernel
theorem dL_law_804 : decode cL_law 804 = .ok (.invokespecial 137, 3) := by decide +kernel
theorem dL_law_807 : decode cL_law 807 = .ok (.aload 12, 2) := by decide +kernel
theorem dL_law_809 : decode cL_law 809 = .ok (.invokevirtual 144, 3) := by decide +kernel
theorem dL_law_812 : decode cL_law 812 = .ok (.iload 16, 2) := by decide +kernel
theorem dL_law_814 : decode cL_law 814 = .ok (.ifCond .le 8, 3) := by decide +kernel
theorem dL_law_817 : decode cL_law 817 = .ok (.ldc 186, 2) := by decide +kernel
theorem dL_law_819 : decode cL_law 819 = .ok (.goto 5, 3) := by decide +kernel
theorem dL_law_822 : decode cL_law 822 = .ok (.ldc 184, 2) := by decide +kernel
theorem dL_law_824 : decode cL_law 824 = .ok (.invokevirtual 144, 3) := by decide +kernel
theorem dL_law_827 : decode cL_law 827 = .ok (.aload_n 1, 1) := by decide +kernel
theorem dL_law_828 : decode cL_law 828 = .ok (.iload 16, 2) := by decide +kernel
theorem dL_law_830 : decode cL_law 830 = .ok (.invokevirtual 61, 3) := by decide +kernel
theorem dL_law_833 : decode cL_law 833 = .ok (.invokevirtual 138, 3) := by decide +kernel
theorem dL_law_836 : decode cL_law 836 = .ok (.invokevirtual 151, 3) := by decide +kernel
theorem dL_law_839 : decode cL_law 839 = .ok (.astore 12, 2) := by decide +kernel
theorem dL_law_841 : decode cL_law 841 = .ok (.iinc 16 1, 3) := by decide +kernel
theorem dL_law_844 : decode cL_law 844 = .ok (.goto (-81), 3) := by decide +kernel
theorem dL_law_847 : decode cL_law 847 = .ok (.iconst 1, 1) := by decide +kernel
theorem dL_law_848 : decode cL_law 848 = .ok (.istore 16, 2) := by decide +kernel
theorem dL_law_850 : decode cL_law 850 = .ok (.iload 16, 2) := by decide +kernel
theorem dL_law_852 : decode cL_law 852 = .ok (.bipush 12, 2) := by decide +kernel
theorem dL_law_854 : decode cL_law 854 = .ok (.if_icmp .gt 110, 3) := by decide +kernel
theorem dL_law_857 : decode cL_law 857 = .ok (.iconst 0, 1) := by decide +kernel
theorem dL_law_858 : decode cL_law 858 = .ok (.istore 17, 2) := by decide +kernel
theorem dL_law_860 : decode cL_law 860 = .ok (.iload 17, 2) := by decide +kernel
theorem dL_law_862 : decode cL_law 862 = .ok (.bipush 12, 2) := by decide +kernel
theorem dL_law_864 : decode cL_law 864 = .ok (.if_icmp .ge 94, 3) := by decide +kernel
theorem dL_law_867 : decode cL_law 867 = .ok (.iconst 0, 1) := by decide +kernel
theorem dL_law_868 : decode cL_law 868 = .ok (.istore 18, 2) := by decide +kernel
theorem dL_law_870 : decode cL_law 870 = .ok (.iconst 0, 1) := by decide +kernel
theorem dL_law_871 : decode cL_law 871 = .ok (.istore 19, 2) := by decide +kernel
theorem dL_law_873 : decode cL_law 873 = .ok (.iload 19, 2) := by decide +kernel
theorem dL_law_875 : decode cL_law 875 = .ok (.iload 16, 2) := by decide +kernel
theorem dL_law_877 : decode cL_law 877 = .ok (.if_icmp .ge 26, 3) := by decide +kernel
theorem dL_law_880 : decode cL_law 880 = .ok (.iload 18, 2) := by decide +kernel
theorem dL_law_882 : decode cL_law 882 = .ok (.aload_n 1, 1) := by decide +kernel
theorem dL_law_883 : decode cL_law 883 = .ok (.iload 17, 2) := by decide +kernel
theorem dL_law_885 : decode cL_law 885 = .ok (.iload 19, 2) := by decide +kernel
theorem dL_law_887 : decode cL_law 887 = .ok (.iadd, 1) := by decide +kernel
theorem dL_law_888 : decode cL_law 888 = .ok (.bipush 12, 2) := by decide +kernel
theorem dL_law_890 : decode cL_law 890 = .ok (.irem, 1) := by decide +kernel
theorem dL_law_891 : decode cL_law 891 = .ok (.invokevirtual 61, 3) := by decide +kernel
theorem dL_law_894 : decode cL_law 894 = .ok (.iadd, 1) := by decide +kernel
theorem dL_law_895 : decode cL_law 895 = .ok (.istore 18, 2) := by decide +kernel
theorem dL_law_897 : decode cL_law 897 = .ok (.iinc 19 1, 3) := by decide +kernel
theorem dL_law_900 : decode cL_law 900 = .ok (.goto (-27), 3) := by decide +kernel
theorem dL_law_903 : decode cL_law 903 = .ok (.iload 18, 2) := by decide +kernel
theorem dL_law_905 : decode cL_law 905 = .ok (.iload 16, 2) := by decide +kernel
theorem dL_law_907 : decode cL_law 907 = .ok (.aload_n 1, 1) := by decide +kernel
theorem dL_law_908 : decode cL_law 908 = .ok (.invokevirtual 188, 3) := by decide +kernel
theorem dL_law_911 : decode cL_law 911 = .ok (.imul, 1) := by decide +kernel
theorem dL_law_912 : decode cL_law 912 = .ok (.isub, 1) := by decide +kernel
theorem dL_law_913 : decode cL_law 913 = .ok (.istore 19, 2) := by decide +kernel
theorem dL_law_915 : decode cL_law 915 = .ok (.aload_n 1, 1) := by decide +kernel
theorem dL_law_916 : decode cL_law 916 = .ok (.iload 17, 2) := by decide +kernel
theorem dL_law_918 : decode cL_law 918 = .ok (.iload 16, 2) := by decide +kernel
theorem dL_law_920 : decode cL_law 920 = .ok (.invokevirtual 191, 3) := by decide +kernel
theorem dL_law_923 : decode cL_law 923 = .ok (.iload 19, 2) := by decide +kernel
theorem dL_law_925 : decode cL_law 925 = .ok (.if_icmp .eq 5, 3) := by decide +kernel
theorem dL_law_928 : decode cL_law 928 = .ok (.iconst 0, 1) := by decide +kernel
theorem dL_law_929 : decode cL_law 929 = .ok (.ireturn, 1) := by decide +kernel
theorem dL_law_930 : decode cL_law 930 = .ok (.iload 19, 2) := by decide +kernel
theorem dL_law_932 : decode cL_law 932 = .ok (.iload 13, 2) := by decide +kernel
theorem dL_law_934 : decode cL_law 934 = .ok (.if_icmp .gt 6, 3) := by decide +kernel
theorem dL_law_937 : decode cL_law 937 = .ok (.goto 15, 3) := by decide +kernel
theorem dL_law_940 : decode cL_law 940 = .ok (.iload 19, 2) := by decide +kernel
theorem dL_law_942 : decode cL_law 942 = .ok (.istore 13, 2) := by decide +kernel
theorem dL_law_944 : decode cL_law 944 = .ok (.iload 16, 2) := by decide +kernel
theorem dL_law_946 : decode cL_law 946 = .ok (.istore 14, 2) := by decide +kernel
theorem dL_law_948 : decode cL_law 948 = .ok (.iload 17, 2) := by decide +kernel
theorem dL_law_950 : decode cL_law 950 = .ok (.istore 15, 2) := by decide +kernel
theorem dL_law_952 : decode cL_law 952 = .ok (.iinc 17 1, 3) := by decide +kernel
theorem dL_law_955 : decode cL_law 955 = .ok (.goto (-95), 3) := by decide +kernel
theorem dL_law_958 : decode cL_law 958 = .ok (.iinc 16 1, 3) := by decide +kernel
theorem dL_law_961 : decode cL_law 961 = .ok (.goto (-111), 3) := by decide +kernel
theorem dL_law_964 : decode cL_law 964 = .ok (.aload_n 1, 1) := by decide +kernel
theorem dL_law_965 : decode cL_law 965 = .ok (.invokevirtual 194, 3) := by decide +kernel
theorem dL_law_968 : decode cL_law 968 = .ok (.iload 13, 2) := by decide +kernel
theorem dL_law_970 : decode cL_law 970 = .ok (.if_icmp .ne 141, 3) := by decide +kernel
theorem dL_law_973 : decode cL_law 973 = .ok (.aload_n 1, 1) := by decide +kernel
theorem dL_law_974 : decode cL_law 974 = .ok (.invokevirtual 197, 3) := by decide +kernel
theorem dL_law_977 : decode cL_law 977 = .ok (.iload 13, 2) := by decide +kernel
theorem dL_law_979 : decode cL_law 979 = .ok (.if_icmp .ne 132, 3) := by decide +kernel
theorem dL_law_982 : decode cL_law 982 = .ok (.aload_n 1, 1) := by decide +kernel
theorem dL_law_983 : decode cL_law 983 = .ok (.invokevirtual 200, 3) := by decide +kernel
theorem dL_law_986 : decode cL_law 986 = .ok (.iload 14, 2) := by decide +kernel
theorem dL_law_988 : decode cL_law 988 = .ok (.if_icmp .ne 123, 3) := by decide +kernel
theorem dL_law_991 : decode cL_law 991 = .ok (.aload_n 1, 1) := by decide +kernel
theorem dL_law_992 : decode cL_law 992 = .ok (.invokevirtual 203, 3) := by decide +kernel
theorem dL_law_995 : decode cL_law 995 = .ok (.iload 15, 2) := by decide +kernel
theorem dL_law_997 : decode cL_law 997 = .ok (.if_icmp .ne 114, 3) := by decide +kernel
theorem dL_law_1000 : decode cL_law 1000 = .ok (.aload_n 1, 1) := by decide +kernel
theorem dL_law_1001 : decode cL_law 1001 = .ok (.invokevirtual 206, 3) := by decide +kernel
theorem dL_law_1004 : decode cL_law 1004 = .ok (.iload 6, 2) := by decide +kernel
theorem dL_law_1006 : decode cL_law 1006 = .ok (.if_icmp .ne 105, 3) := by decide +kernel
theorem dL_law_1009 : decode cL_law 1009 = .ok (.aload_n 1, 1) := by decide +kernel
theorem dL_law_1010 : decode cL_law 1010 = .ok (.invokevirtual 209, 3) := by decide +kernel
theorem dL_law_1013 : decode cL_law 1013 = .ok (.iload 6, 2) := by decide +kernel
theorem dL_law_1015 : decode cL_law 1015 = .ok (.if_icmp .ne 96, 3) := by decide +kernel
theorem dL_law_1018 : decode cL_law 1018 = .ok (.aload_n 1, 1) := by decide +kernel
theorem dL_law_1019 : decode cL_law 1019 = .ok (.aload_n 1, 1) := by decide +kernel
theorem dL_law_1020 : decode cL_law 1020 = .ok (.invokevirtual 212, 3) := by decide +kernel
theorem dL_law_1023 : decode cL_law 1023 = .ok (.aload 12, 2) := by decide +kernel
theorem dL_law_1025 : decode cL_law 1025 = .ok (.invokestatic 155, 3) := by decide +kernel
theorem dL_law_1028 : decode cL_law 1028 = .ok (.ifCond .eq 83, 3) := by decide +kernel
theorem dL_law_1031 : decode cL_law 1031 = .ok (.aload_n 1, 1) := by decide +kernel
theorem dL_law_1032 : decode cL_law 1032 = .ok (.invokevirtual 215, 3) := by decide +kernel
theorem dL_law_1035 : decode cL_law 1035 = .ok (.iload 5, 2) := by decide +kernel
theorem dL_law_1037 : decode cL_law 1037 = .ok (.i2f, 1) := by decide +kernel
theorem dL_law_1038 : decode cL_law 1038 = .ok (.ldc 219, 2) := by decide +kernel
theorem dL_law_1040 : decode cL_law 1040 = .ok (.fdiv, 1) := by decide +kernel
theorem dL_law_1041 : decode cL_law 1041 = .ok (.fcmp .l, 1) := by decide +kernel
theorem dL_law_1042 : decode cL_law 1042 = .ok (.ifCond .ne 69, 3) := by decide +kernel
theorem dL_law_1045 : decode cL_law 1045 = .ok (.iload_n 3, 1) := by decide +kernel
theorem dL_law_1046 : decode cL_law 1046 = .ok (.ifCond .le 17, 3) := by decide +kernel
theorem dL_law_1049 : decode cL_law 1049 = .ok (.aload_n 1, 1) := by decide +kernel
theorem dL_law_1050 : decode cL_law 1050 = .ok (.invokevirtual 220, 3) := by decide +kernel
theorem dL_law_1053 : decode cL_law 1053 = .ok (.iload 4, 2) := by decide +kernel
theorem dL_law_1055 : decode cL_law 1055 = .ok (.i2d, 1) := by decide +kernel
theorem dL_law_1056 : decode cL_law 1056 = .ok (.iload_n 3, 1) := by decide +kernel
theorem dL_law_1057 : decode cL_law 1057 = .ok (.i2d, 1) := by decide +kernel
theorem dL_law_1058 : decode cL_law 1058 = .ok (.ddiv, 1) := by decide +kernel
theorem dL_law_1059 : decode cL_law 1059 = .ok (.dcmp .l, 1) := by decide +kernel
theorem dL_law_1060 : decode cL_law 1060 = .ok (.ifCond .ne 51, 3) := by decide +kernel
theorem dL_law_1063 : decode cL_law 1063 = .ok (.aload_n 1, 1) := by decide +kernel
theorem dL_law_1064 : decode cL_law 1064 = .ok (.invokevirtual 224, 3) := by decide +kernel
theorem dL_law_1067 : decode cL_law 1067 = .ok (.ifCond .lt 44, 3) := by decide +kernel
theorem dL_law_1070 : decode cL_law 1070 = .ok (.aload_n 1, 1) := by decide +kernel
theorem dL_law_1071 : decode cL_law 1071 = .ok (.iload_n 3, 1) := by decide +kernel
theorem dL_law_1072 : decode cL_law 1072 = .ok (.invokestatic 227, 3) := by decide +kernel
theorem dL_law_1075 : decode cL_law 1075 = .ok (.sipush (-25000), 3) := by decide +kernel
theorem dL_law_1078 : decode cL_law 1078 = .ok (.if_icmp .ne 33, 3) := by decide +kernel
theorem dL_law_1081 : decode cL_law 1081 = .ok (.aload_n 1, 1) := by decide +kernel
theorem dL_law_1082 : decode cL_law 1082 = .ok (.iload_n 3, 1) := by decide +kernel
theorem dL_law_1083 : decode cL_law 1083 = .ok (.invokestatic 229, 3) := by decide +kernel
theorem dL_law_1086 : decode cL_law 1086 = .ok (.sipush (-25000), 3) := by decide +kernel
theorem dL_law_1089 : decode cL_law 1089 = .ok (.if_icmp .ne 22, 3) := by decide +kernel
theorem dL_law_1092 : decode cL_law 1092 = .ok (.aload_n 1, 1) := by decide +kernel
theorem dL_law_1093 : decode cL_law 1093 = .ok (.bipush 12, 2) := by decide +kernel
theorem dL_law_1095 : decode cL_law 1095 = .ok (.invokestatic 231, 3) := by decide +kernel
theorem dL_law_1098 : decode cL_law 1098 = .ok (.sipush (-25000), 3) := by decide +kernel
theorem dL_law_1101 : decode cL_law 1101 = .ok (.if_icmp .ne 10, 3) := by decide +kernel
theorem dL_law_1104 : decode cL_law 1104 = .ok (.aload_n 1, 1) := by decide +kernel
theorem dL_law_1105 : decode cL_law 1105 = .ok (.invokevirtual 233, 3) := by decide +kernel
theorem dL_law_1108 : decode cL_law 1108 = .ok (.ifCond .ne 5, 3) := by decide +kernel
theorem dL_law_1111 : decode cL_law 1111 = .ok (.iconst 0, 1) := by decide +kernel
theorem dL_law_1112 : decode cL_law 1112 = .ok (.ireturn, 1) := by decide +kernel
theorem dL_law_1113 : decode cL_law 1113 = .ok (.aload_n 1, 1) := by decide +kernel
theorem dL_law_1114 : decode cL_law 1114 = .ok (.aload_n 0, 1) := by decide +kernel
theorem dL_law_1115 : decode cL_law 1115 = .ok (.bipush 110, 2) := by decide +kernel
theorem dL_law_1117 : decode cL_law 1117 = .ok (.iconst 3, 1) := by decide +kernel
theorem dL_law_1118 : decode cL_law 1118 = .ok (.iload_n 2, 1) := by decide +kernel
theorem dL_law_1119 : decode cL_law 1119 = .ok (.imul, 1) := by decide +kernel
theorem dL_law_1120 : decode cL_law 1120 = .ok (.iadd, 1) := by decide +kernel
theorem dL_law_1121 : decode cL_law 1121 = .ok (.invokestatic 71, 3) := by decide +kernel
theorem dL_law_1124 : decode cL_law 1124 = .ok (.iinc 2 1, 3) := by decide +kernel
theorem dL_law_1127 : decode cL_law 1127 = .ok (.goto (-1112), 3) := by decide +kernel
theorem dL_law_1130 : decode cL_law 1130 = .ok (.iconst 1, 1) := by decide +kernel
theorem dL_law_1131 : decode cL_law 1131 = .ok (.ireturn, 1) := by decide +kernel
