theorem dL_law_0 : decode cL_law 0 = .ok (.new 10, 3) := by decide +kernel
theorem dL_law_3 : decode cL_law 3 = .ok (.dup, 1) := by decide +kernel
theorem dL_law_4 : decode cL_law 4 = .ok (.invokespecial 90, 3) := by decide +kernel
theorem dL_law_7 : decode cL_law 7 = .ok (.astore_n 1, 1) := by decide +kernel
theorem dL_law_8 : decode cL_law 8 = .ok (.bipush 48, 2) := by decide +kernel
theorem dL_law_10 : decode cL_law 10 = .ok (.newarray .int, 2) := by decide +kernel
theorem dL_law_12 : decode cL_law 12 = .ok (.astore_n 2, 1) := by decide +kernel
theorem dL_law_13 : decode cL_law 13 = .ok (.bipush 54, 2) := by decide +kernel
theorem dL_law_15 : decode cL_law 15 = .ok (.newarray .int, 2) := by decide +kernel
theorem dL_law_17 : decode cL_law 17 = .ok (.astore_n 3, 1) := by decide +kernel
theorem dL_law_18 : decode cL_law 18 = .ok (.aload_n 1, 1) := by decide +kernel
theorem dL_law_19 : decode cL_law 19 = .ok (.aload_n 0, 1) := by decide +kernel
theorem dL_law_20 : decode cL_law 20 = .ok (.aload_n 2, 1) := by decide +kernel
theorem dL_law_21 : decode cL_law 21 = .ok (.aload_n 3, 1) := by decide +kernel
theorem dL_law_22 : decode cL_law 22 = .ok (.invokestatic 91, 3) := by decide +kernel
theorem dL_law_25 : decode cL_law 25 = .ok (.ifCond .ne 5, 3) := by decide +kernel
theorem dL_law_28 : decode cL_law 28 = .ok (.iconst 0, 1) := by decide +kernel
theorem dL_law_29 : decode cL_law 29 = .ok (.ireturn, 1) := by decide +kernel
theorem dL_law_30 : decode cL_law 30 = .ok (.iconst 0, 1) := by decide +kernel
theorem dL_law_31 : decode cL_law 31 = .ok (.istore 4, 2) := by decide +kernel
theorem dL_law_33 : decode cL_law 33 = .ok (.iload 4, 2) := by decide +kernel
theorem dL_law_35 : decode cL_law 35 = .ok (.bipush 6, 2) := by decide +kernel
theorem dL_law_37 : decode cL_law 37 = .ok (.if_icmp .ge 1591, 3) := by decide +kernel
theorem dL_law_40 : decode cL_law 40 = .ok (.aload_n 0, 1) := by decide +kernel
theorem dL_law_41 : decode cL_law 41 = .ok (.bipush 25, 2) := by decide +kernel
theorem dL_law_43 : decode cL_law 43 = .ok (.iload 4, 2) := by decide +kernel
theorem dL_law_45 : decode cL_law 45 = .ok (.iadd, 1) := by decide +kernel
theorem dL_law_46 : decode cL_law 46 = .ok (.invokestatic 21, 3) := by decide +kernel
theorem dL_law_49 : decode cL_law 49 = .ok (.istore 5, 2) := by decide +kernel
theorem dL_law_51 : decode cL_law 51 = .ok (.aload_n 1, 1) := by decide +kernel
theorem dL_law_52 : decode cL_law 52 = .ok (.iconst 0, 1) := by decide +kernel
theorem dL_law_53 : decode cL_law 53 = .ok (.invokevirtual 47, 3) := by decide +kernel
theorem dL_law_56 : decode cL_law 56 = .ok (.istore 6, 2) := by decide +kernel
theorem dL_law_58 : decode cL_law 58 = .ok (.aload_n 1, 1) := by decide +kernel
theorem dL_law_59 : decode cL_law 59 = .ok (.iconst 1, 1) := by decide +kernel
theorem dL_law_60 : decode cL_law 60 = .ok (.invokevirtual 47, 3) := by decide +kernel
theorem dL_law_63 : decode cL_law 63 = .ok (.istore 7, 2) := by decide +kernel
theorem dL_law_65 : decode cL_law 65 = .ok (.aload_n 1, 1) := by decide +kernel
theorem dL_law_66 : decode cL_law 66 = .ok (.iconst 2, 1) := by decide +kernel
theorem dL_law_67 : decode cL_law 67 = .ok (.invokevirtual 47, 3) := by decide +kernel
theorem dL_law_70 : decode cL_law 70 = .ok (.istore 8, 2) := by decide +kernel
theorem dL_law_72 : decode cL_law 72 = .ok (.aload_n 1, 1) := by decide +kernel
theorem dL_law_73 : decode cL_law 73 = .ok (.bipush 6, 2) := by decide +kernel
theorem dL_law_75 : decode cL_law 75 = .ok (.invokevirtual 47, 3) := by decide +kernel
theorem dL_law_78 : decode cL_law 78 = .ok (.istore 9, 2) := by decide +kernel
theorem dL_law_80 : decode cL_law 80 = .ok (.aload_n 1, 1) := by decide +kernel
theorem dL_law_81 : decode cL_law 81 = .ok (.iconst 4, 1) := by decide +kernel
theorem dL_law_82 : decode cL_law 82 = .ok (.invokevirtual 47, 3) := by decide +kernel
theorem dL_law_85 : decode cL_law 85 = .ok (.istore 10, 2) := by decide +kernel
theorem dL_law_87 : decode cL_law 87 = .ok (.iload 6, 2) := by decide +kernel
theorem dL_law_89 : decode cL_law 89 = .ok (.ifCond .le 21, 3) := by decide +kernel
theorem dL_law_92 : decode cL_law 92 = .ok (.iload 7, 2) := by decide +kernel
theorem dL_law_94 : decode cL_law 94 = .ok (.ifCond .le 16, 3) := by decide +kernel
theorem dL_law_97 : decode cL_law 97 = .ok (.aload_n 1, 1) := by decide +kernel
theorem dL_law_98 : decode cL_law 98 = .ok (.aload_n 2, 1) := by decide +kernel
theorem dL_law_99 : decode cL_law 99 = .ok (.aload_n 3, 1) := by decide +kernel
theorem dL_law_100 : decode cL_law 100 = .ok (.invokestatic 95, 3) := by decide +kernel
theorem dL_law_103 : decode cL_law 103 = .ok (.ifCond .eq 7, 3) := by decide +kernel
theorem dL_law_106 : decode cL_law 106 = .ok (.iconst 1, 1) := by decide +kernel
theorem dL_law_107 : decode cL_law 107 = .ok (.goto 4, 3) := by decide +kernel
theorem dL_law_110 : decode cL_law 110 = .ok (.iconst 0, 1) := by decide +kernel
theorem dL_law_111 : decode cL_law 111 = .ok (.istore 11, 2) := by decide +kernel
theorem dL_law_113 : decode cL_law 113 = .ok (.iconst 0, 1) := by decide +kernel
theorem dL_law_114 : decode cL_law 114 = .ok (.istore 12, 2) := by decide +kernel
theorem dL_law_116 : decode cL_law 116 = .ok (.iconst 0, 1) := by decide +kernel
theorem dL_law_117 : decode cL_law 117 = .ok (.istore 13, 2) := by decide +kernel
theorem dL_law_119 : decode cL_law 119 = .ok (.iconst 0, 1) := by decide +kernel
theorem dL_law_120 : decode cL_law 120 = .ok (.istore 14, 2) := by decide +kernel
theorem dL_law_122 : decode cL_law 122 = .ok (.iload 14, 2) := by decide +kernel
theorem dL_law_124 : decode cL_law 124 = .ok (.iload 6, 2) := by decide +kernel
theorem dL_law_126 : decode cL_law 126 = .ok (.if_icmp .ge 395, 3) := by decide +kernel
theorem dL_law_129 : decode cL_law 129 = .ok (.aload_n 1, 1) := by decide +kernel
theorem dL_law_130 : decode cL_law 130 = .ok (.iconst 0, 1) := by decide +kernel
theorem dL_law_131 : decode cL_law 131 = .ok (.iload 14, 2) := by decide +kernel
theorem dL_law_133 : decode cL_law 133 = .ok (.invokevirtual 99, 3) := by decide +kernel
theorem dL_law_136 : decode cL_law 136 = .ok (.istore 15, 2) := by decide +kernel
theorem dL_law_138 : decode cL_law 138 = .ok (.iload 12, 2) := by decide +kernel
theorem dL_law_140 : decode cL_law 140 = .ok (.iload 15, 2) := by decide +kernel
theorem dL_law_142 : decode cL_law 142 = .ok (.ifCond .lt 7, 3) := by decide +kernel
theorem dL_law_145 : decode cL_law 145 = .ok (.iconst 1, 1) := by decide +kernel
theorem dL_law_146 : decode cL_law 146 = .ok (.goto 4, 3) := by decide +kernel
theorem dL_law_149 : decode cL_law 149 = .ok (.iconst 0, 1) := by decide +kernel
theorem dL_law_150 : decode cL_law 150 = .ok (.iadd, 1) := by decide +kernel
theorem dL_law_151 : decode cL_law 151 = .ok (.istore 12, 2) := by decide +kernel
theorem dL_law_153 : decode cL_law 153 = .ok (.iload 13, 2) := by decide +kernel
theorem dL_law_155 : decode cL_law 155 = .ok (.iload 15, 2) := by decide +kernel
theorem dL_law_157 : decode cL_law 157 = .ok (.ifCond .lt 7, 3) := by decide +kernel
theorem dL_law_160 : decode cL_law 160 = .ok (.iconst 0, 1) := by decide +kernel
theorem dL_law_161 : decode cL_law 161 = .ok (.goto 7, 3) := by decide +kernel
theorem dL_law_164 : decode cL_law 164 = .ok (.iconst 1, 1) := by decide +kernel
theorem dL_law_165 : decode cL_law 165 = .ok (.iload 14, 2) := by decide +kernel
theorem dL_law_167 : decode cL_law 167 = .ok (.ishl, 1) := by decide +kernel
theorem dL_law_168 : decode cL_law 168 = .ok (.ior, 1) := by decide +kernel
theorem dL_law_169 : decode cL_law 169 = .ok (.istore 13, 2) := by decide +kernel
theorem dL_law_171 : decode cL_law 171 = .ok (.iload 11, 2) := by decide +kernel
theorem dL_law_173 : decode cL_law 173 = .ok (.ifCond .eq 76, 3) := by decide +kernel
theorem dL_law_176 : decode cL_law 176 = .ok (.aload_n 1, 1) := by decide +kernel
theorem dL_law_177 : decode cL_law 177 = .ok (.iconst 0, 1) := by decide +kernel
theorem dL_law_178 : decode cL_law 178 = .ok (.iload 14, 2) := by decide +kernel
theorem dL_law_180 : decode cL_law 180 = .ok (.iconst 3, 1) := by decide +kernel
theorem dL_law_181 : decode cL_law 181 = .ok (.invokevirtual 50, 3) := by decide +kernel
theorem dL_law_184 : decode cL_law 184 = .ok (.ifCond .lt 65, 3) := by decide +kernel
theorem dL_law_187 : decode cL_law 187 = .ok (.aload_n 1, 1) := by decide +kernel
theorem dL_law_188 : decode cL_law 188 = .ok (.iconst 0, 1) := by decide +kernel
theorem dL_law_189 : decode cL_law 189 = .ok (.iload 14, 2) := by decide +kernel
theorem dL_law_191 : decode cL_law 191 = .ok (.iconst 3, 1) := by decide +kernel
theorem dL_law_192 : decode cL_law 192 = .ok (.invokevirtual 50, 3) := by decide +kernel
theorem dL_law_195 : decode cL_law 195 = .ok (.bipush 20, 2) := by decide +kernel
theorem dL_law_197 : decode cL_law 197 = .ok (.if_icmp .gt 52, 3) := by decide +kernel
theorem dL_law_200 : decode cL_law 200 = .ok (.iload 15, 2) := by decide +kernel
theorem dL_law_202 : decode cL_law 202 = .ok (.ifCond .ge 13, 3) := by decide +kernel
theorem dL_law_205 : decode cL_law 205 = .ok (.iload 15, 2) := by decide +kernel
theorem dL_law_207 : decode cL_law 207 = .ok (.bipush (-4), 2) := by decide +kernel
theorem dL_law_209 : decode cL_law 209 = .ok (.if_icmp .ne 40, 3) := by decide +kernel
theorem dL_law_212 : decode cL_law 212 = .ok (.goto 33, 3) := by decide +kernel
theorem dL_law_215 : decode cL_law 215 = .ok (.iload 15, 2) := by decide +kernel
theorem dL_law_217 : decode cL_law 217 = .ok (.iload 7, 2) := by decide +kernel
theorem dL_law_219 : decode cL_law 219 = .ok (.if_icmp .ge 30, 3) := by decide +kernel
theorem dL_law_222 : decode cL_law 222 = .ok (.aload_n 1, 1) := by decide +kernel
theorem dL_law_223 : decode cL_law 223 = .ok (.iconst 1, 1) := by decide +kernel
theorem dL_law_224 : decode cL_law 224 = .ok (.iload 15, 2) := by decide +kernel
theorem dL_law_226 : decode cL_law 226 = .ok (.invokevirtual 99, 3) := by decide +kernel
theorem dL_law_229 : decode cL_law 229 = .ok (.iload 14, 2) := by decide +kernel
theorem dL_law_231 : decode cL_law 231 = .ok (.if_icmp .ne 18, 3) := by decide +kernel
theorem dL_law_234 : decode cL_law 234 = .ok (.aload_n 1, 1) := by decide +kernel
theorem dL_law_235 : decode cL_law 235 = .ok (.iload 14, 2) := by decide +kernel
theorem dL_law_237 : decode cL_law 237 = .ok (.iload 15, 2) := by decide +kernel
theorem dL_law_239 : decode cL_law 239 = .ok (.invokevirtual 102, 3) := by decide +kernel
theorem dL_law_242 : decode cL_law 242 = .ok (.ifCond .le 7, 3) := by decide +kernel
theorem dL_law_245 : decode cL_law 245 = .ok (.iconst 1, 1) := by decide +kernel
theorem dL_law_246 : decode cL_law 246 = .ok (.goto 4, 3) := by decide +kernel
theorem dL_law_249 : decode cL_law 249 = .ok (.iconst 0, 1) := by decide +kernel
theorem dL_law_250 : decode cL_law 250 = .ok (.istore 11, 2) := by decide +kernel
theorem dL_law_252 : decode cL_law 252 = .ok (.iconst 0, 1) := by decide +kernel
theorem dL_law_253 : decode cL_law 253 = .ok (.istore 16, 2) := by decide +kernel
theorem dL_law_255 : decode cL_law 255 = .ok (.iload 16, 2) := by decide +kernel
theorem dL_law_257 : decode cL_law 257 = .ok (.iload 7, 2) := by decide +kernel
theorem dL_law_259 : decode cL_law 259 = .ok (.if_icmp .ge 140, 3) := by decide +kernel
theorem dL_law_262 : decode cL_law 262 = .ok (.aload_n 1, 1) := by decide +kernel
theorem dL_law_263 : decode cL_law 263 = .ok (.iload 14, 2) := by decide +kernel
theorem dL_law_265 : decode cL_law 265 = .ok (.iload 16, 2) := by decide +kernel
theorem dL_law_267 : decode cL_law 267 = .ok (.invokevirtual 102, 3) := by decide +kernel
theorem dL_law_270 : decode cL_law 270 = .ok (.istore 17, 2) := by decide +kernel
theorem dL_law_272 : decode cL_law 272 = .ok (.aload_n 1, 1) := by decide +kernel
theorem dL_law_273 : decode cL_law 273 = .ok (.iconst 0, 1) := by decide +kernel
theorem dL_law_274 : decode cL_law 274 = .ok (.iload 14, 2) := by decide +kernel
theorem dL_law_276 : decode cL_law 276 = .ok (.iconst 3, 1) := by decide +kernel
theorem dL_law_277 : decode cL_law 277 = .ok (.invokevirtual 50, 3) := by decide +kernel
theorem dL_law_280 : decode cL_law 280 = .ok (.istore 18, 2) := by decide +kernel
theorem dL_law_282 : decode cL_law 282 = .ok (.aload_n 1, 1) := by decide +kernel
theorem dL_law_283 : decode cL_law 283 = .ok (.iconst 1, 1) := by decide +kernel
theorem dL_law_284 : decode cL_law 284 = .ok (.iload 16, 2) := by decide +kernel
theorem dL_law_286 : decode cL_law 286 = .ok (.iconst 3, 1) := by decide +kernel
theorem dL_law_287 : decode cL_law 287 = .ok (.invokevirtual 50, 3) := by decide +kernel
theorem dL_law_290 : decode cL_law 290 = .ok (.istore 19, 2) := by decide +kernel
theorem dL_law_292 : decode cL_law 292 = .ok (.iload 18, 2) := by decide +kernel
theorem dL_law_294 : decode cL_law 294 = .ok (.iload 19, 2) := by decide +kernel
theorem dL_law_296 : decode cL_law 296 = .ok (.if_icmp .ge 8, 3) := by decide +kernel
theorem dL_law_299 : decode cL_law 299 = .ok (.iload 18, 2) := by decide +kernel
theorem dL_law_301 : decode cL_law 301 = .ok (.goto 5, 3) := by decide +kernel
theorem dL_law_304 : decode cL_law 304 = .ok (.iload 19, 2) := by decide +kernel
theorem dL_law_306 : decode cL_law 306 = .ok (.istore 20, 2) := by decide +kernel
theorem dL_law_308 : decode cL_law 308 = .ok (.iload 11, 2) := by decide +kernel
theorem dL_law_310 : decode cL_law 310 = .ok (.ifCond .eq 80, 3) := by decide +kernel
theorem dL_law_313 : decode cL_law 313 = .ok (.iload 17, 2) := by decide +kernel
theorem dL_law_315 : decode cL_law 315 = .ok (.bipush (-4), 2) := by decide +kernel
theorem dL_law_317 : decode cL_law 317 = .ok (.if_icmp .ne 7, 3) := by decide +kernel
theorem dL_law_320 : decode cL_law 320 = .ok (.iconst 1, 1) := by decide +kernel
theorem dL_law_321 : decode cL_law 321 = .ok (.goto 4, 3) := by decide +kernel
theorem dL_law_324 : decode cL_law 324 = .ok (.iconst 0, 1) := by decide +kernel
theorem dL_law_325 : decode cL_law 325 = .ok (.aload_n 2, 1) := by decide +kernel
theorem dL_law_326 : decode cL_law 326 = .ok (.iload 14, 2) := by decide +kernel
theorem dL_law_328 : decode cL_law 328 = .ok (.bipush 8, 2) := by decide +kernel
theorem dL_law_330 : decode cL_law 330 = .ok (.iload 16, 2) := by decide +kernel
theorem dL_law_332 : decode cL_law 332 = .ok (.iadd, 1) := by decide +kernel
theorem dL_law_333 : decode cL_law 333 = .ok (.invokestatic 86, 3) := by decide +kernel
theorem dL_law_336 : decode cL_law 336 = .ok (.iload 20, 2) := by decide +kernel
theorem dL_law_338 : decode cL_law 338 = .ok (.iload 20, 2) := by decide +kernel
theorem dL_law_340 : decode cL_law 340 = .ok (.imul, 1) := by decide +kernel
theorem dL_law_341 : decode cL_law 341 = .ok (.if_icmp .le 7, 3) := by decide +kernel
theorem dL_law_344 : decode cL_law 344 = .ok (.iconst 1, 1) := by decide +kernel
theorem dL_law_345 : decode cL_law 345 = .ok (.goto 4, 3) := by decide +kernel
theorem dL_law_348 : decode cL_law 348 = .ok (.iconst 0, 1) := by decide +kernel
theorem dL_law_349 : decode cL_law 349 = .ok (.if_icmp .ne 41, 3) := by decide +kernel
theorem dL_law_352 : decode cL_law 352 = .ok (.iload 17, 2) := by decide +kernel
theorem dL_law_354 : decode cL_law 354 = .ok (.bipush (-4), 2) := by decide +kernel
theorem dL_law_356 : decode cL_law 356 = .ok (.if_icmp .eq 8, 3) := by decide +kernel
theorem dL_law_359 : decode cL_law 359 = .ok (.iload 17, 2) := by decide +kernel
theorem dL_law_361 : decode cL_law 361 = .ok (.ifCond .le 29, 3) := by decide +kernel
theorem dL_law_364 : decode cL_law 364 = .ok (.iload 17, 2) := by decide +kernel
theorem dL_law_366 : decode cL_law 366 = .ok (.bipush (-4), 2) := by decide +kernel
theorem dL_law_368 : decode cL_law 368 = .ok (.if_icmp .eq 18, 3) := by decide +kernel
theorem dL_law_371 : decode cL_law 371 = .ok (.iload 15, 2) := by decide +kernel
theorem dL_law_373 : decode cL_law 373 = .ok (.ifCond .ge 13, 3) := by decide +kernel
theorem dL_law_376 : decode cL_law 376 = .ok (.aload_n 1, 1) := by decide +kernel
theorem dL_law_377 : decode cL_law 377 = .ok (.iconst 1, 1) := by decide +kernel
theorem dL_law_378 : decode cL_law 378 = .ok (.iload 16, 2) := by decide +kernel
theorem dL_law_380 : decode cL_law 380 = .ok (.invokevirtual 99, 3) := by decide +kernel
theorem dL_law_383 : decode cL_law 383 = .ok (.ifCond .lt 7, 3) := by decide +kernel
theorem dL_law_386 : decode cL_law 386 = .ok (.iconst 1, 1) := by decide +kernel
theorem dL_law_387 : decode cL_law 387 = .ok (.goto 4, 3) := by decide +kernel
theorem dL_law_390 : decode cL_law 390 = .ok (.iconst 0, 1) := by decide +kernel
theorem dL_law_391 : decode cL_law 391 = .ok (.istore 11, 2) := by decide +kernel
theorem dL_law_393 : decode cL_law 393 = .ok (.iinc 16 1, 3) := by decide +kernel
theorem dL_law_396 : decode cL_law 396 = .ok (.goto (-141), 3) := by decide +kernel
theorem dL_law_399 : decode cL_law 399 = .ok (.iload 15, 2) := by decide +kernel
theorem dL_law_401 : decode cL_law 401 = .ok (.ifCond .lt 82, 3) := by decide +kernel
theorem dL_law_404 : decode cL_law 404 = .ok (.iload 11, 2) := by decide +kernel
theorem dL_law_406 : decode cL_law 406 = .ok (.ifCond .eq 71, 3) := by decide +kernel
theorem dL_law_409 : decode cL_law 409 = .ok (.aload_n 1, 1) := by decide +kernel
theorem dL_law_410 : decode cL_law 410 = .ok (.iload 14, 2) := by decide +kernel
theorem dL_law_412 : decode cL_law 412 = .ok (.iconst 0, 1) := by decide +kernel
theorem dL_law_413 : decode cL_law 413 = .ok (.invokevirtual 105, 3) := by decide +kernel
theorem dL_law_416 : decode cL_law 416 = .ok (.ldc 108, 2) := by decide +kernel
theorem dL_law_418 : decode cL_law 418 = .ok (.aload_n 1, 1) := by decide +kernel
theorem dL_law_419 : decode cL_law 419 = .ok (.iconst 1, 1) := by decide +kernel
theorem dL_law_420 : decode cL_law 420 = .ok (.iload 15, 2) := by decide +kernel
theorem dL_law_422 : decode cL_law 422 = .ok (.iconst 1, 1) := by decide +kernel
theorem dL_law_423 : decode cL_law 423 = .ok (.invokevirtual 50, 3) := by decide +kernel
theorem dL_law_426 : decode cL_law 426 = .ok (.iadd, 1) := by decide +kernel
theorem dL_law_427 : decode cL_law 427 = .ok (.if_icmp .ne 50, 3) := by decide +kernel
theorem dL_law_430 : decode cL_law 430 = .ok (.aload_n 1, 1) := by decide +kernel
theorem dL_law_431 : decode cL_law 431 = .ok (.iload 14, 2) := by decide +kernel
theorem dL_law_433 : decode cL_law 433 = .ok (.iconst 1, 1) := by decide +kernel
theorem dL_law_434 : decode cL_law 434 = .ok (.invokevirtual 105, 3) := by decide +kernel
theorem dL_law_437 : decode cL_law 437 = .ok (.iconst 1, 1) := by decide +kernel
theorem dL_law_438 : decode cL_law 438 = .ok (.if_icmp .ne 39, 3) := by decide +kernel
theorem dL_law_441 : decode cL_law 441 = .ok (.aload_n 1, 1) := by decide +kernel
theorem dL_law_442 : decode cL_law 442 = .ok (.iload 14, 2) := by decide +kernel
theorem dL_law_444 : decode cL_law 444 = .ok (.iconst 2, 1) := by decide +kernel
theorem dL_law_445 : decode cL_law 445 = .ok (.invokevirtual 105, 3) := by decide +kernel
theorem dL_law_448 : decode cL_law 448 = .ok (.ldc 108, 2) := by decide +kernel
theorem dL_law_450 : decode cL_law 450 = .ok (.aload_n 1, 1) := by decide +kernel
theorem dL_law_451 : decode cL_law 451 = .ok (.iconst 1, 1) := by decide +kernel
theorem dL_law_452 : decode cL_law 452 = .ok (.iload 15, 2) := by decide +kernel
theorem dL_law_454 : decode cL_law 454 = .ok (.iconst 2, 1) := by decide +kernel
theorem dL_law_455 : decode cL_law 455 = .ok (.invokevirtual 50, 3) := by decide +kernel
theorem dL_law_458 : decode cL_law 458 = .ok (.iadd, 1) := by decide +kernel
theorem dL_law_459 : decode cL_law 459 = .ok (.if_icmp .ne 18, 3) := by decide +kernel
theorem dL_law_462 : decode cL_law 462 = .ok (.aload_n 1, 1) := by decide +kernel
theorem dL_law_463 : decode cL_law 463 = .ok (.iload 14, 2) := by decide +kernel
theorem dL_law_465 : decode cL_law 465 = .ok (.iconst 3, 1) := by decide +kernel
theorem dL_law_466 : decode cL_law 466 = .ok (.invokevirtual 105, 3) := by decide +kernel
theorem dL_law_469 : decode cL_law 469 = .ok (.iconst 1, 1) := by decide +kernel
theorem dL_law_470 : decode cL_law 470 = .ok (.if_icmp .ne 7, 3) := by decide +kernel
theorem dL_law_473 : decode cL_law 473 = .ok (.iconst 1, 1) := by decide +kernel
theorem dL_law_474 : decode cL_law 474 = .ok (.goto 4, 3) := by decide +kernel
theorem dL_law_477 : decode cL_law 477 = .ok (.iconst 0, 1) := by decide +kernel
theorem dL_law_478 : decode cL_law 478 = .ok (.istore 11, 2) := by decide +kernel
theorem dL_law_480 : decode cL_law 480 = .ok (.goto 35, 3) := by decide +kernel
theorem dL_law_483 : decode cL_law 483 = .ok (.iload 11, 2) := by decide +kernel
theorem dL_law_485 : decode cL_law 485 = .ok (.ifCond .eq 27, 3) := by decide +kernel
theorem dL_law_488 : decode cL_law 488 = .ok (.aload_n 1, 1) := by decide +kernel
theorem dL_law_489 : decode cL_law 489 = .ok (.iload 14, 2) := by decide +kernel
theorem dL_law_491 : decode cL_law 491 = .ok (.iconst 1, 1) := by decide +kernel
theorem dL_law_492 : decode cL_law 492 = .ok (.invokevirtual 105, 3) := by decide +kernel
theorem dL_law_495 : decode cL_law 495 = .ok (.ifCond .le 17, 3) := by decide +kernel
theorem dL_law_498 : decode cL_law 498 = .ok (.aload_n 1, 1) := by decide +kernel
theorem dL_law_499 : decode cL_law 499 = .ok (.iload 14, 2) := by decide +kernel
theorem dL_law_501 : decode cL_law 501 = .ok (.iconst 3, 1) := by decide +kernel
theorem dL_law_502 : decode cL_law 502 = .ok (.invokevirtual 105, 3) := by decide +kernel
theorem dL_law_505 : decode cL_law 505 = .ok (.ifCond .le 7, 3) := by decide +kernel
theorem dL_law_508 : decode cL_law 508 = .ok (.iconst 1, 1) := by decide +kernel
theorem dL_law_509 : decode cL_law 509 = .ok (.goto 4, 3) := by decide +kernel
theorem dL_law_512 : decode cL_law 512 = .ok (.iconst 0, 1) := by decide +kernel
theorem dL_law_513 : decode cL_law 513 = .ok (.istore 11, 2) := by decide +kernel
theorem dL_law_515 : decode cL_law 515 = .ok (.iinc 14 1, 3) := by decide +kernel
theorem dL_law_518 : decode cL_law 518 = .ok (.goto (-396), 3) := by decide +kernel
theorem dL_law_521 : decode cL_law 521 = .ok (.iconst 0, 1) := by decide +kernel
theorem dL_law_522 : decode cL_law 522 = .ok (.istore 14, 2) := by decide +kernel
theorem dL_law_524 : decode cL_law 524 = .ok (.iconst 0, 1) := by decide +kernel
theorem dL_law_525 : decode cL_law 525 = .ok (.istore 15, 2) := by decide +kernel
theorem dL_law_527 : decode cL_law 527 = .ok (.iload 15, 2) := by decide +kernel
theorem dL_law_529 : decode cL_law 529 = .ok (.iload 7, 2) := by decide +kernel
theorem dL_law_531 : decode cL_law 531 = .ok (.if_icmp .ge 29, 3) := by decide +kernel
theorem dL_law_534 : decode cL_law 534 = .ok (.iload 14, 2) := by decide +kernel
theorem dL_law_536 : decode cL_law 536 = .ok (.aload_n 1, 1) := by decide +kernel
theorem dL_law_537 : decode cL_law 537 = .ok (.iconst 1, 1) := by decide +kernel
theorem dL_law_538 : decode cL_law 538 = .ok (.iload 15, 2) := by decide +kernel
theorem dL_law_540 : decode cL_law 540 = .ok (.invokevirtual 99, 3) := by decide +kernel
theorem dL_law_543 : decode cL_law 543 = .ok (.ifCond .lt 7, 3) := by decide +kernel
theorem dL_law_546 : decode cL_law 546 = .ok (.iconst 1, 1) := by decide +kernel
theorem dL_law_547 : decode cL_law 547 = .ok (.goto 4, 3) := by decide +kernel
theorem dL_law_550 : decode cL_law 550 = .ok (.iconst 0, 1) := by decide +kernel
theorem dL_law_551 : decode cL_law 551 = .ok (.iadd, 1) := by decide +kernel
theorem dL_law_552 : decode cL_law 552 = .ok (.istore 14, 2) := by decide +kernel
theorem dL_law_554 : decode cL_law 554 = .ok (.iinc 15 1, 3) := by decide +kernel
theorem dL_law_557 : decode cL_law 557 = .ok (.goto (-30), 3) := by decide +kernel
theorem dL_law_560 : decode cL_law 560 = .ok (.iload 11, 2) := by decide +kernel
theorem dL_law_562 : decode cL_law 562 = .ok (.ifCond .eq 59, 3) := by decide +kernel
theorem dL_law_565 : decode cL_law 565 = .ok (.iload 12, 2) := by decide +kernel
theorem dL_law_567 : decode cL_law 567 = .ok (.iload 14, 2) := by decide +kernel
theorem dL_law_569 : decode cL_law 569 = .ok (.if_icmp .ne 52, 3) := by decide +kernel
theorem dL_law_572 : decode cL_law 572 = .ok (.aload_n 1, 1) := by decide +kernel
theorem dL_law_573 : decode cL_law 573 = .ok (.iconst 0, 1) := by decide +kernel
theorem dL_law_574 : decode cL_law 574 = .ok (.invokevirtual 109, 3) := by decide +kernel
theorem dL_law_577 : decode cL_law 577 = .ok (.iload 12, 2) := by decide +kernel
theorem dL_law_579 : decode cL_law 579 = .ok (.if_icmp .ne 42, 3) := by decide +kernel
theorem dL_law_582 : decode cL_law 582 = .ok (.aload_n 1, 1) := by decide +kernel
theorem dL_law_583 : decode cL_law 583 = .ok (.iconst 3, 1) := by decide +kernel
theorem dL_law_584 : decode cL_law 584 = .ok (.invokevirtual 109, 3) := by decide +kernel
theorem dL_law_587 : decode cL_law 587 = .ok (.iload 13, 2) := by decide +kernel
theorem dL_law_589 : decode cL_law 589 = .ok (.if_icmp .ne 32, 3) := by decide +kernel
theorem dL_law_592 : decode cL_law 592 = .ok (.aload_n 1, 1) := by decide +kernel
theorem dL_law_593 : decode cL_law 593 = .ok (.iconst 1, 1) := by decide +kernel
theorem dL_law_594 : decode cL_law 594 = .ok (.invokevirtual 109, 3) := by decide +kernel
theorem dL_law_597 : decode cL_law 597 = .ok (.ifCond .lt 24, 3) := by decide +kernel
theorem dL_law_600 : decode cL_law 600 = .ok (.aload_n 1, 1) := by decide +kernel
theorem dL_law_601 : decode cL_law 601 = .ok (.iconst 2, 1) := by decide +kernel
theorem dL_law_602 : decode cL_law 602 = .ok (.invokevirtual 109, 3) := by decide +kernel
theorem dL_law_605 : decode cL_law 605 = .ok (.ifCond .lt 16, 3) := by decide +kernel
theorem dL_law_608 : decode cL_law 608 = .ok (.aload_n 1, 1) := by decide +kernel
theorem dL_law_609 : decode cL_law 609 = .ok (.iconst 2, 1) := by decide +kernel
theorem dL_law_610 : decode cL_law 610 = .ok (.invokevirtual 109, 3) := by decide +kernel
theorem dL_law_613 : decode cL_law 613 = .ok (.iconst 2, 1) := by decide +kernel
theorem dL_law_614 : decode cL_law 614 = .ok (.if_icmp .ge 7, 3) := by decide +kernel
theorem dL_law_617 : decode cL_law 617 = .ok (.iconst 1, 1) := by decide +kernel
theorem dL_law_618 : decode cL_law 618 = .ok (.goto 4, 3) := by decide +kernel
theorem dL_law_621 : decode cL_law 621 = .ok (.iconst 0, 1) := by decide +kernel
theorem dL_law_622 : decode cL_law 622 = .ok (.istore 11, 2) := by decide +kernel
theorem dL_law_624 : decode cL_law 624 = .ok (.iconst 0, 1) := by decide +kernel
theorem dL_law_625 : decode cL_law 625 = .ok (.istore 15, 2) := by decide +kernel
theorem dL_law_627 : decode cL_law 627 = .ok (.iconst 0, 1) := by decide +kernel
theorem dL_law_628 : decode cL_law 628 = .ok (.istore 16, 2) := by decide +kernel
theorem dL_law_630 : decode cL_law 630 = .ok (.iload 16, 2) := by decide +kernel
theorem dL_law_632 : decode cL_law 632 = .ok (.iload 8, 2) := by decide +kernel
theorem dL_law_634 : decode cL_law 634 = .ok (.if_icmp .ge 351, 3) := by decide +kernel
theorem dL_law_637 : decode cL_law 637 = .ok (.aload_n 1, 1) := by decide +kernel
theorem dL_law_638 : decode cL_law 638 = .ok (.iconst 0, 1) := by decide +kernel
theorem dL_law_639 : decode cL_law 639 = .ok (.aload_n 1, 1) := by decide +kernel
theorem dL_law_640 : decode cL_law 640 = .ok (.iconst 0, 1) := by decide +kernel
theorem dL_law_641 : decode cL_law 641 = .ok (.iload 16, 2) := by decide +kernel
theorem dL_law_643 : decode cL_law 643 = .ok (.iconst 0, 1) := by decide +kernel
theorem dL_law_644 : decode cL_law 644 = .ok (.invokevirtual 54, 3) := by decide +kernel
theorem dL_law_647 : decode cL_law 647 = .ok (.invokevirtual 99, 3) := by decide +kernel
theorem dL_law_650 : decode cL_law 650 = .ok (.istore 17, 2) := by decide +kernel
theorem dL_law_652 : decode cL_law 652 = .ok (.aload_n 1, 1) := by decide +kernel
theorem dL_law_653 : decode cL_law 653 = .ok (.iconst 0, 1) := by decide +kernel
theorem dL_law_654 : decode cL_law 654 = .ok (.aload_n 1, 1) := by decide +kernel
theorem dL_law_655 : decode cL_law 655 = .ok (.iconst 0, 1) := by decide +kernel
theorem dL_law_656 : decode cL_law 656 = .ok (.iload 16, 2) := by decide +kernel
theorem dL_law_658 : decode cL_law 658 = .ok (.iconst 1, 1) := by decide +kernel
theorem dL_law_659 : decode cL_law 659 = .ok (.invokevirtual 54, 3) := by decide +kernel
theorem dL_law_662 : decode cL_law 662 = .ok (.invokevirtual 99, 3) := by decide +kernel
theorem dL_law_665 : decode cL_law 665 = .ok (.istore 18, 2) := by decide +kernel
theorem dL_law_667 : decode cL_law 667 = .ok (.aload_n 1, 1) := by decide +kernel
theorem dL_law_668 : decode cL_law 668 = .ok (.iload 16, 2) := by decide +kernel
theorem dL_law_670 : decode cL_law 670 = .ok (.iconst (-1), 1) := by decide +kernel
theorem dL_law_671 : decode cL_law 671 = .ok (.invokevirtual 112, 3) := by decide +kernel
theorem dL_law_674 : decode cL_law 674 = .ok (.istore 19, 2) := by decide +kernel
theorem dL_law_676 : decode cL_law 676 = .ok (.iload 15, 2) := by decide +kernel
theorem dL_law_678 : decode cL_law 678 = .ok (.iload 19, 2) := by decide +kernel
theorem dL_law_680 : decode cL_law 680 = .ok (.ifCond .le 7, 3) := by decide +kernel
theorem dL_law_683 : decode cL_law 683 = .ok (.iconst 1, 1) := by decide +kernel
theorem dL_law_684 : decode cL_law 684 = .ok (.goto 4, 3) := by decide +kernel
theorem dL_law_687 : decode cL_law 687 = .ok (.iconst 0, 1) := by decide +kernel
theorem dL_law_688 : decode cL_law 688 = .ok (.iadd, 1) := by decide +kernel
theorem dL_law_689 : decode cL_law 689 = .ok (.istore 15, 2) := by decide +kernel
theorem dL_law_691 : decode cL_law 691 = .ok (.iload 11, 2) := by decide +kernel
theorem dL_law_693 : decode cL_law 693 = .ok (.ifCond .eq 135, 3) := by decide +kernel
theorem dL_law_696 : decode cL_law 696 = .ok (.iload 19, 2) := by decide +kernel
theorem dL_law_698 : decode cL_law 698 = .ok (.bipush (-4), 2) := by decide +kernel
theorem dL_law_700 : decode cL_law 700 = .ok (.if_icmp .ne 35, 3) := by decide +kernel
theorem dL_law_703 : decode cL_law 703 = .ok (.aload_n 1, 1) := by decide +kernel
theorem dL_law_704 : decode cL_law 704 = .ok (.iload 16, 2) := by decide +kernel
theorem dL_law_706 : decode cL_law 706 = .ok (.invokevirtual 114, 3) := by decide +kernel
theorem dL_law_709 : decode cL_law 709 = .ok (.aload_n 1, 1) := by decide +kernel
theorem dL_law_710 : decode cL_law 710 = .ok (.iconst 0, 1) := by decide +kernel
theorem dL_law_711 : decode cL_law 711 = .ok (.iload 16, 2) := by decide +kernel
theorem dL_law_713 : decode cL_law 713 = .ok (.iconst 2, 1) := by decide +kernel
theorem dL_law_714 : decode cL_law 714 = .ok (.invokevirtual 54, 3) := by decide +kernel
theorem dL_law_717 : decode cL_law 717 = .ok (.if_icmp .ne 111, 3) := by decide +kernel
theorem dL_law_720 : decode cL_law 720 = .ok (.aload_n 1, 1) := by decide +kernel
theorem dL_law_721 : decode cL_law 721 = .ok (.iload 16, 2) := by decide +kernel
theorem dL_law_723 : decode cL_law 723 = .ok (.iconst 0, 1) := by decide +kernel
theorem dL_law_724 : decode cL_law 724 = .ok (.invokevirtual 112, 3) := by decide +kernel
theorem dL_law_727 : decode cL_law 727 = .ok (.bipush (-4), 2) := by decide +kernel
theorem dL_law_729 : decode cL_law 729 = .ok (.if_icmp .ne 99, 3) := by decide +kernel
theorem dL_law_732 : decode cL_law 732 = .ok (.goto 64, 3) := by decide +kernel
theorem dL_law_735 : decode cL_law 735 = .ok (.iload 19, 2) := by decide +kernel
theorem dL_law_737 : decode cL_law 737 = .ok (.ifCond .le 91, 3) := by decide +kernel
theorem dL_law_740 : decode cL_law 740 = .ok (.iload 19, 2) := by decide +kernel
theorem dL_law_742 : decode cL_law 742 = .ok (.iconst 4, 1) := by decide +kernel
theorem dL_law_743 : decode cL_law 743 = .ok (.if_icmp .ge 85, 3) := by decide +kernel
theorem dL_law_746 : decode cL_law 746 = .ok (.iload 17, 2) := by decide +kernel
theorem dL_law_748 : decode cL_law 748 = .ok (.ifCond .lt 80, 3) := by decide +kernel
theorem dL_law_751 : decode cL_law 751 = .ok (.iload 18, 2) := by decide +kernel
theorem dL_law_753 : decode cL_law 753 = .ok (.ifCond .lt 75, 3) := by decide +kernel
theorem dL_law_756 : decode cL_law 756 = .ok (.aload_n 1, 1) := by decide +kernel
theorem dL_law_757 : decode cL_law 757 = .ok (.iload 16, 2) := by decide +kernel
theorem dL_law_759 : decode cL_law 759 = .ok (.iconst 0, 1) := by decide +kernel
theorem dL_law_760 : decode cL_law 760 = .ok (.invokevirtual 112, 3) := by decide +kernel
theorem dL_law_763 : decode cL_law 763 = .ok (.iload 17, 2) := by decide +kernel
theorem dL_law_765 : decode cL_law 765 = .ok (.if_icmp .ne 63, 3) := by decide +kernel
theorem dL_law_768 : decode cL_law 768 = .ok (.aload_n 1, 1) := by decide +kernel
theorem dL_law_769 : decode cL_law 769 = .ok (.iload 16, 2) := by decide +kernel
theorem dL_law_771 : decode cL_law 771 = .ok (.iload 19, 2) := by decide +kernel
theorem dL_law_773 : decode cL_law 773 = .ok (.invokevirtual 112, 3) := by decide +kernel
theorem dL_law_776 : decode cL_law 776 = .ok (.iload 18, 2) := by decide +kernel
theorem dL_law_778 : decode cL_law 778 = .ok (.if_icmp .ne 50, 3) := by decide +kernel
theorem dL_law_781 : decode cL_law 781 = .ok (.aload_n 1, 1) := by decide +kernel
theorem dL_law_782 : decode cL_law 782 = .ok (.iload 16, 2) := by decide +kernel
theorem dL_law_784 : decode cL_law 784 = .ok (.iload 19, 2) := by decide +kernel
theorem dL_law_786 : decode cL_law 786 = .ok (.iconst 1, 1) := by decide +kernel
theorem dL_law_787 : decode cL_law 787 = .ok (.iadd, 1) := by decide +kernel
theorem dL_law_788 : decode cL_law 788 = .ok (.invokevirtual 112, 3) := by decide +kernel
theorem dL_law_791 : decode cL_law 791 = .ok (.bipush (-4), 2) := by decide +kernel
theorem dL_law_793 : decode cL_law 793 = .ok (.if_icmp .ne 35, 3) := by decide +kernel
theorem dL_law_796 : decode cL_law 796 = .ok (.aload_n 1, 1) := by decide +kernel
theorem dL_law_797 : decode cL_law 797 = .ok (.iconst 0, 1) := by decide +kernel
theorem dL_law_798 : decode cL_law 798 = .ok (.iload 16, 2) := by decide +kernel
theorem dL_law_800 : decode cL_law 800 = .ok (.iconst 2, 1) := by decide +kernel
theorem dL_law_801 : decode cL_law 801 = .ok (.invokevirtual 54, 3) := by decide +kernel
theorem dL_law_804 : decode cL_law 804 = .ok (.ifCond .eq 20, 3) := by decide +kernel
theorem dL_law_807 : decode cL_law 807 = .ok (.aload_n 1, 1) := by decide +kernel
theorem dL_law_808 : decode cL_law 808 = .ok (.iload 16, 2) := by decide +kernel
theorem dL_law_810 : decode cL_law 810 = .ok (.invokevirtual 114, 3) := by decide +kernel
theorem dL_law_813 : decode cL_law 813 = .ok (.aload_n 1, 1) := by decide +kernel
theorem dL_law_814 : decode cL_law 814 = .ok (.iconst 0, 1) := by decide +kernel
theorem dL_law_815 : decode cL_law 815 = .ok (.iload 16, 2) := by decide +kernel
theorem dL_law_817 : decode cL_law 817 = .ok (.iconst 2, 1) := by decide +kernel
theorem dL_law_818 : decode cL_law 818 = .ok (.invokevirtual 54, 3) := by decide +kernel
theorem dL_law_821 : decode cL_law 821 = .ok (.if_icmp .ne 7, 3) := by decide +kernel
theorem dL_law_824 : decode cL_law 824 = .ok (.iconst 1, 1) := by decide +kernel
theorem dL_law_825 : decode cL_law 825 = .ok (.goto 4, 3) := by decide +kernel
theorem dL_law_828 : decode cL_law 828 = .ok (.iconst 0, 1) := by decide +kernel
theorem dL_law_829 : decode cL_law 829 = .ok (.istore 11, 2) := by decide +kernel
theorem dL_law_831 : decode cL_law 831 = .ok (.iconst 0, 1) := by decide +kernel
theorem dL_law_832 : decode cL_law 832 = .ok (.istore 20, 2) := by decide +kernel
theorem dL_law_834 : decode cL_law 834 = .ok (.iconst 0, 1) := by decide +kernel
theorem dL_law_835 : decode cL_law 835 = .ok (.istore 21, 2) := by decide +kernel
theorem dL_law_837 : decode cL_law 837 = .ok (.iload 21, 2) := by decide +kernel
theorem dL_law_839 : decode cL_law 839 = .ok (.iload 19, 2) := by decide +kernel
theorem dL_law_841 : decode cL_law 841 = .ok (.if_icmp .ge 70, 3) := by decide +kernel
theorem dL_law_844 : decode cL_law 844 = .ok (.aload_n 3, 1) := by decide +kernel
theorem dL_law_845 : decode cL_law 845 = .ok (.iconst 1, 1) := by decide +kernel
theorem dL_law_846 : decode cL_law 846 = .ok (.aload_n 1, 1) := by decide +kernel
theorem dL_law_847 : decode cL_law 847 = .ok (.iload 16, 2) := by decide +kernel
theorem dL_law_849 : decode cL_law 849 = .ok (.iload 21, 2) := by decide +kernel
theorem dL_law_851 : decode cL_law 851 = .ok (.invokevirtual 112, 3) := by decide +kernel
theorem dL_law_854 : decode cL_law 854 = .ok (.aload_n 1, 1) := by decide +kernel
theorem dL_law_855 : decode cL_law 855 = .ok (.iload 16, 2) := by decide +kernel
theorem dL_law_857 : decode cL_law 857 = .ok (.iload 21, 2) := by decide +kernel
theorem dL_law_859 : decode cL_law 859 = .ok (.iconst 1, 1) := by decide +kernel
theorem dL_law_860 : decode cL_law 860 = .ok (.iadd, 1) := by decide +kernel
theorem dL_law_861 : decode cL_law 861 = .ok (.invokevirtual 112, 3) := by decide +kernel
theorem dL_law_864 : decode cL_law 864 = .ok (.invokestatic 37, 3) := by decide +kernel
theorem dL_law_867 : decode cL_law 867 = .ok (.istore 22, 2) := by decide +kernel
theorem dL_law_869 : decode cL_law 869 = .ok (.iload 11, 2) := by decide +kernel
theorem dL_law_871 : decode cL_law 871 = .ok (.ifCond .eq 12, 3) := by decide +kernel
theorem dL_law_874 : decode cL_law 874 = .ok (.iload 22, 2) := by decide +kernel
theorem dL_law_876 : decode cL_law 876 = .ok (.ifCond .lt 7, 3) := by decide +kernel
theorem dL_law_879 : decode cL_law 879 = .ok (.iconst 1, 1) := by decide +kernel
theorem dL_law_880 : decode cL_law 880 = .ok (.goto 4, 3) := by decide +kernel
theorem dL_law_883 : decode cL_law 883 = .ok (.iconst 0, 1) := by decide +kernel
theorem dL_law_884 : decode cL_law 884 = .ok (.istore 11, 2) := by decide +kernel
theorem dL_law_886 : decode cL_law 886 = .ok (.iload 22, 2) := by decide +kernel
theorem dL_law_888 : decode cL_law 888 = .ok (.ifCond .lt 14, 3) := by decide +kernel
theorem dL_law_891 : decode cL_law 891 = .ok (.aload_n 1, 1) := by decide +kernel
theorem dL_law_892 : decode cL_law 892 = .ok (.iconst 1, 1) := by decide +kernel
theorem dL_law_893 : decode cL_law 893 = .ok (.iload 22, 2) := by decide +kernel
theorem dL_law_895 : decode cL_law 895 = .ok (.iconst 2, 1) := by decide +kernel
theorem dL_law_896 : decode cL_law 896 = .ok (.invokevirtual 54, 3) := by decide +kernel
theorem dL_law_899 : decode cL_law 899 = .ok (.goto 4, 3) := by decide +kernel
theorem dL_law_902 : decode cL_law 902 = .ok (.iconst 0, 1) := by decide +kernel
theorem dL_law_903 : decode cL_law 903 = .ok (.istore 20, 2) := by decide +kernel
theorem dL_law_905 : decode cL_law 905 = .ok (.iinc 21 1, 3) := by decide +kernel
theorem dL_law_908 : decode cL_law 908 = .ok (.goto (-71), 3) := by decide +kernel
theorem dL_law_911 : decode cL_law 911 = .ok (.iload 11, 2) := by decide +kernel
theorem dL_law_913 : decode cL_law 913 = .ok (.ifCond .eq 63, 3) := by decide +kernel
theorem dL_law_916 : decode cL_law 916 = .ok (.iload 19, 2) := by decide +kernel
theorem dL_law_918 : decode cL_law 918 = .ok (.iconst 1, 1) := by decide +kernel
theorem dL_law_919 : decode cL_law 919 = .ok (.if_icmp .ne 25, 3) := by decide +kernel
theorem dL_law_922 : decode cL_law 922 = .ok (.aload_n 1, 1) := by decide +kernel
theorem dL_law_923 : decode cL_law 923 = .ok (.iconst 0, 1) := by decide +kernel
theorem dL_law_924 : decode cL_law 924 = .ok (.iload 16, 2) := by decide +kernel
theorem dL_law_926 : decode cL_law 926 = .ok (.iconst 2, 1) := by decide +kernel
theorem dL_law_927 : decode cL_law 927 = .ok (.invokevirtual 54, 3) := by decide +kernel
theorem dL_law_930 : decode cL_law 930 = .ok (.ifCond .ne 14, 3) := by decide +kernel
theorem dL_law_933 : decode cL_law 933 = .ok (.aload_n 1, 1) := by decide +kernel
theorem dL_law_934 : decode cL_law 934 = .ok (.iload 16, 2) := by decide +kernel
theorem dL_law_936 : decode cL_law 936 = .ok (.invokevirtual 114, 3) := by decide +kernel
theorem dL_law_939 : decode cL_law 939 = .ok (.iload 20, 2) := by decide +kernel
theorem dL_law_941 : decode cL_law 941 = .ok (.if_icmp .ne 35, 3) := by decide +kernel
theorem dL_law_944 : decode cL_law 944 = .ok (.iload 19, 2) := by decide +kernel
theorem dL_law_946 : decode cL_law 946 = .ok (.iconst 1, 1) := by decide +kernel
theorem dL_law_947 : decode cL_law 947 = .ok (.if_icmp .eq 25, 3) := by decide +kernel
theorem dL_law_950 : decode cL_law 950 = .ok (.iload 17, 2) := by decide +kernel
theorem dL_law_952 : decode cL_law 952 = .ok (.ifCond .lt 20, 3) := by decide +kernel
theorem dL_law_955 : decode cL_law 955 = .ok (.iload 18, 2) := by decide +kernel
theorem dL_law_957 : decode cL_law 957 = .ok (.ifCond .lt 15, 3) := by decide +kernel
theorem dL_law_960 : decode cL_law 960 = .ok (.aload_n 3, 1) := by decide +kernel
theorem dL_law_961 : decode cL_law 961 = .ok (.iconst 1, 1) := by decide +kernel
theorem dL_law_962 : decode cL_law 962 = .ok (.iload 17, 2) := by decide +kernel
theorem dL_law_964 : decode cL_law 964 = .ok (.iload 18, 2) := by decide +kernel
theorem dL_law_966 : decode cL_law 966 = .ok (.invokestatic 37, 3) := by decide +kernel
theorem dL_law_969 : decode cL_law 969 = .ok (.ifCond .ge 7, 3) := by decide +kernel
theorem dL_law_972 : decode cL_law 972 = .ok (.iconst 1, 1) := by decide +kernel
theorem dL_law_973 : decode cL_law 973 = .ok (.goto 4, 3) := by decide +kernel
theorem dL_law_976 : decode cL_law 976 = .ok (.iconst 0, 1) := by decide +kernel
theorem dL_law_977 : decode cL_law 977 = .ok (.istore 11, 2) := by decide +kernel
theorem dL_law_979 : decode cL_law 979 = .ok (.iinc 16 1, 3) := by decide +kernel
theorem dL_law_982 : decode cL_law 982 = .ok (.goto (-352), 3) := by decide +kernel
theorem dL_law_985 : decode cL_law 985 = .ok (.iload 11, 2) := by decide +kernel
theorem dL_law_987 : decode cL_law 987 = .ok (.ifCond .eq 17, 3) := by decide +kernel
theorem dL_law_990 : decode cL_law 990 = .ok (.iload 15, 2) := by decide +kernel
theorem dL_law_992 : decode cL_law 992 = .ok (.aload_n 1, 1) := by decide +kernel
theorem dL_law_993 : decode cL_law 993 = .ok (.iconst 5, 1) := by decide +kernel
theorem dL_law_994 : decode cL_law 994 = .ok (.invokevirtual 109, 3) := by decide +kernel
theorem dL_law_997 : decode cL_law 997 = .ok (.if_icmp .ne 7, 3) := by decide +kernel
theorem dL_law_1000 : decode cL_law 1000 = .ok (.iconst 1, 1) := by decide +kernel
theorem dL_law_1001 : decode cL_law 1001 = .ok (.goto 4, 3) := by decide +kernel
theorem dL_law_1004 : decode cL_law 1004 = .ok (.iconst 0, 1) := by decide +kernel
theorem dL_law_1005 : decode cL_law 1005 = .ok (.istore 11, 2) := by decide +kernel
theorem dL_law_1007 : decode cL_law 1007 = .ok (.aload_n 1, 1) := by decide +kernel
theorem dL_law_1008 : decode cL_law 1008 = .ok (.iconst 5, 1) := by decide +kernel
theorem dL_law_1009 : decode cL_law 1009 = .ok (.invokevirtual 47, 3) := by decide +kernel
theorem dL_law_1012 : decode cL_law 1012 = .ok (.istore 16, 2) := by decide +kernel
theorem dL_law_1014 : decode cL_law 1014 = .ok (.iload 11, 2) := by decide +kernel
theorem dL_law_1016 : decode cL_law 1016 = .ok (.ifCond .eq 31, 3) := by decide +kernel
theorem dL_law_1019 : decode cL_law 1019 = .ok (.aload_n 1, 1) := by decide +kernel
theorem dL_law_1020 : decode cL_law 1020 = .ok (.invokevirtual 117, 3) := by decide +kernel
theorem dL_law_1023 : decode cL_law 1023 = .ok (.iconst 1, 1) := by decide +kernel
theorem dL_law_1024 : decode cL_law 1024 = .ok (.if_icmp .ne 23, 3) := by decide +kernel
theorem dL_law_1027 : decode cL_law 1027 = .ok (.iload 16, 2) := by decide +kernel
theorem dL_law_1029 : decode cL_law 1029 = .ok (.ifCond .eq 14, 3) := by decide +kernel
theorem dL_law_1032 : decode cL_law 1032 = .ok (.aload_n 1, 1) := by decide +kernel
theorem dL_law_1033 : decode cL_law 1033 = .ok (.iconst 1, 1) := by decide +kernel
theorem dL_law_1034 : decode cL_law 1034 = .ok (.iconst 0, 1) := by decide +kernel
theorem dL_law_1035 : decode cL_law 1035 = .ok (.invokevirtual 72, 3) := by decide +kernel
theorem dL_law_1038 : decode cL_law 1038 = .ok (.iload 16, 2) := by decide +kernel
theorem dL_law_1040 : decode cL_law 1040 = .ok (.if_icmp .ne 7, 3) := by decide +kernel
theorem dL_law_1043 : decode cL_law 1043 = .ok (.iconst 1, 1) := by decide +kernel
theorem dL_law_1044 : decode cL_law 1044 = .ok (.goto 4, 3) := by decide +kernel
theorem dL_law_1047 : decode cL_law 1047 = .ok (.iconst 0, 1) := by decide +kernel
theorem dL_law_1048 : decode cL_law 1048 = .ok (.istore 11, 2) := by decide +kernel
theorem dL_law_1050 : decode cL_law 1050 = .ok (.iconst 0, 1) := by decide +kernel
theorem dL_law_1051 : decode cL_law 1051 = .ok (.istore 17, 2) := by decide +kernel
theorem dL_law_1053 : decode cL_law 1053 = .ok (.iload 17, 2) := by decide +kernel
theorem dL_law_1055 : decode cL_law 1055 = .ok (.iload 6, 2) := by decide +kernel
theorem dL_law_1057 : decode cL_law 1057 = .ok (.if_icmp .ge 96, 3) := by decide +kernel
theorem dL_law_1060 : decode cL_law 1060 = .ok (.iconst 0, 1) := by decide +kernel
theorem dL_law_1061 : decode cL_law 1061 = .ok (.istore 18, 2) := by decide +kernel
theorem dL_law_1063 : decode cL_law 1063 = .ok (.iload 18, 2) := by decide +kernel
theorem dL_law_1065 : decode cL_law 1065 = .ok (.iload 7, 2) := by decide +kernel
theorem dL_law_1067 : decode cL_law 1067 = .ok (.if_icmp .ge 80, 3) := by decide +kernel
theorem dL_law_1070 : decode cL_law 1070 = .ok (.aload_n 1, 1) := by decide +kernel
theorem dL_law_1071 : decode cL_law 1071 = .ok (.iload 17, 2) := by decide +kernel
theorem dL_law_1073 : decode cL_law 1073 = .ok (.iload 18, 2) := by decide +kernel
theorem dL_law_1075 : decode cL_law 1075 = .ok (.invokevirtual 102, 3) := by decide +kernel
theorem dL_law_1078 : decode cL_law 1078 = .ok (.istore 19, 2) := by decide +kernel
theorem dL_law_1080 : decode cL_law 1080 = .ok (.iload 10, 2) := by decide +kernel
theorem dL_law_1082 : decode cL_law 1082 = .ok (.iload 10, 2) := by decide +kernel
theorem dL_law_1084 : decode cL_law 1084 = .ok (.imul, 1) := by decide +kernel
theorem dL_law_1085 : decode cL_law 1085 = .ok (.iconst 1, 1) := by decide +kernel
theorem dL_law_1086 : decode cL_law 1086 = .ok (.iadd, 1) := by decide +kernel
theorem dL_law_1087 : decode cL_law 1087 = .ok (.aload_n 2, 1) := by decide +kernel
theorem dL_law_1088 : decode cL_law 1088 = .ok (.iload 17, 2) := by decide +kernel
theorem dL_law_1090 : decode cL_law 1090 = .ok (.bipush 8, 2) := by decide +kernel
theorem dL_law_1092 : decode cL_law 1092 = .ok (.iload 18, 2) := by decide +kernel
theorem dL_law_1094 : decode cL_law 1094 = .ok (.iadd, 1) := by decide +kernel
theorem dL_law_1095 : decode cL_law 1095 = .ok (.invokestatic 86, 3) := by decide +kernel
theorem dL_law_1098 : decode cL_law 1098 = .ok (.isub, 1) := by decide +kernel
theorem dL_law_1099 : decode cL_law 1099 = .ok (.istore 20, 2) := by decide +kernel
theorem dL_law_1101 : decode cL_law 1101 = .ok (.iload 11, 2) := by decide +kernel
theorem dL_law_1103 : decode cL_law 1103 = .ok (.ifCond .eq 35, 3) := by decide +kernel
theorem dL_law_1106 : decode cL_law 1106 = .ok (.iload 19, 2) := by decide +kernel
theorem dL_law_1108 : decode cL_law 1108 = .ok (.bipush (-4), 2) := by decide +kernel
theorem dL_law_1110 : decode cL_law 1110 = .ok (.if_icmp .eq 24, 3) := by decide +kernel
theorem dL_law_1113 : decode cL_law 1113 = .ok (.iload 19, 2) := by decide +kernel
theorem dL_law_1115 : decode cL_law 1115 = .ok (.sipush 512, 3) := by decide +kernel
theorem dL_law_1118 : decode cL_law 1118 = .ok (.iload 20, 2) := by decide +kernel
theorem dL_law_1120 : decode cL_law 1120 = .ok (.iconst 1, 1) := by decide +kernel
theorem dL_law_1121 : decode cL_law 1121 = .ok (.if_icmp .ge 7, 3) := by decide +kernel
theorem dL_law_1124 : decode cL_law 1124 = .ok (.iconst 1, 1) := by decide +kernel
theorem dL_law_1125 : decode cL_law 1125 = .ok (.goto 5, 3) := by decide +kernel
theorem dL_law_1128 : decode cL_law 1128 = .ok (.iload 20, 2) := by decide +kernel
theorem dL_law_1130 : decode cL_law 1130 = .ok (.imul, 1) := by decide +kernel
theorem dL_law_1131 : decode cL_law 1131 = .ok (.if_icmp .ne 7, 3) := by decide +kernel
theorem dL_law_1134 : decode cL_law 1134 = .ok (.iconst 1, 1) := by decide +kernel
theorem dL_law_1135 : decode cL_law 1135 = .ok (.goto 4, 3) := by decide +kernel
theorem dL_law_1138 : decode cL_law 1138 = .ok (.iconst 0, 1) := by decide +kernel
theorem dL_law_1139 : decode cL_law 1139 = .ok (.istore 11, 2) := by decide +kernel
theorem dL_law_1141 : decode cL_law 1141 = .ok (.iinc 18 1, 3) := by decide +kernel
theorem dL_law_1144 : decode cL_law 1144 = .ok (.goto (-81), 3) := by decide +kernel
theorem dL_law_1147 : decode cL_law 1147 = .ok (.iinc 17 1, 3) := by decide +kernel
theorem dL_law_1150 : decode cL_law 1150 = .ok (.goto (-97), 3) := by decide +kernel
theorem dL_law_1153 : decode cL_law 1153 = .ok (.iconst 0, 1) := by decide +kernel
theorem dL_law_1154 : decode cL_law 1154 = .ok (.istore 17, 2) := by decide +kernel
theorem dL_law_1156 : decode cL_law 1156 = .ok (.iload 17, 2) := by decide +kernel
theorem dL_law_1158 : decode cL_law 1158 = .ok (.iload 8, 2) := by decide +kernel
theorem dL_law_1160 : decode cL_law 1160 = .ok (.if_icmp .ge 43, 3) := by decide +kernel
theorem dL_law_1163 : decode cL_law 1163 = .ok (.iload 11, 2) := by decide +kernel
theorem dL_law_1165 : decode cL_law 1165 = .ok (.ifCond .eq 29, 3) := by decide +kernel
theorem dL_law_1168 : decode cL_law 1168 = .ok (.aload_n 1, 1) := by decide +kernel
theorem dL_law_1169 : decode cL_law 1169 = .ok (.iconst 0, 1) := by decide +kernel
theorem dL_law_1170 : decode cL_law 1170 = .ok (.iload 8, 2) := by decide +kernel
theorem dL_law_1172 : decode cL_law 1172 = .ok (.iconst 1, 1) := by decide +kernel
theorem dL_law_1173 : decode cL_law 1173 = .ok (.isub, 1) := by decide +kernel
theorem dL_law_1174 : decode cL_law 1174 = .ok (.iload 17, 2) := by decide +kernel
theorem dL_law_1176 : decode cL_law 1176 = .ok (.isub, 1) := by decide +kernel
theorem dL_law_1177 : decode cL_law 1177 = .ok (.invokevirtual 69, 3) := by decide +kernel
theorem dL_law_1180 : decode cL_law 1180 = .ok (.iload 8, 2) := by decide +kernel
theorem dL_law_1182 : decode cL_law 1182 = .ok (.iconst 1, 1) := by decide +kernel
theorem dL_law_1183 : decode cL_law 1183 = .ok (.isub, 1) := by decide +kernel
theorem dL_law_1184 : decode cL_law 1184 = .ok (.iload 17, 2) := by decide +kernel
theorem dL_law_1186 : decode cL_law 1186 = .ok (.isub, 1) := by decide +kernel
theorem dL_law_1187 : decode cL_law 1187 = .ok (.if_icmp .ne 7, 3) := by decide +kernel
theorem dL_law_1190 : decode cL_law 1190 = .ok (.iconst 1, 1) := by decide +kernel
theorem dL_law_1191 : decode cL_law 1191 = .ok (.goto 4, 3) := by decide +kernel
theorem dL_law_1194 : decode cL_law 1194 = .ok (.iconst 0, 1) := by decide +kernel
theorem dL_law_1195 : decode cL_law 1195 = .ok (.istore 11, 2) := by decide +kernel
theorem dL_law_1197 : decode cL_law 1197 = .ok (.iinc 17 1, 3) := by decide +kernel
theorem dL_law_1200 : decode cL_law 1200 = .ok (.goto (-44), 3) := by decide +kernel
theorem dL_law_1203 : decode cL_law 1203 = .ok (.iload 11, 2) := by decide +kernel
theorem dL_law_1205 : decode cL_law 1205 = .ok (.ifCond .eq 71, 3) := by decide +kernel
theorem dL_law_1208 : decode cL_law 1208 = .ok (.aload_n 1, 1) := by decide +kernel
theorem dL_law_1209 : decode cL_law 1209 = .ok (.iconst 2, 1) := by decide +kernel
theorem dL_law_1210 : decode cL_law 1210 = .ok (.invokevirtual 47, 3) := by decide +kernel
theorem dL_law_1213 : decode cL_law 1213 = .ok (.ifCond .ne 63, 3) := by decide +kernel
theorem dL_law_1216 : decode cL_law 1216 = .ok (.aload_n 1, 1) := by decide +kernel
theorem dL_law_1217 : decode cL_law 1217 = .ok (.iconst 0, 1) := by decide +kernel
theorem dL_law_1218 : decode cL_law 1218 = .ok (.invokevirtual 109, 3) := by decide +kernel
theorem dL_law_1221 : decode cL_law 1221 = .ok (.ifCond .lt 55, 3) := by decide +kernel
theorem dL_law_1224 : decode cL_law 1224 = .ok (.aload_n 1, 1) := by decide +kernel
theorem dL_law_1225 : decode cL_law 1225 = .ok (.iconst 5, 1) := by decide +kernel
theorem dL_law_1226 : decode cL_law 1226 = .ok (.invokevirtual 109, 3) := by decide +kernel
theorem dL_law_1229 : decode cL_law 1229 = .ok (.ifCond .ne 47, 3) := by decide +kernel
theorem dL_law_1232 : decode cL_law 1232 = .ok (.aload_n 1, 1) := by decide +kernel
theorem dL_law_1233 : decode cL_law 1233 = .ok (.invokevirtual 120, 3) := by decide +kernel
theorem dL_law_1236 : decode cL_law 1236 = .ok (.ifCond .ne 40, 3) := by decide +kernel
theorem dL_law_1239 : decode cL_law 1239 = .ok (.aload_n 1, 1) := by decide +kernel
theorem dL_law_1240 : decode cL_law 1240 = .ok (.bipush 6, 2) := by decide +kernel
theorem dL_law_1242 : decode cL_law 1242 = .ok (.invokevirtual 47, 3) := by decide +kernel
theorem dL_law_1245 : decode cL_law 1245 = .ok (.ifCond .ne 31, 3) := by decide +kernel
theorem dL_law_1248 : decode cL_law 1248 = .ok (.aload_n 1, 1) := by decide +kernel
theorem dL_law_1249 : decode cL_law 1249 = .ok (.aload_n 2, 1) := by decide +kernel
theorem dL_law_1250 : decode cL_law 1250 = .ok (.aload_n 3, 1) := by decide +kernel
theorem dL_law_1251 : decode cL_law 1251 = .ok (.invokestatic 95, 3) := by decide +kernel
theorem dL_law_1254 : decode cL_law 1254 = .ok (.ifCond .eq 22, 3) := by decide +kernel
theorem dL_law_1257 : decode cL_law 1257 = .ok (.aload_n 1, 1) := by decide +kernel
theorem dL_law_1258 : decode cL_law 1258 = .ok (.iconst 0, 1) := by decide +kernel
theorem dL_law_1259 : decode cL_law 1259 = .ok (.invokevirtual 109, 3) := by decide +kernel
theorem dL_law_1262 : decode cL_law 1262 = .ok (.iload 12, 2) := by decide +kernel
theorem dL_law_1264 : decode cL_law 1264 = .ok (.if_icmp .ne 12, 3) := by decide +kernel
theorem dL_law_1267 : decode cL_law 1267 = .ok (.iload 9, 2) := by decide +kernel
theorem dL_law_1269 : decode cL_law 1269 = .ok (.ifCond .lt 7, 3) := by decide +kernel
theorem dL_law_1272 : decode cL_law 1272 = .ok (.iconst 1, 1) := by decide +kernel
theorem dL_law_1273 : decode cL_law 1273 = .ok (.goto 4, 3) := by decide +kernel
theorem dL_law_1276 : decode cL_law 1276 = .ok (.iconst 0, 1) := by decide +kernel
theorem dL_law_1277 : decode cL_law 1277 = .ok (.istore 11, 2) := by decide +kernel
theorem dL_law_1279 : decode cL_law 1279 = .ok (.iload 5, 2) := by decide +kernel
theorem dL_law_1281 : decode cL_law 1281 = .ok (.iload 6, 2) := by decide +kernel
theorem dL_law_1283 : decode cL_law 1283 = .ok (.invokestatic 25, 3) := by decide +kernel
theorem dL_law_1286 : decode cL_law 1286 = .ok (.istore 17, 2) := by decide +kernel
theorem dL_law_1288 : decode cL_law 1288 = .ok (.aload_n 2, 1) := by decide +kernel
theorem dL_law_1289 : decode cL_law 1289 = .ok (.bipush 16, 2) := by decide +kernel
theorem dL_law_1291 : decode cL_law 1291 = .ok (.iload 17, 2) := by decide +kernel
theorem dL_law_1293 : decode cL_law 1293 = .ok (.iadd, 1) := by decide +kernel
theorem dL_law_1294 : decode cL_law 1294 = .ok (.iaload, 1) := by decide +kernel
theorem dL_law_1295 : decode cL_law 1295 = .ok (.iconst 1, 1) := by decide +kernel
theorem dL_law_1296 : decode cL_law 1296 = .ok (.iadd, 1) := by decide +kernel
theorem dL_law_1297 : decode cL_law 1297 = .ok (.bipush 61, 2) := by decide +kernel
theorem dL_law_1299 : decode cL_law 1299 = .ok (.irem, 1) := by decide +kernel
theorem dL_law_1300 : decode cL_law 1300 = .ok (.istore 18, 2) := by decide +kernel
theorem dL_law_1302 : decode cL_law 1302 = .ok (.iload 11, 2) := by decide +kernel
theorem dL_law_1304 : decode cL_law 1304 = .ok (.ifCond .eq 122, 3) := by decide +kernel
theorem dL_law_1307 : decode cL_law 1307 = .ok (.aload_n 1, 1) := by decide +kernel
theorem dL_law_1308 : decode cL_law 1308 = .ok (.iconst 0, 1) := by decide +kernel
theorem dL_law_1309 : decode cL_law 1309 = .ok (.iload 17, 2) := by decide +kernel
theorem dL_law_1311 : decode cL_law 1311 = .ok (.iload 18, 2) := by decide +kernel
theorem dL_law_1313 : decode cL_law 1313 = .ok (.aload_n 2, 1) := by decide +kernel
theorem dL_law_1314 : decode cL_law 1314 = .ok (.bipush 32, 2) := by decide +kernel
theorem dL_law_1316 : decode cL_law 1316 = .ok (.iload 17, 2) := by decide +kernel
theorem dL_law_1318 : decode cL_law 1318 = .ok (.iadd, 1) := by decide +kernel
theorem dL_law_1319 : decode cL_law 1319 = .ok (.iaload, 1) := by decide +kernel
theorem dL_law_1320 : decode cL_law 1320 = .ok (.invokevirtual 56, 3) := by decide +kernel
theorem dL_law_1323 : decode cL_law 1323 = .ok (.iconst 1, 1) := by decide +kernel
theorem dL_law_1324 : decode cL_law 1324 = .ok (.if_icmp .ne 102, 3) := by decide +kernel
theorem dL_law_1327 : decode cL_law 1327 = .ok (.aload_n 1, 1) := by decide +kernel
theorem dL_law_1328 : decode cL_law 1328 = .ok (.iconst 0, 1) := by decide +kernel
theorem dL_law_1329 : decode cL_law 1329 = .ok (.iload 17, 2) := by decide +kernel
theorem dL_law_1331 : decode cL_law 1331 = .ok (.iconst 1, 1) := by decide +kernel
theorem dL_law_1332 : decode cL_law 1332 = .ok (.invokevirtual 50, 3) := by decide +kernel
theorem dL_law_1335 : decode cL_law 1335 = .ok (.iload 18, 2) := by decide +kernel
theorem dL_law_1337 : decode cL_law 1337 = .ok (.if_icmp .ne 89, 3) := by decide +kernel
theorem dL_law_1340 : decode cL_law 1340 = .ok (.aload_n 1, 1) := by decide +kernel
theorem dL_law_1341 : decode cL_law 1341 = .ok (.iconst 0, 1) := by decide +kernel
theorem dL_law_1342 : decode cL_law 1342 = .ok (.iload 17, 2) := by decide +kernel
theorem dL_law_1344 : decode cL_law 1344 = .ok (.aload_n 2, 1) := by decide +kernel
theorem dL_law_1345 : decode cL_law 1345 = .ok (.iload 17, 2) := by decide +kernel
theorem dL_law_1347 : decode cL_law 1347 = .ok (.iaload, 1) := by decide +kernel
theorem dL_law_1348 : decode cL_law 1348 = .ok (.iconst 1, 1) := by decide +kernel
theorem dL_law_1349 : decode cL_law 1349 = .ok (.iadd, 1) := by decide +kernel
theorem dL_law_1350 : decode cL_law 1350 = .ok (.iconst 4, 1) := by decide +kernel
theorem dL_law_1351 : decode cL_law 1351 = .ok (.irem, 1) := by decide +kernel
theorem dL_law_1352 : decode cL_law 1352 = .ok (.invokevirtual 60, 3) := by decide +kernel
theorem dL_law_1355 : decode cL_law 1355 = .ok (.aload_n 2, 1) := by decide +kernel
theorem dL_law_1356 : decode cL_law 1356 = .ok (.iload 17, 2) := by decide +kernel
theorem dL_law_1358 : decode cL_law 1358 = .ok (.iaload, 1) := by decide +kernel
theorem dL_law_1359 : decode cL_law 1359 = .ok (.if_icmp .ne 67, 3) := by decide +kernel
theorem dL_law_1362 : decode cL_law 1362 = .ok (.aload_n 1, 1) := by decide +kernel
theorem dL_law_1363 : decode cL_law 1363 = .ok (.invokevirtual 123, 3) := by decide +kernel
theorem dL_law_1366 : decode cL_law 1366 = .ok (.iconst 1, 1) := by decide +kernel
theorem dL_law_1367 : decode cL_law 1367 = .ok (.if_icmp .ne 59, 3) := by decide +kernel
theorem dL_law_1370 : decode cL_law 1370 = .ok (.aload_n 1, 1) := by decide +kernel
theorem dL_law_1371 : decode cL_law 1371 = .ok (.invokevirtual 123, 3) := by decide +kernel
theorem dL_law_1374 : decode cL_law 1374 = .ok (.ifCond .ne 52, 3) := by decide +kernel
theorem dL_law_1377 : decode cL_law 1377 = .ok (.aload_n 1, 1) := by decide +kernel
theorem dL_law_1378 : decode cL_law 1378 = .ok (.aload_n 2, 1) := by decide +kernel
theorem dL_law_1379 : decode cL_law 1379 = .ok (.aload_n 3, 1) := by decide +kernel
theorem dL_law_1380 : decode cL_law 1380 = .ok (.invokestatic 95, 3) := by decide +kernel
theorem dL_law_1383 : decode cL_law 1383 = .ok (.ifCond .eq 43, 3) := by decide +kernel
theorem dL_law_1386 : decode cL_law 1386 = .ok (.aload_n 1, 1) := by decide +kernel
theorem dL_law_1387 : decode cL_law 1387 = .ok (.iconst 0, 1) := by decide +kernel
theorem dL_law_1388 : decode cL_law 1388 = .ok (.invokevirtual 109, 3) := by decide +kernel
theorem dL_law_1391 : decode cL_law 1391 = .ok (.iload 12, 2) := by decide +kernel
theorem dL_law_1393 : decode cL_law 1393 = .ok (.if_icmp .ne 33, 3) := by decide +kernel
theorem dL_law_1396 : decode cL_law 1396 = .ok (.aload_n 1, 1) := by decide +kernel
theorem dL_law_1397 : decode cL_law 1397 = .ok (.iconst 0, 1) := by decide +kernel
theorem dL_law_1398 : decode cL_law 1398 = .ok (.iload 17, 2) := by decide +kernel
theorem dL_law_1400 : decode cL_law 1400 = .ok (.aload_n 2, 1) := by decide +kernel
theorem dL_law_1401 : decode cL_law 1401 = .ok (.bipush 16, 2) := by decide +kernel
theorem dL_law_1403 : decode cL_law 1403 = .ok (.iload 17, 2) := by decide +kernel
theorem dL_law_1405 : decode cL_law 1405 = .ok (.iadd, 1) := by decide +kernel
theorem dL_law_1406 : decode cL_law 1406 = .ok (.iaload, 1) := by decide +kernel
theorem dL_law_1407 : decode cL_law 1407 = .ok (.aload_n 2, 1) := by decide +kernel
theorem dL_law_1408 : decode cL_law 1408 = .ok (.bipush 32, 2) := by decide +kernel
theorem dL_law_1410 : decode cL_law 1410 = .ok (.iload 17, 2) := by decide +kernel
theorem dL_law_1412 : decode cL_law 1412 = .ok (.iadd, 1) := by decide +kernel
theorem dL_law_1413 : decode cL_law 1413 = .ok (.iaload, 1) := by decide +kernel
theorem dL_law_1414 : decode cL_law 1414 = .ok (.invokevirtual 56, 3) := by decide +kernel
theorem dL_law_1417 : decode cL_law 1417 = .ok (.bipush (-2), 2) := by decide +kernel
theorem dL_law_1419 : decode cL_law 1419 = .ok (.if_icmp .ne 7, 3) := by decide +kernel
theorem dL_law_1422 : decode cL_law 1422 = .ok (.iconst 1, 1) := by decide +kernel
theorem dL_law_1423 : decode cL_law 1423 = .ok (.goto 4, 3) := by decide +kernel
theorem dL_law_1426 : decode cL_law 1426 = .ok (.iconst 0, 1) := by decide +kernel
theorem dL_law_1427 : decode cL_law 1427 = .ok (.istore 11, 2) := by decide +kernel
theorem dL_law_1429 : decode cL_law 1429 = .ok (.iload 5, 2) := by decide +kernel
theorem dL_law_1431 : decode cL_law 1431 = .ok (.iconst 4, 1) := by decide +kernel
theorem dL_law_1432 : decode cL_law 1432 = .ok (.ishr, 1) := by decide +kernel
theorem dL_law_1433 : decode cL_law 1433 = .ok (.iconst 4, 1) := by decide +kernel
theorem dL_law_1434 : decode cL_law 1434 = .ok (.invokestatic 25, 3) := by decide +kernel
theorem dL_law_1437 : decode cL_law 1437 = .ok (.istore 19, 2) := by decide +kernel
theorem dL_law_1439 : decode cL_law 1439 = .ok (.iload 11, 2) := by decide +kernel
theorem dL_law_1441 : decode cL_law 1441 = .ok (.ifCond .eq 153, 3) := by decide +kernel
theorem dL_law_1444 : decode cL_law 1444 = .ok (.aload_n 1, 1) := by decide +kernel
theorem dL_law_1445 : decode cL_law 1445 = .ok (.iconst 0, 1) := by decide +kernel
theorem dL_law_1446 : decode cL_law 1446 = .ok (.iload 19, 2) := by decide +kernel
theorem dL_law_1448 : decode cL_law 1448 = .ok (.iload 17, 2) := by decide +kernel
theorem dL_law_1450 : decode cL_law 1450 = .ok (.invokevirtual 126, 3) := by decide +kernel
theorem dL_law_1453 : decode cL_law 1453 = .ok (.iconst 1, 1) := by decide +kernel
theorem dL_law_1454 : decode cL_law 1454 = .ok (.if_icmp .ne 140, 3) := by decide +kernel
theorem dL_law_1457 : decode cL_law 1457 = .ok (.aload_n 1, 1) := by decide +kernel
theorem dL_law_1458 : decode cL_law 1458 = .ok (.iconst 1, 1) := by decide +kernel
theorem dL_law_1459 : decode cL_law 1459 = .ok (.iload 19, 2) := by decide +kernel
theorem dL_law_1461 : decode cL_law 1461 = .ok (.iload 17, 2) := by decide +kernel
theorem dL_law_1463 : decode cL_law 1463 = .ok (.invokevirtual 126, 3) := by decide +kernel
theorem dL_law_1466 : decode cL_law 1466 = .ok (.bipush (-2), 2) := by decide +kernel
theorem dL_law_1468 : decode cL_law 1468 = .ok (.if_icmp .ne 126, 3) := by decide +kernel
theorem dL_law_1471 : decode cL_law 1471 = .ok (.aload_n 1, 1) := by decide +kernel
theorem dL_law_1472 : decode cL_law 1472 = .ok (.iconst 2, 1) := by decide +kernel
theorem dL_law_1473 : decode cL_law 1473 = .ok (.iload 19, 2) := by decide +kernel
theorem dL_law_1475 : decode cL_law 1475 = .ok (.iload 17, 2) := by decide +kernel
theorem dL_law_1477 : decode cL_law 1477 = .ok (.invokevirtual 126, 3) := by decide +kernel
theorem dL_law_1480 : decode cL_law 1480 = .ok (.iconst 1, 1) := by decide +kernel
theorem dL_law_1481 : decode cL_law 1481 = .ok (.if_icmp .ne 113, 3) := by decide +kernel
theorem dL_law_1484 : decode cL_law 1484 = .ok (.aload_n 1, 1) := by decide +kernel
theorem dL_law_1485 : decode cL_law 1485 = .ok (.iconst 0, 1) := by decide +kernel
theorem dL_law_1486 : decode cL_law 1486 = .ok (.iload 19, 2) := by decide +kernel
theorem dL_law_1488 : decode cL_law 1488 = .ok (.invokevirtual 129, 3) := by decide +kernel
theorem dL_law_1491 : decode cL_law 1491 = .ok (.iload 17, 2) := by decide +kernel
theorem dL_law_1493 : decode cL_law 1493 = .ok (.if_icmp .ne 101, 3) := by decide +kernel
theorem dL_law_1496 : decode cL_law 1496 = .ok (.aload_n 1, 1) := by decide +kernel
theorem dL_law_1497 : decode cL_law 1497 = .ok (.iconst 2, 1) := by decide +kernel
theorem dL_law_1498 : decode cL_law 1498 = .ok (.iload 19, 2) := by decide +kernel
theorem dL_law_1500 : decode cL_law 1500 = .ok (.invokevirtual 129, 3) := by decide +kernel
theorem dL_law_1503 : decode cL_law 1503 = .ok (.iload 17, 2) := by decide +kernel
theorem dL_law_1505 : decode cL_law 1505 = .ok (.if_icmp .ne 89, 3) := by decide +kernel
theorem dL_law_1508 : decode cL_law 1508 = .ok (.iload 8, 2) := by decide +kernel
theorem dL_law_1510 : decode cL_law 1510 = .ok (.ifCond .ne 19, 3) := by decide +kernel
theorem dL_law_1513 : decode cL_law 1513 = .ok (.aload_n 1, 1) := by decide +kernel
theorem dL_law_1514 : decode cL_law 1514 = .ok (.iconst 1, 1) := by decide +kernel
theorem dL_law_1515 : decode cL_law 1515 = .ok (.iload 19, 2) := by decide +kernel
theorem dL_law_1517 : decode cL_law 1517 = .ok (.bipush 8, 2) := by decide +kernel
theorem dL_law_1519 : decode cL_law 1519 = .ok (.invokevirtual 126, 3) := by decide +kernel
theorem dL_law_1522 : decode cL_law 1522 = .ok (.iconst (-1), 1) := by decide +kernel
theorem dL_law_1523 : decode cL_law 1523 = .ok (.if_icmp .ne 71, 3) := by decide +kernel
theorem dL_law_1526 : decode cL_law 1526 = .ok (.goto 42, 3) := by decide +kernel
theorem dL_law_1529 : decode cL_law 1529 = .ok (.aload_n 1, 1) := by decide +kernel
theorem dL_law_1530 : decode cL_law 1530 = .ok (.iconst 1, 1) := by decide +kernel
theorem dL_law_1531 : decode cL_law 1531 = .ok (.iload 19, 2) := by decide +kernel
theorem dL_law_1533 : decode cL_law 1533 = .ok (.bipush 8, 2) := by decide +kernel
theorem dL_law_1535 : decode cL_law 1535 = .ok (.invokevirtual 126, 3) := by decide +kernel
theorem dL_law_1538 : decode cL_law 1538 = .ok (.iconst 1, 1) := by decide +kernel
theorem dL_law_1539 : decode cL_law 1539 = .ok (.if_icmp .ne 55, 3) := by decide +kernel
theorem dL_law_1542 : decode cL_law 1542 = .ok (.aload_n 1, 1) := by decide +kernel
theorem dL_law_1543 : decode cL_law 1543 = .ok (.iconst 0, 1) := by decide +kernel
theorem dL_law_1544 : decode cL_law 1544 = .ok (.iload 19, 2) := by decide +kernel
theorem dL_law_1546 : decode cL_law 1546 = .ok (.bipush 8, 2) := by decide +kernel
theorem dL_law_1548 : decode cL_law 1548 = .ok (.invokevirtual 126, 3) := by decide +kernel
theorem dL_law_1551 : decode cL_law 1551 = .ok (.bipush (-2), 2) := by decide +kernel
theorem dL_law_1553 : decode cL_law 1553 = .ok (.if_icmp .ne 41, 3) := by decide +kernel
theorem dL_law_1556 : decode cL_law 1556 = .ok (.aload_n 1, 1) := by decide +kernel
theorem dL_law_1557 : decode cL_law 1557 = .ok (.iconst 1, 1) := by decide +kernel
theorem dL_law_1558 : decode cL_law 1558 = .ok (.iload 19, 2) := by decide +kernel
theorem dL_law_1560 : decode cL_law 1560 = .ok (.invokevirtual 129, 3) := by decide +kernel
theorem dL_law_1563 : decode cL_law 1563 = .ok (.bipush 8, 2) := by decide +kernel
theorem dL_law_1565 : decode cL_law 1565 = .ok (.if_icmp .ne 29, 3) := by decide +kernel
theorem dL_law_1568 : decode cL_law 1568 = .ok (.aload_n 1, 1) := by decide +kernel
theorem dL_law_1569 : decode cL_law 1569 = .ok (.iconst 0, 1) := by decide +kernel
theorem dL_law_1570 : decode cL_law 1570 = .ok (.iload 19, 2) := by decide +kernel
theorem dL_law_1572 : decode cL_law 1572 = .ok (.invokevirtual 129, 3) := by decide +kernel
theorem dL_law_1575 : decode cL_law 1575 = .ok (.iload 17, 2) := by decide +kernel
theorem dL_law_1577 : decode cL_law 1577 = .ok (.if_icmp .ne 17, 3) := by decide +kernel
theorem dL_law_1580 : decode cL_law 1580 = .ok (.aload_n 1, 1) := by decide +kernel
theorem dL_law_1581 : decode cL_law 1581 = .ok (.bipush 9, 2) := by decide +kernel
theorem dL_law_1583 : decode cL_law 1583 = .ok (.invokevirtual 47, 3) := by decide +kernel
theorem dL_law_1586 : decode cL_law 1586 = .ok (.iconst 1, 1) := by decide +kernel
theorem dL_law_1587 : decode cL_law 1587 = .ok (.if_icmp .le 7, 3) := by decide +kernel
theorem dL_law_1590 : decode cL_law 1590 = .ok (.iconst 1, 1) := by decide +kernel
theorem dL_law_1591 : decode cL_law 1591 = .ok (.goto 4, 3) := by decide +kernel
theorem dL_law_1594 : decode cL_law 1594 = .ok (.iconst 0, 1) := by decide +kernel
theorem dL_law_1595 : decode cL_law 1595 = .ok (.istore 11, 2) := by decide +kernel
theorem dL_law_1597 : decode cL_law 1597 = .ok (.iload 11, 2) := by decide +kernel
theorem dL_law_1599 : decode cL_law 1599 = .ok (.ifCond .eq 21, 3) := by decide +kernel
theorem dL_law_1602 : decode cL_law 1602 = .ok (.aload_n 1, 1) := by decide +kernel
theorem dL_law_1603 : decode cL_law 1603 = .ok (.aload_n 0, 1) := by decide +kernel
theorem dL_law_1604 : decode cL_law 1604 = .ok (.bipush 31, 2) := by decide +kernel
theorem dL_law_1606 : decode cL_law 1606 = .ok (.iconst 4, 1) := by decide +kernel
theorem dL_law_1607 : decode cL_law 1607 = .ok (.iload 4, 2) := by decide +kernel
theorem dL_law_1609 : decode cL_law 1609 = .ok (.imul, 1) := by decide +kernel
theorem dL_law_1610 : decode cL_law 1610 = .ok (.iadd, 1) := by decide +kernel
theorem dL_law_1611 : decode cL_law 1611 = .ok (.iconst 4, 1) := by decide +kernel
theorem dL_law_1612 : decode cL_law 1612 = .ok (.aload_n 2, 1) := by decide +kernel
theorem dL_law_1613 : decode cL_law 1613 = .ok (.aload_n 3, 1) := by decide +kernel
theorem dL_law_1614 : decode cL_law 1614 = .ok (.invokestatic 132, 3) := by decide +kernel
theorem dL_law_1617 : decode cL_law 1617 = .ok (.ifCond .ne 5, 3) := by decide +kernel
theorem dL_law_1620 : decode cL_law 1620 = .ok (.iconst 0, 1) := by decide +kernel
theorem dL_law_1621 : decode cL_law 1621 = .ok (.ireturn, 1) := by decide +kernel
theorem dL_law_1622 : decode cL_law 1622 = .ok (.iinc 4 1, 3) := by decide +kernel
theorem dL_law_1625 : decode cL_law 1625 = .ok (.goto (-1592), 3) := by decide +kernel
theorem dL_law_1628 : decode cL_law 1628 = .ok (.aload_n 1, 1) := by decide +kernel
theorem dL_law_1629 : decode cL_law 1629 = .ok (.aload_n 2, 1) := by decide +kernel
theorem dL_law_1630 : decode cL_law 1630 = .ok (.aload_n 3, 1) := by decide +kernel
theorem dL_law_1631 : decode cL_law 1631 = .ok (.invokestatic 95, 3) := by decide +kernel
theorem dL_law_1634 : decode cL_law 1634 = .ok (.ireturn, 1) := by decide +kernel
