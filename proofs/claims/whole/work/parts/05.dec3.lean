theorem dX10_in_0 : decode cX10_in 0 = .ok (.iload_n 0, 1) := by decide +kernel
theorem dX10_in_1 : decode cX10_in 1 = .ok (.iload_n 1, 1) := by decide +kernel
theorem dX10_in_2 : decode cX10_in 2 = .ok (.if_icmp .lt 12, 3) := by decide +kernel
theorem dX10_in_5 : decode cX10_in 5 = .ok (.iload_n 0, 1) := by decide +kernel
theorem dX10_in_6 : decode cX10_in 6 = .ok (.iload_n 2, 1) := by decide +kernel
theorem dX10_in_7 : decode cX10_in 7 = .ok (.if_icmp .gt 7, 3) := by decide +kernel
theorem dX10_in_10 : decode cX10_in 10 = .ok (.iconst 1, 1) := by decide +kernel
theorem dX10_in_11 : decode cX10_in 11 = .ok (.goto 4, 3) := by decide +kernel
theorem dX10_in_14 : decode cX10_in 14 = .ok (.iconst 0, 1) := by decide +kernel
theorem dX10_in_15 : decode cX10_in 15 = .ok (.ireturn, 1) := by decide +kernel
theorem dX10_init_0 : decode cX10_init 0 = .ok (.aload_n 0, 1) := by decide +kernel
theorem dX10_init_1 : decode cX10_init 1 = .ok (.invokespecial 1, 3) := by decide +kernel
theorem dX10_init_4 : decode cX10_init 4 = .ok (.aload_n 0, 1) := by decide +kernel
theorem dX10_init_5 : decode cX10_init 5 = .ok (.bipush 10, 2) := by decide +kernel
theorem dX10_init_7 : decode cX10_init 7 = .ok (.putfield 7, 3) := by decide +kernel
theorem dX10_init_10 : decode cX10_init 10 = .ok (.aload_n 0, 1) := by decide +kernel
theorem dX10_init_11 : decode cX10_init 11 = .ok (.iconst 2, 1) := by decide +kernel
theorem dX10_init_12 : decode cX10_init 12 = .ok (.putfield 13, 3) := by decide +kernel
theorem dX10_init_15 : decode cX10_init 15 = .ok (.aload_n 0, 1) := by decide +kernel
theorem dX10_init_16 : decode cX10_init 16 = .ok (.iconst 2, 1) := by decide +kernel
theorem dX10_init_17 : decode cX10_init 17 = .ok (.newarray .int, 2) := by decide +kernel
theorem dX10_init_19 : decode cX10_init 19 = .ok (.putfield 16, 3) := by decide +kernel
theorem dX10_init_22 : decode cX10_init 22 = .ok (.aload_n 0, 1) := by decide +kernel
theorem dX10_init_23 : decode cX10_init 23 = .ok (.iconst 2, 1) := by decide +kernel
theorem dX10_init_24 : decode cX10_init 24 = .ok (.newarray .int, 2) := by decide +kernel
theorem dX10_init_26 : decode cX10_init 26 = .ok (.putfield 20, 3) := by decide +kernel
theorem dX10_init_29 : decode cX10_init 29 = .ok (.aload_n 0, 1) := by decide +kernel
theorem dX10_init_30 : decode cX10_init 30 = .ok (.bipush 16, 2) := by decide +kernel
theorem dX10_init_32 : decode cX10_init 32 = .ok (.newarray .int, 2) := by decide +kernel
theorem dX10_init_34 : decode cX10_init 34 = .ok (.putfield 23, 3) := by decide +kernel
theorem dX10_init_37 : decode cX10_init 37 = .ok (.aload_n 0, 1) := by decide +kernel
theorem dX10_init_38 : decode cX10_init 38 = .ok (.bipush 16, 2) := by decide +kernel
theorem dX10_init_40 : decode cX10_init 40 = .ok (.newarray .int, 2) := by decide +kernel
theorem dX10_init_42 : decode cX10_init 42 = .ok (.putfield 26, 3) := by decide +kernel
theorem dX10_init_45 : decode cX10_init 45 = .ok (.aload_n 0, 1) := by decide +kernel
theorem dX10_init_46 : decode cX10_init 46 = .ok (.bipush 16, 2) := by decide +kernel
theorem dX10_init_48 : decode cX10_init 48 = .ok (.newarray .int, 2) := by decide +kernel
theorem dX10_init_50 : decode cX10_init 50 = .ok (.putfield 29, 3) := by decide +kernel
theorem dX10_init_53 : decode cX10_init 53 = .ok (.aload_n 0, 1) := by decide +kernel
theorem dX10_init_54 : decode cX10_init 54 = .ok (.bipush 16, 2) := by decide +kernel
theorem dX10_init_56 : decode cX10_init 56 = .ok (.newarray .int, 2) := by decide +kernel
theorem dX10_init_58 : decode cX10_init 58 = .ok (.putfield 32, 3) := by decide +kernel
theorem dX10_init_61 : decode cX10_init 61 = .ok (.aload_n 0, 1) := by decide +kernel
theorem dX10_init_62 : decode cX10_init 62 = .ok (.bipush 16, 2) := by decide +kernel
theorem dX10_init_64 : decode cX10_init 64 = .ok (.newarray .int, 2) := by decide +kernel
theorem dX10_init_66 : decode cX10_init 66 = .ok (.putfield 35, 3) := by decide +kernel
theorem dX10_init_69 : decode cX10_init 69 = .ok (.aload_n 0, 1) := by decide +kernel
theorem dX10_init_70 : decode cX10_init 70 = .ok (.bipush 16, 2) := by decide +kernel
theorem dX10_init_72 : decode cX10_init 72 = .ok (.newarray .int, 2) := by decide +kernel
theorem dX10_init_74 : decode cX10_init 74 = .ok (.putfield 38, 3) := by decide +kernel
theorem dX10_init_77 : decode cX10_init 77 = .ok (.aload_n 0, 1) := by decide +kernel
theorem dX10_init_78 : decode cX10_init 78 = .ok (.sipush 816, 3) := by decide +kernel
theorem dX10_init_81 : decode cX10_init 81 = .ok (.newarray .int, 2) := by decide +kernel
theorem dX10_init_83 : decode cX10_init 83 = .ok (.putfield 41, 3) := by decide +kernel
theorem dX10_init_86 : decode cX10_init 86 = .ok (.aload_n 0, 1) := by decide +kernel
theorem dX10_init_87 : decode cX10_init 87 = .ok (.sipush 204, 3) := by decide +kernel
theorem dX10_init_90 : decode cX10_init 90 = .ok (.newarray .int, 2) := by decide +kernel
theorem dX10_init_92 : decode cX10_init 92 = .ok (.putfield 44, 3) := by decide +kernel
theorem dX10_init_95 : decode cX10_init 95 = .ok (.aload_n 0, 1) := by decide +kernel
theorem dX10_init_96 : decode cX10_init 96 = .ok (.bipush 102, 2) := by decide +kernel
theorem dX10_init_98 : decode cX10_init 98 = .ok (.newarray .int, 2) := by decide +kernel
theorem dX10_init_100 : decode cX10_init 100 = .ok (.putfield 47, 3) := by decide +kernel
theorem dX10_init_103 : decode cX10_init 103 = .ok (.aload_n 0, 1) := by decide +kernel
theorem dX10_init_104 : decode cX10_init 104 = .ok (.bipush 64, 2) := by decide +kernel
theorem dX10_init_106 : decode cX10_init 106 = .ok (.newarray .int, 2) := by decide +kernel
theorem dX10_init_108 : decode cX10_init 108 = .ok (.putfield 50, 3) := by decide +kernel
theorem dX10_init_111 : decode cX10_init 111 = .ok (.aload_n 0, 1) := by decide +kernel
theorem dX10_init_112 : decode cX10_init 112 = .ok (.bipush 64, 2) := by decide +kernel
theorem dX10_init_114 : decode cX10_init 114 = .ok (.newarray .int, 2) := by decide +kernel
theorem dX10_init_116 : decode cX10_init 116 = .ok (.putfield 53, 3) := by decide +kernel
theorem dX10_init_119 : decode cX10_init 119 = .ok (.aload_n 0, 1) := by decide +kernel
theorem dX10_init_120 : decode cX10_init 120 = .ok (.bipush 16, 2) := by decide +kernel
theorem dX10_init_122 : decode cX10_init 122 = .ok (.newarray .int, 2) := by decide +kernel
theorem dX10_init_124 : decode cX10_init 124 = .ok (.putfield 56, 3) := by decide +kernel
theorem dX10_init_127 : decode cX10_init 127 = .ok (.aload_n 0, 1) := by decide +kernel
theorem dX10_init_128 : decode cX10_init 128 = .ok (.bipush 16, 2) := by decide +kernel
theorem dX10_init_130 : decode cX10_init 130 = .ok (.newarray .int, 2) := by decide +kernel
theorem dX10_init_132 : decode cX10_init 132 = .ok (.putfield 59, 3) := by decide +kernel
theorem dX10_init_135 : decode cX10_init 135 = .ok (.aload_n 0, 1) := by decide +kernel
theorem dX10_init_136 : decode cX10_init 136 = .ok (.iconst 4, 1) := by decide +kernel
theorem dX10_init_137 : decode cX10_init 137 = .ok (.newarray .int, 2) := by decide +kernel
theorem dX10_init_139 : decode cX10_init 139 = .ok (.putfield 62, 3) := by decide +kernel
theorem dX10_init_142 : decode cX10_init 142 = .ok (.aload_n 0, 1) := by decide +kernel
theorem dX10_init_143 : decode cX10_init 143 = .ok (.bipush 12, 2) := by decide +kernel
theorem dX10_init_145 : decode cX10_init 145 = .ok (.newarray .int, 2) := by decide +kernel
theorem dX10_init_147 : decode cX10_init 147 = .ok (.putfield 65, 3) := by decide +kernel
theorem dX10_init_150 : decode cX10_init 150 = .ok (.aload_n 0, 1) := by decide +kernel
theorem dX10_init_151 : decode cX10_init 151 = .ok (.sipush 200, 3) := by decide +kernel
theorem dX10_init_154 : decode cX10_init 154 = .ok (.newarray .int, 2) := by decide +kernel
theorem dX10_init_156 : decode cX10_init 156 = .ok (.putfield 68, 3) := by decide +kernel
theorem dX10_init_159 : decode cX10_init 159 = .ok (.aload_n 0, 1) := by decide +kernel
theorem dX10_init_160 : decode cX10_init 160 = .ok (.bipush 102, 2) := by decide +kernel
theorem dX10_init_162 : decode cX10_init 162 = .ok (.newarray .int, 2) := by decide +kernel
theorem dX10_init_164 : decode cX10_init 164 = .ok (.putfield 71, 3) := by decide +kernel
theorem dX10_init_167 : decode cX10_init 167 = .ok (.aload_n 0, 1) := by decide +kernel
theorem dX10_init_168 : decode cX10_init 168 = .ok (.bipush 12, 2) := by decide +kernel
theorem dX10_init_170 : decode cX10_init 170 = .ok (.putfield 7, 3) := by decide +kernel
theorem dX10_init_173 : decode cX10_init 173 = .ok (.aload_n 0, 1) := by decide +kernel
theorem dX10_init_174 : decode cX10_init 174 = .ok (.iconst 0, 1) := by decide +kernel
theorem dX10_init_175 : decode cX10_init 175 = .ok (.iconst 0, 1) := by decide +kernel
theorem dX10_init_176 : decode cX10_init 176 = .ok (.iconst 5, 1) := by decide +kernel
theorem dX10_init_177 : decode cX10_init 177 = .ok (.iconst 5, 1) := by decide +kernel
theorem dX10_init_178 : decode cX10_init 178 = .ok (.invokevirtual 74, 3) := by decide +kernel
theorem dX10_init_181 : decode cX10_init 181 = .ok (.aload_n 0, 1) := by decide +kernel
theorem dX10_init_182 : decode cX10_init 182 = .ok (.iconst 0, 1) := by decide +kernel
theorem dX10_init_183 : decode cX10_init 183 = .ok (.iconst 0, 1) := by decide +kernel
theorem dX10_init_184 : decode cX10_init 184 = .ok (.bipush 20, 2) := by decide +kernel
theorem dX10_init_186 : decode cX10_init 186 = .ok (.bipush 6, 2) := by decide +kernel
theorem dX10_init_188 : decode cX10_init 188 = .ok (.invokevirtual 74, 3) := by decide +kernel
theorem dX10_init_191 : decode cX10_init 191 = .ok (.aload_n 0, 1) := by decide +kernel
theorem dX10_init_192 : decode cX10_init 192 = .ok (.iconst 0, 1) := by decide +kernel
theorem dX10_init_193 : decode cX10_init 193 = .ok (.iconst 0, 1) := by decide +kernel
theorem dX10_init_194 : decode cX10_init 194 = .ok (.bipush 34, 2) := by decide +kernel
theorem dX10_init_196 : decode cX10_init 196 = .ok (.bipush 8, 2) := by decide +kernel
theorem dX10_init_198 : decode cX10_init 198 = .ok (.invokevirtual 74, 3) := by decide +kernel
theorem dX10_init_201 : decode cX10_init 201 = .ok (.aload_n 0, 1) := by decide +kernel
theorem dX10_init_202 : decode cX10_init 202 = .ok (.iconst 0, 1) := by decide +kernel
theorem dX10_init_203 : decode cX10_init 203 = .ok (.iconst 1, 1) := by decide +kernel
theorem dX10_init_204 : decode cX10_init 204 = .ok (.bipush 6, 2) := by decide +kernel
theorem dX10_init_206 : decode cX10_init 206 = .ok (.bipush 24, 2) := by decide +kernel
theorem dX10_init_208 : decode cX10_init 208 = .ok (.invokevirtual 74, 3) := by decide +kernel
theorem dX10_init_211 : decode cX10_init 211 = .ok (.aload_n 0, 1) := by decide +kernel
theorem dX10_init_212 : decode cX10_init 212 = .ok (.iconst 0, 1) := by decide +kernel
theorem dX10_init_213 : decode cX10_init 213 = .ok (.iconst 0, 1) := by decide +kernel
theorem dX10_init_214 : decode cX10_init 214 = .ok (.bipush 21, 2) := by decide +kernel
theorem dX10_init_216 : decode cX10_init 216 = .ok (.bipush 25, 2) := by decide +kernel
theorem dX10_init_218 : decode cX10_init 218 = .ok (.invokevirtual 74, 3) := by decide +kernel
theorem dX10_init_221 : decode cX10_init 221 = .ok (.aload_n 0, 1) := by decide +kernel
theorem dX10_init_222 : decode cX10_init 222 = .ok (.iconst 0, 1) := by decide +kernel
theorem dX10_init_223 : decode cX10_init 223 = .ok (.iconst 2, 1) := by decide +kernel
theorem dX10_init_224 : decode cX10_init 224 = .ok (.bipush 40, 2) := by decide +kernel
theorem dX10_init_226 : decode cX10_init 226 = .ok (.bipush 26, 2) := by decide +kernel
theorem dX10_init_228 : decode cX10_init 228 = .ok (.invokevirtual 74, 3) := by decide +kernel
theorem dX10_init_231 : decode cX10_init 231 = .ok (.aload_n 0, 1) := by decide +kernel
theorem dX10_init_232 : decode cX10_init 232 = .ok (.iconst 1, 1) := by decide +kernel
theorem dX10_init_233 : decode cX10_init 233 = .ok (.iconst 0, 1) := by decide +kernel
theorem dX10_init_234 : decode cX10_init 234 = .ok (.bipush 8, 2) := by decide +kernel
theorem dX10_init_236 : decode cX10_init 236 = .ok (.bipush 7, 2) := by decide +kernel
theorem dX10_init_238 : decode cX10_init 238 = .ok (.invokevirtual 74, 3) := by decide +kernel
theorem dX10_init_241 : decode cX10_init 241 = .ok (.aload_n 0, 1) := by decide +kernel
theorem dX10_init_242 : decode cX10_init 242 = .ok (.iconst 1, 1) := by decide +kernel
theorem dX10_init_243 : decode cX10_init 243 = .ok (.iconst 0, 1) := by decide +kernel
theorem dX10_init_244 : decode cX10_init 244 = .ok (.bipush 22, 2) := by decide +kernel
theorem dX10_init_246 : decode cX10_init 246 = .ok (.iconst 5, 1) := by decide +kernel
theorem dX10_init_247 : decode cX10_init 247 = .ok (.invokevirtual 74, 3) := by decide +kernel
theorem dX10_init_250 : decode cX10_init 250 = .ok (.aload_n 0, 1) := by decide +kernel
theorem dX10_init_251 : decode cX10_init 251 = .ok (.iconst 1, 1) := by decide +kernel
theorem dX10_init_252 : decode cX10_init 252 = .ok (.iconst 0, 1) := by decide +kernel
theorem dX10_init_253 : decode cX10_init 253 = .ok (.bipush 33, 2) := by decide +kernel
theorem dX10_init_255 : decode cX10_init 255 = .ok (.bipush 11, 2) := by decide +kernel
theorem dX10_init_257 : decode cX10_init 257 = .ok (.invokevirtual 74, 3) := by decide +kernel
theorem dX10_init_260 : decode cX10_init 260 = .ok (.aload_n 0, 1) := by decide +kernel
theorem dX10_init_261 : decode cX10_init 261 = .ok (.iconst 1, 1) := by decide +kernel
theorem dX10_init_262 : decode cX10_init 262 = .ok (.iconst 0, 1) := by decide +kernel
theorem dX10_init_263 : decode cX10_init 263 = .ok (.bipush 9, 2) := by decide +kernel
theorem dX10_init_265 : decode cX10_init 265 = .ok (.bipush 28, 2) := by decide +kernel
theorem dX10_init_267 : decode cX10_init 267 = .ok (.invokevirtual 74, 3) := by decide +kernel
theorem dX10_init_270 : decode cX10_init 270 = .ok (.aload_n 0, 1) := by decide +kernel
theorem dX10_init_271 : decode cX10_init 271 = .ok (.iconst 1, 1) := by decide +kernel
theorem dX10_init_272 : decode cX10_init 272 = .ok (.iconst 0, 1) := by decide +kernel
theorem dX10_init_273 : decode cX10_init 273 = .ok (.bipush 24, 2) := by decide +kernel
theorem dX10_init_275 : decode cX10_init 275 = .ok (.bipush 27, 2) := by decide +kernel
theorem dX10_init_277 : decode cX10_init 277 = .ok (.invokevirtual 74, 3) := by decide +kernel
theorem dX10_init_280 : decode cX10_init 280 = .ok (.aload_n 0, 1) := by decide +kernel
theorem dX10_init_281 : decode cX10_init 281 = .ok (.iconst 1, 1) := by decide +kernel
theorem dX10_init_282 : decode cX10_init 282 = .ok (.iconst 0, 1) := by decide +kernel
theorem dX10_init_283 : decode cX10_init 283 = .ok (.bipush 30, 2) := by decide +kernel
theorem dX10_init_285 : decode cX10_init 285 = .ok (.bipush 18, 2) := by decide +kernel
theorem dX10_init_287 : decode cX10_init 287 = .ok (.invokevirtual 74, 3) := by decide +kernel
theorem dX10_init_290 : decode cX10_init 290 = .ok (.aload_n 0, 1) := by decide +kernel
theorem dX10_init_291 : decode cX10_init 291 = .ok (.iconst 0, 1) := by decide +kernel
theorem dX10_init_292 : decode cX10_init 292 = .ok (.iconst 0, 1) := by decide +kernel
theorem dX10_init_293 : decode cX10_init 293 = .ok (.iconst 1, 1) := by decide +kernel
theorem dX10_init_294 : decode cX10_init 294 = .ok (.iconst 3, 1) := by decide +kernel
theorem dX10_init_295 : decode cX10_init 295 = .ok (.invokevirtual 78, 3) := by decide +kernel
theorem dX10_init_298 : decode cX10_init 298 = .ok (.aload_n 0, 1) := by decide +kernel
theorem dX10_init_299 : decode cX10_init 299 = .ok (.iconst 0, 1) := by decide +kernel
theorem dX10_init_300 : decode cX10_init 300 = .ok (.iconst 1, 1) := by decide +kernel
theorem dX10_init_301 : decode cX10_init 301 = .ok (.iconst 2, 1) := by decide +kernel
theorem dX10_init_302 : decode cX10_init 302 = .ok (.iconst 0, 1) := by decide +kernel
theorem dX10_init_303 : decode cX10_init 303 = .ok (.invokevirtual 78, 3) := by decide +kernel
theorem dX10_init_306 : decode cX10_init 306 = .ok (.aload_n 0, 1) := by decide +kernel
theorem dX10_init_307 : decode cX10_init 307 = .ok (.iconst 0, 1) := by decide +kernel
theorem dX10_init_308 : decode cX10_init 308 = .ok (.iconst 0, 1) := by decide +kernel
theorem dX10_init_309 : decode cX10_init 309 = .ok (.iconst 3, 1) := by decide +kernel
theorem dX10_init_310 : decode cX10_init 310 = .ok (.iconst 4, 1) := by decide +kernel
theorem dX10_init_311 : decode cX10_init 311 = .ok (.invokevirtual 78, 3) := by decide +kernel
theorem dX10_init_314 : decode cX10_init 314 = .ok (.aload_n 0, 1) := by decide +kernel
theorem dX10_init_315 : decode cX10_init 315 = .ok (.iconst 0, 1) := by decide +kernel
theorem dX10_init_316 : decode cX10_init 316 = .ok (.iconst 1, 1) := by decide +kernel
theorem dX10_init_317 : decode cX10_init 317 = .ok (.iconst 4, 1) := by decide +kernel
theorem dX10_init_318 : decode cX10_init 318 = .ok (.iconst 0, 1) := by decide +kernel
theorem dX10_init_319 : decode cX10_init 319 = .ok (.invokevirtual 78, 3) := by decide +kernel
theorem dX10_init_322 : decode cX10_init 322 = .ok (.aload_n 0, 1) := by decide +kernel
theorem dX10_init_323 : decode cX10_init 323 = .ok (.iconst 0, 1) := by decide +kernel
theorem dX10_init_324 : decode cX10_init 324 = .ok (.iconst 3, 1) := by decide +kernel
theorem dX10_init_325 : decode cX10_init 325 = .ok (.iconst 4, 1) := by decide +kernel
theorem dX10_init_326 : decode cX10_init 326 = .ok (.iconst 5, 1) := by decide +kernel
theorem dX10_init_327 : decode cX10_init 327 = .ok (.invokevirtual 78, 3) := by decide +kernel
theorem dX10_init_330 : decode cX10_init 330 = .ok (.aload_n 0, 1) := by decide +kernel
theorem dX10_init_331 : decode cX10_init 331 = .ok (.iconst 0, 1) := by decide +kernel
theorem dX10_init_332 : decode cX10_init 332 = .ok (.iconst 4, 1) := by decide +kernel
theorem dX10_init_333 : decode cX10_init 333 = .ok (.iconst 5, 1) := by decide +kernel
theorem dX10_init_334 : decode cX10_init 334 = .ok (.iconst 0, 1) := by decide +kernel
theorem dX10_init_335 : decode cX10_init 335 = .ok (.invokevirtual 78, 3) := by decide +kernel
theorem dX10_init_338 : decode cX10_init 338 = .ok (.aload_n 0, 1) := by decide +kernel
theorem dX10_init_339 : decode cX10_init 339 = .ok (.iconst 1, 1) := by decide +kernel
theorem dX10_init_340 : decode cX10_init 340 = .ok (.iconst 0, 1) := by decide +kernel
theorem dX10_init_341 : decode cX10_init 341 = .ok (.iconst 1, 1) := by decide +kernel
theorem dX10_init_342 : decode cX10_init 342 = .ok (.iconst 3, 1) := by decide +kernel
theorem dX10_init_343 : decode cX10_init 343 = .ok (.invokevirtual 78, 3) := by decide +kernel
theorem dX10_init_346 : decode cX10_init 346 = .ok (.aload_n 0, 1) := by decide +kernel
theorem dX10_init_347 : decode cX10_init 347 = .ok (.iconst 1, 1) := by decide +kernel
theorem dX10_init_348 : decode cX10_init 348 = .ok (.iconst 1, 1) := by decide +kernel
theorem dX10_init_349 : decode cX10_init 349 = .ok (.iconst 2, 1) := by decide +kernel
theorem dX10_init_350 : decode cX10_init 350 = .ok (.bipush 6, 2) := by decide +kernel
theorem dX10_init_352 : decode cX10_init 352 = .ok (.invokevirtual 78, 3) := by decide +kernel
theorem dX10_init_355 : decode cX10_init 355 = .ok (.aload_n 0, 1) := by decide +kernel
theorem dX10_init_356 : decode cX10_init 356 = .ok (.iconst 1, 1) := by decide +kernel
theorem dX10_init_357 : decode cX10_init 357 = .ok (.iconst 0, 1) := by decide +kernel
theorem dX10_init_358 : decode cX10_init 358 = .ok (.iconst 3, 1) := by decide +kernel
theorem dX10_init_359 : decode cX10_init 359 = .ok (.iconst 4, 1) := by decide +kernel
theorem dX10_init_360 : decode cX10_init 360 = .ok (.invokevirtual 78, 3) := by decide +kernel
theorem dX10_init_363 : decode cX10_init 363 = .ok (.aload_n 0, 1) := by decide +kernel
theorem dX10_init_364 : decode cX10_init 364 = .ok (.iconst 1, 1) := by decide +kernel
theorem dX10_init_365 : decode cX10_init 365 = .ok (.iconst 1, 1) := by decide +kernel
theorem dX10_init_366 : decode cX10_init 366 = .ok (.iconst 5, 1) := by decide +kernel
theorem dX10_init_367 : decode cX10_init 367 = .ok (.bipush 7, 2) := by decide +kernel
theorem dX10_init_369 : decode cX10_init 369 = .ok (.invokevirtual 78, 3) := by decide +kernel
theorem dX10_init_372 : decode cX10_init 372 = .ok (.aload_n 0, 1) := by decide +kernel
theorem dX10_init_373 : decode cX10_init 373 = .ok (.iconst 1, 1) := by decide +kernel
theorem dX10_init_374 : decode cX10_init 374 = .ok (.iconst 5, 1) := by decide +kernel
theorem dX10_init_375 : decode cX10_init 375 = .ok (.iconst 4, 1) := by decide +kernel
theorem dX10_init_376 : decode cX10_init 376 = .ok (.bipush 7, 2) := by decide +kernel
theorem dX10_init_378 : decode cX10_init 378 = .ok (.invokevirtual 78, 3) := by decide +kernel
theorem dX10_init_381 : decode cX10_init 381 = .ok (.aload_n 0, 1) := by decide +kernel
theorem dX10_init_382 : decode cX10_init 382 = .ok (.iconst 1, 1) := by decide +kernel
theorem dX10_init_383 : decode cX10_init 383 = .ok (.iconst 3, 1) := by decide +kernel
theorem dX10_init_384 : decode cX10_init 384 = .ok (.iconst 4, 1) := by decide +kernel
theorem dX10_init_385 : decode cX10_init 385 = .ok (.iconst 5, 1) := by decide +kernel
theorem dX10_init_386 : decode cX10_init 386 = .ok (.invokevirtual 78, 3) := by decide +kernel
theorem dX10_init_389 : decode cX10_init 389 = .ok (.aload_n 0, 1) := by decide +kernel
theorem dX10_init_390 : decode cX10_init 390 = .ok (.invokevirtual 81, 3) := by decide +kernel
theorem dX10_init_393 : decode cX10_init 393 = .ok (.return_, 1) := by decide +kernel
theorem dX10_meets_0 : decode cX10_meets 0 = .ok (.bipush 8, 2) := by decide +kernel
theorem dX10_meets_2 : decode cX10_meets 2 = .ok (.iload_n 1, 1) := by decide +kernel
theorem dX10_meets_3 : decode cX10_meets 3 = .ok (.imul, 1) := by decide +kernel
theorem dX10_meets_4 : decode cX10_meets 4 = .ok (.aload_n 0, 1) := by decide +kernel
theorem dX10_meets_5 : decode cX10_meets 5 = .ok (.getfield 16, 3) := by decide +kernel
theorem dX10_meets_8 : decode cX10_meets 8 = .ok (.iload_n 1, 1) := by decide +kernel
theorem dX10_meets_9 : decode cX10_meets 9 = .ok (.iaload, 1) := by decide +kernel
theorem dX10_meets_10 : decode cX10_meets 10 = .ok (.iadd, 1) := by decide +kernel
theorem dX10_meets_11 : decode cX10_meets 11 = .ok (.istore 5, 2) := by decide +kernel
theorem dX10_meets_13 : decode cX10_meets 13 = .ok (.aload_n 0, 1) := by decide +kernel
theorem dX10_meets_14 : decode cX10_meets 14 = .ok (.getfield 23, 3) := by decide +kernel
theorem dX10_meets_17 : decode cX10_meets 17 = .ok (.iload 5, 2) := by decide +kernel
theorem dX10_meets_19 : decode cX10_meets 19 = .ok (.iload_n 2, 1) := by decide +kernel
theorem dX10_meets_20 : decode cX10_meets 20 = .ok (.iastore, 1) := by decide +kernel
theorem dX10_meets_21 : decode cX10_meets 21 = .ok (.aload_n 0, 1) := by decide +kernel
theorem dX10_meets_22 : decode cX10_meets 22 = .ok (.getfield 26, 3) := by decide +kernel
theorem dX10_meets_25 : decode cX10_meets 25 = .ok (.iload 5, 2) := by decide +kernel
theorem dX10_meets_27 : decode cX10_meets 27 = .ok (.iload_n 3, 1) := by decide +kernel
theorem dX10_meets_28 : decode cX10_meets 28 = .ok (.iastore, 1) := by decide +kernel
theorem dX10_meets_29 : decode cX10_meets 29 = .ok (.aload_n 0, 1) := by decide +kernel
theorem dX10_meets_30 : decode cX10_meets 30 = .ok (.getfield 29, 3) := by decide +kernel
theorem dX10_meets_33 : decode cX10_meets 33 = .ok (.iload 5, 2) := by decide +kernel
theorem dX10_meets_35 : decode cX10_meets 35 = .ok (.iload 4, 2) := by decide +kernel
theorem dX10_meets_37 : decode cX10_meets 37 = .ok (.iastore, 1) := by decide +kernel
theorem dX10_meets_38 : decode cX10_meets 38 = .ok (.aload_n 0, 1) := by decide +kernel
theorem dX10_meets_39 : decode cX10_meets 39 = .ok (.getfield 16, 3) := by decide +kernel
theorem dX10_meets_42 : decode cX10_meets 42 = .ok (.iload_n 1, 1) := by decide +kernel
theorem dX10_meets_43 : decode cX10_meets 43 = .ok (.dup2, 1) := by decide +kernel
theorem dX10_meets_44 : decode cX10_meets 44 = .ok (.iaload, 1) := by decide +kernel
theorem dX10_meets_45 : decode cX10_meets 45 = .ok (.iconst 1, 1) := by decide +kernel
theorem dX10_meets_46 : decode cX10_meets 46 = .ok (.iadd, 1) := by decide +kernel
theorem dX10_meets_47 : decode cX10_meets 47 = .ok (.iastore, 1) := by decide +kernel
theorem dX10_meets_48 : decode cX10_meets 48 = .ok (.return_, 1) := by decide +kernel
theorem dX10_joins_0 : decode cX10_joins 0 = .ok (.bipush 8, 2) := by decide +kernel
theorem dX10_joins_2 : decode cX10_joins 2 = .ok (.iload_n 1, 1) := by decide +kernel
theorem dX10_joins_3 : decode cX10_joins 3 = .ok (.imul, 1) := by decide +kernel
theorem dX10_joins_4 : decode cX10_joins 4 = .ok (.aload_n 0, 1) := by decide +kernel
theorem dX10_joins_5 : decode cX10_joins 5 = .ok (.getfield 20, 3) := by decide +kernel
theorem dX10_joins_8 : decode cX10_joins 8 = .ok (.iload_n 1, 1) := by decide +kernel
theorem dX10_joins_9 : decode cX10_joins 9 = .ok (.iaload, 1) := by decide +kernel
theorem dX10_joins_10 : decode cX10_joins 10 = .ok (.iadd, 1) := by decide +kernel
theorem dX10_joins_11 : decode cX10_joins 11 = .ok (.istore 5, 2) := by decide +kernel
theorem dX10_joins_13 : decode cX10_joins 13 = .ok (.aload_n 0, 1) := by decide +kernel
theorem dX10_joins_14 : decode cX10_joins 14 = .ok (.getfield 32, 3) := by decide +kernel
theorem dX10_joins_17 : decode cX10_joins 17 = .ok (.iload 5, 2) := by decide +kernel
theorem dX10_joins_19 : decode cX10_joins 19 = .ok (.iload_n 2, 1) := by decide +kernel
theorem dX10_joins_20 : decode cX10_joins 20 = .ok (.iastore, 1) := by decide +kernel
theorem dX10_joins_21 : decode cX10_joins 21 = .ok (.aload_n 0, 1) := by decide +kernel
theorem dX10_joins_22 : decode cX10_joins 22 = .ok (.getfield 35, 3) := by decide +kernel
theorem dX10_joins_25 : decode cX10_joins 25 = .ok (.iload 5, 2) := by decide +kernel
theorem dX10_joins_27 : decode cX10_joins 27 = .ok (.iload_n 3, 1) := by decide +kernel
theorem dX10_joins_28 : decode cX10_joins 28 = .ok (.iastore, 1) := by decide +kernel
theorem dX10_joins_29 : decode cX10_joins 29 = .ok (.aload_n 0, 1) := by decide +kernel
theorem dX10_joins_30 : decode cX10_joins 30 = .ok (.getfield 38, 3) := by decide +kernel
theorem dX10_joins_33 : decode cX10_joins 33 = .ok (.iload 5, 2) := by decide +kernel
theorem dX10_joins_35 : decode cX10_joins 35 = .ok (.iload 4, 2) := by decide +kernel
theorem dX10_joins_37 : decode cX10_joins 37 = .ok (.iastore, 1) := by decide +kernel
theorem dX10_joins_38 : decode cX10_joins 38 = .ok (.aload_n 0, 1) := by decide +kernel
theorem dX10_joins_39 : decode cX10_joins 39 = .ok (.getfield 20, 3) := by decide +kernel
theorem dX10_joins_42 : decode cX10_joins 42 = .ok (.iload_n 1, 1) := by decide +kernel
theorem dX10_joins_43 : decode cX10_joins 43 = .ok (.dup2, 1) := by decide +kernel
theorem dX10_joins_44 : decode cX10_joins 44 = .ok (.iaload, 1) := by decide +kernel
theorem dX10_joins_45 : decode cX10_joins 45 = .ok (.iconst 1, 1) := by decide +kernel
theorem dX10_joins_46 : decode cX10_joins 46 = .ok (.iadd, 1) := by decide +kernel
theorem dX10_joins_47 : decode cX10_joins 47 = .ok (.iastore, 1) := by decide +kernel
theorem dX10_joins_48 : decode cX10_joins 48 = .ok (.return_, 1) := by decide +kernel
theorem dX10_isSurvey_0 : decode cX10_isSurvey 0 = .ok (.iload_n 0, 1) := by decide +kernel
theorem dX10_isSurvey_1 : decode cX10_isSurvey 1 = .ok (.iconst 0, 1) := by decide +kernel
theorem dX10_isSurvey_2 : decode cX10_isSurvey 2 = .ok (.iconst 1, 1) := by decide +kernel
theorem dX10_isSurvey_3 : decode cX10_isSurvey 3 = .ok (.invokestatic 84, 3) := by decide +kernel
theorem dX10_isSurvey_6 : decode cX10_isSurvey 6 = .ok (.ireturn, 1) := by decide +kernel
theorem dX10_isMeeting_0 : decode cX10_isMeeting 0 = .ok (.iload_n 1, 1) := by decide +kernel
theorem dX10_isMeeting_1 : decode cX10_isMeeting 1 = .ok (.invokestatic 88, 3) := by decide +kernel
theorem dX10_isMeeting_4 : decode cX10_isMeeting 4 = .ok (.ifCond .eq 23, 3) := by decide +kernel
theorem dX10_isMeeting_7 : decode cX10_isMeeting 7 = .ok (.iload_n 2, 1) := by decide +kernel
theorem dX10_isMeeting_8 : decode cX10_isMeeting 8 = .ok (.iconst 0, 1) := by decide +kernel
theorem dX10_isMeeting_9 : decode cX10_isMeeting 9 = .ok (.aload_n 0, 1) := by decide +kernel
theorem dX10_isMeeting_10 : decode cX10_isMeeting 10 = .ok (.getfield 16, 3) := by decide +kernel
theorem dX10_isMeeting_13 : decode cX10_isMeeting 13 = .ok (.iload_n 1, 1) := by decide +kernel
theorem dX10_isMeeting_14 : decode cX10_isMeeting 14 = .ok (.iaload, 1) := by decide +kernel
theorem dX10_isMeeting_15 : decode cX10_isMeeting 15 = .ok (.iconst 1, 1) := by decide +kernel
theorem dX10_isMeeting_16 : decode cX10_isMeeting 16 = .ok (.isub, 1) := by decide +kernel
theorem dX10_isMeeting_17 : decode cX10_isMeeting 17 = .ok (.invokestatic 84, 3) := by decide +kernel
theorem dX10_isMeeting_20 : decode cX10_isMeeting 20 = .ok (.ifCond .eq 7, 3) := by decide +kernel
theorem dX10_isMeeting_23 : decode cX10_isMeeting 23 = .ok (.iconst 1, 1) := by decide +kernel
theorem dX10_isMeeting_24 : decode cX10_isMeeting 24 = .ok (.goto 4, 3) := by decide +kernel
theorem dX10_isMeeting_27 : decode cX10_isMeeting 27 = .ok (.iconst 0, 1) := by decide +kernel
theorem dX10_isMeeting_28 : decode cX10_isMeeting 28 = .ok (.ireturn, 1) := by decide +kernel
theorem dX10_isStreet_0 : decode cX10_isStreet 0 = .ok (.iload_n 1, 1) := by decide +kernel
theorem dX10_isStreet_1 : decode cX10_isStreet 1 = .ok (.invokestatic 88, 3) := by decide +kernel
theorem dX10_isStreet_4 : decode cX10_isStreet 4 = .ok (.ifCond .eq 23, 3) := by decide +kernel
theorem dX10_isStreet_7 : decode cX10_isStreet 7 = .ok (.iload_n 2, 1) := by decide +kernel
theorem dX10_isStreet_8 : decode cX10_isStreet 8 = .ok (.iconst 0, 1) := by decide +kernel
theorem dX10_isStreet_9 : decode cX10_isStreet 9 = .ok (.aload_n 0, 1) := by decide +kernel
theorem dX10_isStreet_10 : decode cX10_isStreet 10 = .ok (.getfield 20, 3) := by decide +kernel
theorem dX10_isStreet_13 : decode cX10_isStreet 13 = .ok (.iload_n 1, 1) := by decide +kernel
theorem dX10_isStreet_14 : decode cX10_isStreet 14 = .ok (.iaload, 1) := by decide +kernel
theorem dX10_isStreet_15 : decode cX10_isStreet 15 = .ok (.iconst 1, 1) := by decide +kernel
theorem dX10_isStreet_16 : decode cX10_isStreet 16 = .ok (.isub, 1) := by decide +kernel
theorem dX10_isStreet_17 : decode cX10_isStreet 17 = .ok (.invokestatic 84, 3) := by decide +kernel
theorem dX10_isStreet_20 : decode cX10_isStreet 20 = .ok (.ifCond .eq 7, 3) := by decide +kernel
theorem dX10_isStreet_23 : decode cX10_isStreet 23 = .ok (.iconst 1, 1) := by decide +kernel
theorem dX10_isStreet_24 : decode cX10_isStreet 24 = .ok (.goto 4, 3) := by decide +kernel
theorem dX10_isStreet_27 : decode cX10_isStreet 27 = .ok (.iconst 0, 1) := by decide +kernel
theorem dX10_isStreet_28 : decode cX10_isStreet 28 = .ok (.ireturn, 1) := by decide +kernel
theorem dX10_between_0 : decode cX10_between 0 = .ok (.bipush (-4), 2) := by decide +kernel
theorem dX10_between_2 : decode cX10_between 2 = .ok (.istore 4, 2) := by decide +kernel
theorem dX10_between_4 : decode cX10_between 4 = .ok (.iconst 0, 1) := by decide +kernel
theorem dX10_between_5 : decode cX10_between 5 = .ok (.istore 5, 2) := by decide +kernel
theorem dX10_between_7 : decode cX10_between 7 = .ok (.iload 5, 2) := by decide +kernel
theorem dX10_between_9 : decode cX10_between 9 = .ok (.aload_n 0, 1) := by decide +kernel
theorem dX10_between_10 : decode cX10_between 10 = .ok (.getfield 20, 3) := by decide +kernel
theorem dX10_between_13 : decode cX10_between 13 = .ok (.iload_n 1, 1) := by decide +kernel
theorem dX10_between_14 : decode cX10_between 14 = .ok (.iaload, 1) := by decide +kernel
theorem dX10_between_15 : decode cX10_between 15 = .ok (.if_icmp .ge 83, 3) := by decide +kernel
theorem dX10_between_18 : decode cX10_between 18 = .ok (.bipush 8, 2) := by decide +kernel
theorem dX10_between_20 : decode cX10_between 20 = .ok (.iload_n 1, 1) := by decide +kernel
theorem dX10_between_21 : decode cX10_between 21 = .ok (.imul, 1) := by decide +kernel
theorem dX10_between_22 : decode cX10_between 22 = .ok (.iload 5, 2) := by decide +kernel
theorem dX10_between_24 : decode cX10_between 24 = .ok (.iadd, 1) := by decide +kernel
theorem dX10_between_25 : decode cX10_between 25 = .ok (.istore 6, 2) := by decide +kernel
theorem dX10_between_27 : decode cX10_between 27 = .ok (.aload_n 0, 1) := by decide +kernel
theorem dX10_between_28 : decode cX10_between 28 = .ok (.getfield 32, 3) := by decide +kernel
theorem dX10_between_31 : decode cX10_between 31 = .ok (.iload 6, 2) := by decide +kernel
theorem dX10_between_33 : decode cX10_between 33 = .ok (.iaload, 1) := by decide +kernel
theorem dX10_between_34 : decode cX10_between 34 = .ok (.iload_n 2, 1) := by decide +kernel
theorem dX10_between_35 : decode cX10_between 35 = .ok (.if_icmp .ne 14, 3) := by decide +kernel
theorem dX10_between_38 : decode cX10_between 38 = .ok (.aload_n 0, 1) := by decide +kernel
theorem dX10_between_39 : decode cX10_between 39 = .ok (.getfield 35, 3) := by decide +kernel
theorem dX10_between_42 : decode cX10_between 42 = .ok (.iload 6, 2) := by decide +kernel
theorem dX10_between_44 : decode cX10_between 44 = .ok (.iaload, 1) := by decide +kernel
theorem dX10_between_45 : decode cX10_between 45 = .ok (.iload_n 3, 1) := by decide +kernel
theorem dX10_between_46 : decode cX10_between 46 = .ok (.if_icmp .eq 25, 3) := by decide +kernel
theorem dX10_between_49 : decode cX10_between 49 = .ok (.aload_n 0, 1) := by decide +kernel
theorem dX10_between_50 : decode cX10_between 50 = .ok (.getfield 32, 3) := by decide +kernel
theorem dX10_between_53 : decode cX10_between 53 = .ok (.iload 6, 2) := by decide +kernel
theorem dX10_between_55 : decode cX10_between 55 = .ok (.iaload, 1) := by decide +kernel
theorem dX10_between_56 : decode cX10_between 56 = .ok (.iload_n 3, 1) := by decide +kernel
theorem dX10_between_57 : decode cX10_between 57 = .ok (.if_icmp .ne 18, 3) := by decide +kernel
theorem dX10_between_60 : decode cX10_between 60 = .ok (.aload_n 0, 1) := by decide +kernel
theorem dX10_between_61 : decode cX10_between 61 = .ok (.getfield 35, 3) := by decide +kernel
theorem dX10_between_64 : decode cX10_between 64 = .ok (.iload 6, 2) := by decide +kernel
theorem dX10_between_66 : decode cX10_between 66 = .ok (.iaload, 1) := by decide +kernel
theorem dX10_between_67 : decode cX10_between 67 = .ok (.iload_n 2, 1) := by decide +kernel
theorem dX10_between_68 : decode cX10_between 68 = .ok (.if_icmp .ne 7, 3) := by decide +kernel
theorem dX10_between_71 : decode cX10_between 71 = .ok (.iconst 1, 1) := by decide +kernel
theorem dX10_between_72 : decode cX10_between 72 = .ok (.goto 4, 3) := by decide +kernel
theorem dX10_between_75 : decode cX10_between 75 = .ok (.iconst 0, 1) := by decide +kernel
theorem dX10_between_76 : decode cX10_between 76 = .ok (.istore 7, 2) := by decide +kernel
theorem dX10_between_78 : decode cX10_between 78 = .ok (.iload 7, 2) := by decide +kernel
theorem dX10_between_80 : decode cX10_between 80 = .ok (.ifCond .eq 8, 3) := by decide +kernel
theorem dX10_between_83 : decode cX10_between 83 = .ok (.iload 5, 2) := by decide +kernel
theorem dX10_between_85 : decode cX10_between 85 = .ok (.goto 5, 3) := by decide +kernel
theorem dX10_between_88 : decode cX10_between 88 = .ok (.iload 4, 2) := by decide +kernel
theorem dX10_between_90 : decode cX10_between 90 = .ok (.istore 4, 2) := by decide +kernel
theorem dX10_between_92 : decode cX10_between 92 = .ok (.iinc 5 1, 3) := by decide +kernel
theorem dX10_between_95 : decode cX10_between 95 = .ok (.goto (-88), 3) := by decide +kernel
theorem dX10_between_98 : decode cX10_between 98 = .ok (.iload 4, 2) := by decide +kernel
theorem dX10_between_100 : decode cX10_between 100 = .ok (.ireturn, 1) := by decide +kernel
theorem dX10_streetsAt_0 : decode cX10_streetsAt 0 = .ok (.iconst 0, 1) := by decide +kernel
theorem dX10_streetsAt_1 : decode cX10_streetsAt 1 = .ok (.istore_n 3, 1) := by decide +kernel
theorem dX10_streetsAt_2 : decode cX10_streetsAt 2 = .ok (.iconst 0, 1) := by decide +kernel
theorem dX10_streetsAt_3 : decode cX10_streetsAt 3 = .ok (.istore 4, 2) := by decide +kernel
theorem dX10_streetsAt_5 : decode cX10_streetsAt 5 = .ok (.iload 4, 2) := by decide +kernel
theorem dX10_streetsAt_7 : decode cX10_streetsAt 7 = .ok (.aload_n 0, 1) := by decide +kernel
theorem dX10_streetsAt_8 : decode cX10_streetsAt 8 = .ok (.getfield 20, 3) := by decide +kernel
theorem dX10_streetsAt_11 : decode cX10_streetsAt 11 = .ok (.iload_n 1, 1) := by decide +kernel
theorem dX10_streetsAt_12 : decode cX10_streetsAt 12 = .ok (.iaload, 1) := by decide +kernel
theorem dX10_streetsAt_13 : decode cX10_streetsAt 13 = .ok (.if_icmp .ge 48, 3) := by decide +kernel
theorem dX10_streetsAt_16 : decode cX10_streetsAt 16 = .ok (.bipush 8, 2) := by decide +kernel
theorem dX10_streetsAt_18 : decode cX10_streetsAt 18 = .ok (.iload_n 1, 1) := by decide +kernel
theorem dX10_streetsAt_19 : decode cX10_streetsAt 19 = .ok (.imul, 1) := by decide +kernel
theorem dX10_streetsAt_20 : decode cX10_streetsAt 20 = .ok (.iload 4, 2) := by decide +kernel
theorem dX10_streetsAt_22 : decode cX10_streetsAt 22 = .ok (.iadd, 1) := by decide +kernel
theorem dX10_streetsAt_23 : decode cX10_streetsAt 23 = .ok (.istore 5, 2) := by decide +kernel
theorem dX10_streetsAt_25 : decode cX10_streetsAt 25 = .ok (.iload_n 3, 1) := by decide +kernel
theorem dX10_streetsAt_26 : decode cX10_streetsAt 26 = .ok (.aload_n 0, 1) := by decide +kernel
theorem dX10_streetsAt_27 : decode cX10_streetsAt 27 = .ok (.getfield 32, 3) := by decide +kernel
theorem dX10_streetsAt_30 : decode cX10_streetsAt 30 = .ok (.iload 5, 2) := by decide +kernel
theorem dX10_streetsAt_32 : decode cX10_streetsAt 32 = .ok (.iaload, 1) := by decide +kernel
theorem dX10_streetsAt_33 : decode cX10_streetsAt 33 = .ok (.iload_n 2, 1) := by decide +kernel
theorem dX10_streetsAt_34 : decode cX10_streetsAt 34 = .ok (.if_icmp .eq 14, 3) := by decide +kernel
theorem dX10_streetsAt_37 : decode cX10_streetsAt 37 = .ok (.aload_n 0, 1) := by decide +kernel
theorem dX10_streetsAt_38 : decode cX10_streetsAt 38 = .ok (.getfield 35, 3) := by decide +kernel
theorem dX10_streetsAt_41 : decode cX10_streetsAt 41 = .ok (.iload 5, 2) := by decide +kernel
theorem dX10_streetsAt_43 : decode cX10_streetsAt 43 = .ok (.iaload, 1) := by decide +kernel
theorem dX10_streetsAt_44 : decode cX10_streetsAt 44 = .ok (.iload_n 2, 1) := by decide +kernel
theorem dX10_streetsAt_45 : decode cX10_streetsAt 45 = .ok (.if_icmp .ne 7, 3) := by decide +kernel
theorem dX10_streetsAt_48 : decode cX10_streetsAt 48 = .ok (.iconst 1, 1) := by decide +kernel
theorem dX10_streetsAt_49 : decode cX10_streetsAt 49 = .ok (.goto 4, 3) := by decide +kernel
theorem dX10_streetsAt_52 : decode cX10_streetsAt 52 = .ok (.iconst 0, 1) := by decide +kernel
theorem dX10_streetsAt_53 : decode cX10_streetsAt 53 = .ok (.iadd, 1) := by decide +kernel
theorem dX10_streetsAt_54 : decode cX10_streetsAt 54 = .ok (.istore_n 3, 1) := by decide +kernel
theorem dX10_streetsAt_55 : decode cX10_streetsAt 55 = .ok (.iinc 4 1, 3) := by decide +kernel
theorem dX10_streetsAt_58 : decode cX10_streetsAt 58 = .ok (.goto (-53), 3) := by decide +kernel
theorem dX10_streetsAt_61 : decode cX10_streetsAt 61 = .ok (.iload_n 3, 1) := by decide +kernel
theorem dX10_streetsAt_62 : decode cX10_streetsAt 62 = .ok (.ireturn, 1) := by decide +kernel
theorem dX10_nearOf_0 : decode cX10_nearOf 0 = .ok (.aload_n 0, 1) := by decide +kernel
theorem dX10_nearOf_1 : decode cX10_nearOf 1 = .ok (.getfield 23, 3) := by decide +kernel
theorem dX10_nearOf_4 : decode cX10_nearOf 4 = .ok (.iload_n 1, 1) := by decide +kernel
theorem dX10_nearOf_5 : decode cX10_nearOf 5 = .ok (.iaload, 1) := by decide +kernel
theorem dX10_nearOf_6 : decode cX10_nearOf 6 = .ok (.istore_n 2, 1) := by decide +kernel
theorem dX10_nearOf_7 : decode cX10_nearOf 7 = .ok (.iload_n 2, 1) := by decide +kernel
theorem dX10_nearOf_8 : decode cX10_nearOf 8 = .ok (.iconst 2, 1) := by decide +kernel
theorem dX10_nearOf_9 : decode cX10_nearOf 9 = .ok (.if_icmp .ne 26, 3) := by decide +kernel
theorem dX10_nearOf_12 : decode cX10_nearOf 12 = .ok (.aload_n 0, 1) := by decide +kernel
theorem dX10_nearOf_13 : decode cX10_nearOf 13 = .ok (.getfield 7, 3) := by decide +kernel
theorem dX10_nearOf_16 : decode cX10_nearOf 16 = .ok (.iconst 5, 1) := by decide +kernel
theorem dX10_nearOf_17 : decode cX10_nearOf 17 = .ok (.iadd, 1) := by decide +kernel
theorem dX10_nearOf_18 : decode cX10_nearOf 18 = .ok (.bipush 20, 2) := by decide +kernel
theorem dX10_nearOf_20 : decode cX10_nearOf 20 = .ok (.if_icmp .ge 12, 3) := by decide +kernel
theorem dX10_nearOf_23 : decode cX10_nearOf 23 = .ok (.aload_n 0, 1) := by decide +kernel
theorem dX10_nearOf_24 : decode cX10_nearOf 24 = .ok (.getfield 7, 3) := by decide +kernel
theorem dX10_nearOf_27 : decode cX10_nearOf 27 = .ok (.iconst 5, 1) := by decide +kernel
theorem dX10_nearOf_28 : decode cX10_nearOf 28 = .ok (.iadd, 1) := by decide +kernel
theorem dX10_nearOf_29 : decode cX10_nearOf 29 = .ok (.goto 5, 3) := by decide +kernel
theorem dX10_nearOf_32 : decode cX10_nearOf 32 = .ok (.bipush 20, 2) := by decide +kernel
theorem dX10_nearOf_34 : decode cX10_nearOf 34 = .ok (.ireturn, 1) := by decide +kernel
theorem dX10_nearOf_35 : decode cX10_nearOf 35 = .ok (.iload_n 2, 1) := by decide +kernel
theorem dX10_nearOf_36 : decode cX10_nearOf 36 = .ok (.iconst 1, 1) := by decide +kernel
theorem dX10_nearOf_37 : decode cX10_nearOf 37 = .ok (.if_icmp .ne 12, 3) := by decide +kernel
theorem dX10_nearOf_40 : decode cX10_nearOf 40 = .ok (.aload_n 0, 1) := by decide +kernel
theorem dX10_nearOf_41 : decode cX10_nearOf 41 = .ok (.getfield 7, 3) := by decide +kernel
theorem dX10_nearOf_44 : decode cX10_nearOf 44 = .ok (.iconst 2, 1) := by decide +kernel
theorem dX10_nearOf_45 : decode cX10_nearOf 45 = .ok (.idiv, 1) := by decide +kernel
theorem dX10_nearOf_46 : decode cX10_nearOf 46 = .ok (.goto 23, 3) := by decide +kernel
theorem dX10_nearOf_49 : decode cX10_nearOf 49 = .ok (.iload_n 2, 1) := by decide +kernel
theorem dX10_nearOf_50 : decode cX10_nearOf 50 = .ok (.iconst 3, 1) := by decide +kernel
theorem dX10_nearOf_51 : decode cX10_nearOf 51 = .ok (.if_icmp .ne 14, 3) := by decide +kernel
theorem dX10_nearOf_54 : decode cX10_nearOf 54 = .ok (.aload_n 0, 1) := by decide +kernel
theorem dX10_nearOf_55 : decode cX10_nearOf 55 = .ok (.getfield 7, 3) := by decide +kernel
theorem dX10_nearOf_58 : decode cX10_nearOf 58 = .ok (.iconst 2, 1) := by decide +kernel
theorem dX10_nearOf_59 : decode cX10_nearOf 59 = .ok (.idiv, 1) := by decide +kernel
theorem dX10_nearOf_60 : decode cX10_nearOf 60 = .ok (.iconst 1, 1) := by decide +kernel
theorem dX10_nearOf_61 : decode cX10_nearOf 61 = .ok (.iadd, 1) := by decide +kernel
theorem dX10_nearOf_62 : decode cX10_nearOf 62 = .ok (.goto 7, 3) := by decide +kernel
theorem dX10_nearOf_65 : decode cX10_nearOf 65 = .ok (.aload_n 0, 1) := by decide +kernel
theorem dX10_nearOf_66 : decode cX10_nearOf 66 = .ok (.getfield 7, 3) := by decide +kernel
theorem dX10_nearOf_69 : decode cX10_nearOf 69 = .ok (.ireturn, 1) := by decide +kernel
theorem dX10_meeting_0 : decode cX10_meeting 0 = .ok (.aload_n 0, 1) := by decide +kernel
theorem dX10_meeting_1 : decode cX10_meeting 1 = .ok (.iload_n 1, 1) := by decide +kernel
theorem dX10_meeting_2 : decode cX10_meeting 2 = .ok (.iload_n 2, 1) := by decide +kernel
theorem dX10_meeting_3 : decode cX10_meeting 3 = .ok (.invokevirtual 92, 3) := by decide +kernel
theorem dX10_meeting_6 : decode cX10_meeting 6 = .ok (.ifCond .eq 12, 3) := by decide +kernel
theorem dX10_meeting_9 : decode cX10_meeting 9 = .ok (.iload_n 3, 1) := by decide +kernel
theorem dX10_meeting_10 : decode cX10_meeting 10 = .ok (.iconst 0, 1) := by decide +kernel
theorem dX10_meeting_11 : decode cX10_meeting 11 = .ok (.iconst 4, 1) := by decide +kernel
theorem dX10_meeting_12 : decode cX10_meeting 12 = .ok (.invokestatic 84, 3) := by decide +kernel
theorem dX10_meeting_15 : decode cX10_meeting 15 = .ok (.ifCond .ne 5, 3) := by decide +kernel
theorem dX10_meeting_18 : decode cX10_meeting 18 = .ok (.iconst (-1), 1) := by decide +kernel
theorem dX10_meeting_19 : decode cX10_meeting 19 = .ok (.ireturn, 1) := by decide +kernel
theorem dX10_meeting_20 : decode cX10_meeting 20 = .ok (.bipush 8, 2) := by decide +kernel
theorem dX10_meeting_22 : decode cX10_meeting 22 = .ok (.iload_n 1, 1) := by decide +kernel
theorem dX10_meeting_23 : decode cX10_meeting 23 = .ok (.imul, 1) := by decide +kernel
theorem dX10_meeting_24 : decode cX10_meeting 24 = .ok (.iload_n 2, 1) := by decide +kernel
theorem dX10_meeting_25 : decode cX10_meeting 25 = .ok (.iadd, 1) := by decide +kernel
theorem dX10_meeting_26 : decode cX10_meeting 26 = .ok (.istore 4, 2) := by decide +kernel
theorem dX10_meeting_28 : decode cX10_meeting 28 = .ok (.iload_n 3, 1) := by decide +kernel
theorem dX10_meeting_29 : decode cX10_meeting 29 = .ok (.tableswitch 62 0 3 #[31, 39, 47, 55], 31) := by decide +kernel
theorem dX10_meeting_60 : decode cX10_meeting 60 = .ok (.aload_n 0, 1) := by decide +kernel
theorem dX10_meeting_61 : decode cX10_meeting 61 = .ok (.getfield 23, 3) := by decide +kernel
theorem dX10_meeting_64 : decode cX10_meeting 64 = .ok (.iload 4, 2) := by decide +kernel
theorem dX10_meeting_66 : decode cX10_meeting 66 = .ok (.iaload, 1) := by decide +kernel
theorem dX10_meeting_67 : decode cX10_meeting 67 = .ok (.ireturn, 1) := by decide +kernel
theorem dX10_meeting_68 : decode cX10_meeting 68 = .ok (.aload_n 0, 1) := by decide +kernel
theorem dX10_meeting_69 : decode cX10_meeting 69 = .ok (.getfield 26, 3) := by decide +kernel
theorem dX10_meeting_72 : decode cX10_meeting 72 = .ok (.iload 4, 2) := by decide +kernel
theorem dX10_meeting_74 : decode cX10_meeting 74 = .ok (.iaload, 1) := by decide +kernel
theorem dX10_meeting_75 : decode cX10_meeting 75 = .ok (.ireturn, 1) := by decide +kernel
theorem dX10_meeting_76 : decode cX10_meeting 76 = .ok (.aload_n 0, 1) := by decide +kernel
theorem dX10_meeting_77 : decode cX10_meeting 77 = .ok (.getfield 29, 3) := by decide +kernel
theorem dX10_meeting_80 : decode cX10_meeting 80 = .ok (.iload 4, 2) := by decide +kernel
theorem dX10_meeting_82 : decode cX10_meeting 82 = .ok (.iaload, 1) := by decide +kernel
theorem dX10_meeting_83 : decode cX10_meeting 83 = .ok (.ireturn, 1) := by decide +kernel
theorem dX10_meeting_84 : decode cX10_meeting 84 = .ok (.aload_n 0, 1) := by decide +kernel
theorem dX10_meeting_85 : decode cX10_meeting 85 = .ok (.iload 4, 2) := by decide +kernel
theorem dX10_meeting_87 : decode cX10_meeting 87 = .ok (.invokevirtual 96, 3) := by decide +kernel
theorem dX10_meeting_90 : decode cX10_meeting 90 = .ok (.ireturn, 1) := by decide +kernel
theorem dX10_meeting_91 : decode cX10_meeting 91 = .ok (.aload_n 0, 1) := by decide +kernel
theorem dX10_meeting_92 : decode cX10_meeting 92 = .ok (.iload_n 1, 1) := by decide +kernel
theorem dX10_meeting_93 : decode cX10_meeting 93 = .ok (.iload_n 2, 1) := by decide +kernel
theorem dX10_meeting_94 : decode cX10_meeting 94 = .ok (.invokevirtual 100, 3) := by decide +kernel
theorem dX10_meeting_97 : decode cX10_meeting 97 = .ok (.ireturn, 1) := by decide +kernel
theorem dX10_street_0 : decode cX10_street 0 = .ok (.aload_n 0, 1) := by decide +kernel
theorem dX10_street_1 : decode cX10_street 1 = .ok (.iload_n 1, 1) := by decide +kernel
theorem dX10_street_2 : decode cX10_street 2 = .ok (.iload_n 2, 1) := by decide +kernel
theorem dX10_street_3 : decode cX10_street 3 = .ok (.invokevirtual 104, 3) := by decide +kernel
theorem dX10_street_6 : decode cX10_street 6 = .ok (.ifCond .eq 12, 3) := by decide +kernel
theorem dX10_street_9 : decode cX10_street 9 = .ok (.iload_n 3, 1) := by decide +kernel
theorem dX10_street_10 : decode cX10_street 10 = .ok (.iconst 0, 1) := by decide +kernel
theorem dX10_street_11 : decode cX10_street 11 = .ok (.iconst 2, 1) := by decide +kernel
theorem dX10_street_12 : decode cX10_street 12 = .ok (.invokestatic 84, 3) := by decide +kernel
theorem dX10_street_15 : decode cX10_street 15 = .ok (.ifCond .ne 5, 3) := by decide +kernel
theorem dX10_street_18 : decode cX10_street 18 = .ok (.iconst (-1), 1) := by decide +kernel
theorem dX10_street_19 : decode cX10_street 19 = .ok (.ireturn, 1) := by decide +kernel
theorem dX10_street_20 : decode cX10_street 20 = .ok (.bipush 8, 2) := by decide +kernel
theorem dX10_street_22 : decode cX10_street 22 = .ok (.iload_n 1, 1) := by decide +kernel
theorem dX10_street_23 : decode cX10_street 23 = .ok (.imul, 1) := by decide +kernel
theorem dX10_street_24 : decode cX10_street 24 = .ok (.iload_n 2, 1) := by decide +kernel
theorem dX10_street_25 : decode cX10_street 25 = .ok (.iadd, 1) := by decide +kernel
theorem dX10_street_26 : decode cX10_street 26 = .ok (.istore 4, 2) := by decide +kernel
theorem dX10_street_28 : decode cX10_street 28 = .ok (.iload_n 3, 1) := by decide +kernel
theorem dX10_street_29 : decode cX10_street 29 = .ok (.ifCond .ne 13, 3) := by decide +kernel
theorem dX10_street_32 : decode cX10_street 32 = .ok (.aload_n 0, 1) := by decide +kernel
theorem dX10_street_33 : decode cX10_street 33 = .ok (.getfield 32, 3) := by decide +kernel
theorem dX10_street_36 : decode cX10_street 36 = .ok (.iload 4, 2) := by decide +kernel
theorem dX10_street_38 : decode cX10_street 38 = .ok (.iaload, 1) := by decide +kernel
theorem dX10_street_39 : decode cX10_street 39 = .ok (.goto 25, 3) := by decide +kernel
theorem dX10_street_42 : decode cX10_street 42 = .ok (.iload_n 3, 1) := by decide +kernel
theorem dX10_street_43 : decode cX10_street 43 = .ok (.iconst 1, 1) := by decide +kernel
theorem dX10_street_44 : decode cX10_street 44 = .ok (.if_icmp .ne 13, 3) := by decide +kernel
theorem dX10_street_47 : decode cX10_street 47 = .ok (.aload_n 0, 1) := by decide +kernel
theorem dX10_street_48 : decode cX10_street 48 = .ok (.getfield 35, 3) := by decide +kernel
theorem dX10_street_51 : decode cX10_street 51 = .ok (.iload 4, 2) := by decide +kernel
theorem dX10_street_53 : decode cX10_street 53 = .ok (.iaload, 1) := by decide +kernel
theorem dX10_street_54 : decode cX10_street 54 = .ok (.goto 10, 3) := by decide +kernel
theorem dX10_street_57 : decode cX10_street 57 = .ok (.aload_n 0, 1) := by decide +kernel
theorem dX10_street_58 : decode cX10_street 58 = .ok (.getfield 38, 3) := by decide +kernel
theorem dX10_street_61 : decode cX10_street 61 = .ok (.iload 4, 2) := by decide +kernel
theorem dX10_street_63 : decode cX10_street 63 = .ok (.iaload, 1) := by decide +kernel
theorem dX10_street_64 : decode cX10_street 64 = .ok (.ireturn, 1) := by decide +kernel
theorem dX10_lays_0 : decode cX10_lays 0 = .ok (.aload_n 1, 1) := by decide +kernel
theorem dX10_lays_1 : decode cX10_lays 1 = .ok (.iload_n 2, 1) := by decide +kernel
theorem dX10_lays_2 : decode cX10_lays 2 = .ok (.aload_n 0, 1) := by decide +kernel
theorem dX10_lays_3 : decode cX10_lays 3 = .ok (.getfield 7, 3) := by decide +kernel
theorem dX10_lays_6 : decode cX10_lays 6 = .ok (.iastore, 1) := by decide +kernel
theorem dX10_lays_7 : decode cX10_lays 7 = .ok (.aload_n 1, 1) := by decide +kernel
theorem dX10_lays_8 : decode cX10_lays 8 = .ok (.iload_n 2, 1) := by decide +kernel
theorem dX10_lays_9 : decode cX10_lays 9 = .ok (.iconst 1, 1) := by decide +kernel
theorem dX10_lays_10 : decode cX10_lays 10 = .ok (.iadd, 1) := by decide +kernel
theorem dX10_lays_11 : decode cX10_lays 11 = .ok (.aload_n 0, 1) := by decide +kernel
theorem dX10_lays_12 : decode cX10_lays 12 = .ok (.getfield 13, 3) := by decide +kernel
theorem dX10_lays_15 : decode cX10_lays 15 = .ok (.iastore, 1) := by decide +kernel
theorem dX10_lays_16 : decode cX10_lays 16 = .ok (.iconst 0, 1) := by decide +kernel
theorem dX10_lays_17 : decode cX10_lays 17 = .ok (.istore_n 3, 1) := by decide +kernel
theorem dX10_lays_18 : decode cX10_lays 18 = .ok (.iload_n 3, 1) := by decide +kernel
theorem dX10_lays_19 : decode cX10_lays 19 = .ok (.iconst 2, 1) := by decide +kernel
theorem dX10_lays_20 : decode cX10_lays 20 = .ok (.if_icmp .ge 35, 3) := by decide +kernel
theorem dX10_lays_23 : decode cX10_lays 23 = .ok (.aload_n 1, 1) := by decide +kernel
theorem dX10_lays_24 : decode cX10_lays 24 = .ok (.iload_n 2, 1) := by decide +kernel
theorem dX10_lays_25 : decode cX10_lays 25 = .ok (.iconst 2, 1) := by decide +kernel
theorem dX10_lays_26 : decode cX10_lays 26 = .ok (.iadd, 1) := by decide +kernel
theorem dX10_lays_27 : decode cX10_lays 27 = .ok (.iload_n 3, 1) := by decide +kernel
theorem dX10_lays_28 : decode cX10_lays 28 = .ok (.iadd, 1) := by decide +kernel
theorem dX10_lays_29 : decode cX10_lays 29 = .ok (.aload_n 0, 1) := by decide +kernel
theorem dX10_lays_30 : decode cX10_lays 30 = .ok (.getfield 16, 3) := by decide +kernel
theorem dX10_lays_33 : decode cX10_lays 33 = .ok (.iload_n 3, 1) := by decide +kernel
theorem dX10_lays_34 : decode cX10_lays 34 = .ok (.iaload, 1) := by decide +kernel
theorem dX10_lays_35 : decode cX10_lays 35 = .ok (.iastore, 1) := by decide +kernel
theorem dX10_lays_36 : decode cX10_lays 36 = .ok (.aload_n 1, 1) := by decide +kernel
theorem dX10_lays_37 : decode cX10_lays 37 = .ok (.iload_n 2, 1) := by decide +kernel
theorem dX10_lays_38 : decode cX10_lays 38 = .ok (.iconst 4, 1) := by decide +kernel
theorem dX10_lays_39 : decode cX10_lays 39 = .ok (.iadd, 1) := by decide +kernel
theorem dX10_lays_40 : decode cX10_lays 40 = .ok (.iload_n 3, 1) := by decide +kernel
theorem dX10_lays_41 : decode cX10_lays 41 = .ok (.iadd, 1) := by decide +kernel
theorem dX10_lays_42 : decode cX10_lays 42 = .ok (.aload_n 0, 1) := by decide +kernel
theorem dX10_lays_43 : decode cX10_lays 43 = .ok (.getfield 20, 3) := by decide +kernel
theorem dX10_lays_46 : decode cX10_lays 46 = .ok (.iload_n 3, 1) := by decide +kernel
theorem dX10_lays_47 : decode cX10_lays 47 = .ok (.iaload, 1) := by decide +kernel
theorem dX10_lays_48 : decode cX10_lays 48 = .ok (.iastore, 1) := by decide +kernel
theorem dX10_lays_49 : decode cX10_lays 49 = .ok (.iinc 3 1, 3) := by decide +kernel
theorem dX10_lays_52 : decode cX10_lays 52 = .ok (.goto (-34), 3) := by decide +kernel
theorem dX10_lays_55 : decode cX10_lays 55 = .ok (.iconst 0, 1) := by decide +kernel
theorem dX10_lays_56 : decode cX10_lays 56 = .ok (.istore_n 3, 1) := by decide +kernel
theorem dX10_lays_57 : decode cX10_lays 57 = .ok (.iload_n 3, 1) := by decide +kernel
theorem dX10_lays_58 : decode cX10_lays 58 = .ok (.bipush 16, 2) := by decide +kernel
theorem dX10_lays_60 : decode cX10_lays 60 = .ok (.if_icmp .ge 93, 3) := by decide +kernel
theorem dX10_lays_63 : decode cX10_lays 63 = .ok (.aload_n 1, 1) := by decide +kernel
theorem dX10_lays_64 : decode cX10_lays 64 = .ok (.iload_n 2, 1) := by decide +kernel
theorem dX10_lays_65 : decode cX10_lays 65 = .ok (.bipush 6, 2) := by decide +kernel
theorem dX10_lays_67 : decode cX10_lays 67 = .ok (.iadd, 1) := by decide +kernel
theorem dX10_lays_68 : decode cX10_lays 68 = .ok (.iload_n 3, 1) := by decide +kernel
theorem dX10_lays_69 : decode cX10_lays 69 = .ok (.iadd, 1) := by decide +kernel
theorem dX10_lays_70 : decode cX10_lays 70 = .ok (.aload_n 0, 1) := by decide +kernel
theorem dX10_lays_71 : decode cX10_lays 71 = .ok (.getfield 23, 3) := by decide +kernel
theorem dX10_lays_74 : decode cX10_lays 74 = .ok (.iload_n 3, 1) := by decide +kernel
theorem dX10_lays_75 : decode cX10_lays 75 = .ok (.iaload, 1) := by decide +kernel
theorem dX10_lays_76 : decode cX10_lays 76 = .ok (.iastore, 1) := by decide +kernel
theorem dX10_lays_77 : decode cX10_lays 77 = .ok (.aload_n 1, 1) := by decide +kernel
theorem dX10_lays_78 : decode cX10_lays 78 = .ok (.iload_n 2, 1) := by decide +kernel
theorem dX10_lays_79 : decode cX10_lays 79 = .ok (.bipush 22, 2) := by decide +kernel
theorem dX10_lays_81 : decode cX10_lays 81 = .ok (.iadd, 1) := by decide +kernel
theorem dX10_lays_82 : decode cX10_lays 82 = .ok (.iload_n 3, 1) := by decide +kernel
theorem dX10_lays_83 : decode cX10_lays 83 = .ok (.iadd, 1) := by decide +kernel
theorem dX10_lays_84 : decode cX10_lays 84 = .ok (.aload_n 0, 1) := by decide +kernel
theorem dX10_lays_85 : decode cX10_lays 85 = .ok (.getfield 26, 3) := by decide +kernel
theorem dX10_lays_88 : decode cX10_lays 88 = .ok (.iload_n 3, 1) := by decide +kernel
theorem dX10_lays_89 : decode cX10_lays 89 = .ok (.iaload, 1) := by decide +kernel
theorem dX10_lays_90 : decode cX10_lays 90 = .ok (.iastore, 1) := by decide +kernel
theorem dX10_lays_91 : decode cX10_lays 91 = .ok (.aload_n 1, 1) := by decide +kernel
theorem dX10_lays_92 : decode cX10_lays 92 = .ok (.iload_n 2, 1) := by decide +kernel
theorem dX10_lays_93 : decode cX10_lays 93 = .ok (.bipush 38, 2) := by decide +kernel
theorem dX10_lays_95 : decode cX10_lays 95 = .ok (.iadd, 1) := by decide +kernel
theorem dX10_lays_96 : decode cX10_lays 96 = .ok (.iload_n 3, 1) := by decide +kernel
theorem dX10_lays_97 : decode cX10_lays 97 = .ok (.iadd, 1) := by decide +kernel
theorem dX10_lays_98 : decode cX10_lays 98 = .ok (.aload_n 0, 1) := by decide +kernel
theorem dX10_lays_99 : decode cX10_lays 99 = .ok (.getfield 29, 3) := by decide +kernel
theorem dX10_lays_102 : decode cX10_lays 102 = .ok (.iload_n 3, 1) := by decide +kernel
theorem dX10_lays_103 : decode cX10_lays 103 = .ok (.iaload, 1) := by decide +kernel
theorem dX10_lays_104 : decode cX10_lays 104 = .ok (.iastore, 1) := by decide +kernel
theorem dX10_lays_105 : decode cX10_lays 105 = .ok (.aload_n 1, 1) := by decide +kernel
theorem dX10_lays_106 : decode cX10_lays 106 = .ok (.iload_n 2, 1) := by decide +kernel
theorem dX10_lays_107 : decode cX10_lays 107 = .ok (.bipush 54, 2) := by decide +kernel
theorem dX10_lays_109 : decode cX10_lays 109 = .ok (.iadd, 1) := by decide +kernel
theorem dX10_lays_110 : decode cX10_lays 110 = .ok (.iload_n 3, 1) := by decide +kernel
theorem dX10_lays_111 : decode cX10_lays 111 = .ok (.iadd, 1) := by decide +kernel
theorem dX10_lays_112 : decode cX10_lays 112 = .ok (.aload_n 0, 1) := by decide +kernel
theorem dX10_lays_113 : decode cX10_lays 113 = .ok (.getfield 32, 3) := by decide +kernel
theorem dX10_lays_116 : decode cX10_lays 116 = .ok (.iload_n 3, 1) := by decide +kernel
theorem dX10_lays_117 : decode cX10_lays 117 = .ok (.iaload, 1) := by decide +kernel
theorem dX10_lays_118 : decode cX10_lays 118 = .ok (.iastore, 1) := by decide +kernel
theorem dX10_lays_119 : decode cX10_lays 119 = .ok (.aload_n 1, 1) := by decide +kernel
theorem dX10_lays_120 : decode cX10_lays 120 = .ok (.iload_n 2, 1) := by decide +kernel
theorem dX10_lays_121 : decode cX10_lays 121 = .ok (.bipush 70, 2) := by decide +kernel
theorem dX10_lays_123 : decode cX10_lays 123 = .ok (.iadd, 1) := by decide +kernel
theorem dX10_lays_124 : decode cX10_lays 124 = .ok (.iload_n 3, 1) := by decide +kernel
theorem dX10_lays_125 : decode cX10_lays 125 = .ok (.iadd, 1) := by decide +kernel
theorem dX10_lays_126 : decode cX10_lays 126 = .ok (.aload_n 0, 1) := by decide +kernel
theorem dX10_lays_127 : decode cX10_lays 127 = .ok (.getfield 35, 3) := by decide +kernel
theorem dX10_lays_130 : decode cX10_lays 130 = .ok (.iload_n 3, 1) := by decide +kernel
theorem dX10_lays_131 : decode cX10_lays 131 = .ok (.iaload, 1) := by decide +kernel
theorem dX10_lays_132 : decode cX10_lays 132 = .ok (.iastore, 1) := by decide +kernel
theorem dX10_lays_133 : decode cX10_lays 133 = .ok (.aload_n 1, 1) := by decide +kernel
theorem dX10_lays_134 : decode cX10_lays 134 = .ok (.iload_n 2, 1) := by decide +kernel
theorem dX10_lays_135 : decode cX10_lays 135 = .ok (.bipush 86, 2) := by decide +kernel
theorem dX10_lays_137 : decode cX10_lays 137 = .ok (.iadd, 1) := by decide +kernel
theorem dX10_lays_138 : decode cX10_lays 138 = .ok (.iload_n 3, 1) := by decide +kernel
theorem dX10_lays_139 : decode cX10_lays 139 = .ok (.iadd, 1) := by decide +kernel
theorem dX10_lays_140 : decode cX10_lays 140 = .ok (.aload_n 0, 1) := by decide +kernel
theorem dX10_lays_141 : decode cX10_lays 141 = .ok (.getfield 38, 3) := by decide +kernel
theorem dX10_lays_144 : decode cX10_lays 144 = .ok (.iload_n 3, 1) := by decide +kernel
theorem dX10_lays_145 : decode cX10_lays 145 = .ok (.iaload, 1) := by decide +kernel
theorem dX10_lays_146 : decode cX10_lays 146 = .ok (.iastore, 1) := by decide +kernel
theorem dX10_lays_147 : decode cX10_lays 147 = .ok (.iinc 3 1, 3) := by decide +kernel
theorem dX10_lays_150 : decode cX10_lays 150 = .ok (.goto (-93), 3) := by decide +kernel
theorem dX10_lays_153 : decode cX10_lays 153 = .ok (.return_, 1) := by decide +kernel
theorem dX10_takes_0 : decode cX10_takes 0 = .ok (.aload_n 0, 1) := by decide +kernel
theorem dX10_takes_1 : decode cX10_takes 1 = .ok (.aload_n 1, 1) := by decide +kernel
theorem dX10_takes_2 : decode cX10_takes 2 = .ok (.iload_n 2, 1) := by decide +kernel
theorem dX10_takes_3 : decode cX10_takes 3 = .ok (.iaload, 1) := by decide +kernel
theorem dX10_takes_4 : decode cX10_takes 4 = .ok (.putfield 7, 3) := by decide +kernel
theorem dX10_takes_7 : decode cX10_takes 7 = .ok (.aload_n 0, 1) := by decide +kernel
theorem dX10_takes_8 : decode cX10_takes 8 = .ok (.aload_n 1, 1) := by decide +kernel
theorem dX10_takes_9 : decode cX10_takes 9 = .ok (.iload_n 2, 1) := by decide +kernel
theorem dX10_takes_10 : decode cX10_takes 10 = .ok (.iconst 1, 1) := by decide +kernel
theorem dX10_takes_11 : decode cX10_takes 11 = .ok (.iadd, 1) := by decide +kernel
theorem dX10_takes_12 : decode cX10_takes 12 = .ok (.iaload, 1) := by decide +kernel
theorem dX10_takes_13 : decode cX10_takes 13 = .ok (.putfield 13, 3) := by decide +kernel
theorem dX10_takes_16 : decode cX10_takes 16 = .ok (.iconst 0, 1) := by decide +kernel
theorem dX10_takes_17 : decode cX10_takes 17 = .ok (.istore_n 3, 1) := by decide +kernel
theorem dX10_takes_18 : decode cX10_takes 18 = .ok (.iload_n 3, 1) := by decide +kernel
theorem dX10_takes_19 : decode cX10_takes 19 = .ok (.iconst 2, 1) := by decide +kernel
theorem dX10_takes_20 : decode cX10_takes 20 = .ok (.if_icmp .ge 35, 3) := by decide +kernel
theorem dX10_takes_23 : decode cX10_takes 23 = .ok (.aload_n 0, 1) := by decide +kernel
theorem dX10_takes_24 : decode cX10_takes 24 = .ok (.getfield 16, 3) := by decide +kernel
theorem dX10_takes_27 : decode cX10_takes 27 = .ok (.iload_n 3, 1) := by decide +kernel
theorem dX10_takes_28 : decode cX10_takes 28 = .ok (.aload_n 1, 1) := by decide +kernel
theorem dX10_takes_29 : decode cX10_takes 29 = .ok (.iload_n 2, 1) := by decide +kernel
theorem dX10_takes_30 : decode cX10_takes 30 = .ok (.iconst 2, 1) := by decide +kernel
theorem dX10_takes_31 : decode cX10_takes 31 = .ok (.iadd, 1) := by decide +kernel
theorem dX10_takes_32 : decode cX10_takes 32 = .ok (.iload_n 3, 1) := by decide +kernel
theorem dX10_takes_33 : decode cX10_takes 33 = .ok (.iadd, 1) := by decide +kernel
theorem dX10_takes_34 : decode cX10_takes 34 = .ok (.iaload, 1) := by decide +kernel
theorem dX10_takes_35 : decode cX10_takes 35 = .ok (.iastore, 1) := by decide +kernel
theorem dX10_takes_36 : decode cX10_takes 36 = .ok (.aload_n 0, 1) := by decide +kernel
theorem dX10_takes_37 : decode cX10_takes 37 = .ok (.getfield 20, 3) := by decide +kernel
theorem dX10_takes_40 : decode cX10_takes 40 = .ok (.iload_n 3, 1) := by decide +kernel
theorem dX10_takes_41 : decode cX10_takes 41 = .ok (.aload_n 1, 1) := by decide +kernel
theorem dX10_takes_42 : decode cX10_takes 42 = .ok (.iload_n 2, 1) := by decide +kernel
theorem dX10_takes_43 : decode cX10_takes 43 = .ok (.iconst 4, 1) := by decide +kernel
theorem dX10_takes_44 : decode cX10_takes 44 = .ok (.iadd, 1) := by decide +kernel
theorem dX10_takes_45 : decode cX10_takes 45 = .ok (.iload_n 3, 1) := by decide +kernel
theorem dX10_takes_46 : decode cX10_takes 46 = .ok (.iadd, 1) := by decide +kernel
theorem dX10_takes_47 : decode cX10_takes 47 = .ok (.iaload, 1) := by decide +kernel
theorem dX10_takes_48 : decode cX10_takes 48 = .ok (.iastore, 1) := by decide +kernel
theorem dX10_takes_49 : decode cX10_takes 49 = .ok (.iinc 3 1, 3) := by decide +kernel
theorem dX10_takes_52 : decode cX10_takes 52 = .ok (.goto (-34), 3) := by decide +kernel
theorem dX10_takes_55 : decode cX10_takes 55 = .ok (.iconst 0, 1) := by decide +kernel
theorem dX10_takes_56 : decode cX10_takes 56 = .ok (.istore_n 3, 1) := by decide +kernel
theorem dX10_takes_57 : decode cX10_takes 57 = .ok (.iload_n 3, 1) := by decide +kernel
theorem dX10_takes_58 : decode cX10_takes 58 = .ok (.bipush 16, 2) := by decide +kernel
theorem dX10_takes_60 : decode cX10_takes 60 = .ok (.if_icmp .ge 93, 3) := by decide +kernel
theorem dX10_takes_63 : decode cX10_takes 63 = .ok (.aload_n 0, 1) := by decide +kernel
theorem dX10_takes_64 : decode cX10_takes 64 = .ok (.getfield 23, 3) := by decide +kernel
theorem dX10_takes_67 : decode cX10_takes 67 = .ok (.iload_n 3, 1) := by decide +kernel
theorem dX10_takes_68 : decode cX10_takes 68 = .ok (.aload_n 1, 1) := by decide +kernel
theorem dX10_takes_69 : decode cX10_takes 69 = .ok (.iload_n 2, 1) := by decide +kernel
theorem dX10_takes_70 : decode cX10_takes 70 = .ok (.bipush 6, 2) := by decide +kernel
theorem dX10_takes_72 : decode cX10_takes 72 = .ok (.iadd, 1) := by decide +kernel
theorem dX10_takes_73 : decode cX10_takes 73 = .ok (.iload_n 3, 1) := by decide +kernel
theorem dX10_takes_74 : decode cX10_takes 74 = .ok (.iadd, 1) := by decide +kernel
theorem dX10_takes_75 : decode cX10_takes 75 = .ok (.iaload, 1) := by decide +kernel
theorem dX10_takes_76 : decode cX10_takes 76 = .ok (.iastore, 1) := by decide +kernel
theorem dX10_takes_77 : decode cX10_takes 77 = .ok (.aload_n 0, 1) := by decide +kernel
theorem dX10_takes_78 : decode cX10_takes 78 = .ok (.getfield 26, 3) := by decide +kernel
theorem dX10_takes_81 : decode cX10_takes 81 = .ok (.iload_n 3, 1) := by decide +kernel
theorem dX10_takes_82 : decode cX10_takes 82 = .ok (.aload_n 1, 1) := by decide +kernel
theorem dX10_takes_83 : decode cX10_takes 83 = .ok (.iload_n 2, 1) := by decide +kernel
theorem dX10_takes_84 : decode cX10_takes 84 = .ok (.bipush 22, 2) := by decide +kernel
theorem dX10_takes_86 : decode cX10_takes 86 = .ok (.iadd, 1) := by decide +kernel
theorem dX10_takes_87 : decode cX10_takes 87 = .ok (.iload_n 3, 1) := by decide +kernel
theorem dX10_takes_88 : decode cX10_takes 88 = .ok (.iadd, 1) := by decide +kernel
theorem dX10_takes_89 : decode cX10_takes 89 = .ok (.iaload, 1) := by decide +kernel
theorem dX10_takes_90 : decode cX10_takes 90 = .ok (.iastore, 1) := by decide +kernel
theorem dX10_takes_91 : decode cX10_takes 91 = .ok (.aload_n 0, 1) := by decide +kernel
theorem dX10_takes_92 : decode cX10_takes 92 = .ok (.getfield 29, 3) := by decide +kernel
theorem dX10_takes_95 : decode cX10_takes 95 = .ok (.iload_n 3, 1) := by decide +kernel
theorem dX10_takes_96 : decode cX10_takes 96 = .ok (.aload_n 1, 1) := by decide +kernel
theorem dX10_takes_97 : decode cX10_takes 97 = .ok (.iload_n 2, 1) := by decide +kernel
theorem dX10_takes_98 : decode cX10_takes 98 = .ok (.bipush 38, 2) := by decide +kernel
theorem dX10_takes_100 : decode cX10_takes 100 = .ok (.iadd, 1) := by decide +kernel
theorem dX10_takes_101 : decode cX10_takes 101 = .ok (.iload_n 3, 1) := by decide +kernel
theorem dX10_takes_102 : decode cX10_takes 102 = .ok (.iadd, 1) := by decide +kernel
theorem dX10_takes_103 : decode cX10_takes 103 = .ok (.iaload, 1) := by decide +kernel
theorem dX10_takes_104 : decode cX10_takes 104 = .ok (.iastore, 1) := by decide +kernel
theorem dX10_takes_105 : decode cX10_takes 105 = .ok (.aload_n 0, 1) := by decide +kernel
theorem dX10_takes_106 : decode cX10_takes 106 = .ok (.getfield 32, 3) := by decide +kernel
theorem dX10_takes_109 : decode cX10_takes 109 = .ok (.iload_n 3, 1) := by decide +kernel
theorem dX10_takes_110 : decode cX10_takes 110 = .ok (.aload_n 1, 1) := by decide +kernel
theorem dX10_takes_111 : decode cX10_takes 111 = .ok (.iload_n 2, 1) := by decide +kernel
theorem dX10_takes_112 : decode cX10_takes 112 = .ok (.bipush 54, 2) := by decide +kernel
theorem dX10_takes_114 : decode cX10_takes 114 = .ok (.iadd, 1) := by decide +kernel
theorem dX10_takes_115 : decode cX10_takes 115 = .ok (.iload_n 3, 1) := by decide +kernel
theorem dX10_takes_116 : decode cX10_takes 116 = .ok (.iadd, 1) := by decide +kernel
theorem dX10_takes_117 : decode cX10_takes 117 = .ok (.iaload, 1) := by decide +kernel
theorem dX10_takes_118 : decode cX10_takes 118 = .ok (.iastore, 1) := by decide +kernel
theorem dX10_takes_119 : decode cX10_takes 119 = .ok (.aload_n 0, 1) := by decide +kernel
theorem dX10_takes_120 : decode cX10_takes 120 = .ok (.getfield 35, 3) := by decide +kernel
theorem dX10_takes_123 : decode cX10_takes 123 = .ok (.iload_n 3, 1) := by decide +kernel
theorem dX10_takes_124 : decode cX10_takes 124 = .ok (.aload_n 1, 1) := by decide +kernel
theorem dX10_takes_125 : decode cX10_takes 125 = .ok (.iload_n 2, 1) := by decide +kernel
theorem dX10_takes_126 : decode cX10_takes 126 = .ok (.bipush 70, 2) := by decide +kernel
theorem dX10_takes_128 : decode cX10_takes 128 = .ok (.iadd, 1) := by decide +kernel
theorem dX10_takes_129 : decode cX10_takes 129 = .ok (.iload_n 3, 1) := by decide +kernel
theorem dX10_takes_130 : decode cX10_takes 130 = .ok (.iadd, 1) := by decide +kernel
theorem dX10_takes_131 : decode cX10_takes 131 = .ok (.iaload, 1) := by decide +kernel
theorem dX10_takes_132 : decode cX10_takes 132 = .ok (.iastore, 1) := by decide +kernel
theorem dX10_takes_133 : decode cX10_takes 133 = .ok (.aload_n 0, 1) := by decide +kernel
theorem dX10_takes_134 : decode cX10_takes 134 = .ok (.getfield 38, 3) := by decide +kernel
theorem dX10_takes_137 : decode cX10_takes 137 = .ok (.iload_n 3, 1) := by decide +kernel
theorem dX10_takes_138 : decode cX10_takes 138 = .ok (.aload_n 1, 1) := by decide +kernel
theorem dX10_takes_139 : decode cX10_takes 139 = .ok (.iload_n 2, 1) := by decide +kernel
theorem dX10_takes_140 : decode cX10_takes 140 = .ok (.bipush 86, 2) := by decide +kernel
theorem dX10_takes_142 : decode cX10_takes 142 = .ok (.iadd, 1) := by decide +kernel
theorem dX10_takes_143 : decode cX10_takes 143 = .ok (.iload_n 3, 1) := by decide +kernel
theorem dX10_takes_144 : decode cX10_takes 144 = .ok (.iadd, 1) := by decide +kernel
theorem dX10_takes_145 : decode cX10_takes 145 = .ok (.iaload, 1) := by decide +kernel
theorem dX10_takes_146 : decode cX10_takes 146 = .ok (.iastore, 1) := by decide +kernel
theorem dX10_takes_147 : decode cX10_takes 147 = .ok (.iinc 3 1, 3) := by decide +kernel
theorem dX10_takes_150 : decode cX10_takes 150 = .ok (.goto (-93), 3) := by decide +kernel
theorem dX10_takes_153 : decode cX10_takes 153 = .ok (.return_, 1) := by decide +kernel
theorem dX10_notes_0 : decode cX10_notes 0 = .ok (.aload_n 0, 1) := by decide +kernel
theorem dX10_notes_1 : decode cX10_notes 1 = .ok (.getfield 107, 3) := by decide +kernel
theorem dX10_notes_4 : decode cX10_notes 4 = .ok (.bipush 8, 2) := by decide +kernel
theorem dX10_notes_6 : decode cX10_notes 6 = .ok (.if_icmp .ne 43, 3) := by decide +kernel
theorem dX10_notes_9 : decode cX10_notes 9 = .ok (.iconst 0, 1) := by decide +kernel
theorem dX10_notes_10 : decode cX10_notes 10 = .ok (.istore_n 1, 1) := by decide +kernel
theorem dX10_notes_11 : decode cX10_notes 11 = .ok (.iload_n 1, 1) := by decide +kernel
theorem dX10_notes_12 : decode cX10_notes 12 = .ok (.sipush 714, 3) := by decide +kernel
theorem dX10_notes_15 : decode cX10_notes 15 = .ok (.if_icmp .ge 24, 3) := by decide +kernel
theorem dX10_notes_18 : decode cX10_notes 18 = .ok (.aload_n 0, 1) := by decide +kernel
theorem dX10_notes_19 : decode cX10_notes 19 = .ok (.getfield 41, 3) := by decide +kernel
theorem dX10_notes_22 : decode cX10_notes 22 = .ok (.iload_n 1, 1) := by decide +kernel
theorem dX10_notes_23 : decode cX10_notes 23 = .ok (.aload_n 0, 1) := by decide +kernel
theorem dX10_notes_24 : decode cX10_notes 24 = .ok (.getfield 41, 3) := by decide +kernel
theorem dX10_notes_27 : decode cX10_notes 27 = .ok (.iload_n 1, 1) := by decide +kernel
theorem dX10_notes_28 : decode cX10_notes 28 = .ok (.bipush 102, 2) := by decide +kernel
theorem dX10_notes_30 : decode cX10_notes 30 = .ok (.iadd, 1) := by decide +kernel
theorem dX10_notes_31 : decode cX10_notes 31 = .ok (.iaload, 1) := by decide +kernel
theorem dX10_notes_32 : decode cX10_notes 32 = .ok (.iastore, 1) := by decide +kernel
theorem dX10_notes_33 : decode cX10_notes 33 = .ok (.iinc 1 1, 3) := by decide +kernel
theorem dX10_notes_36 : decode cX10_notes 36 = .ok (.goto (-25), 3) := by decide +kernel
theorem dX10_notes_39 : decode cX10_notes 39 = .ok (.aload_n 0, 1) := by decide +kernel
theorem dX10_notes_40 : decode cX10_notes 40 = .ok (.dup, 1) := by decide +kernel
theorem dX10_notes_41 : decode cX10_notes 41 = .ok (.getfield 107, 3) := by decide +kernel
theorem dX10_notes_44 : decode cX10_notes 44 = .ok (.iconst 1, 1) := by decide +kernel
theorem dX10_notes_45 : decode cX10_notes 45 = .ok (.isub, 1) := by decide +kernel
theorem dX10_notes_46 : decode cX10_notes 46 = .ok (.putfield 107, 3) := by decide +kernel
theorem dX10_notes_49 : decode cX10_notes 49 = .ok (.aload_n 0, 1) := by decide +kernel
theorem dX10_notes_50 : decode cX10_notes 50 = .ok (.aload_n 0, 1) := by decide +kernel
theorem dX10_notes_51 : decode cX10_notes 51 = .ok (.getfield 41, 3) := by decide +kernel
theorem dX10_notes_54 : decode cX10_notes 54 = .ok (.bipush 102, 2) := by decide +kernel
theorem dX10_notes_56 : decode cX10_notes 56 = .ok (.aload_n 0, 1) := by decide +kernel
theorem dX10_notes_57 : decode cX10_notes 57 = .ok (.getfield 107, 3) := by decide +kernel
theorem dX10_notes_60 : decode cX10_notes 60 = .ok (.imul, 1) := by decide +kernel
theorem dX10_notes_61 : decode cX10_notes 61 = .ok (.invokevirtual 110, 3) := by decide +kernel
theorem dX10_notes_64 : decode cX10_notes 64 = .ok (.aload_n 0, 1) := by decide +kernel
theorem dX10_notes_65 : decode cX10_notes 65 = .ok (.dup, 1) := by decide +kernel
theorem dX10_notes_66 : decode cX10_notes 66 = .ok (.getfield 107, 3) := by decide +kernel
theorem dX10_notes_69 : decode cX10_notes 69 = .ok (.iconst 1, 1) := by decide +kernel
theorem dX10_notes_70 : decode cX10_notes 70 = .ok (.iadd, 1) := by decide +kernel
theorem dX10_notes_71 : decode cX10_notes 71 = .ok (.putfield 107, 3) := by decide +kernel
theorem dX10_notes_74 : decode cX10_notes 74 = .ok (.return_, 1) := by decide +kernel
theorem dX10_move_0 : decode cX10_move 0 = .ok (.aload_n 0, 1) := by decide +kernel
theorem dX10_move_1 : decode cX10_move 1 = .ok (.iload_n 1, 1) := by decide +kernel
theorem dX10_move_2 : decode cX10_move 2 = .ok (.iload_n 2, 1) := by decide +kernel
theorem dX10_move_3 : decode cX10_move 3 = .ok (.invokevirtual 92, 3) := by decide +kernel
theorem dX10_move_6 : decode cX10_move 6 = .ok (.ifCond .eq 24, 3) := by decide +kernel
theorem dX10_move_9 : decode cX10_move 9 = .ok (.iload_n 3, 1) := by decide +kernel
theorem dX10_move_10 : decode cX10_move 10 = .ok (.iconst 0, 1) := by decide +kernel
theorem dX10_move_11 : decode cX10_move 11 = .ok (.bipush 60, 2) := by decide +kernel
theorem dX10_move_13 : decode cX10_move 13 = .ok (.invokestatic 84, 3) := by decide +kernel
theorem dX10_move_16 : decode cX10_move 16 = .ok (.ifCond .eq 14, 3) := by decide +kernel
theorem dX10_move_19 : decode cX10_move 19 = .ok (.iload 4, 2) := by decide +kernel
theorem dX10_move_21 : decode cX10_move 21 = .ok (.iconst 0, 1) := by decide +kernel
theorem dX10_move_22 : decode cX10_move 22 = .ok (.bipush 60, 2) := by decide +kernel
theorem dX10_move_24 : decode cX10_move 24 = .ok (.invokestatic 84, 3) := by decide +kernel
theorem dX10_move_27 : decode cX10_move 27 = .ok (.ifCond .ne 5, 3) := by decide +kernel
theorem dX10_move_30 : decode cX10_move 30 = .ok (.iconst (-1), 1) := by decide +kernel
theorem dX10_move_31 : decode cX10_move 31 = .ok (.ireturn, 1) := by decide +kernel
theorem dX10_move_32 : decode cX10_move 32 = .ok (.bipush 8, 2) := by decide +kernel
theorem dX10_move_34 : decode cX10_move 34 = .ok (.iload_n 1, 1) := by decide +kernel
theorem dX10_move_35 : decode cX10_move 35 = .ok (.imul, 1) := by decide +kernel
theorem dX10_move_36 : decode cX10_move 36 = .ok (.iload_n 2, 1) := by decide +kernel
theorem dX10_move_37 : decode cX10_move 37 = .ok (.iadd, 1) := by decide +kernel
theorem dX10_move_38 : decode cX10_move 38 = .ok (.istore 5, 2) := by decide +kernel
theorem dX10_move_40 : decode cX10_move 40 = .ok (.aload_n 0, 1) := by decide +kernel
theorem dX10_move_41 : decode cX10_move 41 = .ok (.getfield 26, 3) := by decide +kernel
theorem dX10_move_44 : decode cX10_move 44 = .ok (.iload 5, 2) := by decide +kernel
theorem dX10_move_46 : decode cX10_move 46 = .ok (.iaload, 1) := by decide +kernel
theorem dX10_move_47 : decode cX10_move 47 = .ok (.iload_n 3, 1) := by decide +kernel
theorem dX10_move_48 : decode cX10_move 48 = .ok (.if_icmp .ne 18, 3) := by decide +kernel
theorem dX10_move_51 : decode cX10_move 51 = .ok (.aload_n 0, 1) := by decide +kernel
theorem dX10_move_52 : decode cX10_move 52 = .ok (.getfield 29, 3) := by decide +kernel
theorem dX10_move_55 : decode cX10_move 55 = .ok (.iload 5, 2) := by decide +kernel
theorem dX10_move_57 : decode cX10_move 57 = .ok (.iaload, 1) := by decide +kernel
theorem dX10_move_58 : decode cX10_move 58 = .ok (.iload 4, 2) := by decide +kernel
theorem dX10_move_60 : decode cX10_move 60 = .ok (.if_icmp .ne 6, 3) := by decide +kernel
theorem dX10_move_63 : decode cX10_move 63 = .ok (.bipush (-2), 2) := by decide +kernel
theorem dX10_move_65 : decode cX10_move 65 = .ok (.ireturn, 1) := by decide +kernel
theorem dX10_move_66 : decode cX10_move 66 = .ok (.aload_n 0, 1) := by decide +kernel
theorem dX10_move_67 : decode cX10_move 67 = .ok (.invokevirtual 114, 3) := by decide +kernel
theorem dX10_move_70 : decode cX10_move 70 = .ok (.aload_n 0, 1) := by decide +kernel
theorem dX10_move_71 : decode cX10_move 71 = .ok (.getfield 26, 3) := by decide +kernel
theorem dX10_move_74 : decode cX10_move 74 = .ok (.iload 5, 2) := by decide +kernel
theorem dX10_move_76 : decode cX10_move 76 = .ok (.iload_n 3, 1) := by decide +kernel
theorem dX10_move_77 : decode cX10_move 77 = .ok (.iastore, 1) := by decide +kernel
theorem dX10_move_78 : decode cX10_move 78 = .ok (.aload_n 0, 1) := by decide +kernel
theorem dX10_move_79 : decode cX10_move 79 = .ok (.getfield 29, 3) := by decide +kernel
theorem dX10_move_82 : decode cX10_move 82 = .ok (.iload 5, 2) := by decide +kernel
theorem dX10_move_84 : decode cX10_move 84 = .ok (.iload 4, 2) := by decide +kernel
theorem dX10_move_86 : decode cX10_move 86 = .ok (.iastore, 1) := by decide +kernel
theorem dX10_move_87 : decode cX10_move 87 = .ok (.iconst 1, 1) := by decide +kernel
theorem dX10_move_88 : decode cX10_move 88 = .ok (.ireturn, 1) := by decide +kernel
theorem dX10_becomes_0 : decode cX10_becomes 0 = .ok (.aload_n 1, 1) := by decide +kernel
theorem dX10_becomes_1 : decode cX10_becomes 1 = .ok (.iload_n 2, 1) := by decide +kernel
theorem dX10_becomes_2 : decode cX10_becomes 2 = .ok (.iaload, 1) := by decide +kernel
theorem dX10_becomes_3 : decode cX10_becomes 3 = .ok (.istore 4, 2) := by decide +kernel
theorem dX10_becomes_5 : decode cX10_becomes 5 = .ok (.iload 4, 2) := by decide +kernel
theorem dX10_becomes_7 : decode cX10_becomes 7 = .ok (.iload_n 3, 1) := by decide +kernel
theorem dX10_becomes_8 : decode cX10_becomes 8 = .ok (.if_icmp .ne 6, 3) := by decide +kernel
theorem dX10_becomes_11 : decode cX10_becomes 11 = .ok (.bipush (-2), 2) := by decide +kernel
theorem dX10_becomes_13 : decode cX10_becomes 13 = .ok (.ireturn, 1) := by decide +kernel
theorem dX10_becomes_14 : decode cX10_becomes 14 = .ok (.aload_n 0, 1) := by decide +kernel
theorem dX10_becomes_15 : decode cX10_becomes 15 = .ok (.invokevirtual 114, 3) := by decide +kernel
theorem dX10_becomes_18 : decode cX10_becomes 18 = .ok (.aload_n 1, 1) := by decide +kernel
theorem dX10_becomes_19 : decode cX10_becomes 19 = .ok (.iload_n 2, 1) := by decide +kernel
theorem dX10_becomes_20 : decode cX10_becomes 20 = .ok (.iload_n 3, 1) := by decide +kernel
theorem dX10_becomes_21 : decode cX10_becomes 21 = .ok (.iastore, 1) := by decide +kernel
theorem dX10_becomes_22 : decode cX10_becomes 22 = .ok (.iload 4, 2) := by decide +kernel
theorem dX10_becomes_24 : decode cX10_becomes 24 = .ok (.ireturn, 1) := by decide +kernel
theorem dX10_rename_0 : decode cX10_rename 0 = .ok (.aload_n 0, 1) := by decide +kernel
theorem dX10_rename_1 : decode cX10_rename 1 = .ok (.iload_n 1, 1) := by decide +kernel
theorem dX10_rename_2 : decode cX10_rename 2 = .ok (.iload_n 2, 1) := by decide +kernel
theorem dX10_rename_3 : decode cX10_rename 3 = .ok (.invokevirtual 92, 3) := by decide +kernel
theorem dX10_rename_6 : decode cX10_rename 6 = .ok (.ifCond .eq 30, 3) := by decide +kernel
theorem dX10_rename_9 : decode cX10_rename 9 = .ok (.iload_n 3, 1) := by decide +kernel
theorem dX10_rename_10 : decode cX10_rename 10 = .ok (.iconst 0, 1) := by decide +kernel
theorem dX10_rename_11 : decode cX10_rename 11 = .ok (.iconst 3, 1) := by decide +kernel
theorem dX10_rename_12 : decode cX10_rename 12 = .ok (.invokestatic 84, 3) := by decide +kernel
theorem dX10_rename_15 : decode cX10_rename 15 = .ok (.ifCond .eq 21, 3) := by decide +kernel
theorem dX10_rename_18 : decode cX10_rename 18 = .ok (.aload_n 0, 1) := by decide +kernel
theorem dX10_rename_19 : decode cX10_rename 19 = .ok (.aload_n 0, 1) := by decide +kernel
theorem dX10_rename_20 : decode cX10_rename 20 = .ok (.getfield 23, 3) := by decide +kernel
theorem dX10_rename_23 : decode cX10_rename 23 = .ok (.bipush 8, 2) := by decide +kernel
theorem dX10_rename_25 : decode cX10_rename 25 = .ok (.iload_n 1, 1) := by decide +kernel
theorem dX10_rename_26 : decode cX10_rename 26 = .ok (.imul, 1) := by decide +kernel
theorem dX10_rename_27 : decode cX10_rename 27 = .ok (.iload_n 2, 1) := by decide +kernel
theorem dX10_rename_28 : decode cX10_rename 28 = .ok (.iadd, 1) := by decide +kernel
theorem dX10_rename_29 : decode cX10_rename 29 = .ok (.iload_n 3, 1) := by decide +kernel
theorem dX10_rename_30 : decode cX10_rename 30 = .ok (.invokevirtual 117, 3) := by decide +kernel
theorem dX10_rename_33 : decode cX10_rename 33 = .ok (.goto 4, 3) := by decide +kernel
theorem dX10_rename_36 : decode cX10_rename 36 = .ok (.iconst (-1), 1) := by decide +kernel
theorem dX10_rename_37 : decode cX10_rename 37 = .ok (.ireturn, 1) := by decide +kernel
theorem dX10_name_0 : decode cX10_name 0 = .ok (.aload_n 0, 1) := by decide +kernel
theorem dX10_name_1 : decode cX10_name 1 = .ok (.iload_n 1, 1) := by decide +kernel
theorem dX10_name_2 : decode cX10_name 2 = .ok (.iload_n 2, 1) := by decide +kernel
theorem dX10_name_3 : decode cX10_name 3 = .ok (.invokevirtual 104, 3) := by decide +kernel
theorem dX10_name_6 : decode cX10_name 6 = .ok (.ifCond .eq 31, 3) := by decide +kernel
theorem dX10_name_9 : decode cX10_name 9 = .ok (.iload_n 3, 1) := by decide +kernel
theorem dX10_name_10 : decode cX10_name 10 = .ok (.iconst 0, 1) := by decide +kernel
theorem dX10_name_11 : decode cX10_name 11 = .ok (.bipush 9, 2) := by decide +kernel
theorem dX10_name_13 : decode cX10_name 13 = .ok (.invokestatic 84, 3) := by decide +kernel
theorem dX10_name_16 : decode cX10_name 16 = .ok (.ifCond .eq 21, 3) := by decide +kernel
theorem dX10_name_19 : decode cX10_name 19 = .ok (.aload_n 0, 1) := by decide +kernel
theorem dX10_name_20 : decode cX10_name 20 = .ok (.aload_n 0, 1) := by decide +kernel
theorem dX10_name_21 : decode cX10_name 21 = .ok (.getfield 38, 3) := by decide +kernel
theorem dX10_name_24 : decode cX10_name 24 = .ok (.bipush 8, 2) := by decide +kernel
theorem dX10_name_26 : decode cX10_name 26 = .ok (.iload_n 1, 1) := by decide +kernel
theorem dX10_name_27 : decode cX10_name 27 = .ok (.imul, 1) := by decide +kernel
theorem dX10_name_28 : decode cX10_name 28 = .ok (.iload_n 2, 1) := by decide +kernel
theorem dX10_name_29 : decode cX10_name 29 = .ok (.iadd, 1) := by decide +kernel
theorem dX10_name_30 : decode cX10_name 30 = .ok (.iload_n 3, 1) := by decide +kernel
theorem dX10_name_31 : decode cX10_name 31 = .ok (.invokevirtual 117, 3) := by decide +kernel
theorem dX10_name_34 : decode cX10_name 34 = .ok (.goto 4, 3) := by decide +kernel
theorem dX10_name_37 : decode cX10_name 37 = .ok (.iconst (-1), 1) := by decide +kernel
theorem dX10_name_38 : decode cX10_name 38 = .ok (.ireturn, 1) := by decide +kernel
theorem dX10_join_0 : decode cX10_join 0 = .ok (.aload_n 0, 1) := by decide +kernel
theorem dX10_join_1 : decode cX10_join 1 = .ok (.iload_n 1, 1) := by decide +kernel
theorem dX10_join_2 : decode cX10_join 2 = .ok (.iload_n 2, 1) := by decide +kernel
theorem dX10_join_3 : decode cX10_join 3 = .ok (.invokevirtual 92, 3) := by decide +kernel
theorem dX10_join_6 : decode cX10_join 6 = .ok (.ifCond .eq 28, 3) := by decide +kernel
theorem dX10_join_9 : decode cX10_join 9 = .ok (.aload_n 0, 1) := by decide +kernel
theorem dX10_join_10 : decode cX10_join 10 = .ok (.iload_n 1, 1) := by decide +kernel
theorem dX10_join_11 : decode cX10_join 11 = .ok (.iload_n 3, 1) := by decide +kernel
theorem dX10_join_12 : decode cX10_join 12 = .ok (.invokevirtual 92, 3) := by decide +kernel
theorem dX10_join_15 : decode cX10_join 15 = .ok (.ifCond .eq 19, 3) := by decide +kernel
theorem dX10_join_18 : decode cX10_join 18 = .ok (.iload_n 2, 1) := by decide +kernel
theorem dX10_join_19 : decode cX10_join 19 = .ok (.iload_n 3, 1) := by decide +kernel
theorem dX10_join_20 : decode cX10_join 20 = .ok (.if_icmp .eq 14, 3) := by decide +kernel
theorem dX10_join_23 : decode cX10_join 23 = .ok (.iload 4, 2) := by decide +kernel
theorem dX10_join_25 : decode cX10_join 25 = .ok (.iconst 0, 1) := by decide +kernel
theorem dX10_join_26 : decode cX10_join 26 = .ok (.bipush 9, 2) := by decide +kernel
theorem dX10_join_28 : decode cX10_join 28 = .ok (.invokestatic 84, 3) := by decide +kernel
theorem dX10_join_31 : decode cX10_join 31 = .ok (.ifCond .ne 5, 3) := by decide +kernel
theorem dX10_join_34 : decode cX10_join 34 = .ok (.iconst (-1), 1) := by decide +kernel
theorem dX10_join_35 : decode cX10_join 35 = .ok (.ireturn, 1) := by decide +kernel
theorem dX10_join_36 : decode cX10_join 36 = .ok (.aload_n 0, 1) := by decide +kernel
theorem dX10_join_37 : decode cX10_join 37 = .ok (.iload_n 1, 1) := by decide +kernel
theorem dX10_join_38 : decode cX10_join 38 = .ok (.iload_n 2, 1) := by decide +kernel
theorem dX10_join_39 : decode cX10_join 39 = .ok (.iload_n 3, 1) := by decide +kernel
theorem dX10_join_40 : decode cX10_join 40 = .ok (.invokevirtual 121, 3) := by decide +kernel
theorem dX10_join_43 : decode cX10_join 43 = .ok (.bipush (-4), 2) := by decide +kernel
theorem dX10_join_45 : decode cX10_join 45 = .ok (.if_icmp .eq 6, 3) := by decide +kernel
theorem dX10_join_48 : decode cX10_join 48 = .ok (.bipush (-2), 2) := by decide +kernel
theorem dX10_join_50 : decode cX10_join 50 = .ok (.ireturn, 1) := by decide +kernel
theorem dX10_join_51 : decode cX10_join 51 = .ok (.aload_n 0, 1) := by decide +kernel
theorem dX10_join_52 : decode cX10_join 52 = .ok (.getfield 20, 3) := by decide +kernel
theorem dX10_join_55 : decode cX10_join 55 = .ok (.iload_n 1, 1) := by decide +kernel
theorem dX10_join_56 : decode cX10_join 56 = .ok (.iaload, 1) := by decide +kernel
theorem dX10_join_57 : decode cX10_join 57 = .ok (.bipush 8, 2) := by decide +kernel
theorem dX10_join_59 : decode cX10_join 59 = .ok (.if_icmp .ne 6, 3) := by decide +kernel
theorem dX10_join_62 : decode cX10_join 62 = .ok (.bipush (-3), 2) := by decide +kernel
theorem dX10_join_64 : decode cX10_join 64 = .ok (.ireturn, 1) := by decide +kernel
theorem dX10_join_65 : decode cX10_join 65 = .ok (.aload_n 0, 1) := by decide +kernel
theorem dX10_join_66 : decode cX10_join 66 = .ok (.invokevirtual 114, 3) := by decide +kernel
theorem dX10_join_69 : decode cX10_join 69 = .ok (.aload_n 0, 1) := by decide +kernel
theorem dX10_join_70 : decode cX10_join 70 = .ok (.iload_n 1, 1) := by decide +kernel
theorem dX10_join_71 : decode cX10_join 71 = .ok (.iload_n 2, 1) := by decide +kernel
theorem dX10_join_72 : decode cX10_join 72 = .ok (.iload_n 3, 1) := by decide +kernel
theorem dX10_join_73 : decode cX10_join 73 = .ok (.iload 4, 2) := by decide +kernel
theorem dX10_join_75 : decode cX10_join 75 = .ok (.invokevirtual 78, 3) := by decide +kernel
theorem dX10_join_78 : decode cX10_join 78 = .ok (.aload_n 0, 1) := by decide +kernel
theorem dX10_join_79 : decode cX10_join 79 = .ok (.getfield 20, 3) := by decide +kernel
theorem dX10_join_82 : decode cX10_join 82 = .ok (.iload_n 1, 1) := by decide +kernel
theorem dX10_join_83 : decode cX10_join 83 = .ok (.iaload, 1) := by decide +kernel
theorem dX10_join_84 : decode cX10_join 84 = .ok (.ireturn, 1) := by decide +kernel
theorem dX10_cut_0 : decode cX10_cut 0 = .ok (.aload_n 0, 1) := by decide +kernel
theorem dX10_cut_1 : decode cX10_cut 1 = .ok (.iload_n 1, 1) := by decide +kernel
theorem dX10_cut_2 : decode cX10_cut 2 = .ok (.iload_n 2, 1) := by decide +kernel
theorem dX10_cut_3 : decode cX10_cut 3 = .ok (.invokevirtual 104, 3) := by decide +kernel
theorem dX10_cut_6 : decode cX10_cut 6 = .ok (.ifCond .ne 5, 3) := by decide +kernel
theorem dX10_cut_9 : decode cX10_cut 9 = .ok (.iconst (-1), 1) := by decide +kernel
theorem dX10_cut_10 : decode cX10_cut 10 = .ok (.ireturn, 1) := by decide +kernel
theorem dX10_cut_11 : decode cX10_cut 11 = .ok (.aload_n 0, 1) := by decide +kernel
theorem dX10_cut_12 : decode cX10_cut 12 = .ok (.invokevirtual 114, 3) := by decide +kernel
theorem dX10_cut_15 : decode cX10_cut 15 = .ok (.aload_n 0, 1) := by decide +kernel
theorem dX10_cut_16 : decode cX10_cut 16 = .ok (.getfield 20, 3) := by decide +kernel
theorem dX10_cut_19 : decode cX10_cut 19 = .ok (.iload_n 1, 1) := by decide +kernel
theorem dX10_cut_20 : decode cX10_cut 20 = .ok (.dup2, 1) := by decide +kernel
theorem dX10_cut_21 : decode cX10_cut 21 = .ok (.iaload, 1) := by decide +kernel
theorem dX10_cut_22 : decode cX10_cut 22 = .ok (.iconst 1, 1) := by decide +kernel
theorem dX10_cut_23 : decode cX10_cut 23 = .ok (.isub, 1) := by decide +kernel
theorem dX10_cut_24 : decode cX10_cut 24 = .ok (.iastore, 1) := by decide +kernel
theorem dX10_cut_25 : decode cX10_cut 25 = .ok (.iload_n 2, 1) := by decide +kernel
theorem dX10_cut_26 : decode cX10_cut 26 = .ok (.istore_n 3, 1) := by decide +kernel
theorem dX10_cut_27 : decode cX10_cut 27 = .ok (.iload_n 3, 1) := by decide +kernel
theorem dX10_cut_28 : decode cX10_cut 28 = .ok (.aload_n 0, 1) := by decide +kernel
theorem dX10_cut_29 : decode cX10_cut 29 = .ok (.getfield 20, 3) := by decide +kernel
theorem dX10_cut_32 : decode cX10_cut 32 = .ok (.iload_n 1, 1) := by decide +kernel
theorem dX10_cut_33 : decode cX10_cut 33 = .ok (.iaload, 1) := by decide +kernel
theorem dX10_cut_34 : decode cX10_cut 34 = .ok (.if_icmp .ge 65, 3) := by decide +kernel
theorem dX10_cut_37 : decode cX10_cut 37 = .ok (.bipush 8, 2) := by decide +kernel
theorem dX10_cut_39 : decode cX10_cut 39 = .ok (.iload_n 1, 1) := by decide +kernel
theorem dX10_cut_40 : decode cX10_cut 40 = .ok (.imul, 1) := by decide +kernel
theorem dX10_cut_41 : decode cX10_cut 41 = .ok (.iload_n 3, 1) := by decide +kernel
theorem dX10_cut_42 : decode cX10_cut 42 = .ok (.iadd, 1) := by decide +kernel
theorem dX10_cut_43 : decode cX10_cut 43 = .ok (.istore 4, 2) := by decide +kernel
theorem dX10_cut_45 : decode cX10_cut 45 = .ok (.aload_n 0, 1) := by decide +kernel
theorem dX10_cut_46 : decode cX10_cut 46 = .ok (.getfield 32, 3) := by decide +kernel
theorem dX10_cut_49 : decode cX10_cut 49 = .ok (.iload 4, 2) := by decide +kernel
theorem dX10_cut_51 : decode cX10_cut 51 = .ok (.aload_n 0, 1) := by decide +kernel
theorem dX10_cut_52 : decode cX10_cut 52 = .ok (.getfield 32, 3) := by decide +kernel
theorem dX10_cut_55 : decode cX10_cut 55 = .ok (.iload 4, 2) := by decide +kernel
theorem dX10_cut_57 : decode cX10_cut 57 = .ok (.iconst 1, 1) := by decide +kernel
theorem dX10_cut_58 : decode cX10_cut 58 = .ok (.iadd, 1) := by decide +kernel
theorem dX10_cut_59 : decode cX10_cut 59 = .ok (.iaload, 1) := by decide +kernel
theorem dX10_cut_60 : decode cX10_cut 60 = .ok (.iastore, 1) := by decide +kernel
theorem dX10_cut_61 : decode cX10_cut 61 = .ok (.aload_n 0, 1) := by decide +kernel
theorem dX10_cut_62 : decode cX10_cut 62 = .ok (.getfield 35, 3) := by decide +kernel
theorem dX10_cut_65 : decode cX10_cut 65 = .ok (.iload 4, 2) := by decide +kernel
theorem dX10_cut_67 : decode cX10_cut 67 = .ok (.aload_n 0, 1) := by decide +kernel
theorem dX10_cut_68 : decode cX10_cut 68 = .ok (.getfield 35, 3) := by decide +kernel
theorem dX10_cut_71 : decode cX10_cut 71 = .ok (.iload 4, 2) := by decide +kernel
theorem dX10_cut_73 : decode cX10_cut 73 = .ok (.iconst 1, 1) := by decide +kernel
theorem dX10_cut_74 : decode cX10_cut 74 = .ok (.iadd, 1) := by decide +kernel
theorem dX10_cut_75 : decode cX10_cut 75 = .ok (.iaload, 1) := by decide +kernel
theorem dX10_cut_76 : decode cX10_cut 76 = .ok (.iastore, 1) := by decide +kernel
theorem dX10_cut_77 : decode cX10_cut 77 = .ok (.aload_n 0, 1) := by decide +kernel
theorem dX10_cut_78 : decode cX10_cut 78 = .ok (.getfield 38, 3) := by decide +kernel
theorem dX10_cut_81 : decode cX10_cut 81 = .ok (.iload 4, 2) := by decide +kernel
theorem dX10_cut_83 : decode cX10_cut 83 = .ok (.aload_n 0, 1) := by decide +kernel
theorem dX10_cut_84 : decode cX10_cut 84 = .ok (.getfield 38, 3) := by decide +kernel
theorem dX10_cut_87 : decode cX10_cut 87 = .ok (.iload 4, 2) := by decide +kernel
theorem dX10_cut_89 : decode cX10_cut 89 = .ok (.iconst 1, 1) := by decide +kernel
theorem dX10_cut_90 : decode cX10_cut 90 = .ok (.iadd, 1) := by decide +kernel
theorem dX10_cut_91 : decode cX10_cut 91 = .ok (.iaload, 1) := by decide +kernel
theorem dX10_cut_92 : decode cX10_cut 92 = .ok (.iastore, 1) := by decide +kernel
theorem dX10_cut_93 : decode cX10_cut 93 = .ok (.iinc 3 1, 3) := by decide +kernel
theorem dX10_cut_96 : decode cX10_cut 96 = .ok (.goto (-69), 3) := by decide +kernel
theorem dX10_cut_99 : decode cX10_cut 99 = .ok (.aload_n 0, 1) := by decide +kernel
theorem dX10_cut_100 : decode cX10_cut 100 = .ok (.getfield 20, 3) := by decide +kernel
theorem dX10_cut_103 : decode cX10_cut 103 = .ok (.iload_n 1, 1) := by decide +kernel
theorem dX10_cut_104 : decode cX10_cut 104 = .ok (.iaload, 1) := by decide +kernel
theorem dX10_cut_105 : decode cX10_cut 105 = .ok (.ireturn, 1) := by decide +kernel
theorem dX10_tune_0 : decode cX10_tune 0 = .ok (.iload_n 1, 1) := by decide +kernel
theorem dX10_tune_1 : decode cX10_tune 1 = .ok (.iconst 0, 1) := by decide +kernel
theorem dX10_tune_2 : decode cX10_tune 2 = .ok (.iconst 1, 1) := by decide +kernel
theorem dX10_tune_3 : decode cX10_tune 3 = .ok (.invokestatic 84, 3) := by decide +kernel
theorem dX10_tune_6 : decode cX10_tune 6 = .ok (.ifCond .eq 29, 3) := by decide +kernel
theorem dX10_tune_9 : decode cX10_tune 9 = .ok (.iload_n 1, 1) := by decide +kernel
theorem dX10_tune_10 : decode cX10_tune 10 = .ok (.ifCond .ne 16, 3) := by decide +kernel
theorem dX10_tune_13 : decode cX10_tune 13 = .ok (.iload_n 2, 1) := by decide +kernel
theorem dX10_tune_14 : decode cX10_tune 14 = .ok (.iconst 1, 1) := by decide +kernel
theorem dX10_tune_15 : decode cX10_tune 15 = .ok (.bipush 20, 2) := by decide +kernel
theorem dX10_tune_17 : decode cX10_tune 17 = .ok (.invokestatic 84, 3) := by decide +kernel
theorem dX10_tune_20 : decode cX10_tune 20 = .ok (.ifCond .eq 15, 3) := by decide +kernel
theorem dX10_tune_23 : decode cX10_tune 23 = .ok (.goto 14, 3) := by decide +kernel
theorem dX10_tune_26 : decode cX10_tune 26 = .ok (.iload_n 2, 1) := by decide +kernel
theorem dX10_tune_27 : decode cX10_tune 27 = .ok (.iconst 0, 1) := by decide +kernel
theorem dX10_tune_28 : decode cX10_tune 28 = .ok (.iconst 3, 1) := by decide +kernel
theorem dX10_tune_29 : decode cX10_tune 29 = .ok (.invokestatic 84, 3) := by decide +kernel
theorem dX10_tune_32 : decode cX10_tune 32 = .ok (.ifCond .ne 5, 3) := by decide +kernel
theorem dX10_tune_35 : decode cX10_tune 35 = .ok (.iconst (-1), 1) := by decide +kernel
theorem dX10_tune_36 : decode cX10_tune 36 = .ok (.ireturn, 1) := by decide +kernel
theorem dX10_tune_37 : decode cX10_tune 37 = .ok (.iload_n 1, 1) := by decide +kernel
theorem dX10_tune_38 : decode cX10_tune 38 = .ok (.ifCond .ne 10, 3) := by decide +kernel
theorem dX10_tune_41 : decode cX10_tune 41 = .ok (.aload_n 0, 1) := by decide +kernel
theorem dX10_tune_42 : decode cX10_tune 42 = .ok (.getfield 7, 3) := by decide +kernel
theorem dX10_tune_45 : decode cX10_tune 45 = .ok (.goto 7, 3) := by decide +kernel
theorem dX10_tune_48 : decode cX10_tune 48 = .ok (.aload_n 0, 1) := by decide +kernel
theorem dX10_tune_49 : decode cX10_tune 49 = .ok (.getfield 13, 3) := by decide +kernel
theorem dX10_tune_52 : decode cX10_tune 52 = .ok (.istore_n 3, 1) := by decide +kernel
theorem dX10_tune_53 : decode cX10_tune 53 = .ok (.iload_n 3, 1) := by decide +kernel
theorem dX10_tune_54 : decode cX10_tune 54 = .ok (.iload_n 2, 1) := by decide +kernel
theorem dX10_tune_55 : decode cX10_tune 55 = .ok (.if_icmp .ne 6, 3) := by decide +kernel
theorem dX10_tune_58 : decode cX10_tune 58 = .ok (.bipush (-2), 2) := by decide +kernel
theorem dX10_tune_60 : decode cX10_tune 60 = .ok (.ireturn, 1) := by decide +kernel
theorem dX10_tune_61 : decode cX10_tune 61 = .ok (.aload_n 0, 1) := by decide +kernel
theorem dX10_tune_62 : decode cX10_tune 62 = .ok (.invokevirtual 114, 3) := by decide +kernel
theorem dX10_tune_65 : decode cX10_tune 65 = .ok (.aload_n 0, 1) := by decide +kernel
theorem dX10_tune_66 : decode cX10_tune 66 = .ok (.iload_n 1, 1) := by decide +kernel
theorem dX10_tune_67 : decode cX10_tune 67 = .ok (.ifCond .ne 7, 3) := by decide +kernel
theorem dX10_tune_70 : decode cX10_tune 70 = .ok (.iload_n 2, 1) := by decide +kernel
theorem dX10_tune_71 : decode cX10_tune 71 = .ok (.goto 7, 3) := by decide +kernel
theorem dX10_tune_74 : decode cX10_tune 74 = .ok (.aload_n 0, 1) := by decide +kernel
theorem dX10_tune_75 : decode cX10_tune 75 = .ok (.getfield 7, 3) := by decide +kernel
theorem dX10_tune_78 : decode cX10_tune 78 = .ok (.putfield 7, 3) := by decide +kernel
theorem dX10_tune_81 : decode cX10_tune 81 = .ok (.aload_n 0, 1) := by decide +kernel
theorem dX10_tune_82 : decode cX10_tune 82 = .ok (.iload_n 1, 1) := by decide +kernel
theorem dX10_tune_83 : decode cX10_tune 83 = .ok (.iconst 1, 1) := by decide +kernel
theorem dX10_tune_84 : decode cX10_tune 84 = .ok (.if_icmp .ne 7, 3) := by decide +kernel
theorem dX10_tune_87 : decode cX10_tune 87 = .ok (.iload_n 2, 1) := by decide +kernel
theorem dX10_tune_88 : decode cX10_tune 88 = .ok (.goto 7, 3) := by decide +kernel
theorem dX10_tune_91 : decode cX10_tune 91 = .ok (.aload_n 0, 1) := by decide +kernel
theorem dX10_tune_92 : decode cX10_tune 92 = .ok (.getfield 13, 3) := by decide +kernel
theorem dX10_tune_95 : decode cX10_tune 95 = .ok (.putfield 13, 3) := by decide +kernel
theorem dX10_tune_98 : decode cX10_tune 98 = .ok (.iload_n 3, 1) := by decide +kernel
theorem dX10_tune_99 : decode cX10_tune 99 = .ok (.ireturn, 1) := by decide +kernel
theorem dX10_undo_0 : decode cX10_undo 0 = .ok (.aload_n 0, 1) := by decide +kernel
theorem dX10_undo_1 : decode cX10_undo 1 = .ok (.getfield 107, 3) := by decide +kernel
theorem dX10_undo_4 : decode cX10_undo 4 = .ok (.ifCond .ne 6, 3) := by decide +kernel
theorem dX10_undo_7 : decode cX10_undo 7 = .ok (.bipush (-2), 2) := by decide +kernel
theorem dX10_undo_9 : decode cX10_undo 9 = .ok (.ireturn, 1) := by decide +kernel
theorem dX10_undo_10 : decode cX10_undo 10 = .ok (.aload_n 0, 1) := by decide +kernel
theorem dX10_undo_11 : decode cX10_undo 11 = .ok (.dup, 1) := by decide +kernel
theorem dX10_undo_12 : decode cX10_undo 12 = .ok (.getfield 107, 3) := by decide +kernel
theorem dX10_undo_15 : decode cX10_undo 15 = .ok (.iconst 1, 1) := by decide +kernel
theorem dX10_undo_16 : decode cX10_undo 16 = .ok (.isub, 1) := by decide +kernel
theorem dX10_undo_17 : decode cX10_undo 17 = .ok (.putfield 107, 3) := by decide +kernel
theorem dX10_undo_20 : decode cX10_undo 20 = .ok (.aload_n 0, 1) := by decide +kernel
theorem dX10_undo_21 : decode cX10_undo 21 = .ok (.aload_n 0, 1) := by decide +kernel
theorem dX10_undo_22 : decode cX10_undo 22 = .ok (.getfield 41, 3) := by decide +kernel
theorem dX10_undo_25 : decode cX10_undo 25 = .ok (.bipush 102, 2) := by decide +kernel
theorem dX10_undo_27 : decode cX10_undo 27 = .ok (.aload_n 0, 1) := by decide +kernel
theorem dX10_undo_28 : decode cX10_undo 28 = .ok (.getfield 107, 3) := by decide +kernel
theorem dX10_undo_31 : decode cX10_undo 31 = .ok (.imul, 1) := by decide +kernel
theorem dX10_undo_32 : decode cX10_undo 32 = .ok (.invokevirtual 125, 3) := by decide +kernel
theorem dX10_undo_35 : decode cX10_undo 35 = .ok (.aload_n 0, 1) := by decide +kernel
theorem dX10_undo_36 : decode cX10_undo 36 = .ok (.getfield 107, 3) := by decide +kernel
theorem dX10_undo_39 : decode cX10_undo 39 = .ok (.ireturn, 1) := by decide +kernel
theorem dX10_keep_0 : decode cX10_keep 0 = .ok (.aload_n 0, 1) := by decide +kernel
theorem dX10_keep_1 : decode cX10_keep 1 = .ok (.getfield 128, 3) := by decide +kernel
theorem dX10_keep_4 : decode cX10_keep 4 = .ok (.iconst 2, 1) := by decide +kernel
theorem dX10_keep_5 : decode cX10_keep 5 = .ok (.if_icmp .ne 6, 3) := by decide +kernel
theorem dX10_keep_8 : decode cX10_keep 8 = .ok (.bipush (-3), 2) := by decide +kernel
theorem dX10_keep_10 : decode cX10_keep 10 = .ok (.ireturn, 1) := by decide +kernel
theorem dX10_keep_11 : decode cX10_keep 11 = .ok (.aload_n 0, 1) := by decide +kernel
theorem dX10_keep_12 : decode cX10_keep 12 = .ok (.aload_n 0, 1) := by decide +kernel
theorem dX10_keep_13 : decode cX10_keep 13 = .ok (.getfield 44, 3) := by decide +kernel
theorem dX10_keep_16 : decode cX10_keep 16 = .ok (.bipush 102, 2) := by decide +kernel
theorem dX10_keep_18 : decode cX10_keep 18 = .ok (.aload_n 0, 1) := by decide +kernel
theorem dX10_keep_19 : decode cX10_keep 19 = .ok (.getfield 128, 3) := by decide +kernel
theorem dX10_keep_22 : decode cX10_keep 22 = .ok (.imul, 1) := by decide +kernel
theorem dX10_keep_23 : decode cX10_keep 23 = .ok (.invokevirtual 110, 3) := by decide +kernel
theorem dX10_keep_26 : decode cX10_keep 26 = .ok (.aload_n 0, 1) := by decide +kernel
theorem dX10_keep_27 : decode cX10_keep 27 = .ok (.dup, 1) := by decide +kernel
theorem dX10_keep_28 : decode cX10_keep 28 = .ok (.getfield 128, 3) := by decide +kernel
theorem dX10_keep_31 : decode cX10_keep 31 = .ok (.iconst 1, 1) := by decide +kernel
theorem dX10_keep_32 : decode cX10_keep 32 = .ok (.iadd, 1) := by decide +kernel
theorem dX10_keep_33 : decode cX10_keep 33 = .ok (.putfield 128, 3) := by decide +kernel
theorem dX10_keep_36 : decode cX10_keep 36 = .ok (.aload_n 0, 1) := by decide +kernel
theorem dX10_keep_37 : decode cX10_keep 37 = .ok (.getfield 128, 3) := by decide +kernel
theorem dX10_keep_40 : decode cX10_keep 40 = .ok (.ireturn, 1) := by decide +kernel
theorem dX10_back_0 : decode cX10_back 0 = .ok (.aload_n 0, 1) := by decide +kernel
theorem dX10_back_1 : decode cX10_back 1 = .ok (.getfield 128, 3) := by decide +kernel
theorem dX10_back_4 : decode cX10_back 4 = .ok (.ifCond .ne 6, 3) := by decide +kernel
theorem dX10_back_7 : decode cX10_back 7 = .ok (.bipush (-2), 2) := by decide +kernel
theorem dX10_back_9 : decode cX10_back 9 = .ok (.ireturn, 1) := by decide +kernel
theorem dX10_back_10 : decode cX10_back 10 = .ok (.aload_n 0, 1) := by decide +kernel
theorem dX10_back_11 : decode cX10_back 11 = .ok (.dup, 1) := by decide +kernel
theorem dX10_back_12 : decode cX10_back 12 = .ok (.getfield 128, 3) := by decide +kernel
theorem dX10_back_15 : decode cX10_back 15 = .ok (.iconst 1, 1) := by decide +kernel
theorem dX10_back_16 : decode cX10_back 16 = .ok (.isub, 1) := by decide +kernel
theorem dX10_back_17 : decode cX10_back 17 = .ok (.putfield 128, 3) := by decide +kernel
theorem dX10_back_20 : decode cX10_back 20 = .ok (.aload_n 0, 1) := by decide +kernel
theorem dX10_back_21 : decode cX10_back 21 = .ok (.aload_n 0, 1) := by decide +kernel
theorem dX10_back_22 : decode cX10_back 22 = .ok (.getfield 44, 3) := by decide +kernel
theorem dX10_back_25 : decode cX10_back 25 = .ok (.bipush 102, 2) := by decide +kernel
theorem dX10_back_27 : decode cX10_back 27 = .ok (.aload_n 0, 1) := by decide +kernel
theorem dX10_back_28 : decode cX10_back 28 = .ok (.getfield 128, 3) := by decide +kernel
theorem dX10_back_31 : decode cX10_back 31 = .ok (.imul, 1) := by decide +kernel
theorem dX10_back_32 : decode cX10_back 32 = .ok (.invokevirtual 125, 3) := by decide +kernel
theorem dX10_back_35 : decode cX10_back 35 = .ok (.aload_n 0, 1) := by decide +kernel
theorem dX10_back_36 : decode cX10_back 36 = .ok (.iconst 0, 1) := by decide +kernel
theorem dX10_back_37 : decode cX10_back 37 = .ok (.putfield 107, 3) := by decide +kernel
theorem dX10_back_40 : decode cX10_back 40 = .ok (.aload_n 0, 1) := by decide +kernel
theorem dX10_back_41 : decode cX10_back 41 = .ok (.getfield 128, 3) := by decide +kernel
theorem dX10_back_44 : decode cX10_back 44 = .ok (.ireturn, 1) := by decide +kernel
theorem dX10_square_0 : decode cX10_square 0 = .ok (.iload_n 0, 1) := by decide +kernel
theorem dX10_square_1 : decode cX10_square 1 = .ok (.iload_n 0, 1) := by decide +kernel
theorem dX10_square_2 : decode cX10_square 2 = .ok (.imul, 1) := by decide +kernel
theorem dX10_square_3 : decode cX10_square 3 = .ok (.ireturn, 1) := by decide +kernel
theorem dX10_distance_0 : decode cX10_distance 0 = .ok (.aload_n 0, 1) := by decide +kernel
theorem dX10_distance_1 : decode cX10_distance 1 = .ok (.getfield 26, 3) := by decide +kernel
theorem dX10_distance_4 : decode cX10_distance 4 = .ok (.iload_n 1, 1) := by decide +kernel
theorem dX10_distance_5 : decode cX10_distance 5 = .ok (.iaload, 1) := by decide +kernel
theorem dX10_distance_6 : decode cX10_distance 6 = .ok (.aload_n 0, 1) := by decide +kernel
theorem dX10_distance_7 : decode cX10_distance 7 = .ok (.getfield 26, 3) := by decide +kernel
theorem dX10_distance_10 : decode cX10_distance 10 = .ok (.iload_n 2, 1) := by decide +kernel
theorem dX10_distance_11 : decode cX10_distance 11 = .ok (.iaload, 1) := by decide +kernel
theorem dX10_distance_12 : decode cX10_distance 12 = .ok (.isub, 1) := by decide +kernel
theorem dX10_distance_13 : decode cX10_distance 13 = .ok (.invokestatic 131, 3) := by decide +kernel
theorem dX10_distance_16 : decode cX10_distance 16 = .ok (.aload_n 0, 1) := by decide +kernel
theorem dX10_distance_17 : decode cX10_distance 17 = .ok (.getfield 29, 3) := by decide +kernel
theorem dX10_distance_20 : decode cX10_distance 20 = .ok (.iload_n 1, 1) := by decide +kernel
theorem dX10_distance_21 : decode cX10_distance 21 = .ok (.iaload, 1) := by decide +kernel
theorem dX10_distance_22 : decode cX10_distance 22 = .ok (.aload_n 0, 1) := by decide +kernel
theorem dX10_distance_23 : decode cX10_distance 23 = .ok (.getfield 29, 3) := by decide +kernel
theorem dX10_distance_26 : decode cX10_distance 26 = .ok (.iload_n 2, 1) := by decide +kernel
theorem dX10_distance_27 : decode cX10_distance 27 = .ok (.iaload, 1) := by decide +kernel
theorem dX10_distance_28 : decode cX10_distance 28 = .ok (.isub, 1) := by decide +kernel
theorem dX10_distance_29 : decode cX10_distance 29 = .ok (.invokestatic 131, 3) := by decide +kernel
theorem dX10_distance_32 : decode cX10_distance 32 = .ok (.iadd, 1) := by decide +kernel
theorem dX10_distance_33 : decode cX10_distance 33 = .ok (.ireturn, 1) := by decide +kernel
theorem dX10_setFirst_0 : decode cX10_setFirst 0 = .ok (.iconst 0, 1) := by decide +kernel
theorem dX10_setFirst_1 : decode cX10_setFirst 1 = .ok (.istore_n 1, 1) := by decide +kernel
theorem dX10_setFirst_2 : decode cX10_setFirst 2 = .ok (.iload_n 1, 1) := by decide +kernel
theorem dX10_setFirst_3 : decode cX10_setFirst 3 = .ok (.bipush 8, 2) := by decide +kernel
theorem dX10_setFirst_5 : decode cX10_setFirst 5 = .ok (.if_icmp .ge 163, 3) := by decide +kernel
theorem dX10_setFirst_8 : decode cX10_setFirst 8 = .ok (.iconst 0, 1) := by decide +kernel
theorem dX10_setFirst_9 : decode cX10_setFirst 9 = .ok (.istore_n 2, 1) := by decide +kernel
theorem dX10_setFirst_10 : decode cX10_setFirst 10 = .ok (.iload_n 2, 1) := by decide +kernel
theorem dX10_setFirst_11 : decode cX10_setFirst 11 = .ok (.bipush 8, 2) := by decide +kernel
theorem dX10_setFirst_13 : decode cX10_setFirst 13 = .ok (.if_icmp .ge 149, 3) := by decide +kernel
theorem dX10_setFirst_16 : decode cX10_setFirst 16 = .ok (.bipush 8, 2) := by decide +kernel
theorem dX10_setFirst_18 : decode cX10_setFirst 18 = .ok (.iload_n 1, 1) := by decide +kernel
theorem dX10_setFirst_19 : decode cX10_setFirst 19 = .ok (.imul, 1) := by decide +kernel
theorem dX10_setFirst_20 : decode cX10_setFirst 20 = .ok (.iload_n 2, 1) := by decide +kernel
theorem dX10_setFirst_21 : decode cX10_setFirst 21 = .ok (.iadd, 1) := by decide +kernel
theorem dX10_setFirst_22 : decode cX10_setFirst 22 = .ok (.istore_n 3, 1) := by decide +kernel
theorem dX10_setFirst_23 : decode cX10_setFirst 23 = .ok (.aload_n 0, 1) := by decide +kernel
theorem dX10_setFirst_24 : decode cX10_setFirst 24 = .ok (.getfield 50, 3) := by decide +kernel
theorem dX10_setFirst_27 : decode cX10_setFirst 27 = .ok (.iload_n 3, 1) := by decide +kernel
theorem dX10_setFirst_28 : decode cX10_setFirst 28 = .ok (.bipush (-4), 2) := by decide +kernel
theorem dX10_setFirst_30 : decode cX10_setFirst 30 = .ok (.iastore, 1) := by decide +kernel
theorem dX10_setFirst_31 : decode cX10_setFirst 31 = .ok (.iload_n 1, 1) := by decide +kernel
theorem dX10_setFirst_32 : decode cX10_setFirst 32 = .ok (.aload_n 0, 1) := by decide +kernel
theorem dX10_setFirst_33 : decode cX10_setFirst 33 = .ok (.getfield 16, 3) := by decide +kernel
theorem dX10_setFirst_36 : decode cX10_setFirst 36 = .ok (.iconst 0, 1) := by decide +kernel
theorem dX10_setFirst_37 : decode cX10_setFirst 37 = .ok (.iaload, 1) := by decide +kernel
theorem dX10_setFirst_38 : decode cX10_setFirst 38 = .ok (.if_icmp .ge 118, 3) := by decide +kernel
theorem dX10_setFirst_41 : decode cX10_setFirst 41 = .ok (.iload_n 2, 1) := by decide +kernel
theorem dX10_setFirst_42 : decode cX10_setFirst 42 = .ok (.aload_n 0, 1) := by decide +kernel
theorem dX10_setFirst_43 : decode cX10_setFirst 43 = .ok (.getfield 16, 3) := by decide +kernel
theorem dX10_setFirst_46 : decode cX10_setFirst 46 = .ok (.iconst 1, 1) := by decide +kernel
theorem dX10_setFirst_47 : decode cX10_setFirst 47 = .ok (.iaload, 1) := by decide +kernel
theorem dX10_setFirst_48 : decode cX10_setFirst 48 = .ok (.if_icmp .ge 108, 3) := by decide +kernel
theorem dX10_setFirst_51 : decode cX10_setFirst 51 = .ok (.aload_n 0, 1) := by decide +kernel
theorem dX10_setFirst_52 : decode cX10_setFirst 52 = .ok (.iload_n 1, 1) := by decide +kernel
theorem dX10_setFirst_53 : decode cX10_setFirst 53 = .ok (.bipush 8, 2) := by decide +kernel
theorem dX10_setFirst_55 : decode cX10_setFirst 55 = .ok (.iload_n 2, 1) := by decide +kernel
theorem dX10_setFirst_56 : decode cX10_setFirst 56 = .ok (.iadd, 1) := by decide +kernel
theorem dX10_setFirst_57 : decode cX10_setFirst 57 = .ok (.invokevirtual 134, 3) := by decide +kernel
theorem dX10_setFirst_60 : decode cX10_setFirst 60 = .ok (.istore 4, 2) := by decide +kernel
theorem dX10_setFirst_62 : decode cX10_setFirst 62 = .ok (.aload_n 0, 1) := by decide +kernel
theorem dX10_setFirst_63 : decode cX10_setFirst 63 = .ok (.iload_n 1, 1) := by decide +kernel
theorem dX10_setFirst_64 : decode cX10_setFirst 64 = .ok (.invokevirtual 96, 3) := by decide +kernel
theorem dX10_setFirst_67 : decode cX10_setFirst 67 = .ok (.istore 5, 2) := by decide +kernel
theorem dX10_setFirst_69 : decode cX10_setFirst 69 = .ok (.aload_n 0, 1) := by decide +kernel
theorem dX10_setFirst_70 : decode cX10_setFirst 70 = .ok (.bipush 8, 2) := by decide +kernel
theorem dX10_setFirst_72 : decode cX10_setFirst 72 = .ok (.iload_n 2, 1) := by decide +kernel
theorem dX10_setFirst_73 : decode cX10_setFirst 73 = .ok (.iadd, 1) := by decide +kernel
theorem dX10_setFirst_74 : decode cX10_setFirst 74 = .ok (.invokevirtual 96, 3) := by decide +kernel
theorem dX10_setFirst_77 : decode cX10_setFirst 77 = .ok (.istore 6, 2) := by decide +kernel
theorem dX10_setFirst_79 : decode cX10_setFirst 79 = .ok (.aload_n 0, 1) := by decide +kernel
theorem dX10_setFirst_80 : decode cX10_setFirst 80 = .ok (.getfield 7, 3) := by decide +kernel
theorem dX10_setFirst_83 : decode cX10_setFirst 83 = .ok (.aload_n 0, 1) := by decide +kernel
theorem dX10_setFirst_84 : decode cX10_setFirst 84 = .ok (.getfield 7, 3) := by decide +kernel
theorem dX10_setFirst_87 : decode cX10_setFirst 87 = .ok (.imul, 1) := by decide +kernel
theorem dX10_setFirst_88 : decode cX10_setFirst 88 = .ok (.iconst 1, 1) := by decide +kernel
theorem dX10_setFirst_89 : decode cX10_setFirst 89 = .ok (.iadd, 1) := by decide +kernel
theorem dX10_setFirst_90 : decode cX10_setFirst 90 = .ok (.iload 4, 2) := by decide +kernel
theorem dX10_setFirst_92 : decode cX10_setFirst 92 = .ok (.isub, 1) := by decide +kernel
theorem dX10_setFirst_93 : decode cX10_setFirst 93 = .ok (.istore 7, 2) := by decide +kernel
theorem dX10_setFirst_95 : decode cX10_setFirst 95 = .ok (.iload 4, 2) := by decide +kernel
theorem dX10_setFirst_97 : decode cX10_setFirst 97 = .ok (.iload 5, 2) := by decide +kernel
theorem dX10_setFirst_99 : decode cX10_setFirst 99 = .ok (.iload 6, 2) := by decide +kernel
theorem dX10_setFirst_101 : decode cX10_setFirst 101 = .ok (.if_icmp .ge 8, 3) := by decide +kernel
theorem dX10_setFirst_104 : decode cX10_setFirst 104 = .ok (.iload 5, 2) := by decide +kernel
theorem dX10_setFirst_106 : decode cX10_setFirst 106 = .ok (.goto 5, 3) := by decide +kernel
theorem dX10_setFirst_109 : decode cX10_setFirst 109 = .ok (.iload 6, 2) := by decide +kernel
theorem dX10_setFirst_111 : decode cX10_setFirst 111 = .ok (.invokestatic 131, 3) := by decide +kernel
theorem dX10_setFirst_114 : decode cX10_setFirst 114 = .ok (.if_icmp .gt 7, 3) := by decide +kernel
theorem dX10_setFirst_117 : decode cX10_setFirst 117 = .ok (.iconst 1, 1) := by decide +kernel
theorem dX10_setFirst_118 : decode cX10_setFirst 118 = .ok (.goto 4, 3) := by decide +kernel
theorem dX10_setFirst_121 : decode cX10_setFirst 121 = .ok (.iconst 0, 1) := by decide +kernel
theorem dX10_setFirst_122 : decode cX10_setFirst 122 = .ok (.istore 8, 2) := by decide +kernel
theorem dX10_setFirst_124 : decode cX10_setFirst 124 = .ok (.aload_n 0, 1) := by decide +kernel
theorem dX10_setFirst_125 : decode cX10_setFirst 125 = .ok (.getfield 50, 3) := by decide +kernel
theorem dX10_setFirst_128 : decode cX10_setFirst 128 = .ok (.iload_n 3, 1) := by decide +kernel
theorem dX10_setFirst_129 : decode cX10_setFirst 129 = .ok (.iload 8, 2) := by decide +kernel
theorem dX10_setFirst_131 : decode cX10_setFirst 131 = .ok (.ifCond .ne 8, 3) := by decide +kernel
theorem dX10_setFirst_134 : decode cX10_setFirst 134 = .ok (.bipush (-4), 2) := by decide +kernel
theorem dX10_setFirst_136 : decode cX10_setFirst 136 = .ok (.goto 19, 3) := by decide +kernel
theorem dX10_setFirst_139 : decode cX10_setFirst 139 = .ok (.sipush 512, 3) := by decide +kernel
theorem dX10_setFirst_142 : decode cX10_setFirst 142 = .ok (.iload 7, 2) := by decide +kernel
theorem dX10_setFirst_144 : decode cX10_setFirst 144 = .ok (.iconst 1, 1) := by decide +kernel
theorem dX10_setFirst_145 : decode cX10_setFirst 145 = .ok (.if_icmp .le 8, 3) := by decide +kernel
theorem dX10_setFirst_148 : decode cX10_setFirst 148 = .ok (.iload 7, 2) := by decide +kernel
theorem dX10_setFirst_150 : decode cX10_setFirst 150 = .ok (.goto 4, 3) := by decide +kernel
theorem dX10_setFirst_153 : decode cX10_setFirst 153 = .ok (.iconst 1, 1) := by decide +kernel
theorem dX10_setFirst_154 : decode cX10_setFirst 154 = .ok (.imul, 1) := by decide +kernel
theorem dX10_setFirst_155 : decode cX10_setFirst 155 = .ok (.iastore, 1) := by decide +kernel
theorem dX10_setFirst_156 : decode cX10_setFirst 156 = .ok (.iinc 2 1, 3) := by decide +kernel
theorem dX10_setFirst_159 : decode cX10_setFirst 159 = .ok (.goto (-149), 3) := by decide +kernel
theorem dX10_setFirst_162 : decode cX10_setFirst 162 = .ok (.iinc 1 1, 3) := by decide +kernel
theorem dX10_setFirst_165 : decode cX10_setFirst 165 = .ok (.goto (-163), 3) := by decide +kernel
theorem dX10_setFirst_168 : decode cX10_setFirst 168 = .ok (.return_, 1) := by decide +kernel
theorem dX10_otherEnd_0 : decode cX10_otherEnd 0 = .ok (.bipush 8, 2) := by decide +kernel
theorem dX10_otherEnd_2 : decode cX10_otherEnd 2 = .ok (.iload_n 1, 1) := by decide +kernel
theorem dX10_otherEnd_3 : decode cX10_otherEnd 3 = .ok (.imul, 1) := by decide +kernel
theorem dX10_otherEnd_4 : decode cX10_otherEnd 4 = .ok (.iload_n 2, 1) := by decide +kernel
theorem dX10_otherEnd_5 : decode cX10_otherEnd 5 = .ok (.iadd, 1) := by decide +kernel
theorem dX10_otherEnd_6 : decode cX10_otherEnd 6 = .ok (.istore 4, 2) := by decide +kernel
theorem dX10_otherEnd_8 : decode cX10_otherEnd 8 = .ok (.aload_n 0, 1) := by decide +kernel
theorem dX10_otherEnd_9 : decode cX10_otherEnd 9 = .ok (.getfield 32, 3) := by decide +kernel
theorem dX10_otherEnd_12 : decode cX10_otherEnd 12 = .ok (.iload 4, 2) := by decide +kernel
theorem dX10_otherEnd_14 : decode cX10_otherEnd 14 = .ok (.iaload, 1) := by decide +kernel
theorem dX10_otherEnd_15 : decode cX10_otherEnd 15 = .ok (.iload_n 3, 1) := by decide +kernel
theorem dX10_otherEnd_16 : decode cX10_otherEnd 16 = .ok (.if_icmp .ne 13, 3) := by decide +kernel
theorem dX10_otherEnd_19 : decode cX10_otherEnd 19 = .ok (.aload_n 0, 1) := by decide +kernel
theorem dX10_otherEnd_20 : decode cX10_otherEnd 20 = .ok (.getfield 35, 3) := by decide +kernel
theorem dX10_otherEnd_23 : decode cX10_otherEnd 23 = .ok (.iload 4, 2) := by decide +kernel
theorem dX10_otherEnd_25 : decode cX10_otherEnd 25 = .ok (.iaload, 1) := by decide +kernel
theorem dX10_otherEnd_26 : decode cX10_otherEnd 26 = .ok (.goto 26, 3) := by decide +kernel
theorem dX10_otherEnd_29 : decode cX10_otherEnd 29 = .ok (.aload_n 0, 1) := by decide +kernel
theorem dX10_otherEnd_30 : decode cX10_otherEnd 30 = .ok (.getfield 35, 3) := by decide +kernel
theorem dX10_otherEnd_33 : decode cX10_otherEnd 33 = .ok (.iload 4, 2) := by decide +kernel
theorem dX10_otherEnd_35 : decode cX10_otherEnd 35 = .ok (.iaload, 1) := by decide +kernel
theorem dX10_otherEnd_36 : decode cX10_otherEnd 36 = .ok (.iload_n 3, 1) := by decide +kernel
theorem dX10_otherEnd_37 : decode cX10_otherEnd 37 = .ok (.if_icmp .ne 13, 3) := by decide +kernel
theorem dX10_otherEnd_40 : decode cX10_otherEnd 40 = .ok (.aload_n 0, 1) := by decide +kernel
theorem dX10_otherEnd_41 : decode cX10_otherEnd 41 = .ok (.getfield 32, 3) := by decide +kernel
theorem dX10_otherEnd_44 : decode cX10_otherEnd 44 = .ok (.iload 4, 2) := by decide +kernel
theorem dX10_otherEnd_46 : decode cX10_otherEnd 46 = .ok (.iaload, 1) := by decide +kernel
theorem dX10_otherEnd_47 : decode cX10_otherEnd 47 = .ok (.goto 5, 3) := by decide +kernel
theorem dX10_otherEnd_50 : decode cX10_otherEnd 50 = .ok (.bipush (-4), 2) := by decide +kernel
theorem dX10_otherEnd_52 : decode cX10_otherEnd 52 = .ok (.ireturn, 1) := by decide +kernel
theorem dX10_believed_0 : decode cX10_believed 0 = .ok (.aload_n 0, 1) := by decide +kernel
theorem dX10_believed_1 : decode cX10_believed 1 = .ok (.getfield 50, 3) := by decide +kernel
theorem dX10_believed_4 : decode cX10_believed 4 = .ok (.bipush 8, 2) := by decide +kernel
theorem dX10_believed_6 : decode cX10_believed 6 = .ok (.iload_n 1, 1) := by decide +kernel
theorem dX10_believed_7 : decode cX10_believed 7 = .ok (.imul, 1) := by decide +kernel
theorem dX10_believed_8 : decode cX10_believed 8 = .ok (.iload_n 2, 1) := by decide +kernel
theorem dX10_believed_9 : decode cX10_believed 9 = .ok (.iadd, 1) := by decide +kernel
theorem dX10_believed_10 : decode cX10_believed 10 = .ok (.iaload, 1) := by decide +kernel
theorem dX10_believed_11 : decode cX10_believed 11 = .ok (.istore_n 3, 1) := by decide +kernel
theorem dX10_believed_12 : decode cX10_believed 12 = .ok (.iload_n 3, 1) := by decide +kernel
theorem dX10_believed_13 : decode cX10_believed 13 = .ok (.bipush (-4), 2) := by decide +kernel
theorem dX10_believed_15 : decode cX10_believed 15 = .ok (.if_icmp .ne 7, 3) := by decide +kernel
theorem dX10_believed_18 : decode cX10_believed 18 = .ok (.iconst 0, 1) := by decide +kernel
theorem dX10_believed_19 : decode cX10_believed 19 = .ok (.goto 4, 3) := by decide +kernel
theorem dX10_believed_22 : decode cX10_believed 22 = .ok (.iload_n 3, 1) := by decide +kernel
theorem dX10_believed_23 : decode cX10_believed 23 = .ok (.ireturn, 1) := by decide +kernel
theorem dX10_sumOf_0 : decode cX10_sumOf 0 = .ok (.iconst 0, 1) := by decide +kernel
theorem dX10_sumOf_1 : decode cX10_sumOf 1 = .ok (.istore 4, 2) := by decide +kernel
theorem dX10_sumOf_3 : decode cX10_sumOf 3 = .ok (.iload_n 1, 1) := by decide +kernel
theorem dX10_sumOf_4 : decode cX10_sumOf 4 = .ok (.ifCond .ne 7, 3) := by decide +kernel
theorem dX10_sumOf_7 : decode cX10_sumOf 7 = .ok (.iload_n 2, 1) := by decide +kernel
theorem dX10_sumOf_8 : decode cX10_sumOf 8 = .ok (.goto 4, 3) := by decide +kernel
theorem dX10_sumOf_11 : decode cX10_sumOf 11 = .ok (.iload_n 3, 1) := by decide +kernel
theorem dX10_sumOf_12 : decode cX10_sumOf 12 = .ok (.istore 5, 2) := by decide +kernel
theorem dX10_sumOf_14 : decode cX10_sumOf 14 = .ok (.iload_n 1, 1) := by decide +kernel
theorem dX10_sumOf_15 : decode cX10_sumOf 15 = .ok (.ifCond .ne 7, 3) := by decide +kernel
theorem dX10_sumOf_18 : decode cX10_sumOf 18 = .ok (.iload_n 3, 1) := by decide +kernel
theorem dX10_sumOf_19 : decode cX10_sumOf 19 = .ok (.goto 4, 3) := by decide +kernel
theorem dX10_sumOf_22 : decode cX10_sumOf 22 = .ok (.iload_n 2, 1) := by decide +kernel
theorem dX10_sumOf_23 : decode cX10_sumOf 23 = .ok (.istore 6, 2) := by decide +kernel
theorem dX10_sumOf_25 : decode cX10_sumOf 25 = .ok (.iconst 0, 1) := by decide +kernel
theorem dX10_sumOf_26 : decode cX10_sumOf 26 = .ok (.istore 7, 2) := by decide +kernel
theorem dX10_sumOf_28 : decode cX10_sumOf 28 = .ok (.iload 7, 2) := by decide +kernel
theorem dX10_sumOf_30 : decode cX10_sumOf 30 = .ok (.aload_n 0, 1) := by decide +kernel
theorem dX10_sumOf_31 : decode cX10_sumOf 31 = .ok (.getfield 20, 3) := by decide +kernel
theorem dX10_sumOf_34 : decode cX10_sumOf 34 = .ok (.iload_n 1, 1) := by decide +kernel
theorem dX10_sumOf_35 : decode cX10_sumOf 35 = .ok (.iaload, 1) := by decide +kernel
theorem dX10_sumOf_36 : decode cX10_sumOf 36 = .ok (.if_icmp .ge 124, 3) := by decide +kernel
theorem dX10_sumOf_39 : decode cX10_sumOf 39 = .ok (.aload_n 0, 1) := by decide +kernel
theorem dX10_sumOf_40 : decode cX10_sumOf 40 = .ok (.iload_n 1, 1) := by decide +kernel
theorem dX10_sumOf_41 : decode cX10_sumOf 41 = .ok (.iload 7, 2) := by decide +kernel
theorem dX10_sumOf_43 : decode cX10_sumOf 43 = .ok (.iload 5, 2) := by decide +kernel
theorem dX10_sumOf_45 : decode cX10_sumOf 45 = .ok (.invokevirtual 137, 3) := by decide +kernel
theorem dX10_sumOf_48 : decode cX10_sumOf 48 = .ok (.istore 8, 2) := by decide +kernel
theorem dX10_sumOf_50 : decode cX10_sumOf 50 = .ok (.iconst 0, 1) := by decide +kernel
theorem dX10_sumOf_51 : decode cX10_sumOf 51 = .ok (.istore 9, 2) := by decide +kernel
theorem dX10_sumOf_53 : decode cX10_sumOf 53 = .ok (.iconst 0, 1) := by decide +kernel
theorem dX10_sumOf_54 : decode cX10_sumOf 54 = .ok (.istore 10, 2) := by decide +kernel
theorem dX10_sumOf_56 : decode cX10_sumOf 56 = .ok (.iload 10, 2) := by decide +kernel
theorem dX10_sumOf_58 : decode cX10_sumOf 58 = .ok (.aload_n 0, 1) := by decide +kernel
theorem dX10_sumOf_59 : decode cX10_sumOf 59 = .ok (.getfield 20, 3) := by decide +kernel
theorem dX10_sumOf_62 : decode cX10_sumOf 62 = .ok (.iconst 1, 1) := by decide +kernel
theorem dX10_sumOf_63 : decode cX10_sumOf 63 = .ok (.iload_n 1, 1) := by decide +kernel
theorem dX10_sumOf_64 : decode cX10_sumOf 64 = .ok (.isub, 1) := by decide +kernel
theorem dX10_sumOf_65 : decode cX10_sumOf 65 = .ok (.iaload, 1) := by decide +kernel
theorem dX10_sumOf_66 : decode cX10_sumOf 66 = .ok (.if_icmp .ge 81, 3) := by decide +kernel
theorem dX10_sumOf_69 : decode cX10_sumOf 69 = .ok (.iload 8, 2) := by decide +kernel
theorem dX10_sumOf_71 : decode cX10_sumOf 71 = .ok (.bipush (-4), 2) := by decide +kernel
theorem dX10_sumOf_73 : decode cX10_sumOf 73 = .ok (.if_icmp .eq 74, 3) := by decide +kernel
theorem dX10_sumOf_76 : decode cX10_sumOf 76 = .ok (.aload_n 0, 1) := by decide +kernel
theorem dX10_sumOf_77 : decode cX10_sumOf 77 = .ok (.iconst 1, 1) := by decide +kernel
theorem dX10_sumOf_78 : decode cX10_sumOf 78 = .ok (.iload_n 1, 1) := by decide +kernel
theorem dX10_sumOf_79 : decode cX10_sumOf 79 = .ok (.isub, 1) := by decide +kernel
theorem dX10_sumOf_80 : decode cX10_sumOf 80 = .ok (.iload 10, 2) := by decide +kernel
theorem dX10_sumOf_82 : decode cX10_sumOf 82 = .ok (.iload 6, 2) := by decide +kernel
theorem dX10_sumOf_84 : decode cX10_sumOf 84 = .ok (.invokevirtual 137, 3) := by decide +kernel
theorem dX10_sumOf_87 : decode cX10_sumOf 87 = .ok (.istore 11, 2) := by decide +kernel
theorem dX10_sumOf_89 : decode cX10_sumOf 89 = .ok (.iload 11, 2) := by decide +kernel
theorem dX10_sumOf_91 : decode cX10_sumOf 91 = .ok (.bipush (-4), 2) := by decide +kernel
theorem dX10_sumOf_93 : decode cX10_sumOf 93 = .ok (.if_icmp .ne 7, 3) := by decide +kernel
theorem dX10_sumOf_96 : decode cX10_sumOf 96 = .ok (.iconst 0, 1) := by decide +kernel
theorem dX10_sumOf_97 : decode cX10_sumOf 97 = .ok (.goto 26, 3) := by decide +kernel
theorem dX10_sumOf_100 : decode cX10_sumOf 100 = .ok (.iload_n 1, 1) := by decide +kernel
theorem dX10_sumOf_101 : decode cX10_sumOf 101 = .ok (.ifCond .ne 14, 3) := by decide +kernel
theorem dX10_sumOf_104 : decode cX10_sumOf 104 = .ok (.aload_n 0, 1) := by decide +kernel
theorem dX10_sumOf_105 : decode cX10_sumOf 105 = .ok (.iload 8, 2) := by decide +kernel
theorem dX10_sumOf_107 : decode cX10_sumOf 107 = .ok (.iload 11, 2) := by decide +kernel
theorem dX10_sumOf_109 : decode cX10_sumOf 109 = .ok (.invokevirtual 140, 3) := by decide +kernel
theorem dX10_sumOf_112 : decode cX10_sumOf 112 = .ok (.goto 11, 3) := by decide +kernel
theorem dX10_sumOf_115 : decode cX10_sumOf 115 = .ok (.aload_n 0, 1) := by decide +kernel
theorem dX10_sumOf_116 : decode cX10_sumOf 116 = .ok (.iload 11, 2) := by decide +kernel
theorem dX10_sumOf_118 : decode cX10_sumOf 118 = .ok (.iload 8, 2) := by decide +kernel
theorem dX10_sumOf_120 : decode cX10_sumOf 120 = .ok (.invokevirtual 140, 3) := by decide +kernel
theorem dX10_sumOf_123 : decode cX10_sumOf 123 = .ok (.istore 12, 2) := by decide +kernel
theorem dX10_sumOf_125 : decode cX10_sumOf 125 = .ok (.iload 12, 2) := by decide +kernel
theorem dX10_sumOf_127 : decode cX10_sumOf 127 = .ok (.iload 9, 2) := by decide +kernel
theorem dX10_sumOf_129 : decode cX10_sumOf 129 = .ok (.if_icmp .le 8, 3) := by decide +kernel
theorem dX10_sumOf_132 : decode cX10_sumOf 132 = .ok (.iload 12, 2) := by decide +kernel
theorem dX10_sumOf_134 : decode cX10_sumOf 134 = .ok (.goto 5, 3) := by decide +kernel
theorem dX10_sumOf_137 : decode cX10_sumOf 137 = .ok (.iload 9, 2) := by decide +kernel
theorem dX10_sumOf_139 : decode cX10_sumOf 139 = .ok (.istore 9, 2) := by decide +kernel
theorem dX10_sumOf_141 : decode cX10_sumOf 141 = .ok (.iinc 10 1, 3) := by decide +kernel
theorem dX10_sumOf_144 : decode cX10_sumOf 144 = .ok (.goto (-88), 3) := by decide +kernel
theorem dX10_sumOf_147 : decode cX10_sumOf 147 = .ok (.iload 4, 2) := by decide +kernel
theorem dX10_sumOf_149 : decode cX10_sumOf 149 = .ok (.iload 9, 2) := by decide +kernel
theorem dX10_sumOf_151 : decode cX10_sumOf 151 = .ok (.iadd, 1) := by decide +kernel
theorem dX10_sumOf_152 : decode cX10_sumOf 152 = .ok (.istore 4, 2) := by decide +kernel
theorem dX10_sumOf_154 : decode cX10_sumOf 154 = .ok (.iinc 7 1, 3) := by decide +kernel
theorem dX10_sumOf_157 : decode cX10_sumOf 157 = .ok (.goto (-129), 3) := by decide +kernel
theorem dX10_sumOf_160 : decode cX10_sumOf 160 = .ok (.iload 4, 2) := by decide +kernel
theorem dX10_sumOf_162 : decode cX10_sumOf 162 = .ok (.ireturn, 1) := by decide +kernel
theorem dX10_setBelief_0 : decode cX10_setBelief 0 = .ok (.aload_n 0, 1) := by decide +kernel
theorem dX10_setBelief_1 : decode cX10_setBelief 1 = .ok (.invokevirtual 143, 3) := by decide +kernel
theorem dX10_setBelief_4 : decode cX10_setBelief 4 = .ok (.iconst 0, 1) := by decide +kernel
theorem dX10_setBelief_5 : decode cX10_setBelief 5 = .ok (.istore_n 1, 1) := by decide +kernel
theorem dX10_setBelief_6 : decode cX10_setBelief 6 = .ok (.iload_n 1, 1) := by decide +kernel
theorem dX10_setBelief_7 : decode cX10_setBelief 7 = .ok (.aload_n 0, 1) := by decide +kernel
theorem dX10_setBelief_8 : decode cX10_setBelief 8 = .ok (.getfield 13, 3) := by decide +kernel
theorem dX10_setBelief_11 : decode cX10_setBelief 11 = .ok (.if_icmp .ge 110, 3) := by decide +kernel
theorem dX10_setBelief_14 : decode cX10_setBelief 14 = .ok (.iconst 0, 1) := by decide +kernel
theorem dX10_setBelief_15 : decode cX10_setBelief 15 = .ok (.istore_n 2, 1) := by decide +kernel
theorem dX10_setBelief_16 : decode cX10_setBelief 16 = .ok (.iload_n 2, 1) := by decide +kernel
theorem dX10_setBelief_17 : decode cX10_setBelief 17 = .ok (.bipush 64, 2) := by decide +kernel
theorem dX10_setBelief_19 : decode cX10_setBelief 19 = .ok (.if_icmp .ge 70, 3) := by decide +kernel
theorem dX10_setBelief_22 : decode cX10_setBelief 22 = .ok (.aload_n 0, 1) := by decide +kernel
theorem dX10_setBelief_23 : decode cX10_setBelief 23 = .ok (.getfield 53, 3) := by decide +kernel
theorem dX10_setBelief_26 : decode cX10_setBelief 26 = .ok (.iload_n 2, 1) := by decide +kernel
theorem dX10_setBelief_27 : decode cX10_setBelief 27 = .ok (.aload_n 0, 1) := by decide +kernel
theorem dX10_setBelief_28 : decode cX10_setBelief 28 = .ok (.getfield 50, 3) := by decide +kernel
theorem dX10_setBelief_31 : decode cX10_setBelief 31 = .ok (.iload_n 2, 1) := by decide +kernel
theorem dX10_setBelief_32 : decode cX10_setBelief 32 = .ok (.iaload, 1) := by decide +kernel
theorem dX10_setBelief_33 : decode cX10_setBelief 33 = .ok (.bipush (-4), 2) := by decide +kernel
theorem dX10_setBelief_35 : decode cX10_setBelief 35 = .ok (.if_icmp .ne 8, 3) := by decide +kernel
theorem dX10_setBelief_38 : decode cX10_setBelief 38 = .ok (.bipush (-4), 2) := by decide +kernel
theorem dX10_setBelief_40 : decode cX10_setBelief 40 = .ok (.goto 42, 3) := by decide +kernel
theorem dX10_setBelief_43 : decode cX10_setBelief 43 = .ok (.aload_n 0, 1) := by decide +kernel
theorem dX10_setBelief_44 : decode cX10_setBelief 44 = .ok (.getfield 50, 3) := by decide +kernel
theorem dX10_setBelief_47 : decode cX10_setBelief 47 = .ok (.iload_n 2, 1) := by decide +kernel
theorem dX10_setBelief_48 : decode cX10_setBelief 48 = .ok (.iaload, 1) := by decide +kernel
theorem dX10_setBelief_49 : decode cX10_setBelief 49 = .ok (.iconst 2, 1) := by decide +kernel
theorem dX10_setBelief_50 : decode cX10_setBelief 50 = .ok (.idiv, 1) := by decide +kernel
theorem dX10_setBelief_51 : decode cX10_setBelief 51 = .ok (.aload_n 0, 1) := by decide +kernel
theorem dX10_setBelief_52 : decode cX10_setBelief 52 = .ok (.iconst 0, 1) := by decide +kernel
theorem dX10_setBelief_53 : decode cX10_setBelief 53 = .ok (.iload_n 2, 1) := by decide +kernel
theorem dX10_setBelief_54 : decode cX10_setBelief 54 = .ok (.bipush 8, 2) := by decide +kernel
theorem dX10_setBelief_56 : decode cX10_setBelief 56 = .ok (.idiv, 1) := by decide +kernel
theorem dX10_setBelief_57 : decode cX10_setBelief 57 = .ok (.iload_n 2, 1) := by decide +kernel
theorem dX10_setBelief_58 : decode cX10_setBelief 58 = .ok (.bipush 8, 2) := by decide +kernel
theorem dX10_setBelief_60 : decode cX10_setBelief 60 = .ok (.irem, 1) := by decide +kernel
theorem dX10_setBelief_61 : decode cX10_setBelief 61 = .ok (.invokevirtual 146, 3) := by decide +kernel
theorem dX10_setBelief_64 : decode cX10_setBelief 64 = .ok (.aload_n 0, 1) := by decide +kernel
theorem dX10_setBelief_65 : decode cX10_setBelief 65 = .ok (.iconst 1, 1) := by decide +kernel
theorem dX10_setBelief_66 : decode cX10_setBelief 66 = .ok (.iload_n 2, 1) := by decide +kernel
theorem dX10_setBelief_67 : decode cX10_setBelief 67 = .ok (.bipush 8, 2) := by decide +kernel
theorem dX10_setBelief_69 : decode cX10_setBelief 69 = .ok (.idiv, 1) := by decide +kernel
theorem dX10_setBelief_70 : decode cX10_setBelief 70 = .ok (.iload_n 2, 1) := by decide +kernel
theorem dX10_setBelief_71 : decode cX10_setBelief 71 = .ok (.bipush 8, 2) := by decide +kernel
theorem dX10_setBelief_73 : decode cX10_setBelief 73 = .ok (.irem, 1) := by decide +kernel
theorem dX10_setBelief_74 : decode cX10_setBelief 74 = .ok (.invokevirtual 146, 3) := by decide +kernel
theorem dX10_setBelief_77 : decode cX10_setBelief 77 = .ok (.iadd, 1) := by decide +kernel
theorem dX10_setBelief_78 : decode cX10_setBelief 78 = .ok (.bipush 8, 2) := by decide +kernel
theorem dX10_setBelief_80 : decode cX10_setBelief 80 = .ok (.idiv, 1) := by decide +kernel
theorem dX10_setBelief_81 : decode cX10_setBelief 81 = .ok (.iadd, 1) := by decide +kernel
theorem dX10_setBelief_82 : decode cX10_setBelief 82 = .ok (.iastore, 1) := by decide +kernel
theorem dX10_setBelief_83 : decode cX10_setBelief 83 = .ok (.iinc 2 1, 3) := by decide +kernel
theorem dX10_setBelief_86 : decode cX10_setBelief 86 = .ok (.goto (-70), 3) := by decide +kernel
theorem dX10_setBelief_89 : decode cX10_setBelief 89 = .ok (.iconst 0, 1) := by decide +kernel
theorem dX10_setBelief_90 : decode cX10_setBelief 90 = .ok (.istore_n 2, 1) := by decide +kernel
theorem dX10_setBelief_91 : decode cX10_setBelief 91 = .ok (.iload_n 2, 1) := by decide +kernel
theorem dX10_setBelief_92 : decode cX10_setBelief 92 = .ok (.bipush 64, 2) := by decide +kernel
theorem dX10_setBelief_94 : decode cX10_setBelief 94 = .ok (.if_icmp .ge 21, 3) := by decide +kernel
theorem dX10_setBelief_97 : decode cX10_setBelief 97 = .ok (.aload_n 0, 1) := by decide +kernel
theorem dX10_setBelief_98 : decode cX10_setBelief 98 = .ok (.getfield 50, 3) := by decide +kernel
theorem dX10_setBelief_101 : decode cX10_setBelief 101 = .ok (.iload_n 2, 1) := by decide +kernel
theorem dX10_setBelief_102 : decode cX10_setBelief 102 = .ok (.aload_n 0, 1) := by decide +kernel
theorem dX10_setBelief_103 : decode cX10_setBelief 103 = .ok (.getfield 53, 3) := by decide +kernel
theorem dX10_setBelief_106 : decode cX10_setBelief 106 = .ok (.iload_n 2, 1) := by decide +kernel
theorem dX10_setBelief_107 : decode cX10_setBelief 107 = .ok (.iaload, 1) := by decide +kernel
theorem dX10_setBelief_108 : decode cX10_setBelief 108 = .ok (.iastore, 1) := by decide +kernel
theorem dX10_setBelief_109 : decode cX10_setBelief 109 = .ok (.iinc 2 1, 3) := by decide +kernel
theorem dX10_setBelief_112 : decode cX10_setBelief 112 = .ok (.goto (-21), 3) := by decide +kernel
theorem dX10_setBelief_115 : decode cX10_setBelief 115 = .ok (.iinc 1 1, 3) := by decide +kernel
theorem dX10_setBelief_118 : decode cX10_setBelief 118 = .ok (.goto (-112), 3) := by decide +kernel
theorem dX10_setBelief_121 : decode cX10_setBelief 121 = .ok (.return_, 1) := by decide +kernel
theorem dX10_belief_0 : decode cX10_belief 0 = .ok (.aload_n 0, 1) := by decide +kernel
theorem dX10_belief_1 : decode cX10_belief 1 = .ok (.iconst 0, 1) := by decide +kernel
theorem dX10_belief_2 : decode cX10_belief 2 = .ok (.iload_n 1, 1) := by decide +kernel
theorem dX10_belief_3 : decode cX10_belief 3 = .ok (.invokevirtual 92, 3) := by decide +kernel
theorem dX10_belief_6 : decode cX10_belief 6 = .ok (.ifCond .eq 12, 3) := by decide +kernel
theorem dX10_belief_9 : decode cX10_belief 9 = .ok (.aload_n 0, 1) := by decide +kernel
theorem dX10_belief_10 : decode cX10_belief 10 = .ok (.iconst 1, 1) := by decide +kernel
theorem dX10_belief_11 : decode cX10_belief 11 = .ok (.iload_n 2, 1) := by decide +kernel
theorem dX10_belief_12 : decode cX10_belief 12 = .ok (.invokevirtual 92, 3) := by decide +kernel
theorem dX10_belief_15 : decode cX10_belief 15 = .ok (.ifCond .ne 5, 3) := by decide +kernel
theorem dX10_belief_18 : decode cX10_belief 18 = .ok (.iconst (-1), 1) := by decide +kernel
theorem dX10_belief_19 : decode cX10_belief 19 = .ok (.ireturn, 1) := by decide +kernel
theorem dX10_belief_20 : decode cX10_belief 20 = .ok (.aload_n 0, 1) := by decide +kernel
theorem dX10_belief_21 : decode cX10_belief 21 = .ok (.invokevirtual 149, 3) := by decide +kernel
theorem dX10_belief_24 : decode cX10_belief 24 = .ok (.aload_n 0, 1) := by decide +kernel
theorem dX10_belief_25 : decode cX10_belief 25 = .ok (.getfield 50, 3) := by decide +kernel
theorem dX10_belief_28 : decode cX10_belief 28 = .ok (.bipush 8, 2) := by decide +kernel
theorem dX10_belief_30 : decode cX10_belief 30 = .ok (.iload_n 1, 1) := by decide +kernel
theorem dX10_belief_31 : decode cX10_belief 31 = .ok (.imul, 1) := by decide +kernel
theorem dX10_belief_32 : decode cX10_belief 32 = .ok (.iload_n 2, 1) := by decide +kernel
theorem dX10_belief_33 : decode cX10_belief 33 = .ok (.iadd, 1) := by decide +kernel
theorem dX10_belief_34 : decode cX10_belief 34 = .ok (.iaload, 1) := by decide +kernel
theorem dX10_belief_35 : decode cX10_belief 35 = .ok (.ireturn, 1) := by decide +kernel
theorem dX10_matches_0 : decode cX10_matches 0 = .ok (.iconst 0, 1) := by decide +kernel
theorem dX10_matches_1 : decode cX10_matches 1 = .ok (.istore_n 3, 1) := by decide +kernel
theorem dX10_matches_2 : decode cX10_matches 2 = .ok (.iload_n 3, 1) := by decide +kernel
theorem dX10_matches_3 : decode cX10_matches 3 = .ok (.bipush 16, 2) := by decide +kernel
theorem dX10_matches_5 : decode cX10_matches 5 = .ok (.if_icmp .ge 14, 3) := by decide +kernel
theorem dX10_matches_8 : decode cX10_matches 8 = .ok (.aload_n 1, 1) := by decide +kernel
theorem dX10_matches_9 : decode cX10_matches 9 = .ok (.iload_n 3, 1) := by decide +kernel
theorem dX10_matches_10 : decode cX10_matches 10 = .ok (.bipush (-4), 2) := by decide +kernel
theorem dX10_matches_12 : decode cX10_matches 12 = .ok (.iastore, 1) := by decide +kernel
theorem dX10_matches_13 : decode cX10_matches 13 = .ok (.iinc 3 1, 3) := by decide +kernel
theorem dX10_matches_16 : decode cX10_matches 16 = .ok (.goto (-14), 3) := by decide +kernel
theorem dX10_matches_19 : decode cX10_matches 19 = .ok (.iconst 0, 1) := by decide +kernel
theorem dX10_matches_20 : decode cX10_matches 20 = .ok (.istore_n 3, 1) := by decide +kernel
theorem dX10_matches_21 : decode cX10_matches 21 = .ok (.iload_n 3, 1) := by decide +kernel
theorem dX10_matches_22 : decode cX10_matches 22 = .ok (.bipush (-4), 2) := by decide +kernel
theorem dX10_matches_24 : decode cX10_matches 24 = .ok (.if_icmp .eq 176, 3) := by decide +kernel
theorem dX10_matches_27 : decode cX10_matches 27 = .ok (.bipush (-4), 2) := by decide +kernel
theorem dX10_matches_29 : decode cX10_matches 29 = .ok (.istore_n 3, 1) := by decide +kernel
theorem dX10_matches_30 : decode cX10_matches 30 = .ok (.iconst 0, 1) := by decide +kernel
theorem dX10_matches_31 : decode cX10_matches 31 = .ok (.istore 4, 2) := by decide +kernel
theorem dX10_matches_33 : decode cX10_matches 33 = .ok (.iload 4, 2) := by decide +kernel
theorem dX10_matches_35 : decode cX10_matches 35 = .ok (.bipush 64, 2) := by decide +kernel
theorem dX10_matches_37 : decode cX10_matches 37 = .ok (.if_icmp .ge 131, 3) := by decide +kernel
theorem dX10_matches_40 : decode cX10_matches 40 = .ok (.iload_n 2, 1) := by decide +kernel
theorem dX10_matches_41 : decode cX10_matches 41 = .ok (.ifCond .eq 11, 3) := by decide +kernel
theorem dX10_matches_44 : decode cX10_matches 44 = .ok (.iload 4, 2) := by decide +kernel
theorem dX10_matches_46 : decode cX10_matches 46 = .ok (.bipush 8, 2) := by decide +kernel
theorem dX10_matches_48 : decode cX10_matches 48 = .ok (.irem, 1) := by decide +kernel
theorem dX10_matches_49 : decode cX10_matches 49 = .ok (.goto 8, 3) := by decide +kernel
theorem dX10_matches_52 : decode cX10_matches 52 = .ok (.iload 4, 2) := by decide +kernel
theorem dX10_matches_54 : decode cX10_matches 54 = .ok (.bipush 8, 2) := by decide +kernel
theorem dX10_matches_56 : decode cX10_matches 56 = .ok (.idiv, 1) := by decide +kernel
theorem dX10_matches_57 : decode cX10_matches 57 = .ok (.istore 5, 2) := by decide +kernel
theorem dX10_matches_59 : decode cX10_matches 59 = .ok (.iload_n 2, 1) := by decide +kernel
theorem dX10_matches_60 : decode cX10_matches 60 = .ok (.ifCond .eq 11, 3) := by decide +kernel
theorem dX10_matches_63 : decode cX10_matches 63 = .ok (.iload 4, 2) := by decide +kernel
theorem dX10_matches_65 : decode cX10_matches 65 = .ok (.bipush 8, 2) := by decide +kernel
theorem dX10_matches_67 : decode cX10_matches 67 = .ok (.idiv, 1) := by decide +kernel
theorem dX10_matches_68 : decode cX10_matches 68 = .ok (.goto 8, 3) := by decide +kernel
theorem dX10_matches_71 : decode cX10_matches 71 = .ok (.iload 4, 2) := by decide +kernel
theorem dX10_matches_73 : decode cX10_matches 73 = .ok (.bipush 8, 2) := by decide +kernel
theorem dX10_matches_75 : decode cX10_matches 75 = .ok (.irem, 1) := by decide +kernel
theorem dX10_matches_76 : decode cX10_matches 76 = .ok (.istore 6, 2) := by decide +kernel
theorem dX10_matches_78 : decode cX10_matches 78 = .ok (.bipush 8, 2) := by decide +kernel
theorem dX10_matches_80 : decode cX10_matches 80 = .ok (.iload 5, 2) := by decide +kernel
theorem dX10_matches_82 : decode cX10_matches 82 = .ok (.imul, 1) := by decide +kernel
theorem dX10_matches_83 : decode cX10_matches 83 = .ok (.iload 6, 2) := by decide +kernel
theorem dX10_matches_85 : decode cX10_matches 85 = .ok (.iadd, 1) := by decide +kernel
theorem dX10_matches_86 : decode cX10_matches 86 = .ok (.istore 7, 2) := by decide +kernel
theorem dX10_matches_88 : decode cX10_matches 88 = .ok (.aload_n 0, 1) := by decide +kernel
theorem dX10_matches_89 : decode cX10_matches 89 = .ok (.getfield 50, 3) := by decide +kernel
theorem dX10_matches_92 : decode cX10_matches 92 = .ok (.iload 7, 2) := by decide +kernel
theorem dX10_matches_94 : decode cX10_matches 94 = .ok (.iaload, 1) := by decide +kernel
theorem dX10_matches_95 : decode cX10_matches 95 = .ok (.bipush (-4), 2) := by decide +kernel
theorem dX10_matches_97 : decode cX10_matches 97 = .ok (.if_icmp .eq 28, 3) := by decide +kernel
theorem dX10_matches_100 : decode cX10_matches 100 = .ok (.aload_n 1, 1) := by decide +kernel
theorem dX10_matches_101 : decode cX10_matches 101 = .ok (.iload 5, 2) := by decide +kernel
theorem dX10_matches_103 : decode cX10_matches 103 = .ok (.iaload, 1) := by decide +kernel
theorem dX10_matches_104 : decode cX10_matches 104 = .ok (.bipush (-4), 2) := by decide +kernel
theorem dX10_matches_106 : decode cX10_matches 106 = .ok (.if_icmp .ne 19, 3) := by decide +kernel
theorem dX10_matches_109 : decode cX10_matches 109 = .ok (.aload_n 1, 1) := by decide +kernel
theorem dX10_matches_110 : decode cX10_matches 110 = .ok (.bipush 8, 2) := by decide +kernel
theorem dX10_matches_112 : decode cX10_matches 112 = .ok (.iload 6, 2) := by decide +kernel
theorem dX10_matches_114 : decode cX10_matches 114 = .ok (.iadd, 1) := by decide +kernel
theorem dX10_matches_115 : decode cX10_matches 115 = .ok (.iaload, 1) := by decide +kernel
theorem dX10_matches_116 : decode cX10_matches 116 = .ok (.bipush (-4), 2) := by decide +kernel
theorem dX10_matches_118 : decode cX10_matches 118 = .ok (.if_icmp .ne 7, 3) := by decide +kernel
theorem dX10_matches_121 : decode cX10_matches 121 = .ok (.iconst 1, 1) := by decide +kernel
theorem dX10_matches_122 : decode cX10_matches 122 = .ok (.goto 4, 3) := by decide +kernel
theorem dX10_matches_125 : decode cX10_matches 125 = .ok (.iconst 0, 1) := by decide +kernel
theorem dX10_matches_126 : decode cX10_matches 126 = .ok (.istore 8, 2) := by decide +kernel
theorem dX10_matches_128 : decode cX10_matches 128 = .ok (.iload 8, 2) := by decide +kernel
theorem dX10_matches_130 : decode cX10_matches 130 = .ok (.ifCond .eq 30, 3) := by decide +kernel
theorem dX10_matches_133 : decode cX10_matches 133 = .ok (.iload_n 3, 1) := by decide +kernel
theorem dX10_matches_134 : decode cX10_matches 134 = .ok (.bipush (-4), 2) := by decide +kernel
theorem dX10_matches_136 : decode cX10_matches 136 = .ok (.if_icmp .eq 19, 3) := by decide +kernel
theorem dX10_matches_139 : decode cX10_matches 139 = .ok (.aload_n 0, 1) := by decide +kernel
theorem dX10_matches_140 : decode cX10_matches 140 = .ok (.getfield 50, 3) := by decide +kernel
theorem dX10_matches_143 : decode cX10_matches 143 = .ok (.iload 7, 2) := by decide +kernel
theorem dX10_matches_145 : decode cX10_matches 145 = .ok (.iaload, 1) := by decide +kernel
theorem dX10_matches_146 : decode cX10_matches 146 = .ok (.aload_n 0, 1) := by decide +kernel
theorem dX10_matches_147 : decode cX10_matches 147 = .ok (.getfield 50, 3) := by decide +kernel
theorem dX10_matches_150 : decode cX10_matches 150 = .ok (.iload_n 3, 1) := by decide +kernel
theorem dX10_matches_151 : decode cX10_matches 151 = .ok (.iaload, 1) := by decide +kernel
theorem dX10_matches_152 : decode cX10_matches 152 = .ok (.if_icmp .le 8, 3) := by decide +kernel
theorem dX10_matches_155 : decode cX10_matches 155 = .ok (.iload 7, 2) := by decide +kernel
theorem dX10_matches_157 : decode cX10_matches 157 = .ok (.goto 4, 3) := by decide +kernel
theorem dX10_matches_160 : decode cX10_matches 160 = .ok (.iload_n 3, 1) := by decide +kernel
theorem dX10_matches_161 : decode cX10_matches 161 = .ok (.istore_n 3, 1) := by decide +kernel
theorem dX10_matches_162 : decode cX10_matches 162 = .ok (.iinc 4 1, 3) := by decide +kernel
theorem dX10_matches_165 : decode cX10_matches 165 = .ok (.goto (-132), 3) := by decide +kernel
theorem dX10_matches_168 : decode cX10_matches 168 = .ok (.iload_n 3, 1) := by decide +kernel
theorem dX10_matches_169 : decode cX10_matches 169 = .ok (.bipush (-4), 2) := by decide +kernel
theorem dX10_matches_171 : decode cX10_matches 171 = .ok (.if_icmp .eq (-150), 3) := by decide +kernel
theorem dX10_matches_174 : decode cX10_matches 174 = .ok (.aload_n 1, 1) := by decide +kernel
theorem dX10_matches_175 : decode cX10_matches 175 = .ok (.iload_n 3, 1) := by decide +kernel
theorem dX10_matches_176 : decode cX10_matches 176 = .ok (.bipush 8, 2) := by decide +kernel
theorem dX10_matches_178 : decode cX10_matches 178 = .ok (.idiv, 1) := by decide +kernel
theorem dX10_matches_179 : decode cX10_matches 179 = .ok (.iload_n 3, 1) := by decide +kernel
theorem dX10_matches_180 : decode cX10_matches 180 = .ok (.bipush 8, 2) := by decide +kernel
theorem dX10_matches_182 : decode cX10_matches 182 = .ok (.irem, 1) := by decide +kernel
theorem dX10_matches_183 : decode cX10_matches 183 = .ok (.iastore, 1) := by decide +kernel
theorem dX10_matches_184 : decode cX10_matches 184 = .ok (.aload_n 1, 1) := by decide +kernel
theorem dX10_matches_185 : decode cX10_matches 185 = .ok (.bipush 8, 2) := by decide +kernel
theorem dX10_matches_187 : decode cX10_matches 187 = .ok (.iload_n 3, 1) := by decide +kernel
theorem dX10_matches_188 : decode cX10_matches 188 = .ok (.bipush 8, 2) := by decide +kernel
theorem dX10_matches_190 : decode cX10_matches 190 = .ok (.irem, 1) := by decide +kernel
theorem dX10_matches_191 : decode cX10_matches 191 = .ok (.iadd, 1) := by decide +kernel
theorem dX10_matches_192 : decode cX10_matches 192 = .ok (.iload_n 3, 1) := by decide +kernel
theorem dX10_matches_193 : decode cX10_matches 193 = .ok (.bipush 8, 2) := by decide +kernel
theorem dX10_matches_195 : decode cX10_matches 195 = .ok (.idiv, 1) := by decide +kernel
theorem dX10_matches_196 : decode cX10_matches 196 = .ok (.iastore, 1) := by decide +kernel
theorem dX10_matches_197 : decode cX10_matches 197 = .ok (.goto (-176), 3) := by decide +kernel
theorem dX10_matches_200 : decode cX10_matches 200 = .ok (.return_, 1) := by decide +kernel
theorem dX10_setMatches_0 : decode cX10_setMatches 0 = .ok (.aload_n 0, 1) := by decide +kernel
theorem dX10_setMatches_1 : decode cX10_setMatches 1 = .ok (.invokevirtual 149, 3) := by decide +kernel
theorem dX10_setMatches_4 : decode cX10_setMatches 4 = .ok (.aload_n 0, 1) := by decide +kernel
theorem dX10_setMatches_5 : decode cX10_setMatches 5 = .ok (.aload_n 0, 1) := by decide +kernel
theorem dX10_setMatches_6 : decode cX10_setMatches 6 = .ok (.getfield 56, 3) := by decide +kernel
theorem dX10_setMatches_9 : decode cX10_setMatches 9 = .ok (.iconst 0, 1) := by decide +kernel
theorem dX10_setMatches_10 : decode cX10_setMatches 10 = .ok (.invokevirtual 152, 3) := by decide +kernel
theorem dX10_setMatches_13 : decode cX10_setMatches 13 = .ok (.return_, 1) := by decide +kernel
theorem dX10_match_0 : decode cX10_match 0 = .ok (.aload_n 0, 1) := by decide +kernel
theorem dX10_match_1 : decode cX10_match 1 = .ok (.iload_n 1, 1) := by decide +kernel
theorem dX10_match_2 : decode cX10_match 2 = .ok (.iload_n 2, 1) := by decide +kernel
theorem dX10_match_3 : decode cX10_match 3 = .ok (.invokevirtual 92, 3) := by decide +kernel
theorem dX10_match_6 : decode cX10_match 6 = .ok (.ifCond .ne 5, 3) := by decide +kernel
theorem dX10_match_9 : decode cX10_match 9 = .ok (.iconst (-1), 1) := by decide +kernel
theorem dX10_match_10 : decode cX10_match 10 = .ok (.ireturn, 1) := by decide +kernel
theorem dX10_match_11 : decode cX10_match 11 = .ok (.aload_n 0, 1) := by decide +kernel
theorem dX10_match_12 : decode cX10_match 12 = .ok (.invokevirtual 156, 3) := by decide +kernel
theorem dX10_match_15 : decode cX10_match 15 = .ok (.aload_n 0, 1) := by decide +kernel
theorem dX10_match_16 : decode cX10_match 16 = .ok (.getfield 56, 3) := by decide +kernel
theorem dX10_match_19 : decode cX10_match 19 = .ok (.bipush 8, 2) := by decide +kernel
theorem dX10_match_21 : decode cX10_match 21 = .ok (.iload_n 1, 1) := by decide +kernel
theorem dX10_match_22 : decode cX10_match 22 = .ok (.imul, 1) := by decide +kernel
theorem dX10_match_23 : decode cX10_match 23 = .ok (.iload_n 2, 1) := by decide +kernel
theorem dX10_match_24 : decode cX10_match 24 = .ok (.iadd, 1) := by decide +kernel
theorem dX10_match_25 : decode cX10_match 25 = .ok (.iaload, 1) := by decide +kernel
theorem dX10_match_26 : decode cX10_match 26 = .ok (.ireturn, 1) := by decide +kernel
theorem dX10_goes_0 : decode cX10_goes 0 = .ok (.aload_n 0, 1) := by decide +kernel
theorem dX10_goes_1 : decode cX10_goes 1 = .ok (.getfield 159, 3) := by decide +kernel
theorem dX10_goes_4 : decode cX10_goes 4 = .ok (.ifCond .ne 38, 3) := by decide +kernel
theorem dX10_goes_7 : decode cX10_goes 7 = .ok (.aload_n 0, 1) := by decide +kernel
theorem dX10_goes_8 : decode cX10_goes 8 = .ok (.iload_n 1, 1) := by decide +kernel
theorem dX10_goes_9 : decode cX10_goes 9 = .ok (.putfield 159, 3) := by decide +kernel
theorem dX10_goes_12 : decode cX10_goes 12 = .ok (.aload_n 0, 1) := by decide +kernel
theorem dX10_goes_13 : decode cX10_goes 13 = .ok (.getfield 62, 3) := by decide +kernel
theorem dX10_goes_16 : decode cX10_goes 16 = .ok (.iconst 0, 1) := by decide +kernel
theorem dX10_goes_17 : decode cX10_goes 17 = .ok (.iload_n 2, 1) := by decide +kernel
theorem dX10_goes_18 : decode cX10_goes 18 = .ok (.iastore, 1) := by decide +kernel
theorem dX10_goes_19 : decode cX10_goes 19 = .ok (.aload_n 0, 1) := by decide +kernel
theorem dX10_goes_20 : decode cX10_goes 20 = .ok (.getfield 62, 3) := by decide +kernel
theorem dX10_goes_23 : decode cX10_goes 23 = .ok (.iconst 1, 1) := by decide +kernel
theorem dX10_goes_24 : decode cX10_goes 24 = .ok (.iload_n 3, 1) := by decide +kernel
theorem dX10_goes_25 : decode cX10_goes 25 = .ok (.iastore, 1) := by decide +kernel
theorem dX10_goes_26 : decode cX10_goes 26 = .ok (.aload_n 0, 1) := by decide +kernel
theorem dX10_goes_27 : decode cX10_goes 27 = .ok (.getfield 62, 3) := by decide +kernel
theorem dX10_goes_30 : decode cX10_goes 30 = .ok (.iconst 2, 1) := by decide +kernel
theorem dX10_goes_31 : decode cX10_goes 31 = .ok (.iload 4, 2) := by decide +kernel
theorem dX10_goes_33 : decode cX10_goes 33 = .ok (.iastore, 1) := by decide +kernel
theorem dX10_goes_34 : decode cX10_goes 34 = .ok (.aload_n 0, 1) := by decide +kernel
theorem dX10_goes_35 : decode cX10_goes 35 = .ok (.getfield 62, 3) := by decide +kernel
theorem dX10_goes_38 : decode cX10_goes 38 = .ok (.iconst 3, 1) := by decide +kernel
theorem dX10_goes_39 : decode cX10_goes 39 = .ok (.iload 5, 2) := by decide +kernel
theorem dX10_goes_41 : decode cX10_goes 41 = .ok (.iastore, 1) := by decide +kernel
theorem dX10_goes_42 : decode cX10_goes 42 = .ok (.return_, 1) := by decide +kernel
theorem dX10_isWay_0 : decode cX10_isWay 0 = .ok (.iload_n 1, 1) := by decide +kernel
theorem dX10_isWay_1 : decode cX10_isWay 1 = .ok (.iload_n 2, 1) := by decide +kernel
theorem dX10_isWay_2 : decode cX10_isWay 2 = .ok (.if_icmp .eq 19, 3) := by decide +kernel
theorem dX10_isWay_5 : decode cX10_isWay 5 = .ok (.aload_n 0, 1) := by decide +kernel
theorem dX10_isWay_6 : decode cX10_isWay 6 = .ok (.iconst 1, 1) := by decide +kernel
theorem dX10_isWay_7 : decode cX10_isWay 7 = .ok (.iload_n 1, 1) := by decide +kernel
theorem dX10_isWay_8 : decode cX10_isWay 8 = .ok (.iload_n 2, 1) := by decide +kernel
theorem dX10_isWay_9 : decode cX10_isWay 9 = .ok (.invokevirtual 121, 3) := by decide +kernel
theorem dX10_isWay_12 : decode cX10_isWay 12 = .ok (.bipush (-4), 2) := by decide +kernel
theorem dX10_isWay_14 : decode cX10_isWay 14 = .ok (.if_icmp .eq 7, 3) := by decide +kernel
theorem dX10_isWay_17 : decode cX10_isWay 17 = .ok (.iconst 1, 1) := by decide +kernel
theorem dX10_isWay_18 : decode cX10_isWay 18 = .ok (.goto 4, 3) := by decide +kernel
theorem dX10_isWay_21 : decode cX10_isWay 21 = .ok (.iconst 0, 1) := by decide +kernel
theorem dX10_isWay_22 : decode cX10_isWay 22 = .ok (.ireturn, 1) := by decide +kernel
theorem dX10_setPath_0 : decode cX10_setPath 0 = .ok (.aload_n 0, 1) := by decide +kernel
theorem dX10_setPath_1 : decode cX10_setPath 1 = .ok (.iconst 0, 1) := by decide +kernel
theorem dX10_setPath_2 : decode cX10_setPath 2 = .ok (.putfield 159, 3) := by decide +kernel
theorem dX10_setPath_5 : decode cX10_setPath 5 = .ok (.aload_n 0, 1) := by decide +kernel
theorem dX10_setPath_6 : decode cX10_setPath 6 = .ok (.getfield 56, 3) := by decide +kernel
theorem dX10_setPath_9 : decode cX10_setPath 9 = .ok (.aload_n 0, 1) := by decide +kernel
theorem dX10_setPath_10 : decode cX10_setPath 10 = .ok (.getfield 32, 3) := by decide +kernel
theorem dX10_setPath_13 : decode cX10_setPath 13 = .ok (.iload_n 1, 1) := by decide +kernel
theorem dX10_setPath_14 : decode cX10_setPath 14 = .ok (.iaload, 1) := by decide +kernel
theorem dX10_setPath_15 : decode cX10_setPath 15 = .ok (.iaload, 1) := by decide +kernel
theorem dX10_setPath_16 : decode cX10_setPath 16 = .ok (.istore_n 2, 1) := by decide +kernel
theorem dX10_setPath_17 : decode cX10_setPath 17 = .ok (.aload_n 0, 1) := by decide +kernel
theorem dX10_setPath_18 : decode cX10_setPath 18 = .ok (.getfield 56, 3) := by decide +kernel
theorem dX10_setPath_21 : decode cX10_setPath 21 = .ok (.aload_n 0, 1) := by decide +kernel
theorem dX10_setPath_22 : decode cX10_setPath 22 = .ok (.getfield 35, 3) := by decide +kernel
theorem dX10_setPath_25 : decode cX10_setPath 25 = .ok (.iload_n 1, 1) := by decide +kernel
theorem dX10_setPath_26 : decode cX10_setPath 26 = .ok (.iaload, 1) := by decide +kernel
theorem dX10_setPath_27 : decode cX10_setPath 27 = .ok (.iaload, 1) := by decide +kernel
theorem dX10_setPath_28 : decode cX10_setPath 28 = .ok (.istore_n 3, 1) := by decide +kernel
theorem dX10_setPath_29 : decode cX10_setPath 29 = .ok (.iload_n 2, 1) := by decide +kernel
theorem dX10_setPath_30 : decode cX10_setPath 30 = .ok (.bipush (-4), 2) := by decide +kernel
theorem dX10_setPath_32 : decode cX10_setPath 32 = .ok (.if_icmp .eq 9, 3) := by decide +kernel
theorem dX10_setPath_35 : decode cX10_setPath 35 = .ok (.iload_n 3, 1) := by decide +kernel
theorem dX10_setPath_36 : decode cX10_setPath 36 = .ok (.bipush (-4), 2) := by decide +kernel
theorem dX10_setPath_38 : decode cX10_setPath 38 = .ok (.if_icmp .ne 4, 3) := by decide +kernel
theorem dX10_setPath_41 : decode cX10_setPath 41 = .ok (.return_, 1) := by decide +kernel
theorem dX10_setPath_42 : decode cX10_setPath 42 = .ok (.aload_n 0, 1) := by decide +kernel
theorem dX10_setPath_43 : decode cX10_setPath 43 = .ok (.iload_n 2, 1) := by decide +kernel
theorem dX10_setPath_44 : decode cX10_setPath 44 = .ok (.iload_n 3, 1) := by decide +kernel
theorem dX10_setPath_45 : decode cX10_setPath 45 = .ok (.invokevirtual 162, 3) := by decide +kernel
theorem dX10_setPath_48 : decode cX10_setPath 48 = .ok (.ifCond .eq 14, 3) := by decide +kernel
theorem dX10_setPath_51 : decode cX10_setPath 51 = .ok (.aload_n 0, 1) := by decide +kernel
theorem dX10_setPath_52 : decode cX10_setPath 52 = .ok (.iconst 1, 1) := by decide +kernel
theorem dX10_setPath_53 : decode cX10_setPath 53 = .ok (.iload_n 2, 1) := by decide +kernel
theorem dX10_setPath_54 : decode cX10_setPath 54 = .ok (.iload_n 3, 1) := by decide +kernel
theorem dX10_setPath_55 : decode cX10_setPath 55 = .ok (.bipush (-4), 2) := by decide +kernel
theorem dX10_setPath_57 : decode cX10_setPath 57 = .ok (.bipush (-4), 2) := by decide +kernel
theorem dX10_setPath_59 : decode cX10_setPath 59 = .ok (.invokevirtual 165, 3) := by decide +kernel
theorem dX10_setPath_62 : decode cX10_setPath 62 = .ok (.iconst 0, 1) := by decide +kernel
theorem dX10_setPath_63 : decode cX10_setPath 63 = .ok (.istore 4, 2) := by decide +kernel
theorem dX10_setPath_65 : decode cX10_setPath 65 = .ok (.iload 4, 2) := by decide +kernel
theorem dX10_setPath_67 : decode cX10_setPath 67 = .ok (.aload_n 0, 1) := by decide +kernel
theorem dX10_setPath_68 : decode cX10_setPath 68 = .ok (.getfield 16, 3) := by decide +kernel
theorem dX10_setPath_71 : decode cX10_setPath 71 = .ok (.iconst 1, 1) := by decide +kernel
theorem dX10_setPath_72 : decode cX10_setPath 72 = .ok (.iaload, 1) := by decide +kernel
theorem dX10_setPath_73 : decode cX10_setPath 73 = .ok (.if_icmp .ge 40, 3) := by decide +kernel
theorem dX10_setPath_76 : decode cX10_setPath 76 = .ok (.aload_n 0, 1) := by decide +kernel
theorem dX10_setPath_77 : decode cX10_setPath 77 = .ok (.iload_n 2, 1) := by decide +kernel
theorem dX10_setPath_78 : decode cX10_setPath 78 = .ok (.iload 4, 2) := by decide +kernel
theorem dX10_setPath_80 : decode cX10_setPath 80 = .ok (.invokevirtual 162, 3) := by decide +kernel
theorem dX10_setPath_83 : decode cX10_setPath 83 = .ok (.ifCond .eq 24, 3) := by decide +kernel
theorem dX10_setPath_86 : decode cX10_setPath 86 = .ok (.aload_n 0, 1) := by decide +kernel
theorem dX10_setPath_87 : decode cX10_setPath 87 = .ok (.iload 4, 2) := by decide +kernel
theorem dX10_setPath_89 : decode cX10_setPath 89 = .ok (.iload_n 3, 1) := by decide +kernel
theorem dX10_setPath_90 : decode cX10_setPath 90 = .ok (.invokevirtual 162, 3) := by decide +kernel
theorem dX10_setPath_93 : decode cX10_setPath 93 = .ok (.ifCond .eq 14, 3) := by decide +kernel
theorem dX10_setPath_96 : decode cX10_setPath 96 = .ok (.aload_n 0, 1) := by decide +kernel
theorem dX10_setPath_97 : decode cX10_setPath 97 = .ok (.iconst 2, 1) := by decide +kernel
theorem dX10_setPath_98 : decode cX10_setPath 98 = .ok (.iload_n 2, 1) := by decide +kernel
theorem dX10_setPath_99 : decode cX10_setPath 99 = .ok (.iload 4, 2) := by decide +kernel
theorem dX10_setPath_101 : decode cX10_setPath 101 = .ok (.iload_n 3, 1) := by decide +kernel
theorem dX10_setPath_102 : decode cX10_setPath 102 = .ok (.bipush (-4), 2) := by decide +kernel
theorem dX10_setPath_104 : decode cX10_setPath 104 = .ok (.invokevirtual 165, 3) := by decide +kernel
theorem dX10_setPath_107 : decode cX10_setPath 107 = .ok (.iinc 4 1, 3) := by decide +kernel
theorem dX10_setPath_110 : decode cX10_setPath 110 = .ok (.goto (-45), 3) := by decide +kernel
theorem dX10_setPath_113 : decode cX10_setPath 113 = .ok (.iconst 0, 1) := by decide +kernel
theorem dX10_setPath_114 : decode cX10_setPath 114 = .ok (.istore 4, 2) := by decide +kernel
theorem dX10_setPath_116 : decode cX10_setPath 116 = .ok (.iload 4, 2) := by decide +kernel
theorem dX10_setPath_118 : decode cX10_setPath 118 = .ok (.aload_n 0, 1) := by decide +kernel
theorem dX10_setPath_119 : decode cX10_setPath 119 = .ok (.getfield 16, 3) := by decide +kernel
theorem dX10_setPath_122 : decode cX10_setPath 122 = .ok (.iconst 1, 1) := by decide +kernel
theorem dX10_setPath_123 : decode cX10_setPath 123 = .ok (.iaload, 1) := by decide +kernel
theorem dX10_setPath_124 : decode cX10_setPath 124 = .ok (.if_icmp .ge 83, 3) := by decide +kernel
theorem dX10_setPath_127 : decode cX10_setPath 127 = .ok (.iconst 0, 1) := by decide +kernel
theorem dX10_setPath_128 : decode cX10_setPath 128 = .ok (.istore 5, 2) := by decide +kernel
theorem dX10_setPath_130 : decode cX10_setPath 130 = .ok (.iload 5, 2) := by decide +kernel
theorem dX10_setPath_132 : decode cX10_setPath 132 = .ok (.aload_n 0, 1) := by decide +kernel
theorem dX10_setPath_133 : decode cX10_setPath 133 = .ok (.getfield 16, 3) := by decide +kernel
theorem dX10_setPath_136 : decode cX10_setPath 136 = .ok (.iconst 1, 1) := by decide +kernel
theorem dX10_setPath_137 : decode cX10_setPath 137 = .ok (.iaload, 1) := by decide +kernel
theorem dX10_setPath_138 : decode cX10_setPath 138 = .ok (.if_icmp .ge 63, 3) := by decide +kernel
theorem dX10_setPath_141 : decode cX10_setPath 141 = .ok (.iload 4, 2) := by decide +kernel
theorem dX10_setPath_143 : decode cX10_setPath 143 = .ok (.iload_n 3, 1) := by decide +kernel
theorem dX10_setPath_144 : decode cX10_setPath 144 = .ok (.if_icmp .eq 51, 3) := by decide +kernel
theorem dX10_setPath_147 : decode cX10_setPath 147 = .ok (.iload 5, 2) := by decide +kernel
theorem dX10_setPath_149 : decode cX10_setPath 149 = .ok (.iload_n 2, 1) := by decide +kernel
theorem dX10_setPath_150 : decode cX10_setPath 150 = .ok (.if_icmp .eq 45, 3) := by decide +kernel
theorem dX10_setPath_153 : decode cX10_setPath 153 = .ok (.aload_n 0, 1) := by decide +kernel
theorem dX10_setPath_154 : decode cX10_setPath 154 = .ok (.iload_n 2, 1) := by decide +kernel
theorem dX10_setPath_155 : decode cX10_setPath 155 = .ok (.iload 4, 2) := by decide +kernel
theorem dX10_setPath_157 : decode cX10_setPath 157 = .ok (.invokevirtual 162, 3) := by decide +kernel
theorem dX10_setPath_160 : decode cX10_setPath 160 = .ok (.ifCond .eq 35, 3) := by decide +kernel
theorem dX10_setPath_163 : decode cX10_setPath 163 = .ok (.aload_n 0, 1) := by decide +kernel
theorem dX10_setPath_164 : decode cX10_setPath 164 = .ok (.iload 4, 2) := by decide +kernel
theorem dX10_setPath_166 : decode cX10_setPath 166 = .ok (.iload 5, 2) := by decide +kernel
theorem dX10_setPath_168 : decode cX10_setPath 168 = .ok (.invokevirtual 162, 3) := by decide +kernel
theorem dX10_setPath_171 : decode cX10_setPath 171 = .ok (.ifCond .eq 24, 3) := by decide +kernel
theorem dX10_setPath_174 : decode cX10_setPath 174 = .ok (.aload_n 0, 1) := by decide +kernel
theorem dX10_setPath_175 : decode cX10_setPath 175 = .ok (.iload 5, 2) := by decide +kernel
theorem dX10_setPath_177 : decode cX10_setPath 177 = .ok (.iload_n 3, 1) := by decide +kernel
theorem dX10_setPath_178 : decode cX10_setPath 178 = .ok (.invokevirtual 162, 3) := by decide +kernel
theorem dX10_setPath_181 : decode cX10_setPath 181 = .ok (.ifCond .eq 14, 3) := by decide +kernel
theorem dX10_setPath_184 : decode cX10_setPath 184 = .ok (.aload_n 0, 1) := by decide +kernel
theorem dX10_setPath_185 : decode cX10_setPath 185 = .ok (.iconst 3, 1) := by decide +kernel
theorem dX10_setPath_186 : decode cX10_setPath 186 = .ok (.iload_n 2, 1) := by decide +kernel
theorem dX10_setPath_187 : decode cX10_setPath 187 = .ok (.iload 4, 2) := by decide +kernel
theorem dX10_setPath_189 : decode cX10_setPath 189 = .ok (.iload 5, 2) := by decide +kernel
theorem dX10_setPath_191 : decode cX10_setPath 191 = .ok (.iload_n 3, 1) := by decide +kernel
theorem dX10_setPath_192 : decode cX10_setPath 192 = .ok (.invokevirtual 165, 3) := by decide +kernel
theorem dX10_setPath_195 : decode cX10_setPath 195 = .ok (.iinc 5 1, 3) := by decide +kernel
theorem dX10_setPath_198 : decode cX10_setPath 198 = .ok (.goto (-68), 3) := by decide +kernel
theorem dX10_setPath_201 : decode cX10_setPath 201 = .ok (.iinc 4 1, 3) := by decide +kernel
theorem dX10_setPath_204 : decode cX10_setPath 204 = .ok (.goto (-88), 3) := by decide +kernel
theorem dX10_setPath_207 : decode cX10_setPath 207 = .ok (.return_, 1) := by decide +kernel
theorem dX10_told_0 : decode cX10_told 0 = .ok (.aload_n 0, 1) := by decide +kernel
theorem dX10_told_1 : decode cX10_told 1 = .ok (.iconst 0, 1) := by decide +kernel
theorem dX10_told_2 : decode cX10_told 2 = .ok (.iload_n 1, 1) := by decide +kernel
theorem dX10_told_3 : decode cX10_told 3 = .ok (.invokevirtual 104, 3) := by decide +kernel
theorem dX10_told_6 : decode cX10_told 6 = .ok (.ifCond .eq 8, 3) := by decide +kernel
theorem dX10_told_9 : decode cX10_told 9 = .ok (.iload_n 2, 1) := by decide +kernel
theorem dX10_told_10 : decode cX10_told 10 = .ok (.iconst (-1), 1) := by decide +kernel
theorem dX10_told_11 : decode cX10_told 11 = .ok (.if_icmp .ge 5, 3) := by decide +kernel
theorem dX10_told_14 : decode cX10_told 14 = .ok (.iconst (-1), 1) := by decide +kernel
theorem dX10_told_15 : decode cX10_told 15 = .ok (.ireturn, 1) := by decide +kernel
theorem dX10_told_16 : decode cX10_told 16 = .ok (.aload_n 0, 1) := by decide +kernel
theorem dX10_told_17 : decode cX10_told 17 = .ok (.invokevirtual 156, 3) := by decide +kernel
theorem dX10_told_20 : decode cX10_told 20 = .ok (.aload_n 0, 1) := by decide +kernel
theorem dX10_told_21 : decode cX10_told 21 = .ok (.iload_n 1, 1) := by decide +kernel
theorem dX10_told_22 : decode cX10_told 22 = .ok (.invokevirtual 169, 3) := by decide +kernel
theorem dX10_told_25 : decode cX10_told 25 = .ok (.aload_n 0, 1) := by decide +kernel
theorem dX10_told_26 : decode cX10_told 26 = .ok (.getfield 159, 3) := by decide +kernel
theorem dX10_told_29 : decode cX10_told 29 = .ok (.ifCond .ne 6, 3) := by decide +kernel
theorem dX10_told_32 : decode cX10_told 32 = .ok (.bipush (-4), 2) := by decide +kernel
theorem dX10_told_34 : decode cX10_told 34 = .ok (.ireturn, 1) := by decide +kernel
theorem dX10_told_35 : decode cX10_told 35 = .ok (.iload_n 2, 1) := by decide +kernel
theorem dX10_told_36 : decode cX10_told 36 = .ok (.iconst (-1), 1) := by decide +kernel
theorem dX10_told_37 : decode cX10_told 37 = .ok (.if_icmp .ne 10, 3) := by decide +kernel
theorem dX10_told_40 : decode cX10_told 40 = .ok (.aload_n 0, 1) := by decide +kernel
theorem dX10_told_41 : decode cX10_told 41 = .ok (.getfield 159, 3) := by decide +kernel
theorem dX10_told_44 : decode cX10_told 44 = .ok (.goto 22, 3) := by decide +kernel
theorem dX10_told_47 : decode cX10_told 47 = .ok (.iload_n 2, 1) := by decide +kernel
theorem dX10_told_48 : decode cX10_told 48 = .ok (.aload_n 0, 1) := by decide +kernel
theorem dX10_told_49 : decode cX10_told 49 = .ok (.getfield 159, 3) := by decide +kernel
theorem dX10_told_52 : decode cX10_told 52 = .ok (.if_icmp .gt 12, 3) := by decide +kernel
theorem dX10_told_55 : decode cX10_told 55 = .ok (.aload_n 0, 1) := by decide +kernel
theorem dX10_told_56 : decode cX10_told 56 = .ok (.getfield 62, 3) := by decide +kernel
theorem dX10_told_59 : decode cX10_told 59 = .ok (.iload_n 2, 1) := by decide +kernel
theorem dX10_told_60 : decode cX10_told 60 = .ok (.iaload, 1) := by decide +kernel
theorem dX10_told_61 : decode cX10_told 61 = .ok (.goto 5, 3) := by decide +kernel
theorem dX10_told_64 : decode cX10_told 64 = .ok (.bipush (-4), 2) := by decide +kernel
theorem dX10_told_66 : decode cX10_told 66 = .ok (.ireturn, 1) := by decide +kernel
theorem dX10_nameBy_0 : decode cX10_nameBy 0 = .ok (.aload_n 0, 1) := by decide +kernel
theorem dX10_nameBy_1 : decode cX10_nameBy 1 = .ok (.getfield 38, 3) := by decide +kernel
theorem dX10_nameBy_4 : decode cX10_nameBy 4 = .ok (.bipush 8, 2) := by decide +kernel
theorem dX10_nameBy_6 : decode cX10_nameBy 6 = .ok (.aload_n 0, 1) := by decide +kernel
theorem dX10_nameBy_7 : decode cX10_nameBy 7 = .ok (.iconst 1, 1) := by decide +kernel
theorem dX10_nameBy_8 : decode cX10_nameBy 8 = .ok (.aload_n 0, 1) := by decide +kernel
theorem dX10_nameBy_9 : decode cX10_nameBy 9 = .ok (.getfield 62, 3) := by decide +kernel
theorem dX10_nameBy_12 : decode cX10_nameBy 12 = .ok (.iconst 0, 1) := by decide +kernel
theorem dX10_nameBy_13 : decode cX10_nameBy 13 = .ok (.iaload, 1) := by decide +kernel
theorem dX10_nameBy_14 : decode cX10_nameBy 14 = .ok (.aload_n 0, 1) := by decide +kernel
theorem dX10_nameBy_15 : decode cX10_nameBy 15 = .ok (.getfield 62, 3) := by decide +kernel
theorem dX10_nameBy_18 : decode cX10_nameBy 18 = .ok (.iconst 1, 1) := by decide +kernel
theorem dX10_nameBy_19 : decode cX10_nameBy 19 = .ok (.iaload, 1) := by decide +kernel
theorem dX10_nameBy_20 : decode cX10_nameBy 20 = .ok (.invokevirtual 121, 3) := by decide +kernel
theorem dX10_nameBy_23 : decode cX10_nameBy 23 = .ok (.iadd, 1) := by decide +kernel
theorem dX10_nameBy_24 : decode cX10_nameBy 24 = .ok (.iaload, 1) := by decide +kernel
theorem dX10_nameBy_25 : decode cX10_nameBy 25 = .ok (.istore_n 1, 1) := by decide +kernel
theorem dX10_nameBy_26 : decode cX10_nameBy 26 = .ok (.iconst 1, 1) := by decide +kernel
theorem dX10_nameBy_27 : decode cX10_nameBy 27 = .ok (.istore_n 2, 1) := by decide +kernel
theorem dX10_nameBy_28 : decode cX10_nameBy 28 = .ok (.iload_n 2, 1) := by decide +kernel
theorem dX10_nameBy_29 : decode cX10_nameBy 29 = .ok (.aload_n 0, 1) := by decide +kernel
theorem dX10_nameBy_30 : decode cX10_nameBy 30 = .ok (.getfield 159, 3) := by decide +kernel
theorem dX10_nameBy_33 : decode cX10_nameBy 33 = .ok (.if_icmp .ge 46, 3) := by decide +kernel
theorem dX10_nameBy_36 : decode cX10_nameBy 36 = .ok (.aload_n 0, 1) := by decide +kernel
theorem dX10_nameBy_37 : decode cX10_nameBy 37 = .ok (.getfield 38, 3) := by decide +kernel
theorem dX10_nameBy_40 : decode cX10_nameBy 40 = .ok (.bipush 8, 2) := by decide +kernel
theorem dX10_nameBy_42 : decode cX10_nameBy 42 = .ok (.aload_n 0, 1) := by decide +kernel
theorem dX10_nameBy_43 : decode cX10_nameBy 43 = .ok (.iconst 1, 1) := by decide +kernel
theorem dX10_nameBy_44 : decode cX10_nameBy 44 = .ok (.aload_n 0, 1) := by decide +kernel
theorem dX10_nameBy_45 : decode cX10_nameBy 45 = .ok (.getfield 62, 3) := by decide +kernel
theorem dX10_nameBy_48 : decode cX10_nameBy 48 = .ok (.iload_n 2, 1) := by decide +kernel
theorem dX10_nameBy_49 : decode cX10_nameBy 49 = .ok (.iaload, 1) := by decide +kernel
theorem dX10_nameBy_50 : decode cX10_nameBy 50 = .ok (.aload_n 0, 1) := by decide +kernel
theorem dX10_nameBy_51 : decode cX10_nameBy 51 = .ok (.getfield 62, 3) := by decide +kernel
theorem dX10_nameBy_54 : decode cX10_nameBy 54 = .ok (.iload_n 2, 1) := by decide +kernel
theorem dX10_nameBy_55 : decode cX10_nameBy 55 = .ok (.iconst 1, 1) := by decide +kernel
theorem dX10_nameBy_56 : decode cX10_nameBy 56 = .ok (.iadd, 1) := by decide +kernel
theorem dX10_nameBy_57 : decode cX10_nameBy 57 = .ok (.iaload, 1) := by decide +kernel
theorem dX10_nameBy_58 : decode cX10_nameBy 58 = .ok (.invokevirtual 121, 3) := by decide +kernel
theorem dX10_nameBy_61 : decode cX10_nameBy 61 = .ok (.iadd, 1) := by decide +kernel
theorem dX10_nameBy_62 : decode cX10_nameBy 62 = .ok (.iaload, 1) := by decide +kernel
theorem dX10_nameBy_63 : decode cX10_nameBy 63 = .ok (.iload_n 1, 1) := by decide +kernel
theorem dX10_nameBy_64 : decode cX10_nameBy 64 = .ok (.if_icmp .ne 7, 3) := by decide +kernel
theorem dX10_nameBy_67 : decode cX10_nameBy 67 = .ok (.iload_n 1, 1) := by decide +kernel
theorem dX10_nameBy_68 : decode cX10_nameBy 68 = .ok (.goto 4, 3) := by decide +kernel
theorem dX10_nameBy_71 : decode cX10_nameBy 71 = .ok (.iconst 0, 1) := by decide +kernel
theorem dX10_nameBy_72 : decode cX10_nameBy 72 = .ok (.istore_n 1, 1) := by decide +kernel
theorem dX10_nameBy_73 : decode cX10_nameBy 73 = .ok (.iinc 2 1, 3) := by decide +kernel
theorem dX10_nameBy_76 : decode cX10_nameBy 76 = .ok (.goto (-48), 3) := by decide +kernel
theorem dX10_nameBy_79 : decode cX10_nameBy 79 = .ok (.iload_n 1, 1) := by decide +kernel
theorem dX10_nameBy_80 : decode cX10_nameBy 80 = .ok (.ireturn, 1) := by decide +kernel
theorem dX10_named_0 : decode cX10_named 0 = .ok (.aload_n 0, 1) := by decide +kernel
theorem dX10_named_1 : decode cX10_named 1 = .ok (.iconst 0, 1) := by decide +kernel
theorem dX10_named_2 : decode cX10_named 2 = .ok (.iload_n 1, 1) := by decide +kernel
theorem dX10_named_3 : decode cX10_named 3 = .ok (.invokevirtual 104, 3) := by decide +kernel
theorem dX10_named_6 : decode cX10_named 6 = .ok (.ifCond .ne 5, 3) := by decide +kernel
theorem dX10_named_9 : decode cX10_named 9 = .ok (.iconst (-1), 1) := by decide +kernel
theorem dX10_named_10 : decode cX10_named 10 = .ok (.ireturn, 1) := by decide +kernel
theorem dX10_named_11 : decode cX10_named 11 = .ok (.aload_n 0, 1) := by decide +kernel
theorem dX10_named_12 : decode cX10_named 12 = .ok (.invokevirtual 156, 3) := by decide +kernel
theorem dX10_named_15 : decode cX10_named 15 = .ok (.aload_n 0, 1) := by decide +kernel
theorem dX10_named_16 : decode cX10_named 16 = .ok (.iload_n 1, 1) := by decide +kernel
theorem dX10_named_17 : decode cX10_named 17 = .ok (.invokevirtual 169, 3) := by decide +kernel
theorem dX10_named_20 : decode cX10_named 20 = .ok (.aload_n 0, 1) := by decide +kernel
theorem dX10_named_21 : decode cX10_named 21 = .ok (.getfield 38, 3) := by decide +kernel
theorem dX10_named_24 : decode cX10_named 24 = .ok (.iload_n 1, 1) := by decide +kernel
theorem dX10_named_25 : decode cX10_named 25 = .ok (.iaload, 1) := by decide +kernel
theorem dX10_named_26 : decode cX10_named 26 = .ok (.ifCond .ne 10, 3) := by decide +kernel
theorem dX10_named_29 : decode cX10_named 29 = .ok (.aload_n 0, 1) := by decide +kernel
theorem dX10_named_30 : decode cX10_named 30 = .ok (.getfield 159, 3) := by decide +kernel
theorem dX10_named_33 : decode cX10_named 33 = .ok (.ifCond .ne 12, 3) := by decide +kernel
theorem dX10_named_36 : decode cX10_named 36 = .ok (.aload_n 0, 1) := by decide +kernel
theorem dX10_named_37 : decode cX10_named 37 = .ok (.getfield 38, 3) := by decide +kernel
theorem dX10_named_40 : decode cX10_named 40 = .ok (.iload_n 1, 1) := by decide +kernel
theorem dX10_named_41 : decode cX10_named 41 = .ok (.iaload, 1) := by decide +kernel
theorem dX10_named_42 : decode cX10_named 42 = .ok (.goto 7, 3) := by decide +kernel
theorem dX10_named_45 : decode cX10_named 45 = .ok (.aload_n 0, 1) := by decide +kernel
theorem dX10_named_46 : decode cX10_named 46 = .ok (.invokevirtual 173, 3) := by decide +kernel
theorem dX10_named_49 : decode cX10_named 49 = .ok (.ireturn, 1) := by decide +kernel
theorem dX10_area_0 : decode cX10_area 0 = .ok (.aload_n 0, 1) := by decide +kernel
theorem dX10_area_1 : decode cX10_area 1 = .ok (.getfield 26, 3) := by decide +kernel
theorem dX10_area_4 : decode cX10_area 4 = .ok (.iload_n 2, 1) := by decide +kernel
theorem dX10_area_5 : decode cX10_area 5 = .ok (.iaload, 1) := by decide +kernel
theorem dX10_area_6 : decode cX10_area 6 = .ok (.aload_n 0, 1) := by decide +kernel
theorem dX10_area_7 : decode cX10_area 7 = .ok (.getfield 26, 3) := by decide +kernel
theorem dX10_area_10 : decode cX10_area 10 = .ok (.iload_n 1, 1) := by decide +kernel
theorem dX10_area_11 : decode cX10_area 11 = .ok (.iaload, 1) := by decide +kernel
theorem dX10_area_12 : decode cX10_area 12 = .ok (.isub, 1) := by decide +kernel
theorem dX10_area_13 : decode cX10_area 13 = .ok (.aload_n 0, 1) := by decide +kernel
theorem dX10_area_14 : decode cX10_area 14 = .ok (.getfield 29, 3) := by decide +kernel
theorem dX10_area_17 : decode cX10_area 17 = .ok (.iload_n 3, 1) := by decide +kernel
theorem dX10_area_18 : decode cX10_area 18 = .ok (.iaload, 1) := by decide +kernel
theorem dX10_area_19 : decode cX10_area 19 = .ok (.aload_n 0, 1) := by decide +kernel
theorem dX10_area_20 : decode cX10_area 20 = .ok (.getfield 29, 3) := by decide +kernel
theorem dX10_area_23 : decode cX10_area 23 = .ok (.iload_n 1, 1) := by decide +kernel
theorem dX10_area_24 : decode cX10_area 24 = .ok (.iaload, 1) := by decide +kernel
theorem dX10_area_25 : decode cX10_area 25 = .ok (.isub, 1) := by decide +kernel
theorem dX10_area_26 : decode cX10_area 26 = .ok (.imul, 1) := by decide +kernel
theorem dX10_area_27 : decode cX10_area 27 = .ok (.aload_n 0, 1) := by decide +kernel
theorem dX10_area_28 : decode cX10_area 28 = .ok (.getfield 26, 3) := by decide +kernel
theorem dX10_area_31 : decode cX10_area 31 = .ok (.iload_n 3, 1) := by decide +kernel
theorem dX10_area_32 : decode cX10_area 32 = .ok (.iaload, 1) := by decide +kernel
theorem dX10_area_33 : decode cX10_area 33 = .ok (.aload_n 0, 1) := by decide +kernel
theorem dX10_area_34 : decode cX10_area 34 = .ok (.getfield 26, 3) := by decide +kernel
theorem dX10_area_37 : decode cX10_area 37 = .ok (.iload_n 1, 1) := by decide +kernel
theorem dX10_area_38 : decode cX10_area 38 = .ok (.iaload, 1) := by decide +kernel
theorem dX10_area_39 : decode cX10_area 39 = .ok (.isub, 1) := by decide +kernel
theorem dX10_area_40 : decode cX10_area 40 = .ok (.aload_n 0, 1) := by decide +kernel
theorem dX10_area_41 : decode cX10_area 41 = .ok (.getfield 29, 3) := by decide +kernel
theorem dX10_area_44 : decode cX10_area 44 = .ok (.iload_n 2, 1) := by decide +kernel
theorem dX10_area_45 : decode cX10_area 45 = .ok (.iaload, 1) := by decide +kernel
theorem dX10_area_46 : decode cX10_area 46 = .ok (.aload_n 0, 1) := by decide +kernel
theorem dX10_area_47 : decode cX10_area 47 = .ok (.getfield 29, 3) := by decide +kernel
theorem dX10_area_50 : decode cX10_area 50 = .ok (.iload_n 1, 1) := by decide +kernel
theorem dX10_area_51 : decode cX10_area 51 = .ok (.iaload, 1) := by decide +kernel
theorem dX10_area_52 : decode cX10_area 52 = .ok (.isub, 1) := by decide +kernel
theorem dX10_area_53 : decode cX10_area 53 = .ok (.imul, 1) := by decide +kernel
theorem dX10_area_54 : decode cX10_area 54 = .ok (.isub, 1) := by decide +kernel
theorem dX10_area_55 : decode cX10_area 55 = .ok (.ireturn, 1) := by decide +kernel
theorem dX10_far_0 : decode cX10_far 0 = .ok (.iload_n 0, 1) := by decide +kernel
theorem dX10_far_1 : decode cX10_far 1 = .ok (.ifCond .ge 8, 3) := by decide +kernel
theorem dX10_far_4 : decode cX10_far 4 = .ok (.iload_n 0, 1) := by decide +kernel
theorem dX10_far_5 : decode cX10_far 5 = .ok (.ineg, 1) := by decide +kernel
theorem dX10_far_6 : decode cX10_far 6 = .ok (.goto 4, 3) := by decide +kernel
theorem dX10_far_9 : decode cX10_far 9 = .ok (.iload_n 0, 1) := by decide +kernel
theorem dX10_far_10 : decode cX10_far 10 = .ok (.ireturn, 1) := by decide +kernel
theorem dX10_isWithin_0 : decode cX10_isWithin 0 = .ok (.aload_n 0, 1) := by decide +kernel
theorem dX10_isWithin_1 : decode cX10_isWithin 1 = .ok (.iload_n 1, 1) := by decide +kernel
theorem dX10_isWithin_2 : decode cX10_isWithin 2 = .ok (.iload_n 3, 1) := by decide +kernel
theorem dX10_isWithin_3 : decode cX10_isWithin 3 = .ok (.iload 4, 2) := by decide +kernel
theorem dX10_isWithin_5 : decode cX10_isWithin 5 = .ok (.invokevirtual 177, 3) := by decide +kernel
theorem dX10_isWithin_8 : decode cX10_isWithin 8 = .ok (.invokestatic 180, 3) := by decide +kernel
theorem dX10_isWithin_11 : decode cX10_isWithin 11 = .ok (.aload_n 0, 1) := by decide +kernel
theorem dX10_isWithin_12 : decode cX10_isWithin 12 = .ok (.iload_n 2, 1) := by decide +kernel
theorem dX10_isWithin_13 : decode cX10_isWithin 13 = .ok (.iload_n 1, 1) := by decide +kernel
theorem dX10_isWithin_14 : decode cX10_isWithin 14 = .ok (.iload 4, 2) := by decide +kernel
theorem dX10_isWithin_16 : decode cX10_isWithin 16 = .ok (.invokevirtual 177, 3) := by decide +kernel
theorem dX10_isWithin_19 : decode cX10_isWithin 19 = .ok (.invokestatic 180, 3) := by decide +kernel
theorem dX10_isWithin_22 : decode cX10_isWithin 22 = .ok (.iadd, 1) := by decide +kernel
theorem dX10_isWithin_23 : decode cX10_isWithin 23 = .ok (.aload_n 0, 1) := by decide +kernel
theorem dX10_isWithin_24 : decode cX10_isWithin 24 = .ok (.iload_n 2, 1) := by decide +kernel
theorem dX10_isWithin_25 : decode cX10_isWithin 25 = .ok (.iload_n 3, 1) := by decide +kernel
theorem dX10_isWithin_26 : decode cX10_isWithin 26 = .ok (.iload_n 1, 1) := by decide +kernel
theorem dX10_isWithin_27 : decode cX10_isWithin 27 = .ok (.invokevirtual 177, 3) := by decide +kernel
theorem dX10_isWithin_30 : decode cX10_isWithin 30 = .ok (.invokestatic 180, 3) := by decide +kernel
theorem dX10_isWithin_33 : decode cX10_isWithin 33 = .ok (.iadd, 1) := by decide +kernel
theorem dX10_isWithin_34 : decode cX10_isWithin 34 = .ok (.aload_n 0, 1) := by decide +kernel
theorem dX10_isWithin_35 : decode cX10_isWithin 35 = .ok (.iload_n 2, 1) := by decide +kernel
theorem dX10_isWithin_36 : decode cX10_isWithin 36 = .ok (.iload_n 3, 1) := by decide +kernel
theorem dX10_isWithin_37 : decode cX10_isWithin 37 = .ok (.iload 4, 2) := by decide +kernel
theorem dX10_isWithin_39 : decode cX10_isWithin 39 = .ok (.invokevirtual 177, 3) := by decide +kernel
theorem dX10_isWithin_42 : decode cX10_isWithin 42 = .ok (.invokestatic 180, 3) := by decide +kernel
theorem dX10_isWithin_45 : decode cX10_isWithin 45 = .ok (.if_icmp .ne 7, 3) := by decide +kernel
theorem dX10_isWithin_48 : decode cX10_isWithin 48 = .ok (.iconst 1, 1) := by decide +kernel
theorem dX10_isWithin_49 : decode cX10_isWithin 49 = .ok (.goto 4, 3) := by decide +kernel
theorem dX10_isWithin_52 : decode cX10_isWithin 52 = .ok (.iconst 0, 1) := by decide +kernel
theorem dX10_isWithin_53 : decode cX10_isWithin 53 = .ok (.ireturn, 1) := by decide +kernel
theorem dX10_isMatched_0 : decode cX10_isMatched 0 = .ok (.aload_n 0, 1) := by decide +kernel
theorem dX10_isMatched_1 : decode cX10_isMatched 1 = .ok (.getfield 56, 3) := by decide +kernel
theorem dX10_isMatched_4 : decode cX10_isMatched 4 = .ok (.iload_n 1, 1) := by decide +kernel
theorem dX10_isMatched_5 : decode cX10_isMatched 5 = .ok (.iaload, 1) := by decide +kernel
theorem dX10_isMatched_6 : decode cX10_isMatched 6 = .ok (.bipush (-4), 2) := by decide +kernel
theorem dX10_isMatched_8 : decode cX10_isMatched 8 = .ok (.if_icmp .eq 7, 3) := by decide +kernel
theorem dX10_isMatched_11 : decode cX10_isMatched 11 = .ok (.iconst 1, 1) := by decide +kernel
theorem dX10_isMatched_12 : decode cX10_isMatched 12 = .ok (.goto 4, 3) := by decide +kernel
theorem dX10_isMatched_15 : decode cX10_isMatched 15 = .ok (.iconst 0, 1) := by decide +kernel
theorem dX10_isMatched_16 : decode cX10_isMatched 16 = .ok (.ireturn, 1) := by decide +kernel
theorem dX10_comesTo_0 : decode cX10_comesTo 0 = .ok (.iload_n 1, 1) := by decide +kernel
theorem dX10_comesTo_1 : decode cX10_comesTo 1 = .ok (.invokestatic 180, 3) := by decide +kernel
theorem dX10_comesTo_4 : decode cX10_comesTo 4 = .ok (.istore_n 3, 1) := by decide +kernel
theorem dX10_comesTo_5 : decode cX10_comesTo 5 = .ok (.iload_n 2, 1) := by decide +kernel
theorem dX10_comesTo_6 : decode cX10_comesTo 6 = .ok (.istore 4, 2) := by decide +kernel
theorem dX10_comesTo_8 : decode cX10_comesTo 8 = .ok (.iload 4, 2) := by decide +kernel
theorem dX10_comesTo_10 : decode cX10_comesTo 10 = .ok (.ifCond .eq 19, 3) := by decide +kernel
theorem dX10_comesTo_13 : decode cX10_comesTo 13 = .ok (.iload_n 3, 1) := by decide +kernel
theorem dX10_comesTo_14 : decode cX10_comesTo 14 = .ok (.iload 4, 2) := by decide +kernel
theorem dX10_comesTo_16 : decode cX10_comesTo 16 = .ok (.irem, 1) := by decide +kernel
theorem dX10_comesTo_17 : decode cX10_comesTo 17 = .ok (.istore 5, 2) := by decide +kernel
theorem dX10_comesTo_19 : decode cX10_comesTo 19 = .ok (.iload 4, 2) := by decide +kernel
theorem dX10_comesTo_21 : decode cX10_comesTo 21 = .ok (.istore_n 3, 1) := by decide +kernel
theorem dX10_comesTo_22 : decode cX10_comesTo 22 = .ok (.iload 5, 2) := by decide +kernel
theorem dX10_comesTo_24 : decode cX10_comesTo 24 = .ok (.istore 4, 2) := by decide +kernel
theorem dX10_comesTo_26 : decode cX10_comesTo 26 = .ok (.goto (-18), 3) := by decide +kernel
theorem dX10_comesTo_29 : decode cX10_comesTo 29 = .ok (.aload_n 0, 1) := by decide +kernel
theorem dX10_comesTo_30 : decode cX10_comesTo 30 = .ok (.iload_n 1, 1) := by decide +kernel
theorem dX10_comesTo_31 : decode cX10_comesTo 31 = .ok (.iload_n 3, 1) := by decide +kernel
theorem dX10_comesTo_32 : decode cX10_comesTo 32 = .ok (.idiv, 1) := by decide +kernel
theorem dX10_comesTo_33 : decode cX10_comesTo 33 = .ok (.putfield 183, 3) := by decide +kernel
theorem dX10_comesTo_36 : decode cX10_comesTo 36 = .ok (.aload_n 0, 1) := by decide +kernel
theorem dX10_comesTo_37 : decode cX10_comesTo 37 = .ok (.iload_n 2, 1) := by decide +kernel
theorem dX10_comesTo_38 : decode cX10_comesTo 38 = .ok (.iload_n 3, 1) := by decide +kernel
theorem dX10_comesTo_39 : decode cX10_comesTo 39 = .ok (.idiv, 1) := by decide +kernel
theorem dX10_comesTo_40 : decode cX10_comesTo 40 = .ok (.putfield 186, 3) := by decide +kernel
theorem dX10_comesTo_43 : decode cX10_comesTo 43 = .ok (.return_, 1) := by decide +kernel
theorem dX10_triangleOf_0 : decode cX10_triangleOf 0 = .ok (.bipush (-4), 2) := by decide +kernel
theorem dX10_triangleOf_2 : decode cX10_triangleOf 2 = .ok (.istore_n 2, 1) := by decide +kernel
theorem dX10_triangleOf_3 : decode cX10_triangleOf 3 = .ok (.ldc 189, 2) := by decide +kernel
theorem dX10_triangleOf_5 : decode cX10_triangleOf 5 = .ok (.istore_n 3, 1) := by decide +kernel
theorem dX10_triangleOf_6 : decode cX10_triangleOf 6 = .ok (.iconst 0, 1) := by decide +kernel
theorem dX10_triangleOf_7 : decode cX10_triangleOf 7 = .ok (.istore 4, 2) := by decide +kernel
theorem dX10_triangleOf_9 : decode cX10_triangleOf 9 = .ok (.iload 4, 2) := by decide +kernel
theorem dX10_triangleOf_11 : decode cX10_triangleOf 11 = .ok (.sipush 512, 3) := by decide +kernel
theorem dX10_triangleOf_14 : decode cX10_triangleOf 14 = .ok (.if_icmp .ge 131, 3) := by decide +kernel
theorem dX10_triangleOf_17 : decode cX10_triangleOf 17 = .ok (.iload 4, 2) := by decide +kernel
theorem dX10_triangleOf_19 : decode cX10_triangleOf 19 = .ok (.bipush 64, 2) := by decide +kernel
theorem dX10_triangleOf_21 : decode cX10_triangleOf 21 = .ok (.idiv, 1) := by decide +kernel
theorem dX10_triangleOf_22 : decode cX10_triangleOf 22 = .ok (.istore 5, 2) := by decide +kernel
theorem dX10_triangleOf_24 : decode cX10_triangleOf 24 = .ok (.iload 4, 2) := by decide +kernel
theorem dX10_triangleOf_26 : decode cX10_triangleOf 26 = .ok (.bipush 8, 2) := by decide +kernel
theorem dX10_triangleOf_28 : decode cX10_triangleOf 28 = .ok (.idiv, 1) := by decide +kernel
theorem dX10_triangleOf_29 : decode cX10_triangleOf 29 = .ok (.bipush 8, 2) := by decide +kernel
theorem dX10_triangleOf_31 : decode cX10_triangleOf 31 = .ok (.irem, 1) := by decide +kernel
theorem dX10_triangleOf_32 : decode cX10_triangleOf 32 = .ok (.istore 6, 2) := by decide +kernel
theorem dX10_triangleOf_34 : decode cX10_triangleOf 34 = .ok (.iload 4, 2) := by decide +kernel
theorem dX10_triangleOf_36 : decode cX10_triangleOf 36 = .ok (.bipush 8, 2) := by decide +kernel
theorem dX10_triangleOf_38 : decode cX10_triangleOf 38 = .ok (.irem, 1) := by decide +kernel
theorem dX10_triangleOf_39 : decode cX10_triangleOf 39 = .ok (.istore 7, 2) := by decide +kernel
theorem dX10_triangleOf_41 : decode cX10_triangleOf 41 = .ok (.iload 5, 2) := by decide +kernel
theorem dX10_triangleOf_43 : decode cX10_triangleOf 43 = .ok (.iload 6, 2) := by decide +kernel
theorem dX10_triangleOf_45 : decode cX10_triangleOf 45 = .ok (.if_icmp .ge 94, 3) := by decide +kernel
theorem dX10_triangleOf_48 : decode cX10_triangleOf 48 = .ok (.iload 6, 2) := by decide +kernel
theorem dX10_triangleOf_50 : decode cX10_triangleOf 50 = .ok (.iload 7, 2) := by decide +kernel
theorem dX10_triangleOf_52 : decode cX10_triangleOf 52 = .ok (.if_icmp .ge 87, 3) := by decide +kernel
theorem dX10_triangleOf_55 : decode cX10_triangleOf 55 = .ok (.iload 7, 2) := by decide +kernel
theorem dX10_triangleOf_57 : decode cX10_triangleOf 57 = .ok (.aload_n 0, 1) := by decide +kernel
theorem dX10_triangleOf_58 : decode cX10_triangleOf 58 = .ok (.getfield 16, 3) := by decide +kernel
theorem dX10_triangleOf_61 : decode cX10_triangleOf 61 = .ok (.iconst 0, 1) := by decide +kernel
theorem dX10_triangleOf_62 : decode cX10_triangleOf 62 = .ok (.iaload, 1) := by decide +kernel
theorem dX10_triangleOf_63 : decode cX10_triangleOf 63 = .ok (.if_icmp .ge 76, 3) := by decide +kernel
theorem dX10_triangleOf_66 : decode cX10_triangleOf 66 = .ok (.aload_n 0, 1) := by decide +kernel
theorem dX10_triangleOf_67 : decode cX10_triangleOf 67 = .ok (.iload 5, 2) := by decide +kernel
theorem dX10_triangleOf_69 : decode cX10_triangleOf 69 = .ok (.invokevirtual 190, 3) := by decide +kernel
theorem dX10_triangleOf_72 : decode cX10_triangleOf 72 = .ok (.ifCond .eq 67, 3) := by decide +kernel
theorem dX10_triangleOf_75 : decode cX10_triangleOf 75 = .ok (.aload_n 0, 1) := by decide +kernel
theorem dX10_triangleOf_76 : decode cX10_triangleOf 76 = .ok (.iload 6, 2) := by decide +kernel
theorem dX10_triangleOf_78 : decode cX10_triangleOf 78 = .ok (.invokevirtual 190, 3) := by decide +kernel
theorem dX10_triangleOf_81 : decode cX10_triangleOf 81 = .ok (.ifCond .eq 58, 3) := by decide +kernel
theorem dX10_triangleOf_84 : decode cX10_triangleOf 84 = .ok (.aload_n 0, 1) := by decide +kernel
theorem dX10_triangleOf_85 : decode cX10_triangleOf 85 = .ok (.iload 7, 2) := by decide +kernel
theorem dX10_triangleOf_87 : decode cX10_triangleOf 87 = .ok (.invokevirtual 190, 3) := by decide +kernel
theorem dX10_triangleOf_90 : decode cX10_triangleOf 90 = .ok (.ifCond .eq 49, 3) := by decide +kernel
theorem dX10_triangleOf_93 : decode cX10_triangleOf 93 = .ok (.aload_n 0, 1) := by decide +kernel
theorem dX10_triangleOf_94 : decode cX10_triangleOf 94 = .ok (.iload 5, 2) := by decide +kernel
theorem dX10_triangleOf_96 : decode cX10_triangleOf 96 = .ok (.iload 6, 2) := by decide +kernel
theorem dX10_triangleOf_98 : decode cX10_triangleOf 98 = .ok (.iload 7, 2) := by decide +kernel
theorem dX10_triangleOf_100 : decode cX10_triangleOf 100 = .ok (.invokevirtual 177, 3) := by decide +kernel
theorem dX10_triangleOf_103 : decode cX10_triangleOf 103 = .ok (.invokestatic 180, 3) := by decide +kernel
theorem dX10_triangleOf_106 : decode cX10_triangleOf 106 = .ok (.istore 8, 2) := by decide +kernel
theorem dX10_triangleOf_108 : decode cX10_triangleOf 108 = .ok (.iload 8, 2) := by decide +kernel
theorem dX10_triangleOf_110 : decode cX10_triangleOf 110 = .ok (.ifCond .le 29, 3) := by decide +kernel
theorem dX10_triangleOf_113 : decode cX10_triangleOf 113 = .ok (.iload 8, 2) := by decide +kernel
theorem dX10_triangleOf_115 : decode cX10_triangleOf 115 = .ok (.iload_n 3, 1) := by decide +kernel
theorem dX10_triangleOf_116 : decode cX10_triangleOf 116 = .ok (.if_icmp .ge 23, 3) := by decide +kernel
theorem dX10_triangleOf_119 : decode cX10_triangleOf 119 = .ok (.aload_n 0, 1) := by decide +kernel
theorem dX10_triangleOf_120 : decode cX10_triangleOf 120 = .ok (.iload_n 1, 1) := by decide +kernel
theorem dX10_triangleOf_121 : decode cX10_triangleOf 121 = .ok (.iload 5, 2) := by decide +kernel
theorem dX10_triangleOf_123 : decode cX10_triangleOf 123 = .ok (.iload 6, 2) := by decide +kernel
theorem dX10_triangleOf_125 : decode cX10_triangleOf 125 = .ok (.iload 7, 2) := by decide +kernel
theorem dX10_triangleOf_127 : decode cX10_triangleOf 127 = .ok (.invokevirtual 193, 3) := by decide +kernel
theorem dX10_triangleOf_130 : decode cX10_triangleOf 130 = .ok (.ifCond .eq 9, 3) := by decide +kernel
theorem dX10_triangleOf_133 : decode cX10_triangleOf 133 = .ok (.iload 4, 2) := by decide +kernel
theorem dX10_triangleOf_135 : decode cX10_triangleOf 135 = .ok (.istore_n 2, 1) := by decide +kernel
theorem dX10_triangleOf_136 : decode cX10_triangleOf 136 = .ok (.iload 8, 2) := by decide +kernel
theorem dX10_triangleOf_138 : decode cX10_triangleOf 138 = .ok (.istore_n 3, 1) := by decide +kernel
theorem dX10_triangleOf_139 : decode cX10_triangleOf 139 = .ok (.iinc 4 1, 3) := by decide +kernel
theorem dX10_triangleOf_142 : decode cX10_triangleOf 142 = .ok (.goto (-133), 3) := by decide +kernel
theorem dX10_triangleOf_145 : decode cX10_triangleOf 145 = .ok (.iload_n 2, 1) := by decide +kernel
theorem dX10_triangleOf_146 : decode cX10_triangleOf 146 = .ok (.ireturn, 1) := by decide +kernel
theorem dX10_nearest_0 : decode cX10_nearest 0 = .ok (.bipush (-4), 2) := by decide +kernel
theorem dX10_nearest_2 : decode cX10_nearest 2 = .ok (.istore_n 2, 1) := by decide +kernel
theorem dX10_nearest_3 : decode cX10_nearest 3 = .ok (.iconst 0, 1) := by decide +kernel
theorem dX10_nearest_4 : decode cX10_nearest 4 = .ok (.istore_n 3, 1) := by decide +kernel
theorem dX10_nearest_5 : decode cX10_nearest 5 = .ok (.iload_n 3, 1) := by decide +kernel
theorem dX10_nearest_6 : decode cX10_nearest 6 = .ok (.aload_n 0, 1) := by decide +kernel
theorem dX10_nearest_7 : decode cX10_nearest 7 = .ok (.getfield 16, 3) := by decide +kernel
theorem dX10_nearest_10 : decode cX10_nearest 10 = .ok (.iconst 0, 1) := by decide +kernel
theorem dX10_nearest_11 : decode cX10_nearest 11 = .ok (.iaload, 1) := by decide +kernel
theorem dX10_nearest_12 : decode cX10_nearest 12 = .ok (.if_icmp .ge 56, 3) := by decide +kernel
theorem dX10_nearest_15 : decode cX10_nearest 15 = .ok (.aload_n 0, 1) := by decide +kernel
theorem dX10_nearest_16 : decode cX10_nearest 16 = .ok (.iload_n 3, 1) := by decide +kernel
theorem dX10_nearest_17 : decode cX10_nearest 17 = .ok (.invokevirtual 190, 3) := by decide +kernel
theorem dX10_nearest_20 : decode cX10_nearest 20 = .ok (.ifCond .eq 28, 3) := by decide +kernel
theorem dX10_nearest_23 : decode cX10_nearest 23 = .ok (.iload_n 2, 1) := by decide +kernel
theorem dX10_nearest_24 : decode cX10_nearest 24 = .ok (.bipush (-4), 2) := by decide +kernel
theorem dX10_nearest_26 : decode cX10_nearest 26 = .ok (.if_icmp .eq 18, 3) := by decide +kernel
theorem dX10_nearest_29 : decode cX10_nearest 29 = .ok (.aload_n 0, 1) := by decide +kernel
theorem dX10_nearest_30 : decode cX10_nearest 30 = .ok (.iload_n 1, 1) := by decide +kernel
theorem dX10_nearest_31 : decode cX10_nearest 31 = .ok (.iload_n 3, 1) := by decide +kernel
theorem dX10_nearest_32 : decode cX10_nearest 32 = .ok (.invokevirtual 134, 3) := by decide +kernel
theorem dX10_nearest_35 : decode cX10_nearest 35 = .ok (.aload_n 0, 1) := by decide +kernel
theorem dX10_nearest_36 : decode cX10_nearest 36 = .ok (.iload_n 1, 1) := by decide +kernel
theorem dX10_nearest_37 : decode cX10_nearest 37 = .ok (.iload_n 2, 1) := by decide +kernel
theorem dX10_nearest_38 : decode cX10_nearest 38 = .ok (.invokevirtual 134, 3) := by decide +kernel
theorem dX10_nearest_41 : decode cX10_nearest 41 = .ok (.if_icmp .ge 7, 3) := by decide +kernel
theorem dX10_nearest_44 : decode cX10_nearest 44 = .ok (.iconst 1, 1) := by decide +kernel
theorem dX10_nearest_45 : decode cX10_nearest 45 = .ok (.goto 4, 3) := by decide +kernel
theorem dX10_nearest_48 : decode cX10_nearest 48 = .ok (.iconst 0, 1) := by decide +kernel
theorem dX10_nearest_49 : decode cX10_nearest 49 = .ok (.istore 4, 2) := by decide +kernel
theorem dX10_nearest_51 : decode cX10_nearest 51 = .ok (.iload 4, 2) := by decide +kernel
theorem dX10_nearest_53 : decode cX10_nearest 53 = .ok (.ifCond .eq 7, 3) := by decide +kernel
theorem dX10_nearest_56 : decode cX10_nearest 56 = .ok (.iload_n 3, 1) := by decide +kernel
theorem dX10_nearest_57 : decode cX10_nearest 57 = .ok (.goto 4, 3) := by decide +kernel
theorem dX10_nearest_60 : decode cX10_nearest 60 = .ok (.iload_n 2, 1) := by decide +kernel
theorem dX10_nearest_61 : decode cX10_nearest 61 = .ok (.istore_n 2, 1) := by decide +kernel
theorem dX10_nearest_62 : decode cX10_nearest 62 = .ok (.iinc 3 1, 3) := by decide +kernel
theorem dX10_nearest_65 : decode cX10_nearest 65 = .ok (.goto (-60), 3) := by decide +kernel
theorem dX10_nearest_68 : decode cX10_nearest 68 = .ok (.iload_n 2, 1) := by decide +kernel
theorem dX10_nearest_69 : decode cX10_nearest 69 = .ok (.ireturn, 1) := by decide +kernel
theorem dX10_placeOf_0 : decode cX10_placeOf 0 = .ok (.iload_n 2, 1) := by decide +kernel
theorem dX10_placeOf_1 : decode cX10_placeOf 1 = .ok (.ifCond .eq 12, 3) := by decide +kernel
theorem dX10_placeOf_4 : decode cX10_placeOf 4 = .ok (.aload_n 0, 1) := by decide +kernel
theorem dX10_placeOf_5 : decode cX10_placeOf 5 = .ok (.getfield 26, 3) := by decide +kernel
theorem dX10_placeOf_8 : decode cX10_placeOf 8 = .ok (.iload_n 1, 1) := by decide +kernel
theorem dX10_placeOf_9 : decode cX10_placeOf 9 = .ok (.iaload, 1) := by decide +kernel
theorem dX10_placeOf_10 : decode cX10_placeOf 10 = .ok (.goto 9, 3) := by decide +kernel
theorem dX10_placeOf_13 : decode cX10_placeOf 13 = .ok (.aload_n 0, 1) := by decide +kernel
theorem dX10_placeOf_14 : decode cX10_placeOf 14 = .ok (.getfield 29, 3) := by decide +kernel
theorem dX10_placeOf_17 : decode cX10_placeOf 17 = .ok (.iload_n 1, 1) := by decide +kernel
theorem dX10_placeOf_18 : decode cX10_placeOf 18 = .ok (.iaload, 1) := by decide +kernel
theorem dX10_placeOf_19 : decode cX10_placeOf 19 = .ok (.ireturn, 1) := by decide +kernel
theorem dX10_setComes_0 : decode cX10_setComes 0 = .ok (.aload_n 0, 1) := by decide +kernel
theorem dX10_setComes_1 : decode cX10_setComes 1 = .ok (.iload_n 1, 1) := by decide +kernel
theorem dX10_setComes_2 : decode cX10_setComes 2 = .ok (.invokevirtual 190, 3) := by decide +kernel
theorem dX10_setComes_5 : decode cX10_setComes 5 = .ok (.ifCond .eq 23, 3) := by decide +kernel
theorem dX10_setComes_8 : decode cX10_setComes 8 = .ok (.aload_n 0, 1) := by decide +kernel
theorem dX10_setComes_9 : decode cX10_setComes 9 = .ok (.aload_n 0, 1) := by decide +kernel
theorem dX10_setComes_10 : decode cX10_setComes 10 = .ok (.bipush 8, 2) := by decide +kernel
theorem dX10_setComes_12 : decode cX10_setComes 12 = .ok (.aload_n 0, 1) := by decide +kernel
theorem dX10_setComes_13 : decode cX10_setComes 13 = .ok (.getfield 56, 3) := by decide +kernel
theorem dX10_setComes_16 : decode cX10_setComes 16 = .ok (.iload_n 1, 1) := by decide +kernel
theorem dX10_setComes_17 : decode cX10_setComes 17 = .ok (.iaload, 1) := by decide +kernel
theorem dX10_setComes_18 : decode cX10_setComes 18 = .ok (.iadd, 1) := by decide +kernel
theorem dX10_setComes_19 : decode cX10_setComes 19 = .ok (.iload_n 2, 1) := by decide +kernel
theorem dX10_setComes_20 : decode cX10_setComes 20 = .ok (.invokevirtual 197, 3) := by decide +kernel
theorem dX10_setComes_23 : decode cX10_setComes 23 = .ok (.iconst 1, 1) := by decide +kernel
theorem dX10_setComes_24 : decode cX10_setComes 24 = .ok (.invokevirtual 201, 3) := by decide +kernel
theorem dX10_setComes_27 : decode cX10_setComes 27 = .ok (.return_, 1) := by decide +kernel
theorem dX10_setComes_28 : decode cX10_setComes 28 = .ok (.aload_n 0, 1) := by decide +kernel
theorem dX10_setComes_29 : decode cX10_setComes 29 = .ok (.iload_n 1, 1) := by decide +kernel
theorem dX10_setComes_30 : decode cX10_setComes 30 = .ok (.invokevirtual 205, 3) := by decide +kernel
theorem dX10_setComes_33 : decode cX10_setComes 33 = .ok (.istore_n 3, 1) := by decide +kernel
theorem dX10_setComes_34 : decode cX10_setComes 34 = .ok (.iload_n 3, 1) := by decide +kernel
theorem dX10_setComes_35 : decode cX10_setComes 35 = .ok (.bipush (-4), 2) := by decide +kernel
theorem dX10_setComes_37 : decode cX10_setComes 37 = .ok (.if_icmp .eq 132, 3) := by decide +kernel
theorem dX10_setComes_40 : decode cX10_setComes 40 = .ok (.iload_n 3, 1) := by decide +kernel
theorem dX10_setComes_41 : decode cX10_setComes 41 = .ok (.bipush 64, 2) := by decide +kernel
theorem dX10_setComes_43 : decode cX10_setComes 43 = .ok (.idiv, 1) := by decide +kernel
theorem dX10_setComes_44 : decode cX10_setComes 44 = .ok (.istore 4, 2) := by decide +kernel
theorem dX10_setComes_46 : decode cX10_setComes 46 = .ok (.iload_n 3, 1) := by decide +kernel
theorem dX10_setComes_47 : decode cX10_setComes 47 = .ok (.bipush 8, 2) := by decide +kernel
theorem dX10_setComes_49 : decode cX10_setComes 49 = .ok (.idiv, 1) := by decide +kernel
theorem dX10_setComes_50 : decode cX10_setComes 50 = .ok (.bipush 8, 2) := by decide +kernel
theorem dX10_setComes_52 : decode cX10_setComes 52 = .ok (.irem, 1) := by decide +kernel
theorem dX10_setComes_53 : decode cX10_setComes 53 = .ok (.istore 5, 2) := by decide +kernel
theorem dX10_setComes_55 : decode cX10_setComes 55 = .ok (.iload_n 3, 1) := by decide +kernel
theorem dX10_setComes_56 : decode cX10_setComes 56 = .ok (.bipush 8, 2) := by decide +kernel
theorem dX10_setComes_58 : decode cX10_setComes 58 = .ok (.irem, 1) := by decide +kernel
theorem dX10_setComes_59 : decode cX10_setComes 59 = .ok (.istore 6, 2) := by decide +kernel
theorem dX10_setComes_61 : decode cX10_setComes 61 = .ok (.aload_n 0, 1) := by decide +kernel
theorem dX10_setComes_62 : decode cX10_setComes 62 = .ok (.iload_n 1, 1) := by decide +kernel
theorem dX10_setComes_63 : decode cX10_setComes 63 = .ok (.iload 5, 2) := by decide +kernel
theorem dX10_setComes_65 : decode cX10_setComes 65 = .ok (.iload 6, 2) := by decide +kernel
theorem dX10_setComes_67 : decode cX10_setComes 67 = .ok (.invokevirtual 177, 3) := by decide +kernel
theorem dX10_setComes_70 : decode cX10_setComes 70 = .ok (.invokestatic 180, 3) := by decide +kernel
theorem dX10_setComes_73 : decode cX10_setComes 73 = .ok (.aload_n 0, 1) := by decide +kernel
theorem dX10_setComes_74 : decode cX10_setComes 74 = .ok (.bipush 8, 2) := by decide +kernel
theorem dX10_setComes_76 : decode cX10_setComes 76 = .ok (.aload_n 0, 1) := by decide +kernel
theorem dX10_setComes_77 : decode cX10_setComes 77 = .ok (.getfield 56, 3) := by decide +kernel
theorem dX10_setComes_80 : decode cX10_setComes 80 = .ok (.iload 4, 2) := by decide +kernel
theorem dX10_setComes_82 : decode cX10_setComes 82 = .ok (.iaload, 1) := by decide +kernel
theorem dX10_setComes_83 : decode cX10_setComes 83 = .ok (.iadd, 1) := by decide +kernel
theorem dX10_setComes_84 : decode cX10_setComes 84 = .ok (.iload_n 2, 1) := by decide +kernel
theorem dX10_setComes_85 : decode cX10_setComes 85 = .ok (.invokevirtual 197, 3) := by decide +kernel
theorem dX10_setComes_88 : decode cX10_setComes 88 = .ok (.imul, 1) := by decide +kernel
theorem dX10_setComes_89 : decode cX10_setComes 89 = .ok (.aload_n 0, 1) := by decide +kernel
theorem dX10_setComes_90 : decode cX10_setComes 90 = .ok (.iload 4, 2) := by decide +kernel
theorem dX10_setComes_92 : decode cX10_setComes 92 = .ok (.iload_n 1, 1) := by decide +kernel
theorem dX10_setComes_93 : decode cX10_setComes 93 = .ok (.iload 6, 2) := by decide +kernel
theorem dX10_setComes_95 : decode cX10_setComes 95 = .ok (.invokevirtual 177, 3) := by decide +kernel
theorem dX10_setComes_98 : decode cX10_setComes 98 = .ok (.invokestatic 180, 3) := by decide +kernel
theorem dX10_setComes_101 : decode cX10_setComes 101 = .ok (.aload_n 0, 1) := by decide +kernel
theorem dX10_setComes_102 : decode cX10_setComes 102 = .ok (.bipush 8, 2) := by decide +kernel
theorem dX10_setComes_104 : decode cX10_setComes 104 = .ok (.aload_n 0, 1) := by decide +kernel
theorem dX10_setComes_105 : decode cX10_setComes 105 = .ok (.getfield 56, 3) := by decide +kernel
theorem dX10_setComes_108 : decode cX10_setComes 108 = .ok (.iload 5, 2) := by decide +kernel
theorem dX10_setComes_110 : decode cX10_setComes 110 = .ok (.iaload, 1) := by decide +kernel
theorem dX10_setComes_111 : decode cX10_setComes 111 = .ok (.iadd, 1) := by decide +kernel
theorem dX10_setComes_112 : decode cX10_setComes 112 = .ok (.iload_n 2, 1) := by decide +kernel
theorem dX10_setComes_113 : decode cX10_setComes 113 = .ok (.invokevirtual 197, 3) := by decide +kernel
theorem dX10_setComes_116 : decode cX10_setComes 116 = .ok (.imul, 1) := by decide +kernel
theorem dX10_setComes_117 : decode cX10_setComes 117 = .ok (.iadd, 1) := by decide +kernel
theorem dX10_setComes_118 : decode cX10_setComes 118 = .ok (.aload_n 0, 1) := by decide +kernel
theorem dX10_setComes_119 : decode cX10_setComes 119 = .ok (.iload 4, 2) := by decide +kernel
theorem dX10_setComes_121 : decode cX10_setComes 121 = .ok (.iload 5, 2) := by decide +kernel
theorem dX10_setComes_123 : decode cX10_setComes 123 = .ok (.iload_n 1, 1) := by decide +kernel
theorem dX10_setComes_124 : decode cX10_setComes 124 = .ok (.invokevirtual 177, 3) := by decide +kernel
theorem dX10_setComes_127 : decode cX10_setComes 127 = .ok (.invokestatic 180, 3) := by decide +kernel
theorem dX10_setComes_130 : decode cX10_setComes 130 = .ok (.aload_n 0, 1) := by decide +kernel
theorem dX10_setComes_131 : decode cX10_setComes 131 = .ok (.bipush 8, 2) := by decide +kernel
theorem dX10_setComes_133 : decode cX10_setComes 133 = .ok (.aload_n 0, 1) := by decide +kernel
theorem dX10_setComes_134 : decode cX10_setComes 134 = .ok (.getfield 56, 3) := by decide +kernel
theorem dX10_setComes_137 : decode cX10_setComes 137 = .ok (.iload 6, 2) := by decide +kernel
theorem dX10_setComes_139 : decode cX10_setComes 139 = .ok (.iaload, 1) := by decide +kernel
theorem dX10_setComes_140 : decode cX10_setComes 140 = .ok (.iadd, 1) := by decide +kernel
theorem dX10_setComes_141 : decode cX10_setComes 141 = .ok (.iload_n 2, 1) := by decide +kernel
theorem dX10_setComes_142 : decode cX10_setComes 142 = .ok (.invokevirtual 197, 3) := by decide +kernel
theorem dX10_setComes_145 : decode cX10_setComes 145 = .ok (.imul, 1) := by decide +kernel
theorem dX10_setComes_146 : decode cX10_setComes 146 = .ok (.iadd, 1) := by decide +kernel
theorem dX10_setComes_147 : decode cX10_setComes 147 = .ok (.istore 7, 2) := by decide +kernel
theorem dX10_setComes_149 : decode cX10_setComes 149 = .ok (.aload_n 0, 1) := by decide +kernel
theorem dX10_setComes_150 : decode cX10_setComes 150 = .ok (.iload 7, 2) := by decide +kernel
theorem dX10_setComes_152 : decode cX10_setComes 152 = .ok (.aload_n 0, 1) := by decide +kernel
theorem dX10_setComes_153 : decode cX10_setComes 153 = .ok (.iload 4, 2) := by decide +kernel
theorem dX10_setComes_155 : decode cX10_setComes 155 = .ok (.iload 5, 2) := by decide +kernel
theorem dX10_setComes_157 : decode cX10_setComes 157 = .ok (.iload 6, 2) := by decide +kernel
theorem dX10_setComes_159 : decode cX10_setComes 159 = .ok (.invokevirtual 177, 3) := by decide +kernel
theorem dX10_setComes_162 : decode cX10_setComes 162 = .ok (.invokestatic 180, 3) := by decide +kernel
theorem dX10_setComes_165 : decode cX10_setComes 165 = .ok (.invokevirtual 201, 3) := by decide +kernel
theorem dX10_setComes_168 : decode cX10_setComes 168 = .ok (.return_, 1) := by decide +kernel
theorem dX10_setComes_169 : decode cX10_setComes 169 = .ok (.aload_n 0, 1) := by decide +kernel
theorem dX10_setComes_170 : decode cX10_setComes 170 = .ok (.iload_n 1, 1) := by decide +kernel
theorem dX10_setComes_171 : decode cX10_setComes 171 = .ok (.invokevirtual 208, 3) := by decide +kernel
theorem dX10_setComes_174 : decode cX10_setComes 174 = .ok (.istore 4, 2) := by decide +kernel
theorem dX10_setComes_176 : decode cX10_setComes 176 = .ok (.aload_n 0, 1) := by decide +kernel
theorem dX10_setComes_177 : decode cX10_setComes 177 = .ok (.aload_n 0, 1) := by decide +kernel
theorem dX10_setComes_178 : decode cX10_setComes 178 = .ok (.iload_n 1, 1) := by decide +kernel
theorem dX10_setComes_179 : decode cX10_setComes 179 = .ok (.iload_n 2, 1) := by decide +kernel
theorem dX10_setComes_180 : decode cX10_setComes 180 = .ok (.invokevirtual 197, 3) := by decide +kernel
theorem dX10_setComes_183 : decode cX10_setComes 183 = .ok (.iload 4, 2) := by decide +kernel
theorem dX10_setComes_185 : decode cX10_setComes 185 = .ok (.bipush (-4), 2) := by decide +kernel
theorem dX10_setComes_187 : decode cX10_setComes 187 = .ok (.if_icmp .ne 7, 3) := by decide +kernel
theorem dX10_setComes_190 : decode cX10_setComes 190 = .ok (.iconst 0, 1) := by decide +kernel
theorem dX10_setComes_191 : decode cX10_setComes 191 = .ok (.goto 26, 3) := by decide +kernel
theorem dX10_setComes_194 : decode cX10_setComes 194 = .ok (.aload_n 0, 1) := by decide +kernel
theorem dX10_setComes_195 : decode cX10_setComes 195 = .ok (.bipush 8, 2) := by decide +kernel
theorem dX10_setComes_197 : decode cX10_setComes 197 = .ok (.aload_n 0, 1) := by decide +kernel
theorem dX10_setComes_198 : decode cX10_setComes 198 = .ok (.getfield 56, 3) := by decide +kernel
theorem dX10_setComes_201 : decode cX10_setComes 201 = .ok (.iload 4, 2) := by decide +kernel
theorem dX10_setComes_203 : decode cX10_setComes 203 = .ok (.iaload, 1) := by decide +kernel
theorem dX10_setComes_204 : decode cX10_setComes 204 = .ok (.iadd, 1) := by decide +kernel
theorem dX10_setComes_205 : decode cX10_setComes 205 = .ok (.iload_n 2, 1) := by decide +kernel
theorem dX10_setComes_206 : decode cX10_setComes 206 = .ok (.invokevirtual 197, 3) := by decide +kernel
theorem dX10_setComes_209 : decode cX10_setComes 209 = .ok (.aload_n 0, 1) := by decide +kernel
theorem dX10_setComes_210 : decode cX10_setComes 210 = .ok (.iload 4, 2) := by decide +kernel
theorem dX10_setComes_212 : decode cX10_setComes 212 = .ok (.iload_n 2, 1) := by decide +kernel
theorem dX10_setComes_213 : decode cX10_setComes 213 = .ok (.invokevirtual 197, 3) := by decide +kernel
theorem dX10_setComes_216 : decode cX10_setComes 216 = .ok (.isub, 1) := by decide +kernel
theorem dX10_setComes_217 : decode cX10_setComes 217 = .ok (.iadd, 1) := by decide +kernel
theorem dX10_setComes_218 : decode cX10_setComes 218 = .ok (.iconst 1, 1) := by decide +kernel
theorem dX10_setComes_219 : decode cX10_setComes 219 = .ok (.invokevirtual 201, 3) := by decide +kernel
theorem dX10_setComes_222 : decode cX10_setComes 222 = .ok (.return_, 1) := by decide +kernel
theorem dX10_comes_0 : decode cX10_comes 0 = .ok (.aload_n 0, 1) := by decide +kernel
theorem dX10_comes_1 : decode cX10_comes 1 = .ok (.iconst 0, 1) := by decide +kernel
theorem dX10_comes_2 : decode cX10_comes 2 = .ok (.iload_n 1, 1) := by decide +kernel
theorem dX10_comes_3 : decode cX10_comes 3 = .ok (.invokevirtual 92, 3) := by decide +kernel
theorem dX10_comes_6 : decode cX10_comes 6 = .ok (.ifCond .eq 12, 3) := by decide +kernel
theorem dX10_comes_9 : decode cX10_comes 9 = .ok (.iload_n 2, 1) := by decide +kernel
theorem dX10_comes_10 : decode cX10_comes 10 = .ok (.iconst 0, 1) := by decide +kernel
theorem dX10_comes_11 : decode cX10_comes 11 = .ok (.iconst 3, 1) := by decide +kernel
theorem dX10_comes_12 : decode cX10_comes 12 = .ok (.invokestatic 84, 3) := by decide +kernel
theorem dX10_comes_15 : decode cX10_comes 15 = .ok (.ifCond .ne 5, 3) := by decide +kernel
theorem dX10_comes_18 : decode cX10_comes 18 = .ok (.iconst (-1), 1) := by decide +kernel
theorem dX10_comes_19 : decode cX10_comes 19 = .ok (.ireturn, 1) := by decide +kernel
theorem dX10_comes_20 : decode cX10_comes 20 = .ok (.aload_n 0, 1) := by decide +kernel
theorem dX10_comes_21 : decode cX10_comes 21 = .ok (.invokevirtual 156, 3) := by decide +kernel
theorem dX10_comes_24 : decode cX10_comes 24 = .ok (.aload_n 0, 1) := by decide +kernel
theorem dX10_comes_25 : decode cX10_comes 25 = .ok (.iload_n 1, 1) := by decide +kernel
theorem dX10_comes_26 : decode cX10_comes 26 = .ok (.iload_n 2, 1) := by decide +kernel
theorem dX10_comes_27 : decode cX10_comes 27 = .ok (.iconst 2, 1) := by decide +kernel
theorem dX10_comes_28 : decode cX10_comes 28 = .ok (.if_icmp .ge 7, 3) := by decide +kernel
theorem dX10_comes_31 : decode cX10_comes 31 = .ok (.iconst 1, 1) := by decide +kernel
theorem dX10_comes_32 : decode cX10_comes 32 = .ok (.goto 4, 3) := by decide +kernel
theorem dX10_comes_35 : decode cX10_comes 35 = .ok (.iconst 0, 1) := by decide +kernel
theorem dX10_comes_36 : decode cX10_comes 36 = .ok (.invokevirtual 211, 3) := by decide +kernel
theorem dX10_comes_39 : decode cX10_comes 39 = .ok (.iload_n 2, 1) := by decide +kernel
theorem dX10_comes_40 : decode cX10_comes 40 = .ok (.iconst 2, 1) := by decide +kernel
theorem dX10_comes_41 : decode cX10_comes 41 = .ok (.irem, 1) := by decide +kernel
theorem dX10_comes_42 : decode cX10_comes 42 = .ok (.ifCond .ne 13, 3) := by decide +kernel
theorem dX10_comes_45 : decode cX10_comes 45 = .ok (.aload_n 0, 1) := by decide +kernel
theorem dX10_comes_46 : decode cX10_comes 46 = .ok (.getfield 183, 3) := by decide +kernel
theorem dX10_comes_49 : decode cX10_comes 49 = .ok (.ldc 215, 2) := by decide +kernel
theorem dX10_comes_51 : decode cX10_comes 51 = .ok (.iadd, 1) := by decide +kernel
theorem dX10_comes_52 : decode cX10_comes 52 = .ok (.goto 7, 3) := by decide +kernel
theorem dX10_comes_55 : decode cX10_comes 55 = .ok (.aload_n 0, 1) := by decide +kernel
theorem dX10_comes_56 : decode cX10_comes 56 = .ok (.getfield 186, 3) := by decide +kernel
theorem dX10_comes_59 : decode cX10_comes 59 = .ok (.ireturn, 1) := by decide +kernel
theorem dX10_matchedMany_0 : decode cX10_matchedMany 0 = .ok (.iconst 0, 1) := by decide +kernel
theorem dX10_matchedMany_1 : decode cX10_matchedMany 1 = .ok (.istore_n 1, 1) := by decide +kernel
theorem dX10_matchedMany_2 : decode cX10_matchedMany 2 = .ok (.iconst 0, 1) := by decide +kernel
theorem dX10_matchedMany_3 : decode cX10_matchedMany 3 = .ok (.istore_n 2, 1) := by decide +kernel
theorem dX10_matchedMany_4 : decode cX10_matchedMany 4 = .ok (.iload_n 2, 1) := by decide +kernel
theorem dX10_matchedMany_5 : decode cX10_matchedMany 5 = .ok (.aload_n 0, 1) := by decide +kernel
theorem dX10_matchedMany_6 : decode cX10_matchedMany 6 = .ok (.getfield 16, 3) := by decide +kernel
theorem dX10_matchedMany_9 : decode cX10_matchedMany 9 = .ok (.iconst 0, 1) := by decide +kernel
theorem dX10_matchedMany_10 : decode cX10_matchedMany 10 = .ok (.iaload, 1) := by decide +kernel
theorem dX10_matchedMany_11 : decode cX10_matchedMany 11 = .ok (.if_icmp .ge 25, 3) := by decide +kernel
theorem dX10_matchedMany_14 : decode cX10_matchedMany 14 = .ok (.iload_n 1, 1) := by decide +kernel
theorem dX10_matchedMany_15 : decode cX10_matchedMany 15 = .ok (.aload_n 0, 1) := by decide +kernel
theorem dX10_matchedMany_16 : decode cX10_matchedMany 16 = .ok (.iload_n 2, 1) := by decide +kernel
theorem dX10_matchedMany_17 : decode cX10_matchedMany 17 = .ok (.invokevirtual 190, 3) := by decide +kernel
theorem dX10_matchedMany_20 : decode cX10_matchedMany 20 = .ok (.ifCond .eq 7, 3) := by decide +kernel
theorem dX10_matchedMany_23 : decode cX10_matchedMany 23 = .ok (.iconst 1, 1) := by decide +kernel
theorem dX10_matchedMany_24 : decode cX10_matchedMany 24 = .ok (.goto 4, 3) := by decide +kernel
theorem dX10_matchedMany_27 : decode cX10_matchedMany 27 = .ok (.iconst 0, 1) := by decide +kernel
theorem dX10_matchedMany_28 : decode cX10_matchedMany 28 = .ok (.iadd, 1) := by decide +kernel
theorem dX10_matchedMany_29 : decode cX10_matchedMany 29 = .ok (.istore_n 1, 1) := by decide +kernel
theorem dX10_matchedMany_30 : decode cX10_matchedMany 30 = .ok (.iinc 2 1, 3) := by decide +kernel
theorem dX10_matchedMany_33 : decode cX10_matchedMany 33 = .ok (.goto (-29), 3) := by decide +kernel
theorem dX10_matchedMany_36 : decode cX10_matchedMany 36 = .ok (.iload_n 1, 1) := by decide +kernel
theorem dX10_matchedMany_37 : decode cX10_matchedMany 37 = .ok (.ireturn, 1) := by decide +kernel
theorem dX10_turnedMany_0 : decode cX10_turnedMany 0 = .ok (.iconst 0, 1) := by decide +kernel
theorem dX10_turnedMany_1 : decode cX10_turnedMany 1 = .ok (.istore_n 1, 1) := by decide +kernel
theorem dX10_turnedMany_2 : decode cX10_turnedMany 2 = .ok (.iconst 0, 1) := by decide +kernel
theorem dX10_turnedMany_3 : decode cX10_turnedMany 3 = .ok (.istore_n 2, 1) := by decide +kernel
theorem dX10_turnedMany_4 : decode cX10_turnedMany 4 = .ok (.iload_n 2, 1) := by decide +kernel
theorem dX10_turnedMany_5 : decode cX10_turnedMany 5 = .ok (.sipush 512, 3) := by decide +kernel
theorem dX10_turnedMany_8 : decode cX10_turnedMany 8 = .ok (.if_icmp .ge 153, 3) := by decide +kernel
theorem dX10_turnedMany_11 : decode cX10_turnedMany 11 = .ok (.iload_n 2, 1) := by decide +kernel
theorem dX10_turnedMany_12 : decode cX10_turnedMany 12 = .ok (.bipush 64, 2) := by decide +kernel
theorem dX10_turnedMany_14 : decode cX10_turnedMany 14 = .ok (.idiv, 1) := by decide +kernel
theorem dX10_turnedMany_15 : decode cX10_turnedMany 15 = .ok (.istore_n 3, 1) := by decide +kernel
theorem dX10_turnedMany_16 : decode cX10_turnedMany 16 = .ok (.iload_n 2, 1) := by decide +kernel
theorem dX10_turnedMany_17 : decode cX10_turnedMany 17 = .ok (.bipush 8, 2) := by decide +kernel
theorem dX10_turnedMany_19 : decode cX10_turnedMany 19 = .ok (.idiv, 1) := by decide +kernel
theorem dX10_turnedMany_20 : decode cX10_turnedMany 20 = .ok (.bipush 8, 2) := by decide +kernel
theorem dX10_turnedMany_22 : decode cX10_turnedMany 22 = .ok (.irem, 1) := by decide +kernel
theorem dX10_turnedMany_23 : decode cX10_turnedMany 23 = .ok (.istore 4, 2) := by decide +kernel
theorem dX10_turnedMany_25 : decode cX10_turnedMany 25 = .ok (.iload_n 2, 1) := by decide +kernel
theorem dX10_turnedMany_26 : decode cX10_turnedMany 26 = .ok (.bipush 8, 2) := by decide +kernel
theorem dX10_turnedMany_28 : decode cX10_turnedMany 28 = .ok (.irem, 1) := by decide +kernel
theorem dX10_turnedMany_29 : decode cX10_turnedMany 29 = .ok (.istore 5, 2) := by decide +kernel
theorem dX10_turnedMany_31 : decode cX10_turnedMany 31 = .ok (.iload_n 3, 1) := by decide +kernel
theorem dX10_turnedMany_32 : decode cX10_turnedMany 32 = .ok (.iload 4, 2) := by decide +kernel
theorem dX10_turnedMany_34 : decode cX10_turnedMany 34 = .ok (.if_icmp .ge 121, 3) := by decide +kernel
theorem dX10_turnedMany_37 : decode cX10_turnedMany 37 = .ok (.iload 4, 2) := by decide +kernel
theorem dX10_turnedMany_39 : decode cX10_turnedMany 39 = .ok (.iload 5, 2) := by decide +kernel
theorem dX10_turnedMany_41 : decode cX10_turnedMany 41 = .ok (.if_icmp .ge 114, 3) := by decide +kernel
theorem dX10_turnedMany_44 : decode cX10_turnedMany 44 = .ok (.iload 5, 2) := by decide +kernel
theorem dX10_turnedMany_46 : decode cX10_turnedMany 46 = .ok (.aload_n 0, 1) := by decide +kernel
theorem dX10_turnedMany_47 : decode cX10_turnedMany 47 = .ok (.getfield 16, 3) := by decide +kernel
theorem dX10_turnedMany_50 : decode cX10_turnedMany 50 = .ok (.iconst 0, 1) := by decide +kernel
theorem dX10_turnedMany_51 : decode cX10_turnedMany 51 = .ok (.iaload, 1) := by decide +kernel
theorem dX10_turnedMany_52 : decode cX10_turnedMany 52 = .ok (.if_icmp .ge 103, 3) := by decide +kernel
theorem dX10_turnedMany_55 : decode cX10_turnedMany 55 = .ok (.aload_n 0, 1) := by decide +kernel
theorem dX10_turnedMany_56 : decode cX10_turnedMany 56 = .ok (.iload_n 3, 1) := by decide +kernel
theorem dX10_turnedMany_57 : decode cX10_turnedMany 57 = .ok (.invokevirtual 190, 3) := by decide +kernel
theorem dX10_turnedMany_60 : decode cX10_turnedMany 60 = .ok (.ifCond .eq 95, 3) := by decide +kernel
theorem dX10_turnedMany_63 : decode cX10_turnedMany 63 = .ok (.aload_n 0, 1) := by decide +kernel
theorem dX10_turnedMany_64 : decode cX10_turnedMany 64 = .ok (.iload 4, 2) := by decide +kernel
theorem dX10_turnedMany_66 : decode cX10_turnedMany 66 = .ok (.invokevirtual 190, 3) := by decide +kernel
theorem dX10_turnedMany_69 : decode cX10_turnedMany 69 = .ok (.ifCond .eq 86, 3) := by decide +kernel
theorem dX10_turnedMany_72 : decode cX10_turnedMany 72 = .ok (.aload_n 0, 1) := by decide +kernel
theorem dX10_turnedMany_73 : decode cX10_turnedMany 73 = .ok (.iload 5, 2) := by decide +kernel
theorem dX10_turnedMany_75 : decode cX10_turnedMany 75 = .ok (.invokevirtual 190, 3) := by decide +kernel
theorem dX10_turnedMany_78 : decode cX10_turnedMany 78 = .ok (.ifCond .eq 77, 3) := by decide +kernel
theorem dX10_turnedMany_81 : decode cX10_turnedMany 81 = .ok (.aload_n 0, 1) := by decide +kernel
theorem dX10_turnedMany_82 : decode cX10_turnedMany 82 = .ok (.iload_n 3, 1) := by decide +kernel
theorem dX10_turnedMany_83 : decode cX10_turnedMany 83 = .ok (.iload 4, 2) := by decide +kernel
theorem dX10_turnedMany_85 : decode cX10_turnedMany 85 = .ok (.iload 5, 2) := by decide +kernel
theorem dX10_turnedMany_87 : decode cX10_turnedMany 87 = .ok (.invokevirtual 177, 3) := by decide +kernel
theorem dX10_turnedMany_90 : decode cX10_turnedMany 90 = .ok (.istore 6, 2) := by decide +kernel
theorem dX10_turnedMany_92 : decode cX10_turnedMany 92 = .ok (.aload_n 0, 1) := by decide +kernel
theorem dX10_turnedMany_93 : decode cX10_turnedMany 93 = .ok (.bipush 8, 2) := by decide +kernel
theorem dX10_turnedMany_95 : decode cX10_turnedMany 95 = .ok (.aload_n 0, 1) := by decide +kernel
theorem dX10_turnedMany_96 : decode cX10_turnedMany 96 = .ok (.getfield 56, 3) := by decide +kernel
theorem dX10_turnedMany_99 : decode cX10_turnedMany 99 = .ok (.iload_n 3, 1) := by decide +kernel
theorem dX10_turnedMany_100 : decode cX10_turnedMany 100 = .ok (.iaload, 1) := by decide +kernel
theorem dX10_turnedMany_101 : decode cX10_turnedMany 101 = .ok (.iadd, 1) := by decide +kernel
theorem dX10_turnedMany_102 : decode cX10_turnedMany 102 = .ok (.bipush 8, 2) := by decide +kernel
theorem dX10_turnedMany_104 : decode cX10_turnedMany 104 = .ok (.aload_n 0, 1) := by decide +kernel
theorem dX10_turnedMany_105 : decode cX10_turnedMany 105 = .ok (.getfield 56, 3) := by decide +kernel
theorem dX10_turnedMany_108 : decode cX10_turnedMany 108 = .ok (.iload 4, 2) := by decide +kernel
theorem dX10_turnedMany_110 : decode cX10_turnedMany 110 = .ok (.iaload, 1) := by decide +kernel
theorem dX10_turnedMany_111 : decode cX10_turnedMany 111 = .ok (.iadd, 1) := by decide +kernel
theorem dX10_turnedMany_112 : decode cX10_turnedMany 112 = .ok (.bipush 8, 2) := by decide +kernel
theorem dX10_turnedMany_114 : decode cX10_turnedMany 114 = .ok (.aload_n 0, 1) := by decide +kernel
theorem dX10_turnedMany_115 : decode cX10_turnedMany 115 = .ok (.getfield 56, 3) := by decide +kernel
theorem dX10_turnedMany_118 : decode cX10_turnedMany 118 = .ok (.iload 5, 2) := by decide +kernel
theorem dX10_turnedMany_120 : decode cX10_turnedMany 120 = .ok (.iaload, 1) := by decide +kernel
theorem dX10_turnedMany_121 : decode cX10_turnedMany 121 = .ok (.iadd, 1) := by decide +kernel
theorem dX10_turnedMany_122 : decode cX10_turnedMany 122 = .ok (.invokevirtual 177, 3) := by decide +kernel
theorem dX10_turnedMany_125 : decode cX10_turnedMany 125 = .ok (.istore 7, 2) := by decide +kernel
theorem dX10_turnedMany_127 : decode cX10_turnedMany 127 = .ok (.iload_n 1, 1) := by decide +kernel
theorem dX10_turnedMany_128 : decode cX10_turnedMany 128 = .ok (.iload 6, 2) := by decide +kernel
theorem dX10_turnedMany_130 : decode cX10_turnedMany 130 = .ok (.ifCond .le 8, 3) := by decide +kernel
theorem dX10_turnedMany_133 : decode cX10_turnedMany 133 = .ok (.iload 7, 2) := by decide +kernel
theorem dX10_turnedMany_135 : decode cX10_turnedMany 135 = .ok (.ifCond .lt 13, 3) := by decide +kernel
theorem dX10_turnedMany_138 : decode cX10_turnedMany 138 = .ok (.iload 6, 2) := by decide +kernel
theorem dX10_turnedMany_140 : decode cX10_turnedMany 140 = .ok (.ifCond .ge 12, 3) := by decide +kernel
theorem dX10_turnedMany_143 : decode cX10_turnedMany 143 = .ok (.iload 7, 2) := by decide +kernel
theorem dX10_turnedMany_145 : decode cX10_turnedMany 145 = .ok (.ifCond .le 7, 3) := by decide +kernel
theorem dX10_turnedMany_148 : decode cX10_turnedMany 148 = .ok (.iconst 1, 1) := by decide +kernel
theorem dX10_turnedMany_149 : decode cX10_turnedMany 149 = .ok (.goto 4, 3) := by decide +kernel
theorem dX10_turnedMany_152 : decode cX10_turnedMany 152 = .ok (.iconst 0, 1) := by decide +kernel
theorem dX10_turnedMany_153 : decode cX10_turnedMany 153 = .ok (.iadd, 1) := by decide +kernel
theorem dX10_turnedMany_154 : decode cX10_turnedMany 154 = .ok (.istore_n 1, 1) := by decide +kernel
theorem dX10_turnedMany_155 : decode cX10_turnedMany 155 = .ok (.iinc 2 1, 3) := by decide +kernel
theorem dX10_turnedMany_158 : decode cX10_turnedMany 158 = .ok (.goto (-154), 3) := by decide +kernel
theorem dX10_turnedMany_161 : decode cX10_turnedMany 161 = .ok (.iload_n 1, 1) := by decide +kernel
theorem dX10_turnedMany_162 : decode cX10_turnedMany 162 = .ok (.ireturn, 1) := by decide +kernel
theorem dX10_isAgreed_0 : decode cX10_isAgreed 0 = .ok (.aload_n 0, 1) := by decide +kernel
theorem dX10_isAgreed_1 : decode cX10_isAgreed 1 = .ok (.aload_n 0, 1) := by decide +kernel
theorem dX10_isAgreed_2 : decode cX10_isAgreed 2 = .ok (.getfield 59, 3) := by decide +kernel
theorem dX10_isAgreed_5 : decode cX10_isAgreed 5 = .ok (.iconst 1, 1) := by decide +kernel
theorem dX10_isAgreed_6 : decode cX10_isAgreed 6 = .ok (.invokevirtual 152, 3) := by decide +kernel
theorem dX10_isAgreed_9 : decode cX10_isAgreed 9 = .ok (.iconst 1, 1) := by decide +kernel
theorem dX10_isAgreed_10 : decode cX10_isAgreed 10 = .ok (.istore_n 1, 1) := by decide +kernel
theorem dX10_isAgreed_11 : decode cX10_isAgreed 11 = .ok (.iconst 0, 1) := by decide +kernel
theorem dX10_isAgreed_12 : decode cX10_isAgreed 12 = .ok (.istore_n 2, 1) := by decide +kernel
theorem dX10_isAgreed_13 : decode cX10_isAgreed 13 = .ok (.iload_n 2, 1) := by decide +kernel
theorem dX10_isAgreed_14 : decode cX10_isAgreed 14 = .ok (.bipush 16, 2) := by decide +kernel
theorem dX10_isAgreed_16 : decode cX10_isAgreed 16 = .ok (.if_icmp .ge 34, 3) := by decide +kernel
theorem dX10_isAgreed_19 : decode cX10_isAgreed 19 = .ok (.iload_n 1, 1) := by decide +kernel
theorem dX10_isAgreed_20 : decode cX10_isAgreed 20 = .ok (.ifCond .eq 22, 3) := by decide +kernel
theorem dX10_isAgreed_23 : decode cX10_isAgreed 23 = .ok (.aload_n 0, 1) := by decide +kernel
theorem dX10_isAgreed_24 : decode cX10_isAgreed 24 = .ok (.getfield 56, 3) := by decide +kernel
theorem dX10_isAgreed_27 : decode cX10_isAgreed 27 = .ok (.iload_n 2, 1) := by decide +kernel
theorem dX10_isAgreed_28 : decode cX10_isAgreed 28 = .ok (.iaload, 1) := by decide +kernel
theorem dX10_isAgreed_29 : decode cX10_isAgreed 29 = .ok (.aload_n 0, 1) := by decide +kernel
theorem dX10_isAgreed_30 : decode cX10_isAgreed 30 = .ok (.getfield 59, 3) := by decide +kernel
theorem dX10_isAgreed_33 : decode cX10_isAgreed 33 = .ok (.iload_n 2, 1) := by decide +kernel
theorem dX10_isAgreed_34 : decode cX10_isAgreed 34 = .ok (.iaload, 1) := by decide +kernel
theorem dX10_isAgreed_35 : decode cX10_isAgreed 35 = .ok (.if_icmp .ne 7, 3) := by decide +kernel
theorem dX10_isAgreed_38 : decode cX10_isAgreed 38 = .ok (.iconst 1, 1) := by decide +kernel
theorem dX10_isAgreed_39 : decode cX10_isAgreed 39 = .ok (.goto 4, 3) := by decide +kernel
theorem dX10_isAgreed_42 : decode cX10_isAgreed 42 = .ok (.iconst 0, 1) := by decide +kernel
theorem dX10_isAgreed_43 : decode cX10_isAgreed 43 = .ok (.istore_n 1, 1) := by decide +kernel
theorem dX10_isAgreed_44 : decode cX10_isAgreed 44 = .ok (.iinc 2 1, 3) := by decide +kernel
theorem dX10_isAgreed_47 : decode cX10_isAgreed 47 = .ok (.goto (-34), 3) := by decide +kernel
theorem dX10_isAgreed_50 : decode cX10_isAgreed 50 = .ok (.iload_n 1, 1) := by decide +kernel
theorem dX10_isAgreed_51 : decode cX10_isAgreed 51 = .ok (.ireturn, 1) := by decide +kernel
theorem dX10_loneOf_0 : decode cX10_loneOf 0 = .ok (.iconst 0, 1) := by decide +kernel
theorem dX10_loneOf_1 : decode cX10_loneOf 1 = .ok (.istore_n 2, 1) := by decide +kernel
theorem dX10_loneOf_2 : decode cX10_loneOf 2 = .ok (.iconst 0, 1) := by decide +kernel
theorem dX10_loneOf_3 : decode cX10_loneOf 3 = .ok (.istore_n 3, 1) := by decide +kernel
theorem dX10_loneOf_4 : decode cX10_loneOf 4 = .ok (.iload_n 3, 1) := by decide +kernel
theorem dX10_loneOf_5 : decode cX10_loneOf 5 = .ok (.aload_n 0, 1) := by decide +kernel
theorem dX10_loneOf_6 : decode cX10_loneOf 6 = .ok (.getfield 16, 3) := by decide +kernel
theorem dX10_loneOf_9 : decode cX10_loneOf 9 = .ok (.iload_n 1, 1) := by decide +kernel
theorem dX10_loneOf_10 : decode cX10_loneOf 10 = .ok (.iaload, 1) := by decide +kernel
theorem dX10_loneOf_11 : decode cX10_loneOf 11 = .ok (.if_icmp .ge 35, 3) := by decide +kernel
theorem dX10_loneOf_14 : decode cX10_loneOf 14 = .ok (.iload_n 2, 1) := by decide +kernel
theorem dX10_loneOf_15 : decode cX10_loneOf 15 = .ok (.aload_n 0, 1) := by decide +kernel
theorem dX10_loneOf_16 : decode cX10_loneOf 16 = .ok (.getfield 56, 3) := by decide +kernel
theorem dX10_loneOf_19 : decode cX10_loneOf 19 = .ok (.bipush 8, 2) := by decide +kernel
theorem dX10_loneOf_21 : decode cX10_loneOf 21 = .ok (.iload_n 1, 1) := by decide +kernel
theorem dX10_loneOf_22 : decode cX10_loneOf 22 = .ok (.imul, 1) := by decide +kernel
theorem dX10_loneOf_23 : decode cX10_loneOf 23 = .ok (.iload_n 3, 1) := by decide +kernel
theorem dX10_loneOf_24 : decode cX10_loneOf 24 = .ok (.iadd, 1) := by decide +kernel
theorem dX10_loneOf_25 : decode cX10_loneOf 25 = .ok (.iaload, 1) := by decide +kernel
theorem dX10_loneOf_26 : decode cX10_loneOf 26 = .ok (.bipush (-4), 2) := by decide +kernel
theorem dX10_loneOf_28 : decode cX10_loneOf 28 = .ok (.if_icmp .ne 9, 3) := by decide +kernel
theorem dX10_loneOf_31 : decode cX10_loneOf 31 = .ok (.iconst 1, 1) := by decide +kernel
theorem dX10_loneOf_32 : decode cX10_loneOf 32 = .ok (.iload_n 3, 1) := by decide +kernel
theorem dX10_loneOf_33 : decode cX10_loneOf 33 = .ok (.ishl, 1) := by decide +kernel
theorem dX10_loneOf_34 : decode cX10_loneOf 34 = .ok (.goto 4, 3) := by decide +kernel
theorem dX10_loneOf_37 : decode cX10_loneOf 37 = .ok (.iconst 0, 1) := by decide +kernel
theorem dX10_loneOf_38 : decode cX10_loneOf 38 = .ok (.ior, 1) := by decide +kernel
theorem dX10_loneOf_39 : decode cX10_loneOf 39 = .ok (.istore_n 2, 1) := by decide +kernel
theorem dX10_loneOf_40 : decode cX10_loneOf 40 = .ok (.iinc 3 1, 3) := by decide +kernel
theorem dX10_loneOf_43 : decode cX10_loneOf 43 = .ok (.goto (-39), 3) := by decide +kernel
theorem dX10_loneOf_46 : decode cX10_loneOf 46 = .ok (.iload_n 2, 1) := by decide +kernel
theorem dX10_loneOf_47 : decode cX10_loneOf 47 = .ok (.ireturn, 1) := by decide +kernel
theorem dX10_toldMany_0 : decode cX10_toldMany 0 = .ok (.iconst 0, 1) := by decide +kernel
theorem dX10_toldMany_1 : decode cX10_toldMany 1 = .ok (.istore_n 1, 1) := by decide +kernel
theorem dX10_toldMany_2 : decode cX10_toldMany 2 = .ok (.iconst 0, 1) := by decide +kernel
theorem dX10_toldMany_3 : decode cX10_toldMany 3 = .ok (.istore_n 2, 1) := by decide +kernel
theorem dX10_toldMany_4 : decode cX10_toldMany 4 = .ok (.iload_n 2, 1) := by decide +kernel
theorem dX10_toldMany_5 : decode cX10_toldMany 5 = .ok (.aload_n 0, 1) := by decide +kernel
theorem dX10_toldMany_6 : decode cX10_toldMany 6 = .ok (.getfield 20, 3) := by decide +kernel
theorem dX10_toldMany_9 : decode cX10_toldMany 9 = .ok (.iconst 0, 1) := by decide +kernel
theorem dX10_toldMany_10 : decode cX10_toldMany 10 = .ok (.iaload, 1) := by decide +kernel
theorem dX10_toldMany_11 : decode cX10_toldMany 11 = .ok (.if_icmp .ge 29, 3) := by decide +kernel
theorem dX10_toldMany_14 : decode cX10_toldMany 14 = .ok (.aload_n 0, 1) := by decide +kernel
theorem dX10_toldMany_15 : decode cX10_toldMany 15 = .ok (.iload_n 2, 1) := by decide +kernel
theorem dX10_toldMany_16 : decode cX10_toldMany 16 = .ok (.invokevirtual 169, 3) := by decide +kernel
theorem dX10_toldMany_19 : decode cX10_toldMany 19 = .ok (.iload_n 1, 1) := by decide +kernel
theorem dX10_toldMany_20 : decode cX10_toldMany 20 = .ok (.aload_n 0, 1) := by decide +kernel
theorem dX10_toldMany_21 : decode cX10_toldMany 21 = .ok (.getfield 159, 3) := by decide +kernel
theorem dX10_toldMany_24 : decode cX10_toldMany 24 = .ok (.ifCond .le 7, 3) := by decide +kernel
theorem dX10_toldMany_27 : decode cX10_toldMany 27 = .ok (.iconst 1, 1) := by decide +kernel
theorem dX10_toldMany_28 : decode cX10_toldMany 28 = .ok (.goto 4, 3) := by decide +kernel
theorem dX10_toldMany_31 : decode cX10_toldMany 31 = .ok (.iconst 0, 1) := by decide +kernel
theorem dX10_toldMany_32 : decode cX10_toldMany 32 = .ok (.iadd, 1) := by decide +kernel
theorem dX10_toldMany_33 : decode cX10_toldMany 33 = .ok (.istore_n 1, 1) := by decide +kernel
theorem dX10_toldMany_34 : decode cX10_toldMany 34 = .ok (.iinc 2 1, 3) := by decide +kernel
theorem dX10_toldMany_37 : decode cX10_toldMany 37 = .ok (.goto (-33), 3) := by decide +kernel
theorem dX10_toldMany_40 : decode cX10_toldMany 40 = .ok (.iload_n 1, 1) := by decide +kernel
theorem dX10_toldMany_41 : decode cX10_toldMany 41 = .ok (.ireturn, 1) := by decide +kernel
theorem dX10_whole_0 : decode cX10_whole 0 = .ok (.iload_n 1, 1) := by decide +kernel
theorem dX10_whole_1 : decode cX10_whole 1 = .ok (.iconst 0, 1) := by decide +kernel
theorem dX10_whole_2 : decode cX10_whole 2 = .ok (.iconst 5, 1) := by decide +kernel
theorem dX10_whole_3 : decode cX10_whole 3 = .ok (.invokestatic 84, 3) := by decide +kernel
theorem dX10_whole_6 : decode cX10_whole 6 = .ok (.ifCond .ne 5, 3) := by decide +kernel
theorem dX10_whole_9 : decode cX10_whole 9 = .ok (.iconst (-1), 1) := by decide +kernel
theorem dX10_whole_10 : decode cX10_whole 10 = .ok (.ireturn, 1) := by decide +kernel
theorem dX10_whole_11 : decode cX10_whole 11 = .ok (.aload_n 0, 1) := by decide +kernel
theorem dX10_whole_12 : decode cX10_whole 12 = .ok (.invokevirtual 156, 3) := by decide +kernel
theorem dX10_whole_15 : decode cX10_whole 15 = .ok (.iload_n 1, 1) := by decide +kernel
theorem dX10_whole_16 : decode cX10_whole 16 = .ok (.tableswitch 71 0 4 #[36, 41, 46, 59, 65], 36) := by decide +kernel
theorem dX10_whole_52 : decode cX10_whole 52 = .ok (.aload_n 0, 1) := by decide +kernel
theorem dX10_whole_53 : decode cX10_whole 53 = .ok (.invokevirtual 216, 3) := by decide +kernel
theorem dX10_whole_56 : decode cX10_whole 56 = .ok (.ireturn, 1) := by decide +kernel
theorem dX10_whole_57 : decode cX10_whole 57 = .ok (.aload_n 0, 1) := by decide +kernel
theorem dX10_whole_58 : decode cX10_whole 58 = .ok (.invokevirtual 219, 3) := by decide +kernel
theorem dX10_whole_61 : decode cX10_whole 61 = .ok (.ireturn, 1) := by decide +kernel
theorem dX10_whole_62 : decode cX10_whole 62 = .ok (.aload_n 0, 1) := by decide +kernel
theorem dX10_whole_63 : decode cX10_whole 63 = .ok (.invokevirtual 222, 3) := by decide +kernel
theorem dX10_whole_66 : decode cX10_whole 66 = .ok (.ifCond .eq 7, 3) := by decide +kernel
theorem dX10_whole_69 : decode cX10_whole 69 = .ok (.iconst 1, 1) := by decide +kernel
theorem dX10_whole_70 : decode cX10_whole 70 = .ok (.goto 4, 3) := by decide +kernel
theorem dX10_whole_73 : decode cX10_whole 73 = .ok (.iconst 0, 1) := by decide +kernel
theorem dX10_whole_74 : decode cX10_whole 74 = .ok (.ireturn, 1) := by decide +kernel
theorem dX10_whole_75 : decode cX10_whole 75 = .ok (.aload_n 0, 1) := by decide +kernel
theorem dX10_whole_76 : decode cX10_whole 76 = .ok (.iconst 0, 1) := by decide +kernel
theorem dX10_whole_77 : decode cX10_whole 77 = .ok (.invokevirtual 226, 3) := by decide +kernel
theorem dX10_whole_80 : decode cX10_whole 80 = .ok (.ireturn, 1) := by decide +kernel
theorem dX10_whole_81 : decode cX10_whole 81 = .ok (.aload_n 0, 1) := by decide +kernel
theorem dX10_whole_82 : decode cX10_whole 82 = .ok (.iconst 1, 1) := by decide +kernel
theorem dX10_whole_83 : decode cX10_whole 83 = .ok (.invokevirtual 226, 3) := by decide +kernel
theorem dX10_whole_86 : decode cX10_whole 86 = .ok (.ireturn, 1) := by decide +kernel
theorem dX10_whole_87 : decode cX10_whole 87 = .ok (.aload_n 0, 1) := by decide +kernel
theorem dX10_whole_88 : decode cX10_whole 88 = .ok (.invokevirtual 229, 3) := by decide +kernel
theorem dX10_whole_91 : decode cX10_whole 91 = .ok (.ireturn, 1) := by decide +kernel
theorem dX10_empties_0 : decode cX10_empties 0 = .ok (.iconst 0, 1) := by decide +kernel
theorem dX10_empties_1 : decode cX10_empties 1 = .ok (.istore_n 1, 1) := by decide +kernel
theorem dX10_empties_2 : decode cX10_empties 2 = .ok (.iload_n 1, 1) := by decide +kernel
theorem dX10_empties_3 : decode cX10_empties 3 = .ok (.bipush 12, 2) := by decide +kernel
theorem dX10_empties_5 : decode cX10_empties 5 = .ok (.if_icmp .ge 17, 3) := by decide +kernel
theorem dX10_empties_8 : decode cX10_empties 8 = .ok (.aload_n 0, 1) := by decide +kernel
theorem dX10_empties_9 : decode cX10_empties 9 = .ok (.getfield 65, 3) := by decide +kernel
theorem dX10_empties_12 : decode cX10_empties 12 = .ok (.iload_n 1, 1) := by decide +kernel
theorem dX10_empties_13 : decode cX10_empties 13 = .ok (.bipush (-4), 2) := by decide +kernel
theorem dX10_empties_15 : decode cX10_empties 15 = .ok (.iastore, 1) := by decide +kernel
theorem dX10_empties_16 : decode cX10_empties 16 = .ok (.iinc 1 1, 3) := by decide +kernel
theorem dX10_empties_19 : decode cX10_empties 19 = .ok (.goto (-17), 3) := by decide +kernel
theorem dX10_empties_22 : decode cX10_empties 22 = .ok (.return_, 1) := by decide +kernel
theorem dX10_shelve_0 : decode cX10_shelve 0 = .ok (.iload_n 3, 1) := by decide +kernel
theorem dX10_shelve_1 : decode cX10_shelve 1 = .ok (.iconst 0, 1) := by decide +kernel
theorem dX10_shelve_2 : decode cX10_shelve 2 = .ok (.aload_n 0, 1) := by decide +kernel
theorem dX10_shelve_3 : decode cX10_shelve 3 = .ok (.getfield 16, 3) := by decide +kernel
theorem dX10_shelve_6 : decode cX10_shelve 6 = .ok (.iconst 0, 1) := by decide +kernel
theorem dX10_shelve_7 : decode cX10_shelve 7 = .ok (.iaload, 1) := by decide +kernel
theorem dX10_shelve_8 : decode cX10_shelve 8 = .ok (.iconst 1, 1) := by decide +kernel
theorem dX10_shelve_9 : decode cX10_shelve 9 = .ok (.isub, 1) := by decide +kernel
theorem dX10_shelve_10 : decode cX10_shelve 10 = .ok (.invokestatic 84, 3) := by decide +kernel
theorem dX10_shelve_13 : decode cX10_shelve 13 = .ok (.ifCond .ne 23, 3) := by decide +kernel
theorem dX10_shelve_16 : decode cX10_shelve 16 = .ok (.iload_n 3, 1) := by decide +kernel
theorem dX10_shelve_17 : decode cX10_shelve 17 = .ok (.bipush 8, 2) := by decide +kernel
theorem dX10_shelve_19 : decode cX10_shelve 19 = .ok (.bipush 8, 2) := by decide +kernel
theorem dX10_shelve_21 : decode cX10_shelve 21 = .ok (.aload_n 0, 1) := by decide +kernel
theorem dX10_shelve_22 : decode cX10_shelve 22 = .ok (.getfield 20, 3) := by decide +kernel
theorem dX10_shelve_25 : decode cX10_shelve 25 = .ok (.iconst 0, 1) := by decide +kernel
theorem dX10_shelve_26 : decode cX10_shelve 26 = .ok (.iaload, 1) := by decide +kernel
theorem dX10_shelve_27 : decode cX10_shelve 27 = .ok (.iadd, 1) := by decide +kernel
theorem dX10_shelve_28 : decode cX10_shelve 28 = .ok (.iconst 1, 1) := by decide +kernel
theorem dX10_shelve_29 : decode cX10_shelve 29 = .ok (.isub, 1) := by decide +kernel
theorem dX10_shelve_30 : decode cX10_shelve 30 = .ok (.invokestatic 84, 3) := by decide +kernel
theorem dX10_shelve_33 : decode cX10_shelve 33 = .ok (.ifCond .eq 7, 3) := by decide +kernel
theorem dX10_shelve_36 : decode cX10_shelve 36 = .ok (.iconst 1, 1) := by decide +kernel
theorem dX10_shelve_37 : decode cX10_shelve 37 = .ok (.goto 4, 3) := by decide +kernel
theorem dX10_shelve_40 : decode cX10_shelve 40 = .ok (.iconst 0, 1) := by decide +kernel
theorem dX10_shelve_41 : decode cX10_shelve 41 = .ok (.istore 4, 2) := by decide +kernel
theorem dX10_shelve_43 : decode cX10_shelve 43 = .ok (.iload_n 1, 1) := by decide +kernel
theorem dX10_shelve_44 : decode cX10_shelve 44 = .ok (.iconst 0, 1) := by decide +kernel
theorem dX10_shelve_45 : decode cX10_shelve 45 = .ok (.iconst 2, 1) := by decide +kernel
theorem dX10_shelve_46 : decode cX10_shelve 46 = .ok (.invokestatic 84, 3) := by decide +kernel
theorem dX10_shelve_49 : decode cX10_shelve 49 = .ok (.ifCond .eq 17, 3) := by decide +kernel
theorem dX10_shelve_52 : decode cX10_shelve 52 = .ok (.iload_n 2, 1) := by decide +kernel
theorem dX10_shelve_53 : decode cX10_shelve 53 = .ok (.iconst 0, 1) := by decide +kernel
theorem dX10_shelve_54 : decode cX10_shelve 54 = .ok (.iconst 3, 1) := by decide +kernel
theorem dX10_shelve_55 : decode cX10_shelve 55 = .ok (.invokestatic 84, 3) := by decide +kernel
theorem dX10_shelve_58 : decode cX10_shelve 58 = .ok (.ifCond .eq 8, 3) := by decide +kernel
theorem dX10_shelve_61 : decode cX10_shelve 61 = .ok (.iload 4, 2) := by decide +kernel
theorem dX10_shelve_63 : decode cX10_shelve 63 = .ok (.ifCond .ne 5, 3) := by decide +kernel
theorem dX10_shelve_66 : decode cX10_shelve 66 = .ok (.iconst (-1), 1) := by decide +kernel
theorem dX10_shelve_67 : decode cX10_shelve 67 = .ok (.ireturn, 1) := by decide +kernel
theorem dX10_shelve_68 : decode cX10_shelve 68 = .ok (.iload_n 1, 1) := by decide +kernel
theorem dX10_shelve_69 : decode cX10_shelve 69 = .ok (.iconst 2, 1) := by decide +kernel
theorem dX10_shelve_70 : decode cX10_shelve 70 = .ok (.if_icmp .ge 14, 3) := by decide +kernel
theorem dX10_shelve_73 : decode cX10_shelve 73 = .ok (.iload_n 3, 1) := by decide +kernel
theorem dX10_shelve_74 : decode cX10_shelve 74 = .ok (.bipush 8, 2) := by decide +kernel
theorem dX10_shelve_76 : decode cX10_shelve 76 = .ok (.idiv, 1) := by decide +kernel
theorem dX10_shelve_77 : decode cX10_shelve 77 = .ok (.iload_n 1, 1) := by decide +kernel
theorem dX10_shelve_78 : decode cX10_shelve 78 = .ok (.if_icmp .eq 6, 3) := by decide +kernel
theorem dX10_shelve_81 : decode cX10_shelve 81 = .ok (.bipush (-2), 2) := by decide +kernel
theorem dX10_shelve_83 : decode cX10_shelve 83 = .ok (.ireturn, 1) := by decide +kernel
theorem dX10_shelve_84 : decode cX10_shelve 84 = .ok (.aload_n 0, 1) := by decide +kernel
theorem dX10_shelve_85 : decode cX10_shelve 85 = .ok (.getfield 65, 3) := by decide +kernel
theorem dX10_shelve_88 : decode cX10_shelve 88 = .ok (.iconst 4, 1) := by decide +kernel
theorem dX10_shelve_89 : decode cX10_shelve 89 = .ok (.iload_n 1, 1) := by decide +kernel
theorem dX10_shelve_90 : decode cX10_shelve 90 = .ok (.imul, 1) := by decide +kernel
theorem dX10_shelve_91 : decode cX10_shelve 91 = .ok (.iload_n 2, 1) := by decide +kernel
theorem dX10_shelve_92 : decode cX10_shelve 92 = .ok (.iadd, 1) := by decide +kernel
theorem dX10_shelve_93 : decode cX10_shelve 93 = .ok (.iload_n 3, 1) := by decide +kernel
theorem dX10_shelve_94 : decode cX10_shelve 94 = .ok (.iastore, 1) := by decide +kernel
theorem dX10_shelve_95 : decode cX10_shelve 95 = .ok (.iconst 1, 1) := by decide +kernel
theorem dX10_shelve_96 : decode cX10_shelve 96 = .ok (.ireturn, 1) := by decide +kernel
theorem dX10_shelf_0 : decode cX10_shelf 0 = .ok (.iload_n 1, 1) := by decide +kernel
theorem dX10_shelf_1 : decode cX10_shelf 1 = .ok (.iconst 0, 1) := by decide +kernel
theorem dX10_shelf_2 : decode cX10_shelf 2 = .ok (.iconst 2, 1) := by decide +kernel
theorem dX10_shelf_3 : decode cX10_shelf 3 = .ok (.invokestatic 84, 3) := by decide +kernel
theorem dX10_shelf_6 : decode cX10_shelf 6 = .ok (.ifCond .eq 25, 3) := by decide +kernel
theorem dX10_shelf_9 : decode cX10_shelf 9 = .ok (.iload_n 2, 1) := by decide +kernel
theorem dX10_shelf_10 : decode cX10_shelf 10 = .ok (.iconst 0, 1) := by decide +kernel
theorem dX10_shelf_11 : decode cX10_shelf 11 = .ok (.iconst 3, 1) := by decide +kernel
theorem dX10_shelf_12 : decode cX10_shelf 12 = .ok (.invokestatic 84, 3) := by decide +kernel
theorem dX10_shelf_15 : decode cX10_shelf 15 = .ok (.ifCond .eq 16, 3) := by decide +kernel
theorem dX10_shelf_18 : decode cX10_shelf 18 = .ok (.aload_n 0, 1) := by decide +kernel
theorem dX10_shelf_19 : decode cX10_shelf 19 = .ok (.getfield 65, 3) := by decide +kernel
theorem dX10_shelf_22 : decode cX10_shelf 22 = .ok (.iconst 4, 1) := by decide +kernel
theorem dX10_shelf_23 : decode cX10_shelf 23 = .ok (.iload_n 1, 1) := by decide +kernel
theorem dX10_shelf_24 : decode cX10_shelf 24 = .ok (.imul, 1) := by decide +kernel
theorem dX10_shelf_25 : decode cX10_shelf 25 = .ok (.iload_n 2, 1) := by decide +kernel
theorem dX10_shelf_26 : decode cX10_shelf 26 = .ok (.iadd, 1) := by decide +kernel
theorem dX10_shelf_27 : decode cX10_shelf 27 = .ok (.iaload, 1) := by decide +kernel
theorem dX10_shelf_28 : decode cX10_shelf 28 = .ok (.goto 4, 3) := by decide +kernel
theorem dX10_shelf_31 : decode cX10_shelf 31 = .ok (.iconst (-1), 1) := by decide +kernel
theorem dX10_shelf_32 : decode cX10_shelf 32 = .ok (.ireturn, 1) := by decide +kernel
theorem dX10_thingMany_0 : decode cX10_thingMany 0 = .ok (.iconst 0, 1) := by decide +kernel
theorem dX10_thingMany_1 : decode cX10_thingMany 1 = .ok (.istore_n 1, 1) := by decide +kernel
theorem dX10_thingMany_2 : decode cX10_thingMany 2 = .ok (.iconst 0, 1) := by decide +kernel
theorem dX10_thingMany_3 : decode cX10_thingMany 3 = .ok (.istore_n 2, 1) := by decide +kernel
theorem dX10_thingMany_4 : decode cX10_thingMany 4 = .ok (.iload_n 2, 1) := by decide +kernel
theorem dX10_thingMany_5 : decode cX10_thingMany 5 = .ok (.bipush 12, 2) := by decide +kernel
theorem dX10_thingMany_7 : decode cX10_thingMany 7 = .ok (.if_icmp .ge 28, 3) := by decide +kernel
theorem dX10_thingMany_10 : decode cX10_thingMany 10 = .ok (.iload_n 1, 1) := by decide +kernel
theorem dX10_thingMany_11 : decode cX10_thingMany 11 = .ok (.aload_n 0, 1) := by decide +kernel
theorem dX10_thingMany_12 : decode cX10_thingMany 12 = .ok (.getfield 65, 3) := by decide +kernel
theorem dX10_thingMany_15 : decode cX10_thingMany 15 = .ok (.iload_n 2, 1) := by decide +kernel
theorem dX10_thingMany_16 : decode cX10_thingMany 16 = .ok (.iaload, 1) := by decide +kernel
theorem dX10_thingMany_17 : decode cX10_thingMany 17 = .ok (.bipush (-4), 2) := by decide +kernel
theorem dX10_thingMany_19 : decode cX10_thingMany 19 = .ok (.if_icmp .ne 7, 3) := by decide +kernel
theorem dX10_thingMany_22 : decode cX10_thingMany 22 = .ok (.iconst 0, 1) := by decide +kernel
theorem dX10_thingMany_23 : decode cX10_thingMany 23 = .ok (.goto 4, 3) := by decide +kernel
theorem dX10_thingMany_26 : decode cX10_thingMany 26 = .ok (.iconst 1, 1) := by decide +kernel
theorem dX10_thingMany_27 : decode cX10_thingMany 27 = .ok (.iadd, 1) := by decide +kernel
theorem dX10_thingMany_28 : decode cX10_thingMany 28 = .ok (.istore_n 1, 1) := by decide +kernel
theorem dX10_thingMany_29 : decode cX10_thingMany 29 = .ok (.iinc 2 1, 3) := by decide +kernel
theorem dX10_thingMany_32 : decode cX10_thingMany 32 = .ok (.goto (-28), 3) := by decide +kernel
theorem dX10_thingMany_35 : decode cX10_thingMany 35 = .ok (.iload_n 1, 1) := by decide +kernel
theorem dX10_thingMany_36 : decode cX10_thingMany 36 = .ok (.ireturn, 1) := by decide +kernel
theorem dX10_day_0 : decode cX10_day 0 = .ok (.iload_n 1, 1) := by decide +kernel
theorem dX10_day_1 : decode cX10_day 1 = .ok (.iconst 0, 1) := by decide +kernel
theorem dX10_day_2 : decode cX10_day 2 = .ok (.sipush 9999, 3) := by decide +kernel
theorem dX10_day_5 : decode cX10_day 5 = .ok (.invokestatic 84, 3) := by decide +kernel
theorem dX10_day_8 : decode cX10_day 8 = .ok (.ifCond .eq 22, 3) := by decide +kernel
theorem dX10_day_11 : decode cX10_day 11 = .ok (.iload_n 2, 1) := by decide +kernel
theorem dX10_day_12 : decode cX10_day 12 = .ok (.iconst 1, 1) := by decide +kernel
theorem dX10_day_13 : decode cX10_day 13 = .ok (.bipush 20, 2) := by decide +kernel
theorem dX10_day_15 : decode cX10_day 15 = .ok (.invokestatic 84, 3) := by decide +kernel
theorem dX10_day_18 : decode cX10_day 18 = .ok (.ifCond .eq 12, 3) := by decide +kernel
theorem dX10_day_21 : decode cX10_day 21 = .ok (.iload_n 3, 1) := by decide +kernel
theorem dX10_day_22 : decode cX10_day 22 = .ok (.iconst 0, 1) := by decide +kernel
theorem dX10_day_23 : decode cX10_day 23 = .ok (.iconst 1, 1) := by decide +kernel
theorem dX10_day_24 : decode cX10_day 24 = .ok (.invokestatic 84, 3) := by decide +kernel
theorem dX10_day_27 : decode cX10_day 27 = .ok (.ifCond .ne 5, 3) := by decide +kernel
theorem dX10_day_30 : decode cX10_day 30 = .ok (.iconst (-1), 1) := by decide +kernel
theorem dX10_day_31 : decode cX10_day 31 = .ok (.ireturn, 1) := by decide +kernel
theorem dX10_day_32 : decode cX10_day 32 = .ok (.aload_n 0, 1) := by decide +kernel
theorem dX10_day_33 : decode cX10_day 33 = .ok (.aload_n 0, 1) := by decide +kernel
theorem dX10_day_34 : decode cX10_day 34 = .ok (.getfield 47, 3) := by decide +kernel
theorem dX10_day_37 : decode cX10_day 37 = .ok (.iconst 0, 1) := by decide +kernel
theorem dX10_day_38 : decode cX10_day 38 = .ok (.invokevirtual 110, 3) := by decide +kernel
theorem dX10_day_41 : decode cX10_day 41 = .ok (.iconst 0, 1) := by decide +kernel
theorem dX10_day_42 : decode cX10_day 42 = .ok (.istore 4, 2) := by decide +kernel
theorem dX10_day_44 : decode cX10_day 44 = .ok (.iload 4, 2) := by decide +kernel
theorem dX10_day_46 : decode cX10_day 46 = .ok (.iload_n 2, 1) := by decide +kernel
theorem dX10_day_47 : decode cX10_day 47 = .ok (.if_icmp .ge 96, 3) := by decide +kernel
theorem dX10_day_50 : decode cX10_day 50 = .ok (.ldc2_w 232, 3) := by decide +kernel
theorem dX10_day_53 : decode cX10_day 53 = .ok (.iload_n 1, 1) := by decide +kernel
theorem dX10_day_54 : decode cX10_day 54 = .ok (.i2l, 1) := by decide +kernel
theorem dX10_day_55 : decode cX10_day 55 = .ok (.lmul, 1) := by decide +kernel
theorem dX10_day_56 : decode cX10_day 56 = .ok (.ldc2_w 234, 3) := by decide +kernel
theorem dX10_day_59 : decode cX10_day 59 = .ok (.iload 4, 2) := by decide +kernel
theorem dX10_day_61 : decode cX10_day 61 = .ok (.i2l, 1) := by decide +kernel
theorem dX10_day_62 : decode cX10_day 62 = .ok (.lmul, 1) := by decide +kernel
theorem dX10_day_63 : decode cX10_day 63 = .ok (.ladd, 1) := by decide +kernel
theorem dX10_day_64 : decode cX10_day 64 = .ok (.lconst 1, 1) := by decide +kernel
theorem dX10_day_65 : decode cX10_day 65 = .ok (.ladd, 1) := by decide +kernel
theorem dX10_day_66 : decode cX10_day 66 = .ok (.lstore 5, 2) := by decide +kernel
theorem dX10_day_68 : decode cX10_day 68 = .ok (.lload 5, 2) := by decide +kernel
theorem dX10_day_70 : decode cX10_day 70 = .ok (.lload 5, 2) := by decide +kernel
theorem dX10_day_72 : decode cX10_day 72 = .ok (.lmul, 1) := by decide +kernel
theorem dX10_day_73 : decode cX10_day 73 = .ok (.ldc2_w 236, 3) := by decide +kernel
theorem dX10_day_76 : decode cX10_day 76 = .ok (.lrem, 1) := by decide +kernel
theorem dX10_day_77 : decode cX10_day 77 = .ok (.l2i, 1) := by decide +kernel
theorem dX10_day_78 : decode cX10_day 78 = .ok (.istore 7, 2) := by decide +kernel
theorem dX10_day_80 : decode cX10_day 80 = .ok (.iload 7, 2) := by decide +kernel
theorem dX10_day_82 : decode cX10_day 82 = .ok (.iconst 2, 1) := by decide +kernel
theorem dX10_day_83 : decode cX10_day 83 = .ok (.irem, 1) := by decide +kernel
theorem dX10_day_84 : decode cX10_day 84 = .ok (.istore 8, 2) := by decide +kernel
theorem dX10_day_86 : decode cX10_day 86 = .ok (.bipush 8, 2) := by decide +kernel
theorem dX10_day_88 : decode cX10_day 88 = .ok (.iload 8, 2) := by decide +kernel
theorem dX10_day_90 : decode cX10_day 90 = .ok (.imul, 1) := by decide +kernel
theorem dX10_day_91 : decode cX10_day 91 = .ok (.iload 7, 2) := by decide +kernel
theorem dX10_day_93 : decode cX10_day 93 = .ok (.iconst 2, 1) := by decide +kernel
theorem dX10_day_94 : decode cX10_day 94 = .ok (.idiv, 1) := by decide +kernel
theorem dX10_day_95 : decode cX10_day 95 = .ok (.aload_n 0, 1) := by decide +kernel
theorem dX10_day_96 : decode cX10_day 96 = .ok (.getfield 16, 3) := by decide +kernel
theorem dX10_day_99 : decode cX10_day 99 = .ok (.iload 8, 2) := by decide +kernel
theorem dX10_day_101 : decode cX10_day 101 = .ok (.iaload, 1) := by decide +kernel
theorem dX10_day_102 : decode cX10_day 102 = .ok (.irem, 1) := by decide +kernel
theorem dX10_day_103 : decode cX10_day 103 = .ok (.iadd, 1) := by decide +kernel
theorem dX10_day_104 : decode cX10_day 104 = .ok (.istore 9, 2) := by decide +kernel
theorem dX10_day_106 : decode cX10_day 106 = .ok (.aload_n 0, 1) := by decide +kernel
theorem dX10_day_107 : decode cX10_day 107 = .ok (.getfield 26, 3) := by decide +kernel
theorem dX10_day_110 : decode cX10_day 110 = .ok (.iload 9, 2) := by decide +kernel
theorem dX10_day_112 : decode cX10_day 112 = .ok (.iload 7, 2) := by decide +kernel
theorem dX10_day_114 : decode cX10_day 114 = .ok (.bipush 16, 2) := by decide +kernel
theorem dX10_day_116 : decode cX10_day 116 = .ok (.idiv, 1) := by decide +kernel
theorem dX10_day_117 : decode cX10_day 117 = .ok (.bipush 61, 2) := by decide +kernel
theorem dX10_day_119 : decode cX10_day 119 = .ok (.irem, 1) := by decide +kernel
theorem dX10_day_120 : decode cX10_day 120 = .ok (.iastore, 1) := by decide +kernel
theorem dX10_day_121 : decode cX10_day 121 = .ok (.aload_n 0, 1) := by decide +kernel
theorem dX10_day_122 : decode cX10_day 122 = .ok (.getfield 29, 3) := by decide +kernel
theorem dX10_day_125 : decode cX10_day 125 = .ok (.iload 9, 2) := by decide +kernel
theorem dX10_day_127 : decode cX10_day 127 = .ok (.iload 7, 2) := by decide +kernel
theorem dX10_day_129 : decode cX10_day 129 = .ok (.sipush 256, 3) := by decide +kernel
theorem dX10_day_132 : decode cX10_day 132 = .ok (.idiv, 1) := by decide +kernel
theorem dX10_day_133 : decode cX10_day 133 = .ok (.bipush 61, 2) := by decide +kernel
theorem dX10_day_135 : decode cX10_day 135 = .ok (.irem, 1) := by decide +kernel
theorem dX10_day_136 : decode cX10_day 136 = .ok (.iastore, 1) := by decide +kernel
theorem dX10_day_137 : decode cX10_day 137 = .ok (.iinc 4 1, 3) := by decide +kernel
theorem dX10_day_140 : decode cX10_day 140 = .ok (.goto (-96), 3) := by decide +kernel
theorem dX10_day_143 : decode cX10_day 143 = .ok (.aload_n 0, 1) := by decide +kernel
theorem dX10_day_144 : decode cX10_day 144 = .ok (.invokevirtual 156, 3) := by decide +kernel
theorem dX10_day_147 : decode cX10_day 147 = .ok (.iload_n 3, 1) := by decide +kernel
theorem dX10_day_148 : decode cX10_day 148 = .ok (.ifCond .ne 10, 3) := by decide +kernel
theorem dX10_day_151 : decode cX10_day 151 = .ok (.aload_n 0, 1) := by decide +kernel
theorem dX10_day_152 : decode cX10_day 152 = .ok (.invokevirtual 216, 3) := by decide +kernel
theorem dX10_day_155 : decode cX10_day 155 = .ok (.goto 7, 3) := by decide +kernel
theorem dX10_day_158 : decode cX10_day 158 = .ok (.aload_n 0, 1) := by decide +kernel
theorem dX10_day_159 : decode cX10_day 159 = .ok (.invokevirtual 219, 3) := by decide +kernel
theorem dX10_day_162 : decode cX10_day 162 = .ok (.istore 4, 2) := by decide +kernel
theorem dX10_day_164 : decode cX10_day 164 = .ok (.aload_n 0, 1) := by decide +kernel
theorem dX10_day_165 : decode cX10_day 165 = .ok (.aload_n 0, 1) := by decide +kernel
theorem dX10_day_166 : decode cX10_day 166 = .ok (.getfield 47, 3) := by decide +kernel
theorem dX10_day_169 : decode cX10_day 169 = .ok (.iconst 0, 1) := by decide +kernel
theorem dX10_day_170 : decode cX10_day 170 = .ok (.invokevirtual 125, 3) := by decide +kernel
theorem dX10_day_173 : decode cX10_day 173 = .ok (.iload 4, 2) := by decide +kernel
theorem dX10_day_175 : decode cX10_day 175 = .ok (.ireturn, 1) := by decide +kernel
theorem dX10_count_0 : decode cX10_count 0 = .ok (.iload_n 1, 1) := by decide +kernel
theorem dX10_count_1 : decode cX10_count 1 = .ok (.iconst 0, 1) := by decide +kernel
theorem dX10_count_2 : decode cX10_count 2 = .ok (.bipush 9, 2) := by decide +kernel
theorem dX10_count_4 : decode cX10_count 4 = .ok (.invokestatic 84, 3) := by decide +kernel
theorem dX10_count_7 : decode cX10_count 7 = .ok (.ifCond .ne 5, 3) := by decide +kernel
theorem dX10_count_10 : decode cX10_count 10 = .ok (.iconst (-1), 1) := by decide +kernel
theorem dX10_count_11 : decode cX10_count 11 = .ok (.ireturn, 1) := by decide +kernel
theorem dX10_count_12 : decode cX10_count 12 = .ok (.iload_n 1, 1) := by decide +kernel
theorem dX10_count_13 : decode cX10_count 13 = .ok (.tableswitch 92 0 8 #[51, 51, 58, 58, 67, 72, 77, 82, 87], 51) := by decide +kernel
theorem dX10_count_64 : decode cX10_count 64 = .ok (.aload_n 0, 1) := by decide +kernel
theorem dX10_count_65 : decode cX10_count 65 = .ok (.getfield 16, 3) := by decide +kernel
theorem dX10_count_68 : decode cX10_count 68 = .ok (.iload_n 1, 1) := by decide +kernel
theorem dX10_count_69 : decode cX10_count 69 = .ok (.iaload, 1) := by decide +kernel
theorem dX10_count_70 : decode cX10_count 70 = .ok (.ireturn, 1) := by decide +kernel
theorem dX10_count_71 : decode cX10_count 71 = .ok (.aload_n 0, 1) := by decide +kernel
theorem dX10_count_72 : decode cX10_count 72 = .ok (.getfield 20, 3) := by decide +kernel
theorem dX10_count_75 : decode cX10_count 75 = .ok (.iload_n 1, 1) := by decide +kernel
theorem dX10_count_76 : decode cX10_count 76 = .ok (.iconst 2, 1) := by decide +kernel
theorem dX10_count_77 : decode cX10_count 77 = .ok (.isub, 1) := by decide +kernel
theorem dX10_count_78 : decode cX10_count 78 = .ok (.iaload, 1) := by decide +kernel
theorem dX10_count_79 : decode cX10_count 79 = .ok (.ireturn, 1) := by decide +kernel
theorem dX10_count_80 : decode cX10_count 80 = .ok (.aload_n 0, 1) := by decide +kernel
theorem dX10_count_81 : decode cX10_count 81 = .ok (.getfield 7, 3) := by decide +kernel
theorem dX10_count_84 : decode cX10_count 84 = .ok (.ireturn, 1) := by decide +kernel
theorem dX10_count_85 : decode cX10_count 85 = .ok (.aload_n 0, 1) := by decide +kernel
theorem dX10_count_86 : decode cX10_count 86 = .ok (.getfield 13, 3) := by decide +kernel
theorem dX10_count_89 : decode cX10_count 89 = .ok (.ireturn, 1) := by decide +kernel
theorem dX10_count_90 : decode cX10_count 90 = .ok (.aload_n 0, 1) := by decide +kernel
theorem dX10_count_91 : decode cX10_count 91 = .ok (.getfield 107, 3) := by decide +kernel
theorem dX10_count_94 : decode cX10_count 94 = .ok (.ireturn, 1) := by decide +kernel
theorem dX10_count_95 : decode cX10_count 95 = .ok (.aload_n 0, 1) := by decide +kernel
theorem dX10_count_96 : decode cX10_count 96 = .ok (.getfield 128, 3) := by decide +kernel
theorem dX10_count_99 : decode cX10_count 99 = .ok (.ireturn, 1) := by decide +kernel
theorem dX10_count_100 : decode cX10_count 100 = .ok (.aload_n 0, 1) := by decide +kernel
theorem dX10_count_101 : decode cX10_count 101 = .ok (.getfield 238, 3) := by decide +kernel
theorem dX10_count_104 : decode cX10_count 104 = .ok (.ireturn, 1) := by decide +kernel
theorem dX10_count_105 : decode cX10_count 105 = .ok (.aload_n 0, 1) := by decide +kernel
theorem dX10_count_106 : decode cX10_count 106 = .ok (.invokevirtual 241, 3) := by decide +kernel
theorem dX10_count_109 : decode cX10_count 109 = .ok (.ireturn, 1) := by decide +kernel
theorem dX10_write_0 : decode cX10_write 0 = .ok (.iload_n 1, 1) := by decide +kernel
theorem dX10_write_1 : decode cX10_write 1 = .ok (.bipush 32, 2) := by decide +kernel
theorem dX10_write_3 : decode cX10_write 3 = .ok (.bipush 126, 2) := by decide +kernel
theorem dX10_write_5 : decode cX10_write 5 = .ok (.invokestatic 84, 3) := by decide +kernel
theorem dX10_write_8 : decode cX10_write 8 = .ok (.ifCond .ne 5, 3) := by decide +kernel
theorem dX10_write_11 : decode cX10_write 11 = .ok (.iconst (-1), 1) := by decide +kernel
theorem dX10_write_12 : decode cX10_write 12 = .ok (.ireturn, 1) := by decide +kernel
theorem dX10_write_13 : decode cX10_write 13 = .ok (.aload_n 0, 1) := by decide +kernel
theorem dX10_write_14 : decode cX10_write 14 = .ok (.getfield 238, 3) := by decide +kernel
theorem dX10_write_17 : decode cX10_write 17 = .ok (.sipush 200, 3) := by decide +kernel
theorem dX10_write_20 : decode cX10_write 20 = .ok (.if_icmp .ne 6, 3) := by decide +kernel
theorem dX10_write_23 : decode cX10_write 23 = .ok (.bipush (-3), 2) := by decide +kernel
theorem dX10_write_25 : decode cX10_write 25 = .ok (.ireturn, 1) := by decide +kernel
theorem dX10_write_26 : decode cX10_write 26 = .ok (.aload_n 0, 1) := by decide +kernel
theorem dX10_write_27 : decode cX10_write 27 = .ok (.getfield 68, 3) := by decide +kernel
theorem dX10_write_30 : decode cX10_write 30 = .ok (.aload_n 0, 1) := by decide +kernel
theorem dX10_write_31 : decode cX10_write 31 = .ok (.getfield 238, 3) := by decide +kernel
theorem dX10_write_34 : decode cX10_write 34 = .ok (.iload_n 1, 1) := by decide +kernel
theorem dX10_write_35 : decode cX10_write 35 = .ok (.iastore, 1) := by decide +kernel
theorem dX10_write_36 : decode cX10_write 36 = .ok (.aload_n 0, 1) := by decide +kernel
theorem dX10_write_37 : decode cX10_write 37 = .ok (.dup, 1) := by decide +kernel
theorem dX10_write_38 : decode cX10_write 38 = .ok (.getfield 238, 3) := by decide +kernel
theorem dX10_write_41 : decode cX10_write 41 = .ok (.iconst 1, 1) := by decide +kernel
theorem dX10_write_42 : decode cX10_write 42 = .ok (.iadd, 1) := by decide +kernel
theorem dX10_write_43 : decode cX10_write 43 = .ok (.putfield 238, 3) := by decide +kernel
theorem dX10_write_46 : decode cX10_write 46 = .ok (.aload_n 0, 1) := by decide +kernel
theorem dX10_write_47 : decode cX10_write 47 = .ok (.getfield 238, 3) := by decide +kernel
theorem dX10_write_50 : decode cX10_write 50 = .ok (.ireturn, 1) := by decide +kernel
theorem dX10_wipe_0 : decode cX10_wipe 0 = .ok (.aload_n 0, 1) := by decide +kernel
theorem dX10_wipe_1 : decode cX10_wipe 1 = .ok (.getfield 238, 3) := by decide +kernel
theorem dX10_wipe_4 : decode cX10_wipe 4 = .ok (.istore_n 1, 1) := by decide +kernel
theorem dX10_wipe_5 : decode cX10_wipe 5 = .ok (.aload_n 0, 1) := by decide +kernel
theorem dX10_wipe_6 : decode cX10_wipe 6 = .ok (.iconst 0, 1) := by decide +kernel
theorem dX10_wipe_7 : decode cX10_wipe 7 = .ok (.putfield 238, 3) := by decide +kernel
theorem dX10_wipe_10 : decode cX10_wipe 10 = .ok (.iload_n 1, 1) := by decide +kernel
theorem dX10_wipe_11 : decode cX10_wipe 11 = .ok (.ireturn, 1) := by decide +kernel
theorem dX10_here_0 : decode cX10_here 0 = .ok (.aload_n 0, 1) := by decide +kernel
theorem dX10_here_1 : decode cX10_here 1 = .ok (.getfield 244, 3) := by decide +kernel
theorem dX10_here_4 : decode cX10_here 4 = .ok (.aload_n 0, 1) := by decide +kernel
theorem dX10_here_5 : decode cX10_here 5 = .ok (.getfield 238, 3) := by decide +kernel
theorem dX10_here_8 : decode cX10_here 8 = .ok (.if_icmp .ge 15, 3) := by decide +kernel
theorem dX10_here_11 : decode cX10_here 11 = .ok (.aload_n 0, 1) := by decide +kernel
theorem dX10_here_12 : decode cX10_here 12 = .ok (.getfield 68, 3) := by decide +kernel
theorem dX10_here_15 : decode cX10_here 15 = .ok (.aload_n 0, 1) := by decide +kernel
theorem dX10_here_16 : decode cX10_here 16 = .ok (.getfield 244, 3) := by decide +kernel
theorem dX10_here_19 : decode cX10_here 19 = .ok (.iaload, 1) := by decide +kernel
theorem dX10_here_20 : decode cX10_here 20 = .ok (.goto 4, 3) := by decide +kernel
theorem dX10_here_23 : decode cX10_here 23 = .ok (.iconst 0, 1) := by decide +kernel
theorem dX10_here_24 : decode cX10_here 24 = .ok (.ireturn, 1) := by decide +kernel
theorem dX10_isFigure_0 : decode cX10_isFigure 0 = .ok (.aload_n 0, 1) := by decide +kernel
theorem dX10_isFigure_1 : decode cX10_isFigure 1 = .ok (.invokevirtual 247, 3) := by decide +kernel
theorem dX10_isFigure_4 : decode cX10_isFigure 4 = .ok (.bipush 48, 2) := by decide +kernel
theorem dX10_isFigure_6 : decode cX10_isFigure 6 = .ok (.bipush 57, 2) := by decide +kernel
theorem dX10_isFigure_8 : decode cX10_isFigure 8 = .ok (.invokestatic 84, 3) := by decide +kernel
theorem dX10_isFigure_11 : decode cX10_isFigure 11 = .ok (.ireturn, 1) := by decide +kernel
theorem dX10_number_0 : decode cX10_number 0 = .ok (.aload_n 0, 1) := by decide +kernel
theorem dX10_number_1 : decode cX10_number 1 = .ok (.invokevirtual 250, 3) := by decide +kernel
theorem dX10_number_4 : decode cX10_number 4 = .ok (.ifCond .ne 5, 3) := by decide +kernel
theorem dX10_number_7 : decode cX10_number 7 = .ok (.iconst 0, 1) := by decide +kernel
theorem dX10_number_8 : decode cX10_number 8 = .ok (.ireturn, 1) := by decide +kernel
theorem dX10_number_9 : decode cX10_number 9 = .ok (.aload_n 0, 1) := by decide +kernel
theorem dX10_number_10 : decode cX10_number 10 = .ok (.invokevirtual 247, 3) := by decide +kernel
theorem dX10_number_13 : decode cX10_number 13 = .ok (.bipush 48, 2) := by decide +kernel
theorem dX10_number_15 : decode cX10_number 15 = .ok (.isub, 1) := by decide +kernel
theorem dX10_number_16 : decode cX10_number 16 = .ok (.istore 4, 2) := by decide +kernel
theorem dX10_number_18 : decode cX10_number 18 = .ok (.aload_n 0, 1) := by decide +kernel
theorem dX10_number_19 : decode cX10_number 19 = .ok (.dup, 1) := by decide +kernel
theorem dX10_number_20 : decode cX10_number 20 = .ok (.getfield 244, 3) := by decide +kernel
theorem dX10_number_23 : decode cX10_number 23 = .ok (.iconst 1, 1) := by decide +kernel
theorem dX10_number_24 : decode cX10_number 24 = .ok (.iadd, 1) := by decide +kernel
theorem dX10_number_25 : decode cX10_number 25 = .ok (.putfield 244, 3) := by decide +kernel
theorem dX10_number_28 : decode cX10_number 28 = .ok (.aload_n 0, 1) := by decide +kernel
theorem dX10_number_29 : decode cX10_number 29 = .ok (.invokevirtual 250, 3) := by decide +kernel
theorem dX10_number_32 : decode cX10_number 32 = .ok (.ifCond .eq 28, 3) := by decide +kernel
theorem dX10_number_35 : decode cX10_number 35 = .ok (.bipush 10, 2) := by decide +kernel
theorem dX10_number_37 : decode cX10_number 37 = .ok (.iload 4, 2) := by decide +kernel
theorem dX10_number_39 : decode cX10_number 39 = .ok (.imul, 1) := by decide +kernel
theorem dX10_number_40 : decode cX10_number 40 = .ok (.aload_n 0, 1) := by decide +kernel
theorem dX10_number_41 : decode cX10_number 41 = .ok (.invokevirtual 247, 3) := by decide +kernel
theorem dX10_number_44 : decode cX10_number 44 = .ok (.iadd, 1) := by decide +kernel
theorem dX10_number_45 : decode cX10_number 45 = .ok (.bipush 48, 2) := by decide +kernel
theorem dX10_number_47 : decode cX10_number 47 = .ok (.isub, 1) := by decide +kernel
theorem dX10_number_48 : decode cX10_number 48 = .ok (.istore 4, 2) := by decide +kernel
theorem dX10_number_50 : decode cX10_number 50 = .ok (.aload_n 0, 1) := by decide +kernel
theorem dX10_number_51 : decode cX10_number 51 = .ok (.dup, 1) := by decide +kernel
theorem dX10_number_52 : decode cX10_number 52 = .ok (.getfield 244, 3) := by decide +kernel
theorem dX10_number_55 : decode cX10_number 55 = .ok (.iconst 1, 1) := by decide +kernel
theorem dX10_number_56 : decode cX10_number 56 = .ok (.iadd, 1) := by decide +kernel
theorem dX10_number_57 : decode cX10_number 57 = .ok (.putfield 244, 3) := by decide +kernel
theorem dX10_number_60 : decode cX10_number 60 = .ok (.aload_n 0, 1) := by decide +kernel
theorem dX10_number_61 : decode cX10_number 61 = .ok (.iload 4, 2) := by decide +kernel
theorem dX10_number_63 : decode cX10_number 63 = .ok (.putfield 253, 3) := by decide +kernel
theorem dX10_number_66 : decode cX10_number 66 = .ok (.aload_n 0, 1) := by decide +kernel
theorem dX10_number_67 : decode cX10_number 67 = .ok (.invokevirtual 247, 3) := by decide +kernel
theorem dX10_number_70 : decode cX10_number 70 = .ok (.iload_n 3, 1) := by decide +kernel
theorem dX10_number_71 : decode cX10_number 71 = .ok (.if_icmp .ne 13, 3) := by decide +kernel
theorem dX10_number_74 : decode cX10_number 74 = .ok (.iload 4, 2) := by decide +kernel
theorem dX10_number_76 : decode cX10_number 76 = .ok (.iload_n 1, 1) := by decide +kernel
theorem dX10_number_77 : decode cX10_number 77 = .ok (.iload_n 2, 1) := by decide +kernel
theorem dX10_number_78 : decode cX10_number 78 = .ok (.invokestatic 84, 3) := by decide +kernel
theorem dX10_number_81 : decode cX10_number 81 = .ok (.ifCond .ne 5, 3) := by decide +kernel
theorem dX10_number_84 : decode cX10_number 84 = .ok (.iconst 0, 1) := by decide +kernel
theorem dX10_number_85 : decode cX10_number 85 = .ok (.ireturn, 1) := by decide +kernel
theorem dX10_number_86 : decode cX10_number 86 = .ok (.aload_n 0, 1) := by decide +kernel
theorem dX10_number_87 : decode cX10_number 87 = .ok (.dup, 1) := by decide +kernel
theorem dX10_number_88 : decode cX10_number 88 = .ok (.getfield 244, 3) := by decide +kernel
theorem dX10_number_91 : decode cX10_number 91 = .ok (.iconst 1, 1) := by decide +kernel
theorem dX10_number_92 : decode cX10_number 92 = .ok (.iadd, 1) := by decide +kernel
theorem dX10_number_93 : decode cX10_number 93 = .ok (.putfield 244, 3) := by decide +kernel
theorem dX10_number_96 : decode cX10_number 96 = .ok (.iconst 1, 1) := by decide +kernel
theorem dX10_number_97 : decode cX10_number 97 = .ok (.ireturn, 1) := by decide +kernel
theorem dX10_readsMeeting_0 : decode cX10_readsMeeting 0 = .ok (.aload_n 0, 1) := by decide +kernel
theorem dX10_readsMeeting_1 : decode cX10_readsMeeting 1 = .ok (.getfield 16, 3) := by decide +kernel
theorem dX10_readsMeeting_4 : decode cX10_readsMeeting 4 = .ok (.iload_n 1, 1) := by decide +kernel
theorem dX10_readsMeeting_5 : decode cX10_readsMeeting 5 = .ok (.iaload, 1) := by decide +kernel
theorem dX10_readsMeeting_6 : decode cX10_readsMeeting 6 = .ok (.bipush 8, 2) := by decide +kernel
theorem dX10_readsMeeting_8 : decode cX10_readsMeeting 8 = .ok (.if_icmp .eq 14, 3) := by decide +kernel
theorem dX10_readsMeeting_11 : decode cX10_readsMeeting 11 = .ok (.aload_n 0, 1) := by decide +kernel
theorem dX10_readsMeeting_12 : decode cX10_readsMeeting 12 = .ok (.iconst 0, 1) := by decide +kernel
theorem dX10_readsMeeting_13 : decode cX10_readsMeeting 13 = .ok (.iconst 3, 1) := by decide +kernel
theorem dX10_readsMeeting_14 : decode cX10_readsMeeting 14 = .ok (.bipush 44, 2) := by decide +kernel
theorem dX10_readsMeeting_16 : decode cX10_readsMeeting 16 = .ok (.invokevirtual 256, 3) := by decide +kernel
theorem dX10_readsMeeting_19 : decode cX10_readsMeeting 19 = .ok (.ifCond .ne 5, 3) := by decide +kernel
theorem dX10_readsMeeting_22 : decode cX10_readsMeeting 22 = .ok (.iconst 0, 1) := by decide +kernel
theorem dX10_readsMeeting_23 : decode cX10_readsMeeting 23 = .ok (.ireturn, 1) := by decide +kernel
theorem dX10_readsMeeting_24 : decode cX10_readsMeeting 24 = .ok (.aload_n 0, 1) := by decide +kernel
theorem dX10_readsMeeting_25 : decode cX10_readsMeeting 25 = .ok (.getfield 253, 3) := by decide +kernel
theorem dX10_readsMeeting_28 : decode cX10_readsMeeting 28 = .ok (.istore_n 2, 1) := by decide +kernel
theorem dX10_readsMeeting_29 : decode cX10_readsMeeting 29 = .ok (.aload_n 0, 1) := by decide +kernel
theorem dX10_readsMeeting_30 : decode cX10_readsMeeting 30 = .ok (.iconst 0, 1) := by decide +kernel
theorem dX10_readsMeeting_31 : decode cX10_readsMeeting 31 = .ok (.bipush 60, 2) := by decide +kernel
theorem dX10_readsMeeting_33 : decode cX10_readsMeeting 33 = .ok (.bipush 44, 2) := by decide +kernel
theorem dX10_readsMeeting_35 : decode cX10_readsMeeting 35 = .ok (.invokevirtual 256, 3) := by decide +kernel
theorem dX10_readsMeeting_38 : decode cX10_readsMeeting 38 = .ok (.ifCond .ne 5, 3) := by decide +kernel
theorem dX10_readsMeeting_41 : decode cX10_readsMeeting 41 = .ok (.iconst 0, 1) := by decide +kernel
theorem dX10_readsMeeting_42 : decode cX10_readsMeeting 42 = .ok (.ireturn, 1) := by decide +kernel
theorem dX10_readsMeeting_43 : decode cX10_readsMeeting 43 = .ok (.aload_n 0, 1) := by decide +kernel
theorem dX10_readsMeeting_44 : decode cX10_readsMeeting 44 = .ok (.getfield 253, 3) := by decide +kernel
theorem dX10_readsMeeting_47 : decode cX10_readsMeeting 47 = .ok (.istore_n 3, 1) := by decide +kernel
theorem dX10_readsMeeting_48 : decode cX10_readsMeeting 48 = .ok (.aload_n 0, 1) := by decide +kernel
theorem dX10_readsMeeting_49 : decode cX10_readsMeeting 49 = .ok (.iconst 0, 1) := by decide +kernel
theorem dX10_readsMeeting_50 : decode cX10_readsMeeting 50 = .ok (.bipush 60, 2) := by decide +kernel
theorem dX10_readsMeeting_52 : decode cX10_readsMeeting 52 = .ok (.bipush 59, 2) := by decide +kernel
theorem dX10_readsMeeting_54 : decode cX10_readsMeeting 54 = .ok (.invokevirtual 256, 3) := by decide +kernel
theorem dX10_readsMeeting_57 : decode cX10_readsMeeting 57 = .ok (.ifCond .ne 5, 3) := by decide +kernel
theorem dX10_readsMeeting_60 : decode cX10_readsMeeting 60 = .ok (.iconst 0, 1) := by decide +kernel
theorem dX10_readsMeeting_61 : decode cX10_readsMeeting 61 = .ok (.ireturn, 1) := by decide +kernel
theorem dX10_readsMeeting_62 : decode cX10_readsMeeting 62 = .ok (.aload_n 0, 1) := by decide +kernel
theorem dX10_readsMeeting_63 : decode cX10_readsMeeting 63 = .ok (.iload_n 1, 1) := by decide +kernel
theorem dX10_readsMeeting_64 : decode cX10_readsMeeting 64 = .ok (.iload_n 2, 1) := by decide +kernel
theorem dX10_readsMeeting_65 : decode cX10_readsMeeting 65 = .ok (.iload_n 3, 1) := by decide +kernel
theorem dX10_readsMeeting_66 : decode cX10_readsMeeting 66 = .ok (.aload_n 0, 1) := by decide +kernel
theorem dX10_readsMeeting_67 : decode cX10_readsMeeting 67 = .ok (.getfield 253, 3) := by decide +kernel
theorem dX10_readsMeeting_70 : decode cX10_readsMeeting 70 = .ok (.invokevirtual 74, 3) := by decide +kernel
theorem dX10_readsMeeting_73 : decode cX10_readsMeeting 73 = .ok (.iconst 1, 1) := by decide +kernel
theorem dX10_readsMeeting_74 : decode cX10_readsMeeting 74 = .ok (.ireturn, 1) := by decide +kernel
theorem dX10_readsStreet_0 : decode cX10_readsStreet 0 = .ok (.aload_n 0, 1) := by decide +kernel
theorem dX10_readsStreet_1 : decode cX10_readsStreet 1 = .ok (.getfield 20, 3) := by decide +kernel
theorem dX10_readsStreet_4 : decode cX10_readsStreet 4 = .ok (.iload_n 1, 1) := by decide +kernel
theorem dX10_readsStreet_5 : decode cX10_readsStreet 5 = .ok (.iaload, 1) := by decide +kernel
theorem dX10_readsStreet_6 : decode cX10_readsStreet 6 = .ok (.bipush 8, 2) := by decide +kernel
theorem dX10_readsStreet_8 : decode cX10_readsStreet 8 = .ok (.if_icmp .eq 21, 3) := by decide +kernel
theorem dX10_readsStreet_11 : decode cX10_readsStreet 11 = .ok (.aload_n 0, 1) := by decide +kernel
theorem dX10_readsStreet_12 : decode cX10_readsStreet 12 = .ok (.iconst 0, 1) := by decide +kernel
theorem dX10_readsStreet_13 : decode cX10_readsStreet 13 = .ok (.aload_n 0, 1) := by decide +kernel
theorem dX10_readsStreet_14 : decode cX10_readsStreet 14 = .ok (.getfield 16, 3) := by decide +kernel
theorem dX10_readsStreet_17 : decode cX10_readsStreet 17 = .ok (.iload_n 1, 1) := by decide +kernel
theorem dX10_readsStreet_18 : decode cX10_readsStreet 18 = .ok (.iaload, 1) := by decide +kernel
theorem dX10_readsStreet_19 : decode cX10_readsStreet 19 = .ok (.iconst 1, 1) := by decide +kernel
theorem dX10_readsStreet_20 : decode cX10_readsStreet 20 = .ok (.isub, 1) := by decide +kernel
theorem dX10_readsStreet_21 : decode cX10_readsStreet 21 = .ok (.bipush 44, 2) := by decide +kernel
theorem dX10_readsStreet_23 : decode cX10_readsStreet 23 = .ok (.invokevirtual 256, 3) := by decide +kernel
theorem dX10_readsStreet_26 : decode cX10_readsStreet 26 = .ok (.ifCond .ne 5, 3) := by decide +kernel
theorem dX10_readsStreet_29 : decode cX10_readsStreet 29 = .ok (.iconst 0, 1) := by decide +kernel
theorem dX10_readsStreet_30 : decode cX10_readsStreet 30 = .ok (.ireturn, 1) := by decide +kernel
theorem dX10_readsStreet_31 : decode cX10_readsStreet 31 = .ok (.aload_n 0, 1) := by decide +kernel
theorem dX10_readsStreet_32 : decode cX10_readsStreet 32 = .ok (.getfield 253, 3) := by decide +kernel
theorem dX10_readsStreet_35 : decode cX10_readsStreet 35 = .ok (.istore_n 2, 1) := by decide +kernel
theorem dX10_readsStreet_36 : decode cX10_readsStreet 36 = .ok (.aload_n 0, 1) := by decide +kernel
theorem dX10_readsStreet_37 : decode cX10_readsStreet 37 = .ok (.iconst 0, 1) := by decide +kernel
theorem dX10_readsStreet_38 : decode cX10_readsStreet 38 = .ok (.aload_n 0, 1) := by decide +kernel
theorem dX10_readsStreet_39 : decode cX10_readsStreet 39 = .ok (.getfield 16, 3) := by decide +kernel
theorem dX10_readsStreet_42 : decode cX10_readsStreet 42 = .ok (.iload_n 1, 1) := by decide +kernel
theorem dX10_readsStreet_43 : decode cX10_readsStreet 43 = .ok (.iaload, 1) := by decide +kernel
theorem dX10_readsStreet_44 : decode cX10_readsStreet 44 = .ok (.iconst 1, 1) := by decide +kernel
theorem dX10_readsStreet_45 : decode cX10_readsStreet 45 = .ok (.isub, 1) := by decide +kernel
theorem dX10_readsStreet_46 : decode cX10_readsStreet 46 = .ok (.bipush 44, 2) := by decide +kernel
theorem dX10_readsStreet_48 : decode cX10_readsStreet 48 = .ok (.invokevirtual 256, 3) := by decide +kernel
theorem dX10_readsStreet_51 : decode cX10_readsStreet 51 = .ok (.ifCond .ne 5, 3) := by decide +kernel
theorem dX10_readsStreet_54 : decode cX10_readsStreet 54 = .ok (.iconst 0, 1) := by decide +kernel
theorem dX10_readsStreet_55 : decode cX10_readsStreet 55 = .ok (.ireturn, 1) := by decide +kernel
theorem dX10_readsStreet_56 : decode cX10_readsStreet 56 = .ok (.aload_n 0, 1) := by decide +kernel
theorem dX10_readsStreet_57 : decode cX10_readsStreet 57 = .ok (.getfield 253, 3) := by decide +kernel
theorem dX10_readsStreet_60 : decode cX10_readsStreet 60 = .ok (.istore_n 3, 1) := by decide +kernel
theorem dX10_readsStreet_61 : decode cX10_readsStreet 61 = .ok (.iload_n 2, 1) := by decide +kernel
theorem dX10_readsStreet_62 : decode cX10_readsStreet 62 = .ok (.iload_n 3, 1) := by decide +kernel
theorem dX10_readsStreet_63 : decode cX10_readsStreet 63 = .ok (.if_icmp .eq 27, 3) := by decide +kernel
theorem dX10_readsStreet_66 : decode cX10_readsStreet 66 = .ok (.aload_n 0, 1) := by decide +kernel
theorem dX10_readsStreet_67 : decode cX10_readsStreet 67 = .ok (.iload_n 1, 1) := by decide +kernel
theorem dX10_readsStreet_68 : decode cX10_readsStreet 68 = .ok (.iload_n 2, 1) := by decide +kernel
theorem dX10_readsStreet_69 : decode cX10_readsStreet 69 = .ok (.iload_n 3, 1) := by decide +kernel
theorem dX10_readsStreet_70 : decode cX10_readsStreet 70 = .ok (.invokevirtual 121, 3) := by decide +kernel
theorem dX10_readsStreet_73 : decode cX10_readsStreet 73 = .ok (.bipush (-4), 2) := by decide +kernel
theorem dX10_readsStreet_75 : decode cX10_readsStreet 75 = .ok (.if_icmp .ne 15, 3) := by decide +kernel
theorem dX10_readsStreet_78 : decode cX10_readsStreet 78 = .ok (.aload_n 0, 1) := by decide +kernel
theorem dX10_readsStreet_79 : decode cX10_readsStreet 79 = .ok (.iconst 0, 1) := by decide +kernel
theorem dX10_readsStreet_80 : decode cX10_readsStreet 80 = .ok (.bipush 9, 2) := by decide +kernel
theorem dX10_readsStreet_82 : decode cX10_readsStreet 82 = .ok (.bipush 59, 2) := by decide +kernel
theorem dX10_readsStreet_84 : decode cX10_readsStreet 84 = .ok (.invokevirtual 256, 3) := by decide +kernel
theorem dX10_readsStreet_87 : decode cX10_readsStreet 87 = .ok (.ifCond .ne 5, 3) := by decide +kernel
theorem dX10_readsStreet_90 : decode cX10_readsStreet 90 = .ok (.iconst 0, 1) := by decide +kernel
theorem dX10_readsStreet_91 : decode cX10_readsStreet 91 = .ok (.ireturn, 1) := by decide +kernel
theorem dX10_readsStreet_92 : decode cX10_readsStreet 92 = .ok (.aload_n 0, 1) := by decide +kernel
theorem dX10_readsStreet_93 : decode cX10_readsStreet 93 = .ok (.iload_n 1, 1) := by decide +kernel
theorem dX10_readsStreet_94 : decode cX10_readsStreet 94 = .ok (.iload_n 2, 1) := by decide +kernel
theorem dX10_readsStreet_95 : decode cX10_readsStreet 95 = .ok (.iload_n 3, 1) := by decide +kernel
theorem dX10_readsStreet_96 : decode cX10_readsStreet 96 = .ok (.aload_n 0, 1) := by decide +kernel
theorem dX10_readsStreet_97 : decode cX10_readsStreet 97 = .ok (.getfield 253, 3) := by decide +kernel
theorem dX10_readsStreet_100 : decode cX10_readsStreet 100 = .ok (.invokevirtual 78, 3) := by decide +kernel
theorem dX10_readsStreet_103 : decode cX10_readsStreet 103 = .ok (.iconst 1, 1) := by decide +kernel
theorem dX10_readsStreet_104 : decode cX10_readsStreet 104 = .ok (.ireturn, 1) := by decide +kernel
theorem dX10_readsNear_0 : decode cX10_readsNear 0 = .ok (.aload_n 0, 1) := by decide +kernel
theorem dX10_readsNear_1 : decode cX10_readsNear 1 = .ok (.iconst 1, 1) := by decide +kernel
theorem dX10_readsNear_2 : decode cX10_readsNear 2 = .ok (.bipush 20, 2) := by decide +kernel
theorem dX10_readsNear_4 : decode cX10_readsNear 4 = .ok (.bipush 59, 2) := by decide +kernel
theorem dX10_readsNear_6 : decode cX10_readsNear 6 = .ok (.invokevirtual 256, 3) := by decide +kernel
theorem dX10_readsNear_9 : decode cX10_readsNear 9 = .ok (.ifCond .ne 5, 3) := by decide +kernel
theorem dX10_readsNear_12 : decode cX10_readsNear 12 = .ok (.iconst 0, 1) := by decide +kernel
theorem dX10_readsNear_13 : decode cX10_readsNear 13 = .ok (.ireturn, 1) := by decide +kernel
theorem dX10_readsNear_14 : decode cX10_readsNear 14 = .ok (.aload_n 0, 1) := by decide +kernel
theorem dX10_readsNear_15 : decode cX10_readsNear 15 = .ok (.aload_n 0, 1) := by decide +kernel
theorem dX10_readsNear_16 : decode cX10_readsNear 16 = .ok (.getfield 253, 3) := by decide +kernel
theorem dX10_readsNear_19 : decode cX10_readsNear 19 = .ok (.putfield 7, 3) := by decide +kernel
theorem dX10_readsNear_22 : decode cX10_readsNear 22 = .ok (.iconst 1, 1) := by decide +kernel
theorem dX10_readsNear_23 : decode cX10_readsNear 23 = .ok (.ireturn, 1) := by decide +kernel
theorem dX10_readsRounds_0 : decode cX10_readsRounds 0 = .ok (.aload_n 0, 1) := by decide +kernel
theorem dX10_readsRounds_1 : decode cX10_readsRounds 1 = .ok (.iconst 0, 1) := by decide +kernel
theorem dX10_readsRounds_2 : decode cX10_readsRounds 2 = .ok (.iconst 3, 1) := by decide +kernel
theorem dX10_readsRounds_3 : decode cX10_readsRounds 3 = .ok (.bipush 59, 2) := by decide +kernel
theorem dX10_readsRounds_5 : decode cX10_readsRounds 5 = .ok (.invokevirtual 256, 3) := by decide +kernel
theorem dX10_readsRounds_8 : decode cX10_readsRounds 8 = .ok (.ifCond .ne 5, 3) := by decide +kernel
theorem dX10_readsRounds_11 : decode cX10_readsRounds 11 = .ok (.iconst 0, 1) := by decide +kernel
theorem dX10_readsRounds_12 : decode cX10_readsRounds 12 = .ok (.ireturn, 1) := by decide +kernel
theorem dX10_readsRounds_13 : decode cX10_readsRounds 13 = .ok (.aload_n 0, 1) := by decide +kernel
theorem dX10_readsRounds_14 : decode cX10_readsRounds 14 = .ok (.aload_n 0, 1) := by decide +kernel
theorem dX10_readsRounds_15 : decode cX10_readsRounds 15 = .ok (.getfield 253, 3) := by decide +kernel
theorem dX10_readsRounds_18 : decode cX10_readsRounds 18 = .ok (.putfield 13, 3) := by decide +kernel
theorem dX10_readsRounds_21 : decode cX10_readsRounds 21 = .ok (.iconst 1, 1) := by decide +kernel
theorem dX10_readsRounds_22 : decode cX10_readsRounds 22 = .ok (.ireturn, 1) := by decide +kernel
theorem dX10_readsItem_0 : decode cX10_readsItem 0 = .ok (.aload_n 0, 1) := by decide +kernel
theorem dX10_readsItem_1 : decode cX10_readsItem 1 = .ok (.invokevirtual 247, 3) := by decide +kernel
theorem dX10_readsItem_4 : decode cX10_readsItem 4 = .ok (.istore_n 1, 1) := by decide +kernel
theorem dX10_readsItem_5 : decode cX10_readsItem 5 = .ok (.aload_n 0, 1) := by decide +kernel
theorem dX10_readsItem_6 : decode cX10_readsItem 6 = .ok (.dup, 1) := by decide +kernel
theorem dX10_readsItem_7 : decode cX10_readsItem 7 = .ok (.getfield 244, 3) := by decide +kernel
theorem dX10_readsItem_10 : decode cX10_readsItem 10 = .ok (.iconst 1, 1) := by decide +kernel
theorem dX10_readsItem_11 : decode cX10_readsItem 11 = .ok (.iadd, 1) := by decide +kernel
theorem dX10_readsItem_12 : decode cX10_readsItem 12 = .ok (.putfield 244, 3) := by decide +kernel
theorem dX10_readsItem_15 : decode cX10_readsItem 15 = .ok (.iload_n 1, 1) := by decide +kernel
theorem dX10_readsItem_16 : decode cX10_readsItem 16 = .ok (.lookupswitch 80 #[(97, 62), (98, 68), (110, 57), (114, 52), (115, 74)], 52) := by decide +kernel
theorem dX10_readsItem_68 : decode cX10_readsItem 68 = .ok (.aload_n 0, 1) := by decide +kernel
theorem dX10_readsItem_69 : decode cX10_readsItem 69 = .ok (.invokevirtual 259, 3) := by decide +kernel
theorem dX10_readsItem_72 : decode cX10_readsItem 72 = .ok (.ireturn, 1) := by decide +kernel
theorem dX10_readsItem_73 : decode cX10_readsItem 73 = .ok (.aload_n 0, 1) := by decide +kernel
theorem dX10_readsItem_74 : decode cX10_readsItem 74 = .ok (.invokevirtual 262, 3) := by decide +kernel
theorem dX10_readsItem_77 : decode cX10_readsItem 77 = .ok (.ireturn, 1) := by decide +kernel
theorem dX10_readsItem_78 : decode cX10_readsItem 78 = .ok (.aload_n 0, 1) := by decide +kernel
theorem dX10_readsItem_79 : decode cX10_readsItem 79 = .ok (.iconst 0, 1) := by decide +kernel
theorem dX10_readsItem_80 : decode cX10_readsItem 80 = .ok (.invokevirtual 265, 3) := by decide +kernel
theorem dX10_readsItem_83 : decode cX10_readsItem 83 = .ok (.ireturn, 1) := by decide +kernel
theorem dX10_readsItem_84 : decode cX10_readsItem 84 = .ok (.aload_n 0, 1) := by decide +kernel
theorem dX10_readsItem_85 : decode cX10_readsItem 85 = .ok (.iconst 1, 1) := by decide +kernel
theorem dX10_readsItem_86 : decode cX10_readsItem 86 = .ok (.invokevirtual 265, 3) := by decide +kernel
theorem dX10_readsItem_89 : decode cX10_readsItem 89 = .ok (.ireturn, 1) := by decide +kernel
theorem dX10_readsItem_90 : decode cX10_readsItem 90 = .ok (.aload_n 0, 1) := by decide +kernel
theorem dX10_readsItem_91 : decode cX10_readsItem 91 = .ok (.iconst 0, 1) := by decide +kernel
theorem dX10_readsItem_92 : decode cX10_readsItem 92 = .ok (.invokevirtual 268, 3) := by decide +kernel
theorem dX10_readsItem_95 : decode cX10_readsItem 95 = .ok (.ireturn, 1) := by decide +kernel
theorem dX10_readsItem_96 : decode cX10_readsItem 96 = .ok (.iload_n 1, 1) := by decide +kernel
theorem dX10_readsItem_97 : decode cX10_readsItem 97 = .ok (.bipush 116, 2) := by decide +kernel
theorem dX10_readsItem_99 : decode cX10_readsItem 99 = .ok (.if_icmp .ne 15, 3) := by decide +kernel
theorem dX10_readsItem_102 : decode cX10_readsItem 102 = .ok (.aload_n 0, 1) := by decide +kernel
theorem dX10_readsItem_103 : decode cX10_readsItem 103 = .ok (.iconst 1, 1) := by decide +kernel
theorem dX10_readsItem_104 : decode cX10_readsItem 104 = .ok (.invokevirtual 268, 3) := by decide +kernel
theorem dX10_readsItem_107 : decode cX10_readsItem 107 = .ok (.ifCond .eq 7, 3) := by decide +kernel
theorem dX10_readsItem_110 : decode cX10_readsItem 110 = .ok (.iconst 1, 1) := by decide +kernel
theorem dX10_readsItem_111 : decode cX10_readsItem 111 = .ok (.goto 4, 3) := by decide +kernel
theorem dX10_readsItem_114 : decode cX10_readsItem 114 = .ok (.iconst 0, 1) := by decide +kernel
theorem dX10_readsItem_115 : decode cX10_readsItem 115 = .ok (.ireturn, 1) := by decide +kernel
theorem dX10_readsAll_0 : decode cX10_readsAll 0 = .ok (.aload_n 0, 1) := by decide +kernel
theorem dX10_readsAll_1 : decode cX10_readsAll 1 = .ok (.iconst 0, 1) := by decide +kernel
theorem dX10_readsAll_2 : decode cX10_readsAll 2 = .ok (.putfield 244, 3) := by decide +kernel
theorem dX10_readsAll_5 : decode cX10_readsAll 5 = .ok (.aload_n 0, 1) := by decide +kernel
theorem dX10_readsAll_6 : decode cX10_readsAll 6 = .ok (.bipush 10, 2) := by decide +kernel
theorem dX10_readsAll_8 : decode cX10_readsAll 8 = .ok (.putfield 7, 3) := by decide +kernel
theorem dX10_readsAll_11 : decode cX10_readsAll 11 = .ok (.aload_n 0, 1) := by decide +kernel
theorem dX10_readsAll_12 : decode cX10_readsAll 12 = .ok (.iconst 2, 1) := by decide +kernel
theorem dX10_readsAll_13 : decode cX10_readsAll 13 = .ok (.putfield 13, 3) := by decide +kernel
theorem dX10_readsAll_16 : decode cX10_readsAll 16 = .ok (.iconst 0, 1) := by decide +kernel
theorem dX10_readsAll_17 : decode cX10_readsAll 17 = .ok (.istore_n 1, 1) := by decide +kernel
theorem dX10_readsAll_18 : decode cX10_readsAll 18 = .ok (.iload_n 1, 1) := by decide +kernel
theorem dX10_readsAll_19 : decode cX10_readsAll 19 = .ok (.iconst 2, 1) := by decide +kernel
theorem dX10_readsAll_20 : decode cX10_readsAll 20 = .ok (.if_icmp .ge 23, 3) := by decide +kernel
theorem dX10_readsAll_23 : decode cX10_readsAll 23 = .ok (.aload_n 0, 1) := by decide +kernel
theorem dX10_readsAll_24 : decode cX10_readsAll 24 = .ok (.getfield 16, 3) := by decide +kernel
theorem dX10_readsAll_27 : decode cX10_readsAll 27 = .ok (.iload_n 1, 1) := by decide +kernel
theorem dX10_readsAll_28 : decode cX10_readsAll 28 = .ok (.iconst 0, 1) := by decide +kernel
theorem dX10_readsAll_29 : decode cX10_readsAll 29 = .ok (.iastore, 1) := by decide +kernel
theorem dX10_readsAll_30 : decode cX10_readsAll 30 = .ok (.aload_n 0, 1) := by decide +kernel
theorem dX10_readsAll_31 : decode cX10_readsAll 31 = .ok (.getfield 20, 3) := by decide +kernel
theorem dX10_readsAll_34 : decode cX10_readsAll 34 = .ok (.iload_n 1, 1) := by decide +kernel
theorem dX10_readsAll_35 : decode cX10_readsAll 35 = .ok (.iconst 0, 1) := by decide +kernel
theorem dX10_readsAll_36 : decode cX10_readsAll 36 = .ok (.iastore, 1) := by decide +kernel
theorem dX10_readsAll_37 : decode cX10_readsAll 37 = .ok (.iinc 1 1, 3) := by decide +kernel
theorem dX10_readsAll_40 : decode cX10_readsAll 40 = .ok (.goto (-22), 3) := by decide +kernel
theorem dX10_readsAll_43 : decode cX10_readsAll 43 = .ok (.aload_n 0, 1) := by decide +kernel
theorem dX10_readsAll_44 : decode cX10_readsAll 44 = .ok (.getfield 244, 3) := by decide +kernel
theorem dX10_readsAll_47 : decode cX10_readsAll 47 = .ok (.aload_n 0, 1) := by decide +kernel
theorem dX10_readsAll_48 : decode cX10_readsAll 48 = .ok (.getfield 238, 3) := by decide +kernel
theorem dX10_readsAll_51 : decode cX10_readsAll 51 = .ok (.if_icmp .ge 20, 3) := by decide +kernel
theorem dX10_readsAll_54 : decode cX10_readsAll 54 = .ok (.aload_n 0, 1) := by decide +kernel
theorem dX10_readsAll_55 : decode cX10_readsAll 55 = .ok (.getfield 244, 3) := by decide +kernel
theorem dX10_readsAll_58 : decode cX10_readsAll 58 = .ok (.istore_n 1, 1) := by decide +kernel
theorem dX10_readsAll_59 : decode cX10_readsAll 59 = .ok (.aload_n 0, 1) := by decide +kernel
theorem dX10_readsAll_60 : decode cX10_readsAll 60 = .ok (.invokevirtual 271, 3) := by decide +kernel
theorem dX10_readsAll_63 : decode cX10_readsAll 63 = .ok (.ifCond .ne 5, 3) := by decide +kernel
theorem dX10_readsAll_66 : decode cX10_readsAll 66 = .ok (.iload_n 1, 1) := by decide +kernel
theorem dX10_readsAll_67 : decode cX10_readsAll 67 = .ok (.ireturn, 1) := by decide +kernel
theorem dX10_readsAll_68 : decode cX10_readsAll 68 = .ok (.goto (-25), 3) := by decide +kernel
theorem dX10_readsAll_71 : decode cX10_readsAll 71 = .ok (.bipush (-4), 2) := by decide +kernel
theorem dX10_readsAll_73 : decode cX10_readsAll 73 = .ok (.ireturn, 1) := by decide +kernel
theorem dX10_fault_0 : decode cX10_fault 0 = .ok (.aload_n 0, 1) := by decide +kernel
theorem dX10_fault_1 : decode cX10_fault 1 = .ok (.aload_n 0, 1) := by decide +kernel
theorem dX10_fault_2 : decode cX10_fault 2 = .ok (.getfield 71, 3) := by decide +kernel
theorem dX10_fault_5 : decode cX10_fault 5 = .ok (.iconst 0, 1) := by decide +kernel
theorem dX10_fault_6 : decode cX10_fault 6 = .ok (.invokevirtual 110, 3) := by decide +kernel
theorem dX10_fault_9 : decode cX10_fault 9 = .ok (.aload_n 0, 1) := by decide +kernel
theorem dX10_fault_10 : decode cX10_fault 10 = .ok (.invokevirtual 274, 3) := by decide +kernel
theorem dX10_fault_13 : decode cX10_fault 13 = .ok (.istore_n 1, 1) := by decide +kernel
theorem dX10_fault_14 : decode cX10_fault 14 = .ok (.aload_n 0, 1) := by decide +kernel
theorem dX10_fault_15 : decode cX10_fault 15 = .ok (.aload_n 0, 1) := by decide +kernel
theorem dX10_fault_16 : decode cX10_fault 16 = .ok (.getfield 71, 3) := by decide +kernel
theorem dX10_fault_19 : decode cX10_fault 19 = .ok (.iconst 0, 1) := by decide +kernel
theorem dX10_fault_20 : decode cX10_fault 20 = .ok (.invokevirtual 125, 3) := by decide +kernel
theorem dX10_fault_23 : decode cX10_fault 23 = .ok (.iload_n 1, 1) := by decide +kernel
theorem dX10_fault_24 : decode cX10_fault 24 = .ok (.ireturn, 1) := by decide +kernel
theorem dX10_lay_0 : decode cX10_lay 0 = .ok (.aload_n 0, 1) := by decide +kernel
theorem dX10_lay_1 : decode cX10_lay 1 = .ok (.aload_n 0, 1) := by decide +kernel
theorem dX10_lay_2 : decode cX10_lay 2 = .ok (.getfield 71, 3) := by decide +kernel
theorem dX10_lay_5 : decode cX10_lay 5 = .ok (.iconst 0, 1) := by decide +kernel
theorem dX10_lay_6 : decode cX10_lay 6 = .ok (.invokevirtual 110, 3) := by decide +kernel
theorem dX10_lay_9 : decode cX10_lay 9 = .ok (.aload_n 0, 1) := by decide +kernel
theorem dX10_lay_10 : decode cX10_lay 10 = .ok (.invokevirtual 274, 3) := by decide +kernel
theorem dX10_lay_13 : decode cX10_lay 13 = .ok (.bipush (-4), 2) := by decide +kernel
theorem dX10_lay_15 : decode cX10_lay 15 = .ok (.if_icmp .ne 21, 3) := by decide +kernel
theorem dX10_lay_18 : decode cX10_lay 18 = .ok (.aload_n 0, 1) := by decide +kernel
theorem dX10_lay_19 : decode cX10_lay 19 = .ok (.getfield 16, 3) := by decide +kernel
theorem dX10_lay_22 : decode cX10_lay 22 = .ok (.iconst 0, 1) := by decide +kernel
theorem dX10_lay_23 : decode cX10_lay 23 = .ok (.iaload, 1) := by decide +kernel
theorem dX10_lay_24 : decode cX10_lay 24 = .ok (.ifCond .eq 12, 3) := by decide +kernel
theorem dX10_lay_27 : decode cX10_lay 27 = .ok (.aload_n 0, 1) := by decide +kernel
theorem dX10_lay_28 : decode cX10_lay 28 = .ok (.getfield 16, 3) := by decide +kernel
theorem dX10_lay_31 : decode cX10_lay 31 = .ok (.iconst 1, 1) := by decide +kernel
theorem dX10_lay_32 : decode cX10_lay 32 = .ok (.iaload, 1) := by decide +kernel
theorem dX10_lay_33 : decode cX10_lay 33 = .ok (.ifCond .ne 15, 3) := by decide +kernel
theorem dX10_lay_36 : decode cX10_lay 36 = .ok (.aload_n 0, 1) := by decide +kernel
theorem dX10_lay_37 : decode cX10_lay 37 = .ok (.aload_n 0, 1) := by decide +kernel
theorem dX10_lay_38 : decode cX10_lay 38 = .ok (.getfield 71, 3) := by decide +kernel
theorem dX10_lay_41 : decode cX10_lay 41 = .ok (.iconst 0, 1) := by decide +kernel
theorem dX10_lay_42 : decode cX10_lay 42 = .ok (.invokevirtual 125, 3) := by decide +kernel
theorem dX10_lay_45 : decode cX10_lay 45 = .ok (.bipush (-2), 2) := by decide +kernel
theorem dX10_lay_47 : decode cX10_lay 47 = .ok (.ireturn, 1) := by decide +kernel
theorem dX10_lay_48 : decode cX10_lay 48 = .ok (.aload_n 0, 1) := by decide +kernel
theorem dX10_lay_49 : decode cX10_lay 49 = .ok (.iconst 0, 1) := by decide +kernel
theorem dX10_lay_50 : decode cX10_lay 50 = .ok (.putfield 107, 3) := by decide +kernel
theorem dX10_lay_53 : decode cX10_lay 53 = .ok (.aload_n 0, 1) := by decide +kernel
theorem dX10_lay_54 : decode cX10_lay 54 = .ok (.iconst 0, 1) := by decide +kernel
theorem dX10_lay_55 : decode cX10_lay 55 = .ok (.putfield 128, 3) := by decide +kernel
theorem dX10_lay_58 : decode cX10_lay 58 = .ok (.aload_n 0, 1) := by decide +kernel
theorem dX10_lay_59 : decode cX10_lay 59 = .ok (.invokevirtual 81, 3) := by decide +kernel
theorem dX10_lay_62 : decode cX10_lay 62 = .ok (.aload_n 0, 1) := by decide +kernel
theorem dX10_lay_63 : decode cX10_lay 63 = .ok (.getfield 16, 3) := by decide +kernel
theorem dX10_lay_66 : decode cX10_lay 66 = .ok (.iconst 0, 1) := by decide +kernel
theorem dX10_lay_67 : decode cX10_lay 67 = .ok (.iaload, 1) := by decide +kernel
theorem dX10_lay_68 : decode cX10_lay 68 = .ok (.aload_n 0, 1) := by decide +kernel
theorem dX10_lay_69 : decode cX10_lay 69 = .ok (.getfield 16, 3) := by decide +kernel
theorem dX10_lay_72 : decode cX10_lay 72 = .ok (.iconst 1, 1) := by decide +kernel
theorem dX10_lay_73 : decode cX10_lay 73 = .ok (.iaload, 1) := by decide +kernel
theorem dX10_lay_74 : decode cX10_lay 74 = .ok (.iadd, 1) := by decide +kernel
theorem dX10_lay_75 : decode cX10_lay 75 = .ok (.ireturn, 1) := by decide +kernel
