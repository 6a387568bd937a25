theorem dL_law_0 : decode cL_law 0 = .ok (.new 22, 3) := by decide +kernel
theorem dL_law_3 : decode cL_law 3 = .ok (.dup, 1) := by decide +kernel
theorem dL_law_4 : decode cL_law 4 = .ok (.invokespecial 66, 3) := by decide +kernel
theorem dL_law_7 : decode cL_law 7 = .ok (.astore_n 1, 1) := by decide +kernel
theorem dL_law_8 : decode cL_law 8 = .ok (.aload_n 1, 1) := by decide +kernel
theorem dL_law_9 : decode cL_law 9 = .ok (.aload_n 0, 1) := by decide +kernel
theorem dL_law_10 : decode cL_law 10 = .ok (.invokestatic 67, 3) := by decide +kernel
theorem dL_law_13 : decode cL_law 13 = .ok (.astore_n 2, 1) := by decide +kernel
theorem dL_law_14 : decode cL_law 14 = .ok (.aload_n 2, 1) := by decide +kernel
theorem dL_law_15 : decode cL_law 15 = .ok (.ifnonnull 5, 3) := by decide +kernel
theorem dL_law_18 : decode cL_law 18 = .ok (.iconst 0, 1) := by decide +kernel
theorem dL_law_19 : decode cL_law 19 = .ok (.ireturn, 1) := by decide +kernel
theorem dL_law_20 : decode cL_law 20 = .ok (.iconst 0, 1) := by decide +kernel
theorem dL_law_21 : decode cL_law 21 = .ok (.istore_n 3, 1) := by decide +kernel
theorem dL_law_22 : decode cL_law 22 = .ok (.iload_n 3, 1) := by decide +kernel
theorem dL_law_23 : decode cL_law 23 = .ok (.bipush 26, 2) := by decide +kernel
theorem dL_law_25 : decode cL_law 25 = .ok (.if_icmp .ge 1012, 3) := by decide +kernel
theorem dL_law_28 : decode cL_law 28 = .ok (.aload_n 0, 1) := by decide +kernel
theorem dL_law_29 : decode cL_law 29 = .ok (.iload_n 3, 1) := by decide +kernel
theorem dL_law_30 : decode cL_law 30 = .ok (.bipush 16, 2) := by decide +kernel
theorem dL_law_32 : decode cL_law 32 = .ok (.irem, 1) := by decide +kernel
theorem dL_law_33 : decode cL_law 33 = .ok (.invokestatic 58, 3) := by decide +kernel
theorem dL_law_36 : decode cL_law 36 = .ok (.iload_n 3, 1) := by decide +kernel
theorem dL_law_37 : decode cL_law 37 = .ok (.bipush 16, 2) := by decide +kernel
theorem dL_law_39 : decode cL_law 39 = .ok (.idiv, 1) := by decide +kernel
theorem dL_law_40 : decode cL_law 40 = .ok (.iconst 3, 1) := by decide +kernel
theorem dL_law_41 : decode cL_law 41 = .ok (.imul, 1) := by decide +kernel
theorem dL_law_42 : decode cL_law 42 = .ok (.ishr, 1) := by decide +kernel
theorem dL_law_43 : decode cL_law 43 = .ok (.bipush 107, 2) := by decide +kernel
theorem dL_law_45 : decode cL_law 45 = .ok (.iload_n 3, 1) := by decide +kernel
theorem dL_law_46 : decode cL_law 46 = .ok (.imul, 1) := by decide +kernel
theorem dL_law_47 : decode cL_law 47 = .ok (.iadd, 1) := by decide +kernel
theorem dL_law_48 : decode cL_law 48 = .ok (.istore 4, 2) := by decide +kernel
theorem dL_law_50 : decode cL_law 50 = .ok (.aload_n 1, 1) := by decide +kernel
theorem dL_law_51 : decode cL_law 51 = .ok (.aload_n 2, 1) := by decide +kernel
theorem dL_law_52 : decode cL_law 52 = .ok (.iload 4, 2) := by decide +kernel
theorem dL_law_54 : decode cL_law 54 = .ok (.invokestatic 62, 3) := by decide +kernel
theorem dL_law_57 : decode cL_law 57 = .ok (.ifCond .ne 5, 3) := by decide +kernel
theorem dL_law_60 : decode cL_law 60 = .ok (.iconst 0, 1) := by decide +kernel
theorem dL_law_61 : decode cL_law 61 = .ok (.ireturn, 1) := by decide +kernel
theorem dL_law_62 : decode cL_law 62 = .ok (.bipush 12, 2) := by decide +kernel
theorem dL_law_64 : decode cL_law 64 = .ok (.bipush 7, 2) := by decide +kernel
theorem dL_law_66 : decode cL_law 66 = .ok (.multianewarray 71 2, 4) := by decide +kernel
theorem dL_law_70 : decode cL_law 70 = .ok (.astore 5, 2) := by decide +kernel
theorem dL_law_72 : decode cL_law 72 = .ok (.bipush 12, 2) := by decide +kernel
theorem dL_law_74 : decode cL_law 74 = .ok (.newarray .int, 2) := by decide +kernel
theorem dL_law_76 : decode cL_law 76 = .ok (.astore 6, 2) := by decide +kernel
theorem dL_law_78 : decode cL_law 78 = .ok (.iconst 0, 1) := by decide +kernel
theorem dL_law_79 : decode cL_law 79 = .ok (.istore 7, 2) := by decide +kernel
theorem dL_law_81 : decode cL_law 81 = .ok (.iload 7, 2) := by decide +kernel
theorem dL_law_83 : decode cL_law 83 = .ok (.bipush 12, 2) := by decide +kernel
theorem dL_law_85 : decode cL_law 85 = .ok (.if_icmp .ge 53, 3) := by decide +kernel
theorem dL_law_88 : decode cL_law 88 = .ok (.iconst 0, 1) := by decide +kernel
theorem dL_law_89 : decode cL_law 89 = .ok (.istore 8, 2) := by decide +kernel
theorem dL_law_91 : decode cL_law 91 = .ok (.iload 8, 2) := by decide +kernel
theorem dL_law_93 : decode cL_law 93 = .ok (.bipush 7, 2) := by decide +kernel
theorem dL_law_95 : decode cL_law 95 = .ok (.if_icmp .ge 25, 3) := by decide +kernel
theorem dL_law_98 : decode cL_law 98 = .ok (.aload 5, 2) := by decide +kernel
theorem dL_law_100 : decode cL_law 100 = .ok (.iload 7, 2) := by decide +kernel
theorem dL_law_102 : decode cL_law 102 = .ok (.aaload, 1) := by decide +kernel
theorem dL_law_103 : decode cL_law 103 = .ok (.iload 8, 2) := by decide +kernel
theorem dL_law_105 : decode cL_law 105 = .ok (.aload_n 1, 1) := by decide +kernel
theorem dL_law_106 : decode cL_law 106 = .ok (.iload 7, 2) := by decide +kernel
theorem dL_law_108 : decode cL_law 108 = .ok (.iload 8, 2) := by decide +kernel
theorem dL_law_110 : decode cL_law 110 = .ok (.invokevirtual 72, 3) := by decide +kernel
theorem dL_law_113 : decode cL_law 113 = .ok (.iastore, 1) := by decide +kernel
theorem dL_law_114 : decode cL_law 114 = .ok (.iinc 8 1, 3) := by decide +kernel
theorem dL_law_117 : decode cL_law 117 = .ok (.goto (-26), 3) := by decide +kernel
theorem dL_law_120 : decode cL_law 120 = .ok (.aload 6, 2) := by decide +kernel
theorem dL_law_122 : decode cL_law 122 = .ok (.iload 7, 2) := by decide +kernel
theorem dL_law_124 : decode cL_law 124 = .ok (.aload_n 1, 1) := by decide +kernel
theorem dL_law_125 : decode cL_law 125 = .ok (.iconst 1, 1) := by decide +kernel
theorem dL_law_126 : decode cL_law 126 = .ok (.iload 7, 2) := by decide +kernel
theorem dL_law_128 : decode cL_law 128 = .ok (.invokevirtual 75, 3) := by decide +kernel
theorem dL_law_131 : decode cL_law 131 = .ok (.iastore, 1) := by decide +kernel
theorem dL_law_132 : decode cL_law 132 = .ok (.iinc 7 1, 3) := by decide +kernel
theorem dL_law_135 : decode cL_law 135 = .ok (.goto (-54), 3) := by decide +kernel
theorem dL_law_138 : decode cL_law 138 = .ok (.aload_n 2, 1) := by decide +kernel
theorem dL_law_139 : decode cL_law 139 = .ok (.getfield 33, 3) := by decide +kernel
theorem dL_law_142 : decode cL_law 142 = .ok (.aload_n 2, 1) := by decide +kernel
theorem dL_law_143 : decode cL_law 143 = .ok (.getfield 78, 3) := by decide +kernel
theorem dL_law_146 : decode cL_law 146 = .ok (.bipush 12, 2) := by decide +kernel
theorem dL_law_148 : decode cL_law 148 = .ok (.irem, 1) := by decide +kernel
theorem dL_law_149 : decode cL_law 149 = .ok (.iaload, 1) := by decide +kernel
theorem dL_law_150 : decode cL_law 150 = .ok (.istore 7, 2) := by decide +kernel
theorem dL_law_152 : decode cL_law 152 = .ok (.aload_n 2, 1) := by decide +kernel
theorem dL_law_153 : decode cL_law 153 = .ok (.getfield 37, 3) := by decide +kernel
theorem dL_law_156 : decode cL_law 156 = .ok (.aload_n 2, 1) := by decide +kernel
theorem dL_law_157 : decode cL_law 157 = .ok (.getfield 78, 3) := by decide +kernel
theorem dL_law_160 : decode cL_law 160 = .ok (.bipush 12, 2) := by decide +kernel
theorem dL_law_162 : decode cL_law 162 = .ok (.irem, 1) := by decide +kernel
theorem dL_law_163 : decode cL_law 163 = .ok (.iaload, 1) := by decide +kernel
theorem dL_law_164 : decode cL_law 164 = .ok (.istore 8, 2) := by decide +kernel
theorem dL_law_166 : decode cL_law 166 = .ok (.aload_n 1, 1) := by decide +kernel
theorem dL_law_167 : decode cL_law 167 = .ok (.iconst 4, 1) := by decide +kernel
theorem dL_law_168 : decode cL_law 168 = .ok (.invokevirtual 82, 3) := by decide +kernel
theorem dL_law_171 : decode cL_law 171 = .ok (.istore 9, 2) := by decide +kernel
theorem dL_law_173 : decode cL_law 173 = .ok (.aload_n 1, 1) := by decide +kernel
theorem dL_law_174 : decode cL_law 174 = .ok (.invokevirtual 85, 3) := by decide +kernel
theorem dL_law_177 : decode cL_law 177 = .ok (.istore 10, 2) := by decide +kernel
theorem dL_law_179 : decode cL_law 179 = .ok (.aload_n 1, 1) := by decide +kernel
theorem dL_law_180 : decode cL_law 180 = .ok (.iconst 2, 1) := by decide +kernel
theorem dL_law_181 : decode cL_law 181 = .ok (.invokevirtual 82, 3) := by decide +kernel
theorem dL_law_184 : decode cL_law 184 = .ok (.istore 11, 2) := by decide +kernel
theorem dL_law_186 : decode cL_law 186 = .ok (.iload 11, 2) := by decide +kernel
theorem dL_law_188 : decode cL_law 188 = .ok (.newarray .int, 2) := by decide +kernel
theorem dL_law_190 : decode cL_law 190 = .ok (.astore 12, 2) := by decide +kernel
theorem dL_law_192 : decode cL_law 192 = .ok (.iconst 0, 1) := by decide +kernel
theorem dL_law_193 : decode cL_law 193 = .ok (.istore 13, 2) := by decide +kernel
theorem dL_law_195 : decode cL_law 195 = .ok (.iload 13, 2) := by decide +kernel
theorem dL_law_197 : decode cL_law 197 = .ok (.iload 11, 2) := by decide +kernel
theorem dL_law_199 : decode cL_law 199 = .ok (.if_icmp .ge 20, 3) := by decide +kernel
theorem dL_law_202 : decode cL_law 202 = .ok (.aload 12, 2) := by decide +kernel
theorem dL_law_204 : decode cL_law 204 = .ok (.iload 13, 2) := by decide +kernel
theorem dL_law_206 : decode cL_law 206 = .ok (.aload_n 1, 1) := by decide +kernel
theorem dL_law_207 : decode cL_law 207 = .ok (.iload 13, 2) := by decide +kernel
theorem dL_law_209 : decode cL_law 209 = .ok (.invokevirtual 89, 3) := by decide +kernel
theorem dL_law_212 : decode cL_law 212 = .ok (.iastore, 1) := by decide +kernel
theorem dL_law_213 : decode cL_law 213 = .ok (.iinc 13 1, 3) := by decide +kernel
theorem dL_law_216 : decode cL_law 216 = .ok (.goto (-21), 3) := by decide +kernel
theorem dL_law_219 : decode cL_law 219 = .ok (.aload_n 1, 1) := by decide +kernel
theorem dL_law_220 : decode cL_law 220 = .ok (.iconst 1, 1) := by decide +kernel
theorem dL_law_221 : decode cL_law 221 = .ok (.invokevirtual 92, 3) := by decide +kernel
theorem dL_law_224 : decode cL_law 224 = .ok (.istore 13, 2) := by decide +kernel
theorem dL_law_226 : decode cL_law 226 = .ok (.aload_n 2, 1) := by decide +kernel
theorem dL_law_227 : decode cL_law 227 = .ok (.invokevirtual 95, 3) := by decide +kernel
theorem dL_law_230 : decode cL_law 230 = .ok (.pop, 1) := by decide +kernel
theorem dL_law_231 : decode cL_law 231 = .ok (.iconst 0, 1) := by decide +kernel
theorem dL_law_232 : decode cL_law 232 = .ok (.bipush 30, 2) := by decide +kernel
theorem dL_law_234 : decode cL_law 234 = .ok (.iload 9, 2) := by decide +kernel
theorem dL_law_236 : decode cL_law 236 = .ok (.iload 8, 2) := by decide +kernel
theorem dL_law_238 : decode cL_law 238 = .ok (.iconst 5, 1) := by decide +kernel
theorem dL_law_239 : decode cL_law 239 = .ok (.if_icmp .lt 7, 3) := by decide +kernel
theorem dL_law_242 : decode cL_law 242 = .ok (.iconst 1, 1) := by decide +kernel
theorem dL_law_243 : decode cL_law 243 = .ok (.goto 4, 3) := by decide +kernel
theorem dL_law_246 : decode cL_law 246 = .ok (.iconst (-1), 1) := by decide +kernel
theorem dL_law_247 : decode cL_law 247 = .ok (.iadd, 1) := by decide +kernel
theorem dL_law_248 : decode cL_law 248 = .ok (.invokestatic 97, 3) := by decide +kernel
theorem dL_law_251 : decode cL_law 251 = .ok (.invokestatic 47, 3) := by decide +kernel
theorem dL_law_254 : decode cL_law 254 = .ok (.istore 14, 2) := by decide +kernel
theorem dL_law_256 : decode cL_law 256 = .ok (.aload_n 1, 1) := by decide +kernel
theorem dL_law_257 : decode cL_law 257 = .ok (.iconst 4, 1) := by decide +kernel
theorem dL_law_258 : decode cL_law 258 = .ok (.invokevirtual 82, 3) := by decide +kernel
theorem dL_law_261 : decode cL_law 261 = .ok (.iload 14, 2) := by decide +kernel
theorem dL_law_263 : decode cL_law 263 = .ok (.if_icmp .ne 23, 3) := by decide +kernel
theorem dL_law_266 : decode cL_law 266 = .ok (.iload 13, 2) := by decide +kernel
theorem dL_law_268 : decode cL_law 268 = .ok (.ifCond .le 20, 3) := by decide +kernel
theorem dL_law_271 : decode cL_law 271 = .ok (.iload 10, 2) := by decide +kernel
theorem dL_law_273 : decode cL_law 273 = .ok (.ifCond .lt 13, 3) := by decide +kernel
theorem dL_law_276 : decode cL_law 276 = .ok (.aload_n 1, 1) := by decide +kernel
theorem dL_law_277 : decode cL_law 277 = .ok (.iload 10, 2) := by decide +kernel
theorem dL_law_279 : decode cL_law 279 = .ok (.iconst 4, 1) := by decide +kernel
theorem dL_law_280 : decode cL_law 280 = .ok (.invokevirtual 72, 3) := by decide +kernel
theorem dL_law_283 : decode cL_law 283 = .ok (.ifCond .eq 5, 3) := by decide +kernel
theorem dL_law_286 : decode cL_law 286 = .ok (.iconst 0, 1) := by decide +kernel
theorem dL_law_287 : decode cL_law 287 = .ok (.ireturn, 1) := by decide +kernel
theorem dL_law_288 : decode cL_law 288 = .ok (.iconst 0, 1) := by decide +kernel
theorem dL_law_289 : decode cL_law 289 = .ok (.istore 15, 2) := by decide +kernel
theorem dL_law_291 : decode cL_law 291 = .ok (.iconst 0, 1) := by decide +kernel
theorem dL_law_292 : decode cL_law 292 = .ok (.istore 16, 2) := by decide +kernel
theorem dL_law_294 : decode cL_law 294 = .ok (.iconst 0, 1) := by decide +kernel
theorem dL_law_295 : decode cL_law 295 = .ok (.istore 17, 2) := by decide +kernel
theorem dL_law_297 : decode cL_law 297 = .ok (.iconst 0, 1) := by decide +kernel
theorem dL_law_298 : decode cL_law 298 = .ok (.istore 18, 2) := by decide +kernel
theorem dL_law_300 : decode cL_law 300 = .ok (.iconst 0, 1) := by decide +kernel
theorem dL_law_301 : decode cL_law 301 = .ok (.istore 19, 2) := by decide +kernel
theorem dL_law_303 : decode cL_law 303 = .ok (.iload 19, 2) := by decide +kernel
theorem dL_law_305 : decode cL_law 305 = .ok (.bipush 12, 2) := by decide +kernel
theorem dL_law_307 : decode cL_law 307 = .ok (.if_icmp .ge 502, 3) := by decide +kernel
theorem dL_law_310 : decode cL_law 310 = .ok (.aload_n 1, 1) := by decide +kernel
theorem dL_law_311 : decode cL_law 311 = .ok (.iload 19, 2) := by decide +kernel
theorem dL_law_313 : decode cL_law 313 = .ok (.iconst 4, 1) := by decide +kernel
theorem dL_law_314 : decode cL_law 314 = .ok (.invokevirtual 72, 3) := by decide +kernel
theorem dL_law_317 : decode cL_law 317 = .ok (.iconst 1, 1) := by decide +kernel
theorem dL_law_318 : decode cL_law 318 = .ok (.if_icmp .ne 7, 3) := by decide +kernel
theorem dL_law_321 : decode cL_law 321 = .ok (.iconst 1, 1) := by decide +kernel
theorem dL_law_322 : decode cL_law 322 = .ok (.goto 4, 3) := by decide +kernel
theorem dL_law_325 : decode cL_law 325 = .ok (.iconst 0, 1) := by decide +kernel
theorem dL_law_326 : decode cL_law 326 = .ok (.istore 20, 2) := by decide +kernel
theorem dL_law_328 : decode cL_law 328 = .ok (.aload_n 1, 1) := by decide +kernel
theorem dL_law_329 : decode cL_law 329 = .ok (.iload 19, 2) := by decide +kernel
theorem dL_law_331 : decode cL_law 331 = .ok (.iconst 1, 1) := by decide +kernel
theorem dL_law_332 : decode cL_law 332 = .ok (.invokevirtual 72, 3) := by decide +kernel
theorem dL_law_335 : decode cL_law 335 = .ok (.istore 21, 2) := by decide +kernel
theorem dL_law_337 : decode cL_law 337 = .ok (.iload 20, 2) := by decide +kernel
theorem dL_law_339 : decode cL_law 339 = .ok (.ifCond .eq 74, 3) := by decide +kernel
theorem dL_law_342 : decode cL_law 342 = .ok (.aload_n 1, 1) := by decide +kernel
theorem dL_law_343 : decode cL_law 343 = .ok (.iload 19, 2) := by decide +kernel
theorem dL_law_345 : decode cL_law 345 = .ok (.iconst 0, 1) := by decide +kernel
theorem dL_law_346 : decode cL_law 346 = .ok (.invokevirtual 72, 3) := by decide +kernel
theorem dL_law_349 : decode cL_law 349 = .ok (.bipush 10, 2) := by decide +kernel
theorem dL_law_351 : decode cL_law 351 = .ok (.iload 21, 2) := by decide +kernel
theorem dL_law_353 : decode cL_law 353 = .ok (.imul, 1) := by decide +kernel
theorem dL_law_354 : decode cL_law 354 = .ok (.iadd, 1) := by decide +kernel
theorem dL_law_355 : decode cL_law 355 = .ok (.aload_n 1, 1) := by decide +kernel
theorem dL_law_356 : decode cL_law 356 = .ok (.iload 19, 2) := by decide +kernel
theorem dL_law_358 : decode cL_law 358 = .ok (.iconst 2, 1) := by decide +kernel
theorem dL_law_359 : decode cL_law 359 = .ok (.invokevirtual 72, 3) := by decide +kernel
theorem dL_law_362 : decode cL_law 362 = .ok (.iadd, 1) := by decide +kernel
theorem dL_law_363 : decode cL_law 363 = .ok (.iload 14, 2) := by decide +kernel
theorem dL_law_365 : decode cL_law 365 = .ok (.isub, 1) := by decide +kernel
theorem dL_law_366 : decode cL_law 366 = .ok (.iload 19, 2) := by decide +kernel
theorem dL_law_368 : decode cL_law 368 = .ok (.ifCond .le 17, 3) := by decide +kernel
theorem dL_law_371 : decode cL_law 371 = .ok (.iconst 3, 1) := by decide +kernel
theorem dL_law_372 : decode cL_law 372 = .ok (.aload_n 1, 1) := by decide +kernel
theorem dL_law_373 : decode cL_law 373 = .ok (.iload 19, 2) := by decide +kernel
theorem dL_law_375 : decode cL_law 375 = .ok (.iconst 1, 1) := by decide +kernel
theorem dL_law_376 : decode cL_law 376 = .ok (.isub, 1) := by decide +kernel
theorem dL_law_377 : decode cL_law 377 = .ok (.iconst 1, 1) := by decide +kernel
theorem dL_law_378 : decode cL_law 378 = .ok (.invokevirtual 72, 3) := by decide +kernel
theorem dL_law_381 : decode cL_law 381 = .ok (.imul, 1) := by decide +kernel
theorem dL_law_382 : decode cL_law 382 = .ok (.goto 4, 3) := by decide +kernel
theorem dL_law_385 : decode cL_law 385 = .ok (.iconst 0, 1) := by decide +kernel
theorem dL_law_386 : decode cL_law 386 = .ok (.iadd, 1) := by decide +kernel
theorem dL_law_387 : decode cL_law 387 = .ok (.iload 19, 2) := by decide +kernel
theorem dL_law_389 : decode cL_law 389 = .ok (.bipush 11, 2) := by decide +kernel
theorem dL_law_391 : decode cL_law 391 = .ok (.if_icmp .ge 17, 3) := by decide +kernel
theorem dL_law_394 : decode cL_law 394 = .ok (.iconst 3, 1) := by decide +kernel
theorem dL_law_395 : decode cL_law 395 = .ok (.aload_n 1, 1) := by decide +kernel
theorem dL_law_396 : decode cL_law 396 = .ok (.iload 19, 2) := by decide +kernel
theorem dL_law_398 : decode cL_law 398 = .ok (.iconst 1, 1) := by decide +kernel
theorem dL_law_399 : decode cL_law 399 = .ok (.iadd, 1) := by decide +kernel
theorem dL_law_400 : decode cL_law 400 = .ok (.iconst 1, 1) := by decide +kernel
theorem dL_law_401 : decode cL_law 401 = .ok (.invokevirtual 72, 3) := by decide +kernel
theorem dL_law_404 : decode cL_law 404 = .ok (.imul, 1) := by decide +kernel
theorem dL_law_405 : decode cL_law 405 = .ok (.goto 4, 3) := by decide +kernel
theorem dL_law_408 : decode cL_law 408 = .ok (.iconst 0, 1) := by decide +kernel
theorem dL_law_409 : decode cL_law 409 = .ok (.iadd, 1) := by decide +kernel
theorem dL_law_410 : decode cL_law 410 = .ok (.goto 4, 3) := by decide +kernel
theorem dL_law_413 : decode cL_law 413 = .ok (.iconst 0, 1) := by decide +kernel
theorem dL_law_414 : decode cL_law 414 = .ok (.istore 22, 2) := by decide +kernel
theorem dL_law_416 : decode cL_law 416 = .ok (.iload 15, 2) := by decide +kernel
theorem dL_law_418 : decode cL_law 418 = .ok (.aload_n 1, 1) := by decide +kernel
theorem dL_law_419 : decode cL_law 419 = .ok (.iload 19, 2) := by decide +kernel
theorem dL_law_421 : decode cL_law 421 = .ok (.bipush 6, 2) := by decide +kernel
theorem dL_law_423 : decode cL_law 423 = .ok (.invokevirtual 72, 3) := by decide +kernel
theorem dL_law_426 : decode cL_law 426 = .ok (.aload 5, 2) := by decide +kernel
theorem dL_law_428 : decode cL_law 428 = .ok (.iload 19, 2) := by decide +kernel
theorem dL_law_430 : decode cL_law 430 = .ok (.aaload, 1) := by decide +kernel
theorem dL_law_431 : decode cL_law 431 = .ok (.bipush 6, 2) := by decide +kernel
theorem dL_law_433 : decode cL_law 433 = .ok (.iaload, 1) := by decide +kernel
theorem dL_law_434 : decode cL_law 434 = .ok (.isub, 1) := by decide +kernel
theorem dL_law_435 : decode cL_law 435 = .ok (.iadd, 1) := by decide +kernel
theorem dL_law_436 : decode cL_law 436 = .ok (.istore 15, 2) := by decide +kernel
theorem dL_law_438 : decode cL_law 438 = .ok (.iload 16, 2) := by decide +kernel
theorem dL_law_440 : decode cL_law 440 = .ok (.iload 21, 2) := by decide +kernel
theorem dL_law_442 : decode cL_law 442 = .ok (.iadd, 1) := by decide +kernel
theorem dL_law_443 : decode cL_law 443 = .ok (.istore 16, 2) := by decide +kernel
theorem dL_law_445 : decode cL_law 445 = .ok (.iload 17, 2) := by decide +kernel
theorem dL_law_447 : decode cL_law 447 = .ok (.aload_n 1, 1) := by decide +kernel
theorem dL_law_448 : decode cL_law 448 = .ok (.iload 19, 2) := by decide +kernel
theorem dL_law_450 : decode cL_law 450 = .ok (.iconst 3, 1) := by decide +kernel
theorem dL_law_451 : decode cL_law 451 = .ok (.invokevirtual 72, 3) := by decide +kernel
theorem dL_law_454 : decode cL_law 454 = .ok (.iadd, 1) := by decide +kernel
theorem dL_law_455 : decode cL_law 455 = .ok (.istore 17, 2) := by decide +kernel
theorem dL_law_457 : decode cL_law 457 = .ok (.iload 18, 2) := by decide +kernel
theorem dL_law_459 : decode cL_law 459 = .ok (.iload 20, 2) := by decide +kernel
theorem dL_law_461 : decode cL_law 461 = .ok (.ifCond .eq 7, 3) := by decide +kernel
theorem dL_law_464 : decode cL_law 464 = .ok (.iconst 1, 1) := by decide +kernel
theorem dL_law_465 : decode cL_law 465 = .ok (.goto 4, 3) := by decide +kernel
theorem dL_law_468 : decode cL_law 468 = .ok (.iconst 0, 1) := by decide +kernel
theorem dL_law_469 : decode cL_law 469 = .ok (.iadd, 1) := by decide +kernel
theorem dL_law_470 : decode cL_law 470 = .ok (.istore 18, 2) := by decide +kernel
theorem dL_law_472 : decode cL_law 472 = .ok (.aload_n 1, 1) := by decide +kernel
theorem dL_law_473 : decode cL_law 473 = .ok (.iload 19, 2) := by decide +kernel
theorem dL_law_475 : decode cL_law 475 = .ok (.iconst 5, 1) := by decide +kernel
theorem dL_law_476 : decode cL_law 476 = .ok (.invokevirtual 72, 3) := by decide +kernel
theorem dL_law_479 : decode cL_law 479 = .ok (.iload 22, 2) := by decide +kernel
theorem dL_law_481 : decode cL_law 481 = .ok (.if_icmp .ne 57, 3) := by decide +kernel
theorem dL_law_484 : decode cL_law 484 = .ok (.iload 22, 2) := by decide +kernel
theorem dL_law_486 : decode cL_law 486 = .ok (.aload 6, 2) := by decide +kernel
theorem dL_law_488 : decode cL_law 488 = .ok (.iload 19, 2) := by decide +kernel
theorem dL_law_490 : decode cL_law 490 = .ok (.iaload, 1) := by decide +kernel
theorem dL_law_491 : decode cL_law 491 = .ok (.if_icmp .ne 47, 3) := by decide +kernel
theorem dL_law_494 : decode cL_law 494 = .ok (.aload_n 1, 1) := by decide +kernel
theorem dL_law_495 : decode cL_law 495 = .ok (.iload 19, 2) := by decide +kernel
theorem dL_law_497 : decode cL_law 497 = .ok (.iconst 0, 1) := by decide +kernel
theorem dL_law_498 : decode cL_law 498 = .ok (.invokevirtual 72, 3) := by decide +kernel
theorem dL_law_501 : decode cL_law 501 = .ok (.aload 5, 2) := by decide +kernel
theorem dL_law_503 : decode cL_law 503 = .ok (.iload 19, 2) := by decide +kernel
theorem dL_law_505 : decode cL_law 505 = .ok (.aaload, 1) := by decide +kernel
theorem dL_law_506 : decode cL_law 506 = .ok (.iconst 0, 1) := by decide +kernel
theorem dL_law_507 : decode cL_law 507 = .ok (.iaload, 1) := by decide +kernel
theorem dL_law_508 : decode cL_law 508 = .ok (.if_icmp .ne 30, 3) := by decide +kernel
theorem dL_law_511 : decode cL_law 511 = .ok (.iload 21, 2) := by decide +kernel
theorem dL_law_513 : decode cL_law 513 = .ok (.aload 5, 2) := by decide +kernel
theorem dL_law_515 : decode cL_law 515 = .ok (.iload 19, 2) := by decide +kernel
theorem dL_law_517 : decode cL_law 517 = .ok (.aaload, 1) := by decide +kernel
theorem dL_law_518 : decode cL_law 518 = .ok (.iconst 1, 1) := by decide +kernel
theorem dL_law_519 : decode cL_law 519 = .ok (.iaload, 1) := by decide +kernel
theorem dL_law_520 : decode cL_law 520 = .ok (.if_icmp .ne 18, 3) := by decide +kernel
theorem dL_law_523 : decode cL_law 523 = .ok (.iload 20, 2) := by decide +kernel
theorem dL_law_525 : decode cL_law 525 = .ok (.ifCond .eq 15, 3) := by decide +kernel
theorem dL_law_528 : decode cL_law 528 = .ok (.aload 5, 2) := by decide +kernel
theorem dL_law_530 : decode cL_law 530 = .ok (.iload 19, 2) := by decide +kernel
theorem dL_law_532 : decode cL_law 532 = .ok (.aaload, 1) := by decide +kernel
theorem dL_law_533 : decode cL_law 533 = .ok (.iconst 4, 1) := by decide +kernel
theorem dL_law_534 : decode cL_law 534 = .ok (.iaload, 1) := by decide +kernel
theorem dL_law_535 : decode cL_law 535 = .ok (.ifCond .ne 5, 3) := by decide +kernel
theorem dL_law_538 : decode cL_law 538 = .ok (.iconst 0, 1) := by decide +kernel
theorem dL_law_539 : decode cL_law 539 = .ok (.ireturn, 1) := by decide +kernel
theorem dL_law_540 : decode cL_law 540 = .ok (.aload 5, 2) := by decide +kernel
theorem dL_law_542 : decode cL_law 542 = .ok (.iload 19, 2) := by decide +kernel
theorem dL_law_544 : decode cL_law 544 = .ok (.aaload, 1) := by decide +kernel
theorem dL_law_545 : decode cL_law 545 = .ok (.iconst 4, 1) := by decide +kernel
theorem dL_law_546 : decode cL_law 546 = .ok (.iaload, 1) := by decide +kernel
theorem dL_law_547 : decode cL_law 547 = .ok (.ifCond .ne 7, 3) := by decide +kernel
theorem dL_law_550 : decode cL_law 550 = .ok (.iconst 0, 1) := by decide +kernel
theorem dL_law_551 : decode cL_law 551 = .ok (.goto 31, 3) := by decide +kernel
theorem dL_law_554 : decode cL_law 554 = .ok (.iconst 0, 1) := by decide +kernel
theorem dL_law_555 : decode cL_law 555 = .ok (.aload 5, 2) := by decide +kernel
theorem dL_law_557 : decode cL_law 557 = .ok (.iload 19, 2) := by decide +kernel
theorem dL_law_559 : decode cL_law 559 = .ok (.aaload, 1) := by decide +kernel
theorem dL_law_560 : decode cL_law 560 = .ok (.iconst 3, 1) := by decide +kernel
theorem dL_law_561 : decode cL_law 561 = .ok (.iaload, 1) := by decide +kernel
theorem dL_law_562 : decode cL_law 562 = .ok (.iload 7, 2) := by decide +kernel
theorem dL_law_564 : decode cL_law 564 = .ok (.aload 5, 2) := by decide +kernel
theorem dL_law_566 : decode cL_law 566 = .ok (.iload 19, 2) := by decide +kernel
theorem dL_law_568 : decode cL_law 568 = .ok (.aaload, 1) := by decide +kernel
theorem dL_law_569 : decode cL_law 569 = .ok (.iconst 5, 1) := by decide +kernel
theorem dL_law_570 : decode cL_law 570 = .ok (.iaload, 1) := by decide +kernel
theorem dL_law_571 : decode cL_law 571 = .ok (.imul, 1) := by decide +kernel
theorem dL_law_572 : decode cL_law 572 = .ok (.sipush 1000, 3) := by decide +kernel
theorem dL_law_575 : decode cL_law 575 = .ok (.idiv, 1) := by decide +kernel
theorem dL_law_576 : decode cL_law 576 = .ok (.iadd, 1) := by decide +kernel
theorem dL_law_577 : decode cL_law 577 = .ok (.iconst 2, 1) := by decide +kernel
theorem dL_law_578 : decode cL_law 578 = .ok (.isub, 1) := by decide +kernel
theorem dL_law_579 : decode cL_law 579 = .ok (.invokestatic 47, 3) := by decide +kernel
theorem dL_law_582 : decode cL_law 582 = .ok (.istore 23, 2) := by decide +kernel
theorem dL_law_584 : decode cL_law 584 = .ok (.aload 5, 2) := by decide +kernel
theorem dL_law_586 : decode cL_law 586 = .ok (.iload 19, 2) := by decide +kernel
theorem dL_law_588 : decode cL_law 588 = .ok (.aaload, 1) := by decide +kernel
theorem dL_law_589 : decode cL_law 589 = .ok (.iconst 4, 1) := by decide +kernel
theorem dL_law_590 : decode cL_law 590 = .ok (.iaload, 1) := by decide +kernel
theorem dL_law_591 : decode cL_law 591 = .ok (.iconst 1, 1) := by decide +kernel
theorem dL_law_592 : decode cL_law 592 = .ok (.if_icmp .ne 14, 3) := by decide +kernel
theorem dL_law_595 : decode cL_law 595 = .ok (.iload 23, 2) := by decide +kernel
theorem dL_law_597 : decode cL_law 597 = .ok (.bipush 100, 2) := by decide +kernel
theorem dL_law_599 : decode cL_law 599 = .ok (.if_icmp .le 7, 3) := by decide +kernel
theorem dL_law_602 : decode cL_law 602 = .ok (.iconst 1, 1) := by decide +kernel
theorem dL_law_603 : decode cL_law 603 = .ok (.goto 4, 3) := by decide +kernel
theorem dL_law_606 : decode cL_law 606 = .ok (.iconst 0, 1) := by decide +kernel
theorem dL_law_607 : decode cL_law 607 = .ok (.istore 24, 2) := by decide +kernel
theorem dL_law_609 : decode cL_law 609 = .ok (.iload 24, 2) := by decide +kernel
theorem dL_law_611 : decode cL_law 611 = .ok (.ifCond .eq 32, 3) := by decide +kernel
theorem dL_law_614 : decode cL_law 614 = .ok (.iload 20, 2) := by decide +kernel
theorem dL_law_616 : decode cL_law 616 = .ok (.ifCond .ne 63, 3) := by decide +kernel
theorem dL_law_619 : decode cL_law 619 = .ok (.aload_n 1, 1) := by decide +kernel
theorem dL_law_620 : decode cL_law 620 = .ok (.iload 19, 2) := by decide +kernel
theorem dL_law_622 : decode cL_law 622 = .ok (.bipush 6, 2) := by decide +kernel
theorem dL_law_624 : decode cL_law 624 = .ok (.invokevirtual 72, 3) := by decide +kernel
theorem dL_law_627 : decode cL_law 627 = .ok (.aload 5, 2) := by decide +kernel
theorem dL_law_629 : decode cL_law 629 = .ok (.iload 19, 2) := by decide +kernel
theorem dL_law_631 : decode cL_law 631 = .ok (.aaload, 1) := by decide +kernel
theorem dL_law_632 : decode cL_law 632 = .ok (.bipush 6, 2) := by decide +kernel
theorem dL_law_634 : decode cL_law 634 = .ok (.iaload, 1) := by decide +kernel
theorem dL_law_635 : decode cL_law 635 = .ok (.iconst 1, 1) := by decide +kernel
theorem dL_law_636 : decode cL_law 636 = .ok (.iadd, 1) := by decide +kernel
theorem dL_law_637 : decode cL_law 637 = .ok (.if_icmp .eq 44, 3) := by decide +kernel
theorem dL_law_640 : decode cL_law 640 = .ok (.goto 39, 3) := by decide +kernel
theorem dL_law_643 : decode cL_law 643 = .ok (.aload_n 1, 1) := by decide +kernel
theorem dL_law_644 : decode cL_law 644 = .ok (.iload 19, 2) := by decide +kernel
theorem dL_law_646 : decode cL_law 646 = .ok (.iconst 4, 1) := by decide +kernel
theorem dL_law_647 : decode cL_law 647 = .ok (.invokevirtual 72, 3) := by decide +kernel
theorem dL_law_650 : decode cL_law 650 = .ok (.aload 5, 2) := by decide +kernel
theorem dL_law_652 : decode cL_law 652 = .ok (.iload 19, 2) := by decide +kernel
theorem dL_law_654 : decode cL_law 654 = .ok (.aaload, 1) := by decide +kernel
theorem dL_law_655 : decode cL_law 655 = .ok (.iconst 4, 1) := by decide +kernel
theorem dL_law_656 : decode cL_law 656 = .ok (.iaload, 1) := by decide +kernel
theorem dL_law_657 : decode cL_law 657 = .ok (.if_icmp .ne 22, 3) := by decide +kernel
theorem dL_law_660 : decode cL_law 660 = .ok (.aload_n 1, 1) := by decide +kernel
theorem dL_law_661 : decode cL_law 661 = .ok (.iload 19, 2) := by decide +kernel
theorem dL_law_663 : decode cL_law 663 = .ok (.bipush 6, 2) := by decide +kernel
theorem dL_law_665 : decode cL_law 665 = .ok (.invokevirtual 72, 3) := by decide +kernel
theorem dL_law_668 : decode cL_law 668 = .ok (.aload 5, 2) := by decide +kernel
theorem dL_law_670 : decode cL_law 670 = .ok (.iload 19, 2) := by decide +kernel
theorem dL_law_672 : decode cL_law 672 = .ok (.aaload, 1) := by decide +kernel
theorem dL_law_673 : decode cL_law 673 = .ok (.bipush 6, 2) := by decide +kernel
theorem dL_law_675 : decode cL_law 675 = .ok (.iaload, 1) := by decide +kernel
theorem dL_law_676 : decode cL_law 676 = .ok (.if_icmp .eq 5, 3) := by decide +kernel
theorem dL_law_679 : decode cL_law 679 = .ok (.iconst 0, 1) := by decide +kernel
theorem dL_law_680 : decode cL_law 680 = .ok (.ireturn, 1) := by decide +kernel
theorem dL_law_681 : decode cL_law 681 = .ok (.iload 20, 2) := by decide +kernel
theorem dL_law_683 : decode cL_law 683 = .ok (.ifCond .eq 18, 3) := by decide +kernel
theorem dL_law_686 : decode cL_law 686 = .ok (.aload_n 1, 1) := by decide +kernel
theorem dL_law_687 : decode cL_law 687 = .ok (.iload 19, 2) := by decide +kernel
theorem dL_law_689 : decode cL_law 689 = .ok (.iconst 3, 1) := by decide +kernel
theorem dL_law_690 : decode cL_law 690 = .ok (.invokevirtual 72, 3) := by decide +kernel
theorem dL_law_693 : decode cL_law 693 = .ok (.iload 23, 2) := by decide +kernel
theorem dL_law_695 : decode cL_law 695 = .ok (.if_icmp .eq 28, 3) := by decide +kernel
theorem dL_law_698 : decode cL_law 698 = .ok (.goto 23, 3) := by decide +kernel
theorem dL_law_701 : decode cL_law 701 = .ok (.aload_n 1, 1) := by decide +kernel
theorem dL_law_702 : decode cL_law 702 = .ok (.iload 19, 2) := by decide +kernel
theorem dL_law_704 : decode cL_law 704 = .ok (.iconst 3, 1) := by decide +kernel
theorem dL_law_705 : decode cL_law 705 = .ok (.invokevirtual 72, 3) := by decide +kernel
theorem dL_law_708 : decode cL_law 708 = .ok (.ifCond .ne 13, 3) := by decide +kernel
theorem dL_law_711 : decode cL_law 711 = .ok (.aload_n 1, 1) := by decide +kernel
theorem dL_law_712 : decode cL_law 712 = .ok (.iload 19, 2) := by decide +kernel
theorem dL_law_714 : decode cL_law 714 = .ok (.iconst 2, 1) := by decide +kernel
theorem dL_law_715 : decode cL_law 715 = .ok (.invokevirtual 72, 3) := by decide +kernel
theorem dL_law_718 : decode cL_law 718 = .ok (.ifCond .eq 5, 3) := by decide +kernel
theorem dL_law_721 : decode cL_law 721 = .ok (.iconst 0, 1) := by decide +kernel
theorem dL_law_722 : decode cL_law 722 = .ok (.ireturn, 1) := by decide +kernel
theorem dL_law_723 : decode cL_law 723 = .ok (.aload_n 1, 1) := by decide +kernel
theorem dL_law_724 : decode cL_law 724 = .ok (.iload 19, 2) := by decide +kernel
theorem dL_law_726 : decode cL_law 726 = .ok (.iconst 2, 1) := by decide +kernel
theorem dL_law_727 : decode cL_law 727 = .ok (.invokevirtual 72, 3) := by decide +kernel
theorem dL_law_730 : decode cL_law 730 = .ok (.aload 5, 2) := by decide +kernel
theorem dL_law_732 : decode cL_law 732 = .ok (.iload 19, 2) := by decide +kernel
theorem dL_law_734 : decode cL_law 734 = .ok (.aaload, 1) := by decide +kernel
theorem dL_law_735 : decode cL_law 735 = .ok (.iconst 2, 1) := by decide +kernel
theorem dL_law_736 : decode cL_law 736 = .ok (.iaload, 1) := by decide +kernel
theorem dL_law_737 : decode cL_law 737 = .ok (.isub, 1) := by decide +kernel
theorem dL_law_738 : decode cL_law 738 = .ok (.istore 25, 2) := by decide +kernel
theorem dL_law_740 : decode cL_law 740 = .ok (.iload 20, 2) := by decide +kernel
theorem dL_law_742 : decode cL_law 742 = .ok (.ifCond .eq 61, 3) := by decide +kernel
theorem dL_law_745 : decode cL_law 745 = .ok (.iload 25, 2) := by decide +kernel
theorem dL_law_747 : decode cL_law 747 = .ok (.iload 23, 2) := by decide +kernel
theorem dL_law_749 : decode cL_law 749 = .ok (.bipush 50, 2) := by decide +kernel
theorem dL_law_751 : decode cL_law 751 = .ok (.if_icmp .lt 23, 3) := by decide +kernel
theorem dL_law_754 : decode cL_law 754 = .ok (.aload 5, 2) := by decide +kernel
theorem dL_law_756 : decode cL_law 756 = .ok (.iload 19, 2) := by decide +kernel
theorem dL_law_758 : decode cL_law 758 = .ok (.aaload, 1) := by decide +kernel
theorem dL_law_759 : decode cL_law 759 = .ok (.iconst 2, 1) := by decide +kernel
theorem dL_law_760 : decode cL_law 760 = .ok (.iaload, 1) := by decide +kernel
theorem dL_law_761 : decode cL_law 761 = .ok (.bipush (-50), 2) := by decide +kernel
theorem dL_law_763 : decode cL_law 763 = .ok (.if_icmp .le 7, 3) := by decide +kernel
theorem dL_law_766 : decode cL_law 766 = .ok (.iconst (-1), 1) := by decide +kernel
theorem dL_law_767 : decode cL_law 767 = .ok (.goto 31, 3) := by decide +kernel
theorem dL_law_770 : decode cL_law 770 = .ok (.iconst 0, 1) := by decide +kernel
theorem dL_law_771 : decode cL_law 771 = .ok (.goto 27, 3) := by decide +kernel
theorem dL_law_774 : decode cL_law 774 = .ok (.iload 8, 2) := by decide +kernel
theorem dL_law_776 : decode cL_law 776 = .ok (.bipush 6, 2) := by decide +kernel
theorem dL_law_778 : decode cL_law 778 = .ok (.if_icmp .lt 19, 3) := by decide +kernel
theorem dL_law_781 : decode cL_law 781 = .ok (.aload 5, 2) := by decide +kernel
theorem dL_law_783 : decode cL_law 783 = .ok (.iload 19, 2) := by decide +kernel
theorem dL_law_785 : decode cL_law 785 = .ok (.aaload, 1) := by decide +kernel
theorem dL_law_786 : decode cL_law 786 = .ok (.iconst 2, 1) := by decide +kernel
theorem dL_law_787 : decode cL_law 787 = .ok (.iaload, 1) := by decide +kernel
theorem dL_law_788 : decode cL_law 788 = .ok (.bipush 50, 2) := by decide +kernel
theorem dL_law_790 : decode cL_law 790 = .ok (.if_icmp .ge 7, 3) := by decide +kernel
theorem dL_law_793 : decode cL_law 793 = .ok (.iconst 1, 1) := by decide +kernel
theorem dL_law_794 : decode cL_law 794 = .ok (.goto 4, 3) := by decide +kernel
theorem dL_law_797 : decode cL_law 797 = .ok (.iconst 0, 1) := by decide +kernel
theorem dL_law_798 : decode cL_law 798 = .ok (.if_icmp .eq 5, 3) := by decide +kernel
theorem dL_law_801 : decode cL_law 801 = .ok (.iconst 0, 1) := by decide +kernel
theorem dL_law_802 : decode cL_law 802 = .ok (.ireturn, 1) := by decide +kernel
theorem dL_law_803 : decode cL_law 803 = .ok (.iinc 19 1, 3) := by decide +kernel
theorem dL_law_806 : decode cL_law 806 = .ok (.goto (-503), 3) := by decide +kernel
theorem dL_law_809 : decode cL_law 809 = .ok (.iload 15, 2) := by decide +kernel
theorem dL_law_811 : decode cL_law 811 = .ok (.iload 13, 2) := by decide +kernel
theorem dL_law_813 : decode cL_law 813 = .ok (.if_icmp .ne 45, 3) := by decide +kernel
theorem dL_law_816 : decode cL_law 816 = .ok (.aload_n 1, 1) := by decide +kernel
theorem dL_law_817 : decode cL_law 817 = .ok (.iconst 1, 1) := by decide +kernel
theorem dL_law_818 : decode cL_law 818 = .ok (.invokevirtual 82, 3) := by decide +kernel
theorem dL_law_821 : decode cL_law 821 = .ok (.iload 18, 2) := by decide +kernel
theorem dL_law_823 : decode cL_law 823 = .ok (.if_icmp .ne 35, 3) := by decide +kernel
theorem dL_law_826 : decode cL_law 826 = .ok (.aload_n 1, 1) := by decide +kernel
theorem dL_law_827 : decode cL_law 827 = .ok (.iconst 5, 1) := by decide +kernel
theorem dL_law_828 : decode cL_law 828 = .ok (.invokevirtual 82, 3) := by decide +kernel
theorem dL_law_831 : decode cL_law 831 = .ok (.iload 16, 2) := by decide +kernel
theorem dL_law_833 : decode cL_law 833 = .ok (.if_icmp .ne 25, 3) := by decide +kernel
theorem dL_law_836 : decode cL_law 836 = .ok (.aload_n 1, 1) := by decide +kernel
theorem dL_law_837 : decode cL_law 837 = .ok (.bipush 6, 2) := by decide +kernel
theorem dL_law_839 : decode cL_law 839 = .ok (.invokevirtual 82, 3) := by decide +kernel
theorem dL_law_842 : decode cL_law 842 = .ok (.iload 17, 2) := by decide +kernel
theorem dL_law_844 : decode cL_law 844 = .ok (.if_icmp .ne 14, 3) := by decide +kernel
theorem dL_law_847 : decode cL_law 847 = .ok (.aload_n 1, 1) := by decide +kernel
theorem dL_law_848 : decode cL_law 848 = .ok (.iconst 0, 1) := by decide +kernel
theorem dL_law_849 : decode cL_law 849 = .ok (.invokevirtual 82, 3) := by decide +kernel
theorem dL_law_852 : decode cL_law 852 = .ok (.iload_n 3, 1) := by decide +kernel
theorem dL_law_853 : decode cL_law 853 = .ok (.iconst 1, 1) := by decide +kernel
theorem dL_law_854 : decode cL_law 854 = .ok (.iadd, 1) := by decide +kernel
theorem dL_law_855 : decode cL_law 855 = .ok (.if_icmp .eq 5, 3) := by decide +kernel
theorem dL_law_858 : decode cL_law 858 = .ok (.iconst 0, 1) := by decide +kernel
theorem dL_law_859 : decode cL_law 859 = .ok (.ireturn, 1) := by decide +kernel
theorem dL_law_860 : decode cL_law 860 = .ok (.iconst 0, 1) := by decide +kernel
theorem dL_law_861 : decode cL_law 861 = .ok (.istore 19, 2) := by decide +kernel
theorem dL_law_863 : decode cL_law 863 = .ok (.iload 19, 2) := by decide +kernel
theorem dL_law_865 : decode cL_law 865 = .ok (.iload 11, 2) := by decide +kernel
theorem dL_law_867 : decode cL_law 867 = .ok (.if_icmp .ge 164, 3) := by decide +kernel
theorem dL_law_870 : decode cL_law 870 = .ok (.aload 12, 2) := by decide +kernel
theorem dL_law_872 : decode cL_law 872 = .ok (.iload 19, 2) := by decide +kernel
theorem dL_law_874 : decode cL_law 874 = .ok (.iaload, 1) := by decide +kernel
theorem dL_law_875 : decode cL_law 875 = .ok (.iconst 1, 1) := by decide +kernel
theorem dL_law_876 : decode cL_law 876 = .ok (.if_icmp .le 19, 3) := by decide +kernel
theorem dL_law_879 : decode cL_law 879 = .ok (.aload_n 1, 1) := by decide +kernel
theorem dL_law_880 : decode cL_law 880 = .ok (.iload 19, 2) := by decide +kernel
theorem dL_law_882 : decode cL_law 882 = .ok (.invokevirtual 89, 3) := by decide +kernel
theorem dL_law_885 : decode cL_law 885 = .ok (.aload 12, 2) := by decide +kernel
theorem dL_law_887 : decode cL_law 887 = .ok (.iload 19, 2) := by decide +kernel
theorem dL_law_889 : decode cL_law 889 = .ok (.iaload, 1) := by decide +kernel
theorem dL_law_890 : decode cL_law 890 = .ok (.iconst 1, 1) := by decide +kernel
theorem dL_law_891 : decode cL_law 891 = .ok (.isub, 1) := by decide +kernel
theorem dL_law_892 : decode cL_law 892 = .ok (.if_icmp .ne 77, 3) := by decide +kernel
theorem dL_law_895 : decode cL_law 895 = .ok (.aload 12, 2) := by decide +kernel
theorem dL_law_897 : decode cL_law 897 = .ok (.iload 19, 2) := by decide +kernel
theorem dL_law_899 : decode cL_law 899 = .ok (.iaload, 1) := by decide +kernel
theorem dL_law_900 : decode cL_law 900 = .ok (.iconst 1, 1) := by decide +kernel
theorem dL_law_901 : decode cL_law 901 = .ok (.if_icmp .ne 12, 3) := by decide +kernel
theorem dL_law_904 : decode cL_law 904 = .ok (.aload_n 1, 1) := by decide +kernel
theorem dL_law_905 : decode cL_law 905 = .ok (.iload 19, 2) := by decide +kernel
theorem dL_law_907 : decode cL_law 907 = .ok (.invokevirtual 100, 3) := by decide +kernel
theorem dL_law_910 : decode cL_law 910 = .ok (.ifCond .ne 59, 3) := by decide +kernel
theorem dL_law_913 : decode cL_law 913 = .ok (.aload 12, 2) := by decide +kernel
theorem dL_law_915 : decode cL_law 915 = .ok (.iload 19, 2) := by decide +kernel
theorem dL_law_917 : decode cL_law 917 = .ok (.iaload, 1) := by decide +kernel
theorem dL_law_918 : decode cL_law 918 = .ok (.ifCond .eq 21, 3) := by decide +kernel
theorem dL_law_921 : decode cL_law 921 = .ok (.aload 12, 2) := by decide +kernel
theorem dL_law_923 : decode cL_law 923 = .ok (.iload 19, 2) := by decide +kernel
theorem dL_law_925 : decode cL_law 925 = .ok (.iaload, 1) := by decide +kernel
theorem dL_law_926 : decode cL_law 926 = .ok (.iconst 1, 1) := by decide +kernel
theorem dL_law_927 : decode cL_law 927 = .ok (.if_icmp .eq 12, 3) := by decide +kernel
theorem dL_law_930 : decode cL_law 930 = .ok (.aload_n 1, 1) := by decide +kernel
theorem dL_law_931 : decode cL_law 931 = .ok (.iload 19, 2) := by decide +kernel
theorem dL_law_933 : decode cL_law 933 = .ok (.invokevirtual 100, 3) := by decide +kernel
theorem dL_law_936 : decode cL_law 936 = .ok (.ifCond .eq 33, 3) := by decide +kernel
theorem dL_law_939 : decode cL_law 939 = .ok (.aload_n 1, 1) := by decide +kernel
theorem dL_law_940 : decode cL_law 940 = .ok (.iload 19, 2) := by decide +kernel
theorem dL_law_942 : decode cL_law 942 = .ok (.invokevirtual 100, 3) := by decide +kernel
theorem dL_law_945 : decode cL_law 945 = .ok (.ifCond .eq 26, 3) := by decide +kernel
theorem dL_law_948 : decode cL_law 948 = .ok (.aload_n 1, 1) := by decide +kernel
theorem dL_law_949 : decode cL_law 949 = .ok (.iload 19, 2) := by decide +kernel
theorem dL_law_951 : decode cL_law 951 = .ok (.invokevirtual 104, 3) := by decide +kernel
theorem dL_law_954 : decode cL_law 954 = .ok (.iconst 5, 1) := by decide +kernel
theorem dL_law_955 : decode cL_law 955 = .ok (.aload_n 2, 1) := by decide +kernel
theorem dL_law_956 : decode cL_law 956 = .ok (.getfield 44, 3) := by decide +kernel
theorem dL_law_959 : decode cL_law 959 = .ok (.iload 19, 2) := by decide +kernel
theorem dL_law_961 : decode cL_law 961 = .ok (.aaload, 1) := by decide +kernel
theorem dL_law_962 : decode cL_law 962 = .ok (.arraylength, 1) := by decide +kernel
theorem dL_law_963 : decode cL_law 963 = .ok (.iconst 1, 1) := by decide +kernel
theorem dL_law_964 : decode cL_law 964 = .ok (.isub, 1) := by decide +kernel
theorem dL_law_965 : decode cL_law 965 = .ok (.imul, 1) := by decide +kernel
theorem dL_law_966 : decode cL_law 966 = .ok (.if_icmp .le 5, 3) := by decide +kernel
theorem dL_law_969 : decode cL_law 969 = .ok (.iconst 0, 1) := by decide +kernel
theorem dL_law_970 : decode cL_law 970 = .ok (.ireturn, 1) := by decide +kernel
theorem dL_law_971 : decode cL_law 971 = .ok (.iload_n 3, 1) := by decide +kernel
theorem dL_law_972 : decode cL_law 972 = .ok (.iconst 4, 1) := by decide +kernel
theorem dL_law_973 : decode cL_law 973 = .ok (.irem, 1) := by decide +kernel
theorem dL_law_974 : decode cL_law 974 = .ok (.ifCond .ne 12, 3) := by decide +kernel
theorem dL_law_977 : decode cL_law 977 = .ok (.aload_n 1, 1) := by decide +kernel
theorem dL_law_978 : decode cL_law 978 = .ok (.iload 19, 2) := by decide +kernel
theorem dL_law_980 : decode cL_law 980 = .ok (.invokevirtual 107, 3) := by decide +kernel
theorem dL_law_983 : decode cL_law 983 = .ok (.goto 4, 3) := by decide +kernel
theorem dL_law_986 : decode cL_law 986 = .ok (.iconst (-1), 1) := by decide +kernel
theorem dL_law_987 : decode cL_law 987 = .ok (.istore 20, 2) := by decide +kernel
theorem dL_law_989 : decode cL_law 989 = .ok (.aload_n 1, 1) := by decide +kernel
theorem dL_law_990 : decode cL_law 990 = .ok (.iload 19, 2) := by decide +kernel
theorem dL_law_992 : decode cL_law 992 = .ok (.invokevirtual 100, 3) := by decide +kernel
theorem dL_law_995 : decode cL_law 995 = .ok (.ifCond .eq 14, 3) := by decide +kernel
theorem dL_law_998 : decode cL_law 998 = .ok (.iload_n 3, 1) := by decide +kernel
theorem dL_law_999 : decode cL_law 999 = .ok (.iconst 4, 1) := by decide +kernel
theorem dL_law_1000 : decode cL_law 1000 = .ok (.irem, 1) := by decide +kernel
theorem dL_law_1001 : decode cL_law 1001 = .ok (.ifCond .ne 8, 3) := by decide +kernel
theorem dL_law_1004 : decode cL_law 1004 = .ok (.iload 20, 2) := by decide +kernel
theorem dL_law_1006 : decode cL_law 1006 = .ok (.ifCond .ne 17, 3) := by decide +kernel
theorem dL_law_1009 : decode cL_law 1009 = .ok (.aload_n 1, 1) := by decide +kernel
theorem dL_law_1010 : decode cL_law 1010 = .ok (.iload 19, 2) := by decide +kernel
theorem dL_law_1012 : decode cL_law 1012 = .ok (.invokevirtual 100, 3) := by decide +kernel
theorem dL_law_1015 : decode cL_law 1015 = .ok (.ifCond .ne 10, 3) := by decide +kernel
theorem dL_law_1018 : decode cL_law 1018 = .ok (.iload 20, 2) := by decide +kernel
theorem dL_law_1020 : decode cL_law 1020 = .ok (.ifCond .ne 5, 3) := by decide +kernel
theorem dL_law_1023 : decode cL_law 1023 = .ok (.iconst 0, 1) := by decide +kernel
theorem dL_law_1024 : decode cL_law 1024 = .ok (.ireturn, 1) := by decide +kernel
theorem dL_law_1025 : decode cL_law 1025 = .ok (.iinc 19 1, 3) := by decide +kernel
theorem dL_law_1028 : decode cL_law 1028 = .ok (.goto (-165), 3) := by decide +kernel
theorem dL_law_1031 : decode cL_law 1031 = .ok (.iinc 3 1, 3) := by decide +kernel
theorem dL_law_1034 : decode cL_law 1034 = .ok (.goto (-1012), 3) := by decide +kernel
theorem dL_law_1037 : decode cL_law 1037 = .ok (.aload_n 2, 1) := by decide +kernel
theorem dL_law_1038 : decode cL_law 1038 = .ok (.aload_n 1, 1) := by decide +kernel
theorem dL_law_1039 : decode cL_law 1039 = .ok (.invokevirtual 110, 3) := by decide +kernel
theorem dL_law_1042 : decode cL_law 1042 = .ok (.ireturn, 1) := by decide +kernel
