theorem dX12_dayOf_110 : decode cX12_dayOf 110 = .ok (.aload_n 0, 1) := by decide +kernel
theorem dX12_dayOf_111 : decode cX12_dayOf 111 = .ok (.getfield 16, 3) := by decide +kernel
theorem dX12_dayOf_114 : decode cX12_dayOf 114 = .ok (.iload 10, 2) := by decide +kernel
theorem dX12_dayOf_116 : decode cX12_dayOf 116 = .ok (.iaload, 1) := by decide +kernel
theorem dX12_dayOf_117 : decode cX12_dayOf 117 = .ok (.isub, 1) := by decide +kernel
theorem dX12_dayOf_118 : decode cX12_dayOf 118 = .ok (.istore 12, 2) := by decide +kernel
theorem dX12_dayOf_120 : decode cX12_dayOf 120 = .ok (.iload 8, 2) := by decide +kernel
theorem dX12_dayOf_122 : decode cX12_dayOf 122 = .ok (.istore 13, 2) := by decide +kernel
theorem dX12_dayOf_124 : decode cX12_dayOf 124 = .ok (.iconst 0, 1) := by decide +kernel
theorem dX12_dayOf_125 : decode cX12_dayOf 125 = .ok (.istore 14, 2) := by decide +kernel
theorem dX12_dayOf_127 : decode cX12_dayOf 127 = .ok (.iload 14, 2) := by decide +kernel
theorem dX12_dayOf_129 : decode cX12_dayOf 129 = .ok (.ifCond .ne 197, 3) := by decide +kernel
theorem dX12_dayOf_132 : decode cX12_dayOf 132 = .ok (.iload 6, 2) := by decide +kernel
theorem dX12_dayOf_134 : decode cX12_dayOf 134 = .ok (.bipush 6, 2) := by decide +kernel
theorem dX12_dayOf_136 : decode cX12_dayOf 136 = .ok (.if_icmp .ne 16, 3) := by decide +kernel
theorem dX12_dayOf_139 : decode cX12_dayOf 139 = .ok (.aload_n 0, 1) := by decide +kernel
theorem dX12_dayOf_140 : decode cX12_dayOf 140 = .ok (.iload 13, 2) := by decide +kernel
theorem dX12_dayOf_142 : decode cX12_dayOf 142 = .ok (.invokevirtual 158, 3) := by decide +kernel
theorem dX12_dayOf_145 : decode cX12_dayOf 145 = .ok (.ifCond .eq 7, 3) := by decide +kernel
theorem dX12_dayOf_148 : decode cX12_dayOf 148 = .ok (.iconst 1, 1) := by decide +kernel
theorem dX12_dayOf_149 : decode cX12_dayOf 149 = .ok (.goto 4, 3) := by decide +kernel
theorem dX12_dayOf_152 : decode cX12_dayOf 152 = .ok (.iconst 0, 1) := by decide +kernel
theorem dX12_dayOf_153 : decode cX12_dayOf 153 = .ok (.istore 15, 2) := by decide +kernel
theorem dX12_dayOf_155 : decode cX12_dayOf 155 = .ok (.iload 6, 2) := by decide +kernel
theorem dX12_dayOf_157 : decode cX12_dayOf 157 = .ok (.invokestatic 161, 3) := by decide +kernel
theorem dX12_dayOf_160 : decode cX12_dayOf 160 = .ok (.ifCond .eq 58, 3) := by decide +kernel
theorem dX12_dayOf_163 : decode cX12_dayOf 163 = .ok (.iload 11, 2) := by decide +kernel
theorem dX12_dayOf_165 : decode cX12_dayOf 165 = .ok (.ifCond .ne 53, 3) := by decide +kernel
theorem dX12_dayOf_168 : decode cX12_dayOf 168 = .ok (.iload_n 3, 1) := by decide +kernel
theorem dX12_dayOf_169 : decode cX12_dayOf 169 = .ok (.iload 9, 2) := by decide +kernel
theorem dX12_dayOf_171 : decode cX12_dayOf 171 = .ok (.iload 13, 2) := by decide +kernel
theorem dX12_dayOf_173 : decode cX12_dayOf 173 = .ok (.invokestatic 130, 3) := by decide +kernel
theorem dX12_dayOf_176 : decode cX12_dayOf 176 = .ok (.iload 12, 2) := by decide +kernel
theorem dX12_dayOf_178 : decode cX12_dayOf 178 = .ok (.iconst 5, 1) := by decide +kernel
theorem dX12_dayOf_179 : decode cX12_dayOf 179 = .ok (.iload 7, 2) := by decide +kernel
theorem dX12_dayOf_181 : decode cX12_dayOf 181 = .ok (.imul, 1) := by decide +kernel
theorem dX12_dayOf_182 : decode cX12_dayOf 182 = .ok (.isub, 1) := by decide +kernel
theorem dX12_dayOf_183 : decode cX12_dayOf 183 = .ok (.if_icmp .lt 35, 3) := by decide +kernel
theorem dX12_dayOf_186 : decode cX12_dayOf 186 = .ok (.iload 6, 2) := by decide +kernel
theorem dX12_dayOf_188 : decode cX12_dayOf 188 = .ok (.iconst 3, 1) := by decide +kernel
theorem dX12_dayOf_189 : decode cX12_dayOf 189 = .ok (.if_icmp .eq 10, 3) := by decide +kernel
theorem dX12_dayOf_192 : decode cX12_dayOf 192 = .ok (.iload 6, 2) := by decide +kernel
theorem dX12_dayOf_194 : decode cX12_dayOf 194 = .ok (.bipush 7, 2) := by decide +kernel
theorem dX12_dayOf_196 : decode cX12_dayOf 196 = .ok (.if_icmp .ne 15, 3) := by decide +kernel
theorem dX12_dayOf_199 : decode cX12_dayOf 199 = .ok (.iload 5, 2) := by decide +kernel
theorem dX12_dayOf_201 : decode cX12_dayOf 201 = .ok (.iload 13, 2) := by decide +kernel
theorem dX12_dayOf_203 : decode cX12_dayOf 203 = .ok (.invokestatic 116, 3) := by decide +kernel
theorem dX12_dayOf_206 : decode cX12_dayOf 206 = .ok (.iload 7, 2) := by decide +kernel
theorem dX12_dayOf_208 : decode cX12_dayOf 208 = .ok (.if_icmp .gt 7, 3) := by decide +kernel
theorem dX12_dayOf_211 : decode cX12_dayOf 211 = .ok (.iconst 1, 1) := by decide +kernel
theorem dX12_dayOf_212 : decode cX12_dayOf 212 = .ok (.goto 4, 3) := by decide +kernel
theorem dX12_dayOf_215 : decode cX12_dayOf 215 = .ok (.iconst 0, 1) := by decide +kernel
theorem dX12_dayOf_216 : decode cX12_dayOf 216 = .ok (.istore 15, 2) := by decide +kernel
theorem dX12_dayOf_218 : decode cX12_dayOf 218 = .ok (.iload 15, 2) := by decide +kernel
theorem dX12_dayOf_220 : decode cX12_dayOf 220 = .ok (.ifCond .eq 52, 3) := by decide +kernel
theorem dX12_dayOf_223 : decode cX12_dayOf 223 = .ok (.iconst 1, 1) := by decide +kernel
theorem dX12_dayOf_224 : decode cX12_dayOf 224 = .ok (.istore 11, 2) := by decide +kernel
theorem dX12_dayOf_226 : decode cX12_dayOf 226 = .ok (.iload 13, 2) := by decide +kernel
theorem dX12_dayOf_228 : decode cX12_dayOf 228 = .ok (.istore 9, 2) := by decide +kernel
theorem dX12_dayOf_230 : decode cX12_dayOf 230 = .ok (.aload_n 0, 1) := by decide +kernel
theorem dX12_dayOf_231 : decode cX12_dayOf 231 = .ok (.dup, 1) := by decide +kernel
theorem dX12_dayOf_232 : decode cX12_dayOf 232 = .ok (.getfield 142, 3) := by decide +kernel
theorem dX12_dayOf_235 : decode cX12_dayOf 235 = .ok (.iload 6, 2) := by decide +kernel
theorem dX12_dayOf_237 : decode cX12_dayOf 237 = .ok (.iload 5, 2) := by decide +kernel
theorem dX12_dayOf_239 : decode cX12_dayOf 239 = .ok (.iload 13, 2) := by decide +kernel
theorem dX12_dayOf_241 : decode cX12_dayOf 241 = .ok (.invokestatic 116, 3) := by decide +kernel
theorem dX12_dayOf_244 : decode cX12_dayOf 244 = .ok (.invokestatic 164, 3) := by decide +kernel
theorem dX12_dayOf_247 : decode cX12_dayOf 247 = .ok (.iadd, 1) := by decide +kernel
theorem dX12_dayOf_248 : decode cX12_dayOf 248 = .ok (.putfield 142, 3) := by decide +kernel
theorem dX12_dayOf_251 : decode cX12_dayOf 251 = .ok (.aload_n 0, 1) := by decide +kernel
theorem dX12_dayOf_252 : decode cX12_dayOf 252 = .ok (.getfield 64, 3) := by decide +kernel
theorem dX12_dayOf_255 : decode cX12_dayOf 255 = .ok (.aload_n 0, 1) := by decide +kernel
theorem dX12_dayOf_256 : decode cX12_dayOf 256 = .ok (.getfield 146, 3) := by decide +kernel
theorem dX12_dayOf_259 : decode cX12_dayOf 259 = .ok (.iload 13, 2) := by decide +kernel
theorem dX12_dayOf_261 : decode cX12_dayOf 261 = .ok (.iastore, 1) := by decide +kernel
theorem dX12_dayOf_262 : decode cX12_dayOf 262 = .ok (.aload_n 0, 1) := by decide +kernel
theorem dX12_dayOf_263 : decode cX12_dayOf 263 = .ok (.dup, 1) := by decide +kernel
theorem dX12_dayOf_264 : decode cX12_dayOf 264 = .ok (.getfield 146, 3) := by decide +kernel
theorem dX12_dayOf_267 : decode cX12_dayOf 267 = .ok (.iconst 1, 1) := by decide +kernel
theorem dX12_dayOf_268 : decode cX12_dayOf 268 = .ok (.iadd, 1) := by decide +kernel
theorem dX12_dayOf_269 : decode cX12_dayOf 269 = .ok (.putfield 146, 3) := by decide +kernel
theorem dX12_dayOf_272 : decode cX12_dayOf 272 = .ok (.iload 13, 2) := by decide +kernel
theorem dX12_dayOf_274 : decode cX12_dayOf 274 = .ok (.sipush 719, 3) := by decide +kernel
theorem dX12_dayOf_277 : decode cX12_dayOf 277 = .ok (.if_icmp .eq 24, 3) := by decide +kernel
theorem dX12_dayOf_280 : decode cX12_dayOf 280 = .ok (.iload_n 3, 1) := by decide +kernel
theorem dX12_dayOf_281 : decode cX12_dayOf 281 = .ok (.iload 9, 2) := by decide +kernel
theorem dX12_dayOf_283 : decode cX12_dayOf 283 = .ok (.iload 13, 2) := by decide +kernel
theorem dX12_dayOf_285 : decode cX12_dayOf 285 = .ok (.invokestatic 130, 3) := by decide +kernel
theorem dX12_dayOf_288 : decode cX12_dayOf 288 = .ok (.iload 12, 2) := by decide +kernel
theorem dX12_dayOf_290 : decode cX12_dayOf 290 = .ok (.iload 6, 2) := by decide +kernel
theorem dX12_dayOf_292 : decode cX12_dayOf 292 = .ok (.iload 7, 2) := by decide +kernel
theorem dX12_dayOf_294 : decode cX12_dayOf 294 = .ok (.invokestatic 126, 3) := by decide +kernel
theorem dX12_dayOf_297 : decode cX12_dayOf 297 = .ok (.isub, 1) := by decide +kernel
theorem dX12_dayOf_298 : decode cX12_dayOf 298 = .ok (.if_icmp .lt 7, 3) := by decide +kernel
theorem dX12_dayOf_301 : decode cX12_dayOf 301 = .ok (.iconst 1, 1) := by decide +kernel
theorem dX12_dayOf_302 : decode cX12_dayOf 302 = .ok (.goto 4, 3) := by decide +kernel
theorem dX12_dayOf_305 : decode cX12_dayOf 305 = .ok (.iconst 0, 1) := by decide +kernel
theorem dX12_dayOf_306 : decode cX12_dayOf 306 = .ok (.istore 14, 2) := by decide +kernel
theorem dX12_dayOf_308 : decode cX12_dayOf 308 = .ok (.iload 13, 2) := by decide +kernel
theorem dX12_dayOf_310 : decode cX12_dayOf 310 = .ok (.iload 14, 2) := by decide +kernel
theorem dX12_dayOf_312 : decode cX12_dayOf 312 = .ok (.ifCond .eq 7, 3) := by decide +kernel
theorem dX12_dayOf_315 : decode cX12_dayOf 315 = .ok (.iconst 0, 1) := by decide +kernel
theorem dX12_dayOf_316 : decode cX12_dayOf 316 = .ok (.goto 4, 3) := by decide +kernel
theorem dX12_dayOf_319 : decode cX12_dayOf 319 = .ok (.iconst 1, 1) := by decide +kernel
theorem dX12_dayOf_320 : decode cX12_dayOf 320 = .ok (.iadd, 1) := by decide +kernel
theorem dX12_dayOf_321 : decode cX12_dayOf 321 = .ok (.istore 13, 2) := by decide +kernel
theorem dX12_dayOf_323 : decode cX12_dayOf 323 = .ok (.goto (-196), 3) := by decide +kernel
theorem dX12_dayOf_326 : decode cX12_dayOf 326 = .ok (.iload 13, 2) := by decide +kernel
theorem dX12_dayOf_328 : decode cX12_dayOf 328 = .ok (.aload_n 0, 1) := by decide +kernel
theorem dX12_dayOf_329 : decode cX12_dayOf 329 = .ok (.getfield 16, 3) := by decide +kernel
theorem dX12_dayOf_332 : decode cX12_dayOf 332 = .ok (.iload 10, 2) := by decide +kernel
theorem dX12_dayOf_334 : decode cX12_dayOf 334 = .ok (.iaload, 1) := by decide +kernel
theorem dX12_dayOf_335 : decode cX12_dayOf 335 = .ok (.iadd, 1) := by decide +kernel
theorem dX12_dayOf_336 : decode cX12_dayOf 336 = .ok (.istore 15, 2) := by decide +kernel
theorem dX12_dayOf_338 : decode cX12_dayOf 338 = .ok (.aload_n 0, 1) := by decide +kernel
theorem dX12_dayOf_339 : decode cX12_dayOf 339 = .ok (.getfield 67, 3) := by decide +kernel
theorem dX12_dayOf_342 : decode cX12_dayOf 342 = .ok (.iload 10, 2) := by decide +kernel
theorem dX12_dayOf_344 : decode cX12_dayOf 344 = .ok (.iload 15, 2) := by decide +kernel
theorem dX12_dayOf_346 : decode cX12_dayOf 346 = .ok (.iastore, 1) := by decide +kernel
theorem dX12_dayOf_347 : decode cX12_dayOf 347 = .ok (.aload_n 0, 1) := by decide +kernel
theorem dX12_dayOf_348 : decode cX12_dayOf 348 = .ok (.dup, 1) := by decide +kernel
theorem dX12_dayOf_349 : decode cX12_dayOf 349 = .ok (.getfield 149, 3) := by decide +kernel
theorem dX12_dayOf_352 : decode cX12_dayOf 352 = .ok (.iconst 0, 1) := by decide +kernel
theorem dX12_dayOf_353 : decode cX12_dayOf 353 = .ok (.iload 15, 2) := by decide +kernel
theorem dX12_dayOf_355 : decode cX12_dayOf 355 = .ok (.aload_n 0, 1) := by decide +kernel
theorem dX12_dayOf_356 : decode cX12_dayOf 356 = .ok (.getfield 13, 3) := by decide +kernel
theorem dX12_dayOf_359 : decode cX12_dayOf 359 = .ok (.iload 10, 2) := by decide +kernel
theorem dX12_dayOf_361 : decode cX12_dayOf 361 = .ok (.iaload, 1) := by decide +kernel
theorem dX12_dayOf_362 : decode cX12_dayOf 362 = .ok (.isub, 1) := by decide +kernel
theorem dX12_dayOf_363 : decode cX12_dayOf 363 = .ok (.invokestatic 134, 3) := by decide +kernel
theorem dX12_dayOf_366 : decode cX12_dayOf 366 = .ok (.iadd, 1) := by decide +kernel
theorem dX12_dayOf_367 : decode cX12_dayOf 367 = .ok (.putfield 149, 3) := by decide +kernel
theorem dX12_dayOf_370 : decode cX12_dayOf 370 = .ok (.aload_n 0, 1) := by decide +kernel
theorem dX12_dayOf_371 : decode cX12_dayOf 371 = .ok (.dup, 1) := by decide +kernel
theorem dX12_dayOf_372 : decode cX12_dayOf 372 = .ok (.getfield 152, 3) := by decide +kernel
theorem dX12_dayOf_375 : decode cX12_dayOf 375 = .ok (.iconst 0, 1) := by decide +kernel
theorem dX12_dayOf_376 : decode cX12_dayOf 376 = .ok (.iload 15, 2) := by decide +kernel
theorem dX12_dayOf_378 : decode cX12_dayOf 378 = .ok (.aload_n 0, 1) := by decide +kernel
theorem dX12_dayOf_379 : decode cX12_dayOf 379 = .ok (.getfield 13, 3) := by decide +kernel
theorem dX12_dayOf_382 : decode cX12_dayOf 382 = .ok (.iload 10, 2) := by decide +kernel
theorem dX12_dayOf_384 : decode cX12_dayOf 384 = .ok (.iaload, 1) := by decide +kernel
theorem dX12_dayOf_385 : decode cX12_dayOf 385 = .ok (.isub, 1) := by decide +kernel
theorem dX12_dayOf_386 : decode cX12_dayOf 386 = .ok (.invokestatic 134, 3) := by decide +kernel
theorem dX12_dayOf_389 : decode cX12_dayOf 389 = .ok (.aload_n 0, 1) := by decide +kernel
theorem dX12_dayOf_390 : decode cX12_dayOf 390 = .ok (.getfield 19, 3) := by decide +kernel
theorem dX12_dayOf_393 : decode cX12_dayOf 393 = .ok (.iload 10, 2) := by decide +kernel
theorem dX12_dayOf_395 : decode cX12_dayOf 395 = .ok (.iaload, 1) := by decide +kernel
theorem dX12_dayOf_396 : decode cX12_dayOf 396 = .ok (.imul, 1) := by decide +kernel
theorem dX12_dayOf_397 : decode cX12_dayOf 397 = .ok (.iadd, 1) := by decide +kernel
theorem dX12_dayOf_398 : decode cX12_dayOf 398 = .ok (.putfield 152, 3) := by decide +kernel
theorem dX12_dayOf_401 : decode cX12_dayOf 401 = .ok (.aload_n 0, 1) := by decide +kernel
theorem dX12_dayOf_402 : decode cX12_dayOf 402 = .ok (.dup, 1) := by decide +kernel
theorem dX12_dayOf_403 : decode cX12_dayOf 403 = .ok (.getfield 155, 3) := by decide +kernel
theorem dX12_dayOf_406 : decode cX12_dayOf 406 = .ok (.iconst 0, 1) := by decide +kernel
theorem dX12_dayOf_407 : decode cX12_dayOf 407 = .ok (.aload_n 0, 1) := by decide +kernel
theorem dX12_dayOf_408 : decode cX12_dayOf 408 = .ok (.getfield 13, 3) := by decide +kernel
theorem dX12_dayOf_411 : decode cX12_dayOf 411 = .ok (.iload 10, 2) := by decide +kernel
theorem dX12_dayOf_413 : decode cX12_dayOf 413 = .ok (.iaload, 1) := by decide +kernel
theorem dX12_dayOf_414 : decode cX12_dayOf 414 = .ok (.iload 15, 2) := by decide +kernel
theorem dX12_dayOf_416 : decode cX12_dayOf 416 = .ok (.isub, 1) := by decide +kernel
theorem dX12_dayOf_417 : decode cX12_dayOf 417 = .ok (.invokestatic 134, 3) := by decide +kernel
theorem dX12_dayOf_420 : decode cX12_dayOf 420 = .ok (.iadd, 1) := by decide +kernel
theorem dX12_dayOf_421 : decode cX12_dayOf 421 = .ok (.putfield 155, 3) := by decide +kernel
theorem dX12_dayOf_424 : decode cX12_dayOf 424 = .ok (.sipush 719, 3) := by decide +kernel
theorem dX12_dayOf_427 : decode cX12_dayOf 427 = .ok (.iload 15, 2) := by decide +kernel
theorem dX12_dayOf_429 : decode cX12_dayOf 429 = .ok (.aload_n 0, 1) := by decide +kernel
theorem dX12_dayOf_430 : decode cX12_dayOf 430 = .ok (.getfield 13, 3) := by decide +kernel
theorem dX12_dayOf_433 : decode cX12_dayOf 433 = .ok (.iload 10, 2) := by decide +kernel
theorem dX12_dayOf_435 : decode cX12_dayOf 435 = .ok (.iaload, 1) := by decide +kernel
theorem dX12_dayOf_436 : decode cX12_dayOf 436 = .ok (.invokestatic 134, 3) := by decide +kernel
theorem dX12_dayOf_439 : decode cX12_dayOf 439 = .ok (.invokestatic 167, 3) := by decide +kernel
theorem dX12_dayOf_442 : decode cX12_dayOf 442 = .ok (.istore 8, 2) := by decide +kernel
theorem dX12_dayOf_444 : decode cX12_dayOf 444 = .ok (.iinc 10 1, 3) := by decide +kernel
theorem dX12_dayOf_447 : decode cX12_dayOf 447 = .ok (.goto (-379), 3) := by decide +kernel
theorem dX12_dayOf_450 : decode cX12_dayOf 450 = .ok (.aload_n 0, 1) := by decide +kernel
theorem dX12_dayOf_451 : decode cX12_dayOf 451 = .ok (.getfield 142, 3) := by decide +kernel
theorem dX12_dayOf_454 : decode cX12_dayOf 454 = .ok (.aload_n 0, 1) := by decide +kernel
theorem dX12_dayOf_455 : decode cX12_dayOf 455 = .ok (.getfield 152, 3) := by decide +kernel
theorem dX12_dayOf_458 : decode cX12_dayOf 458 = .ok (.iadd, 1) := by decide +kernel
theorem dX12_dayOf_459 : decode cX12_dayOf 459 = .ok (.ireturn, 1) := by decide +kernel
theorem dX12_bestOf_0 : decode cX12_bestOf 0 = .ok (.iconst 0, 1) := by decide +kernel
theorem dX12_bestOf_1 : decode cX12_bestOf 1 = .ok (.istore 4, 2) := by decide +kernel
theorem dX12_bestOf_3 : decode cX12_bestOf 3 = .ok (.aload_n 0, 1) := by decide +kernel
theorem dX12_bestOf_4 : decode cX12_bestOf 4 = .ok (.iconst 2, 1) := by decide +kernel
theorem dX12_bestOf_5 : decode cX12_bestOf 5 = .ok (.iconst 0, 1) := by decide +kernel
theorem dX12_bestOf_6 : decode cX12_bestOf 6 = .ok (.iload_n 1, 1) := by decide +kernel
theorem dX12_bestOf_7 : decode cX12_bestOf 7 = .ok (.iload_n 2, 1) := by decide +kernel
theorem dX12_bestOf_8 : decode cX12_bestOf 8 = .ok (.iload_n 3, 1) := by decide +kernel
theorem dX12_bestOf_9 : decode cX12_bestOf 9 = .ok (.invokevirtual 170, 3) := by decide +kernel
theorem dX12_bestOf_12 : decode cX12_bestOf 12 = .ok (.istore 5, 2) := by decide +kernel
theorem dX12_bestOf_14 : decode cX12_bestOf 14 = .ok (.iconst 1, 1) := by decide +kernel
theorem dX12_bestOf_15 : decode cX12_bestOf 15 = .ok (.istore 6, 2) := by decide +kernel
theorem dX12_bestOf_17 : decode cX12_bestOf 17 = .ok (.iload 6, 2) := by decide +kernel
theorem dX12_bestOf_19 : decode cX12_bestOf 19 = .ok (.bipush 10, 2) := by decide +kernel
theorem dX12_bestOf_21 : decode cX12_bestOf 21 = .ok (.if_icmp .ge 36, 3) := by decide +kernel
theorem dX12_bestOf_24 : decode cX12_bestOf 24 = .ok (.aload_n 0, 1) := by decide +kernel
theorem dX12_bestOf_25 : decode cX12_bestOf 25 = .ok (.iconst 2, 1) := by decide +kernel
theorem dX12_bestOf_26 : decode cX12_bestOf 26 = .ok (.iload 6, 2) := by decide +kernel
theorem dX12_bestOf_28 : decode cX12_bestOf 28 = .ok (.iload_n 1, 1) := by decide +kernel
theorem dX12_bestOf_29 : decode cX12_bestOf 29 = .ok (.iload_n 2, 1) := by decide +kernel
theorem dX12_bestOf_30 : decode cX12_bestOf 30 = .ok (.iload_n 3, 1) := by decide +kernel
theorem dX12_bestOf_31 : decode cX12_bestOf 31 = .ok (.invokevirtual 170, 3) := by decide +kernel
theorem dX12_bestOf_34 : decode cX12_bestOf 34 = .ok (.istore 7, 2) := by decide +kernel
theorem dX12_bestOf_36 : decode cX12_bestOf 36 = .ok (.iload 7, 2) := by decide +kernel
theorem dX12_bestOf_38 : decode cX12_bestOf 38 = .ok (.iload 5, 2) := by decide +kernel
theorem dX12_bestOf_40 : decode cX12_bestOf 40 = .ok (.if_icmp .ge 11, 3) := by decide +kernel
theorem dX12_bestOf_43 : decode cX12_bestOf 43 = .ok (.iload 7, 2) := by decide +kernel
theorem dX12_bestOf_45 : decode cX12_bestOf 45 = .ok (.istore 5, 2) := by decide +kernel
theorem dX12_bestOf_47 : decode cX12_bestOf 47 = .ok (.iload 6, 2) := by decide +kernel
theorem dX12_bestOf_49 : decode cX12_bestOf 49 = .ok (.istore 4, 2) := by decide +kernel
theorem dX12_bestOf_51 : decode cX12_bestOf 51 = .ok (.iinc 6 1, 3) := by decide +kernel
theorem dX12_bestOf_54 : decode cX12_bestOf 54 = .ok (.goto (-37), 3) := by decide +kernel
theorem dX12_bestOf_57 : decode cX12_bestOf 57 = .ok (.iload 4, 2) := by decide +kernel
theorem dX12_bestOf_59 : decode cX12_bestOf 59 = .ok (.ireturn, 1) := by decide +kernel
theorem dX12_dayOf__0 : decode cX12_dayOf_ 0 = .ok (.aload_n 0, 1) := by decide +kernel
theorem dX12_dayOf__1 : decode cX12_dayOf_ 1 = .ok (.aload_n 0, 1) := by decide +kernel
theorem dX12_dayOf__2 : decode cX12_dayOf_ 2 = .ok (.getfield 22, 3) := by decide +kernel
theorem dX12_dayOf__5 : decode cX12_dayOf_ 5 = .ok (.iload_n 1, 1) := by decide +kernel
theorem dX12_dayOf__6 : decode cX12_dayOf_ 6 = .ok (.iaload, 1) := by decide +kernel
theorem dX12_dayOf__7 : decode cX12_dayOf_ 7 = .ok (.aload_n 0, 1) := by decide +kernel
theorem dX12_dayOf__8 : decode cX12_dayOf_ 8 = .ok (.getfield 25, 3) := by decide +kernel
theorem dX12_dayOf__11 : decode cX12_dayOf_ 11 = .ok (.iload_n 1, 1) := by decide +kernel
theorem dX12_dayOf__12 : decode cX12_dayOf_ 12 = .ok (.iaload, 1) := by decide +kernel
theorem dX12_dayOf__13 : decode cX12_dayOf_ 13 = .ok (.aload_n 0, 1) := by decide +kernel
theorem dX12_dayOf__14 : decode cX12_dayOf_ 14 = .ok (.getfield 28, 3) := by decide +kernel
theorem dX12_dayOf__17 : decode cX12_dayOf_ 17 = .ok (.iload_n 1, 1) := by decide +kernel
theorem dX12_dayOf__18 : decode cX12_dayOf_ 18 = .ok (.iaload, 1) := by decide +kernel
theorem dX12_dayOf__19 : decode cX12_dayOf_ 19 = .ok (.aload_n 0, 1) := by decide +kernel
theorem dX12_dayOf__20 : decode cX12_dayOf_ 20 = .ok (.getfield 31, 3) := by decide +kernel
theorem dX12_dayOf__23 : decode cX12_dayOf_ 23 = .ok (.iload_n 1, 1) := by decide +kernel
theorem dX12_dayOf__24 : decode cX12_dayOf_ 24 = .ok (.iaload, 1) := by decide +kernel
theorem dX12_dayOf__25 : decode cX12_dayOf_ 25 = .ok (.aload_n 0, 1) := by decide +kernel
theorem dX12_dayOf__26 : decode cX12_dayOf_ 26 = .ok (.getfield 7, 3) := by decide +kernel
theorem dX12_dayOf__29 : decode cX12_dayOf_ 29 = .ok (.iconst 3, 1) := by decide +kernel
theorem dX12_dayOf__30 : decode cX12_dayOf_ 30 = .ok (.iaload, 1) := by decide +kernel
theorem dX12_dayOf__31 : decode cX12_dayOf_ 31 = .ok (.invokevirtual 170, 3) := by decide +kernel
theorem dX12_dayOf__34 : decode cX12_dayOf_ 34 = .ok (.ireturn, 1) := by decide +kernel
theorem dX12_day_0 : decode cX12_day 0 = .ok (.aload_n 0, 1) := by decide +kernel
theorem dX12_day_1 : decode cX12_day 1 = .ok (.iload_n 1, 1) := by decide +kernel
theorem dX12_day_2 : decode cX12_day 2 = .ok (.invokevirtual 123, 3) := by decide +kernel
theorem dX12_day_5 : decode cX12_day 5 = .ok (.ifCond .eq 12, 3) := by decide +kernel
theorem dX12_day_8 : decode cX12_day 8 = .ok (.iload_n 2, 1) := by decide +kernel
theorem dX12_day_9 : decode cX12_day 9 = .ok (.iconst 0, 1) := by decide +kernel
theorem dX12_day_10 : decode cX12_day 10 = .ok (.iconst 4, 1) := by decide +kernel
theorem dX12_day_11 : decode cX12_day 11 = .ok (.invokestatic 100, 3) := by decide +kernel
theorem dX12_day_14 : decode cX12_day 14 = .ok (.ifCond .ne 5, 3) := by decide +kernel
theorem dX12_day_17 : decode cX12_day 17 = .ok (.iconst (-1), 1) := by decide +kernel
theorem dX12_day_18 : decode cX12_day 18 = .ok (.ireturn, 1) := by decide +kernel
theorem dX12_day_19 : decode cX12_day 19 = .ok (.aload_n 0, 1) := by decide +kernel
theorem dX12_day_20 : decode cX12_day 20 = .ok (.iload_n 1, 1) := by decide +kernel
theorem dX12_day_21 : decode cX12_day 21 = .ok (.invokevirtual 174, 3) := by decide +kernel
theorem dX12_day_24 : decode cX12_day 24 = .ok (.istore_n 3, 1) := by decide +kernel
theorem dX12_day_25 : decode cX12_day 25 = .ok (.iload_n 2, 1) := by decide +kernel
theorem dX12_day_26 : decode cX12_day 26 = .ok (.ifCond .ne 7, 3) := by decide +kernel
theorem dX12_day_29 : decode cX12_day 29 = .ok (.iload_n 3, 1) := by decide +kernel
theorem dX12_day_30 : decode cX12_day 30 = .ok (.goto 43, 3) := by decide +kernel
theorem dX12_day_33 : decode cX12_day 33 = .ok (.iload_n 2, 1) := by decide +kernel
theorem dX12_day_34 : decode cX12_day 34 = .ok (.iconst 1, 1) := by decide +kernel
theorem dX12_day_35 : decode cX12_day 35 = .ok (.if_icmp .ne 10, 3) := by decide +kernel
theorem dX12_day_38 : decode cX12_day 38 = .ok (.aload_n 0, 1) := by decide +kernel
theorem dX12_day_39 : decode cX12_day 39 = .ok (.getfield 146, 3) := by decide +kernel
theorem dX12_day_42 : decode cX12_day 42 = .ok (.goto 31, 3) := by decide +kernel
theorem dX12_day_45 : decode cX12_day 45 = .ok (.iload_n 2, 1) := by decide +kernel
theorem dX12_day_46 : decode cX12_day 46 = .ok (.iconst 2, 1) := by decide +kernel
theorem dX12_day_47 : decode cX12_day 47 = .ok (.if_icmp .ne 10, 3) := by decide +kernel
theorem dX12_day_50 : decode cX12_day 50 = .ok (.aload_n 0, 1) := by decide +kernel
theorem dX12_day_51 : decode cX12_day 51 = .ok (.getfield 149, 3) := by decide +kernel
theorem dX12_day_54 : decode cX12_day 54 = .ok (.goto 19, 3) := by decide +kernel
theorem dX12_day_57 : decode cX12_day 57 = .ok (.iload_n 2, 1) := by decide +kernel
theorem dX12_day_58 : decode cX12_day 58 = .ok (.iconst 3, 1) := by decide +kernel
theorem dX12_day_59 : decode cX12_day 59 = .ok (.if_icmp .ne 10, 3) := by decide +kernel
theorem dX12_day_62 : decode cX12_day 62 = .ok (.aload_n 0, 1) := by decide +kernel
theorem dX12_day_63 : decode cX12_day 63 = .ok (.getfield 155, 3) := by decide +kernel
theorem dX12_day_66 : decode cX12_day 66 = .ok (.goto 7, 3) := by decide +kernel
theorem dX12_day_69 : decode cX12_day 69 = .ok (.aload_n 0, 1) := by decide +kernel
theorem dX12_day_70 : decode cX12_day 70 = .ok (.getfield 142, 3) := by decide +kernel
theorem dX12_day_73 : decode cX12_day 73 = .ok (.ireturn, 1) := by decide +kernel
theorem dX12_look_0 : decode cX12_look 0 = .ok (.aload_n 0, 1) := by decide +kernel
theorem dX12_look_1 : decode cX12_look 1 = .ok (.iload_n 1, 1) := by decide +kernel
theorem dX12_look_2 : decode cX12_look 2 = .ok (.invokevirtual 123, 3) := by decide +kernel
theorem dX12_look_5 : decode cX12_look 5 = .ok (.ifCond .eq 7, 3) := by decide +kernel
theorem dX12_look_8 : decode cX12_look 8 = .ok (.iload_n 2, 1) := by decide +kernel
theorem dX12_look_9 : decode cX12_look 9 = .ok (.ifCond .ge 5, 3) := by decide +kernel
theorem dX12_look_12 : decode cX12_look 12 = .ok (.iconst (-1), 1) := by decide +kernel
theorem dX12_look_13 : decode cX12_look 13 = .ok (.ireturn, 1) := by decide +kernel
theorem dX12_look_14 : decode cX12_look 14 = .ok (.aload_n 0, 1) := by decide +kernel
theorem dX12_look_15 : decode cX12_look 15 = .ok (.iload_n 1, 1) := by decide +kernel
theorem dX12_look_16 : decode cX12_look 16 = .ok (.invokevirtual 174, 3) := by decide +kernel
theorem dX12_look_19 : decode cX12_look 19 = .ok (.pop, 1) := by decide +kernel
theorem dX12_look_20 : decode cX12_look 20 = .ok (.iload_n 2, 1) := by decide +kernel
theorem dX12_look_21 : decode cX12_look 21 = .ok (.aload_n 0, 1) := by decide +kernel
theorem dX12_look_22 : decode cX12_look 22 = .ok (.getfield 146, 3) := by decide +kernel
theorem dX12_look_25 : decode cX12_look 25 = .ok (.if_icmp .ge 12, 3) := by decide +kernel
theorem dX12_look_28 : decode cX12_look 28 = .ok (.aload_n 0, 1) := by decide +kernel
theorem dX12_look_29 : decode cX12_look 29 = .ok (.getfield 64, 3) := by decide +kernel
theorem dX12_look_32 : decode cX12_look 32 = .ok (.iload_n 2, 1) := by decide +kernel
theorem dX12_look_33 : decode cX12_look 33 = .ok (.iaload, 1) := by decide +kernel
theorem dX12_look_34 : decode cX12_look 34 = .ok (.goto 5, 3) := by decide +kernel
theorem dX12_look_37 : decode cX12_look 37 = .ok (.bipush (-4), 2) := by decide +kernel
theorem dX12_look_39 : decode cX12_look 39 = .ok (.ireturn, 1) := by decide +kernel
theorem dX12_comes_0 : decode cX12_comes 0 = .ok (.aload_n 0, 1) := by decide +kernel
theorem dX12_comes_1 : decode cX12_comes 1 = .ok (.iload_n 1, 1) := by decide +kernel
theorem dX12_comes_2 : decode cX12_comes 2 = .ok (.invokevirtual 123, 3) := by decide +kernel
theorem dX12_comes_5 : decode cX12_comes 5 = .ok (.ifCond .eq 11, 3) := by decide +kernel
theorem dX12_comes_8 : decode cX12_comes 8 = .ok (.aload_n 0, 1) := by decide +kernel
theorem dX12_comes_9 : decode cX12_comes 9 = .ok (.iload_n 2, 1) := by decide +kernel
theorem dX12_comes_10 : decode cX12_comes 10 = .ok (.invokevirtual 120, 3) := by decide +kernel
theorem dX12_comes_13 : decode cX12_comes 13 = .ok (.ifCond .ne 5, 3) := by decide +kernel
theorem dX12_comes_16 : decode cX12_comes 16 = .ok (.iconst (-1), 1) := by decide +kernel
theorem dX12_comes_17 : decode cX12_comes 17 = .ok (.ireturn, 1) := by decide +kernel
theorem dX12_comes_18 : decode cX12_comes 18 = .ok (.aload_n 0, 1) := by decide +kernel
theorem dX12_comes_19 : decode cX12_comes 19 = .ok (.iload_n 1, 1) := by decide +kernel
theorem dX12_comes_20 : decode cX12_comes 20 = .ok (.invokevirtual 174, 3) := by decide +kernel
theorem dX12_comes_23 : decode cX12_comes 23 = .ok (.pop, 1) := by decide +kernel
theorem dX12_comes_24 : decode cX12_comes 24 = .ok (.aload_n 0, 1) := by decide +kernel
theorem dX12_comes_25 : decode cX12_comes 25 = .ok (.getfield 67, 3) := by decide +kernel
theorem dX12_comes_28 : decode cX12_comes 28 = .ok (.iload_n 2, 1) := by decide +kernel
theorem dX12_comes_29 : decode cX12_comes 29 = .ok (.iaload, 1) := by decide +kernel
theorem dX12_comes_30 : decode cX12_comes 30 = .ok (.ireturn, 1) := by decide +kernel
theorem dX12_bestFigure_0 : decode cX12_bestFigure 0 = .ok (.aload_n 0, 1) := by decide +kernel
theorem dX12_bestFigure_1 : decode cX12_bestFigure 1 = .ok (.iload_n 1, 1) := by decide +kernel
theorem dX12_bestFigure_2 : decode cX12_bestFigure 2 = .ok (.invokevirtual 123, 3) := by decide +kernel
theorem dX12_bestFigure_5 : decode cX12_bestFigure 5 = .ok (.ifCond .eq 28, 3) := by decide +kernel
theorem dX12_bestFigure_8 : decode cX12_bestFigure 8 = .ok (.aload_n 0, 1) := by decide +kernel
theorem dX12_bestFigure_9 : decode cX12_bestFigure 9 = .ok (.aload_n 0, 1) := by decide +kernel
theorem dX12_bestFigure_10 : decode cX12_bestFigure 10 = .ok (.getfield 28, 3) := by decide +kernel
theorem dX12_bestFigure_13 : decode cX12_bestFigure 13 = .ok (.iload_n 1, 1) := by decide +kernel
theorem dX12_bestFigure_14 : decode cX12_bestFigure 14 = .ok (.iaload, 1) := by decide +kernel
theorem dX12_bestFigure_15 : decode cX12_bestFigure 15 = .ok (.aload_n 0, 1) := by decide +kernel
theorem dX12_bestFigure_16 : decode cX12_bestFigure 16 = .ok (.getfield 31, 3) := by decide +kernel
theorem dX12_bestFigure_19 : decode cX12_bestFigure 19 = .ok (.iload_n 1, 1) := by decide +kernel
theorem dX12_bestFigure_20 : decode cX12_bestFigure 20 = .ok (.iaload, 1) := by decide +kernel
theorem dX12_bestFigure_21 : decode cX12_bestFigure 21 = .ok (.aload_n 0, 1) := by decide +kernel
theorem dX12_bestFigure_22 : decode cX12_bestFigure 22 = .ok (.getfield 7, 3) := by decide +kernel
theorem dX12_bestFigure_25 : decode cX12_bestFigure 25 = .ok (.iconst 3, 1) := by decide +kernel
theorem dX12_bestFigure_26 : decode cX12_bestFigure 26 = .ok (.iaload, 1) := by decide +kernel
theorem dX12_bestFigure_27 : decode cX12_bestFigure 27 = .ok (.invokevirtual 139, 3) := by decide +kernel
theorem dX12_bestFigure_30 : decode cX12_bestFigure 30 = .ok (.goto 4, 3) := by decide +kernel
theorem dX12_bestFigure_33 : decode cX12_bestFigure 33 = .ok (.iconst (-1), 1) := by decide +kernel
theorem dX12_bestFigure_34 : decode cX12_bestFigure 34 = .ok (.ireturn, 1) := by decide +kernel
theorem dX12_always_0 : decode cX12_always 0 = .ok (.aload_n 0, 1) := by decide +kernel
theorem dX12_always_1 : decode cX12_always 1 = .ok (.iload_n 1, 1) := by decide +kernel
theorem dX12_always_2 : decode cX12_always 2 = .ok (.invokevirtual 123, 3) := by decide +kernel
theorem dX12_always_5 : decode cX12_always 5 = .ok (.ifCond .ne 5, 3) := by decide +kernel
theorem dX12_always_8 : decode cX12_always 8 = .ok (.iconst (-1), 1) := by decide +kernel
theorem dX12_always_9 : decode cX12_always 9 = .ok (.ireturn, 1) := by decide +kernel
theorem dX12_always_10 : decode cX12_always 10 = .ok (.iconst 0, 1) := by decide +kernel
theorem dX12_always_11 : decode cX12_always 11 = .ok (.istore_n 2, 1) := by decide +kernel
theorem dX12_always_12 : decode cX12_always 12 = .ok (.iload_n 2, 1) := by decide +kernel
theorem dX12_always_13 : decode cX12_always 13 = .ok (.bipush 10, 2) := by decide +kernel
theorem dX12_always_15 : decode cX12_always 15 = .ok (.if_icmp .ge 43, 3) := by decide +kernel
theorem dX12_always_18 : decode cX12_always 18 = .ok (.aload_n 0, 1) := by decide +kernel
theorem dX12_always_19 : decode cX12_always 19 = .ok (.iconst 1, 1) := by decide +kernel
theorem dX12_always_20 : decode cX12_always 20 = .ok (.iload_n 2, 1) := by decide +kernel
theorem dX12_always_21 : decode cX12_always 21 = .ok (.aload_n 0, 1) := by decide +kernel
theorem dX12_always_22 : decode cX12_always 22 = .ok (.getfield 28, 3) := by decide +kernel
theorem dX12_always_25 : decode cX12_always 25 = .ok (.iload_n 1, 1) := by decide +kernel
theorem dX12_always_26 : decode cX12_always 26 = .ok (.iaload, 1) := by decide +kernel
theorem dX12_always_27 : decode cX12_always 27 = .ok (.aload_n 0, 1) := by decide +kernel
theorem dX12_always_28 : decode cX12_always 28 = .ok (.getfield 31, 3) := by decide +kernel
theorem dX12_always_31 : decode cX12_always 31 = .ok (.iload_n 1, 1) := by decide +kernel
theorem dX12_always_32 : decode cX12_always 32 = .ok (.iaload, 1) := by decide +kernel
theorem dX12_always_33 : decode cX12_always 33 = .ok (.aload_n 0, 1) := by decide +kernel
theorem dX12_always_34 : decode cX12_always 34 = .ok (.getfield 7, 3) := by decide +kernel
theorem dX12_always_37 : decode cX12_always 37 = .ok (.iconst 3, 1) := by decide +kernel
theorem dX12_always_38 : decode cX12_always 38 = .ok (.iaload, 1) := by decide +kernel
theorem dX12_always_39 : decode cX12_always 39 = .ok (.invokevirtual 170, 3) := by decide +kernel
theorem dX12_always_42 : decode cX12_always 42 = .ok (.pop, 1) := by decide +kernel
theorem dX12_always_43 : decode cX12_always 43 = .ok (.aload_n 0, 1) := by decide +kernel
theorem dX12_always_44 : decode cX12_always 44 = .ok (.getfield 149, 3) := by decide +kernel
theorem dX12_always_47 : decode cX12_always 47 = .ok (.ifCond .ne 5, 3) := by decide +kernel
theorem dX12_always_50 : decode cX12_always 50 = .ok (.iload_n 2, 1) := by decide +kernel
theorem dX12_always_51 : decode cX12_always 51 = .ok (.ireturn, 1) := by decide +kernel
theorem dX12_always_52 : decode cX12_always 52 = .ok (.iinc 2 1, 3) := by decide +kernel
theorem dX12_always_55 : decode cX12_always 55 = .ok (.goto (-43), 3) := by decide +kernel
theorem dX12_always_58 : decode cX12_always 58 = .ok (.bipush (-4), 2) := by decide +kernel
theorem dX12_always_60 : decode cX12_always 60 = .ok (.ireturn, 1) := by decide +kernel
theorem dX12_pays__0 : decode cX12_pays_ 0 = .ok (.aload_n 0, 1) := by decide +kernel
theorem dX12_pays__1 : decode cX12_pays_ 1 = .ok (.iload_n 1, 1) := by decide +kernel
theorem dX12_pays__2 : decode cX12_pays_ 2 = .ok (.invokevirtual 123, 3) := by decide +kernel
theorem dX12_pays__5 : decode cX12_pays_ 5 = .ok (.ifCond .eq 41, 3) := by decide +kernel
theorem dX12_pays__8 : decode cX12_pays_ 8 = .ok (.aload_n 0, 1) := by decide +kernel
theorem dX12_pays__9 : decode cX12_pays_ 9 = .ok (.iconst 0, 1) := by decide +kernel
theorem dX12_pays__10 : decode cX12_pays_ 10 = .ok (.aload_n 0, 1) := by decide +kernel
theorem dX12_pays__11 : decode cX12_pays_ 11 = .ok (.getfield 25, 3) := by decide +kernel
theorem dX12_pays__14 : decode cX12_pays_ 14 = .ok (.iload_n 1, 1) := by decide +kernel
theorem dX12_pays__15 : decode cX12_pays_ 15 = .ok (.iaload, 1) := by decide +kernel
theorem dX12_pays__16 : decode cX12_pays_ 16 = .ok (.aload_n 0, 1) := by decide +kernel
theorem dX12_pays__17 : decode cX12_pays_ 17 = .ok (.getfield 28, 3) := by decide +kernel
theorem dX12_pays__20 : decode cX12_pays_ 20 = .ok (.iload_n 1, 1) := by decide +kernel
theorem dX12_pays__21 : decode cX12_pays_ 21 = .ok (.iaload, 1) := by decide +kernel
theorem dX12_pays__22 : decode cX12_pays_ 22 = .ok (.aload_n 0, 1) := by decide +kernel
theorem dX12_pays__23 : decode cX12_pays_ 23 = .ok (.getfield 31, 3) := by decide +kernel
theorem dX12_pays__26 : decode cX12_pays_ 26 = .ok (.iload_n 1, 1) := by decide +kernel
theorem dX12_pays__27 : decode cX12_pays_ 27 = .ok (.iaload, 1) := by decide +kernel
theorem dX12_pays__28 : decode cX12_pays_ 28 = .ok (.aload_n 0, 1) := by decide +kernel
theorem dX12_pays__29 : decode cX12_pays_ 29 = .ok (.getfield 7, 3) := by decide +kernel
theorem dX12_pays__32 : decode cX12_pays_ 32 = .ok (.iconst 3, 1) := by decide +kernel
theorem dX12_pays__33 : decode cX12_pays_ 33 = .ok (.iaload, 1) := by decide +kernel
theorem dX12_pays__34 : decode cX12_pays_ 34 = .ok (.invokevirtual 170, 3) := by decide +kernel
theorem dX12_pays__37 : decode cX12_pays_ 37 = .ok (.aload_n 0, 1) := by decide +kernel
theorem dX12_pays__38 : decode cX12_pays_ 38 = .ok (.iload_n 1, 1) := by decide +kernel
theorem dX12_pays__39 : decode cX12_pays_ 39 = .ok (.invokevirtual 174, 3) := by decide +kernel
theorem dX12_pays__42 : decode cX12_pays_ 42 = .ok (.isub, 1) := by decide +kernel
theorem dX12_pays__43 : decode cX12_pays_ 43 = .ok (.goto 5, 3) := by decide +kernel
theorem dX12_pays__46 : decode cX12_pays_ 46 = .ok (.ldc 129, 2) := by decide +kernel
theorem dX12_pays__48 : decode cX12_pays_ 48 = .ok (.ireturn, 1) := by decide +kernel
theorem dX12_bestKind_0 : decode cX12_bestKind 0 = .ok (.aload_n 0, 1) := by decide +kernel
theorem dX12_bestKind_1 : decode cX12_bestKind 1 = .ok (.iload_n 1, 1) := by decide +kernel
theorem dX12_bestKind_2 : decode cX12_bestKind 2 = .ok (.invokevirtual 123, 3) := by decide +kernel
theorem dX12_bestKind_5 : decode cX12_bestKind 5 = .ok (.ifCond .ne 5, 3) := by decide +kernel
theorem dX12_bestKind_8 : decode cX12_bestKind 8 = .ok (.iconst (-1), 1) := by decide +kernel
theorem dX12_bestKind_9 : decode cX12_bestKind 9 = .ok (.ireturn, 1) := by decide +kernel
theorem dX12_bestKind_10 : decode cX12_bestKind 10 = .ok (.iconst 0, 1) := by decide +kernel
theorem dX12_bestKind_11 : decode cX12_bestKind 11 = .ok (.istore_n 2, 1) := by decide +kernel
theorem dX12_bestKind_12 : decode cX12_bestKind 12 = .ok (.iconst 0, 1) := by decide +kernel
theorem dX12_bestKind_13 : decode cX12_bestKind 13 = .ok (.istore_n 3, 1) := by decide +kernel
theorem dX12_bestKind_14 : decode cX12_bestKind 14 = .ok (.iconst 0, 1) := by decide +kernel
theorem dX12_bestKind_15 : decode cX12_bestKind 15 = .ok (.istore 4, 2) := by decide +kernel
theorem dX12_bestKind_17 : decode cX12_bestKind 17 = .ok (.iload 4, 2) := by decide +kernel
theorem dX12_bestKind_19 : decode cX12_bestKind 19 = .ok (.bipush 8, 2) := by decide +kernel
theorem dX12_bestKind_21 : decode cX12_bestKind 21 = .ok (.if_icmp .ge 58, 3) := by decide +kernel
theorem dX12_bestKind_24 : decode cX12_bestKind 24 = .ok (.aload_n 0, 1) := by decide +kernel
theorem dX12_bestKind_25 : decode cX12_bestKind 25 = .ok (.iload 4, 2) := by decide +kernel
theorem dX12_bestKind_27 : decode cX12_bestKind 27 = .ok (.aload_n 0, 1) := by decide +kernel
theorem dX12_bestKind_28 : decode cX12_bestKind 28 = .ok (.getfield 25, 3) := by decide +kernel
theorem dX12_bestKind_31 : decode cX12_bestKind 31 = .ok (.iload_n 1, 1) := by decide +kernel
theorem dX12_bestKind_32 : decode cX12_bestKind 32 = .ok (.iaload, 1) := by decide +kernel
theorem dX12_bestKind_33 : decode cX12_bestKind 33 = .ok (.aload_n 0, 1) := by decide +kernel
theorem dX12_bestKind_34 : decode cX12_bestKind 34 = .ok (.getfield 28, 3) := by decide +kernel
theorem dX12_bestKind_37 : decode cX12_bestKind 37 = .ok (.iload_n 1, 1) := by decide +kernel
theorem dX12_bestKind_38 : decode cX12_bestKind 38 = .ok (.iaload, 1) := by decide +kernel
theorem dX12_bestKind_39 : decode cX12_bestKind 39 = .ok (.aload_n 0, 1) := by decide +kernel
theorem dX12_bestKind_40 : decode cX12_bestKind 40 = .ok (.getfield 31, 3) := by decide +kernel
theorem dX12_bestKind_43 : decode cX12_bestKind 43 = .ok (.iload_n 1, 1) := by decide +kernel
theorem dX12_bestKind_44 : decode cX12_bestKind 44 = .ok (.iaload, 1) := by decide +kernel
theorem dX12_bestKind_45 : decode cX12_bestKind 45 = .ok (.aload_n 0, 1) := by decide +kernel
theorem dX12_bestKind_46 : decode cX12_bestKind 46 = .ok (.getfield 7, 3) := by decide +kernel
theorem dX12_bestKind_49 : decode cX12_bestKind 49 = .ok (.iconst 3, 1) := by decide +kernel
theorem dX12_bestKind_50 : decode cX12_bestKind 50 = .ok (.iaload, 1) := by decide +kernel
theorem dX12_bestKind_51 : decode cX12_bestKind 51 = .ok (.invokevirtual 170, 3) := by decide +kernel
theorem dX12_bestKind_54 : decode cX12_bestKind 54 = .ok (.istore 5, 2) := by decide +kernel
theorem dX12_bestKind_56 : decode cX12_bestKind 56 = .ok (.iload 4, 2) := by decide +kernel
theorem dX12_bestKind_58 : decode cX12_bestKind 58 = .ok (.ifCond .eq 9, 3) := by decide +kernel
theorem dX12_bestKind_61 : decode cX12_bestKind 61 = .ok (.iload 5, 2) := by decide +kernel
theorem dX12_bestKind_63 : decode cX12_bestKind 63 = .ok (.iload_n 3, 1) := by decide +kernel
theorem dX12_bestKind_64 : decode cX12_bestKind 64 = .ok (.if_icmp .ge 9, 3) := by decide +kernel
theorem dX12_bestKind_67 : decode cX12_bestKind 67 = .ok (.iload 5, 2) := by decide +kernel
theorem dX12_bestKind_69 : decode cX12_bestKind 69 = .ok (.istore_n 3, 1) := by decide +kernel
theorem dX12_bestKind_70 : decode cX12_bestKind 70 = .ok (.iload 4, 2) := by decide +kernel
theorem dX12_bestKind_72 : decode cX12_bestKind 72 = .ok (.istore_n 2, 1) := by decide +kernel
theorem dX12_bestKind_73 : decode cX12_bestKind 73 = .ok (.iinc 4 1, 3) := by decide +kernel
theorem dX12_bestKind_76 : decode cX12_bestKind 76 = .ok (.goto (-59), 3) := by decide +kernel
theorem dX12_bestKind_79 : decode cX12_bestKind 79 = .ok (.iload_n 2, 1) := by decide +kernel
theorem dX12_bestKind_80 : decode cX12_bestKind 80 = .ok (.ireturn, 1) := by decide +kernel
theorem dX12_edge_0 : decode cX12_edge 0 = .ok (.aload_n 0, 1) := by decide +kernel
theorem dX12_edge_1 : decode cX12_edge 1 = .ok (.iload_n 1, 1) := by decide +kernel
theorem dX12_edge_2 : decode cX12_edge 2 = .ok (.invokevirtual 123, 3) := by decide +kernel
theorem dX12_edge_5 : decode cX12_edge 5 = .ok (.ifCond .eq 11, 3) := by decide +kernel
theorem dX12_edge_8 : decode cX12_edge 8 = .ok (.aload_n 0, 1) := by decide +kernel
theorem dX12_edge_9 : decode cX12_edge 9 = .ok (.iload_n 2, 1) := by decide +kernel
theorem dX12_edge_10 : decode cX12_edge 10 = .ok (.invokevirtual 120, 3) := by decide +kernel
theorem dX12_edge_13 : decode cX12_edge 13 = .ok (.ifCond .ne 5, 3) := by decide +kernel
theorem dX12_edge_16 : decode cX12_edge 16 = .ok (.iconst (-1), 1) := by decide +kernel
theorem dX12_edge_17 : decode cX12_edge 17 = .ok (.ireturn, 1) := by decide +kernel
theorem dX12_edge_18 : decode cX12_edge 18 = .ok (.iconst 0, 1) := by decide +kernel
theorem dX12_edge_19 : decode cX12_edge 19 = .ok (.istore_n 3, 1) := by decide +kernel
theorem dX12_edge_20 : decode cX12_edge 20 = .ok (.iload_n 3, 1) := by decide +kernel
theorem dX12_edge_21 : decode cX12_edge 21 = .ok (.bipush 10, 2) := by decide +kernel
theorem dX12_edge_23 : decode cX12_edge 23 = .ok (.if_icmp .ge 51, 3) := by decide +kernel
theorem dX12_edge_26 : decode cX12_edge 26 = .ok (.aload_n 0, 1) := by decide +kernel
theorem dX12_edge_27 : decode cX12_edge 27 = .ok (.iconst 2, 1) := by decide +kernel
theorem dX12_edge_28 : decode cX12_edge 28 = .ok (.iload_n 3, 1) := by decide +kernel
theorem dX12_edge_29 : decode cX12_edge 29 = .ok (.aload_n 0, 1) := by decide +kernel
theorem dX12_edge_30 : decode cX12_edge 30 = .ok (.getfield 28, 3) := by decide +kernel
theorem dX12_edge_33 : decode cX12_edge 33 = .ok (.iload_n 1, 1) := by decide +kernel
theorem dX12_edge_34 : decode cX12_edge 34 = .ok (.iaload, 1) := by decide +kernel
theorem dX12_edge_35 : decode cX12_edge 35 = .ok (.aload_n 0, 1) := by decide +kernel
theorem dX12_edge_36 : decode cX12_edge 36 = .ok (.getfield 31, 3) := by decide +kernel
theorem dX12_edge_39 : decode cX12_edge 39 = .ok (.iload_n 1, 1) := by decide +kernel
theorem dX12_edge_40 : decode cX12_edge 40 = .ok (.iaload, 1) := by decide +kernel
theorem dX12_edge_41 : decode cX12_edge 41 = .ok (.aload_n 0, 1) := by decide +kernel
theorem dX12_edge_42 : decode cX12_edge 42 = .ok (.getfield 7, 3) := by decide +kernel
theorem dX12_edge_45 : decode cX12_edge 45 = .ok (.iconst 3, 1) := by decide +kernel
theorem dX12_edge_46 : decode cX12_edge 46 = .ok (.iaload, 1) := by decide +kernel
theorem dX12_edge_47 : decode cX12_edge 47 = .ok (.invokevirtual 170, 3) := by decide +kernel
theorem dX12_edge_50 : decode cX12_edge 50 = .ok (.pop, 1) := by decide +kernel
theorem dX12_edge_51 : decode cX12_edge 51 = .ok (.aload_n 0, 1) := by decide +kernel
theorem dX12_edge_52 : decode cX12_edge 52 = .ok (.getfield 67, 3) := by decide +kernel
theorem dX12_edge_55 : decode cX12_edge 55 = .ok (.iload_n 2, 1) := by decide +kernel
theorem dX12_edge_56 : decode cX12_edge 56 = .ok (.iaload, 1) := by decide +kernel
theorem dX12_edge_57 : decode cX12_edge 57 = .ok (.aload_n 0, 1) := by decide +kernel
theorem dX12_edge_58 : decode cX12_edge 58 = .ok (.getfield 13, 3) := by decide +kernel
theorem dX12_edge_61 : decode cX12_edge 61 = .ok (.iload_n 2, 1) := by decide +kernel
theorem dX12_edge_62 : decode cX12_edge 62 = .ok (.iaload, 1) := by decide +kernel
theorem dX12_edge_63 : decode cX12_edge 63 = .ok (.if_icmp .gt 5, 3) := by decide +kernel
theorem dX12_edge_66 : decode cX12_edge 66 = .ok (.iload_n 3, 1) := by decide +kernel
theorem dX12_edge_67 : decode cX12_edge 67 = .ok (.ireturn, 1) := by decide +kernel
theorem dX12_edge_68 : decode cX12_edge 68 = .ok (.iinc 3 1, 3) := by decide +kernel
theorem dX12_edge_71 : decode cX12_edge 71 = .ok (.goto (-51), 3) := by decide +kernel
theorem dX12_edge_74 : decode cX12_edge 74 = .ok (.bipush (-4), 2) := by decide +kernel
theorem dX12_edge_76 : decode cX12_edge 76 = .ok (.ireturn, 1) := by decide +kernel
theorem dX12_waits_0 : decode cX12_waits 0 = .ok (.iload_n 1, 1) := by decide +kernel
theorem dX12_waits_1 : decode cX12_waits 1 = .ok (.invokestatic 112, 3) := by decide +kernel
theorem dX12_waits_4 : decode cX12_waits 4 = .ok (.ifCond .eq 13, 3) := by decide +kernel
theorem dX12_waits_7 : decode cX12_waits 7 = .ok (.iload_n 2, 1) := by decide +kernel
theorem dX12_waits_8 : decode cX12_waits 8 = .ok (.iconst 0, 1) := by decide +kernel
theorem dX12_waits_9 : decode cX12_waits 9 = .ok (.bipush 20, 2) := by decide +kernel
theorem dX12_waits_11 : decode cX12_waits 11 = .ok (.invokestatic 100, 3) := by decide +kernel
theorem dX12_waits_14 : decode cX12_waits 14 = .ok (.ifCond .ne 5, 3) := by decide +kernel
theorem dX12_waits_17 : decode cX12_waits 17 = .ok (.iconst (-1), 1) := by decide +kernel
theorem dX12_waits_18 : decode cX12_waits 18 = .ok (.ireturn, 1) := by decide +kernel
theorem dX12_waits_19 : decode cX12_waits 19 = .ok (.iload_n 1, 1) := by decide +kernel
theorem dX12_waits_20 : decode cX12_waits 20 = .ok (.istore_n 3, 1) := by decide +kernel
theorem dX12_waits_21 : decode cX12_waits 21 = .ok (.iload_n 3, 1) := by decide +kernel
theorem dX12_waits_22 : decode cX12_waits 22 = .ok (.sipush 719, 3) := by decide +kernel
theorem dX12_waits_25 : decode cX12_waits 25 = .ok (.if_icmp .gt 27, 3) := by decide +kernel
theorem dX12_waits_28 : decode cX12_waits 28 = .ok (.aload_n 0, 1) := by decide +kernel
theorem dX12_waits_29 : decode cX12_waits 29 = .ok (.getfield 7, 3) := by decide +kernel
theorem dX12_waits_32 : decode cX12_waits 32 = .ok (.iconst 3, 1) := by decide +kernel
theorem dX12_waits_33 : decode cX12_waits 33 = .ok (.iaload, 1) := by decide +kernel
theorem dX12_waits_34 : decode cX12_waits 34 = .ok (.iload_n 3, 1) := by decide +kernel
theorem dX12_waits_35 : decode cX12_waits 35 = .ok (.invokestatic 116, 3) := by decide +kernel
theorem dX12_waits_38 : decode cX12_waits 38 = .ok (.iload_n 2, 1) := by decide +kernel
theorem dX12_waits_39 : decode cX12_waits 39 = .ok (.if_icmp .gt 7, 3) := by decide +kernel
theorem dX12_waits_42 : decode cX12_waits 42 = .ok (.iload_n 3, 1) := by decide +kernel
theorem dX12_waits_43 : decode cX12_waits 43 = .ok (.iload_n 1, 1) := by decide +kernel
theorem dX12_waits_44 : decode cX12_waits 44 = .ok (.isub, 1) := by decide +kernel
theorem dX12_waits_45 : decode cX12_waits 45 = .ok (.ireturn, 1) := by decide +kernel
theorem dX12_waits_46 : decode cX12_waits 46 = .ok (.iinc 3 1, 3) := by decide +kernel
theorem dX12_waits_49 : decode cX12_waits 49 = .ok (.goto (-28), 3) := by decide +kernel
theorem dX12_waits_52 : decode cX12_waits 52 = .ok (.bipush (-4), 2) := by decide +kernel
theorem dX12_waits_54 : decode cX12_waits 54 = .ok (.ireturn, 1) := by decide +kernel
theorem dX12_learn_0 : decode cX12_learn 0 = .ok (.iload_n 1, 1) := by decide +kernel
theorem dX12_learn_1 : decode cX12_learn 1 = .ok (.iconst 0, 1) := by decide +kernel
theorem dX12_learn_2 : decode cX12_learn 2 = .ok (.bipush 7, 2) := by decide +kernel
theorem dX12_learn_4 : decode cX12_learn 4 = .ok (.invokestatic 100, 3) := by decide +kernel
theorem dX12_learn_7 : decode cX12_learn 7 = .ok (.ifCond .eq 12, 3) := by decide +kernel
theorem dX12_learn_10 : decode cX12_learn 10 = .ok (.iload_n 2, 1) := by decide +kernel
theorem dX12_learn_11 : decode cX12_learn 11 = .ok (.iconst 0, 1) := by decide +kernel
theorem dX12_learn_12 : decode cX12_learn 12 = .ok (.iconst 2, 1) := by decide +kernel
theorem dX12_learn_13 : decode cX12_learn 13 = .ok (.invokestatic 100, 3) := by decide +kernel
theorem dX12_learn_16 : decode cX12_learn 16 = .ok (.ifCond .ne 5, 3) := by decide +kernel
theorem dX12_learn_19 : decode cX12_learn 19 = .ok (.iconst (-1), 1) := by decide +kernel
theorem dX12_learn_20 : decode cX12_learn 20 = .ok (.ireturn, 1) := by decide +kernel
theorem dX12_learn_21 : decode cX12_learn 21 = .ok (.aload_n 0, 1) := by decide +kernel
theorem dX12_learn_22 : decode cX12_learn 22 = .ok (.getfield 76, 3) := by decide +kernel
theorem dX12_learn_25 : decode cX12_learn 25 = .ok (.iload_n 1, 1) := by decide +kernel
theorem dX12_learn_26 : decode cX12_learn 26 = .ok (.iaload, 1) := by decide +kernel
theorem dX12_learn_27 : decode cX12_learn 27 = .ok (.ifCond .ne 6, 3) := by decide +kernel
theorem dX12_learn_30 : decode cX12_learn 30 = .ok (.bipush (-11), 2) := by decide +kernel
theorem dX12_learn_32 : decode cX12_learn 32 = .ok (.ireturn, 1) := by decide +kernel
theorem dX12_learn_33 : decode cX12_learn 33 = .ok (.aload_n 0, 1) := by decide +kernel
theorem dX12_learn_34 : decode cX12_learn 34 = .ok (.getfield 76, 3) := by decide +kernel
theorem dX12_learn_37 : decode cX12_learn 37 = .ok (.iload_n 1, 1) := by decide +kernel
theorem dX12_learn_38 : decode cX12_learn 38 = .ok (.iaload, 1) := by decide +kernel
theorem dX12_learn_39 : decode cX12_learn 39 = .ok (.iconst 1, 1) := by decide +kernel
theorem dX12_learn_40 : decode cX12_learn 40 = .ok (.if_icmp .eq 13, 3) := by decide +kernel
theorem dX12_learn_43 : decode cX12_learn 43 = .ok (.aload_n 0, 1) := by decide +kernel
theorem dX12_learn_44 : decode cX12_learn 44 = .ok (.getfield 79, 3) := by decide +kernel
theorem dX12_learn_47 : decode cX12_learn 47 = .ok (.iload_n 1, 1) := by decide +kernel
theorem dX12_learn_48 : decode cX12_learn 48 = .ok (.iaload, 1) := by decide +kernel
theorem dX12_learn_49 : decode cX12_learn 49 = .ok (.iconst 2, 1) := by decide +kernel
theorem dX12_learn_50 : decode cX12_learn 50 = .ok (.if_icmp .eq 6, 3) := by decide +kernel
theorem dX12_learn_53 : decode cX12_learn 53 = .ok (.bipush (-12), 2) := by decide +kernel
theorem dX12_learn_55 : decode cX12_learn 55 = .ok (.ireturn, 1) := by decide +kernel
theorem dX12_learn_56 : decode cX12_learn 56 = .ok (.aload_n 0, 1) := by decide +kernel
theorem dX12_learn_57 : decode cX12_learn 57 = .ok (.getfield 82, 3) := by decide +kernel
theorem dX12_learn_60 : decode cX12_learn 60 = .ok (.iload_n 1, 1) := by decide +kernel
theorem dX12_learn_61 : decode cX12_learn 61 = .ok (.iaload, 1) := by decide +kernel
theorem dX12_learn_62 : decode cX12_learn 62 = .ok (.iconst 3, 1) := by decide +kernel
theorem dX12_learn_63 : decode cX12_learn 63 = .ok (.irem, 1) := by decide +kernel
theorem dX12_learn_64 : decode cX12_learn 64 = .ok (.ifCond .ne 7, 3) := by decide +kernel
theorem dX12_learn_67 : decode cX12_learn 67 = .ok (.iconst 1, 1) := by decide +kernel
theorem dX12_learn_68 : decode cX12_learn 68 = .ok (.goto 4, 3) := by decide +kernel
theorem dX12_learn_71 : decode cX12_learn 71 = .ok (.iconst 0, 1) := by decide +kernel
theorem dX12_learn_72 : decode cX12_learn 72 = .ok (.istore_n 3, 1) := by decide +kernel
theorem dX12_learn_73 : decode cX12_learn 73 = .ok (.iconst 0, 1) := by decide +kernel
theorem dX12_learn_74 : decode cX12_learn 74 = .ok (.istore 4, 2) := by decide +kernel
theorem dX12_learn_76 : decode cX12_learn 76 = .ok (.iload 4, 2) := by decide +kernel
theorem dX12_learn_78 : decode cX12_learn 78 = .ok (.aload_n 0, 1) := by decide +kernel
theorem dX12_learn_79 : decode cX12_learn 79 = .ok (.getfield 82, 3) := by decide +kernel
theorem dX12_learn_82 : decode cX12_learn 82 = .ok (.iload_n 1, 1) := by decide +kernel
theorem dX12_learn_83 : decode cX12_learn 83 = .ok (.iaload, 1) := by decide +kernel
theorem dX12_learn_84 : decode cX12_learn 84 = .ok (.iconst 3, 1) := by decide +kernel
theorem dX12_learn_85 : decode cX12_learn 85 = .ok (.idiv, 1) := by decide +kernel
theorem dX12_learn_86 : decode cX12_learn 86 = .ok (.if_icmp .ge 77, 3) := by decide +kernel
theorem dX12_learn_89 : decode cX12_learn 89 = .ok (.iload_n 3, 1) := by decide +kernel
theorem dX12_learn_90 : decode cX12_learn 90 = .ok (.ifCond .eq 73, 3) := by decide +kernel
theorem dX12_learn_93 : decode cX12_learn 93 = .ok (.bipush 100, 2) := by decide +kernel
theorem dX12_learn_95 : decode cX12_learn 95 = .ok (.iload_n 1, 1) := by decide +kernel
theorem dX12_learn_96 : decode cX12_learn 96 = .ok (.imul, 1) := by decide +kernel
theorem dX12_learn_97 : decode cX12_learn 97 = .ok (.iconst 3, 1) := by decide +kernel
theorem dX12_learn_98 : decode cX12_learn 98 = .ok (.iload 4, 2) := by decide +kernel
theorem dX12_learn_100 : decode cX12_learn 100 = .ok (.imul, 1) := by decide +kernel
theorem dX12_learn_101 : decode cX12_learn 101 = .ok (.iadd, 1) := by decide +kernel
theorem dX12_learn_102 : decode cX12_learn 102 = .ok (.istore 5, 2) := by decide +kernel
theorem dX12_learn_104 : decode cX12_learn 104 = .ok (.aload_n 0, 1) := by decide +kernel
theorem dX12_learn_105 : decode cX12_learn 105 = .ok (.getfield 85, 3) := by decide +kernel
theorem dX12_learn_108 : decode cX12_learn 108 = .ok (.iload 5, 2) := by decide +kernel
theorem dX12_learn_110 : decode cX12_learn 110 = .ok (.iaload, 1) := by decide +kernel
theorem dX12_learn_111 : decode cX12_learn 111 = .ok (.invokestatic 112, 3) := by decide +kernel
theorem dX12_learn_114 : decode cX12_learn 114 = .ok (.ifCond .eq 41, 3) := by decide +kernel
theorem dX12_learn_117 : decode cX12_learn 117 = .ok (.aload_n 0, 1) := by decide +kernel
theorem dX12_learn_118 : decode cX12_learn 118 = .ok (.getfield 85, 3) := by decide +kernel
theorem dX12_learn_121 : decode cX12_learn 121 = .ok (.iload 5, 2) := by decide +kernel
theorem dX12_learn_123 : decode cX12_learn 123 = .ok (.iconst 1, 1) := by decide +kernel
theorem dX12_learn_124 : decode cX12_learn 124 = .ok (.iadd, 1) := by decide +kernel
theorem dX12_learn_125 : decode cX12_learn 125 = .ok (.iaload, 1) := by decide +kernel
theorem dX12_learn_126 : decode cX12_learn 126 = .ok (.invokestatic 112, 3) := by decide +kernel
theorem dX12_learn_129 : decode cX12_learn 129 = .ok (.ifCond .eq 26, 3) := by decide +kernel
theorem dX12_learn_132 : decode cX12_learn 132 = .ok (.aload_n 0, 1) := by decide +kernel
theorem dX12_learn_133 : decode cX12_learn 133 = .ok (.getfield 85, 3) := by decide +kernel
theorem dX12_learn_136 : decode cX12_learn 136 = .ok (.iload 5, 2) := by decide +kernel
theorem dX12_learn_138 : decode cX12_learn 138 = .ok (.iaload, 1) := by decide +kernel
theorem dX12_learn_139 : decode cX12_learn 139 = .ok (.aload_n 0, 1) := by decide +kernel
theorem dX12_learn_140 : decode cX12_learn 140 = .ok (.getfield 85, 3) := by decide +kernel
theorem dX12_learn_143 : decode cX12_learn 143 = .ok (.iload 5, 2) := by decide +kernel
theorem dX12_learn_145 : decode cX12_learn 145 = .ok (.iconst 1, 1) := by decide +kernel
theorem dX12_learn_146 : decode cX12_learn 146 = .ok (.iadd, 1) := by decide +kernel
theorem dX12_learn_147 : decode cX12_learn 147 = .ok (.iaload, 1) := by decide +kernel
theorem dX12_learn_148 : decode cX12_learn 148 = .ok (.if_icmp .ge 7, 3) := by decide +kernel
theorem dX12_learn_151 : decode cX12_learn 151 = .ok (.iconst 1, 1) := by decide +kernel
theorem dX12_learn_152 : decode cX12_learn 152 = .ok (.goto 4, 3) := by decide +kernel
theorem dX12_learn_155 : decode cX12_learn 155 = .ok (.iconst 0, 1) := by decide +kernel
theorem dX12_learn_156 : decode cX12_learn 156 = .ok (.istore_n 3, 1) := by decide +kernel
theorem dX12_learn_157 : decode cX12_learn 157 = .ok (.iinc 4 1, 3) := by decide +kernel
theorem dX12_learn_160 : decode cX12_learn 160 = .ok (.goto (-84), 3) := by decide +kernel
theorem dX12_learn_163 : decode cX12_learn 163 = .ok (.iload_n 3, 1) := by decide +kernel
theorem dX12_learn_164 : decode cX12_learn 164 = .ok (.ifCond .ne 6, 3) := by decide +kernel
theorem dX12_learn_167 : decode cX12_learn 167 = .ok (.bipush (-13), 2) := by decide +kernel
theorem dX12_learn_169 : decode cX12_learn 169 = .ok (.ireturn, 1) := by decide +kernel
theorem dX12_learn_170 : decode cX12_learn 170 = .ok (.iconst 0, 1) := by decide +kernel
theorem dX12_learn_171 : decode cX12_learn 171 = .ok (.istore 4, 2) := by decide +kernel
theorem dX12_learn_173 : decode cX12_learn 173 = .ok (.iconst 0, 1) := by decide +kernel
theorem dX12_learn_174 : decode cX12_learn 174 = .ok (.istore 5, 2) := by decide +kernel
theorem dX12_learn_176 : decode cX12_learn 176 = .ok (.iconst 0, 1) := by decide +kernel
theorem dX12_learn_177 : decode cX12_learn 177 = .ok (.istore 6, 2) := by decide +kernel
theorem dX12_learn_179 : decode cX12_learn 179 = .ok (.bipush (-20), 2) := by decide +kernel
theorem dX12_learn_181 : decode cX12_learn 181 = .ok (.istore 7, 2) := by decide +kernel
theorem dX12_learn_183 : decode cX12_learn 183 = .ok (.iload 7, 2) := by decide +kernel
theorem dX12_learn_185 : decode cX12_learn 185 = .ok (.bipush 20, 2) := by decide +kernel
theorem dX12_learn_187 : decode cX12_learn 187 = .ok (.if_icmp .gt 116, 3) := by decide +kernel
theorem dX12_learn_190 : decode cX12_learn 190 = .ok (.iconst 1, 1) := by decide +kernel
theorem dX12_learn_191 : decode cX12_learn 191 = .ok (.istore 8, 2) := by decide +kernel
theorem dX12_learn_193 : decode cX12_learn 193 = .ok (.iconst 0, 1) := by decide +kernel
theorem dX12_learn_194 : decode cX12_learn 194 = .ok (.istore 9, 2) := by decide +kernel
theorem dX12_learn_196 : decode cX12_learn 196 = .ok (.iload 9, 2) := by decide +kernel
theorem dX12_learn_198 : decode cX12_learn 198 = .ok (.aload_n 0, 1) := by decide +kernel
theorem dX12_learn_199 : decode cX12_learn 199 = .ok (.getfield 82, 3) := by decide +kernel
theorem dX12_learn_202 : decode cX12_learn 202 = .ok (.iload_n 1, 1) := by decide +kernel
theorem dX12_learn_203 : decode cX12_learn 203 = .ok (.iaload, 1) := by decide +kernel
theorem dX12_learn_204 : decode cX12_learn 204 = .ok (.iconst 3, 1) := by decide +kernel
theorem dX12_learn_205 : decode cX12_learn 205 = .ok (.idiv, 1) := by decide +kernel
theorem dX12_learn_206 : decode cX12_learn 206 = .ok (.if_icmp .ge 65, 3) := by decide +kernel
theorem dX12_learn_209 : decode cX12_learn 209 = .ok (.bipush 100, 2) := by decide +kernel
theorem dX12_learn_211 : decode cX12_learn 211 = .ok (.iload_n 1, 1) := by decide +kernel
theorem dX12_learn_212 : decode cX12_learn 212 = .ok (.imul, 1) := by decide +kernel
theorem dX12_learn_213 : decode cX12_learn 213 = .ok (.iconst 3, 1) := by decide +kernel
theorem dX12_learn_214 : decode cX12_learn 214 = .ok (.iload 9, 2) := by decide +kernel
theorem dX12_learn_216 : decode cX12_learn 216 = .ok (.imul, 1) := by decide +kernel
theorem dX12_learn_217 : decode cX12_learn 217 = .ok (.iadd, 1) := by decide +kernel
theorem dX12_learn_218 : decode cX12_learn 218 = .ok (.istore 10, 2) := by decide +kernel
theorem dX12_learn_220 : decode cX12_learn 220 = .ok (.iload 8, 2) := by decide +kernel
theorem dX12_learn_222 : decode cX12_learn 222 = .ok (.ifCond .eq 40, 3) := by decide +kernel
theorem dX12_learn_225 : decode cX12_learn 225 = .ok (.iload 7, 2) := by decide +kernel
theorem dX12_learn_227 : decode cX12_learn 227 = .ok (.aload_n 0, 1) := by decide +kernel
theorem dX12_learn_228 : decode cX12_learn 228 = .ok (.getfield 85, 3) := by decide +kernel
theorem dX12_learn_231 : decode cX12_learn 231 = .ok (.iload 10, 2) := by decide +kernel
theorem dX12_learn_233 : decode cX12_learn 233 = .ok (.iaload, 1) := by decide +kernel
theorem dX12_learn_234 : decode cX12_learn 234 = .ok (.aload_n 0, 1) := by decide +kernel
theorem dX12_learn_235 : decode cX12_learn 235 = .ok (.getfield 85, 3) := by decide +kernel
theorem dX12_learn_238 : decode cX12_learn 238 = .ok (.iload 10, 2) := by decide +kernel
theorem dX12_learn_240 : decode cX12_learn 240 = .ok (.iconst 1, 1) := by decide +kernel
theorem dX12_learn_241 : decode cX12_learn 241 = .ok (.iadd, 1) := by decide +kernel
theorem dX12_learn_242 : decode cX12_learn 242 = .ok (.iaload, 1) := by decide +kernel
theorem dX12_learn_243 : decode cX12_learn 243 = .ok (.invokestatic 130, 3) := by decide +kernel
theorem dX12_learn_246 : decode cX12_learn 246 = .ok (.aload_n 0, 1) := by decide +kernel
theorem dX12_learn_247 : decode cX12_learn 247 = .ok (.getfield 85, 3) := by decide +kernel
theorem dX12_learn_250 : decode cX12_learn 250 = .ok (.iload 10, 2) := by decide +kernel
theorem dX12_learn_252 : decode cX12_learn 252 = .ok (.iconst 2, 1) := by decide +kernel
theorem dX12_learn_253 : decode cX12_learn 253 = .ok (.iadd, 1) := by decide +kernel
theorem dX12_learn_254 : decode cX12_learn 254 = .ok (.iaload, 1) := by decide +kernel
theorem dX12_learn_255 : decode cX12_learn 255 = .ok (.if_icmp .ne 7, 3) := by decide +kernel
theorem dX12_learn_258 : decode cX12_learn 258 = .ok (.iconst 1, 1) := by decide +kernel
theorem dX12_learn_259 : decode cX12_learn 259 = .ok (.goto 4, 3) := by decide +kernel
theorem dX12_learn_262 : decode cX12_learn 262 = .ok (.iconst 0, 1) := by decide +kernel
theorem dX12_learn_263 : decode cX12_learn 263 = .ok (.istore 8, 2) := by decide +kernel
theorem dX12_learn_265 : decode cX12_learn 265 = .ok (.iinc 9 1, 3) := by decide +kernel
theorem dX12_learn_268 : decode cX12_learn 268 = .ok (.goto (-72), 3) := by decide +kernel
theorem dX12_learn_271 : decode cX12_learn 271 = .ok (.iload 8, 2) := by decide +kernel
theorem dX12_learn_273 : decode cX12_learn 273 = .ok (.ifCond .eq 24, 3) := by decide +kernel
theorem dX12_learn_276 : decode cX12_learn 276 = .ok (.iload 4, 2) := by decide +kernel
theorem dX12_learn_278 : decode cX12_learn 278 = .ok (.ifCond .ne 8, 3) := by decide +kernel
theorem dX12_learn_281 : decode cX12_learn 281 = .ok (.iload 7, 2) := by decide +kernel
theorem dX12_learn_283 : decode cX12_learn 283 = .ok (.goto 5, 3) := by decide +kernel
theorem dX12_learn_286 : decode cX12_learn 286 = .ok (.iload 5, 2) := by decide +kernel
theorem dX12_learn_288 : decode cX12_learn 288 = .ok (.istore 5, 2) := by decide +kernel
theorem dX12_learn_290 : decode cX12_learn 290 = .ok (.iload 7, 2) := by decide +kernel
theorem dX12_learn_292 : decode cX12_learn 292 = .ok (.istore 6, 2) := by decide +kernel
theorem dX12_learn_294 : decode cX12_learn 294 = .ok (.iinc 4 1, 3) := by decide +kernel
theorem dX12_learn_297 : decode cX12_learn 297 = .ok (.iinc 7 1, 3) := by decide +kernel
theorem dX12_learn_300 : decode cX12_learn 300 = .ok (.goto (-117), 3) := by decide +kernel
theorem dX12_learn_303 : decode cX12_learn 303 = .ok (.iload_n 2, 1) := by decide +kernel
theorem dX12_learn_304 : decode cX12_learn 304 = .ok (.ifCond .ne 8, 3) := by decide +kernel
theorem dX12_learn_307 : decode cX12_learn 307 = .ok (.iload 4, 2) := by decide +kernel
theorem dX12_learn_309 : decode cX12_learn 309 = .ok (.goto 28, 3) := by decide +kernel
theorem dX12_learn_312 : decode cX12_learn 312 = .ok (.iload 4, 2) := by decide +kernel
theorem dX12_learn_314 : decode cX12_learn 314 = .ok (.ifCond .ne 8, 3) := by decide +kernel
theorem dX12_learn_317 : decode cX12_learn 317 = .ok (.bipush (-4), 2) := by decide +kernel
theorem dX12_learn_319 : decode cX12_learn 319 = .ok (.goto 18, 3) := by decide +kernel
theorem dX12_learn_322 : decode cX12_learn 322 = .ok (.bipush 20, 2) := by decide +kernel
theorem dX12_learn_324 : decode cX12_learn 324 = .ok (.iload_n 2, 1) := by decide +kernel
theorem dX12_learn_325 : decode cX12_learn 325 = .ok (.iconst 1, 1) := by decide +kernel
theorem dX12_learn_326 : decode cX12_learn 326 = .ok (.if_icmp .ne 8, 3) := by decide +kernel
theorem dX12_learn_329 : decode cX12_learn 329 = .ok (.iload 5, 2) := by decide +kernel
theorem dX12_learn_331 : decode cX12_learn 331 = .ok (.goto 5, 3) := by decide +kernel
theorem dX12_learn_334 : decode cX12_learn 334 = .ok (.iload 6, 2) := by decide +kernel
theorem dX12_learn_336 : decode cX12_learn 336 = .ok (.iadd, 1) := by decide +kernel
theorem dX12_learn_337 : decode cX12_learn 337 = .ok (.ireturn, 1) := by decide +kernel
theorem dX12_shareOf_0 : decode cX12_shareOf 0 = .ok (.iload_n 0, 1) := by decide +kernel
theorem dX12_shareOf_1 : decode cX12_shareOf 1 = .ok (.iload_n 1, 1) := by decide +kernel
theorem dX12_shareOf_2 : decode cX12_shareOf 2 = .ok (.iadd, 1) := by decide +kernel
theorem dX12_shareOf_3 : decode cX12_shareOf 3 = .ok (.iconst 1, 1) := by decide +kernel
theorem dX12_shareOf_4 : decode cX12_shareOf 4 = .ok (.isub, 1) := by decide +kernel
theorem dX12_shareOf_5 : decode cX12_shareOf 5 = .ok (.iload_n 1, 1) := by decide +kernel
theorem dX12_shareOf_6 : decode cX12_shareOf 6 = .ok (.idiv, 1) := by decide +kernel
theorem dX12_shareOf_7 : decode cX12_shareOf 7 = .ok (.ireturn, 1) := by decide +kernel
theorem dX12_shared_0 : decode cX12_shared 0 = .ok (.iload_n 1, 1) := by decide +kernel
theorem dX12_shared_1 : decode cX12_shared 1 = .ok (.invokestatic 112, 3) := by decide +kernel
theorem dX12_shared_4 : decode cX12_shared 4 = .ok (.ifCond .eq 30, 3) := by decide +kernel
theorem dX12_shared_7 : decode cX12_shared 7 = .ok (.iload_n 2, 1) := by decide +kernel
theorem dX12_shared_8 : decode cX12_shared 8 = .ok (.iconst 1, 1) := by decide +kernel
theorem dX12_shared_9 : decode cX12_shared 9 = .ok (.bipush 9, 2) := by decide +kernel
theorem dX12_shared_11 : decode cX12_shared 11 = .ok (.invokestatic 100, 3) := by decide +kernel
theorem dX12_shared_14 : decode cX12_shared 14 = .ok (.ifCond .eq 20, 3) := by decide +kernel
theorem dX12_shared_17 : decode cX12_shared 17 = .ok (.aload_n 0, 1) := by decide +kernel
theorem dX12_shared_18 : decode cX12_shared 18 = .ok (.getfield 7, 3) := by decide +kernel
theorem dX12_shared_21 : decode cX12_shared 21 = .ok (.iconst 3, 1) := by decide +kernel
theorem dX12_shared_22 : decode cX12_shared 22 = .ok (.iaload, 1) := by decide +kernel
theorem dX12_shared_23 : decode cX12_shared 23 = .ok (.iload_n 1, 1) := by decide +kernel
theorem dX12_shared_24 : decode cX12_shared 24 = .ok (.invokestatic 116, 3) := by decide +kernel
theorem dX12_shared_27 : decode cX12_shared 27 = .ok (.iload_n 2, 1) := by decide +kernel
theorem dX12_shared_28 : decode cX12_shared 28 = .ok (.invokestatic 177, 3) := by decide +kernel
theorem dX12_shared_31 : decode cX12_shared 31 = .ok (.goto 4, 3) := by decide +kernel
theorem dX12_shared_34 : decode cX12_shared 34 = .ok (.iconst (-1), 1) := by decide +kernel
theorem dX12_shared_35 : decode cX12_shared 35 = .ok (.ireturn, 1) := by decide +kernel
theorem dX12_nine_0 : decode cX12_nine 0 = .ok (.iload_n 1, 1) := by decide +kernel
theorem dX12_nine_1 : decode cX12_nine 1 = .ok (.invokestatic 112, 3) := by decide +kernel
theorem dX12_nine_4 : decode cX12_nine 4 = .ok (.ifCond .eq 13, 3) := by decide +kernel
theorem dX12_nine_7 : decode cX12_nine 7 = .ok (.iload_n 2, 1) := by decide +kernel
theorem dX12_nine_8 : decode cX12_nine 8 = .ok (.iconst 1, 1) := by decide +kernel
theorem dX12_nine_9 : decode cX12_nine 9 = .ok (.bipush 20, 2) := by decide +kernel
theorem dX12_nine_11 : decode cX12_nine 11 = .ok (.invokestatic 100, 3) := by decide +kernel
theorem dX12_nine_14 : decode cX12_nine 14 = .ok (.ifCond .ne 5, 3) := by decide +kernel
theorem dX12_nine_17 : decode cX12_nine 17 = .ok (.iconst (-1), 1) := by decide +kernel
theorem dX12_nine_18 : decode cX12_nine 18 = .ok (.ireturn, 1) := by decide +kernel
theorem dX12_nine_19 : decode cX12_nine 19 = .ok (.iconst 1, 1) := by decide +kernel
theorem dX12_nine_20 : decode cX12_nine 20 = .ok (.istore_n 3, 1) := by decide +kernel
theorem dX12_nine_21 : decode cX12_nine 21 = .ok (.iload_n 3, 1) := by decide +kernel
theorem dX12_nine_22 : decode cX12_nine 22 = .ok (.bipush 10, 2) := by decide +kernel
theorem dX12_nine_24 : decode cX12_nine 24 = .ok (.if_icmp .ge 29, 3) := by decide +kernel
theorem dX12_nine_27 : decode cX12_nine 27 = .ok (.aload_n 0, 1) := by decide +kernel
theorem dX12_nine_28 : decode cX12_nine 28 = .ok (.getfield 7, 3) := by decide +kernel
theorem dX12_nine_31 : decode cX12_nine 31 = .ok (.iconst 3, 1) := by decide +kernel
theorem dX12_nine_32 : decode cX12_nine 32 = .ok (.iaload, 1) := by decide +kernel
theorem dX12_nine_33 : decode cX12_nine 33 = .ok (.iload_n 1, 1) := by decide +kernel
theorem dX12_nine_34 : decode cX12_nine 34 = .ok (.invokestatic 116, 3) := by decide +kernel
theorem dX12_nine_37 : decode cX12_nine 37 = .ok (.iload_n 3, 1) := by decide +kernel
theorem dX12_nine_38 : decode cX12_nine 38 = .ok (.invokestatic 177, 3) := by decide +kernel
theorem dX12_nine_41 : decode cX12_nine 41 = .ok (.iload_n 2, 1) := by decide +kernel
theorem dX12_nine_42 : decode cX12_nine 42 = .ok (.if_icmp .gt 5, 3) := by decide +kernel
theorem dX12_nine_45 : decode cX12_nine 45 = .ok (.iload_n 3, 1) := by decide +kernel
theorem dX12_nine_46 : decode cX12_nine 46 = .ok (.ireturn, 1) := by decide +kernel
theorem dX12_nine_47 : decode cX12_nine 47 = .ok (.iinc 3 1, 3) := by decide +kernel
theorem dX12_nine_50 : decode cX12_nine 50 = .ok (.goto (-29), 3) := by decide +kernel
theorem dX12_nine_53 : decode cX12_nine 53 = .ok (.bipush (-4), 2) := by decide +kernel
theorem dX12_nine_55 : decode cX12_nine 55 = .ok (.ireturn, 1) := by decide +kernel
theorem dX12_isSold_0 : decode cX12_isSold 0 = .ok (.iload_n 3, 1) := by decide +kernel
theorem dX12_isSold_1 : decode cX12_isSold 1 = .ok (.iload_n 2, 1) := by decide +kernel
theorem dX12_isSold_2 : decode cX12_isSold 2 = .ok (.iload 4, 2) := by decide +kernel
theorem dX12_isSold_4 : decode cX12_isSold 4 = .ok (.imul, 1) := by decide +kernel
theorem dX12_isSold_5 : decode cX12_isSold 5 = .ok (.iadd, 1) := by decide +kernel
theorem dX12_isSold_6 : decode cX12_isSold 6 = .ok (.aload_n 0, 1) := by decide +kernel
theorem dX12_isSold_7 : decode cX12_isSold 7 = .ok (.getfield 7, 3) := by decide +kernel
theorem dX12_isSold_10 : decode cX12_isSold 10 = .ok (.iconst 3, 1) := by decide +kernel
theorem dX12_isSold_11 : decode cX12_isSold 11 = .ok (.iaload, 1) := by decide +kernel
theorem dX12_isSold_12 : decode cX12_isSold 12 = .ok (.iload_n 1, 1) := by decide +kernel
theorem dX12_isSold_13 : decode cX12_isSold 13 = .ok (.invokestatic 116, 3) := by decide +kernel
theorem dX12_isSold_16 : decode cX12_isSold 16 = .ok (.if_icmp .ge 7, 3) := by decide +kernel
theorem dX12_isSold_19 : decode cX12_isSold 19 = .ok (.iconst 1, 1) := by decide +kernel
theorem dX12_isSold_20 : decode cX12_isSold 20 = .ok (.goto 4, 3) := by decide +kernel
theorem dX12_isSold_23 : decode cX12_isSold 23 = .ok (.iconst 0, 1) := by decide +kernel
theorem dX12_isSold_24 : decode cX12_isSold 24 = .ok (.ireturn, 1) := by decide +kernel
theorem dX12_buys_0 : decode cX12_buys 0 = .ok (.iload_n 1, 1) := by decide +kernel
theorem dX12_buys_1 : decode cX12_buys 1 = .ok (.invokestatic 112, 3) := by decide +kernel
theorem dX12_buys_4 : decode cX12_buys 4 = .ok (.ifCond .eq 34, 3) := by decide +kernel
theorem dX12_buys_7 : decode cX12_buys 7 = .ok (.iload_n 2, 1) := by decide +kernel
theorem dX12_buys_8 : decode cX12_buys 8 = .ok (.iconst 0, 1) := by decide +kernel
theorem dX12_buys_9 : decode cX12_buys 9 = .ok (.bipush 60, 2) := by decide +kernel
theorem dX12_buys_11 : decode cX12_buys 11 = .ok (.invokestatic 100, 3) := by decide +kernel
theorem dX12_buys_14 : decode cX12_buys 14 = .ok (.ifCond .eq 24, 3) := by decide +kernel
theorem dX12_buys_17 : decode cX12_buys 17 = .ok (.iload_n 3, 1) := by decide +kernel
theorem dX12_buys_18 : decode cX12_buys 18 = .ok (.iconst 0, 1) := by decide +kernel
theorem dX12_buys_19 : decode cX12_buys 19 = .ok (.bipush 12, 2) := by decide +kernel
theorem dX12_buys_21 : decode cX12_buys 21 = .ok (.invokestatic 100, 3) := by decide +kernel
theorem dX12_buys_24 : decode cX12_buys 24 = .ok (.ifCond .eq 14, 3) := by decide +kernel
theorem dX12_buys_27 : decode cX12_buys 27 = .ok (.iload 4, 2) := by decide +kernel
theorem dX12_buys_29 : decode cX12_buys 29 = .ok (.iconst 0, 1) := by decide +kernel
theorem dX12_buys_30 : decode cX12_buys 30 = .ok (.bipush 9, 2) := by decide +kernel
theorem dX12_buys_32 : decode cX12_buys 32 = .ok (.invokestatic 100, 3) := by decide +kernel
theorem dX12_buys_35 : decode cX12_buys 35 = .ok (.ifCond .ne 5, 3) := by decide +kernel
theorem dX12_buys_38 : decode cX12_buys 38 = .ok (.iconst (-1), 1) := by decide +kernel
theorem dX12_buys_39 : decode cX12_buys 39 = .ok (.ireturn, 1) := by decide +kernel
theorem dX12_buys_40 : decode cX12_buys 40 = .ok (.aload_n 0, 1) := by decide +kernel
theorem dX12_buys_41 : decode cX12_buys 41 = .ok (.iload_n 1, 1) := by decide +kernel
theorem dX12_buys_42 : decode cX12_buys 42 = .ok (.iload_n 2, 1) := by decide +kernel
theorem dX12_buys_43 : decode cX12_buys 43 = .ok (.iload_n 3, 1) := by decide +kernel
theorem dX12_buys_44 : decode cX12_buys 44 = .ok (.iload 4, 2) := by decide +kernel
theorem dX12_buys_46 : decode cX12_buys 46 = .ok (.invokevirtual 180, 3) := by decide +kernel
theorem dX12_buys_49 : decode cX12_buys 49 = .ok (.ifCond .eq 7, 3) := by decide +kernel
theorem dX12_buys_52 : decode cX12_buys 52 = .ok (.iconst 1, 1) := by decide +kernel
theorem dX12_buys_53 : decode cX12_buys 53 = .ok (.goto 4, 3) := by decide +kernel
theorem dX12_buys_56 : decode cX12_buys 56 = .ok (.iconst 0, 1) := by decide +kernel
theorem dX12_buys_57 : decode cX12_buys 57 = .ok (.ireturn, 1) := by decide +kernel
theorem dX12_rest_0 : decode cX12_rest 0 = .ok (.iload_n 1, 1) := by decide +kernel
theorem dX12_rest_1 : decode cX12_rest 1 = .ok (.invokestatic 112, 3) := by decide +kernel
theorem dX12_rest_4 : decode cX12_rest 4 = .ok (.ifCond .eq 23, 3) := by decide +kernel
theorem dX12_rest_7 : decode cX12_rest 7 = .ok (.iload_n 2, 1) := by decide +kernel
theorem dX12_rest_8 : decode cX12_rest 8 = .ok (.iconst 0, 1) := by decide +kernel
theorem dX12_rest_9 : decode cX12_rest 9 = .ok (.bipush 60, 2) := by decide +kernel
theorem dX12_rest_11 : decode cX12_rest 11 = .ok (.invokestatic 100, 3) := by decide +kernel
theorem dX12_rest_14 : decode cX12_rest 14 = .ok (.ifCond .eq 13, 3) := by decide +kernel
theorem dX12_rest_17 : decode cX12_rest 17 = .ok (.iload_n 3, 1) := by decide +kernel
theorem dX12_rest_18 : decode cX12_rest 18 = .ok (.iconst 0, 1) := by decide +kernel
theorem dX12_rest_19 : decode cX12_rest 19 = .ok (.bipush 9, 2) := by decide +kernel
theorem dX12_rest_21 : decode cX12_rest 21 = .ok (.invokestatic 100, 3) := by decide +kernel
theorem dX12_rest_24 : decode cX12_rest 24 = .ok (.ifCond .ne 5, 3) := by decide +kernel
theorem dX12_rest_27 : decode cX12_rest 27 = .ok (.iconst (-1), 1) := by decide +kernel
theorem dX12_rest_28 : decode cX12_rest 28 = .ok (.ireturn, 1) := by decide +kernel
theorem dX12_rest_29 : decode cX12_rest 29 = .ok (.bipush (-4), 2) := by decide +kernel
theorem dX12_rest_31 : decode cX12_rest 31 = .ok (.istore 4, 2) := by decide +kernel
theorem dX12_rest_33 : decode cX12_rest 33 = .ok (.iconst 0, 1) := by decide +kernel
theorem dX12_rest_34 : decode cX12_rest 34 = .ok (.istore 5, 2) := by decide +kernel
theorem dX12_rest_36 : decode cX12_rest 36 = .ok (.iload 5, 2) := by decide +kernel
theorem dX12_rest_38 : decode cX12_rest 38 = .ok (.bipush 13, 2) := by decide +kernel
theorem dX12_rest_40 : decode cX12_rest 40 = .ok (.if_icmp .ge 30, 3) := by decide +kernel
theorem dX12_rest_43 : decode cX12_rest 43 = .ok (.aload_n 0, 1) := by decide +kernel
theorem dX12_rest_44 : decode cX12_rest 44 = .ok (.iload_n 1, 1) := by decide +kernel
theorem dX12_rest_45 : decode cX12_rest 45 = .ok (.iload_n 2, 1) := by decide +kernel
theorem dX12_rest_46 : decode cX12_rest 46 = .ok (.iload 5, 2) := by decide +kernel
theorem dX12_rest_48 : decode cX12_rest 48 = .ok (.iload_n 3, 1) := by decide +kernel
theorem dX12_rest_49 : decode cX12_rest 49 = .ok (.invokevirtual 180, 3) := by decide +kernel
theorem dX12_rest_52 : decode cX12_rest 52 = .ok (.ifCond .eq 8, 3) := by decide +kernel
theorem dX12_rest_55 : decode cX12_rest 55 = .ok (.iload 5, 2) := by decide +kernel
theorem dX12_rest_57 : decode cX12_rest 57 = .ok (.goto 5, 3) := by decide +kernel
theorem dX12_rest_60 : decode cX12_rest 60 = .ok (.iload 4, 2) := by decide +kernel
theorem dX12_rest_62 : decode cX12_rest 62 = .ok (.istore 4, 2) := by decide +kernel
theorem dX12_rest_64 : decode cX12_rest 64 = .ok (.iinc 5 1, 3) := by decide +kernel
theorem dX12_rest_67 : decode cX12_rest 67 = .ok (.goto (-31), 3) := by decide +kernel
theorem dX12_rest_70 : decode cX12_rest 70 = .ok (.iload 4, 2) := by decide +kernel
theorem dX12_rest_72 : decode cX12_rest 72 = .ok (.ireturn, 1) := by decide +kernel
theorem dX12_otherPrice_0 : decode cX12_otherPrice 0 = .ok (.aload_n 0, 1) := by decide +kernel
theorem dX12_otherPrice_1 : decode cX12_otherPrice 1 = .ok (.getfield 7, 3) := by decide +kernel
theorem dX12_otherPrice_4 : decode cX12_otherPrice 4 = .ok (.iconst 3, 1) := by decide +kernel
theorem dX12_otherPrice_5 : decode cX12_otherPrice 5 = .ok (.iaload, 1) := by decide +kernel
theorem dX12_otherPrice_6 : decode cX12_otherPrice 6 = .ok (.iload_n 1, 1) := by decide +kernel
theorem dX12_otherPrice_7 : decode cX12_otherPrice 7 = .ok (.bipush 60, 2) := by decide +kernel
theorem dX12_otherPrice_9 : decode cX12_otherPrice 9 = .ok (.iadd, 1) := by decide +kernel
theorem dX12_otherPrice_10 : decode cX12_otherPrice 10 = .ok (.sipush 720, 3) := by decide +kernel
theorem dX12_otherPrice_13 : decode cX12_otherPrice 13 = .ok (.irem, 1) := by decide +kernel
theorem dX12_otherPrice_14 : decode cX12_otherPrice 14 = .ok (.invokestatic 116, 3) := by decide +kernel
theorem dX12_otherPrice_17 : decode cX12_otherPrice 17 = .ok (.ireturn, 1) := by decide +kernel
theorem dX12_cheaper_0 : decode cX12_cheaper 0 = .ok (.iload_n 1, 1) := by decide +kernel
theorem dX12_cheaper_1 : decode cX12_cheaper 1 = .ok (.invokestatic 112, 3) := by decide +kernel
theorem dX12_cheaper_4 : decode cX12_cheaper 4 = .ok (.ifCond .eq 24, 3) := by decide +kernel
theorem dX12_cheaper_7 : decode cX12_cheaper 7 = .ok (.aload_n 0, 1) := by decide +kernel
theorem dX12_cheaper_8 : decode cX12_cheaper 8 = .ok (.getfield 7, 3) := by decide +kernel
theorem dX12_cheaper_11 : decode cX12_cheaper 11 = .ok (.iconst 3, 1) := by decide +kernel
theorem dX12_cheaper_12 : decode cX12_cheaper 12 = .ok (.iaload, 1) := by decide +kernel
theorem dX12_cheaper_13 : decode cX12_cheaper 13 = .ok (.iload_n 1, 1) := by decide +kernel
theorem dX12_cheaper_14 : decode cX12_cheaper 14 = .ok (.invokestatic 116, 3) := by decide +kernel
theorem dX12_cheaper_17 : decode cX12_cheaper 17 = .ok (.aload_n 0, 1) := by decide +kernel
theorem dX12_cheaper_18 : decode cX12_cheaper 18 = .ok (.iload_n 1, 1) := by decide +kernel
theorem dX12_cheaper_19 : decode cX12_cheaper 19 = .ok (.invokevirtual 184, 3) := by decide +kernel
theorem dX12_cheaper_22 : decode cX12_cheaper 22 = .ok (.invokestatic 167, 3) := by decide +kernel
theorem dX12_cheaper_25 : decode cX12_cheaper 25 = .ok (.goto 4, 3) := by decide +kernel
theorem dX12_cheaper_28 : decode cX12_cheaper 28 = .ok (.iconst (-1), 1) := by decide +kernel
theorem dX12_cheaper_29 : decode cX12_cheaper 29 = .ok (.ireturn, 1) := by decide +kernel
theorem dX12_otherCheaper_0 : decode cX12_otherCheaper 0 = .ok (.iconst 0, 1) := by decide +kernel
theorem dX12_otherCheaper_1 : decode cX12_otherCheaper 1 = .ok (.istore_n 1, 1) := by decide +kernel
theorem dX12_otherCheaper_2 : decode cX12_otherCheaper 2 = .ok (.iconst 0, 1) := by decide +kernel
theorem dX12_otherCheaper_3 : decode cX12_otherCheaper 3 = .ok (.istore_n 2, 1) := by decide +kernel
theorem dX12_otherCheaper_4 : decode cX12_otherCheaper 4 = .ok (.iload_n 2, 1) := by decide +kernel
theorem dX12_otherCheaper_5 : decode cX12_otherCheaper 5 = .ok (.sipush 719, 3) := by decide +kernel
theorem dX12_otherCheaper_8 : decode cX12_otherCheaper 8 = .ok (.if_icmp .gt 35, 3) := by decide +kernel
theorem dX12_otherCheaper_11 : decode cX12_otherCheaper 11 = .ok (.iload_n 1, 1) := by decide +kernel
theorem dX12_otherCheaper_12 : decode cX12_otherCheaper 12 = .ok (.aload_n 0, 1) := by decide +kernel
theorem dX12_otherCheaper_13 : decode cX12_otherCheaper 13 = .ok (.iload_n 2, 1) := by decide +kernel
theorem dX12_otherCheaper_14 : decode cX12_otherCheaper 14 = .ok (.invokevirtual 184, 3) := by decide +kernel
theorem dX12_otherCheaper_17 : decode cX12_otherCheaper 17 = .ok (.aload_n 0, 1) := by decide +kernel
theorem dX12_otherCheaper_18 : decode cX12_otherCheaper 18 = .ok (.getfield 7, 3) := by decide +kernel
theorem dX12_otherCheaper_21 : decode cX12_otherCheaper 21 = .ok (.iconst 3, 1) := by decide +kernel
theorem dX12_otherCheaper_22 : decode cX12_otherCheaper 22 = .ok (.iaload, 1) := by decide +kernel
theorem dX12_otherCheaper_23 : decode cX12_otherCheaper 23 = .ok (.iload_n 2, 1) := by decide +kernel
theorem dX12_otherCheaper_24 : decode cX12_otherCheaper 24 = .ok (.invokestatic 116, 3) := by decide +kernel
theorem dX12_otherCheaper_27 : decode cX12_otherCheaper 27 = .ok (.if_icmp .ge 7, 3) := by decide +kernel
theorem dX12_otherCheaper_30 : decode cX12_otherCheaper 30 = .ok (.iconst 1, 1) := by decide +kernel
theorem dX12_otherCheaper_31 : decode cX12_otherCheaper 31 = .ok (.goto 4, 3) := by decide +kernel
theorem dX12_otherCheaper_34 : decode cX12_otherCheaper 34 = .ok (.iconst 0, 1) := by decide +kernel
theorem dX12_otherCheaper_35 : decode cX12_otherCheaper 35 = .ok (.iadd, 1) := by decide +kernel
theorem dX12_otherCheaper_36 : decode cX12_otherCheaper 36 = .ok (.istore_n 1, 1) := by decide +kernel
theorem dX12_otherCheaper_37 : decode cX12_otherCheaper 37 = .ok (.iinc 2 1, 3) := by decide +kernel
theorem dX12_otherCheaper_40 : decode cX12_otherCheaper 40 = .ok (.goto (-36), 3) := by decide +kernel
theorem dX12_otherCheaper_43 : decode cX12_otherCheaper 43 = .ok (.iload_n 1, 1) := by decide +kernel
theorem dX12_otherCheaper_44 : decode cX12_otherCheaper 44 = .ok (.ireturn, 1) := by decide +kernel
theorem dX12_byLaw_0 : decode cX12_byLaw 0 = .ok (.aload_n 0, 1) := by decide +kernel
theorem dX12_byLaw_1 : decode cX12_byLaw 1 = .ok (.iload_n 1, 1) := by decide +kernel
theorem dX12_byLaw_2 : decode cX12_byLaw 2 = .ok (.invokevirtual 123, 3) := by decide +kernel
theorem dX12_byLaw_5 : decode cX12_byLaw 5 = .ok (.ifCond .eq 44, 3) := by decide +kernel
theorem dX12_byLaw_8 : decode cX12_byLaw 8 = .ok (.iload_n 2, 1) := by decide +kernel
theorem dX12_byLaw_9 : decode cX12_byLaw 9 = .ok (.iconst 0, 1) := by decide +kernel
theorem dX12_byLaw_10 : decode cX12_byLaw 10 = .ok (.iconst 2, 1) := by decide +kernel
theorem dX12_byLaw_11 : decode cX12_byLaw 11 = .ok (.invokestatic 100, 3) := by decide +kernel
theorem dX12_byLaw_14 : decode cX12_byLaw 14 = .ok (.ifCond .eq 35, 3) := by decide +kernel
theorem dX12_byLaw_17 : decode cX12_byLaw 17 = .ok (.aload_n 0, 1) := by decide +kernel
theorem dX12_byLaw_18 : decode cX12_byLaw 18 = .ok (.aload_n 0, 1) := by decide +kernel
theorem dX12_byLaw_19 : decode cX12_byLaw 19 = .ok (.getfield 22, 3) := by decide +kernel
theorem dX12_byLaw_22 : decode cX12_byLaw 22 = .ok (.iload_n 1, 1) := by decide +kernel
theorem dX12_byLaw_23 : decode cX12_byLaw 23 = .ok (.iaload, 1) := by decide +kernel
theorem dX12_byLaw_24 : decode cX12_byLaw 24 = .ok (.aload_n 0, 1) := by decide +kernel
theorem dX12_byLaw_25 : decode cX12_byLaw 25 = .ok (.getfield 25, 3) := by decide +kernel
theorem dX12_byLaw_28 : decode cX12_byLaw 28 = .ok (.iload_n 1, 1) := by decide +kernel
theorem dX12_byLaw_29 : decode cX12_byLaw 29 = .ok (.iaload, 1) := by decide +kernel
theorem dX12_byLaw_30 : decode cX12_byLaw 30 = .ok (.aload_n 0, 1) := by decide +kernel
theorem dX12_byLaw_31 : decode cX12_byLaw 31 = .ok (.getfield 28, 3) := by decide +kernel
theorem dX12_byLaw_34 : decode cX12_byLaw 34 = .ok (.iload_n 1, 1) := by decide +kernel
theorem dX12_byLaw_35 : decode cX12_byLaw 35 = .ok (.iaload, 1) := by decide +kernel
theorem dX12_byLaw_36 : decode cX12_byLaw 36 = .ok (.aload_n 0, 1) := by decide +kernel
theorem dX12_byLaw_37 : decode cX12_byLaw 37 = .ok (.getfield 31, 3) := by decide +kernel
theorem dX12_byLaw_40 : decode cX12_byLaw 40 = .ok (.iload_n 1, 1) := by decide +kernel
theorem dX12_byLaw_41 : decode cX12_byLaw 41 = .ok (.iaload, 1) := by decide +kernel
theorem dX12_byLaw_42 : decode cX12_byLaw 42 = .ok (.iload_n 2, 1) := by decide +kernel
theorem dX12_byLaw_43 : decode cX12_byLaw 43 = .ok (.invokevirtual 170, 3) := by decide +kernel
theorem dX12_byLaw_46 : decode cX12_byLaw 46 = .ok (.goto 4, 3) := by decide +kernel
theorem dX12_byLaw_49 : decode cX12_byLaw 49 = .ok (.iconst (-1), 1) := by decide +kernel
theorem dX12_byLaw_50 : decode cX12_byLaw 50 = .ok (.ireturn, 1) := by decide +kernel
theorem dX12_sum_0 : decode cX12_sum 0 = .ok (.iconst 0, 1) := by decide +kernel
theorem dX12_sum_1 : decode cX12_sum 1 = .ok (.istore_n 1, 1) := by decide +kernel
theorem dX12_sum_2 : decode cX12_sum 2 = .ok (.iconst 0, 1) := by decide +kernel
theorem dX12_sum_3 : decode cX12_sum 3 = .ok (.istore_n 2, 1) := by decide +kernel
theorem dX12_sum_4 : decode cX12_sum 4 = .ok (.iload_n 2, 1) := by decide +kernel
theorem dX12_sum_5 : decode cX12_sum 5 = .ok (.aload_n 0, 1) := by decide +kernel
theorem dX12_sum_6 : decode cX12_sum 6 = .ok (.getfield 7, 3) := by decide +kernel
theorem dX12_sum_9 : decode cX12_sum 9 = .ok (.iconst 1, 1) := by decide +kernel
theorem dX12_sum_10 : decode cX12_sum 10 = .ok (.iaload, 1) := by decide +kernel
theorem dX12_sum_11 : decode cX12_sum 11 = .ok (.if_icmp .ge 17, 3) := by decide +kernel
theorem dX12_sum_14 : decode cX12_sum 14 = .ok (.iload_n 1, 1) := by decide +kernel
theorem dX12_sum_15 : decode cX12_sum 15 = .ok (.aload_n 0, 1) := by decide +kernel
theorem dX12_sum_16 : decode cX12_sum 16 = .ok (.iload_n 2, 1) := by decide +kernel
theorem dX12_sum_17 : decode cX12_sum 17 = .ok (.invokevirtual 174, 3) := by decide +kernel
theorem dX12_sum_20 : decode cX12_sum 20 = .ok (.iadd, 1) := by decide +kernel
theorem dX12_sum_21 : decode cX12_sum 21 = .ok (.istore_n 1, 1) := by decide +kernel
theorem dX12_sum_22 : decode cX12_sum 22 = .ok (.iinc 2 1, 3) := by decide +kernel
theorem dX12_sum_25 : decode cX12_sum 25 = .ok (.goto (-21), 3) := by decide +kernel
theorem dX12_sum_28 : decode cX12_sum 28 = .ok (.iload_n 1, 1) := by decide +kernel
theorem dX12_sum_29 : decode cX12_sum 29 = .ok (.ireturn, 1) := by decide +kernel
theorem dX12_order_0 : decode cX12_order 0 = .ok (.iconst 0, 1) := by decide +kernel
theorem dX12_order_1 : decode cX12_order 1 = .ok (.istore_n 1, 1) := by decide +kernel
theorem dX12_order_2 : decode cX12_order 2 = .ok (.iload_n 1, 1) := by decide +kernel
theorem dX12_order_3 : decode cX12_order 3 = .ok (.aload_n 0, 1) := by decide +kernel
theorem dX12_order_4 : decode cX12_order 4 = .ok (.getfield 7, 3) := by decide +kernel
theorem dX12_order_7 : decode cX12_order 7 = .ok (.iconst 1, 1) := by decide +kernel
theorem dX12_order_8 : decode cX12_order 8 = .ok (.iaload, 1) := by decide +kernel
theorem dX12_order_9 : decode cX12_order 9 = .ok (.if_icmp .ge 20, 3) := by decide +kernel
theorem dX12_order_12 : decode cX12_order 12 = .ok (.aload_n 0, 1) := by decide +kernel
theorem dX12_order_13 : decode cX12_order 13 = .ok (.getfield 70, 3) := by decide +kernel
theorem dX12_order_16 : decode cX12_order 16 = .ok (.iload_n 1, 1) := by decide +kernel
theorem dX12_order_17 : decode cX12_order 17 = .ok (.aload_n 0, 1) := by decide +kernel
theorem dX12_order_18 : decode cX12_order 18 = .ok (.iload_n 1, 1) := by decide +kernel
theorem dX12_order_19 : decode cX12_order 19 = .ok (.invokevirtual 174, 3) := by decide +kernel
theorem dX12_order_22 : decode cX12_order 22 = .ok (.iastore, 1) := by decide +kernel
theorem dX12_order_23 : decode cX12_order 23 = .ok (.iinc 1 1, 3) := by decide +kernel
theorem dX12_order_26 : decode cX12_order 26 = .ok (.goto (-24), 3) := by decide +kernel
theorem dX12_order_29 : decode cX12_order 29 = .ok (.iconst 0, 1) := by decide +kernel
theorem dX12_order_30 : decode cX12_order 30 = .ok (.istore_n 1, 1) := by decide +kernel
theorem dX12_order_31 : decode cX12_order 31 = .ok (.iconst 1, 1) := by decide +kernel
theorem dX12_order_32 : decode cX12_order 32 = .ok (.istore_n 2, 1) := by decide +kernel
theorem dX12_order_33 : decode cX12_order 33 = .ok (.iconst 0, 1) := by decide +kernel
theorem dX12_order_34 : decode cX12_order 34 = .ok (.istore_n 3, 1) := by decide +kernel
theorem dX12_order_35 : decode cX12_order 35 = .ok (.iconst 0, 1) := by decide +kernel
theorem dX12_order_36 : decode cX12_order 36 = .ok (.istore 4, 2) := by decide +kernel
theorem dX12_order_38 : decode cX12_order 38 = .ok (.iload 4, 2) := by decide +kernel
theorem dX12_order_40 : decode cX12_order 40 = .ok (.aload_n 0, 1) := by decide +kernel
theorem dX12_order_41 : decode cX12_order 41 = .ok (.getfield 7, 3) := by decide +kernel
theorem dX12_order_44 : decode cX12_order 44 = .ok (.iconst 1, 1) := by decide +kernel
theorem dX12_order_45 : decode cX12_order 45 = .ok (.iaload, 1) := by decide +kernel
theorem dX12_order_46 : decode cX12_order 46 = .ok (.if_icmp .ge 86, 3) := by decide +kernel
theorem dX12_order_49 : decode cX12_order 49 = .ok (.iconst (-1), 1) := by decide +kernel
theorem dX12_order_50 : decode cX12_order 50 = .ok (.istore 5, 2) := by decide +kernel
theorem dX12_order_52 : decode cX12_order 52 = .ok (.iconst 0, 1) := by decide +kernel
theorem dX12_order_53 : decode cX12_order 53 = .ok (.istore 6, 2) := by decide +kernel
theorem dX12_order_55 : decode cX12_order 55 = .ok (.iload 6, 2) := by decide +kernel
theorem dX12_order_57 : decode cX12_order 57 = .ok (.aload_n 0, 1) := by decide +kernel
theorem dX12_order_58 : decode cX12_order 58 = .ok (.getfield 7, 3) := by decide +kernel
theorem dX12_order_61 : decode cX12_order 61 = .ok (.iconst 1, 1) := by decide +kernel
theorem dX12_order_62 : decode cX12_order 62 = .ok (.iaload, 1) := by decide +kernel
theorem dX12_order_63 : decode cX12_order 63 = .ok (.if_icmp .ge 44, 3) := by decide +kernel
theorem dX12_order_66 : decode cX12_order 66 = .ok (.iload_n 3, 1) := by decide +kernel
theorem dX12_order_67 : decode cX12_order 67 = .ok (.iload 6, 2) := by decide +kernel
theorem dX12_order_69 : decode cX12_order 69 = .ok (.ishr, 1) := by decide +kernel
theorem dX12_order_70 : decode cX12_order 70 = .ok (.iconst 1, 1) := by decide +kernel
theorem dX12_order_71 : decode cX12_order 71 = .ok (.iand, 1) := by decide +kernel
theorem dX12_order_72 : decode cX12_order 72 = .ok (.ifCond .ne 29, 3) := by decide +kernel
theorem dX12_order_75 : decode cX12_order 75 = .ok (.iload 5, 2) := by decide +kernel
theorem dX12_order_77 : decode cX12_order 77 = .ok (.ifCond .lt 20, 3) := by decide +kernel
theorem dX12_order_80 : decode cX12_order 80 = .ok (.aload_n 0, 1) := by decide +kernel
theorem dX12_order_81 : decode cX12_order 81 = .ok (.getfield 70, 3) := by decide +kernel
theorem dX12_order_84 : decode cX12_order 84 = .ok (.iload 6, 2) := by decide +kernel
theorem dX12_order_86 : decode cX12_order 86 = .ok (.iaload, 1) := by decide +kernel
theorem dX12_order_87 : decode cX12_order 87 = .ok (.aload_n 0, 1) := by decide +kernel
theorem dX12_order_88 : decode cX12_order 88 = .ok (.getfield 70, 3) := by decide +kernel
theorem dX12_order_91 : decode cX12_order 91 = .ok (.iload 5, 2) := by decide +kernel
theorem dX12_order_93 : decode cX12_order 93 = .ok (.iaload, 1) := by decide +kernel
theorem dX12_order_94 : decode cX12_order 94 = .ok (.if_icmp .ge 7, 3) := by decide +kernel
theorem dX12_order_97 : decode cX12_order 97 = .ok (.iload 6, 2) := by decide +kernel
theorem dX12_order_99 : decode cX12_order 99 = .ok (.istore 5, 2) := by decide +kernel
theorem dX12_order_101 : decode cX12_order 101 = .ok (.iinc 6 1, 3) := by decide +kernel
theorem dX12_order_104 : decode cX12_order 104 = .ok (.goto (-49), 3) := by decide +kernel
theorem dX12_order_107 : decode cX12_order 107 = .ok (.iload_n 3, 1) := by decide +kernel
theorem dX12_order_108 : decode cX12_order 108 = .ok (.iconst 1, 1) := by decide +kernel
theorem dX12_order_109 : decode cX12_order 109 = .ok (.iload 5, 2) := by decide +kernel
theorem dX12_order_111 : decode cX12_order 111 = .ok (.ishl, 1) := by decide +kernel
theorem dX12_order_112 : decode cX12_order 112 = .ok (.ior, 1) := by decide +kernel
theorem dX12_order_113 : decode cX12_order 113 = .ok (.istore_n 3, 1) := by decide +kernel
theorem dX12_order_114 : decode cX12_order 114 = .ok (.iload_n 1, 1) := by decide +kernel
theorem dX12_order_115 : decode cX12_order 115 = .ok (.iload 5, 2) := by decide +kernel
theorem dX12_order_117 : decode cX12_order 117 = .ok (.iload_n 2, 1) := by decide +kernel
theorem dX12_order_118 : decode cX12_order 118 = .ok (.imul, 1) := by decide +kernel
theorem dX12_order_119 : decode cX12_order 119 = .ok (.iadd, 1) := by decide +kernel
theorem dX12_order_120 : decode cX12_order 120 = .ok (.istore_n 1, 1) := by decide +kernel
theorem dX12_order_121 : decode cX12_order 121 = .ok (.iload_n 2, 1) := by decide +kernel
theorem dX12_order_122 : decode cX12_order 122 = .ok (.bipush 10, 2) := by decide +kernel
theorem dX12_order_124 : decode cX12_order 124 = .ok (.imul, 1) := by decide +kernel
theorem dX12_order_125 : decode cX12_order 125 = .ok (.istore_n 2, 1) := by decide +kernel
theorem dX12_order_126 : decode cX12_order 126 = .ok (.iinc 4 1, 3) := by decide +kernel
theorem dX12_order_129 : decode cX12_order 129 = .ok (.goto (-91), 3) := by decide +kernel
theorem dX12_order_132 : decode cX12_order 132 = .ok (.iload_n 1, 1) := by decide +kernel
theorem dX12_order_133 : decode cX12_order 133 = .ok (.ireturn, 1) := by decide +kernel
theorem dX12_seeded_0 : decode cX12_seeded 0 = .ok (.aload_n 0, 1) := by decide +kernel
theorem dX12_seeded_1 : decode cX12_seeded 1 = .ok (.iload_n 1, 1) := by decide +kernel
theorem dX12_seeded_2 : decode cX12_seeded 2 = .ok (.invokevirtual 123, 3) := by decide +kernel
theorem dX12_seeded_5 : decode cX12_seeded 5 = .ok (.ifCond .eq 23, 3) := by decide +kernel
theorem dX12_seeded_8 : decode cX12_seeded 8 = .ok (.iload_n 2, 1) := by decide +kernel
theorem dX12_seeded_9 : decode cX12_seeded 9 = .ok (.iconst 1, 1) := by decide +kernel
theorem dX12_seeded_10 : decode cX12_seeded 10 = .ok (.bipush 20, 2) := by decide +kernel
theorem dX12_seeded_12 : decode cX12_seeded 12 = .ok (.invokestatic 100, 3) := by decide +kernel
theorem dX12_seeded_15 : decode cX12_seeded 15 = .ok (.ifCond .eq 13, 3) := by decide +kernel
theorem dX12_seeded_18 : decode cX12_seeded 18 = .ok (.iload 4, 2) := by decide +kernel
theorem dX12_seeded_20 : decode cX12_seeded 20 = .ok (.iconst 0, 1) := by decide +kernel
theorem dX12_seeded_21 : decode cX12_seeded 21 = .ok (.iconst 2, 1) := by decide +kernel
theorem dX12_seeded_22 : decode cX12_seeded 22 = .ok (.invokestatic 100, 3) := by decide +kernel
theorem dX12_seeded_25 : decode cX12_seeded 25 = .ok (.ifCond .ne 5, 3) := by decide +kernel
theorem dX12_seeded_28 : decode cX12_seeded 28 = .ok (.iconst (-1), 1) := by decide +kernel
theorem dX12_seeded_29 : decode cX12_seeded 29 = .ok (.ireturn, 1) := by decide +kernel
theorem dX12_seeded_30 : decode cX12_seeded 30 = .ok (.iload_n 3, 1) := by decide +kernel
theorem dX12_seeded_31 : decode cX12_seeded 31 = .ok (.istore 5, 2) := by decide +kernel
theorem dX12_seeded_33 : decode cX12_seeded 33 = .ok (.iconst 0, 1) := by decide +kernel
theorem dX12_seeded_34 : decode cX12_seeded 34 = .ok (.istore 6, 2) := by decide +kernel
theorem dX12_seeded_36 : decode cX12_seeded 36 = .ok (.iconst 0, 1) := by decide +kernel
theorem dX12_seeded_37 : decode cX12_seeded 37 = .ok (.istore 7, 2) := by decide +kernel
theorem dX12_seeded_39 : decode cX12_seeded 39 = .ok (.iconst 0, 1) := by decide +kernel
theorem dX12_seeded_40 : decode cX12_seeded 40 = .ok (.istore 8, 2) := by decide +kernel
theorem dX12_seeded_42 : decode cX12_seeded 42 = .ok (.iconst 0, 1) := by decide +kernel
theorem dX12_seeded_43 : decode cX12_seeded 43 = .ok (.istore 9, 2) := by decide +kernel
theorem dX12_seeded_45 : decode cX12_seeded 45 = .ok (.iload 9, 2) := by decide +kernel
theorem dX12_seeded_47 : decode cX12_seeded 47 = .ok (.iload_n 2, 1) := by decide +kernel
theorem dX12_seeded_48 : decode cX12_seeded 48 = .ok (.if_icmp .ge 135, 3) := by decide +kernel
theorem dX12_seeded_51 : decode cX12_seeded 51 = .ok (.iload 5, 2) := by decide +kernel
theorem dX12_seeded_53 : decode cX12_seeded 53 = .ok (.ldc 187, 2) := by decide +kernel
theorem dX12_seeded_55 : decode cX12_seeded 55 = .ok (.imul, 1) := by decide +kernel
theorem dX12_seeded_56 : decode cX12_seeded 56 = .ok (.sipush 12345, 3) := by decide +kernel
theorem dX12_seeded_59 : decode cX12_seeded 59 = .ok (.iadd, 1) := by decide +kernel
theorem dX12_seeded_60 : decode cX12_seeded 60 = .ok (.istore 5, 2) := by decide +kernel
theorem dX12_seeded_62 : decode cX12_seeded 62 = .ok (.aload_n 0, 1) := by decide +kernel
theorem dX12_seeded_63 : decode cX12_seeded 63 = .ok (.getfield 28, 3) := by decide +kernel
theorem dX12_seeded_66 : decode cX12_seeded 66 = .ok (.iload_n 1, 1) := by decide +kernel
theorem dX12_seeded_67 : decode cX12_seeded 67 = .ok (.iaload, 1) := by decide +kernel
theorem dX12_seeded_68 : decode cX12_seeded 68 = .ok (.iload 5, 2) := by decide +kernel
theorem dX12_seeded_70 : decode cX12_seeded 70 = .ok (.ldc 188, 2) := by decide +kernel
theorem dX12_seeded_72 : decode cX12_seeded 72 = .ok (.iand, 1) := by decide +kernel
theorem dX12_seeded_73 : decode cX12_seeded 73 = .ok (.ldc 189, 2) := by decide +kernel
theorem dX12_seeded_75 : decode cX12_seeded 75 = .ok (.idiv, 1) := by decide +kernel
theorem dX12_seeded_76 : decode cX12_seeded 76 = .ok (.bipush 11, 2) := by decide +kernel
theorem dX12_seeded_78 : decode cX12_seeded 78 = .ok (.irem, 1) := by decide +kernel
theorem dX12_seeded_79 : decode cX12_seeded 79 = .ok (.iadd, 1) := by decide +kernel
theorem dX12_seeded_80 : decode cX12_seeded 80 = .ok (.iconst 5, 1) := by decide +kernel
theorem dX12_seeded_81 : decode cX12_seeded 81 = .ok (.isub, 1) := by decide +kernel
theorem dX12_seeded_82 : decode cX12_seeded 82 = .ok (.istore 10, 2) := by decide +kernel
theorem dX12_seeded_84 : decode cX12_seeded 84 = .ok (.iload 10, 2) := by decide +kernel
theorem dX12_seeded_86 : decode cX12_seeded 86 = .ok (.bipush (-20), 2) := by decide +kernel
theorem dX12_seeded_88 : decode cX12_seeded 88 = .ok (.if_icmp .ge 8, 3) := by decide +kernel
theorem dX12_seeded_91 : decode cX12_seeded 91 = .ok (.bipush (-20), 2) := by decide +kernel
theorem dX12_seeded_93 : decode cX12_seeded 93 = .ok (.goto 17, 3) := by decide +kernel
theorem dX12_seeded_96 : decode cX12_seeded 96 = .ok (.iload 10, 2) := by decide +kernel
theorem dX12_seeded_98 : decode cX12_seeded 98 = .ok (.bipush 20, 2) := by decide +kernel
theorem dX12_seeded_100 : decode cX12_seeded 100 = .ok (.if_icmp .le 8, 3) := by decide +kernel
theorem dX12_seeded_103 : decode cX12_seeded 103 = .ok (.bipush 20, 2) := by decide +kernel
theorem dX12_seeded_105 : decode cX12_seeded 105 = .ok (.goto 5, 3) := by decide +kernel
theorem dX12_seeded_108 : decode cX12_seeded 108 = .ok (.iload 10, 2) := by decide +kernel
theorem dX12_seeded_110 : decode cX12_seeded 110 = .ok (.istore 10, 2) := by decide +kernel
theorem dX12_seeded_112 : decode cX12_seeded 112 = .ok (.aload_n 0, 1) := by decide +kernel
theorem dX12_seeded_113 : decode cX12_seeded 113 = .ok (.aload_n 0, 1) := by decide +kernel
theorem dX12_seeded_114 : decode cX12_seeded 114 = .ok (.getfield 22, 3) := by decide +kernel
theorem dX12_seeded_117 : decode cX12_seeded 117 = .ok (.iload_n 1, 1) := by decide +kernel
theorem dX12_seeded_118 : decode cX12_seeded 118 = .ok (.iaload, 1) := by decide +kernel
theorem dX12_seeded_119 : decode cX12_seeded 119 = .ok (.aload_n 0, 1) := by decide +kernel
theorem dX12_seeded_120 : decode cX12_seeded 120 = .ok (.getfield 25, 3) := by decide +kernel
theorem dX12_seeded_123 : decode cX12_seeded 123 = .ok (.iload_n 1, 1) := by decide +kernel
theorem dX12_seeded_124 : decode cX12_seeded 124 = .ok (.iaload, 1) := by decide +kernel
theorem dX12_seeded_125 : decode cX12_seeded 125 = .ok (.iload 10, 2) := by decide +kernel
theorem dX12_seeded_127 : decode cX12_seeded 127 = .ok (.aload_n 0, 1) := by decide +kernel
theorem dX12_seeded_128 : decode cX12_seeded 128 = .ok (.getfield 31, 3) := by decide +kernel
theorem dX12_seeded_131 : decode cX12_seeded 131 = .ok (.iload_n 1, 1) := by decide +kernel
theorem dX12_seeded_132 : decode cX12_seeded 132 = .ok (.iaload, 1) := by decide +kernel
theorem dX12_seeded_133 : decode cX12_seeded 133 = .ok (.aload_n 0, 1) := by decide +kernel
theorem dX12_seeded_134 : decode cX12_seeded 134 = .ok (.getfield 7, 3) := by decide +kernel
theorem dX12_seeded_137 : decode cX12_seeded 137 = .ok (.iconst 3, 1) := by decide +kernel
theorem dX12_seeded_138 : decode cX12_seeded 138 = .ok (.iaload, 1) := by decide +kernel
theorem dX12_seeded_139 : decode cX12_seeded 139 = .ok (.invokevirtual 170, 3) := by decide +kernel
theorem dX12_seeded_142 : decode cX12_seeded 142 = .ok (.istore 11, 2) := by decide +kernel
theorem dX12_seeded_144 : decode cX12_seeded 144 = .ok (.iload 6, 2) := by decide +kernel
theorem dX12_seeded_146 : decode cX12_seeded 146 = .ok (.iload 11, 2) := by decide +kernel
theorem dX12_seeded_148 : decode cX12_seeded 148 = .ok (.iadd, 1) := by decide +kernel
theorem dX12_seeded_149 : decode cX12_seeded 149 = .ok (.istore 6, 2) := by decide +kernel
theorem dX12_seeded_151 : decode cX12_seeded 151 = .ok (.iload 7, 2) := by decide +kernel
theorem dX12_seeded_153 : decode cX12_seeded 153 = .ok (.iload 11, 2) := by decide +kernel
theorem dX12_seeded_155 : decode cX12_seeded 155 = .ok (.invokestatic 134, 3) := by decide +kernel
theorem dX12_seeded_158 : decode cX12_seeded 158 = .ok (.istore 7, 2) := by decide +kernel
theorem dX12_seeded_160 : decode cX12_seeded 160 = .ok (.iload 8, 2) := by decide +kernel
theorem dX12_seeded_162 : decode cX12_seeded 162 = .ok (.aload_n 0, 1) := by decide +kernel
theorem dX12_seeded_163 : decode cX12_seeded 163 = .ok (.getfield 149, 3) := by decide +kernel
theorem dX12_seeded_166 : decode cX12_seeded 166 = .ok (.ifCond .le 7, 3) := by decide +kernel
theorem dX12_seeded_169 : decode cX12_seeded 169 = .ok (.iconst 1, 1) := by decide +kernel
theorem dX12_seeded_170 : decode cX12_seeded 170 = .ok (.goto 4, 3) := by decide +kernel
theorem dX12_seeded_173 : decode cX12_seeded 173 = .ok (.iconst 0, 1) := by decide +kernel
theorem dX12_seeded_174 : decode cX12_seeded 174 = .ok (.iadd, 1) := by decide +kernel
theorem dX12_seeded_175 : decode cX12_seeded 175 = .ok (.istore 8, 2) := by decide +kernel
theorem dX12_seeded_177 : decode cX12_seeded 177 = .ok (.iinc 9 1, 3) := by decide +kernel
theorem dX12_seeded_180 : decode cX12_seeded 180 = .ok (.goto (-135), 3) := by decide +kernel
theorem dX12_seeded_183 : decode cX12_seeded 183 = .ok (.iload 4, 2) := by decide +kernel
theorem dX12_seeded_185 : decode cX12_seeded 185 = .ok (.ifCond .ne 8, 3) := by decide +kernel
theorem dX12_seeded_188 : decode cX12_seeded 188 = .ok (.iload 6, 2) := by decide +kernel
theorem dX12_seeded_190 : decode cX12_seeded 190 = .ok (.goto 16, 3) := by decide +kernel
theorem dX12_seeded_193 : decode cX12_seeded 193 = .ok (.iload 4, 2) := by decide +kernel
theorem dX12_seeded_195 : decode cX12_seeded 195 = .ok (.iconst 1, 1) := by decide +kernel
theorem dX12_seeded_196 : decode cX12_seeded 196 = .ok (.if_icmp .ne 8, 3) := by decide +kernel
theorem dX12_seeded_199 : decode cX12_seeded 199 = .ok (.iload 7, 2) := by decide +kernel
theorem dX12_seeded_201 : decode cX12_seeded 201 = .ok (.goto 5, 3) := by decide +kernel
theorem dX12_seeded_204 : decode cX12_seeded 204 = .ok (.iload 8, 2) := by decide +kernel
theorem dX12_seeded_206 : decode cX12_seeded 206 = .ok (.ireturn, 1) := by decide +kernel
theorem dX12_judge_0 : decode cX12_judge 0 = .ok (.aload_n 0, 1) := by decide +kernel
theorem dX12_judge_1 : decode cX12_judge 1 = .ok (.iload_n 1, 1) := by decide +kernel
theorem dX12_judge_2 : decode cX12_judge 2 = .ok (.invokevirtual 123, 3) := by decide +kernel
theorem dX12_judge_5 : decode cX12_judge 5 = .ok (.ifCond .eq 13, 3) := by decide +kernel
theorem dX12_judge_8 : decode cX12_judge 8 = .ok (.iload_n 2, 1) := by decide +kernel
theorem dX12_judge_9 : decode cX12_judge 9 = .ok (.iconst 0, 1) := by decide +kernel
theorem dX12_judge_10 : decode cX12_judge 10 = .ok (.bipush 7, 2) := by decide +kernel
theorem dX12_judge_12 : decode cX12_judge 12 = .ok (.invokestatic 100, 3) := by decide +kernel
theorem dX12_judge_15 : decode cX12_judge 15 = .ok (.ifCond .ne 5, 3) := by decide +kernel
theorem dX12_judge_18 : decode cX12_judge 18 = .ok (.iconst (-1), 1) := by decide +kernel
theorem dX12_judge_19 : decode cX12_judge 19 = .ok (.ireturn, 1) := by decide +kernel
theorem dX12_judge_20 : decode cX12_judge 20 = .ok (.aload_n 0, 1) := by decide +kernel
theorem dX12_judge_21 : decode cX12_judge 21 = .ok (.getfield 76, 3) := by decide +kernel
theorem dX12_judge_24 : decode cX12_judge 24 = .ok (.iload_n 2, 1) := by decide +kernel
theorem dX12_judge_25 : decode cX12_judge 25 = .ok (.iaload, 1) := by decide +kernel
theorem dX12_judge_26 : decode cX12_judge 26 = .ok (.ifCond .ne 6, 3) := by decide +kernel
theorem dX12_judge_29 : decode cX12_judge 29 = .ok (.bipush (-11), 2) := by decide +kernel
theorem dX12_judge_31 : decode cX12_judge 31 = .ok (.ireturn, 1) := by decide +kernel
theorem dX12_judge_32 : decode cX12_judge 32 = .ok (.aload_n 0, 1) := by decide +kernel
theorem dX12_judge_33 : decode cX12_judge 33 = .ok (.getfield 76, 3) := by decide +kernel
theorem dX12_judge_36 : decode cX12_judge 36 = .ok (.iload_n 2, 1) := by decide +kernel
theorem dX12_judge_37 : decode cX12_judge 37 = .ok (.iaload, 1) := by decide +kernel
theorem dX12_judge_38 : decode cX12_judge 38 = .ok (.iconst 1, 1) := by decide +kernel
theorem dX12_judge_39 : decode cX12_judge 39 = .ok (.if_icmp .ne 6, 3) := by decide +kernel
theorem dX12_judge_42 : decode cX12_judge 42 = .ok (.bipush (-12), 2) := by decide +kernel
theorem dX12_judge_44 : decode cX12_judge 44 = .ok (.ireturn, 1) := by decide +kernel
theorem dX12_judge_45 : decode cX12_judge 45 = .ok (.aload_n 0, 1) := by decide +kernel
theorem dX12_judge_46 : decode cX12_judge 46 = .ok (.iload_n 1, 1) := by decide +kernel
theorem dX12_judge_47 : decode cX12_judge 47 = .ok (.invokevirtual 174, 3) := by decide +kernel
theorem dX12_judge_50 : decode cX12_judge 50 = .ok (.pop, 1) := by decide +kernel
theorem dX12_judge_51 : decode cX12_judge 51 = .ok (.aload_n 0, 1) := by decide +kernel
theorem dX12_judge_52 : decode cX12_judge 52 = .ok (.getfield 79, 3) := by decide +kernel
theorem dX12_judge_55 : decode cX12_judge 55 = .ok (.iload_n 2, 1) := by decide +kernel
theorem dX12_judge_56 : decode cX12_judge 56 = .ok (.iaload, 1) := by decide +kernel
theorem dX12_judge_57 : decode cX12_judge 57 = .ok (.ifCond .ne 8, 3) := by decide +kernel
theorem dX12_judge_60 : decode cX12_judge 60 = .ok (.bipush (-128), 2) := by decide +kernel
theorem dX12_judge_62 : decode cX12_judge 62 = .ok (.goto 21, 3) := by decide +kernel
theorem dX12_judge_65 : decode cX12_judge 65 = .ok (.aload_n 0, 1) := by decide +kernel
theorem dX12_judge_66 : decode cX12_judge 66 = .ok (.getfield 79, 3) := by decide +kernel
