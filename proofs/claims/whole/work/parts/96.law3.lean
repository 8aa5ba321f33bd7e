/-! The law: its rows; one turn of its loop for each kind of call. -/
def mL_law : zMd := (⟨RL, "law", "([I)Z"⟩, code, 8, some .boolean)
theorem dL_law_0 : decode code 0 = .ok (.new 8, 3) := by decide +kernel
theorem dL_law_3 : decode code 3 = .ok (.dup, 1) := by decide +kernel
theorem dL_law_4 : decode code 4 = .ok (.invokespecial 71, 3) := by decide +kernel
theorem dL_law_7 : decode code 7 = .ok (.astore_n 1, 1) := by decide +kernel
theorem dL_law_8 : decode code 8 = .ok (.new 72, 3) := by decide +kernel
theorem dL_law_11 : decode code 11 = .ok (.dup, 1) := by decide +kernel
theorem dL_law_12 : decode code 12 = .ok (.invokespecial 74, 3) := by decide +kernel
theorem dL_law_15 : decode code 15 = .ok (.astore_n 2, 1) := by decide +kernel
theorem dL_law_16 : decode code 16 = .ok (.iconst 1, 1) := by decide +kernel
theorem dL_law_17 : decode code 17 = .ok (.newarray .long, 2) := by decide +kernel
theorem dL_law_19 : decode code 19 = .ok (.astore_n 3, 1) := by decide +kernel
theorem dL_law_20 : decode code 20 = .ok (.iconst 0, 1) := by decide +kernel
theorem dL_law_21 : decode code 21 = .ok (.istore 4, 2) := by decide +kernel
theorem dL_law_23 : decode code 23 = .ok (.iload 4, 2) := by decide +kernel
theorem dL_law_25 : decode code 25 = .ok (.aload_n 0, 1) := by decide +kernel
theorem dL_law_26 : decode code 26 = .ok (.arraylength, 1) := by decide +kernel
theorem dL_law_27 : decode code 27 = .ok (.iconst 5, 1) := by decide +kernel
theorem dL_law_28 : decode code 28 = .ok (.isub, 1) := by decide +kernel
theorem dL_law_29 : decode code 29 = .ok (.if_icmp .gt 916, 3) := by decide +kernel
theorem dL_law_32 : decode code 32 = .ok (.aload_n 0, 1) := by decide +kernel
theorem dL_law_33 : decode code 33 = .ok (.iload 4, 2) := by decide +kernel
theorem dL_law_35 : decode code 35 = .ok (.iaload, 1) := by decide +kernel
theorem dL_law_36 : decode code 36 = .ok (.bipush 31, 2) := by decide +kernel
theorem dL_law_38 : decode code 38 = .ok (.iand, 1) := by decide +kernel
theorem dL_law_39 : decode code 39 = .ok (.tableswitch 900 0 16 #[81, 189, 233, 257, 281, 305, 341, 377, 433, 446, 459, 503, 559, 639, 726, 777, 845], 81) := by decide +kernel
theorem dL_law_120 : decode code 120 = .ok (.aload_n 1, 1) := by decide +kernel
theorem dL_law_121 : decode code 121 = .ok (.aload_n 0, 1) := by decide +kernel
theorem dL_law_122 : decode code 122 = .ok (.iload 4, 2) := by decide +kernel
theorem dL_law_124 : decode code 124 = .ok (.iconst 1, 1) := by decide +kernel
theorem dL_law_125 : decode code 125 = .ok (.iadd, 1) := by decide +kernel
theorem dL_law_126 : decode code 126 = .ok (.iaload, 1) := by decide +kernel
theorem dL_law_127 : decode code 127 = .ok (.aload_n 0, 1) := by decide +kernel
theorem dL_law_128 : decode code 128 = .ok (.iload 4, 2) := by decide +kernel
theorem dL_law_130 : decode code 130 = .ok (.iconst 2, 1) := by decide +kernel
theorem dL_law_131 : decode code 131 = .ok (.iadd, 1) := by decide +kernel
theorem dL_law_132 : decode code 132 = .ok (.iaload, 1) := by decide +kernel
theorem dL_law_133 : decode code 133 = .ok (.aload_n 0, 1) := by decide +kernel
theorem dL_law_134 : decode code 134 = .ok (.iload 4, 2) := by decide +kernel
theorem dL_law_136 : decode code 136 = .ok (.iconst 3, 1) := by decide +kernel
theorem dL_law_137 : decode code 137 = .ok (.iadd, 1) := by decide +kernel
theorem dL_law_138 : decode code 138 = .ok (.iaload, 1) := by decide +kernel
theorem dL_law_139 : decode code 139 = .ok (.aload_n 0, 1) := by decide +kernel
theorem dL_law_140 : decode code 140 = .ok (.iload 4, 2) := by decide +kernel
theorem dL_law_142 : decode code 142 = .ok (.iconst 4, 1) := by decide +kernel
theorem dL_law_143 : decode code 143 = .ok (.iadd, 1) := by decide +kernel
theorem dL_law_144 : decode code 144 = .ok (.iaload, 1) := by decide +kernel
theorem dL_law_145 : decode code 145 = .ok (.ifCond .eq 7, 3) := by decide +kernel
theorem dL_law_148 : decode code 148 = .ok (.iconst 1, 1) := by decide +kernel
theorem dL_law_149 : decode code 149 = .ok (.goto 4, 3) := by decide +kernel
theorem dL_law_152 : decode code 152 = .ok (.iconst 0, 1) := by decide +kernel
theorem dL_law_153 : decode code 153 = .ok (.aload_n 3, 1) := by decide +kernel
theorem dL_law_154 : decode code 154 = .ok (.invokestatic 75, 3) := by decide +kernel
theorem dL_law_157 : decode code 157 = .ok (.istore 5, 2) := by decide +kernel
theorem dL_law_159 : decode code 159 = .ok (.aload_n 2, 1) := by decide +kernel
theorem dL_law_160 : decode code 160 = .ok (.aload_n 0, 1) := by decide +kernel
theorem dL_law_161 : decode code 161 = .ok (.iload 4, 2) := by decide +kernel
theorem dL_law_163 : decode code 163 = .ok (.iconst 1, 1) := by decide +kernel
theorem dL_law_164 : decode code 164 = .ok (.iadd, 1) := by decide +kernel
theorem dL_law_165 : decode code 165 = .ok (.iaload, 1) := by decide +kernel
theorem dL_law_166 : decode code 166 = .ok (.aload_n 0, 1) := by decide +kernel
theorem dL_law_167 : decode code 167 = .ok (.iload 4, 2) := by decide +kernel
theorem dL_law_169 : decode code 169 = .ok (.iconst 2, 1) := by decide +kernel
theorem dL_law_170 : decode code 170 = .ok (.iadd, 1) := by decide +kernel
theorem dL_law_171 : decode code 171 = .ok (.iaload, 1) := by decide +kernel
theorem dL_law_172 : decode code 172 = .ok (.aload_n 0, 1) := by decide +kernel
theorem dL_law_173 : decode code 173 = .ok (.iload 4, 2) := by decide +kernel
theorem dL_law_175 : decode code 175 = .ok (.iconst 3, 1) := by decide +kernel
theorem dL_law_176 : decode code 176 = .ok (.iadd, 1) := by decide +kernel
theorem dL_law_177 : decode code 177 = .ok (.iaload, 1) := by decide +kernel
theorem dL_law_178 : decode code 178 = .ok (.aload_n 0, 1) := by decide +kernel
theorem dL_law_179 : decode code 179 = .ok (.iload 4, 2) := by decide +kernel
theorem dL_law_181 : decode code 181 = .ok (.iconst 4, 1) := by decide +kernel
theorem dL_law_182 : decode code 182 = .ok (.iadd, 1) := by decide +kernel
theorem dL_law_183 : decode code 183 = .ok (.iaload, 1) := by decide +kernel
theorem dL_law_184 : decode code 184 = .ok (.ifCond .eq 7, 3) := by decide +kernel
theorem dL_law_187 : decode code 187 = .ok (.iconst 1, 1) := by decide +kernel
theorem dL_law_188 : decode code 188 = .ok (.goto 4, 3) := by decide +kernel
theorem dL_law_191 : decode code 191 = .ok (.iconst 0, 1) := by decide +kernel
theorem dL_law_192 : decode code 192 = .ok (.invokevirtual 80, 3) := by decide +kernel
theorem dL_law_195 : decode code 195 = .ok (.istore 6, 2) := by decide +kernel
theorem dL_law_197 : decode code 197 = .ok (.aload_n 2, 1) := by decide +kernel
theorem dL_law_198 : decode code 198 = .ok (.invokevirtual 81, 3) := by decide +kernel
theorem dL_law_201 : decode code 201 = .ok (.iload 5, 2) := by decide +kernel
theorem dL_law_203 : decode code 203 = .ok (.if_icmp .eq 5, 3) := by decide +kernel
theorem dL_law_206 : decode code 206 = .ok (.iconst 0, 1) := by decide +kernel
theorem dL_law_207 : decode code 207 = .ok (.ireturn, 1) := by decide +kernel
theorem dL_law_208 : decode code 208 = .ok (.iload 5, 2) := by decide +kernel
theorem dL_law_210 : decode code 210 = .ok (.ifCond .ne 15, 3) := by decide +kernel
theorem dL_law_213 : decode code 213 = .ok (.aload_n 3, 1) := by decide +kernel
theorem dL_law_214 : decode code 214 = .ok (.iconst 0, 1) := by decide +kernel
theorem dL_law_215 : decode code 215 = .ok (.laload, 1) := by decide +kernel
theorem dL_law_216 : decode code 216 = .ok (.iload 6, 2) := by decide +kernel
theorem dL_law_218 : decode code 218 = .ok (.i2l, 1) := by decide +kernel
theorem dL_law_219 : decode code 219 = .ok (.lcmp, 1) := by decide +kernel
theorem dL_law_220 : decode code 220 = .ok (.ifCond .eq 5, 3) := by decide +kernel
theorem dL_law_223 : decode code 223 = .ok (.iconst 0, 1) := by decide +kernel
theorem dL_law_224 : decode code 224 = .ok (.ireturn, 1) := by decide +kernel
theorem dL_law_225 : decode code 225 = .ok (.goto 714, 3) := by decide +kernel
theorem dL_law_228 : decode code 228 = .ok (.aload_n 1, 1) := by decide +kernel
theorem dL_law_229 : decode code 229 = .ok (.aload_n 3, 1) := by decide +kernel
theorem dL_law_230 : decode code 230 = .ok (.invokestatic 84, 3) := by decide +kernel
theorem dL_law_233 : decode code 233 = .ok (.istore 5, 2) := by decide +kernel
theorem dL_law_235 : decode code 235 = .ok (.aload_n 2, 1) := by decide +kernel
theorem dL_law_236 : decode code 236 = .ok (.invokevirtual 87, 3) := by decide +kernel
theorem dL_law_239 : decode code 239 = .ok (.istore 6, 2) := by decide +kernel
theorem dL_law_241 : decode code 241 = .ok (.aload_n 2, 1) := by decide +kernel
theorem dL_law_242 : decode code 242 = .ok (.invokevirtual 81, 3) := by decide +kernel
theorem dL_law_245 : decode code 245 = .ok (.iload 5, 2) := by decide +kernel
theorem dL_law_247 : decode code 247 = .ok (.if_icmp .eq 5, 3) := by decide +kernel
theorem dL_law_250 : decode code 250 = .ok (.iconst 0, 1) := by decide +kernel
theorem dL_law_251 : decode code 251 = .ok (.ireturn, 1) := by decide +kernel
theorem dL_law_252 : decode code 252 = .ok (.iload 5, 2) := by decide +kernel
theorem dL_law_254 : decode code 254 = .ok (.ifCond .ne 15, 3) := by decide +kernel
theorem dL_law_257 : decode code 257 = .ok (.aload_n 3, 1) := by decide +kernel
theorem dL_law_258 : decode code 258 = .ok (.iconst 0, 1) := by decide +kernel
theorem dL_law_259 : decode code 259 = .ok (.laload, 1) := by decide +kernel
theorem dL_law_260 : decode code 260 = .ok (.iload 6, 2) := by decide +kernel
theorem dL_law_262 : decode code 262 = .ok (.i2l, 1) := by decide +kernel
theorem dL_law_263 : decode code 263 = .ok (.lcmp, 1) := by decide +kernel
theorem dL_law_264 : decode code 264 = .ok (.ifCond .eq 5, 3) := by decide +kernel
theorem dL_law_267 : decode code 267 = .ok (.iconst 0, 1) := by decide +kernel
theorem dL_law_268 : decode code 268 = .ok (.ireturn, 1) := by decide +kernel
theorem dL_law_269 : decode code 269 = .ok (.goto 670, 3) := by decide +kernel
theorem dL_law_272 : decode code 272 = .ok (.aload_n 1, 1) := by decide +kernel
theorem dL_law_273 : decode code 273 = .ok (.invokestatic 88, 3) := by decide +kernel
theorem dL_law_276 : decode code 276 = .ok (.istore 5, 2) := by decide +kernel
theorem dL_law_278 : decode code 278 = .ok (.aload_n 2, 1) := by decide +kernel
theorem dL_law_279 : decode code 279 = .ok (.invokevirtual 91, 3) := by decide +kernel
theorem dL_law_282 : decode code 282 = .ok (.aload_n 2, 1) := by decide +kernel
theorem dL_law_283 : decode code 283 = .ok (.invokevirtual 81, 3) := by decide +kernel
theorem dL_law_286 : decode code 286 = .ok (.iload 5, 2) := by decide +kernel
theorem dL_law_288 : decode code 288 = .ok (.if_icmp .eq 5, 3) := by decide +kernel
theorem dL_law_291 : decode code 291 = .ok (.iconst 0, 1) := by decide +kernel
theorem dL_law_292 : decode code 292 = .ok (.ireturn, 1) := by decide +kernel
theorem dL_law_293 : decode code 293 = .ok (.goto 646, 3) := by decide +kernel
theorem dL_law_296 : decode code 296 = .ok (.aload_n 1, 1) := by decide +kernel
theorem dL_law_297 : decode code 297 = .ok (.invokestatic 92, 3) := by decide +kernel
theorem dL_law_300 : decode code 300 = .ok (.istore 5, 2) := by decide +kernel
theorem dL_law_302 : decode code 302 = .ok (.aload_n 2, 1) := by decide +kernel
theorem dL_law_303 : decode code 303 = .ok (.invokevirtual 94, 3) := by decide +kernel
theorem dL_law_306 : decode code 306 = .ok (.aload_n 2, 1) := by decide +kernel
theorem dL_law_307 : decode code 307 = .ok (.invokevirtual 81, 3) := by decide +kernel
theorem dL_law_310 : decode code 310 = .ok (.iload 5, 2) := by decide +kernel
theorem dL_law_312 : decode code 312 = .ok (.if_icmp .eq 5, 3) := by decide +kernel
theorem dL_law_315 : decode code 315 = .ok (.iconst 0, 1) := by decide +kernel
theorem dL_law_316 : decode code 316 = .ok (.ireturn, 1) := by decide +kernel
theorem dL_law_317 : decode code 317 = .ok (.goto 622, 3) := by decide +kernel
theorem dL_law_320 : decode code 320 = .ok (.aload_n 1, 1) := by decide +kernel
theorem dL_law_321 : decode code 321 = .ok (.invokestatic 95, 3) := by decide +kernel
theorem dL_law_324 : decode code 324 = .ok (.istore 5, 2) := by decide +kernel
theorem dL_law_326 : decode code 326 = .ok (.aload_n 2, 1) := by decide +kernel
theorem dL_law_327 : decode code 327 = .ok (.invokevirtual 97, 3) := by decide +kernel
theorem dL_law_330 : decode code 330 = .ok (.aload_n 2, 1) := by decide +kernel
theorem dL_law_331 : decode code 331 = .ok (.invokevirtual 81, 3) := by decide +kernel
theorem dL_law_334 : decode code 334 = .ok (.iload 5, 2) := by decide +kernel
theorem dL_law_336 : decode code 336 = .ok (.if_icmp .eq 5, 3) := by decide +kernel
theorem dL_law_339 : decode code 339 = .ok (.iconst 0, 1) := by decide +kernel
theorem dL_law_340 : decode code 340 = .ok (.ireturn, 1) := by decide +kernel
theorem dL_law_341 : decode code 341 = .ok (.goto 598, 3) := by decide +kernel
theorem dL_law_344 : decode code 344 = .ok (.aload_n 1, 1) := by decide +kernel
theorem dL_law_345 : decode code 345 = .ok (.aload_n 0, 1) := by decide +kernel
theorem dL_law_346 : decode code 346 = .ok (.iload 4, 2) := by decide +kernel
theorem dL_law_348 : decode code 348 = .ok (.iconst 1, 1) := by decide +kernel
theorem dL_law_349 : decode code 349 = .ok (.iadd, 1) := by decide +kernel
theorem dL_law_350 : decode code 350 = .ok (.iaload, 1) := by decide +kernel
theorem dL_law_351 : decode code 351 = .ok (.invokestatic 98, 3) := by decide +kernel
theorem dL_law_354 : decode code 354 = .ok (.istore 5, 2) := by decide +kernel
theorem dL_law_356 : decode code 356 = .ok (.aload_n 2, 1) := by decide +kernel
theorem dL_law_357 : decode code 357 = .ok (.aload_n 0, 1) := by decide +kernel
theorem dL_law_358 : decode code 358 = .ok (.iload 4, 2) := by decide +kernel
theorem dL_law_360 : decode code 360 = .ok (.iconst 1, 1) := by decide +kernel
theorem dL_law_361 : decode code 361 = .ok (.iadd, 1) := by decide +kernel
theorem dL_law_362 : decode code 362 = .ok (.iaload, 1) := by decide +kernel
theorem dL_law_363 : decode code 363 = .ok (.invokevirtual 101, 3) := by decide +kernel
theorem dL_law_366 : decode code 366 = .ok (.aload_n 2, 1) := by decide +kernel
theorem dL_law_367 : decode code 367 = .ok (.invokevirtual 81, 3) := by decide +kernel
theorem dL_law_370 : decode code 370 = .ok (.iload 5, 2) := by decide +kernel
theorem dL_law_372 : decode code 372 = .ok (.if_icmp .eq 5, 3) := by decide +kernel
theorem dL_law_375 : decode code 375 = .ok (.iconst 0, 1) := by decide +kernel
theorem dL_law_376 : decode code 376 = .ok (.ireturn, 1) := by decide +kernel
theorem dL_law_377 : decode code 377 = .ok (.goto 562, 3) := by decide +kernel
theorem dL_law_380 : decode code 380 = .ok (.aload_n 1, 1) := by decide +kernel
theorem dL_law_381 : decode code 381 = .ok (.aload_n 0, 1) := by decide +kernel
theorem dL_law_382 : decode code 382 = .ok (.iload 4, 2) := by decide +kernel
theorem dL_law_384 : decode code 384 = .ok (.iconst 1, 1) := by decide +kernel
theorem dL_law_385 : decode code 385 = .ok (.iadd, 1) := by decide +kernel
theorem dL_law_386 : decode code 386 = .ok (.iaload, 1) := by decide +kernel
theorem dL_law_387 : decode code 387 = .ok (.invokestatic 102, 3) := by decide +kernel
theorem dL_law_390 : decode code 390 = .ok (.istore 5, 2) := by decide +kernel
theorem dL_law_392 : decode code 392 = .ok (.aload_n 2, 1) := by decide +kernel
theorem dL_law_393 : decode code 393 = .ok (.aload_n 0, 1) := by decide +kernel
theorem dL_law_394 : decode code 394 = .ok (.iload 4, 2) := by decide +kernel
theorem dL_law_396 : decode code 396 = .ok (.iconst 1, 1) := by decide +kernel
theorem dL_law_397 : decode code 397 = .ok (.iadd, 1) := by decide +kernel
theorem dL_law_398 : decode code 398 = .ok (.iaload, 1) := by decide +kernel
theorem dL_law_399 : decode code 399 = .ok (.invokevirtual 104, 3) := by decide +kernel
theorem dL_law_402 : decode code 402 = .ok (.aload_n 2, 1) := by decide +kernel
theorem dL_law_403 : decode code 403 = .ok (.invokevirtual 81, 3) := by decide +kernel
theorem dL_law_406 : decode code 406 = .ok (.iload 5, 2) := by decide +kernel
theorem dL_law_408 : decode code 408 = .ok (.if_icmp .eq 5, 3) := by decide +kernel
theorem dL_law_411 : decode code 411 = .ok (.iconst 0, 1) := by decide +kernel
theorem dL_law_412 : decode code 412 = .ok (.ireturn, 1) := by decide +kernel
theorem dL_law_413 : decode code 413 = .ok (.goto 526, 3) := by decide +kernel
theorem dL_law_416 : decode code 416 = .ok (.aload_n 1, 1) := by decide +kernel
theorem dL_law_417 : decode code 417 = .ok (.aload_n 0, 1) := by decide +kernel
theorem dL_law_418 : decode code 418 = .ok (.iload 4, 2) := by decide +kernel
theorem dL_law_420 : decode code 420 = .ok (.iconst 1, 1) := by decide +kernel
theorem dL_law_421 : decode code 421 = .ok (.iadd, 1) := by decide +kernel
theorem dL_law_422 : decode code 422 = .ok (.iaload, 1) := by decide +kernel
theorem dL_law_423 : decode code 423 = .ok (.aload_n 3, 1) := by decide +kernel
theorem dL_law_424 : decode code 424 = .ok (.invokestatic 105, 3) := by decide +kernel
theorem dL_law_427 : decode code 427 = .ok (.istore 5, 2) := by decide +kernel
theorem dL_law_429 : decode code 429 = .ok (.aload_n 2, 1) := by decide +kernel
theorem dL_law_430 : decode code 430 = .ok (.aload_n 0, 1) := by decide +kernel
theorem dL_law_431 : decode code 431 = .ok (.iload 4, 2) := by decide +kernel
theorem dL_law_433 : decode code 433 = .ok (.iconst 1, 1) := by decide +kernel
theorem dL_law_434 : decode code 434 = .ok (.iadd, 1) := by decide +kernel
theorem dL_law_435 : decode code 435 = .ok (.iaload, 1) := by decide +kernel
theorem dL_law_436 : decode code 436 = .ok (.invokevirtual 108, 3) := by decide +kernel
theorem dL_law_439 : decode code 439 = .ok (.istore 6, 2) := by decide +kernel
theorem dL_law_441 : decode code 441 = .ok (.aload_n 2, 1) := by decide +kernel
theorem dL_law_442 : decode code 442 = .ok (.invokevirtual 81, 3) := by decide +kernel
theorem dL_law_445 : decode code 445 = .ok (.iload 5, 2) := by decide +kernel
theorem dL_law_447 : decode code 447 = .ok (.if_icmp .eq 5, 3) := by decide +kernel
theorem dL_law_450 : decode code 450 = .ok (.iconst 0, 1) := by decide +kernel
theorem dL_law_451 : decode code 451 = .ok (.ireturn, 1) := by decide +kernel
theorem dL_law_452 : decode code 452 = .ok (.iload 5, 2) := by decide +kernel
theorem dL_law_454 : decode code 454 = .ok (.ifCond .ne 15, 3) := by decide +kernel
theorem dL_law_457 : decode code 457 = .ok (.aload_n 3, 1) := by decide +kernel
theorem dL_law_458 : decode code 458 = .ok (.iconst 0, 1) := by decide +kernel
theorem dL_law_459 : decode code 459 = .ok (.laload, 1) := by decide +kernel
theorem dL_law_460 : decode code 460 = .ok (.iload 6, 2) := by decide +kernel
theorem dL_law_462 : decode code 462 = .ok (.i2l, 1) := by decide +kernel
theorem dL_law_463 : decode code 463 = .ok (.lcmp, 1) := by decide +kernel
theorem dL_law_464 : decode code 464 = .ok (.ifCond .eq 5, 3) := by decide +kernel
theorem dL_law_467 : decode code 467 = .ok (.iconst 0, 1) := by decide +kernel
theorem dL_law_468 : decode code 468 = .ok (.ireturn, 1) := by decide +kernel
theorem dL_law_469 : decode code 469 = .ok (.goto 470, 3) := by decide +kernel
theorem dL_law_472 : decode code 472 = .ok (.aload_n 1, 1) := by decide +kernel
theorem dL_law_473 : decode code 473 = .ok (.invokevirtual 109, 3) := by decide +kernel
theorem dL_law_476 : decode code 476 = .ok (.aload_n 2, 1) := by decide +kernel
theorem dL_law_477 : decode code 477 = .ok (.invokevirtual 112, 3) := by decide +kernel
theorem dL_law_480 : decode code 480 = .ok (.if_icmp .eq 459, 3) := by decide +kernel
theorem dL_law_483 : decode code 483 = .ok (.iconst 0, 1) := by decide +kernel
theorem dL_law_484 : decode code 484 = .ok (.ireturn, 1) := by decide +kernel
theorem dL_law_485 : decode code 485 = .ok (.aload_n 1, 1) := by decide +kernel
theorem dL_law_486 : decode code 486 = .ok (.invokevirtual 113, 3) := by decide +kernel
theorem dL_law_489 : decode code 489 = .ok (.aload_n 2, 1) := by decide +kernel
theorem dL_law_490 : decode code 490 = .ok (.invokevirtual 116, 3) := by decide +kernel
theorem dL_law_493 : decode code 493 = .ok (.if_icmp .eq 446, 3) := by decide +kernel
theorem dL_law_496 : decode code 496 = .ok (.iconst 0, 1) := by decide +kernel
theorem dL_law_497 : decode code 497 = .ok (.ireturn, 1) := by decide +kernel
theorem dL_law_498 : decode code 498 = .ok (.aload_n 1, 1) := by decide +kernel
theorem dL_law_499 : decode code 499 = .ok (.aload_n 3, 1) := by decide +kernel
theorem dL_law_500 : decode code 500 = .ok (.invokestatic 117, 3) := by decide +kernel
theorem dL_law_503 : decode code 503 = .ok (.istore 5, 2) := by decide +kernel
theorem dL_law_505 : decode code 505 = .ok (.aload_n 2, 1) := by decide +kernel
theorem dL_law_506 : decode code 506 = .ok (.invokevirtual 119, 3) := by decide +kernel
theorem dL_law_509 : decode code 509 = .ok (.istore 6, 2) := by decide +kernel
theorem dL_law_511 : decode code 511 = .ok (.aload_n 2, 1) := by decide +kernel
theorem dL_law_512 : decode code 512 = .ok (.invokevirtual 81, 3) := by decide +kernel
theorem dL_law_515 : decode code 515 = .ok (.iload 5, 2) := by decide +kernel
theorem dL_law_517 : decode code 517 = .ok (.if_icmp .eq 5, 3) := by decide +kernel
theorem dL_law_520 : decode code 520 = .ok (.iconst 0, 1) := by decide +kernel
theorem dL_law_521 : decode code 521 = .ok (.ireturn, 1) := by decide +kernel
theorem dL_law_522 : decode code 522 = .ok (.iload 5, 2) := by decide +kernel
theorem dL_law_524 : decode code 524 = .ok (.ifCond .ne 15, 3) := by decide +kernel
theorem dL_law_527 : decode code 527 = .ok (.aload_n 3, 1) := by decide +kernel
theorem dL_law_528 : decode code 528 = .ok (.iconst 0, 1) := by decide +kernel
theorem dL_law_529 : decode code 529 = .ok (.laload, 1) := by decide +kernel
theorem dL_law_530 : decode code 530 = .ok (.iload 6, 2) := by decide +kernel
theorem dL_law_532 : decode code 532 = .ok (.i2l, 1) := by decide +kernel
theorem dL_law_533 : decode code 533 = .ok (.lcmp, 1) := by decide +kernel
theorem dL_law_534 : decode code 534 = .ok (.ifCond .eq 5, 3) := by decide +kernel
theorem dL_law_537 : decode code 537 = .ok (.iconst 0, 1) := by decide +kernel
theorem dL_law_538 : decode code 538 = .ok (.ireturn, 1) := by decide +kernel
theorem dL_law_539 : decode code 539 = .ok (.goto 400, 3) := by decide +kernel
theorem dL_law_542 : decode code 542 = .ok (.aload_n 1, 1) := by decide +kernel
theorem dL_law_543 : decode code 543 = .ok (.aload_n 0, 1) := by decide +kernel
theorem dL_law_544 : decode code 544 = .ok (.iload 4, 2) := by decide +kernel
theorem dL_law_546 : decode code 546 = .ok (.iconst 1, 1) := by decide +kernel
theorem dL_law_547 : decode code 547 = .ok (.iadd, 1) := by decide +kernel
theorem dL_law_548 : decode code 548 = .ok (.iaload, 1) := by decide +kernel
theorem dL_law_549 : decode code 549 = .ok (.aload_n 3, 1) := by decide +kernel
theorem dL_law_550 : decode code 550 = .ok (.invokestatic 120, 3) := by decide +kernel
theorem dL_law_553 : decode code 553 = .ok (.istore 5, 2) := by decide +kernel
theorem dL_law_555 : decode code 555 = .ok (.aload_n 2, 1) := by decide +kernel
theorem dL_law_556 : decode code 556 = .ok (.aload_n 0, 1) := by decide +kernel
theorem dL_law_557 : decode code 557 = .ok (.iload 4, 2) := by decide +kernel
theorem dL_law_559 : decode code 559 = .ok (.iconst 1, 1) := by decide +kernel
theorem dL_law_560 : decode code 560 = .ok (.iadd, 1) := by decide +kernel
theorem dL_law_561 : decode code 561 = .ok (.iaload, 1) := by decide +kernel
theorem dL_law_562 : decode code 562 = .ok (.invokevirtual 122, 3) := by decide +kernel
theorem dL_law_565 : decode code 565 = .ok (.istore 6, 2) := by decide +kernel
theorem dL_law_567 : decode code 567 = .ok (.aload_n 2, 1) := by decide +kernel
theorem dL_law_568 : decode code 568 = .ok (.invokevirtual 81, 3) := by decide +kernel
theorem dL_law_571 : decode code 571 = .ok (.iload 5, 2) := by decide +kernel
theorem dL_law_573 : decode code 573 = .ok (.if_icmp .eq 5, 3) := by decide +kernel
theorem dL_law_576 : decode code 576 = .ok (.iconst 0, 1) := by decide +kernel
theorem dL_law_577 : decode code 577 = .ok (.ireturn, 1) := by decide +kernel
theorem dL_law_578 : decode code 578 = .ok (.iload 5, 2) := by decide +kernel
theorem dL_law_580 : decode code 580 = .ok (.ifCond .ne 15, 3) := by decide +kernel
theorem dL_law_583 : decode code 583 = .ok (.aload_n 3, 1) := by decide +kernel
theorem dL_law_584 : decode code 584 = .ok (.iconst 0, 1) := by decide +kernel
theorem dL_law_585 : decode code 585 = .ok (.laload, 1) := by decide +kernel
theorem dL_law_586 : decode code 586 = .ok (.iload 6, 2) := by decide +kernel
theorem dL_law_588 : decode code 588 = .ok (.i2l, 1) := by decide +kernel
theorem dL_law_589 : decode code 589 = .ok (.lcmp, 1) := by decide +kernel
theorem dL_law_590 : decode code 590 = .ok (.ifCond .eq 5, 3) := by decide +kernel
theorem dL_law_593 : decode code 593 = .ok (.iconst 0, 1) := by decide +kernel
theorem dL_law_594 : decode code 594 = .ok (.ireturn, 1) := by decide +kernel
theorem dL_law_595 : decode code 595 = .ok (.goto 344, 3) := by decide +kernel
theorem dL_law_598 : decode code 598 = .ok (.aload_n 1, 1) := by decide +kernel
theorem dL_law_599 : decode code 599 = .ok (.aload_n 0, 1) := by decide +kernel
theorem dL_law_600 : decode code 600 = .ok (.iload 4, 2) := by decide +kernel
theorem dL_law_602 : decode code 602 = .ok (.iconst 1, 1) := by decide +kernel
theorem dL_law_603 : decode code 603 = .ok (.iadd, 1) := by decide +kernel
theorem dL_law_604 : decode code 604 = .ok (.iaload, 1) := by decide +kernel
theorem dL_law_605 : decode code 605 = .ok (.aload_n 0, 1) := by decide +kernel
theorem dL_law_606 : decode code 606 = .ok (.iload 4, 2) := by decide +kernel
theorem dL_law_608 : decode code 608 = .ok (.iconst 2, 1) := by decide +kernel
theorem dL_law_609 : decode code 609 = .ok (.iadd, 1) := by decide +kernel
theorem dL_law_610 : decode code 610 = .ok (.iaload, 1) := by decide +kernel
theorem dL_law_611 : decode code 611 = .ok (.aload_n 0, 1) := by decide +kernel
theorem dL_law_612 : decode code 612 = .ok (.iload 4, 2) := by decide +kernel
theorem dL_law_614 : decode code 614 = .ok (.iconst 3, 1) := by decide +kernel
theorem dL_law_615 : decode code 615 = .ok (.iadd, 1) := by decide +kernel
theorem dL_law_616 : decode code 616 = .ok (.iaload, 1) := by decide +kernel
theorem dL_law_617 : decode code 617 = .ok (.aload_n 3, 1) := by decide +kernel
theorem dL_law_618 : decode code 618 = .ok (.invokestatic 123, 3) := by decide +kernel
theorem dL_law_621 : decode code 621 = .ok (.istore 5, 2) := by decide +kernel
theorem dL_law_623 : decode code 623 = .ok (.aload_n 2, 1) := by decide +kernel
theorem dL_law_624 : decode code 624 = .ok (.aload_n 0, 1) := by decide +kernel
theorem dL_law_625 : decode code 625 = .ok (.iload 4, 2) := by decide +kernel
theorem dL_law_627 : decode code 627 = .ok (.iconst 1, 1) := by decide +kernel
theorem dL_law_628 : decode code 628 = .ok (.iadd, 1) := by decide +kernel
theorem dL_law_629 : decode code 629 = .ok (.iaload, 1) := by decide +kernel
theorem dL_law_630 : decode code 630 = .ok (.aload_n 0, 1) := by decide +kernel
theorem dL_law_631 : decode code 631 = .ok (.iload 4, 2) := by decide +kernel
theorem dL_law_633 : decode code 633 = .ok (.iconst 2, 1) := by decide +kernel
theorem dL_law_634 : decode code 634 = .ok (.iadd, 1) := by decide +kernel
theorem dL_law_635 : decode code 635 = .ok (.iaload, 1) := by decide +kernel
theorem dL_law_636 : decode code 636 = .ok (.aload_n 0, 1) := by decide +kernel
theorem dL_law_637 : decode code 637 = .ok (.iload 4, 2) := by decide +kernel
theorem dL_law_639 : decode code 639 = .ok (.iconst 3, 1) := by decide +kernel
theorem dL_law_640 : decode code 640 = .ok (.iadd, 1) := by decide +kernel
theorem dL_law_641 : decode code 641 = .ok (.iaload, 1) := by decide +kernel
theorem dL_law_642 : decode code 642 = .ok (.invokevirtual 126, 3) := by decide +kernel
theorem dL_law_645 : decode code 645 = .ok (.istore 6, 2) := by decide +kernel
theorem dL_law_647 : decode code 647 = .ok (.aload_n 2, 1) := by decide +kernel
theorem dL_law_648 : decode code 648 = .ok (.invokevirtual 81, 3) := by decide +kernel
theorem dL_law_651 : decode code 651 = .ok (.iload 5, 2) := by decide +kernel
theorem dL_law_653 : decode code 653 = .ok (.if_icmp .eq 5, 3) := by decide +kernel
theorem dL_law_656 : decode code 656 = .ok (.iconst 0, 1) := by decide +kernel
theorem dL_law_657 : decode code 657 = .ok (.ireturn, 1) := by decide +kernel
theorem dL_law_658 : decode code 658 = .ok (.iload 5, 2) := by decide +kernel
theorem dL_law_660 : decode code 660 = .ok (.ifCond .ne 15, 3) := by decide +kernel
theorem dL_law_663 : decode code 663 = .ok (.aload_n 3, 1) := by decide +kernel
theorem dL_law_664 : decode code 664 = .ok (.iconst 0, 1) := by decide +kernel
theorem dL_law_665 : decode code 665 = .ok (.laload, 1) := by decide +kernel
theorem dL_law_666 : decode code 666 = .ok (.iload 6, 2) := by decide +kernel
theorem dL_law_668 : decode code 668 = .ok (.i2l, 1) := by decide +kernel
theorem dL_law_669 : decode code 669 = .ok (.lcmp, 1) := by decide +kernel
theorem dL_law_670 : decode code 670 = .ok (.ifCond .eq 5, 3) := by decide +kernel
theorem dL_law_673 : decode code 673 = .ok (.iconst 0, 1) := by decide +kernel
theorem dL_law_674 : decode code 674 = .ok (.ireturn, 1) := by decide +kernel
theorem dL_law_675 : decode code 675 = .ok (.goto 264, 3) := by decide +kernel
theorem dL_law_678 : decode code 678 = .ok (.aload_n 1, 1) := by decide +kernel
theorem dL_law_679 : decode code 679 = .ok (.aload_n 0, 1) := by decide +kernel
theorem dL_law_680 : decode code 680 = .ok (.iload 4, 2) := by decide +kernel
theorem dL_law_682 : decode code 682 = .ok (.iconst 1, 1) := by decide +kernel
theorem dL_law_683 : decode code 683 = .ok (.iadd, 1) := by decide +kernel
theorem dL_law_684 : decode code 684 = .ok (.iaload, 1) := by decide +kernel
theorem dL_law_685 : decode code 685 = .ok (.aload_n 0, 1) := by decide +kernel
theorem dL_law_686 : decode code 686 = .ok (.iload 4, 2) := by decide +kernel
theorem dL_law_688 : decode code 688 = .ok (.iconst 2, 1) := by decide +kernel
theorem dL_law_689 : decode code 689 = .ok (.iadd, 1) := by decide +kernel
theorem dL_law_690 : decode code 690 = .ok (.iaload, 1) := by decide +kernel
theorem dL_law_691 : decode code 691 = .ok (.aload_n 0, 1) := by decide +kernel
theorem dL_law_692 : decode code 692 = .ok (.iload 4, 2) := by decide +kernel
theorem dL_law_694 : decode code 694 = .ok (.iconst 3, 1) := by decide +kernel
theorem dL_law_695 : decode code 695 = .ok (.iadd, 1) := by decide +kernel
theorem dL_law_696 : decode code 696 = .ok (.iaload, 1) := by decide +kernel
theorem dL_law_697 : decode code 697 = .ok (.aload_n 3, 1) := by decide +kernel
theorem dL_law_698 : decode code 698 = .ok (.invokestatic 127, 3) := by decide +kernel
theorem dL_law_701 : decode code 701 = .ok (.istore 5, 2) := by decide +kernel
theorem dL_law_703 : decode code 703 = .ok (.aload_n 2, 1) := by decide +kernel
theorem dL_law_704 : decode code 704 = .ok (.aload_n 0, 1) := by decide +kernel
theorem dL_law_705 : decode code 705 = .ok (.iload 4, 2) := by decide +kernel
theorem dL_law_707 : decode code 707 = .ok (.iconst 1, 1) := by decide +kernel
theorem dL_law_708 : decode code 708 = .ok (.iadd, 1) := by decide +kernel
theorem dL_law_709 : decode code 709 = .ok (.iaload, 1) := by decide +kernel
theorem dL_law_710 : decode code 710 = .ok (.aload_n 0, 1) := by decide +kernel
theorem dL_law_711 : decode code 711 = .ok (.iload 4, 2) := by decide +kernel
theorem dL_law_713 : decode code 713 = .ok (.iconst 2, 1) := by decide +kernel
theorem dL_law_714 : decode code 714 = .ok (.iadd, 1) := by decide +kernel
theorem dL_law_715 : decode code 715 = .ok (.iaload, 1) := by decide +kernel
theorem dL_law_716 : decode code 716 = .ok (.aload_n 0, 1) := by decide +kernel
theorem dL_law_717 : decode code 717 = .ok (.iload 4, 2) := by decide +kernel
theorem dL_law_719 : decode code 719 = .ok (.iconst 3, 1) := by decide +kernel
theorem dL_law_720 : decode code 720 = .ok (.iadd, 1) := by decide +kernel
theorem dL_law_721 : decode code 721 = .ok (.iaload, 1) := by decide +kernel
theorem dL_law_722 : decode code 722 = .ok (.invokevirtual 129, 3) := by decide +kernel
theorem dL_law_725 : decode code 725 = .ok (.istore 6, 2) := by decide +kernel
theorem dL_law_727 : decode code 727 = .ok (.aload_n 2, 1) := by decide +kernel
theorem dL_law_728 : decode code 728 = .ok (.invokevirtual 81, 3) := by decide +kernel
theorem dL_law_731 : decode code 731 = .ok (.iload 5, 2) := by decide +kernel
theorem dL_law_733 : decode code 733 = .ok (.if_icmp .eq 5, 3) := by decide +kernel
theorem dL_law_736 : decode code 736 = .ok (.iconst 0, 1) := by decide +kernel
theorem dL_law_737 : decode code 737 = .ok (.ireturn, 1) := by decide +kernel
theorem dL_law_738 : decode code 738 = .ok (.iload 5, 2) := by decide +kernel
theorem dL_law_740 : decode code 740 = .ok (.ifCond .ne 22, 3) := by decide +kernel
theorem dL_law_743 : decode code 743 = .ok (.aload_n 3, 1) := by decide +kernel
theorem dL_law_744 : decode code 744 = .ok (.iconst 0, 1) := by decide +kernel
theorem dL_law_745 : decode code 745 = .ok (.laload, 1) := by decide +kernel
theorem dL_law_746 : decode code 746 = .ok (.iload 6, 2) := by decide +kernel
theorem dL_law_748 : decode code 748 = .ok (.ifCond .eq 7, 3) := by decide +kernel
theorem dL_law_751 : decode code 751 = .ok (.lconst 1, 1) := by decide +kernel
theorem dL_law_752 : decode code 752 = .ok (.goto 4, 3) := by decide +kernel
theorem dL_law_755 : decode code 755 = .ok (.lconst 0, 1) := by decide +kernel
theorem dL_law_756 : decode code 756 = .ok (.lcmp, 1) := by decide +kernel
theorem dL_law_757 : decode code 757 = .ok (.ifCond .eq 5, 3) := by decide +kernel
theorem dL_law_760 : decode code 760 = .ok (.iconst 0, 1) := by decide +kernel
theorem dL_law_761 : decode code 761 = .ok (.ireturn, 1) := by decide +kernel
theorem dL_law_762 : decode code 762 = .ok (.goto 177, 3) := by decide +kernel
theorem dL_law_765 : decode code 765 = .ok (.aload_n 1, 1) := by decide +kernel
theorem dL_law_766 : decode code 766 = .ok (.aload_n 3, 1) := by decide +kernel
theorem dL_law_767 : decode code 767 = .ok (.invokestatic 130, 3) := by decide +kernel
theorem dL_law_770 : decode code 770 = .ok (.istore 5, 2) := by decide +kernel
theorem dL_law_772 : decode code 772 = .ok (.aload_n 2, 1) := by decide +kernel
theorem dL_law_773 : decode code 773 = .ok (.invokevirtual 132, 3) := by decide +kernel
theorem dL_law_776 : decode code 776 = .ok (.istore 6, 2) := by decide +kernel
theorem dL_law_778 : decode code 778 = .ok (.aload_n 2, 1) := by decide +kernel
theorem dL_law_779 : decode code 779 = .ok (.invokevirtual 81, 3) := by decide +kernel
theorem dL_law_782 : decode code 782 = .ok (.iload 5, 2) := by decide +kernel
theorem dL_law_784 : decode code 784 = .ok (.if_icmp .eq 5, 3) := by decide +kernel
theorem dL_law_787 : decode code 787 = .ok (.iconst 0, 1) := by decide +kernel
theorem dL_law_788 : decode code 788 = .ok (.ireturn, 1) := by decide +kernel
theorem dL_law_789 : decode code 789 = .ok (.iload 5, 2) := by decide +kernel
theorem dL_law_791 : decode code 791 = .ok (.ifCond .ne 22, 3) := by decide +kernel
theorem dL_law_794 : decode code 794 = .ok (.aload_n 3, 1) := by decide +kernel
theorem dL_law_795 : decode code 795 = .ok (.iconst 0, 1) := by decide +kernel
theorem dL_law_796 : decode code 796 = .ok (.laload, 1) := by decide +kernel
theorem dL_law_797 : decode code 797 = .ok (.iload 6, 2) := by decide +kernel
theorem dL_law_799 : decode code 799 = .ok (.ifCond .eq 7, 3) := by decide +kernel
theorem dL_law_802 : decode code 802 = .ok (.lconst 1, 1) := by decide +kernel
theorem dL_law_803 : decode code 803 = .ok (.goto 4, 3) := by decide +kernel
theorem dL_law_806 : decode code 806 = .ok (.lconst 0, 1) := by decide +kernel
theorem dL_law_807 : decode code 807 = .ok (.lcmp, 1) := by decide +kernel
theorem dL_law_808 : decode code 808 = .ok (.ifCond .eq 5, 3) := by decide +kernel
theorem dL_law_811 : decode code 811 = .ok (.iconst 0, 1) := by decide +kernel
theorem dL_law_812 : decode code 812 = .ok (.ireturn, 1) := by decide +kernel
theorem dL_law_813 : decode code 813 = .ok (.goto 126, 3) := by decide +kernel
theorem dL_law_816 : decode code 816 = .ok (.aload_n 1, 1) := by decide +kernel
theorem dL_law_817 : decode code 817 = .ok (.aload_n 0, 1) := by decide +kernel
theorem dL_law_818 : decode code 818 = .ok (.iload 4, 2) := by decide +kernel
theorem dL_law_820 : decode code 820 = .ok (.iconst 1, 1) := by decide +kernel
theorem dL_law_821 : decode code 821 = .ok (.iadd, 1) := by decide +kernel
theorem dL_law_822 : decode code 822 = .ok (.iaload, 1) := by decide +kernel
theorem dL_law_823 : decode code 823 = .ok (.aload_n 0, 1) := by decide +kernel
theorem dL_law_824 : decode code 824 = .ok (.iload 4, 2) := by decide +kernel
theorem dL_law_826 : decode code 826 = .ok (.iconst 2, 1) := by decide +kernel
theorem dL_law_827 : decode code 827 = .ok (.iadd, 1) := by decide +kernel
theorem dL_law_828 : decode code 828 = .ok (.iaload, 1) := by decide +kernel
theorem dL_law_829 : decode code 829 = .ok (.aload_n 3, 1) := by decide +kernel
theorem dL_law_830 : decode code 830 = .ok (.invokestatic 133, 3) := by decide +kernel
theorem dL_law_833 : decode code 833 = .ok (.istore 5, 2) := by decide +kernel
theorem dL_law_835 : decode code 835 = .ok (.aload_n 2, 1) := by decide +kernel
theorem dL_law_836 : decode code 836 = .ok (.aload_n 0, 1) := by decide +kernel
theorem dL_law_837 : decode code 837 = .ok (.iload 4, 2) := by decide +kernel
theorem dL_law_839 : decode code 839 = .ok (.iconst 1, 1) := by decide +kernel
theorem dL_law_840 : decode code 840 = .ok (.iadd, 1) := by decide +kernel
theorem dL_law_841 : decode code 841 = .ok (.iaload, 1) := by decide +kernel
theorem dL_law_842 : decode code 842 = .ok (.aload_n 0, 1) := by decide +kernel
theorem dL_law_843 : decode code 843 = .ok (.iload 4, 2) := by decide +kernel
theorem dL_law_845 : decode code 845 = .ok (.iconst 2, 1) := by decide +kernel
theorem dL_law_846 : decode code 846 = .ok (.iadd, 1) := by decide +kernel
theorem dL_law_847 : decode code 847 = .ok (.iaload, 1) := by decide +kernel
theorem dL_law_848 : decode code 848 = .ok (.invokevirtual 136, 3) := by decide +kernel
theorem dL_law_851 : decode code 851 = .ok (.istore 6, 2) := by decide +kernel
theorem dL_law_853 : decode code 853 = .ok (.aload_n 2, 1) := by decide +kernel
theorem dL_law_854 : decode code 854 = .ok (.invokevirtual 81, 3) := by decide +kernel
theorem dL_law_857 : decode code 857 = .ok (.iload 5, 2) := by decide +kernel
theorem dL_law_859 : decode code 859 = .ok (.if_icmp .eq 5, 3) := by decide +kernel
theorem dL_law_862 : decode code 862 = .ok (.iconst 0, 1) := by decide +kernel
theorem dL_law_863 : decode code 863 = .ok (.ireturn, 1) := by decide +kernel
theorem dL_law_864 : decode code 864 = .ok (.iload 5, 2) := by decide +kernel
theorem dL_law_866 : decode code 866 = .ok (.ifCond .ne 15, 3) := by decide +kernel
theorem dL_law_869 : decode code 869 = .ok (.aload_n 3, 1) := by decide +kernel
theorem dL_law_870 : decode code 870 = .ok (.iconst 0, 1) := by decide +kernel
theorem dL_law_871 : decode code 871 = .ok (.laload, 1) := by decide +kernel
theorem dL_law_872 : decode code 872 = .ok (.iload 6, 2) := by decide +kernel
theorem dL_law_874 : decode code 874 = .ok (.i2l, 1) := by decide +kernel
theorem dL_law_875 : decode code 875 = .ok (.lcmp, 1) := by decide +kernel
theorem dL_law_876 : decode code 876 = .ok (.ifCond .eq 5, 3) := by decide +kernel
theorem dL_law_879 : decode code 879 = .ok (.iconst 0, 1) := by decide +kernel
theorem dL_law_880 : decode code 880 = .ok (.ireturn, 1) := by decide +kernel
theorem dL_law_881 : decode code 881 = .ok (.goto 58, 3) := by decide +kernel
theorem dL_law_884 : decode code 884 = .ok (.aload_n 1, 1) := by decide +kernel
theorem dL_law_885 : decode code 885 = .ok (.aload_n 0, 1) := by decide +kernel
theorem dL_law_886 : decode code 886 = .ok (.iload 4, 2) := by decide +kernel
theorem dL_law_888 : decode code 888 = .ok (.iconst 1, 1) := by decide +kernel
theorem dL_law_889 : decode code 889 = .ok (.iadd, 1) := by decide +kernel
theorem dL_law_890 : decode code 890 = .ok (.iaload, 1) := by decide +kernel
theorem dL_law_891 : decode code 891 = .ok (.aload_n 3, 1) := by decide +kernel
theorem dL_law_892 : decode code 892 = .ok (.invokestatic 137, 3) := by decide +kernel
theorem dL_law_895 : decode code 895 = .ok (.istore 5, 2) := by decide +kernel
theorem dL_law_897 : decode code 897 = .ok (.aload_n 2, 1) := by decide +kernel
theorem dL_law_898 : decode code 898 = .ok (.aload_n 0, 1) := by decide +kernel
theorem dL_law_899 : decode code 899 = .ok (.iload 4, 2) := by decide +kernel
theorem dL_law_901 : decode code 901 = .ok (.iconst 1, 1) := by decide +kernel
theorem dL_law_902 : decode code 902 = .ok (.iadd, 1) := by decide +kernel
theorem dL_law_903 : decode code 903 = .ok (.iaload, 1) := by decide +kernel
theorem dL_law_904 : decode code 904 = .ok (.invokevirtual 139, 3) := by decide +kernel
theorem dL_law_907 : decode code 907 = .ok (.lstore 6, 2) := by decide +kernel
theorem dL_law_909 : decode code 909 = .ok (.aload_n 2, 1) := by decide +kernel
theorem dL_law_910 : decode code 910 = .ok (.invokevirtual 81, 3) := by decide +kernel
theorem dL_law_913 : decode code 913 = .ok (.iload 5, 2) := by decide +kernel
theorem dL_law_915 : decode code 915 = .ok (.if_icmp .eq 5, 3) := by decide +kernel
theorem dL_law_918 : decode code 918 = .ok (.iconst 0, 1) := by decide +kernel
theorem dL_law_919 : decode code 919 = .ok (.ireturn, 1) := by decide +kernel
theorem dL_law_920 : decode code 920 = .ok (.iload 5, 2) := by decide +kernel
theorem dL_law_922 : decode code 922 = .ok (.ifCond .ne 14, 3) := by decide +kernel
theorem dL_law_925 : decode code 925 = .ok (.aload_n 3, 1) := by decide +kernel
theorem dL_law_926 : decode code 926 = .ok (.iconst 0, 1) := by decide +kernel
theorem dL_law_927 : decode code 927 = .ok (.laload, 1) := by decide +kernel
theorem dL_law_928 : decode code 928 = .ok (.lload 6, 2) := by decide +kernel
theorem dL_law_930 : decode code 930 = .ok (.lcmp, 1) := by decide +kernel
theorem dL_law_931 : decode code 931 = .ok (.ifCond .eq 5, 3) := by decide +kernel
theorem dL_law_934 : decode code 934 = .ok (.iconst 0, 1) := by decide +kernel
theorem dL_law_935 : decode code 935 = .ok (.ireturn, 1) := by decide +kernel
theorem dL_law_936 : decode code 936 = .ok (.goto 3, 3) := by decide +kernel
theorem dL_law_939 : decode code 939 = .ok (.iinc 4 5, 3) := by decide +kernel
theorem dL_law_942 : decode code 942 = .ok (.goto (-919), 3) := by decide +kernel
theorem dL_law_945 : decode code 945 = .ok (.iconst 1, 1) := by decide +kernel
theorem dL_law_946 : decode code 946 = .ok (.ireturn, 1) := by decide +kernel
theorem kiL : Cond.initialized RL ∈ zWS := zin 0 (by decide +kernel) (by decide +kernel)
/-- the script lies at the place 82, beyond those that are written -/
def zLX (X : zC) (b L : Nat) (xs : Nat → Int32) : Prop := va_X b L xs (zs X) (zs X).heap ∧ b < (zs X).heap.size ∧ ¬ zA (zad X) (zs X).heap.size b ∧ zad X 82 = b
section ZLW
variable {X : zC} {l : Launch} {md : zMd} {rm : Room} {F : State → Prop} {u : Nat × Nat} {pc : Nat} {LL : List (Nat × Value)} {S : List Value} {M : zM} {b L : Nat} {xs : Nat → Int32}
theorem zl_sld {i : Nat} (hc : zCy X l md rm) (hx : zLX X b L xs) (hd : decode md.2.1 pc = .ok (.iaload, 1)) (hi : i < L) (hL : L ≤ 2560) (kk : zF X F u (pc + 1) LL (.int (xs i) :: S) M) : zF X F u pc LL (.int (nI i) :: .ref 82 :: S) M := by
  intro ls H locs hl hP hS
  show W _ _ _ _ _ _ _ _ _ _ H locs u.1 u.2 F (F0 _ pc ls (.int (nI i) :: .ref (zad X 82) :: S.map (zcv (zad X))))
  rw [hx.2.2.2]
  refine va_sld hc.1 hc.2.1 hx.1 hx.2.1 hx.2.2.1 hS (vp_in_nI hi (by omega)) hd ?_
  rw [nI_clamp (by omega)]
  exact kk ls H locs hl hP hS
theorem zl_slen (hc : zCy X l md rm) (hx : zLX X b L xs) (hd : decode md.2.1 pc = .ok (.arraylength, 1)) (kk : zF X F u (pc + 1) LL (.int (nI L) :: S) M) : zF X F u pc LL (.ref 82 :: S) M := by
  intro ls H locs hl hP hS
  show W _ _ _ _ _ _ _ _ _ _ H locs u.1 u.2 F (F0 _ pc ls (.ref (zad X 82) :: S.map (zcv (zad X))))
  rw [hx.2.2.2]
  exact va_slen hc.1 hc.2.1 hx.1 hx.2.1 hx.2.2.1 hS hd (kk ls H locs hl hP hS)
theorem zl_in (hc : zCy X l md rm) (hd : decode md.2.1 pc = .ok (.laload, 1)) (kk : zF X F u (pc + 1) LL (.long (zJ M 81 0) :: S) M) : zF X F u pc LL (.int (nI 0) :: .ref 81 :: S) M := zx_lald hc ar_81 hd (vp_in_nI (by decide) (by decide)) (by rw [nI_clamp (by decide)]; exact kk)
theorem zx_widen {u' : Nat × Nat} (h1 : u.1 ≤ u'.1) (h2 : u.2 ≤ u'.2) (kk : zF X F u' pc LL S M) : zF X F u pc LL S M := fun ls H locs hl hP hS => W.widen h1 h2 (kk ls H locs hl hP hS)
/-- a static call of a method with a table, that returns an int -/
theorem zl_callL {idx n : Nat} {md' : zMd} {hh : List (Nat × Nat × Nat × Nat)} {rm' : Room} {As : List Value} {Pq : Int32 → zM → Prop} (hc : zCy X l md rm) (hT : zThr (zA (zad X) (zs X).heap.size) (zs X)) (hs : Cond.codeWith md'.1 md'.2.1 md'.2.2.1 md'.2.2.2 hh ∈ zWS ∧ Cond.initialized md'.1.cls ∈ zWS ∧ (md'.1.cls ≠ "java/lang/invoke/MethodHandle" ∧ md'.1.cls ≠ "java/lang/invoke/VarHandle") ∧ (parseMethodDescriptor md'.1.desc).map (fun d => d.parameters.length) = some n) (hV : Cond.methodLink md.1.cls idx md'.1 ∈ zWS ∧ Cond.static md'.1 ∈ zWS) (hM : zMetL l md' hh rm' As M (zqi Pq)) (hdd : rm'.frames + 1 ≤ rm.frames ∧ (S.map fun v => v.category).sum + (md'.2.2.1 + 11) + rm'.locals ≤ rm.locals) (hn : As.length = n) (hu : u.1 + rm'.cells ≤ rm.cells ∧ u.2 + rm'.slots ≤ rm.slots) (hd : decode md.2.1 pc = .ok (.invokestatic idx, 3))
    (kk : ∀ x M', Pq x M' → zF X F (u.1 + rm'.cells, u.2 + rm'.slots) (pc + 3) LL (.int x :: S) M') : zF X F u pc LL (As.reverse ++ S) M := by
  intro ls H locs hl hP hS T hT9 Y
  obtain ⟨hco, hini, hy, hpar⟩ := hs
  have hMM := hM (zDD X) (zca X) (zad X) H.size
  rw [← hc.2.2.2.2.2.2.2.2.2.2.1] at hMM
  have hR := hc.2.2.2.2.2.2.2.2.2.1
  have hK : Back (zl X) (zRo X) (zp X) (ze X) (zbe X) (zs X) (zas X) md'.1 3 ((S.map fun v => v.category).sum) (PreOf (zRo X) rm'.cells rm'.slots (zPx (zDD X) (zca X) (zad X) As M H.size)) (PostOf (zQc (zDD X) (zca X) (zad X) H.size (zqi Pq)) rm'.cells rm'.slots (zA (zad X) H.size)) :=
    va_backW (hh := hh) (bytes := md'.2.1) (maxL := md'.2.2.1) (ret := md'.2.2.2) hMM (fun a U g mk q => by
      obtain ⟨q0, q1, qP, qK, qI, qN, qT⟩ := q
      exact ⟨q0, q1, qP, va_K.moved (u := U) (U := U.calling g mk a) (Vm.Alike.refl U.vm) qK, qI, fun w hw => va_Nw.same rfl (u := U) (U := U.calling g mk a) rfl (qN w hw), qT.call⟩) rfl rfl (by rw [hR]; exact hdd.1) (by rw [hR]; exact hdd.2)
      (pay_in (big := zWS) hc.2.2.2.2.1 (fun w hw => (List.mem_cons.mp hw).elim (fun e => by subst e; exact ⟨hco, zWS_good _ hco⟩) (fun h => ⟨h, zWS_good w h⟩))) List.mem_cons_self
      (fun a' U hW => word_at hW (Or.inl (by first | rfl | simp [Cond.onTables, Cond.keeps, Cond.steady])) (hc.w hini))
  obtain ⟨v, vm₁, ⟨U', l2, c2, s2⟩, hW₁, X', ⟨g', mk, t, L2, e1, e2, hq, h1, hL, h2, h3⟩, st⟩ := vx_callSW Y hc.1 (hh := hh) (bytes := md'.2.1) (maxL := md'.2.2.1) (ret := md'.2.2.2) hc.2.2.2.1 (hc.w hV.1) (hc.w hV.2) (hc.w hini) (hc.w hco) hy hK (g := F0 (zm X) pc ls ((As.reverse ++ S).map (zcv (zad X)))) rfl hl.1 (argsL := As.map (zcv (zad X))) (rest := S.map (zcv (zad X))) (fun sig h => by
      rw [h] at hpar
      rw [List.length_map, hn]
      exact (Option.some.inj hpar).symm) (by
      show (As.reverse ++ S).map (zcv (zad X)) = _
      rw [List.map_append, List.map_reverse]) (zmon (zcv_cat _) (Nat.le_refl _)) (by rw [hc.2.1]; exact hd) (fun vm₁ hW₁ => zpreVx (As := As) hc hT hu hT9 hP hS vm₁ hW₁)
  dsimp only [Pt.U, Pt.locs, Pt.cells, Pt.slots] at X' e1 e2 h1 h2 h3 st
  subst h1; subst h2; subst h3
  exact zgoesy (as := #[]) hS hl hT9 X' hL e1 hq st (fun r M' h => by obtain ⟨x, rfl, h⟩ := h; exact kk x M' h)
end ZLW
theorem lw_go {L i : Nat} (hL : L ≤ 2560) (hi : i ≤ 512) (h : ¬ nI L - 5 < nI (5 * i)) : 5 * i + 5 ≤ L := by
  by_cases c : 5 ≤ L
  · rw [show (5 : Int32) = nI 5 from rfl, pk_sub c] at h
    have := (nI_leI (by omega) (by omega)).mp (Int32.not_lt.mp h)
    omega
  · exfalso
    apply h
    have e : (nI (5 * i)).toInt = ((5 * i : Nat) : Int) := nI_toInt (by omega)
    apply Int32.lt_iff_toInt_lt.mpr
    rw [e]
    have key : (nI L - 5).toInt < 0 := by
      match L, c with
      | 0, _ => decide
      | 1, _ => decide
      | 2, _ => decide
      | 3, _ => decide
      | 4, _ => decide
      | n + 5, h => omega
    omega
theorem i32_le {w : Int32} {a b : Int32} (hab : a.toInt + 1 = b.toInt) : b ≤ w ↔ a < w := by
  rw [Int32.le_iff_toInt_le, Int32.lt_iff_toInt_lt]; omega

set_option maxRecDepth 100000 in
set_option maxHeartbeats 4000000 in
theorem lw_and {X : zC} {l : Launch} {F : State → Prop} {u : Nat × Nat} {M : zM} {b L i : Nat} {xs : Nat → Int32} {h : Nat} {cs : List gC} {R : Nat → List (List gC)} (hc : zCy X l mL_law room_1) (hT : zThr (zA (zad X) (zs X).heap.size) (zs X)) (htr : l.stackTraces = false) (hx : zLX X b L xs) (hL : L ≤ 2560) (hi : 5 * i + 5 ≤ L) (hu : u.1 + 4 ≤ room_1.cells ∧ u.2 + 24 ≤ room_1.slots) (v : zV M h cs R) (next : ∀ (M' : zM), (∃ h' cs' R', zV M' h' cs' R') → zF X F (u.1 + 4, u.2 + 24) 939 [(0, .ref 82), (1, .ref 0), (2, .ref 62), (3, .ref 81), (4, .int (nI (5 * i)))] [] M') : zF X F u 272 [(0, .ref 82), (1, .ref 0), (2, .ref 62), (3, .ref 81), (4, .int (nI (5 * i)))] [] M := by
  refine zx_aload_n hc dL_law_272 rfl ?_
  refine zl_callL (md' := mL_and) (hh := hL_and) (As := [.ref 0]) hc hT ⟨kL_and, kiL, pdL_and.1, pdL_and.2⟩ ⟨jmL_88, ksL_and⟩ (cL_and_ l M (cK_and_ l htr M (P := R (h - 2)) (Q := R (h - 1)) v.1.1 v.1.2.1 v.1.2.2.2.2.2.1 (fun h2 => ⟨v.1.2.2.2.2.2.2.2.1 (h - 2) (by omega), v.1.2.2.2.2.2.2.2.1 (h - 1) (by omega)⟩)) (fun e M9 z => by rcases z with z | z; exact Or.inl z.1; exact Or.inr z.1)) ⟨Nat.le_of_ble_eq_true rfl, Nat.le_of_ble_eq_true rfl⟩ rfl ⟨by have := hu.1; show u.1 + 2 ≤ _; omega, by have := hu.2; show u.2 + 12 ≤ _; omega⟩ dL_law_273 (fun x_273 M_273 h_273 => ?_)
  have vm := vm_bin (g := gAnd (R (h - 2)) (R (h - 1))) v h_273
  refine zx_istore hc dL_law_276 (by decide) ?_
  refine zx_aload_n hc dL_law_278 rfl ?_
  refine zx_cV0v hc gsL_91 zob_62 (cM_and_ l M_273 (P := R (h - 2)) (Q := R (h - 1)) vm.1 vm.2.1 vm.2.2.2.1 (fun h2 => ⟨vm.2.2.2.2.1 (h - 2) (by omega), vm.2.2.2.2.1 (h - 1) (by omega), (v.2.2.1.1 (h - 2) (by omega)).1, (v.2.2.1.1 (h - 1) (by omega)).1⟩)) ⟨rfl, rfl⟩ ⟨Nat.le_of_ble_eq_true rfl, Nat.le_of_ble_eq_true rfl⟩ ⟨by have := hu.1; show u.1 + 2 ≤ _; omega, by have := hu.2; show u.2 + 12 ≤ _; omega⟩ dL_law_279 (fun M_279 h_279 => ?_)
  obtain ⟨hs1, hv⟩ := st_bin (g := gAnd (R (h - 2)) (R (h - 1))) (fun h2 A hA => gGd_and (v.2.2.1.1 (h - 2) (by omega)) (v.2.2.1.1 (h - 1) (by omega)) hA) v h_273 h_279
  refine zx_aload_n hc dL_law_282 rfl ?_
  refine zx_cV0i hc gsL_81 zob_62 (cM_thrown_ l M_279) ⟨rfl, rfl⟩ ⟨Nat.le_of_ble_eq_true rfl, Nat.le_of_ble_eq_true rfl⟩ ⟨by have := hu.1; show u.1 + 2 ≤ _; omega, by have := hu.2; show u.2 + 12 ≤ _; omega⟩ dL_law_283 (fun x_283 M_283 h_283 => ?_)
  obtain ⟨q_283, hm_283⟩ := h_283
  rw [hm_283, q_283]
  refine zx_iload hc dL_law_286 rfl ?_
  refine zx_icmp_eq 293 hc dL_law_288 rfl (fun h_288 => ?_) (fun h_288 => ?_)
  · skip
    refine zx_goto 939 hc dL_law_293 rfl ?_
    refine zx_take 5 ?_
    exact zx_widen (u' := (u.1 + 4, u.2 + 24)) (by show u.1 + 2 ≤ u.1 + 4; omega) (by show u.2 + 12 ≤ u.2 + 24; omega) (next _ hv)
  · skip
    exact absurd hs1 h_288
set_option maxRecDepth 100000 in
set_option maxHeartbeats 4000000 in
theorem lw_or {X : zC} {l : Launch} {F : State → Prop} {u : Nat × Nat} {M : zM} {b L i : Nat} {xs : Nat → Int32} {h : Nat} {cs : List gC} {R : Nat → List (List gC)} (hc : zCy X l mL_law room_1) (hT : zThr (zA (zad X) (zs X).heap.size) (zs X)) (htr : l.stackTraces = false) (hx : zLX X b L xs) (hL : L ≤ 2560) (hi : 5 * i + 5 ≤ L) (hu : u.1 + 4 ≤ room_1.cells ∧ u.2 + 24 ≤ room_1.slots) (v : zV M h cs R) (next : ∀ (M' : zM), (∃ h' cs' R', zV M' h' cs' R') → zF X F (u.1 + 4, u.2 + 24) 939 [(0, .ref 82), (1, .ref 0), (2, .ref 62), (3, .ref 81), (4, .int (nI (5 * i)))] [] M') : zF X F u 296 [(0, .ref 82), (1, .ref 0), (2, .ref 62), (3, .ref 81), (4, .int (nI (5 * i)))] [] M := by
  refine zx_aload_n hc dL_law_296 rfl ?_
  refine zl_callL (md' := mL_or) (hh := hL_or) (As := [.ref 0]) hc hT ⟨kL_or, kiL, pdL_or.1, pdL_or.2⟩ ⟨jmL_92, ksL_or⟩ (cL_or_ l M (cK_or_ l htr M (P := R (h - 2)) (Q := R (h - 1)) v.1.1 v.1.2.1 v.1.2.2.2.2.2.1 (fun h2 => ⟨v.1.2.2.2.2.2.2.2.1 (h - 2) (by omega), v.1.2.2.2.2.2.2.2.1 (h - 1) (by omega)⟩)) (fun e M9 z => by rcases z with z | z; exact Or.inl z.1; exact Or.inr z.1)) ⟨Nat.le_of_ble_eq_true rfl, Nat.le_of_ble_eq_true rfl⟩ rfl ⟨by have := hu.1; show u.1 + 2 ≤ _; omega, by have := hu.2; show u.2 + 12 ≤ _; omega⟩ dL_law_297 (fun x_297 M_297 h_297 => ?_)
  have vm := vm_bin (g := gor1 (R (h - 2)) (R (h - 1))) v h_297
  refine zx_istore hc dL_law_300 (by decide) ?_
  refine zx_aload_n hc dL_law_302 rfl ?_
  refine zx_cV0v hc gsL_94 zob_62 (cM_or_ l M_297 (P := R (h - 2)) (Q := R (h - 1)) vm.1 vm.2.1 vm.2.2.2.1 (fun h2 => ⟨vm.2.2.2.2.1 (h - 2) (by omega), vm.2.2.2.2.1 (h - 1) (by omega), (v.2.2.1.1 (h - 2) (by omega)).1, (v.2.2.1.1 (h - 1) (by omega)).1⟩)) ⟨rfl, rfl⟩ ⟨Nat.le_of_ble_eq_true rfl, Nat.le_of_ble_eq_true rfl⟩ ⟨by have := hu.1; show u.1 + 2 ≤ _; omega, by have := hu.2; show u.2 + 12 ≤ _; omega⟩ dL_law_303 (fun M_303 h_303 => ?_)
  obtain ⟨hs1, hv⟩ := st_bin (g := gor1 (R (h - 2)) (R (h - 1))) (fun h2 A hA => gGd_or (v.2.2.1.1 (h - 2) (by omega)) (v.2.2.1.1 (h - 1) (by omega)) hA) v h_297 h_303
  refine zx_aload_n hc dL_law_306 rfl ?_
  refine zx_cV0i hc gsL_81 zob_62 (cM_thrown_ l M_303) ⟨rfl, rfl⟩ ⟨Nat.le_of_ble_eq_true rfl, Nat.le_of_ble_eq_true rfl⟩ ⟨by have := hu.1; show u.1 + 2 ≤ _; omega, by have := hu.2; show u.2 + 12 ≤ _; omega⟩ dL_law_307 (fun x_307 M_307 h_307 => ?_)
  obtain ⟨q_307, hm_307⟩ := h_307
  rw [hm_307, q_307]
  refine zx_iload hc dL_law_310 rfl ?_
  refine zx_icmp_eq 317 hc dL_law_312 rfl (fun h_312 => ?_) (fun h_312 => ?_)
  · skip
    refine zx_goto 939 hc dL_law_317 rfl ?_
    refine zx_take 5 ?_
    exact zx_widen (u' := (u.1 + 4, u.2 + 24)) (by show u.1 + 2 ≤ u.1 + 4; omega) (by show u.2 + 12 ≤ u.2 + 24; omega) (next _ hv)
  · skip
    exact absurd hs1 h_312
set_option maxRecDepth 100000 in
set_option maxHeartbeats 4000000 in
theorem lw_not {X : zC} {l : Launch} {F : State → Prop} {u : Nat × Nat} {M : zM} {b L i : Nat} {xs : Nat → Int32} {h : Nat} {cs : List gC} {R : Nat → List (List gC)} (hc : zCy X l mL_law room_1) (hT : zThr (zA (zad X) (zs X).heap.size) (zs X)) (htr : l.stackTraces = false) (hx : zLX X b L xs) (hL : L ≤ 2560) (hi : 5 * i + 5 ≤ L) (hu : u.1 + 4 ≤ room_1.cells ∧ u.2 + 24 ≤ room_1.slots) (v : zV M h cs R) (next : ∀ (M' : zM), (∃ h' cs' R', zV M' h' cs' R') → zF X F (u.1 + 4, u.2 + 24) 939 [(0, .ref 82), (1, .ref 0), (2, .ref 62), (3, .ref 81), (4, .int (nI (5 * i)))] [] M') : zF X F u 320 [(0, .ref 82), (1, .ref 0), (2, .ref 62), (3, .ref 81), (4, .int (nI (5 * i)))] [] M := by
  refine zx_aload_n hc dL_law_320 rfl ?_
  refine zl_callL (md' := mL_not) (hh := hL_not) (As := [.ref 0]) hc hT ⟨kL_not, kiL, pdL_not.1, pdL_not.2⟩ ⟨jmL_95, ksL_not⟩ (cL_not_ l M (cK_not_ l htr M (P := R (h - 1)) v.1.1 v.1.2.1 v.1.2.2.2.2.2.1 (fun h1 => v.1.2.2.2.2.2.2.2.1 (h - 1) (by omega))) (fun e M9 z => by rcases z with z | z; exact Or.inl z.1; exact Or.inr z.1)) ⟨Nat.le_of_ble_eq_true rfl, Nat.le_of_ble_eq_true rfl⟩ rfl ⟨by have := hu.1; show u.1 + 2 ≤ _; omega, by have := hu.2; show u.2 + 12 ≤ _; omega⟩ dL_law_321 (fun x_321 M_321 h_321 => ?_)
  have vm := vm_not v h_321
  refine zx_istore hc dL_law_324 (by decide) ?_
  refine zx_aload_n hc dL_law_326 rfl ?_
  refine zx_cV0v hc gsL_97 zob_62 (cM_not_ l M_321 (P := R (h - 1)) vm.1 vm.2.1 vm.2.2.2.1 (fun h1 => ⟨vm.2.2.2.2.1 (h - 1) (by omega), (v.2.2.1.1 (h - 1) (by omega)).1⟩)) ⟨rfl, rfl⟩ ⟨Nat.le_of_ble_eq_true rfl, Nat.le_of_ble_eq_true rfl⟩ ⟨by have := hu.1; show u.1 + 2 ≤ _; omega, by have := hu.2; show u.2 + 12 ≤ _; omega⟩ dL_law_327 (fun M_327 h_327 => ?_)
  obtain ⟨hs1, hv⟩ := st_not v h_321 h_327
  refine zx_aload_n hc dL_law_330 rfl ?_
  refine zx_cV0i hc gsL_81 zob_62 (cM_thrown_ l M_327) ⟨rfl, rfl⟩ ⟨Nat.le_of_ble_eq_true rfl, Nat.le_of_ble_eq_true rfl⟩ ⟨by have := hu.1; show u.1 + 2 ≤ _; omega, by have := hu.2; show u.2 + 12 ≤ _; omega⟩ dL_law_331 (fun x_331 M_331 h_331 => ?_)
  obtain ⟨q_331, hm_331⟩ := h_331
  rw [hm_331, q_331]
  refine zx_iload hc dL_law_334 rfl ?_
  refine zx_icmp_eq 341 hc dL_law_336 rfl (fun h_336 => ?_) (fun h_336 => ?_)
  · skip
    refine zx_goto 939 hc dL_law_341 rfl ?_
    refine zx_take 5 ?_
    exact zx_widen (u' := (u.1 + 4, u.2 + 24)) (by show u.1 + 2 ≤ u.1 + 4; omega) (by show u.2 + 12 ≤ u.2 + 24; omega) (next _ hv)
  · skip
    exact absurd hs1 h_336
set_option maxRecDepth 100000 in
set_option maxHeartbeats 4000000 in
theorem lw_rows {X : zC} {l : Launch} {F : State → Prop} {u : Nat × Nat} {M : zM} {b L i : Nat} {xs : Nat → Int32} {h : Nat} {cs : List gC} {R : Nat → List (List gC)} (hc : zCy X l mL_law room_1) (hT : zThr (zA (zad X) (zs X).heap.size) (zs X)) (htr : l.stackTraces = false) (hx : zLX X b L xs) (hL : L ≤ 2560) (hi : 5 * i + 5 ≤ L) (hu : u.1 + 4 ≤ room_1.cells ∧ u.2 + 24 ≤ room_1.slots) (v : zV M h cs R) (next : ∀ (M' : zM), (∃ h' cs' R', zV M' h' cs' R') → zF X F (u.1 + 4, u.2 + 24) 939 [(0, .ref 82), (1, .ref 0), (2, .ref 62), (3, .ref 81), (4, .int (nI (5 * i)))] [] M') : zF X F u 498 [(0, .ref 82), (1, .ref 0), (2, .ref 62), (3, .ref 81), (4, .int (nI (5 * i)))] [] M := by
  refine zx_aload_n hc dL_law_498 rfl ?_
  refine zx_aload_n hc dL_law_499 rfl ?_
  refine zl_callL (md' := mL_rows) (hh := hL_rows) (As := [.ref 0, .ref 81]) hc hT ⟨kL_rows, kiL, pdL_rows.1, pdL_rows.2⟩ ⟨jmL_117, ksL_rows⟩ (cL_rows_ l M (cK_rows_ l htr M v.1.1 v.1.2.1) (fun e M9 z => z.1)) ⟨Nat.le_of_ble_eq_true rfl, Nat.le_of_ble_eq_true rfl⟩ rfl ⟨by have := hu.1; show u.1 + 1 ≤ _; omega, by have := hu.2; show u.2 + 6 ≤ _; omega⟩ dL_law_500 (fun x_500 M_500 h_500 => ?_)
  have vm := vm_rows v h_500
  refine zx_istore hc dL_law_503 (by decide) ?_
  refine zx_aload_n hc dL_law_505 rfl ?_
  refine zx_cV0i hc gsL_119 zob_62 (cM_rows_ l M_500 vm.1 vm.2.1) ⟨rfl, rfl⟩ ⟨Nat.le_of_ble_eq_true rfl, Nat.le_of_ble_eq_true rfl⟩ ⟨by have := hu.1; show u.1 + 1 ≤ _; omega, by have := hu.2; show u.2 + 6 ≤ _; omega⟩ dL_law_506 (fun x_506 M_506 h_506 => ?_)
  obtain ⟨hs1, hs2, hv⟩ := st_rows v h_500 h_506
  refine zx_istore hc dL_law_509 (by decide) ?_
  refine zx_aload_n hc dL_law_511 rfl ?_
  refine zx_cV0i hc gsL_81 zob_62 (cM_thrown_ l M_506) ⟨rfl, rfl⟩ ⟨Nat.le_of_ble_eq_true rfl, Nat.le_of_ble_eq_true rfl⟩ ⟨by have := hu.1; show u.1 + 1 ≤ _; omega, by have := hu.2; show u.2 + 6 ≤ _; omega⟩ dL_law_512 (fun x_512 M_512 h_512 => ?_)
  obtain ⟨q_512, hm_512⟩ := h_512
  rw [hm_512, q_512]
  refine zx_iload hc dL_law_515 rfl ?_
  refine zx_icmp_eq 522 hc dL_law_517 rfl (fun h_517 => ?_) (fun h_517 => ?_)
  · skip
    refine zx_iload hc dL_law_522 rfl ?_
    refine zx_if_ne 539 hc dL_law_524 rfl (fun h_524 => ?_) (fun h_524 => ?_)
    · skip
      refine zx_goto 939 hc dL_law_539 rfl ?_
      refine zx_take 5 ?_
      exact zx_widen (u' := (u.1 + 4, u.2 + 24)) (by show u.1 + 1 ≤ u.1 + 4; omega) (by show u.2 + 6 ≤ u.2 + 24; omega) (next _ hv)
    · skip
      refine zx_aload_n hc dL_law_527 rfl ?_
      refine zx_iconst hc (nI 0) dL_law_528 rfl ?_
      refine zl_in hc dL_law_529 ?_
      refine zx_iload hc dL_law_530 rfl ?_
      refine zx_i2l hc dL_law_532 ?_
      refine zx_lcmp_eq 539 hc dL_law_533 dL_law_534 rfl (fun h_533 => ?_) (fun h_533 => ?_)
      · skip
        refine zx_goto 939 hc dL_law_539 rfl ?_
        refine zx_take 5 ?_
        exact zx_widen (u' := (u.1 + 4, u.2 + 24)) (by show u.1 + 1 ≤ u.1 + 4; omega) (by show u.2 + 6 ≤ u.2 + 24; omega) (next _ hv)
      · skip
        exact absurd (hs2 h_524) h_533
  · skip
    exact absurd hs1 h_517
set_option maxRecDepth 100000 in
set_option maxHeartbeats 4000000 in
theorem lw_members {X : zC} {l : Launch} {F : State → Prop} {u : Nat × Nat} {M : zM} {b L i : Nat} {xs : Nat → Int32} {h : Nat} {cs : List gC} {R : Nat → List (List gC)} (hc : zCy X l mL_law room_1) (hT : zThr (zA (zad X) (zs X).heap.size) (zs X)) (htr : l.stackTraces = false) (hx : zLX X b L xs) (hL : L ≤ 2560) (hi : 5 * i + 5 ≤ L) (hu : u.1 + 4 ≤ room_1.cells ∧ u.2 + 24 ≤ room_1.slots) (v : zV M h cs R) (next : ∀ (M' : zM), (∃ h' cs' R', zV M' h' cs' R') → zF X F (u.1 + 4, u.2 + 24) 939 [(0, .ref 82), (1, .ref 0), (2, .ref 62), (3, .ref 81), (4, .int (nI (5 * i)))] [] M') : zF X F u 542 [(0, .ref 82), (1, .ref 0), (2, .ref 62), (3, .ref 81), (4, .int (nI (5 * i)))] [] M := by
  by_cases h1 : 1 ≤ h
  · skip
    refine zx_aload_n hc dL_law_542 rfl ?_
    refine zx_aload_n hc dL_law_543 rfl ?_
    refine zx_iload hc dL_law_544 rfl ?_
    refine zx_iconst hc (nI 1) dL_law_546 rfl ?_
    refine zx_iadd hc dL_law_547 ?_
    rw [nI_add]
    refine zl_sld hc hx dL_law_548 (by omega) hL ?_
    refine zx_aload_n hc dL_law_549 rfl ?_
    refine zl_callL (md' := mL_members) (hh := hL_members) (As := [.ref 0, .int (xs (5 * i + 1)), .ref 81]) hc hT ⟨kL_members, kiL, pdL_members.1, pdL_members.2⟩ ⟨jmL_120, ksL_members⟩ (cL_members_ l M (xs (5 * i + 1)) (cK_members_ l htr M (P := R (h - 1)) v.1.1 v.1.2.1 (xs (5 * i + 1)) (fun h1 => v.1.2.2.2.2.2.2.2.1 (h - 1) (by omega))) (fun e M9 z => by rcases z with z | z; exact Or.inl z.1; exact Or.inr z.1)) ⟨Nat.le_of_ble_eq_true rfl, Nat.le_of_ble_eq_true rfl⟩ rfl ⟨by have := hu.1; show u.1 + 2 ≤ _; omega, by have := hu.2; show u.2 + 12 ≤ _; omega⟩ dL_law_550 (fun x_550 M_550 h_550 => ?_)
    have vm := vm_members (P := R (h - 1)) v h_550
    have hr := vm.2.2.2.2.1 (h - 1) (by omega)
    refine zx_istore hc dL_law_553 (by decide) ?_
    refine zx_aload_n hc dL_law_555 rfl ?_
    refine zx_aload_n hc dL_law_556 rfl ?_
    refine zx_iload hc dL_law_557 rfl ?_
    refine zx_iconst hc (nI 1) dL_law_559 rfl ?_
    refine zx_iadd hc dL_law_560 ?_
    rw [nI_add]
    refine zl_sld hc hx dL_law_561 (by omega) hL ?_
    refine zx_cV1i hc gsL_122 zob_62 (cM_members_ l M_550 (n := (R (h - 1)).length) vm.1 vm.2.1 (xs (5 * i + 1)) (fun _ => hr.1) hr.2.1) ⟨rfl, rfl⟩ ⟨Nat.le_of_ble_eq_true rfl, Nat.le_of_ble_eq_true rfl⟩ ⟨by have := hu.1; show u.1 + 2 ≤ _; omega, by have := hu.2; show u.2 + 12 ≤ _; omega⟩ dL_law_562 (fun x_562 M_562 h_562 => ?_)
    obtain ⟨hs1, hs2, hv⟩ := st_members v h_550 h_562
    refine zx_istore hc dL_law_565 (by decide) ?_
    refine zx_aload_n hc dL_law_567 rfl ?_
    refine zx_cV0i hc gsL_81 zob_62 (cM_thrown_ l M_562) ⟨rfl, rfl⟩ ⟨Nat.le_of_ble_eq_true rfl, Nat.le_of_ble_eq_true rfl⟩ ⟨by have := hu.1; show u.1 + 2 ≤ _; omega, by have := hu.2; show u.2 + 12 ≤ _; omega⟩ dL_law_568 (fun x_568 M_568 h_568 => ?_)
    obtain ⟨q_568, hm_568⟩ := h_568
    rw [hm_568, q_568]
    refine zx_iload hc dL_law_571 rfl ?_
    refine zx_icmp_eq 578 hc dL_law_573 rfl (fun h_573 => ?_) (fun h_573 => ?_)
    · skip
      refine zx_iload hc dL_law_578 rfl ?_
      refine zx_if_ne 595 hc dL_law_580 rfl (fun h_580 => ?_) (fun h_580 => ?_)
      · skip
        refine zx_goto 939 hc dL_law_595 rfl ?_
        refine zx_take 5 ?_
        exact zx_widen (u' := (u.1 + 4, u.2 + 24)) (by show u.1 + 2 ≤ u.1 + 4; omega) (by show u.2 + 12 ≤ u.2 + 24; omega) (next _ hv)
      · skip
        refine zx_aload_n hc dL_law_583 rfl ?_
        refine zx_iconst hc (nI 0) dL_law_584 rfl ?_
        refine zl_in hc dL_law_585 ?_
        refine zx_iload hc dL_law_586 rfl ?_
        refine zx_i2l hc dL_law_588 ?_
        refine zx_lcmp_eq 595 hc dL_law_589 dL_law_590 rfl (fun h_589 => ?_) (fun h_589 => ?_)
        · skip
          refine zx_goto 939 hc dL_law_595 rfl ?_
          refine zx_take 5 ?_
          exact zx_widen (u' := (u.1 + 4, u.2 + 24)) (by show u.1 + 2 ≤ u.1 + 4; omega) (by show u.2 + 12 ≤ u.2 + 24; omega) (next _ hv)
        · skip
          exact absurd (hs2 h_580) h_589
    · skip
      exact absurd hs1 h_573
  · skip
    refine zx_aload_n hc dL_law_542 rfl ?_
    refine zx_aload_n hc dL_law_543 rfl ?_
    refine zx_iload hc dL_law_544 rfl ?_
    refine zx_iconst hc (nI 1) dL_law_546 rfl ?_
    refine zx_iadd hc dL_law_547 ?_
    rw [nI_add]
    refine zl_sld hc hx dL_law_548 (by omega) hL ?_
    refine zx_aload_n hc dL_law_549 rfl ?_
    refine zl_callL (md' := mL_members) (hh := hL_members) (As := [.ref 0, .int (xs (5 * i + 1)), .ref 81]) hc hT ⟨kL_members, kiL, pdL_members.1, pdL_members.2⟩ ⟨jmL_120, ksL_members⟩ (cL_members_ l M (xs (5 * i + 1)) (cK_members_ l htr M (P := R (h - 1)) v.1.1 v.1.2.1 (xs (5 * i + 1)) (fun h1 => v.1.2.2.2.2.2.2.2.1 (h - 1) (by omega))) (fun e M9 z => by rcases z with z | z; exact Or.inl z.1; exact Or.inr z.1)) ⟨Nat.le_of_ble_eq_true rfl, Nat.le_of_ble_eq_true rfl⟩ rfl ⟨by have := hu.1; show u.1 + 2 ≤ _; omega, by have := hu.2; show u.2 + 12 ≤ _; omega⟩ dL_law_550 (fun x_550 M_550 h_550 => ?_)
    have vm := vm_members (P := R (h - 1)) v h_550
    refine zx_istore hc dL_law_553 (by decide) ?_
    refine zx_aload_n hc dL_law_555 rfl ?_
    refine zx_aload_n hc dL_law_556 rfl ?_
    refine zx_iload hc dL_law_557 rfl ?_
    refine zx_iconst hc (nI 1) dL_law_559 rfl ?_
    refine zx_iadd hc dL_law_560 ?_
    rw [nI_add]
    refine zl_sld hc hx dL_law_561 (by omega) hL ?_
    refine zx_cV1i hc gsL_122 zob_62 (cM_members_ l M_550 (n := 0) vm.1 vm.2.1 (xs (5 * i + 1)) (fun z => absurd z h1) (by decide)) ⟨rfl, rfl⟩ ⟨Nat.le_of_ble_eq_true rfl, Nat.le_of_ble_eq_true rfl⟩ ⟨by have := hu.1; show u.1 + 2 ≤ _; omega, by have := hu.2; show u.2 + 12 ≤ _; omega⟩ dL_law_562 (fun x_562 M_562 h_562 => ?_)
    obtain ⟨hs1, hs2, hv⟩ := st_members v h_550 ⟨h_562.1, fun z => absurd z h1⟩
    refine zx_istore hc dL_law_565 (by decide) ?_
    refine zx_aload_n hc dL_law_567 rfl ?_
    refine zx_cV0i hc gsL_81 zob_62 (cM_thrown_ l M_562) ⟨rfl, rfl⟩ ⟨Nat.le_of_ble_eq_true rfl, Nat.le_of_ble_eq_true rfl⟩ ⟨by have := hu.1; show u.1 + 2 ≤ _; omega, by have := hu.2; show u.2 + 12 ≤ _; omega⟩ dL_law_568 (fun x_568 M_568 h_568 => ?_)
    obtain ⟨q_568, hm_568⟩ := h_568
    rw [hm_568, q_568]
    refine zx_iload hc dL_law_571 rfl ?_
    refine zx_icmp_eq 578 hc dL_law_573 rfl (fun h_573 => ?_) (fun h_573 => ?_)
    · skip
      refine zx_iload hc dL_law_578 rfl ?_
      refine zx_if_ne 595 hc dL_law_580 rfl (fun h_580 => ?_) (fun h_580 => ?_)
      · skip
        refine zx_goto 939 hc dL_law_595 rfl ?_
        refine zx_take 5 ?_
        exact zx_widen (u' := (u.1 + 4, u.2 + 24)) (by show u.1 + 2 ≤ u.1 + 4; omega) (by show u.2 + 12 ≤ u.2 + 24; omega) (next _ hv)
      · skip
        refine zx_aload_n hc dL_law_583 rfl ?_
        refine zx_iconst hc (nI 0) dL_law_584 rfl ?_
        refine zl_in hc dL_law_585 ?_
        refine zx_iload hc dL_law_586 rfl ?_
        refine zx_i2l hc dL_law_588 ?_
        refine zx_lcmp_eq 595 hc dL_law_589 dL_law_590 rfl (fun h_589 => ?_) (fun h_589 => ?_)
        · skip
          refine zx_goto 939 hc dL_law_595 rfl ?_
          refine zx_take 5 ?_
          exact zx_widen (u' := (u.1 + 4, u.2 + 24)) (by show u.1 + 2 ≤ u.1 + 4; omega) (by show u.2 + 12 ≤ u.2 + 24; omega) (next _ hv)
        · skip
          exact absurd (hs2 h_580) h_589
    · skip
      exact absurd hs1 h_573
set_option maxRecDepth 100000 in
set_option maxHeartbeats 4000000 in
theorem lw_part {X : zC} {l : Launch} {F : State → Prop} {u : Nat × Nat} {M : zM} {b L i : Nat} {xs : Nat → Int32} {h : Nat} {cs : List gC} {R : Nat → List (List gC)} (hc : zCy X l mL_law room_1) (hT : zThr (zA (zad X) (zs X).heap.size) (zs X)) (htr : l.stackTraces = false) (hx : zLX X b L xs) (hL : L ≤ 2560) (hi : 5 * i + 5 ≤ L) (hu : u.1 + 4 ≤ room_1.cells ∧ u.2 + 24 ≤ room_1.slots) (v : zV M h cs R) (next : ∀ (M' : zM), (∃ h' cs' R', zV M' h' cs' R') → zF X F (u.1 + 4, u.2 + 24) 939 [(0, .ref 82), (1, .ref 0), (2, .ref 62), (3, .ref 81), (4, .int (nI (5 * i)))] [] M') : zF X F u 598 [(0, .ref 82), (1, .ref 0), (2, .ref 62), (3, .ref 81), (4, .int (nI (5 * i)))] [] M := by
  refine zx_aload_n hc dL_law_598 rfl ?_
  refine zx_aload_n hc dL_law_599 rfl ?_
  refine zx_iload hc dL_law_600 rfl ?_
  refine zx_iconst hc (nI 1) dL_law_602 rfl ?_
  refine zx_iadd hc dL_law_603 ?_
  rw [nI_add]
  refine zl_sld hc hx dL_law_604 (by omega) hL ?_
  refine zx_aload_n hc dL_law_605 rfl ?_
  refine zx_iload hc dL_law_606 rfl ?_
  refine zx_iconst hc (nI 2) dL_law_608 rfl ?_
  refine zx_iadd hc dL_law_609 ?_
  rw [nI_add]
  refine zl_sld hc hx dL_law_610 (by omega) hL ?_
  refine zx_aload_n hc dL_law_611 rfl ?_
  refine zx_iload hc dL_law_612 rfl ?_
  refine zx_iconst hc (nI 3) dL_law_614 rfl ?_
  refine zx_iadd hc dL_law_615 ?_
  rw [nI_add]
  refine zl_sld hc hx dL_law_616 (by omega) hL ?_
  refine zx_aload_n hc dL_law_617 rfl ?_
  refine zl_callL (md' := mL_part) (hh := hL_part) (As := [.ref 0, .int (xs (5 * i + 1)), .int (xs (5 * i + 2)), .int (xs (5 * i + 3)), .ref 81]) hc hT ⟨kL_part, kiL, pdL_part.1, pdL_part.2⟩ ⟨jmL_123, ksL_part⟩ (cL_part_ l M (xs (5 * i + 1)) (xs (5 * i + 2)) (xs (5 * i + 3)) (cK_part_ l htr M (P := R (h - 1)) v.1.1 v.1.2.1 (xs (5 * i + 1)) (xs (5 * i + 2)) (xs (5 * i + 3)) (fun h1 => v.1.2.2.2.2.2.2.2.1 (h - 1) (by omega))) (fun e M9 z => by rcases z with z | ⟨-, -, z | z⟩; exact Or.inl z.1; exact Or.inr (Or.inl z.1); exact Or.inr (Or.inr z.1))) ⟨Nat.le_of_ble_eq_true rfl, Nat.le_of_ble_eq_true rfl⟩ rfl ⟨by have := hu.1; show u.1 + 4 ≤ _; omega, by have := hu.2; show u.2 + 24 ≤ _; omega⟩ dL_law_618 (fun x_618 M_618 h_618 => ?_)
  have vm := vm_part v h_618
  refine zx_istore hc dL_law_621 (by decide) ?_
  refine zx_aload_n hc dL_law_623 rfl ?_
  refine zx_aload_n hc dL_law_624 rfl ?_
  refine zx_iload hc dL_law_625 rfl ?_
  refine zx_iconst hc (nI 1) dL_law_627 rfl ?_
  refine zx_iadd hc dL_law_628 ?_
  rw [nI_add]
  refine zl_sld hc hx dL_law_629 (by omega) hL ?_
  refine zx_aload_n hc dL_law_630 rfl ?_
  refine zx_iload hc dL_law_631 rfl ?_
  refine zx_iconst hc (nI 2) dL_law_633 rfl ?_
  refine zx_iadd hc dL_law_634 ?_
  rw [nI_add]
  refine zl_sld hc hx dL_law_635 (by omega) hL ?_
  refine zx_aload_n hc dL_law_636 rfl ?_
  refine zx_iload hc dL_law_637 rfl ?_
  refine zx_iconst hc (nI 3) dL_law_639 rfl ?_
  refine zx_iadd hc dL_law_640 ?_
  rw [nI_add]
  refine zl_sld hc hx dL_law_641 (by omega) hL ?_
  refine zx_cV3i hc gsL_126 zob_62 (cM_part_ l M_618 (P := R (h - 1)) vm.1 vm.2.1 (xs (5 * i + 1)) (xs (5 * i + 2)) (xs (5 * i + 3)) (fun h1 => vm.2.2.2.2.1 (h - 1) (by omega)) vm.2.2.2.1.2.2.1) ⟨rfl, rfl⟩ ⟨Nat.le_of_ble_eq_true rfl, Nat.le_of_ble_eq_true rfl⟩ ⟨by have := hu.1; show u.1 + 4 ≤ _; omega, by have := hu.2; show u.2 + 24 ≤ _; omega⟩ dL_law_642 (fun x_642 M_642 h_642 => ?_)
  obtain ⟨hs1, hs2, hv⟩ := st_part v h_618 h_642
  refine zx_istore hc dL_law_645 (by decide) ?_
  refine zx_aload_n hc dL_law_647 rfl ?_
  refine zx_cV0i hc gsL_81 zob_62 (cM_thrown_ l M_642) ⟨rfl, rfl⟩ ⟨Nat.le_of_ble_eq_true rfl, Nat.le_of_ble_eq_true rfl⟩ ⟨by have := hu.1; show u.1 + 4 ≤ _; omega, by have := hu.2; show u.2 + 24 ≤ _; omega⟩ dL_law_648 (fun x_648 M_648 h_648 => ?_)
  obtain ⟨q_648, hm_648⟩ := h_648
  rw [hm_648, q_648]
  refine zx_iload hc dL_law_651 rfl ?_
  refine zx_icmp_eq 658 hc dL_law_653 rfl (fun h_653 => ?_) (fun h_653 => ?_)
  · skip
    refine zx_iload hc dL_law_658 rfl ?_
    refine zx_if_ne 675 hc dL_law_660 rfl (fun h_660 => ?_) (fun h_660 => ?_)
    · skip
      refine zx_goto 939 hc dL_law_675 rfl ?_
      refine zx_take 5 ?_
      exact zx_widen (u' := (u.1 + 4, u.2 + 24)) (by show u.1 + 4 ≤ u.1 + 4; omega) (by show u.2 + 24 ≤ u.2 + 24; omega) (next _ hv)
    · skip
      refine zx_aload_n hc dL_law_663 rfl ?_
      refine zx_iconst hc (nI 0) dL_law_664 rfl ?_
      refine zl_in hc dL_law_665 ?_
      refine zx_iload hc dL_law_666 rfl ?_
      refine zx_i2l hc dL_law_668 ?_
      refine zx_lcmp_eq 675 hc dL_law_669 dL_law_670 rfl (fun h_669 => ?_) (fun h_669 => ?_)
      · skip
        refine zx_goto 939 hc dL_law_675 rfl ?_
        refine zx_take 5 ?_
        exact zx_widen (u' := (u.1 + 4, u.2 + 24)) (by show u.1 + 4 ≤ u.1 + 4; omega) (by show u.2 + 24 ≤ u.2 + 24; omega) (next _ hv)
      · skip
        exact absurd (hs2 h_660) h_669
  · skip
    exact absurd hs1 h_653
set_option maxRecDepth 100000 in
set_option maxHeartbeats 4000000 in
theorem lw_least {X : zC} {l : Launch} {F : State → Prop} {u : Nat × Nat} {M : zM} {b L i : Nat} {xs : Nat → Int32} {h : Nat} {cs : List gC} {R : Nat → List (List gC)} (hc : zCy X l mL_law room_1) (hT : zThr (zA (zad X) (zs X).heap.size) (zs X)) (htr : l.stackTraces = false) (hx : zLX X b L xs) (hL : L ≤ 2560) (hi : 5 * i + 5 ≤ L) (hu : u.1 + 4 ≤ room_1.cells ∧ u.2 + 24 ≤ room_1.slots) (v : zV M h cs R) (next : ∀ (M' : zM), (∃ h' cs' R', zV M' h' cs' R') → zF X F (u.1 + 4, u.2 + 24) 939 [(0, .ref 82), (1, .ref 0), (2, .ref 62), (3, .ref 81), (4, .int (nI (5 * i)))] [] M') : zF X F u 816 [(0, .ref 82), (1, .ref 0), (2, .ref 62), (3, .ref 81), (4, .int (nI (5 * i)))] [] M := by
  refine zx_aload_n hc dL_law_816 rfl ?_
  refine zx_aload_n hc dL_law_817 rfl ?_
  refine zx_iload hc dL_law_818 rfl ?_
  refine zx_iconst hc (nI 1) dL_law_820 rfl ?_
  refine zx_iadd hc dL_law_821 ?_
  rw [nI_add]
  refine zl_sld hc hx dL_law_822 (by omega) hL ?_
  refine zx_aload_n hc dL_law_823 rfl ?_
  refine zx_iload hc dL_law_824 rfl ?_
  refine zx_iconst hc (nI 2) dL_law_826 rfl ?_
  refine zx_iadd hc dL_law_827 ?_
  rw [nI_add]
  refine zl_sld hc hx dL_law_828 (by omega) hL ?_
  refine zx_aload_n hc dL_law_829 rfl ?_
  refine zl_callL (md' := mL_least) (hh := hL_least) (As := [.ref 0, .int (xs (5 * i + 1)), .int (xs (5 * i + 2)), .ref 81]) hc hT ⟨kL_least, kiL, pdL_least.1, pdL_least.2⟩ ⟨jmL_133, ksL_least⟩ (cL_least_ l M (xs (5 * i + 1)) (xs (5 * i + 2)) (cK_least_ l htr M (P := R (h - 1)) v.1.1 v.1.2.1 (xs (5 * i + 1)) (xs (5 * i + 2)) v.1.2.2.2.2.2.2.1 (fun h1 => ⟨v.1.2.2.2.2.2.2.2.1 (h - 1) (by omega), (v.2.2.1.1 (h - 1) (by omega)).2⟩)) (fun e M9 z => by rcases z with z | z; exact Or.inl z.1; exact Or.inr z.1)) ⟨Nat.le_of_ble_eq_true rfl, Nat.le_of_ble_eq_true rfl⟩ rfl ⟨by have := hu.1; show u.1 + 2 ≤ _; omega, by have := hu.2; show u.2 + 12 ≤ _; omega⟩ dL_law_830 (fun x_830 M_830 h_830 => ?_)
  have vm := vm_least v h_830
  refine zx_istore hc dL_law_833 (by decide) ?_
  refine zx_aload_n hc dL_law_835 rfl ?_
  refine zx_aload_n hc dL_law_836 rfl ?_
  refine zx_iload hc dL_law_837 rfl ?_
  refine zx_iconst hc (nI 1) dL_law_839 rfl ?_
  refine zx_iadd hc dL_law_840 ?_
  rw [nI_add]
  refine zl_sld hc hx dL_law_841 (by omega) hL ?_
  refine zx_aload_n hc dL_law_842 rfl ?_
  refine zx_iload hc dL_law_843 rfl ?_
  refine zx_iconst hc (nI 2) dL_law_845 rfl ?_
  refine zx_iadd hc dL_law_846 ?_
  rw [nI_add]
  refine zl_sld hc hx dL_law_847 (by omega) hL ?_
  refine zx_cV2i hc gsL_136 zob_62 (cM_least_ l M_830 (P := R (h - 1)) vm.1 vm.2.1 (xs (5 * i + 1)) (xs (5 * i + 2)) (fun h1 => ⟨vm.2.2.2.2.1 (h - 1) (by omega), v.2.2.1.1 (h - 1) (by omega)⟩) vm.2.2.2.1) ⟨rfl, rfl⟩ ⟨Nat.le_of_ble_eq_true rfl, Nat.le_of_ble_eq_true rfl⟩ ⟨by have := hu.1; show u.1 + 2 ≤ _; omega, by have := hu.2; show u.2 + 12 ≤ _; omega⟩ dL_law_848 (fun x_848 M_848 h_848 => ?_)
  obtain ⟨hs1, hs2, hv⟩ := st_least v h_830 h_848
  refine zx_istore hc dL_law_851 (by decide) ?_
  refine zx_aload_n hc dL_law_853 rfl ?_
  refine zx_cV0i hc gsL_81 zob_62 (cM_thrown_ l M_848) ⟨rfl, rfl⟩ ⟨Nat.le_of_ble_eq_true rfl, Nat.le_of_ble_eq_true rfl⟩ ⟨by have := hu.1; show u.1 + 2 ≤ _; omega, by have := hu.2; show u.2 + 12 ≤ _; omega⟩ dL_law_854 (fun x_854 M_854 h_854 => ?_)
  obtain ⟨q_854, hm_854⟩ := h_854
  rw [hm_854, q_854]
  refine zx_iload hc dL_law_857 rfl ?_
  refine zx_icmp_eq 864 hc dL_law_859 rfl (fun h_859 => ?_) (fun h_859 => ?_)
  · skip
    refine zx_iload hc dL_law_864 rfl ?_
    refine zx_if_ne 881 hc dL_law_866 rfl (fun h_866 => ?_) (fun h_866 => ?_)
    · skip
      refine zx_goto 939 hc dL_law_881 rfl ?_
      refine zx_take 5 ?_
      exact zx_widen (u' := (u.1 + 4, u.2 + 24)) (by show u.1 + 2 ≤ u.1 + 4; omega) (by show u.2 + 12 ≤ u.2 + 24; omega) (next _ hv)
    · skip
      refine zx_aload_n hc dL_law_869 rfl ?_
      refine zx_iconst hc (nI 0) dL_law_870 rfl ?_
      refine zl_in hc dL_law_871 ?_
      refine zx_iload hc dL_law_872 rfl ?_
      refine zx_i2l hc dL_law_874 ?_
      refine zx_lcmp_eq 881 hc dL_law_875 dL_law_876 rfl (fun h_875 => ?_) (fun h_875 => ?_)
      · skip
        refine zx_goto 939 hc dL_law_881 rfl ?_
        refine zx_take 5 ?_
        exact zx_widen (u' := (u.1 + 4, u.2 + 24)) (by show u.1 + 2 ≤ u.1 + 4; omega) (by show u.2 + 12 ≤ u.2 + 24; omega) (next _ hv)
      · skip
        exact absurd (hs2 h_866) h_875
  · skip
    exact absurd hs1 h_859
set_option maxRecDepth 100000 in
set_option maxHeartbeats 4000000 in
theorem lw_row {X : zC} {l : Launch} {F : State → Prop} {u : Nat × Nat} {M : zM} {b L i : Nat} {xs : Nat → Int32} {h : Nat} {cs : List gC} {R : Nat → List (List gC)} (hc : zCy X l mL_law room_1) (hT : zThr (zA (zad X) (zs X).heap.size) (zs X)) (htr : l.stackTraces = false) (hx : zLX X b L xs) (hL : L ≤ 2560) (hi : 5 * i + 5 ≤ L) (hu : u.1 + 4 ≤ room_1.cells ∧ u.2 + 24 ≤ room_1.slots) (v : zV M h cs R) (next : ∀ (M' : zM), (∃ h' cs' R', zV M' h' cs' R') → zF X F (u.1 + 4, u.2 + 24) 939 [(0, .ref 82), (1, .ref 0), (2, .ref 62), (3, .ref 81), (4, .int (nI (5 * i)))] [] M') : zF X F u 228 [(0, .ref 82), (1, .ref 0), (2, .ref 62), (3, .ref 81), (4, .int (nI (5 * i)))] [] M := by
  refine zx_aload_n hc dL_law_228 rfl ?_
  refine zx_aload_n hc dL_law_229 rfl ?_
  refine zl_callL (md' := mL_row) (hh := hL_row) (As := [.ref 0, .ref 81]) hc hT ⟨kL_row, kiL, pdL_row.1, pdL_row.2⟩ ⟨jmL_84, ksL_row⟩ (cL_row_ l M (cK_row_ l htr M v.1.1 v.1.2.1 v.1.2.2.2.1 v.1.2.2.2.2.1 (gok_row (fun q hq => (v.2.1.2.2.1.2.2.2.1 q hq).1)) (gadd_some (by decide) (by have := gputs_len0 cs; have := v.2.1.2.2.1.2.1; omega) (gputs_lim (fun q hq => by cases hq) (fun q hq => (v.2.1.2.2.1.2.2.2.1 q hq).1)))) (fun e M9 z => z.1)) ⟨Nat.le_of_ble_eq_true rfl, Nat.le_of_ble_eq_true rfl⟩ rfl ⟨by have := hu.1; show u.1 + 1 ≤ _; omega, by have := hu.2; show u.2 + 6 ≤ _; omega⟩ dL_law_230 (fun x_230 M_230 h_230 => ?_)
  have vm := vm_row v h_230
  refine zx_istore hc dL_law_233 (by decide) ?_
  refine zx_aload_n hc dL_law_235 rfl ?_
  refine zx_cV0i hc gsL_87 zob_62 (cM_row_ l M_230 vm.1 vm.2.1 vm.2.2.2.1 vm.2.2.1) ⟨rfl, rfl⟩ ⟨Nat.le_of_ble_eq_true rfl, Nat.le_of_ble_eq_true rfl⟩ ⟨by have := hu.1; show u.1 + 1 ≤ _; omega, by have := hu.2; show u.2 + 6 ≤ _; omega⟩ dL_law_236 (fun x_236 M_236 h_236 => ?_)
  obtain ⟨hs1, hs2, hv⟩ := st_row v h_230 h_236
  refine zx_istore hc dL_law_239 (by decide) ?_
  refine zx_aload_n hc dL_law_241 rfl ?_
  refine zx_cV0i hc gsL_81 zob_62 (cM_thrown_ l M_236) ⟨rfl, rfl⟩ ⟨Nat.le_of_ble_eq_true rfl, Nat.le_of_ble_eq_true rfl⟩ ⟨by have := hu.1; show u.1 + 1 ≤ _; omega, by have := hu.2; show u.2 + 6 ≤ _; omega⟩ dL_law_242 (fun x_242 M_242 h_242 => ?_)
  obtain ⟨q_242, hm_242⟩ := h_242
  rw [hm_242, q_242]
  refine zx_iload hc dL_law_245 rfl ?_
  refine zx_icmp_eq 252 hc dL_law_247 rfl (fun h_247 => ?_) (fun h_247 => ?_)
  · skip
    refine zx_iload hc dL_law_252 rfl ?_
    refine zx_if_ne 269 hc dL_law_254 rfl (fun h_254 => ?_) (fun h_254 => ?_)
    · skip
      refine zx_goto 939 hc dL_law_269 rfl ?_
      refine zx_take 5 ?_
      exact zx_widen (u' := (u.1 + 4, u.2 + 24)) (by show u.1 + 1 ≤ u.1 + 4; omega) (by show u.2 + 6 ≤ u.2 + 24; omega) (next _ hv)
    · skip
      refine zx_aload_n hc dL_law_257 rfl ?_
      refine zx_iconst hc (nI 0) dL_law_258 rfl ?_
      refine zl_in hc dL_law_259 ?_
      refine zx_iload hc dL_law_260 rfl ?_
      refine zx_i2l hc dL_law_262 ?_
      refine zx_lcmp_eq 269 hc dL_law_263 dL_law_264 rfl (fun h_263 => ?_) (fun h_263 => ?_)
      · skip
        refine zx_goto 939 hc dL_law_269 rfl ?_
        refine zx_take 5 ?_
        exact zx_widen (u' := (u.1 + 4, u.2 + 24)) (by show u.1 + 1 ≤ u.1 + 4; omega) (by show u.2 + 6 ≤ u.2 + 24; omega) (next _ hv)
      · skip
        exact absurd (hs2 h_254) h_263
  · skip
    exact absurd hs1 h_247
set_option maxRecDepth 100000 in
set_option maxHeartbeats 4000000 in
theorem lw_free {X : zC} {l : Launch} {F : State → Prop} {u : Nat × Nat} {M : zM} {b L i : Nat} {xs : Nat → Int32} {h : Nat} {cs : List gC} {R : Nat → List (List gC)} (hc : zCy X l mL_law room_1) (hT : zThr (zA (zad X) (zs X).heap.size) (zs X)) (htr : l.stackTraces = false) (hx : zLX X b L xs) (hL : L ≤ 2560) (hi : 5 * i + 5 ≤ L) (hu : u.1 + 4 ≤ room_1.cells ∧ u.2 + 24 ≤ room_1.slots) (v : zV M h cs R) (next : ∀ (M' : zM), (∃ h' cs' R', zV M' h' cs' R') → zF X F (u.1 + 4, u.2 + 24) 939 [(0, .ref 82), (1, .ref 0), (2, .ref 62), (3, .ref 81), (4, .int (nI (5 * i)))] [] M') : zF X F u 344 [(0, .ref 82), (1, .ref 0), (2, .ref 62), (3, .ref 81), (4, .int (nI (5 * i)))] [] M := by
  by_cases hb : (xs (5 * i + 1)) < 0 ∨ 2 ≤ (xs (5 * i + 1))
  · skip
    refine zx_aload_n hc dL_law_344 rfl ?_
    refine zx_aload_n hc dL_law_345 rfl ?_
    refine zx_iload hc dL_law_346 rfl ?_
    refine zx_iconst hc (nI 1) dL_law_348 rfl ?_
    refine zx_iadd hc dL_law_349 ?_
    rw [nI_add]
    refine zl_sld hc hx dL_law_350 (by omega) hL ?_
    refine zl_callL (md' := mL_free) (hh := hL_free) (As := [.ref 0, .int (xs (5 * i + 1))]) hc hT ⟨kL_free, kiL, pdL_free.1, pdL_free.2⟩ ⟨jmL_98, ksL_free⟩ (cL_free_ l M (xs (5 * i + 1)) (cK_free_ l htr M (P := R (h - 1)) v.1.1 v.1.2.1 (xs (5 * i + 1)) v.1.2.2.2.2.2.1 (fun h1 => v.1.2.2.2.2.2.2.2.1 (h - 1) (by omega))) (fun e M9 z => by rcases z with z | z | z; exact Or.inl z.1; exact Or.inr (Or.inl z.1); exact Or.inr (Or.inr z.1))) ⟨Nat.le_of_ble_eq_true rfl, Nat.le_of_ble_eq_true rfl⟩ rfl ⟨by have := hu.1; show u.1 + 3 ≤ _; omega, by have := hu.2; show u.2 + 18 ≤ _; omega⟩ dL_law_351 (fun x_351 M_351 h_351 => ?_)
    have vm := vm_free (P := R (h - 1)) v h_351
    refine zx_istore hc dL_law_354 (by decide) ?_
    refine zx_aload_n hc dL_law_356 rfl ?_
    refine zx_aload_n hc dL_law_357 rfl ?_
    refine zx_iload hc dL_law_358 rfl ?_
    refine zx_iconst hc (nI 1) dL_law_360 rfl ?_
    refine zx_iadd hc dL_law_361 ?_
    rw [nI_add]
    refine zl_sld hc hx dL_law_362 (by omega) hL ?_
    refine zx_cV1v hc gsL_101 zob_62 (cM_freeB_ l M_351 (xs (5 * i + 1)) (hb.elim Or.inl (fun z => Or.inr ((i32_le (a := 1) (b := 2) rfl).mp z)))) ⟨rfl, rfl⟩ ⟨Nat.le_of_ble_eq_true rfl, Nat.le_of_ble_eq_true rfl⟩ ⟨by have := hu.1; show u.1 + 3 ≤ _; omega, by have := hu.2; show u.2 + 18 ≤ _; omega⟩ dL_law_363 (fun M_363 h_363 => ?_)
    obtain ⟨hs1, hv⟩ := st_freeB (P := R (h - 1)) v hb h_351 h_363
    refine zx_aload_n hc dL_law_366 rfl ?_
    refine zx_cV0i hc gsL_81 zob_62 (cM_thrown_ l M_363) ⟨rfl, rfl⟩ ⟨Nat.le_of_ble_eq_true rfl, Nat.le_of_ble_eq_true rfl⟩ ⟨by have := hu.1; show u.1 + 3 ≤ _; omega, by have := hu.2; show u.2 + 18 ≤ _; omega⟩ dL_law_367 (fun x_367 M_367 h_367 => ?_)
    obtain ⟨q_367, hm_367⟩ := h_367
    rw [hm_367, q_367]
    refine zx_iload hc dL_law_370 rfl ?_
    refine zx_icmp_eq 377 hc dL_law_372 rfl (fun h_372 => ?_) (fun h_372 => ?_)
    · skip
      refine zx_goto 939 hc dL_law_377 rfl ?_
      refine zx_take 5 ?_
      exact zx_widen (u' := (u.1 + 4, u.2 + 24)) (by show u.1 + 3 ≤ u.1 + 4; omega) (by show u.2 + 18 ≤ u.2 + 24; omega) (next _ hv)
    · skip
      exact absurd hs1 h_372
  · skip
    obtain ⟨c, hc2, hce⟩ : ∃ k, k < 2 ∧ (xs (5 * i + 1)) = nI k := (ix_or (xs (5 * i + 1)) 2 (by decide)).resolve_right hb
    refine zx_aload_n hc dL_law_344 rfl ?_
    refine zx_aload_n hc dL_law_345 rfl ?_
    refine zx_iload hc dL_law_346 rfl ?_
    refine zx_iconst hc (nI 1) dL_law_348 rfl ?_
    refine zx_iadd hc dL_law_349 ?_
    rw [nI_add]
    refine zl_sld hc hx dL_law_350 (by omega) hL ?_
    refine zl_callL (md' := mL_free) (hh := hL_free) (As := [.ref 0, .int (xs (5 * i + 1))]) hc hT ⟨kL_free, kiL, pdL_free.1, pdL_free.2⟩ ⟨jmL_98, ksL_free⟩ (cL_free_ l M (xs (5 * i + 1)) (cK_free_ l htr M (P := R (h - 1)) v.1.1 v.1.2.1 (xs (5 * i + 1)) v.1.2.2.2.2.2.1 (fun h1 => v.1.2.2.2.2.2.2.2.1 (h - 1) (by omega))) (fun e M9 z => by rcases z with z | z | z; exact Or.inl z.1; exact Or.inr (Or.inl z.1); exact Or.inr (Or.inr z.1))) ⟨Nat.le_of_ble_eq_true rfl, Nat.le_of_ble_eq_true rfl⟩ rfl ⟨by have := hu.1; show u.1 + 3 ≤ _; omega, by have := hu.2; show u.2 + 18 ≤ _; omega⟩ dL_law_351 (fun x_351 M_351 h_351 => ?_)
    have vm := vm_free (P := R (h - 1)) v h_351
    refine zx_istore hc dL_law_354 (by decide) ?_
    refine zx_aload_n hc dL_law_356 rfl ?_
    refine zx_aload_n hc dL_law_357 rfl ?_
    refine zx_iload hc dL_law_358 rfl ?_
    refine zx_iconst hc (nI 1) dL_law_360 rfl ?_
    refine zx_iadd hc dL_law_361 ?_
    rw [nI_add]
    refine zl_sld hc hx dL_law_362 (by omega) hL ?_
    rw [hce]
    refine zx_cV1v hc gsL_101 zob_62 (cM_free_ l M_351 (c := c) (P := R (h - 1)) vm.1 vm.2.1 vm.2.2.2.1 hc2 (fun h1 => ⟨vm.2.2.2.2.1 (h - 1) (by omega), (v.2.2.1.1 (h - 1) (by omega)).1, (v.2.2.1.1 (h - 1) (by omega)).2⟩)) ⟨rfl, rfl⟩ ⟨Nat.le_of_ble_eq_true rfl, Nat.le_of_ble_eq_true rfl⟩ ⟨by have := hu.1; show u.1 + 3 ≤ _; omega, by have := hu.2; show u.2 + 18 ≤ _; omega⟩ dL_law_363 (fun M_363 h_363 => ?_)
    rw [← hce] at h_363
    obtain ⟨hs1, hv⟩ := st_free v hb h_351 h_363
    refine zx_aload_n hc dL_law_366 rfl ?_
    refine zx_cV0i hc gsL_81 zob_62 (cM_thrown_ l M_363) ⟨rfl, rfl⟩ ⟨Nat.le_of_ble_eq_true rfl, Nat.le_of_ble_eq_true rfl⟩ ⟨by have := hu.1; show u.1 + 3 ≤ _; omega, by have := hu.2; show u.2 + 18 ≤ _; omega⟩ dL_law_367 (fun x_367 M_367 h_367 => ?_)
    obtain ⟨q_367, hm_367⟩ := h_367
    rw [hm_367, q_367]
    refine zx_iload hc dL_law_370 rfl ?_
    refine zx_icmp_eq 377 hc dL_law_372 rfl (fun h_372 => ?_) (fun h_372 => ?_)
    · skip
      refine zx_goto 939 hc dL_law_377 rfl ?_
      refine zx_take 5 ?_
      exact zx_widen (u' := (u.1 + 4, u.2 + 24)) (by show u.1 + 3 ≤ u.1 + 4; omega) (by show u.2 + 18 ≤ u.2 + 24; omega) (next _ hv)
    · skip
      exact absurd hs1 h_372
set_option maxRecDepth 100000 in
set_option maxHeartbeats 4000000 in
theorem lw_keep {X : zC} {l : Launch} {F : State → Prop} {u : Nat × Nat} {M : zM} {b L i : Nat} {xs : Nat → Int32} {h : Nat} {cs : List gC} {R : Nat → List (List gC)} (hc : zCy X l mL_law room_1) (hT : zThr (zA (zad X) (zs X).heap.size) (zs X)) (htr : l.stackTraces = false) (hx : zLX X b L xs) (hL : L ≤ 2560) (hi : 5 * i + 5 ≤ L) (hu : u.1 + 4 ≤ room_1.cells ∧ u.2 + 24 ≤ room_1.slots) (v : zV M h cs R) (next : ∀ (M' : zM), (∃ h' cs' R', zV M' h' cs' R') → zF X F (u.1 + 4, u.2 + 24) 939 [(0, .ref 82), (1, .ref 0), (2, .ref 62), (3, .ref 81), (4, .int (nI (5 * i)))] [] M') : zF X F u 380 [(0, .ref 82), (1, .ref 0), (2, .ref 62), (3, .ref 81), (4, .int (nI (5 * i)))] [] M := by
  by_cases hb : (xs (5 * i + 1)) < 0 ∨ 4 ≤ (xs (5 * i + 1))
  · skip
    refine zx_aload_n hc dL_law_380 rfl ?_
    refine zx_aload_n hc dL_law_381 rfl ?_
    refine zx_iload hc dL_law_382 rfl ?_
    refine zx_iconst hc (nI 1) dL_law_384 rfl ?_
    refine zx_iadd hc dL_law_385 ?_
    rw [nI_add]
    refine zl_sld hc hx dL_law_386 (by omega) hL ?_
    refine zl_callL (md' := mL_keep) (hh := hL_keep) (As := [.ref 0, .int (xs (5 * i + 1))]) hc hT ⟨kL_keep, kiL, pdL_keep.1, pdL_keep.2⟩ ⟨jmL_102, ksL_keep⟩ (cL_keep_ l M (xs (5 * i + 1)) (cK_keep_ l htr M (R := R (h - 1)) v.1.1 v.1.2.1 (xs (5 * i + 1)) (fun h1 => v.1.2.2.2.2.2.2.2.1 (h - 1) (by omega))) (fun e M9 z => by rcases z with z | z; exact Or.inl z.1; exact Or.inr z.1)) ⟨Nat.le_of_ble_eq_true rfl, Nat.le_of_ble_eq_true rfl⟩ rfl ⟨by have := hu.1; show u.1 + 2 ≤ _; omega, by have := hu.2; show u.2 + 12 ≤ _; omega⟩ dL_law_387 (fun x_387 M_387 h_387 => ?_)
    have vm := vm_keep (P := R (h - 1)) v h_387
    refine zx_istore hc dL_law_390 (by decide) ?_
    refine zx_aload_n hc dL_law_392 rfl ?_
    refine zx_aload_n hc dL_law_393 rfl ?_
    refine zx_iload hc dL_law_394 rfl ?_
    refine zx_iconst hc (nI 1) dL_law_396 rfl ?_
    refine zx_iadd hc dL_law_397 ?_
    rw [nI_add]
    refine zl_sld hc hx dL_law_398 (by omega) hL ?_
    refine zx_cV1v hc gsL_104 zob_62 (cM_keepB_ l M_387 (xs (5 * i + 1)) (hb.elim Or.inl (fun z => Or.inr ((i32_le (a := 3) (b := 4) rfl).mp z)))) ⟨rfl, rfl⟩ ⟨Nat.le_of_ble_eq_true rfl, Nat.le_of_ble_eq_true rfl⟩ ⟨by have := hu.1; show u.1 + 2 ≤ _; omega, by have := hu.2; show u.2 + 12 ≤ _; omega⟩ dL_law_399 (fun M_399 h_399 => ?_)
    obtain ⟨hs1, hv⟩ := st_keepB (P := R (h - 1)) v hb h_387 h_399
    refine zx_aload_n hc dL_law_402 rfl ?_
    refine zx_cV0i hc gsL_81 zob_62 (cM_thrown_ l M_399) ⟨rfl, rfl⟩ ⟨Nat.le_of_ble_eq_true rfl, Nat.le_of_ble_eq_true rfl⟩ ⟨by have := hu.1; show u.1 + 2 ≤ _; omega, by have := hu.2; show u.2 + 12 ≤ _; omega⟩ dL_law_403 (fun x_403 M_403 h_403 => ?_)
    obtain ⟨q_403, hm_403⟩ := h_403
    rw [hm_403, q_403]
    refine zx_iload hc dL_law_406 rfl ?_
    refine zx_icmp_eq 413 hc dL_law_408 rfl (fun h_408 => ?_) (fun h_408 => ?_)
    · skip
      refine zx_goto 939 hc dL_law_413 rfl ?_
      refine zx_take 5 ?_
      exact zx_widen (u' := (u.1 + 4, u.2 + 24)) (by show u.1 + 2 ≤ u.1 + 4; omega) (by show u.2 + 12 ≤ u.2 + 24; omega) (next _ hv)
    · skip
      exact absurd hs1 h_408
  · skip
    obtain ⟨c, hc2, hce⟩ : ∃ k, k < 4 ∧ (xs (5 * i + 1)) = nI k := (ix_or (xs (5 * i + 1)) 4 (by decide)).resolve_right hb
    refine zx_aload_n hc dL_law_380 rfl ?_
    refine zx_aload_n hc dL_law_381 rfl ?_
    refine zx_iload hc dL_law_382 rfl ?_
    refine zx_iconst hc (nI 1) dL_law_384 rfl ?_
    refine zx_iadd hc dL_law_385 ?_
    rw [nI_add]
    refine zl_sld hc hx dL_law_386 (by omega) hL ?_
    refine zl_callL (md' := mL_keep) (hh := hL_keep) (As := [.ref 0, .int (xs (5 * i + 1))]) hc hT ⟨kL_keep, kiL, pdL_keep.1, pdL_keep.2⟩ ⟨jmL_102, ksL_keep⟩ (cL_keep_ l M (xs (5 * i + 1)) (cK_keep_ l htr M (R := R (h - 1)) v.1.1 v.1.2.1 (xs (5 * i + 1)) (fun h1 => v.1.2.2.2.2.2.2.2.1 (h - 1) (by omega))) (fun e M9 z => by rcases z with z | z; exact Or.inl z.1; exact Or.inr z.1)) ⟨Nat.le_of_ble_eq_true rfl, Nat.le_of_ble_eq_true rfl⟩ rfl ⟨by have := hu.1; show u.1 + 2 ≤ _; omega, by have := hu.2; show u.2 + 12 ≤ _; omega⟩ dL_law_387 (fun x_387 M_387 h_387 => ?_)
    have vm := vm_keep (P := R (h - 1)) v h_387
    refine zx_istore hc dL_law_390 (by decide) ?_
    refine zx_aload_n hc dL_law_392 rfl ?_
    refine zx_aload_n hc dL_law_393 rfl ?_
    refine zx_iload hc dL_law_394 rfl ?_
    refine zx_iconst hc (nI 1) dL_law_396 rfl ?_
    refine zx_iadd hc dL_law_397 ?_
    rw [nI_add]
    refine zl_sld hc hx dL_law_398 (by omega) hL ?_
    rw [hce]
    refine zx_cV1v hc gsL_104 zob_62 (cM_keep_ l M_387 (t := c) (R := R (h - 1)) vm.1 vm.2.1 vm.2.2.2.1 hc2 (fun h1 => vm.2.2.2.2.1 (h - 1) (by omega))) ⟨rfl, rfl⟩ ⟨Nat.le_of_ble_eq_true rfl, Nat.le_of_ble_eq_true rfl⟩ ⟨by have := hu.1; show u.1 + 2 ≤ _; omega, by have := hu.2; show u.2 + 12 ≤ _; omega⟩ dL_law_399 (fun M_399 h_399 => ?_)
    obtain ⟨hs1, hv⟩ := st_keep v hc2 (hce ▸ h_387) h_399
    refine zx_aload_n hc dL_law_402 rfl ?_
    refine zx_cV0i hc gsL_81 zob_62 (cM_thrown_ l M_399) ⟨rfl, rfl⟩ ⟨Nat.le_of_ble_eq_true rfl, Nat.le_of_ble_eq_true rfl⟩ ⟨by have := hu.1; show u.1 + 2 ≤ _; omega, by have := hu.2; show u.2 + 12 ≤ _; omega⟩ dL_law_403 (fun x_403 M_403 h_403 => ?_)
    obtain ⟨q_403, hm_403⟩ := h_403
    rw [hm_403, q_403]
    refine zx_iload hc dL_law_406 rfl ?_
    refine zx_icmp_eq 413 hc dL_law_408 rfl (fun h_408 => ?_) (fun h_408 => ?_)
    · skip
      refine zx_goto 939 hc dL_law_413 rfl ?_
      refine zx_take 5 ?_
      exact zx_widen (u' := (u.1 + 4, u.2 + 24)) (by show u.1 + 2 ≤ u.1 + 4; omega) (by show u.2 + 12 ≤ u.2 + 24; omega) (next _ hv)
    · skip
      exact absurd hs1 h_408
set_option maxRecDepth 100000 in
set_option maxHeartbeats 4000000 in
theorem lw_load {X : zC} {l : Launch} {F : State → Prop} {u : Nat × Nat} {M : zM} {b L i : Nat} {xs : Nat → Int32} {h : Nat} {cs : List gC} {R : Nat → List (List gC)} (hc : zCy X l mL_law room_1) (hT : zThr (zA (zad X) (zs X).heap.size) (zs X)) (htr : l.stackTraces = false) (hx : zLX X b L xs) (hL : L ≤ 2560) (hi : 5 * i + 5 ≤ L) (hu : u.1 + 4 ≤ room_1.cells ∧ u.2 + 24 ≤ room_1.slots) (v : zV M h cs R) (next : ∀ (M' : zM), (∃ h' cs' R', zV M' h' cs' R') → zF X F (u.1 + 4, u.2 + 24) 939 [(0, .ref 82), (1, .ref 0), (2, .ref 62), (3, .ref 81), (4, .int (nI (5 * i)))] [] M') : zF X F u 416 [(0, .ref 82), (1, .ref 0), (2, .ref 62), (3, .ref 81), (4, .int (nI (5 * i)))] [] M := by
  by_cases hb : (xs (5 * i + 1)) < 0 ∨ 4 ≤ (xs (5 * i + 1))
  · skip
    refine zx_aload_n hc dL_law_416 rfl ?_
    refine zx_aload_n hc dL_law_417 rfl ?_
    refine zx_iload hc dL_law_418 rfl ?_
    refine zx_iconst hc (nI 1) dL_law_420 rfl ?_
    refine zx_iadd hc dL_law_421 ?_
    rw [nI_add]
    refine zl_sld hc hx dL_law_422 (by omega) hL ?_
    refine zx_aload_n hc dL_law_423 rfl ?_
    refine zl_callL (md' := mL_load) (hh := hL_load) (As := [.ref 0, .int (xs (5 * i + 1)), .ref 81]) hc hT ⟨kL_load, kiL, pdL_load.1, pdL_load.2⟩ ⟨jmL_105, ksL_load⟩ (cL_load_ l M (xs (5 * i + 1)) (cK_load_ l htr M (R := fun t => R (6 + t)) v.1.1 v.1.2.1 (xs (5 * i + 1)) (fun tt ht => v.1.2.2.2.2.2.2.2.2 tt ht)) (fun e M9 z => by rcases z with z | z; exact Or.inl z.1; exact Or.inr z.1)) ⟨Nat.le_of_ble_eq_true rfl, Nat.le_of_ble_eq_true rfl⟩ rfl ⟨by have := hu.1; show u.1 + 2 ≤ _; omega, by have := hu.2; show u.2 + 12 ≤ _; omega⟩ dL_law_424 (fun x_424 M_424 h_424 => ?_)
    have vm := vm_load (R0 := R) v h_424
    refine zx_istore hc dL_law_427 (by decide) ?_
    refine zx_aload_n hc dL_law_429 rfl ?_
    refine zx_aload_n hc dL_law_430 rfl ?_
    refine zx_iload hc dL_law_431 rfl ?_
    refine zx_iconst hc (nI 1) dL_law_433 rfl ?_
    refine zx_iadd hc dL_law_434 ?_
    rw [nI_add]
    refine zl_sld hc hx dL_law_435 (by omega) hL ?_
    refine zx_cV1i hc gsL_108 zob_62 (cM_loadB_ l M_424 (xs (5 * i + 1)) (hb.elim Or.inl (fun z => Or.inr ((i32_le (a := 3) (b := 4) rfl).mp z)))) ⟨rfl, rfl⟩ ⟨Nat.le_of_ble_eq_true rfl, Nat.le_of_ble_eq_true rfl⟩ ⟨by have := hu.1; show u.1 + 2 ≤ _; omega, by have := hu.2; show u.2 + 12 ≤ _; omega⟩ dL_law_436 (fun x_436 M_436 h_436 => ?_)
    obtain ⟨hs1, hs2, hv⟩ := st_loadB (R0 := R) v hb h_424 h_436
    refine zx_istore hc dL_law_439 (by decide) ?_
    refine zx_aload_n hc dL_law_441 rfl ?_
    refine zx_cV0i hc gsL_81 zob_62 (cM_thrown_ l M_436) ⟨rfl, rfl⟩ ⟨Nat.le_of_ble_eq_true rfl, Nat.le_of_ble_eq_true rfl⟩ ⟨by have := hu.1; show u.1 + 2 ≤ _; omega, by have := hu.2; show u.2 + 12 ≤ _; omega⟩ dL_law_442 (fun x_442 M_442 h_442 => ?_)
    obtain ⟨q_442, hm_442⟩ := h_442
    rw [hm_442, q_442]
    refine zx_iload hc dL_law_445 rfl ?_
    refine zx_icmp_eq 452 hc dL_law_447 rfl (fun h_447 => ?_) (fun h_447 => ?_)
    · skip
      refine zx_iload hc dL_law_452 rfl ?_
      refine zx_if_ne 469 hc dL_law_454 rfl (fun h_454 => ?_) (fun h_454 => ?_)
      · skip
        refine zx_goto 939 hc dL_law_469 rfl ?_
        refine zx_take 5 ?_
        exact zx_widen (u' := (u.1 + 4, u.2 + 24)) (by show u.1 + 2 ≤ u.1 + 4; omega) (by show u.2 + 12 ≤ u.2 + 24; omega) (next _ hv)
      · skip
        refine zx_aload_n hc dL_law_457 rfl ?_
        refine zx_iconst hc (nI 0) dL_law_458 rfl ?_
        refine zl_in hc dL_law_459 ?_
        refine zx_iload hc dL_law_460 rfl ?_
        refine zx_i2l hc dL_law_462 ?_
        refine zx_lcmp_eq 469 hc dL_law_463 dL_law_464 rfl (fun h_463 => ?_) (fun h_463 => ?_)
        · skip
          refine zx_goto 939 hc dL_law_469 rfl ?_
          refine zx_take 5 ?_
          exact zx_widen (u' := (u.1 + 4, u.2 + 24)) (by show u.1 + 2 ≤ u.1 + 4; omega) (by show u.2 + 12 ≤ u.2 + 24; omega) (next _ hv)
        · skip
          exact absurd (hs2 h_454) h_463
    · skip
      exact absurd hs1 h_447
  · skip
    obtain ⟨c, hc2, hce⟩ : ∃ k, k < 4 ∧ (xs (5 * i + 1)) = nI k := (ix_or (xs (5 * i + 1)) 4 (by decide)).resolve_right hb
    refine zx_aload_n hc dL_law_416 rfl ?_
    refine zx_aload_n hc dL_law_417 rfl ?_
    refine zx_iload hc dL_law_418 rfl ?_
    refine zx_iconst hc (nI 1) dL_law_420 rfl ?_
    refine zx_iadd hc dL_law_421 ?_
    rw [nI_add]
    refine zl_sld hc hx dL_law_422 (by omega) hL ?_
    refine zx_aload_n hc dL_law_423 rfl ?_
    refine zl_callL (md' := mL_load) (hh := hL_load) (As := [.ref 0, .int (xs (5 * i + 1)), .ref 81]) hc hT ⟨kL_load, kiL, pdL_load.1, pdL_load.2⟩ ⟨jmL_105, ksL_load⟩ (cL_load_ l M (xs (5 * i + 1)) (cK_load_ l htr M (R := fun t => R (6 + t)) v.1.1 v.1.2.1 (xs (5 * i + 1)) (fun tt ht => v.1.2.2.2.2.2.2.2.2 tt ht)) (fun e M9 z => by rcases z with z | z; exact Or.inl z.1; exact Or.inr z.1)) ⟨Nat.le_of_ble_eq_true rfl, Nat.le_of_ble_eq_true rfl⟩ rfl ⟨by have := hu.1; show u.1 + 2 ≤ _; omega, by have := hu.2; show u.2 + 12 ≤ _; omega⟩ dL_law_424 (fun x_424 M_424 h_424 => ?_)
    have vm := vm_load (R0 := R) v h_424
    have kk : kLoad M h R (nI c) x_424 M_424 := hce ▸ h_424
    refine zx_istore hc dL_law_427 (by decide) ?_
    refine zx_aload_n hc dL_law_429 rfl ?_
    refine zx_aload_n hc dL_law_430 rfl ?_
    refine zx_iload hc dL_law_431 rfl ?_
    refine zx_iconst hc (nI 1) dL_law_433 rfl ?_
    refine zx_iadd hc dL_law_434 ?_
    rw [nI_add]
    refine zl_sld hc hx dL_law_435 (by omega) hL ?_
    rw [hce]
    refine zx_cV1i hc gsL_108 zob_62 (cM_load_ l M_424 (t := c) (R := R (6 + c)) vm.1 vm.2.1 vm.2.2.2.1 hc2 (vm.2.2.2.2.2 c hc2)) ⟨rfl, rfl⟩ ⟨Nat.le_of_ble_eq_true rfl, Nat.le_of_ble_eq_true rfl⟩ ⟨by have := hu.1; show u.1 + 2 ≤ _; omega, by have := hu.2; show u.2 + 12 ≤ _; omega⟩ dL_law_436 (fun x_436 M_436 h_436 => ?_)
    obtain ⟨hs1, hs2, hv⟩ := st_load v hc2 kk h_436
    refine zx_istore hc dL_law_439 (by decide) ?_
    refine zx_aload_n hc dL_law_441 rfl ?_
    refine zx_cV0i hc gsL_81 zob_62 (cM_thrown_ l M_436) ⟨rfl, rfl⟩ ⟨Nat.le_of_ble_eq_true rfl, Nat.le_of_ble_eq_true rfl⟩ ⟨by have := hu.1; show u.1 + 2 ≤ _; omega, by have := hu.2; show u.2 + 12 ≤ _; omega⟩ dL_law_442 (fun x_442 M_442 h_442 => ?_)
    obtain ⟨q_442, hm_442⟩ := h_442
    rw [hm_442, q_442]
    refine zx_iload hc dL_law_445 rfl ?_
    refine zx_icmp_eq 452 hc dL_law_447 rfl (fun h_447 => ?_) (fun h_447 => ?_)
    · skip
      refine zx_iload hc dL_law_452 rfl ?_
      refine zx_if_ne 469 hc dL_law_454 rfl (fun h_454 => ?_) (fun h_454 => ?_)
      · skip
        refine zx_goto 939 hc dL_law_469 rfl ?_
        refine zx_take 5 ?_
        exact zx_widen (u' := (u.1 + 4, u.2 + 24)) (by show u.1 + 2 ≤ u.1 + 4; omega) (by show u.2 + 12 ≤ u.2 + 24; omega) (next _ hv)
      · skip
        refine zx_aload_n hc dL_law_457 rfl ?_
        refine zx_iconst hc (nI 0) dL_law_458 rfl ?_
        refine zl_in hc dL_law_459 ?_
        refine zx_iload hc dL_law_460 rfl ?_
        refine zx_i2l hc dL_law_462 ?_
        refine zx_lcmp_eq 469 hc dL_law_463 dL_law_464 rfl (fun h_463 => ?_) (fun h_463 => ?_)
        · skip
          refine zx_goto 939 hc dL_law_469 rfl ?_
          refine zx_take 5 ?_
          exact zx_widen (u' := (u.1 + 4, u.2 + 24)) (by show u.1 + 2 ≤ u.1 + 4; omega) (by show u.2 + 12 ≤ u.2 + 24; omega) (next _ hv)
        · skip
          exact absurd (hs2 h_454) h_463
    · skip
      exact absurd hs1 h_447
set_option maxRecDepth 100000 in
set_option maxHeartbeats 4000000 in
theorem lw_drop {X : zC} {l : Launch} {F : State → Prop} {u : Nat × Nat} {M : zM} {b L i : Nat} {xs : Nat → Int32} {h : Nat} {cs : List gC} {R : Nat → List (List gC)} (hc : zCy X l mL_law room_1) (hT : zThr (zA (zad X) (zs X).heap.size) (zs X)) (htr : l.stackTraces = false) (hx : zLX X b L xs) (hL : L ≤ 2560) (hi : 5 * i + 5 ≤ L) (hu : u.1 + 4 ≤ room_1.cells ∧ u.2 + 24 ≤ room_1.slots) (v : zV M h cs R) (next : ∀ (M' : zM), (∃ h' cs' R', zV M' h' cs' R') → zF X F (u.1 + 4, u.2 + 24) 939 [(0, .ref 82), (1, .ref 0), (2, .ref 62), (3, .ref 81), (4, .int (nI (5 * i)))] [] M') : zF X F u 472 [(0, .ref 82), (1, .ref 0), (2, .ref 62), (3, .ref 81), (4, .int (nI (5 * i)))] [] M := by
  refine zx_aload_n hc dL_law_472 rfl ?_
  refine zx_cV0i hc gsL_109 zob_0 (cK_drop_ l M v.1.1 v.1.2.1) ⟨rfl, rfl⟩ ⟨Nat.le_of_ble_eq_true rfl, Nat.le_of_ble_eq_true rfl⟩ ⟨by have := hu.1; omega, by have := hu.2; omega⟩ dL_law_473 (fun x_473 M_473 h_473 => ?_)
  have vm := vm_drop v h_473
  refine zx_aload_n hc dL_law_476 rfl ?_
  refine zx_cV0i hc gsL_112 zob_62 (cM_drop_ l M_473 vm.1 vm.2.1) ⟨rfl, rfl⟩ ⟨Nat.le_of_ble_eq_true rfl, Nat.le_of_ble_eq_true rfl⟩ ⟨by have := hu.1; omega, by have := hu.2; omega⟩ dL_law_477 (fun x_477 M_477 h_477 => ?_)
  obtain ⟨hs1, hv⟩ := st_drop v h_473 h_477
  refine zx_icmp_eq 939 hc dL_law_480 rfl (fun h_480 => ?_) (fun h_480 => ?_)
  · skip
    refine zx_take 5 ?_
    exact zx_widen (u' := (u.1 + 4, u.2 + 24)) (by show u.1 ≤ u.1 + 4; omega) (by show u.2 ≤ u.2 + 24; omega) (next _ hv)
  · skip
    exact absurd hs1 h_480
set_option maxRecDepth 100000 in
set_option maxHeartbeats 4000000 in
theorem lw_pile {X : zC} {l : Launch} {F : State → Prop} {u : Nat × Nat} {M : zM} {b L i : Nat} {xs : Nat → Int32} {h : Nat} {cs : List gC} {R : Nat → List (List gC)} (hc : zCy X l mL_law room_1) (hT : zThr (zA (zad X) (zs X).heap.size) (zs X)) (htr : l.stackTraces = false) (hx : zLX X b L xs) (hL : L ≤ 2560) (hi : 5 * i + 5 ≤ L) (hu : u.1 + 4 ≤ room_1.cells ∧ u.2 + 24 ≤ room_1.slots) (v : zV M h cs R) (next : ∀ (M' : zM), (∃ h' cs' R', zV M' h' cs' R') → zF X F (u.1 + 4, u.2 + 24) 939 [(0, .ref 82), (1, .ref 0), (2, .ref 62), (3, .ref 81), (4, .int (nI (5 * i)))] [] M') : zF X F u 485 [(0, .ref 82), (1, .ref 0), (2, .ref 62), (3, .ref 81), (4, .int (nI (5 * i)))] [] M := by
  refine zx_aload_n hc dL_law_485 rfl ?_
  refine zx_cV0i hc gsL_113 zob_0 (cK_pile_ l M) ⟨rfl, rfl⟩ ⟨Nat.le_of_ble_eq_true rfl, Nat.le_of_ble_eq_true rfl⟩ ⟨by have := hu.1; omega, by have := hu.2; omega⟩ dL_law_486 (fun x_486 M_486 h_486 => ?_)
  refine zx_aload_n hc dL_law_489 rfl ?_
  refine zx_cV0i hc gsL_116 zob_62 (cM_pile_ l M_486) ⟨rfl, rfl⟩ ⟨Nat.le_of_ble_eq_true rfl, Nat.le_of_ble_eq_true rfl⟩ ⟨by have := hu.1; omega, by have := hu.2; omega⟩ dL_law_490 (fun x_490 M_490 h_490 => ?_)
  obtain ⟨hs1, hv⟩ := st_pile v h_486 h_490
  refine zx_icmp_eq 939 hc dL_law_493 rfl (fun h_493 => ?_) (fun h_493 => ?_)
  · skip
    refine zx_take 5 ?_
    exact zx_widen (u' := (u.1 + 4, u.2 + 24)) (by show u.1 ≤ u.1 + 4; omega) (by show u.2 ≤ u.2 + 24; omega) (next _ hv)
  · skip
    exact absurd hs1 h_493
set_option maxRecDepth 100000 in
set_option maxHeartbeats 4000000 in
theorem lw_value {X : zC} {l : Launch} {F : State → Prop} {u : Nat × Nat} {M : zM} {b L i : Nat} {xs : Nat → Int32} {h : Nat} {cs : List gC} {R : Nat → List (List gC)} (hc : zCy X l mL_law room_1) (hT : zThr (zA (zad X) (zs X).heap.size) (zs X)) (htr : l.stackTraces = false) (hx : zLX X b L xs) (hL : L ≤ 2560) (hi : 5 * i + 5 ≤ L) (hu : u.1 + 4 ≤ room_1.cells ∧ u.2 + 24 ≤ room_1.slots) (v : zV M h cs R) (next : ∀ (M' : zM), (∃ h' cs' R', zV M' h' cs' R') → zF X F (u.1 + 4, u.2 + 24) 939 [(0, .ref 82), (1, .ref 0), (2, .ref 62), (3, .ref 81), (4, .int (nI (5 * i)))] [] M') : zF X F u 884 [(0, .ref 82), (1, .ref 0), (2, .ref 62), (3, .ref 81), (4, .int (nI (5 * i)))] [] M := by
  refine zx_aload_n hc dL_law_884 rfl ?_
  refine zx_aload_n hc dL_law_885 rfl ?_
  refine zx_iload hc dL_law_886 rfl ?_
  refine zx_iconst hc (nI 1) dL_law_888 rfl ?_
  refine zx_iadd hc dL_law_889 ?_
  rw [nI_add]
  refine zl_sld hc hx dL_law_890 (by omega) hL ?_
  refine zx_aload_n hc dL_law_891 rfl ?_
  refine zl_callL (md' := mL_value) (hh := hL_value) (As := [.ref 0, .int (xs (5 * i + 1)), .ref 81]) hc hT ⟨kL_value, kiL, pdL_value.1, pdL_value.2⟩ ⟨jmL_137, ksL_value⟩ (cL_value_ l M (xs (5 * i + 1)) (cK_value_ l htr M (xs (5 * i + 1))) (fun e M9 z => z.1)) ⟨Nat.le_of_ble_eq_true rfl, Nat.le_of_ble_eq_true rfl⟩ rfl ⟨by have := hu.1; show u.1 + 1 ≤ _; omega, by have := hu.2; show u.2 + 6 ≤ _; omega⟩ dL_law_892 (fun x_892 M_892 h_892 => ?_)
  have vm := vm_value v h_892
  refine zx_istore hc dL_law_895 (by decide) ?_
  refine zx_aload_n hc dL_law_897 rfl ?_
  refine zx_aload_n hc dL_law_898 rfl ?_
  refine zx_iload hc dL_law_899 rfl ?_
  refine zx_iconst hc (nI 1) dL_law_901 rfl ?_
  refine zx_iadd hc dL_law_902 ?_
  rw [nI_add]
  refine zl_sld hc hx dL_law_903 (by omega) hL ?_
  refine zx_cV1l hc gsL_139 zob_62 (cM_value_ l M_892 (xs (5 * i + 1))) ⟨rfl, rfl⟩ ⟨Nat.le_of_ble_eq_true rfl, Nat.le_of_ble_eq_true rfl⟩ ⟨by have := hu.1; show u.1 + 1 ≤ _; omega, by have := hu.2; show u.2 + 6 ≤ _; omega⟩ dL_law_904 (fun x_904 M_904 h_904 => ?_)
  obtain ⟨hs1, hs2, hv⟩ := st_value v h_892 h_904
  refine zx_lstore hc dL_law_907 (by decide) ?_
  refine zx_aload_n hc dL_law_909 rfl ?_
  refine zx_cV0i hc gsL_81 zob_62 (cM_thrown_ l M_904) ⟨rfl, rfl⟩ ⟨Nat.le_of_ble_eq_true rfl, Nat.le_of_ble_eq_true rfl⟩ ⟨by have := hu.1; show u.1 + 1 ≤ _; omega, by have := hu.2; show u.2 + 6 ≤ _; omega⟩ dL_law_910 (fun x_910 M_910 h_910 => ?_)
  obtain ⟨q_910, hm_910⟩ := h_910
  rw [hm_910, q_910]
  refine zx_iload hc dL_law_913 rfl ?_
  refine zx_icmp_eq 920 hc dL_law_915 rfl (fun h_915 => ?_) (fun h_915 => ?_)
  · skip
    refine zx_iload hc dL_law_920 rfl ?_
    refine zx_if_ne 936 hc dL_law_922 rfl (fun h_922 => ?_) (fun h_922 => ?_)
    · skip
      refine zx_goto 939 hc dL_law_936 rfl ?_
      refine zx_take 5 ?_
      exact zx_widen (u' := (u.1 + 4, u.2 + 24)) (by show u.1 + 1 ≤ u.1 + 4; omega) (by show u.2 + 6 ≤ u.2 + 24; omega) (next _ hv)
    · skip
      refine zx_aload_n hc dL_law_925 rfl ?_
      refine zx_iconst hc (nI 0) dL_law_926 rfl ?_
      refine zl_in hc dL_law_927 ?_
      refine zx_lload hc dL_law_928 rfl ?_
      refine zx_lcmp_eq 936 hc dL_law_930 dL_law_931 rfl (fun h_930 => ?_) (fun h_930 => ?_)
      · skip
        refine zx_goto 939 hc dL_law_936 rfl ?_
        refine zx_take 5 ?_
        exact zx_widen (u' := (u.1 + 4, u.2 + 24)) (by show u.1 + 1 ≤ u.1 + 4; omega) (by show u.2 + 6 ≤ u.2 + 24; omega) (next _ hv)
      · skip
        exact absurd (hs2 h_922) h_930
  · skip
    exact absurd hs1 h_915
set_option maxRecDepth 100000 in
set_option maxHeartbeats 4000000 in
theorem lw_holds {X : zC} {l : Launch} {F : State → Prop} {u : Nat × Nat} {M : zM} {b L i : Nat} {xs : Nat → Int32} {h : Nat} {cs : List gC} {R : Nat → List (List gC)} (hc : zCy X l mL_law room_1) (hT : zThr (zA (zad X) (zs X).heap.size) (zs X)) (htr : l.stackTraces = false) (hx : zLX X b L xs) (hL : L ≤ 2560) (hi : 5 * i + 5 ≤ L) (hu : u.1 + 4 ≤ room_1.cells ∧ u.2 + 24 ≤ room_1.slots) (v : zV M h cs R) (next : ∀ (M' : zM), (∃ h' cs' R', zV M' h' cs' R') → zF X F (u.1 + 4, u.2 + 24) 939 [(0, .ref 82), (1, .ref 0), (2, .ref 62), (3, .ref 81), (4, .int (nI (5 * i)))] [] M') : zF X F u 678 [(0, .ref 82), (1, .ref 0), (2, .ref 62), (3, .ref 81), (4, .int (nI (5 * i)))] [] M := by
  refine zx_aload_n hc dL_law_678 rfl ?_
  refine zx_aload_n hc dL_law_679 rfl ?_
  refine zx_iload hc dL_law_680 rfl ?_
  refine zx_iconst hc (nI 1) dL_law_682 rfl ?_
  refine zx_iadd hc dL_law_683 ?_
  rw [nI_add]
  refine zl_sld hc hx dL_law_684 (by omega) hL ?_
  refine zx_aload_n hc dL_law_685 rfl ?_
  refine zx_iload hc dL_law_686 rfl ?_
  refine zx_iconst hc (nI 2) dL_law_688 rfl ?_
  refine zx_iadd hc dL_law_689 ?_
  rw [nI_add]
  refine zl_sld hc hx dL_law_690 (by omega) hL ?_
  refine zx_aload_n hc dL_law_691 rfl ?_
  refine zx_iload hc dL_law_692 rfl ?_
  refine zx_iconst hc (nI 3) dL_law_694 rfl ?_
  refine zx_iadd hc dL_law_695 ?_
  rw [nI_add]
  refine zl_sld hc hx dL_law_696 (by omega) hL ?_
  refine zx_aload_n hc dL_law_697 rfl ?_
  refine zl_callL (md' := mL_holds) (hh := hL_holds) (As := [.ref 0, .int (xs (5 * i + 1)), .int (xs (5 * i + 2)), .int (xs (5 * i + 3)), .ref 81]) hc hT ⟨kL_holds, kiL, pdL_holds.1, pdL_holds.2⟩ ⟨jmL_127, ksL_holds⟩ (cL_holds_ l M (xs (5 * i + 1)) (xs (5 * i + 2)) (xs (5 * i + 3)) (cK_holds_ l htr M (P := R (h - 1)) v.1.1 v.1.2.1 (xs (5 * i + 1)) (xs (5 * i + 2)) (xs (5 * i + 3)) (fun h1 => v.1.2.2.2.2.2.2.2.1 (h - 1) (by omega))) (fun e M9 z => by rcases z with z | z; exact Or.inl z.1; exact Or.inr z.1)) ⟨Nat.le_of_ble_eq_true rfl, Nat.le_of_ble_eq_true rfl⟩ rfl ⟨by have := hu.1; show u.1 + 3 ≤ _; omega, by have := hu.2; show u.2 + 18 ≤ _; omega⟩ dL_law_698 (fun x_698 M_698 h_698 => ?_)
  have vm := vm_holds v h_698
  refine zx_istore hc dL_law_701 (by decide) ?_
  refine zx_aload_n hc dL_law_703 rfl ?_
  refine zx_aload_n hc dL_law_704 rfl ?_
  refine zx_iload hc dL_law_705 rfl ?_
  refine zx_iconst hc (nI 1) dL_law_707 rfl ?_
  refine zx_iadd hc dL_law_708 ?_
  rw [nI_add]
  refine zl_sld hc hx dL_law_709 (by omega) hL ?_
  refine zx_aload_n hc dL_law_710 rfl ?_
  refine zx_iload hc dL_law_711 rfl ?_
  refine zx_iconst hc (nI 2) dL_law_713 rfl ?_
  refine zx_iadd hc dL_law_714 ?_
  rw [nI_add]
  refine zl_sld hc hx dL_law_715 (by omega) hL ?_
  refine zx_aload_n hc dL_law_716 rfl ?_
  refine zx_iload hc dL_law_717 rfl ?_
  refine zx_iconst hc (nI 3) dL_law_719 rfl ?_
  refine zx_iadd hc dL_law_720 ?_
  rw [nI_add]
  refine zl_sld hc hx dL_law_721 (by omega) hL ?_
  refine zx_cV3i hc gsL_129 zob_62 (cM_holds_ l M_698 (P := R (h - 1)) vm.1 vm.2.1 (xs (5 * i + 1)) (xs (5 * i + 2)) (xs (5 * i + 3)) (fun h1 => vm.2.2.2.2.1 (h - 1) (by omega)) vm.2.2.2.1.2.2.1) ⟨rfl, rfl⟩ ⟨Nat.le_of_ble_eq_true rfl, Nat.le_of_ble_eq_true rfl⟩ ⟨by have := hu.1; show u.1 + 3 ≤ _; omega, by have := hu.2; show u.2 + 18 ≤ _; omega⟩ dL_law_722 (fun x_722 M_722 h_722 => ?_)
  obtain ⟨hs1, hs2, hv⟩ := st_holds v h_698 h_722
  refine zx_istore hc dL_law_725 (by decide) ?_
  refine zx_aload_n hc dL_law_727 rfl ?_
  refine zx_cV0i hc gsL_81 zob_62 (cM_thrown_ l M_722) ⟨rfl, rfl⟩ ⟨Nat.le_of_ble_eq_true rfl, Nat.le_of_ble_eq_true rfl⟩ ⟨by have := hu.1; show u.1 + 3 ≤ _; omega, by have := hu.2; show u.2 + 18 ≤ _; omega⟩ dL_law_728 (fun x_728 M_728 h_728 => ?_)
  obtain ⟨q_728, hm_728⟩ := h_728
  rw [hm_728, q_728]
  refine zx_iload hc dL_law_731 rfl ?_
  refine zx_icmp_eq 738 hc dL_law_733 rfl (fun h_733 => ?_) (fun h_733 => ?_)
  · skip
    refine zx_iload hc dL_law_738 rfl ?_
    refine zx_if_ne 762 hc dL_law_740 rfl (fun h_740 => ?_) (fun h_740 => ?_)
    · skip
      refine zx_goto 939 hc dL_law_762 rfl ?_
      refine zx_take 5 ?_
      exact zx_widen (u' := (u.1 + 4, u.2 + 24)) (by show u.1 + 3 ≤ u.1 + 4; omega) (by show u.2 + 18 ≤ u.2 + 24; omega) (next _ hv)
    · skip
      refine zx_aload_n hc dL_law_743 rfl ?_
      refine zx_iconst hc (nI 0) dL_law_744 rfl ?_
      refine zl_in hc dL_law_745 ?_
      refine zx_iload hc dL_law_746 rfl ?_
      refine zx_if_eq 755 hc dL_law_748 rfl (fun h_748 => ?_) (fun h_748 => ?_)
      · skip
        have hb0 := hs2 h_740
        rw [if_pos h_748] at hb0
        refine zx_lconst hc 0 dL_law_755 rfl ?_
        refine zx_lcmp_eq 762 hc dL_law_756 dL_law_757 rfl (fun h_756 => ?_) (fun h_756 => ?_)
        · skip
          refine zx_goto 939 hc dL_law_762 rfl ?_
          refine zx_take 5 ?_
          exact zx_widen (u' := (u.1 + 4, u.2 + 24)) (by show u.1 + 3 ≤ u.1 + 4; omega) (by show u.2 + 18 ≤ u.2 + 24; omega) (next _ hv)
        · skip
          exact absurd hb0 h_756
      · skip
        have hb0 := hs2 h_740
        rw [if_neg h_748] at hb0
        refine zx_lconst hc 1 dL_law_751 rfl ?_
        refine zx_goto 756 hc dL_law_752 rfl ?_
        refine zx_lcmp_eq 762 hc dL_law_756 dL_law_757 rfl (fun h_756 => ?_) (fun h_756 => ?_)
        · skip
          refine zx_goto 939 hc dL_law_762 rfl ?_
          refine zx_take 5 ?_
          exact zx_widen (u' := (u.1 + 4, u.2 + 24)) (by show u.1 + 3 ≤ u.1 + 4; omega) (by show u.2 + 18 ≤ u.2 + 24; omega) (next _ hv)
        · skip
          exact absurd hb0 h_756
  · skip
    exact absurd hs1 h_733
set_option maxRecDepth 100000 in
set_option maxHeartbeats 4000000 in
theorem lw_within {X : zC} {l : Launch} {F : State → Prop} {u : Nat × Nat} {M : zM} {b L i : Nat} {xs : Nat → Int32} {h : Nat} {cs : List gC} {R : Nat → List (List gC)} (hc : zCy X l mL_law room_1) (hT : zThr (zA (zad X) (zs X).heap.size) (zs X)) (htr : l.stackTraces = false) (hx : zLX X b L xs) (hL : L ≤ 2560) (hi : 5 * i + 5 ≤ L) (hu : u.1 + 4 ≤ room_1.cells ∧ u.2 + 24 ≤ room_1.slots) (v : zV M h cs R) (next : ∀ (M' : zM), (∃ h' cs' R', zV M' h' cs' R') → zF X F (u.1 + 4, u.2 + 24) 939 [(0, .ref 82), (1, .ref 0), (2, .ref 62), (3, .ref 81), (4, .int (nI (5 * i)))] [] M') : zF X F u 765 [(0, .ref 82), (1, .ref 0), (2, .ref 62), (3, .ref 81), (4, .int (nI (5 * i)))] [] M := by
  refine zx_aload_n hc dL_law_765 rfl ?_
  refine zx_aload_n hc dL_law_766 rfl ?_
  refine zl_callL (md' := mL_within) (hh := hL_within) (As := [.ref 0, .ref 81]) hc hT ⟨kL_within, kiL, pdL_within.1, pdL_within.2⟩ ⟨jmL_130, ksL_within⟩ (cL_within_ l M (cK_within_ l htr M (P := R (h - 2)) (Q := R (h - 1)) v.1.1 v.1.2.1 v.1.2.2.2.2.2.1 (fun h2 => ⟨v.1.2.2.2.2.2.2.2.1 (h - 2) (by omega), v.1.2.2.2.2.2.2.2.1 (h - 1) (by omega)⟩)) (fun e M9 z => by rcases z with z | z; exact Or.inl z.1; exact Or.inr z.1)) ⟨Nat.le_of_ble_eq_true rfl, Nat.le_of_ble_eq_true rfl⟩ rfl ⟨by have := hu.1; show u.1 + 3 ≤ _; omega, by have := hu.2; show u.2 + 18 ≤ _; omega⟩ dL_law_767 (fun x_767 M_767 h_767 => ?_)
  have vm := vm_within (g := gWi (R (h - 2)) (R (h - 1))) v h_767
  refine zx_istore hc dL_law_770 (by decide) ?_
  refine zx_aload_n hc dL_law_772 rfl ?_
  refine zx_cV0i hc gsL_132 zob_62 (cM_within_ l M_767 (P := R (h - 2)) (Q := R (h - 1)) vm.1 vm.2.1 vm.2.2.2.1 (fun h2 => ⟨vm.2.2.2.2.1 (h - 2) (by omega), vm.2.2.2.2.1 (h - 1) (by omega), (v.2.2.1.1 (h - 2) (by omega)).1, (v.2.2.1.1 (h - 1) (by omega)).1⟩)) ⟨rfl, rfl⟩ ⟨Nat.le_of_ble_eq_true rfl, Nat.le_of_ble_eq_true rfl⟩ ⟨by have := hu.1; show u.1 + 3 ≤ _; omega, by have := hu.2; show u.2 + 18 ≤ _; omega⟩ dL_law_773 (fun x_773 M_773 h_773 => ?_)
  obtain ⟨hs1, hs2, hv⟩ := st_within (g := gWi (R (h - 2)) (R (h - 1))) v h_767 h_773
  refine zx_istore hc dL_law_776 (by decide) ?_
  refine zx_aload_n hc dL_law_778 rfl ?_
  refine zx_cV0i hc gsL_81 zob_62 (cM_thrown_ l M_773) ⟨rfl, rfl⟩ ⟨Nat.le_of_ble_eq_true rfl, Nat.le_of_ble_eq_true rfl⟩ ⟨by have := hu.1; show u.1 + 3 ≤ _; omega, by have := hu.2; show u.2 + 18 ≤ _; omega⟩ dL_law_779 (fun x_779 M_779 h_779 => ?_)
  obtain ⟨q_779, hm_779⟩ := h_779
  rw [hm_779, q_779]
  refine zx_iload hc dL_law_782 rfl ?_
  refine zx_icmp_eq 789 hc dL_law_784 rfl (fun h_784 => ?_) (fun h_784 => ?_)
  · skip
    refine zx_iload hc dL_law_789 rfl ?_
    refine zx_if_ne 813 hc dL_law_791 rfl (fun h_791 => ?_) (fun h_791 => ?_)
    · skip
      refine zx_goto 939 hc dL_law_813 rfl ?_
      refine zx_take 5 ?_
      exact zx_widen (u' := (u.1 + 4, u.2 + 24)) (by show u.1 + 3 ≤ u.1 + 4; omega) (by show u.2 + 18 ≤ u.2 + 24; omega) (next _ hv)
    · skip
      refine zx_aload_n hc dL_law_794 rfl ?_
      refine zx_iconst hc (nI 0) dL_law_795 rfl ?_
      refine zl_in hc dL_law_796 ?_
      refine zx_iload hc dL_law_797 rfl ?_
      refine zx_if_eq 806 hc dL_law_799 rfl (fun h_799 => ?_) (fun h_799 => ?_)
      · skip
        have hb0 := hs2 h_791
        rw [if_pos h_799] at hb0
        refine zx_lconst hc 0 dL_law_806 rfl ?_
        refine zx_lcmp_eq 813 hc dL_law_807 dL_law_808 rfl (fun h_807 => ?_) (fun h_807 => ?_)
        · skip
          refine zx_goto 939 hc dL_law_813 rfl ?_
          refine zx_take 5 ?_
          exact zx_widen (u' := (u.1 + 4, u.2 + 24)) (by show u.1 + 3 ≤ u.1 + 4; omega) (by show u.2 + 18 ≤ u.2 + 24; omega) (next _ hv)
        · skip
          exact absurd hb0 h_807
      · skip
        have hb0 := hs2 h_791
        rw [if_neg h_799] at hb0
        refine zx_lconst hc 1 dL_law_802 rfl ?_
        refine zx_goto 807 hc dL_law_803 rfl ?_
        refine zx_lcmp_eq 813 hc dL_law_807 dL_law_808 rfl (fun h_807 => ?_) (fun h_807 => ?_)
        · skip
          refine zx_goto 939 hc dL_law_813 rfl ?_
          refine zx_take 5 ?_
          exact zx_widen (u' := (u.1 + 4, u.2 + 24)) (by show u.1 + 3 ≤ u.1 + 4; omega) (by show u.2 + 18 ≤ u.2 + 24; omega) (next _ hv)
        · skip
          exact absurd hb0 h_807
  · skip
    exact absurd hs1 h_784
set_option maxRecDepth 100000 in
set_option maxHeartbeats 4000000 in
theorem lw_member {X : zC} {l : Launch} {F : State → Prop} {u : Nat × Nat} {M : zM} {b L i : Nat} {xs : Nat → Int32} {h : Nat} {cs : List gC} {R : Nat → List (List gC)} (hc : zCy X l mL_law room_1) (hT : zThr (zA (zad X) (zs X).heap.size) (zs X)) (htr : l.stackTraces = false) (hx : zLX X b L xs) (hL : L ≤ 2560) (hi : 5 * i + 5 ≤ L) (hu : u.1 + 4 ≤ room_1.cells ∧ u.2 + 24 ≤ room_1.slots) (v : zV M h cs R) (next : ∀ (M' : zM), (∃ h' cs' R', zV M' h' cs' R') → zF X F (u.1 + 4, u.2 + 24) 939 [(0, .ref 82), (1, .ref 0), (2, .ref 62), (3, .ref 81), (4, .int (nI (5 * i)))] [] M') : zF X F u 120 [(0, .ref 82), (1, .ref 0), (2, .ref 62), (3, .ref 81), (4, .int (nI (5 * i)))] [] M := by
  refine zx_aload_n hc dL_law_120 rfl ?_
  refine zx_aload_n hc dL_law_121 rfl ?_
  refine zx_iload hc dL_law_122 rfl ?_
  refine zx_iconst hc (nI 1) dL_law_124 rfl ?_
  refine zx_iadd hc dL_law_125 ?_
  rw [nI_add]
  refine zl_sld hc hx dL_law_126 (by omega) hL ?_
  refine zx_aload_n hc dL_law_127 rfl ?_
  refine zx_iload hc dL_law_128 rfl ?_
  refine zx_iconst hc (nI 2) dL_law_130 rfl ?_
  refine zx_iadd hc dL_law_131 ?_
  rw [nI_add]
  refine zl_sld hc hx dL_law_132 (by omega) hL ?_
  refine zx_aload_n hc dL_law_133 rfl ?_
  refine zx_iload hc dL_law_134 rfl ?_
  refine zx_iconst hc (nI 3) dL_law_136 rfl ?_
  refine zx_iadd hc dL_law_137 ?_
  rw [nI_add]
  refine zl_sld hc hx dL_law_138 (by omega) hL ?_
  refine zx_aload_n hc dL_law_139 rfl ?_
  refine zx_iload hc dL_law_140 rfl ?_
  refine zx_iconst hc (nI 4) dL_law_142 rfl ?_
  refine zx_iadd hc dL_law_143 ?_
  rw [nI_add]
  refine zl_sld hc hx dL_law_144 (by omega) hL ?_
  refine zx_if_eq 152 hc dL_law_145 rfl (fun h_145 => ?_) (fun h_145 => ?_)
  · skip
    refine zx_iconst hc 0 dL_law_152 rfl ?_
    refine zx_aload_n hc dL_law_153 rfl ?_
    refine zl_callL (md' := mL_member) (hh := hL_member) (As := [.ref 0, .int (xs (5 * i + 1)), .int (xs (5 * i + 2)), .int (xs (5 * i + 3)), .int 0, .ref 81]) hc hT ⟨kL_member, kiL, pdL_member.1, pdL_member.2⟩ ⟨jmL_75, ksL_member⟩ (cL_member_ l M (xs (5 * i + 1)) (xs (5 * i + 2)) (xs (5 * i + 3)) 0 (cK_member_ l htr M (xs (5 * i + 1)) (xs (5 * i + 2)) (xs (5 * i + 3)) 0 (Or.inl rfl) v.2.1.2.2.1.2.1 v.1.2.2.1 v.1.2.2.2.1 (gputs_len0 cs)) (fun e M9 z => by rcases z with z | z; exact Or.inl z.1; exact Or.inr z.1)) ⟨Nat.le_of_ble_eq_true rfl, Nat.le_of_ble_eq_true rfl⟩ rfl ⟨by have := hu.1; show u.1 + 3 ≤ _; omega, by have := hu.2; show u.2 + 18 ≤ _; omega⟩ dL_law_154 (fun x_154 M_154 h_154 => ?_)
    have vm := vm_member v h_154
    refine zx_istore hc dL_law_157 (by decide) ?_
    refine zx_aload_n hc dL_law_159 rfl ?_
    refine zx_aload_n hc dL_law_160 rfl ?_
    refine zx_iload hc dL_law_161 rfl ?_
    refine zx_iconst hc (nI 1) dL_law_163 rfl ?_
    refine zx_iadd hc dL_law_164 ?_
    rw [nI_add]
    refine zl_sld hc hx dL_law_165 (by omega) hL ?_
    refine zx_aload_n hc dL_law_166 rfl ?_
    refine zx_iload hc dL_law_167 rfl ?_
    refine zx_iconst hc (nI 2) dL_law_169 rfl ?_
    refine zx_iadd hc dL_law_170 ?_
    rw [nI_add]
    refine zl_sld hc hx dL_law_171 (by omega) hL ?_
    refine zx_aload_n hc dL_law_172 rfl ?_
    refine zx_iload hc dL_law_173 rfl ?_
    refine zx_iconst hc (nI 3) dL_law_175 rfl ?_
    refine zx_iadd hc dL_law_176 ?_
    rw [nI_add]
    refine zl_sld hc hx dL_law_177 (by omega) hL ?_
    refine zx_aload_n hc dL_law_178 rfl ?_
    refine zx_iload hc dL_law_179 rfl ?_
    refine zx_iconst hc (nI 4) dL_law_181 rfl ?_
    refine zx_iadd hc dL_law_182 ?_
    rw [nI_add]
    refine zl_sld hc hx dL_law_183 (by omega) hL ?_
    refine zx_if_eq 191 hc dL_law_184 rfl (fun h_184 => ?_) (fun h_184 => ?_)
    · skip
      refine zx_iconst hc 0 dL_law_191 rfl ?_
      refine zx_cV4i hc gsL_80 zob_62 (cM_member_ l M_154 (xs (5 * i + 1)) (xs (5 * i + 2)) (xs (5 * i + 3)) 0 vm.2.2.1 (Or.inl rfl)) ⟨rfl, rfl⟩ ⟨Nat.le_of_ble_eq_true rfl, Nat.le_of_ble_eq_true rfl⟩ ⟨by have := hu.1; show u.1 + 3 ≤ _; omega, by have := hu.2; show u.2 + 18 ≤ _; omega⟩ dL_law_192 (fun x_192 M_192 h_192 => ?_)
      obtain ⟨hs1, hs2, hv⟩ := st_member v h_154 h_192
      refine zx_istore hc dL_law_195 (by decide) ?_
      refine zx_aload_n hc dL_law_197 rfl ?_
      refine zx_cV0i hc gsL_81 zob_62 (cM_thrown_ l M_192) ⟨rfl, rfl⟩ ⟨Nat.le_of_ble_eq_true rfl, Nat.le_of_ble_eq_true rfl⟩ ⟨by have := hu.1; show u.1 + 3 ≤ _; omega, by have := hu.2; show u.2 + 18 ≤ _; omega⟩ dL_law_198 (fun x_198 M_198 h_198 => ?_)
      obtain ⟨q_198, hm_198⟩ := h_198
      rw [hm_198, q_198]
      refine zx_iload hc dL_law_201 rfl ?_
      refine zx_icmp_eq 208 hc dL_law_203 rfl (fun h_203 => ?_) (fun h_203 => ?_)
      · skip
        refine zx_iload hc dL_law_208 rfl ?_
        refine zx_if_ne 225 hc dL_law_210 rfl (fun h_210 => ?_) (fun h_210 => ?_)
        · skip
          refine zx_goto 939 hc dL_law_225 rfl ?_
          refine zx_take 5 ?_
          exact zx_widen (u' := (u.1 + 4, u.2 + 24)) (by show u.1 + 3 ≤ u.1 + 4; omega) (by show u.2 + 18 ≤ u.2 + 24; omega) (next _ hv)
        · skip
          refine zx_aload_n hc dL_law_213 rfl ?_
          refine zx_iconst hc (nI 0) dL_law_214 rfl ?_
          refine zl_in hc dL_law_215 ?_
          refine zx_iload hc dL_law_216 rfl ?_
          refine zx_i2l hc dL_law_218 ?_
          refine zx_lcmp_eq 225 hc dL_law_219 dL_law_220 rfl (fun h_219 => ?_) (fun h_219 => ?_)
          · skip
            refine zx_goto 939 hc dL_law_225 rfl ?_
            refine zx_take 5 ?_
            exact zx_widen (u' := (u.1 + 4, u.2 + 24)) (by show u.1 + 3 ≤ u.1 + 4; omega) (by show u.2 + 18 ≤ u.2 + 24; omega) (next _ hv)
          · skip
            exact absurd (hs2 h_210) h_219
      · skip
        exact absurd hs1 h_203
    · skip
      exact absurd h_145 h_184
  · skip
    refine zx_iconst hc 1 dL_law_148 rfl ?_
    refine zx_goto 153 hc dL_law_149 rfl ?_
    refine zx_aload_n hc dL_law_153 rfl ?_
    refine zl_callL (md' := mL_member) (hh := hL_member) (As := [.ref 0, .int (xs (5 * i + 1)), .int (xs (5 * i + 2)), .int (xs (5 * i + 3)), .int 1, .ref 81]) hc hT ⟨kL_member, kiL, pdL_member.1, pdL_member.2⟩ ⟨jmL_75, ksL_member⟩ (cL_member_ l M (xs (5 * i + 1)) (xs (5 * i + 2)) (xs (5 * i + 3)) 1 (cK_member_ l htr M (xs (5 * i + 1)) (xs (5 * i + 2)) (xs (5 * i + 3)) 1 (Or.inr rfl) v.2.1.2.2.1.2.1 v.1.2.2.1 v.1.2.2.2.1 (gputs_len0 cs)) (fun e M9 z => by rcases z with z | z; exact Or.inl z.1; exact Or.inr z.1)) ⟨Nat.le_of_ble_eq_true rfl, Nat.le_of_ble_eq_true rfl⟩ rfl ⟨by have := hu.1; show u.1 + 3 ≤ _; omega, by have := hu.2; show u.2 + 18 ≤ _; omega⟩ dL_law_154 (fun x_154 M_154 h_154 => ?_)
    have vm := vm_member v h_154
    refine zx_istore hc dL_law_157 (by decide) ?_
    refine zx_aload_n hc dL_law_159 rfl ?_
    refine zx_aload_n hc dL_law_160 rfl ?_
    refine zx_iload hc dL_law_161 rfl ?_
    refine zx_iconst hc (nI 1) dL_law_163 rfl ?_
    refine zx_iadd hc dL_law_164 ?_
    rw [nI_add]
    refine zl_sld hc hx dL_law_165 (by omega) hL ?_
    refine zx_aload_n hc dL_law_166 rfl ?_
    refine zx_iload hc dL_law_167 rfl ?_
    refine zx_iconst hc (nI 2) dL_law_169 rfl ?_
    refine zx_iadd hc dL_law_170 ?_
    rw [nI_add]
    refine zl_sld hc hx dL_law_171 (by omega) hL ?_
    refine zx_aload_n hc dL_law_172 rfl ?_
    refine zx_iload hc dL_law_173 rfl ?_
    refine zx_iconst hc (nI 3) dL_law_175 rfl ?_
    refine zx_iadd hc dL_law_176 ?_
    rw [nI_add]
    refine zl_sld hc hx dL_law_177 (by omega) hL ?_
    refine zx_aload_n hc dL_law_178 rfl ?_
    refine zx_iload hc dL_law_179 rfl ?_
    refine zx_iconst hc (nI 4) dL_law_181 rfl ?_
    refine zx_iadd hc dL_law_182 ?_
    rw [nI_add]
    refine zl_sld hc hx dL_law_183 (by omega) hL ?_
    refine zx_if_eq 191 hc dL_law_184 rfl (fun h_184 => ?_) (fun h_184 => ?_)
    · skip
      exact absurd h_184 h_145
    · skip
      refine zx_iconst hc 1 dL_law_187 rfl ?_
      refine zx_goto 192 hc dL_law_188 rfl ?_
      refine zx_cV4i hc gsL_80 zob_62 (cM_member_ l M_154 (xs (5 * i + 1)) (xs (5 * i + 2)) (xs (5 * i + 3)) 1 vm.2.2.1 (Or.inr rfl)) ⟨rfl, rfl⟩ ⟨Nat.le_of_ble_eq_true rfl, Nat.le_of_ble_eq_true rfl⟩ ⟨by have := hu.1; show u.1 + 3 ≤ _; omega, by have := hu.2; show u.2 + 18 ≤ _; omega⟩ dL_law_192 (fun x_192 M_192 h_192 => ?_)
      obtain ⟨hs1, hs2, hv⟩ := st_member v h_154 h_192
      refine zx_istore hc dL_law_195 (by decide) ?_
      refine zx_aload_n hc dL_law_197 rfl ?_
      refine zx_cV0i hc gsL_81 zob_62 (cM_thrown_ l M_192) ⟨rfl, rfl⟩ ⟨Nat.le_of_ble_eq_true rfl, Nat.le_of_ble_eq_true rfl⟩ ⟨by have := hu.1; show u.1 + 3 ≤ _; omega, by have := hu.2; show u.2 + 18 ≤ _; omega⟩ dL_law_198 (fun x_198 M_198 h_198 => ?_)
      obtain ⟨q_198, hm_198⟩ := h_198
      rw [hm_198, q_198]
      refine zx_iload hc dL_law_201 rfl ?_
      refine zx_icmp_eq 208 hc dL_law_203 rfl (fun h_203 => ?_) (fun h_203 => ?_)
      · skip
        refine zx_iload hc dL_law_208 rfl ?_
        refine zx_if_ne 225 hc dL_law_210 rfl (fun h_210 => ?_) (fun h_210 => ?_)
        · skip
          refine zx_goto 939 hc dL_law_225 rfl ?_
          refine zx_take 5 ?_
          exact zx_widen (u' := (u.1 + 4, u.2 + 24)) (by show u.1 + 3 ≤ u.1 + 4; omega) (by show u.2 + 18 ≤ u.2 + 24; omega) (next _ hv)
        · skip
          refine zx_aload_n hc dL_law_213 rfl ?_
          refine zx_iconst hc (nI 0) dL_law_214 rfl ?_
          refine zl_in hc dL_law_215 ?_
          refine zx_iload hc dL_law_216 rfl ?_
          refine zx_i2l hc dL_law_218 ?_
          refine zx_lcmp_eq 225 hc dL_law_219 dL_law_220 rfl (fun h_219 => ?_) (fun h_219 => ?_)
          · skip
            refine zx_goto 939 hc dL_law_225 rfl ?_
            refine zx_take 5 ?_
            exact zx_widen (u' := (u.1 + 4, u.2 + 24)) (by show u.1 + 3 ≤ u.1 + 4; omega) (by show u.2 + 18 ≤ u.2 + 24; omega) (next _ hv)
          · skip
            exact absurd (hs2 h_210) h_219
      · skip
        exact absurd hs1 h_203
