abbrev cX12_works : ByteArray := prog_14_method_121_code
def yX12_works : MethodName := ⟨RX12, "works", "(II)V"⟩
theorem dX12_works_0 : decode cX12_works 0 = .ok (.aload_n 0, 1) := by decide +kernel
theorem dX12_works_1 : decode cX12_works 1 = .ok (.getfield 24, 3) := by decide +kernel
theorem dX12_works_4 : decode cX12_works 4 = .ok (.iload_n 2, 1) := by decide +kernel
theorem dX12_works_5 : decode cX12_works 5 = .ok (.laload, 1) := by decide +kernel
theorem dX12_works_6 : decode cX12_works 6 = .ok (.lstore_n 3, 1) := by decide +kernel
theorem dX12_works_7 : decode cX12_works 7 = .ok (.aload_n 0, 1) := by decide +kernel
theorem dX12_works_8 : decode cX12_works 8 = .ok (.getfield 27, 3) := by decide +kernel
theorem dX12_works_11 : decode cX12_works 11 = .ok (.iload_n 2, 1) := by decide +kernel
theorem dX12_works_12 : decode cX12_works 12 = .ok (.iaload, 1) := by decide +kernel
theorem dX12_works_13 : decode cX12_works 13 = .ok (.istore 5, 2) := by decide +kernel
theorem dX12_works_15 : decode cX12_works 15 = .ok (.aload_n 0, 1) := by decide +kernel
theorem dX12_works_16 : decode cX12_works 16 = .ok (.getfield 57, 3) := by decide +kernel
theorem dX12_works_19 : decode cX12_works 19 = .ok (.iload_n 1, 1) := by decide +kernel
theorem dX12_works_20 : decode cX12_works 20 = .ok (.iaload, 1) := by decide +kernel
theorem dX12_works_21 : decode cX12_works 21 = .ok (.istore 6, 2) := by decide +kernel
theorem dX12_works_23 : decode cX12_works 23 = .ok (.aload_n 0, 1) := by decide +kernel
theorem dX12_works_24 : decode cX12_works 24 = .ok (.getfield 21, 3) := by decide +kernel
theorem dX12_works_27 : decode cX12_works 27 = .ok (.iload_n 2, 1) := by decide +kernel
theorem dX12_works_28 : decode cX12_works 28 = .ok (.iaload, 1) := by decide +kernel
theorem dX12_works_29 : decode cX12_works 29 = .ok (.tableswitch 436 22 33 #[63, 79, 151, 160, 191, 207, 249, 262, 299, 350, 368, 384], 63) := by decide +kernel
theorem dX12_works_92 : decode cX12_works 92 = .ok (.aload_n 0, 1) := by decide +kernel
theorem dX12_works_93 : decode cX12_works 93 = .ok (.invokevirtual 606, 3) := by decide +kernel
theorem dX12_works_96 : decode cX12_works 96 = .ok (.ifCond .eq 398, 3) := by decide +kernel
theorem dX12_works_99 : decode cX12_works 99 = .ok (.aload_n 0, 1) := by decide +kernel
theorem dX12_works_100 : decode cX12_works 100 = .ok (.iload 6, 2) := by decide +kernel
theorem dX12_works_102 : decode cX12_works 102 = .ok (.invokevirtual 723, 3) := by decide +kernel
theorem dX12_works_105 : decode cX12_works 105 = .ok (.goto 389, 3) := by decide +kernel
theorem dX12_works_108 : decode cX12_works 108 = .ok (.aload_n 0, 1) := by decide +kernel
theorem dX12_works_109 : decode cX12_works 109 = .ok (.dup, 1) := by decide +kernel
theorem dX12_works_110 : decode cX12_works 110 = .ok (.getfield 574, 3) := by decide +kernel
theorem dX12_works_113 : decode cX12_works 113 = .ok (.iconst 1, 1) := by decide +kernel
theorem dX12_works_114 : decode cX12_works 114 = .ok (.isub, 1) := by decide +kernel
theorem dX12_works_115 : decode cX12_works 115 = .ok (.putfield 574, 3) := by decide +kernel
theorem dX12_works_118 : decode cX12_works 118 = .ok (.aload_n 0, 1) := by decide +kernel
theorem dX12_works_119 : decode cX12_works 119 = .ok (.getfield 82, 3) := by decide +kernel
theorem dX12_works_122 : decode cX12_works 122 = .ok (.aload_n 0, 1) := by decide +kernel
theorem dX12_works_123 : decode cX12_works 123 = .ok (.getfield 574, 3) := by decide +kernel
theorem dX12_works_126 : decode cX12_works 126 = .ok (.baload, 1) := by decide +kernel
theorem dX12_works_127 : decode cX12_works 127 = .ok (.iconst 2, 1) := by decide +kernel
theorem dX12_works_128 : decode cX12_works 128 = .ok (.if_icmp .ne 28, 3) := by decide +kernel
theorem dX12_works_131 : decode cX12_works 131 = .ok (.aload_n 0, 1) := by decide +kernel
theorem dX12_works_132 : decode cX12_works 132 = .ok (.iload 6, 2) := by decide +kernel
theorem dX12_works_134 : decode cX12_works 134 = .ok (.aload_n 0, 1) := by decide +kernel
theorem dX12_works_135 : decode cX12_works 135 = .ok (.getfield 112, 3) := by decide +kernel
theorem dX12_works_138 : decode cX12_works 138 = .ok (.aload_n 0, 1) := by decide +kernel
theorem dX12_works_139 : decode cX12_works 139 = .ok (.getfield 85, 3) := by decide +kernel
theorem dX12_works_142 : decode cX12_works 142 = .ok (.aload_n 0, 1) := by decide +kernel
theorem dX12_works_143 : decode cX12_works 143 = .ok (.getfield 574, 3) := by decide +kernel
theorem dX12_works_146 : decode cX12_works 146 = .ok (.laload, 1) := by decide +kernel
theorem dX12_works_147 : decode cX12_works 147 = .ok (.l2i, 1) := by decide +kernel
theorem dX12_works_148 : decode cX12_works 148 = .ok (.iaload, 1) := by decide +kernel
theorem dX12_works_149 : decode cX12_works 149 = .ok (.i2l, 1) := by decide +kernel
theorem dX12_works_150 : decode cX12_works 150 = .ok (.invokevirtual 726, 3) := by decide +kernel
theorem dX12_works_153 : decode cX12_works 153 = .ok (.goto 341, 3) := by decide +kernel
theorem dX12_works_156 : decode cX12_works 156 = .ok (.aload_n 0, 1) := by decide +kernel
theorem dX12_works_157 : decode cX12_works 157 = .ok (.aload_n 0, 1) := by decide +kernel
theorem dX12_works_158 : decode cX12_works 158 = .ok (.getfield 82, 3) := by decide +kernel
theorem dX12_works_161 : decode cX12_works 161 = .ok (.aload_n 0, 1) := by decide +kernel
theorem dX12_works_162 : decode cX12_works 162 = .ok (.getfield 574, 3) := by decide +kernel
theorem dX12_works_165 : decode cX12_works 165 = .ok (.baload, 1) := by decide +kernel
theorem dX12_works_166 : decode cX12_works 166 = .ok (.ifCond .ne 7, 3) := by decide +kernel
theorem dX12_works_169 : decode cX12_works 169 = .ok (.iconst 3, 1) := by decide +kernel
theorem dX12_works_170 : decode cX12_works 170 = .ok (.goto 4, 3) := by decide +kernel
theorem dX12_works_173 : decode cX12_works 173 = .ok (.iconst 4, 1) := by decide +kernel
theorem dX12_works_174 : decode cX12_works 174 = .ok (.invokevirtual 678, 3) := by decide +kernel
theorem dX12_works_177 : decode cX12_works 177 = .ok (.goto 317, 3) := by decide +kernel
theorem dX12_works_180 : decode cX12_works 180 = .ok (.aload_n 0, 1) := by decide +kernel
theorem dX12_works_181 : decode cX12_works 181 = .ok (.iload 6, 2) := by decide +kernel
theorem dX12_works_183 : decode cX12_works 183 = .ok (.invokevirtual 729, 3) := by decide +kernel
theorem dX12_works_186 : decode cX12_works 186 = .ok (.goto 308, 3) := by decide +kernel
theorem dX12_works_189 : decode cX12_works 189 = .ok (.aload_n 0, 1) := by decide +kernel
theorem dX12_works_190 : decode cX12_works 190 = .ok (.invokevirtual 606, 3) := by decide +kernel
theorem dX12_works_193 : decode cX12_works 193 = .ok (.ifCond .eq 301, 3) := by decide +kernel
theorem dX12_works_196 : decode cX12_works 196 = .ok (.aload_n 0, 1) := by decide +kernel
theorem dX12_works_197 : decode cX12_works 197 = .ok (.iload 5, 2) := by decide +kernel
theorem dX12_works_199 : decode cX12_works 199 = .ok (.iconst 4, 1) := by decide +kernel
theorem dX12_works_200 : decode cX12_works 200 = .ok (.irem, 1) := by decide +kernel
theorem dX12_works_201 : decode cX12_works 201 = .ok (.aload_n 0, 1) := by decide +kernel
theorem dX12_works_202 : decode cX12_works 202 = .ok (.iload 5, 2) := by decide +kernel
theorem dX12_works_204 : decode cX12_works 204 = .ok (.iconst 4, 1) := by decide +kernel
theorem dX12_works_205 : decode cX12_works 205 = .ok (.irem, 1) := by decide +kernel
theorem dX12_works_206 : decode cX12_works 206 = .ok (.lload_n 3, 1) := by decide +kernel
theorem dX12_works_207 : decode cX12_works 207 = .ok (.invokevirtual 732, 3) := by decide +kernel
theorem dX12_works_210 : decode cX12_works 210 = .ok (.iload 5, 2) := by decide +kernel
theorem dX12_works_212 : decode cX12_works 212 = .ok (.iconst 4, 1) := by decide +kernel
theorem dX12_works_213 : decode cX12_works 213 = .ok (.idiv, 1) := by decide +kernel
theorem dX12_works_214 : decode cX12_works 214 = .ok (.invokevirtual 735, 3) := by decide +kernel
theorem dX12_works_217 : decode cX12_works 217 = .ok (.goto 277, 3) := by decide +kernel
theorem dX12_works_220 : decode cX12_works 220 = .ok (.aload_n 0, 1) := by decide +kernel
theorem dX12_works_221 : decode cX12_works 221 = .ok (.invokevirtual 606, 3) := by decide +kernel
theorem dX12_works_224 : decode cX12_works 224 = .ok (.ifCond .eq 270, 3) := by decide +kernel
theorem dX12_works_227 : decode cX12_works 227 = .ok (.aload_n 0, 1) := by decide +kernel
theorem dX12_works_228 : decode cX12_works 228 = .ok (.iload 5, 2) := by decide +kernel
theorem dX12_works_230 : decode cX12_works 230 = .ok (.invokevirtual 738, 3) := by decide +kernel
theorem dX12_works_233 : decode cX12_works 233 = .ok (.goto 261, 3) := by decide +kernel
theorem dX12_works_236 : decode cX12_works 236 = .ok (.aload_n 0, 1) := by decide +kernel
theorem dX12_works_237 : decode cX12_works 237 = .ok (.iload 5, 2) := by decide +kernel
theorem dX12_works_239 : decode cX12_works 239 = .ok (.lload_n 3, 1) := by decide +kernel
theorem dX12_works_240 : decode cX12_works 240 = .ok (.invokevirtual 732, 3) := by decide +kernel
theorem dX12_works_243 : decode cX12_works 243 = .ok (.istore 7, 2) := by decide +kernel
theorem dX12_works_245 : decode cX12_works 245 = .ok (.iload 7, 2) := by decide +kernel
theorem dX12_works_247 : decode cX12_works 247 = .ok (.iconst (-1), 1) := by decide +kernel
theorem dX12_works_248 : decode cX12_works 248 = .ok (.if_icmp .ne 11, 3) := by decide +kernel
theorem dX12_works_251 : decode cX12_works 251 = .ok (.aload_n 0, 1) := by decide +kernel
theorem dX12_works_252 : decode cX12_works 252 = .ok (.iconst 3, 1) := by decide +kernel
theorem dX12_works_253 : decode cX12_works 253 = .ok (.invokevirtual 678, 3) := by decide +kernel
theorem dX12_works_256 : decode cX12_works 256 = .ok (.goto 238, 3) := by decide +kernel
theorem dX12_works_259 : decode cX12_works 259 = .ok (.aload_n 0, 1) := by decide +kernel
theorem dX12_works_260 : decode cX12_works 260 = .ok (.iconst 3, 1) := by decide +kernel
theorem dX12_works_261 : decode cX12_works 261 = .ok (.ldc2_w 741, 3) := by decide +kernel
theorem dX12_works_264 : decode cX12_works 264 = .ok (.iload 5, 2) := by decide +kernel
theorem dX12_works_266 : decode cX12_works 266 = .ok (.i2l, 1) := by decide +kernel
theorem dX12_works_267 : decode cX12_works 267 = .ok (.lmul, 1) := by decide +kernel
theorem dX12_works_268 : decode cX12_works 268 = .ok (.iload 7, 2) := by decide +kernel
theorem dX12_works_270 : decode cX12_works 270 = .ok (.i2l, 1) := by decide +kernel
theorem dX12_works_271 : decode cX12_works 271 = .ok (.ladd, 1) := by decide +kernel
theorem dX12_works_272 : decode cX12_works 272 = .ok (.invokevirtual 577, 3) := by decide +kernel
theorem dX12_works_275 : decode cX12_works 275 = .ok (.goto 219, 3) := by decide +kernel
theorem dX12_works_278 : decode cX12_works 278 = .ok (.aload_n 0, 1) := by decide +kernel
theorem dX12_works_279 : decode cX12_works 279 = .ok (.iconst 1, 1) := by decide +kernel
theorem dX12_works_280 : decode cX12_works 280 = .ok (.aload_n 0, 1) := by decide +kernel
theorem dX12_works_281 : decode cX12_works 281 = .ok (.getfield 626, 3) := by decide +kernel
theorem dX12_works_284 : decode cX12_works 284 = .ok (.i2l, 1) := by decide +kernel
theorem dX12_works_285 : decode cX12_works 285 = .ok (.invokevirtual 577, 3) := by decide +kernel
theorem dX12_works_288 : decode cX12_works 288 = .ok (.goto 206, 3) := by decide +kernel
theorem dX12_works_291 : decode cX12_works 291 = .ok (.aload_n 0, 1) := by decide +kernel
theorem dX12_works_292 : decode cX12_works 292 = .ok (.dup, 1) := by decide +kernel
theorem dX12_works_293 : decode cX12_works 293 = .ok (.getfield 574, 3) := by decide +kernel
theorem dX12_works_296 : decode cX12_works 296 = .ok (.iconst 1, 1) := by decide +kernel
theorem dX12_works_297 : decode cX12_works 297 = .ok (.isub, 1) := by decide +kernel
theorem dX12_works_298 : decode cX12_works 298 = .ok (.putfield 574, 3) := by decide +kernel
theorem dX12_works_301 : decode cX12_works 301 = .ok (.aload_n 0, 1) := by decide +kernel
theorem dX12_works_302 : decode cX12_works 302 = .ok (.iload 5, 2) := by decide +kernel
theorem dX12_works_304 : decode cX12_works 304 = .ok (.aload_n 0, 1) := by decide +kernel
theorem dX12_works_305 : decode cX12_works 305 = .ok (.getfield 82, 3) := by decide +kernel
theorem dX12_works_308 : decode cX12_works 308 = .ok (.aload_n 0, 1) := by decide +kernel
theorem dX12_works_309 : decode cX12_works 309 = .ok (.getfield 574, 3) := by decide +kernel
theorem dX12_works_312 : decode cX12_works 312 = .ok (.baload, 1) := by decide +kernel
theorem dX12_works_313 : decode cX12_works 313 = .ok (.aload_n 0, 1) := by decide +kernel
theorem dX12_works_314 : decode cX12_works 314 = .ok (.getfield 85, 3) := by decide +kernel
theorem dX12_works_317 : decode cX12_works 317 = .ok (.aload_n 0, 1) := by decide +kernel
theorem dX12_works_318 : decode cX12_works 318 = .ok (.getfield 574, 3) := by decide +kernel
theorem dX12_works_321 : decode cX12_works 321 = .ok (.laload, 1) := by decide +kernel
theorem dX12_works_322 : decode cX12_works 322 = .ok (.invokevirtual 602, 3) := by decide +kernel
theorem dX12_works_325 : decode cX12_works 325 = .ok (.goto 169, 3) := by decide +kernel
theorem dX12_works_328 : decode cX12_works 328 = .ok (.aload_n 0, 1) := by decide +kernel
theorem dX12_works_329 : decode cX12_works 329 = .ok (.dup, 1) := by decide +kernel
theorem dX12_works_330 : decode cX12_works 330 = .ok (.getfield 574, 3) := by decide +kernel
theorem dX12_works_333 : decode cX12_works 333 = .ok (.iconst 1, 1) := by decide +kernel
theorem dX12_works_334 : decode cX12_works 334 = .ok (.isub, 1) := by decide +kernel
theorem dX12_works_335 : decode cX12_works 335 = .ok (.putfield 574, 3) := by decide +kernel
theorem dX12_works_338 : decode cX12_works 338 = .ok (.aload_n 0, 1) := by decide +kernel
theorem dX12_works_339 : decode cX12_works 339 = .ok (.iconst 1, 1) := by decide +kernel
theorem dX12_works_340 : decode cX12_works 340 = .ok (.aload_n 0, 1) := by decide +kernel
theorem dX12_works_341 : decode cX12_works 341 = .ok (.getfield 82, 3) := by decide +kernel
theorem dX12_works_344 : decode cX12_works 344 = .ok (.aload_n 0, 1) := by decide +kernel
theorem dX12_works_345 : decode cX12_works 345 = .ok (.getfield 574, 3) := by decide +kernel
theorem dX12_works_348 : decode cX12_works 348 = .ok (.baload, 1) := by decide +kernel
theorem dX12_works_349 : decode cX12_works 349 = .ok (.iconst 4, 1) := by decide +kernel
theorem dX12_works_350 : decode cX12_works 350 = .ok (.if_icmp .ne 22, 3) := by decide +kernel
theorem dX12_works_353 : decode cX12_works 353 = .ok (.aload_n 0, 1) := by decide +kernel
theorem dX12_works_354 : decode cX12_works 354 = .ok (.getfield 127, 3) := by decide +kernel
theorem dX12_works_357 : decode cX12_works 357 = .ok (.aload_n 0, 1) := by decide +kernel
theorem dX12_works_358 : decode cX12_works 358 = .ok (.getfield 85, 3) := by decide +kernel
theorem dX12_works_361 : decode cX12_works 361 = .ok (.aload_n 0, 1) := by decide +kernel
theorem dX12_works_362 : decode cX12_works 362 = .ok (.getfield 574, 3) := by decide +kernel
theorem dX12_works_365 : decode cX12_works 365 = .ok (.laload, 1) := by decide +kernel
theorem dX12_works_366 : decode cX12_works 366 = .ok (.l2i, 1) := by decide +kernel
theorem dX12_works_367 : decode cX12_works 367 = .ok (.iaload, 1) := by decide +kernel
theorem dX12_works_368 : decode cX12_works 368 = .ok (.i2l, 1) := by decide +kernel
theorem dX12_works_369 : decode cX12_works 369 = .ok (.goto 4, 3) := by decide +kernel
theorem dX12_works_372 : decode cX12_works 372 = .ok (.lconst 0, 1) := by decide +kernel
theorem dX12_works_373 : decode cX12_works 373 = .ok (.invokevirtual 577, 3) := by decide +kernel
theorem dX12_works_376 : decode cX12_works 376 = .ok (.goto 118, 3) := by decide +kernel
theorem dX12_works_379 : decode cX12_works 379 = .ok (.aload_n 0, 1) := by decide +kernel
theorem dX12_works_380 : decode cX12_works 380 = .ok (.invokevirtual 606, 3) := by decide +kernel
theorem dX12_works_383 : decode cX12_works 383 = .ok (.ifCond .eq 111, 3) := by decide +kernel
theorem dX12_works_386 : decode cX12_works 386 = .ok (.aload_n 0, 1) := by decide +kernel
theorem dX12_works_387 : decode cX12_works 387 = .ok (.iload 6, 2) := by decide +kernel
theorem dX12_works_389 : decode cX12_works 389 = .ok (.lload_n 3, 1) := by decide +kernel
theorem dX12_works_390 : decode cX12_works 390 = .ok (.l2i, 1) := by decide +kernel
theorem dX12_works_391 : decode cX12_works 391 = .ok (.invokevirtual 743, 3) := by decide +kernel
theorem dX12_works_394 : decode cX12_works 394 = .ok (.goto 100, 3) := by decide +kernel
theorem dX12_works_397 : decode cX12_works 397 = .ok (.aload_n 0, 1) := by decide +kernel
theorem dX12_works_398 : decode cX12_works 398 = .ok (.invokevirtual 606, 3) := by decide +kernel
theorem dX12_works_401 : decode cX12_works 401 = .ok (.ifCond .eq 93, 3) := by decide +kernel
theorem dX12_works_404 : decode cX12_works 404 = .ok (.aload_n 0, 1) := by decide +kernel
theorem dX12_works_405 : decode cX12_works 405 = .ok (.iload 6, 2) := by decide +kernel
theorem dX12_works_407 : decode cX12_works 407 = .ok (.invokevirtual 745, 3) := by decide +kernel
theorem dX12_works_410 : decode cX12_works 410 = .ok (.goto 84, 3) := by decide +kernel
theorem dX12_works_413 : decode cX12_works 413 = .ok (.aload_n 0, 1) := by decide +kernel
theorem dX12_works_414 : decode cX12_works 414 = .ok (.invokevirtual 690, 3) := by decide +kernel
theorem dX12_works_417 : decode cX12_works 417 = .ok (.iconst 4, 1) := by decide +kernel
theorem dX12_works_418 : decode cX12_works 418 = .ok (.if_icmp .ne 76, 3) := by decide +kernel
theorem dX12_works_421 : decode cX12_works 421 = .ok (.aload_n 0, 1) := by decide +kernel
theorem dX12_works_422 : decode cX12_works 422 = .ok (.getfield 85, 3) := by decide +kernel
theorem dX12_works_425 : decode cX12_works 425 = .ok (.aload_n 0, 1) := by decide +kernel
theorem dX12_works_426 : decode cX12_works 426 = .ok (.getfield 574, 3) := by decide +kernel
theorem dX12_works_429 : decode cX12_works 429 = .ok (.iconst 1, 1) := by decide +kernel
theorem dX12_works_430 : decode cX12_works 430 = .ok (.isub, 1) := by decide +kernel
theorem dX12_works_431 : decode cX12_works 431 = .ok (.laload, 1) := by decide +kernel
theorem dX12_works_432 : decode cX12_works 432 = .ok (.lstore 7, 2) := by decide +kernel
theorem dX12_works_434 : decode cX12_works 434 = .ok (.aload_n 0, 1) := by decide +kernel
theorem dX12_works_435 : decode cX12_works 435 = .ok (.dup, 1) := by decide +kernel
theorem dX12_works_436 : decode cX12_works 436 = .ok (.getfield 574, 3) := by decide +kernel
theorem dX12_works_439 : decode cX12_works 439 = .ok (.iload 5, 2) := by decide +kernel
theorem dX12_works_441 : decode cX12_works 441 = .ok (.iconst 1, 1) := by decide +kernel
theorem dX12_works_442 : decode cX12_works 442 = .ok (.iadd, 1) := by decide +kernel
theorem dX12_works_443 : decode cX12_works 443 = .ok (.isub, 1) := by decide +kernel
theorem dX12_works_444 : decode cX12_works 444 = .ok (.putfield 574, 3) := by decide +kernel
theorem dX12_works_447 : decode cX12_works 447 = .ok (.aload_n 0, 1) := by decide +kernel
theorem dX12_works_448 : decode cX12_works 448 = .ok (.iconst 4, 1) := by decide +kernel
theorem dX12_works_449 : decode cX12_works 449 = .ok (.lload 7, 2) := by decide +kernel
theorem dX12_works_451 : decode cX12_works 451 = .ok (.invokevirtual 577, 3) := by decide +kernel
theorem dX12_works_454 : decode cX12_works 454 = .ok (.aload_n 0, 1) := by decide +kernel
theorem dX12_works_455 : decode cX12_works 455 = .ok (.getfield 63, 3) := by decide +kernel
theorem dX12_works_458 : decode cX12_works 458 = .ok (.iload_n 1, 1) := by decide +kernel
theorem dX12_works_459 : decode cX12_works 459 = .ok (.lload_n 3, 1) := by decide +kernel
theorem dX12_works_460 : decode cX12_works 460 = .ok (.l2i, 1) := by decide +kernel
theorem dX12_works_461 : decode cX12_works 461 = .ok (.iastore, 1) := by decide +kernel
theorem dX12_works_462 : decode cX12_works 462 = .ok (.goto 32, 3) := by decide +kernel
theorem dX12_works_465 : decode cX12_works 465 = .ok (.aload_n 0, 1) := by decide +kernel
theorem dX12_works_466 : decode cX12_works 466 = .ok (.invokevirtual 690, 3) := by decide +kernel
theorem dX12_works_469 : decode cX12_works 469 = .ok (.iconst 4, 1) := by decide +kernel
theorem dX12_works_470 : decode cX12_works 470 = .ok (.if_icmp .ne 16, 3) := by decide +kernel
theorem dX12_works_473 : decode cX12_works 473 = .ok (.aload_n 0, 1) := by decide +kernel
theorem dX12_works_474 : decode cX12_works 474 = .ok (.dup, 1) := by decide +kernel
theorem dX12_works_475 : decode cX12_works 475 = .ok (.getfield 574, 3) := by decide +kernel
theorem dX12_works_478 : decode cX12_works 478 = .ok (.iconst 1, 1) := by decide +kernel
theorem dX12_works_479 : decode cX12_works 479 = .ok (.isub, 1) := by decide +kernel
theorem dX12_works_480 : decode cX12_works 480 = .ok (.putfield 574, 3) := by decide +kernel
theorem dX12_works_483 : decode cX12_works 483 = .ok (.goto 11, 3) := by decide +kernel
theorem dX12_works_486 : decode cX12_works 486 = .ok (.aload_n 0, 1) := by decide +kernel
theorem dX12_works_487 : decode cX12_works 487 = .ok (.getfield 63, 3) := by decide +kernel
theorem dX12_works_490 : decode cX12_works 490 = .ok (.iload_n 1, 1) := by decide +kernel
theorem dX12_works_491 : decode cX12_works 491 = .ok (.lload_n 3, 1) := by decide +kernel
theorem dX12_works_492 : decode cX12_works 492 = .ok (.l2i, 1) := by decide +kernel
theorem dX12_works_493 : decode cX12_works 493 = .ok (.iastore, 1) := by decide +kernel
theorem dX12_works_494 : decode cX12_works 494 = .ok (.return_, 1) := by decide +kernel
theorem td4n {x : Int} (h : 0 ≤ x ∧ x ≤ 400000) : 0 ≤ x.tdiv 4 ∧ 0 ≤ x.tmod 4 ∧ x.tmod 4 ≤ 3 := by
  have q := td4 h.1
  exact ⟨by omega, by omega, by omega⟩
set_option maxHeartbeats 4000000 in
set_option maxRecDepth 100000 in
theorem c_X12_works (ω : Om) (l : Launch) (μ : M3) (x2 : Int) (i : Int) (n : Int) (hx2 : ir x2) (hn : n = μ.1 111 47) (hMZ : MZ μ) (h1 : 1 ≤ n ∧ n ≤ 24) (h94 : μ.1 111 94 = 0) (hMI : MI μ n i x2) (hop : 22 ≤ μ.1 115 x2) : CtV ω l yX12_works cX12_works 9 185 5031 [.ref (oP ω 111), .int (iv (n - 1)), .int (iv x2)] μ (fun (μ' : M3) => (FrM [111, 129, 133, 134, 135, 136, 137, 138, 139, 140, 141, 142, 143, 149, 150, 151, 152, 153, 154, 155, 156, 157, 158, 159, 127, 128, 130, 131, 132, 144, 145, 146, 147] μ μ') ∧ (∀ j, j ∉ ([47, 48, 53, 61, 65, 68, 69, 81, 82, 83, 84, 89, 90, 91, 93, 94, 95, 96, 97, 98, 99] : List Int) → μ'.1 111 j = μ.1 111 j) ∧ (RES μ' (RK0 μ n i - 1))) := by
  refine CtV.go (by decide) (Nat.le_of_ble_eq_true rfl) (fun ρ p e s m below meth c R ls G hR hret hlk hl => ?_)
  have hx := G.1.1
  have hb := G.1.2.1
  have hl : lv_has ls 9 [(0, .ref (oP ω 111)), (1, .int (iv (n - 1))), (2, .int (iv x2))] := hl
  generalize s.drawn = d0 at G ⊢
  have hr_x2 : -2147483648 ≤ x2 ∧ x2 ≤ 2147483647 := hx2
  have hzn_ := hMZ.n
  rw [← hn] at hzn_
  obtain ⟨hz47, hzFB, hzFL, hz81, hz82, hz84, hz65, hz4, hz104⟩ := hzn_
  have hk0_ := hMI.k0
  have hfr_ := (hMZ.2.2.1 (n - 1) (by omega) (by omega)).1.1
  have hzB := FB_1 (μ := μ) (n := n) (by omega)
  have hzL := FL_1 (μ := μ) (n := n) (by omega)
  have hxk_ := hMI.2.2.1
  have hpc_ := hMI.2.2.2.2.2.1
  have hop34_ := hMI.low.2.2.2.2.2.2.2
  refine lv_aload_n hx hb dX12_works_0 rfl (lv_at hl 0 rfl) ?_
  refine xa_getr G fd_X12 (a := 111) (x := 116) 20 rfl (by decide) rfl (wm 7 169 rfl rfl) ⟨rfl, rfl, rfl⟩ dX12_works_1 rfl (G.sk 114 rfl) (by decide) rfl ?_
  refine lv_iload_n hx hb dX12_works_4 rfl (lv_at hl 2 rfl) ?_
  refine xa_lald G (a := 116) (i := x2) rfl (by have h9 := G.lc (a := 116) (n := 45000) 54 rfl; omega) dX12_works_5 rfl ?_
  have hj_1 : jr (μ.1 116 x2) := (by have h9 := G.hj (a := 116) (k := x2) rfl; exact h9)
  refine lv_lstore_n (lv' := [(3, .long (jv (μ.1 116 x2))), (0, .ref (oP ω 111)), (1, .int (iv (n - 1))), (2, .int (iv x2))]) hx hb dX12_works_6 rfl hl (by decide) rfl (fun ls hl => ?_)
  refine lv_aload_n hx hb dX12_works_7 rfl (lv_at hl 1 rfl) ?_
  refine xa_getr G fd_X12 (a := 111) (x := 117) 21 rfl (by decide) rfl (wm 7 170 rfl rfl) ⟨rfl, rfl, rfl⟩ dX12_works_8 rfl (G.sk 115 rfl) (by decide) rfl ?_
  refine lv_iload_n hx hb dX12_works_11 rfl (lv_at hl 3 rfl) ?_
  refine xa_iald G (a := 117) (i := x2) rfl (by have h9 := G.lc (a := 117) (n := 45000) 55 rfl; omega) dX12_works_12 rfl ?_
  have hr_2 : -2147483648 ≤ μ.1 117 x2 ∧ μ.1 117 x2 ≤ 2147483647 := by have h9 := G.hr (a := 117) (k := x2) rfl; exact h9
  refine lv_istore (lv' := [(5, .int (iv (μ.1 117 x2))), (3, .long (jv (μ.1 116 x2))), (0, .ref (oP ω 111)), (1, .int (iv (n - 1))), (2, .int (iv x2))]) hx hb dX12_works_13 hl (by decide) rfl (fun ls hl => ?_)
  refine lv_aload_n hx hb dX12_works_15 rfl (lv_at hl 2 rfl) ?_
  refine xa_getr G fd_X12 (a := 111) (x := 127) 41 rfl (by decide) rfl (wm 7 190 rfl rfl) ⟨rfl, rfl, rfl⟩ dX12_works_16 rfl (G.sk 125 rfl) (by decide) rfl ?_
  refine lv_iload_n hx hb dX12_works_19 rfl (lv_at hl 3 rfl) ?_
  refine xa_iald G (a := 127) (i := n - 1) rfl (by have h9 := G.lc (a := 127) (n := 26) 65 rfl; omega) dX12_works_20 rfl ?_
  have hr_3 : -2147483648 ≤ μ.1 127 (n - 1) ∧ μ.1 127 (n - 1) ≤ 2147483647 := by have h9 := G.hr (a := 127) (k := n - 1) rfl; exact h9
  refine lv_istore (lv' := [(6, .int (iv (μ.1 127 (n - 1)))), (5, .int (iv (μ.1 117 x2))), (3, .long (jv (μ.1 116 x2))), (0, .ref (oP ω 111)), (1, .int (iv (n - 1))), (2, .int (iv x2))]) hx hb dX12_works_21 hl (by decide) rfl (fun ls hl => ?_)
  refine lv_aload_n hx hb dX12_works_23 rfl (lv_at hl 3 rfl) ?_
  refine xa_getr G fd_X12 (a := 111) (x := 115) 19 rfl (by decide) rfl (wm 7 168 rfl rfl) ⟨rfl, rfl, rfl⟩ dX12_works_24 rfl (G.sk 113 rfl) (by decide) rfl ?_
  refine lv_iload_n hx hb dX12_works_27 rfl (lv_at hl 5 rfl) ?_
  refine xa_iald G (a := 115) (i := x2) rfl (by have h9 := G.lc (a := 115) (n := 45000) 53 rfl; omega) dX12_works_28 rfl ?_
  have hr_4 : -2147483648 ≤ μ.1 115 x2 ∧ μ.1 115 x2 ≤ 2147483647 := by have h9 := G.hr (a := 115) (k := x2) rfl; exact h9
  by_cases c_29_out : (μ.1 115 x2) < 22 ∨ 33 < (μ.1 115 x2)
  · refine xb_tout (tgt := 465) hx hb (by unfold ir; omega) dX12_works_29 c_29_out (by decide) ?_
    have ho : μ.1 115 x2 = 34 := by omega
    have hlw_ := hMI.low
    have hle_ := hlw_.2.2.2.2.2.2.1
    have hlo_ := hlw_.1 (by omega)
    clear hlw_
    have hfar_ := hMI.far (d := 0) (Or.inr (Or.inr ⟨ho, rfl⟩))
    refine lv_aload_n hx hb dX12_works_465 rfl (lv_at hl 3 rfl) ?_
    refine xc_iV G (b := 111) (rest := []) (As := []) (c_X12_top ω l μ (μ.1 111 53) (by omega) (by omega)) (wm 10 219 rfl rfl) (wm 10 221 rfl rfl) (wm 0 218 rfl rfl) rfl rfl (by decide) rfl (wm 1 18 rfl rfl) (wm 10 222 rfl rfl) (by decide) hR (by decide) (n := 0) rfl rfl (Nat.le_of_ble_eq_true rfl) hl.1 dX12_works_466 (fun r_6 μ5 ρ d0 H locs hr_r_6 hp G => ?_)
    have hr_r_6 : -2147483648 ≤ r_6 ∧ r_6 ≤ 2147483647 := hr_r_6
    obtain ⟨hsm_7, hp_8⟩ := hp
    have hsm_7 := Eq.symm hsm_7
    subst hsm_7
    refine xb_ti (y := μ.1 135 ((μ.1 111 53) - 1)) hp_8 ?_
    have hr_9 : -2147483648 ≤ μ.1 135 ((μ.1 111 53) - 1) ∧ μ.1 135 ((μ.1 111 53) - 1) ≤ 2147483647 := by omega
    refine lv_iconst (v := iv 4) hx hb dX12_works_469 rfl ?_
    refine xb_icmp_ne (tgt := 486) hx hb (by unfold ir; omega) (by unfold ir; omega) dX12_works_470 (by decide) (fun c_470 => ?_) (fun c_470 => ?_)
    · refine lv_aload_n hx hb dX12_works_486 rfl (lv_at hl 3 rfl) ?_
      refine xa_getr G fd_X12 (a := 111) (x := 129) 43 rfl (by decide) rfl (wm 7 192 rfl rfl) ⟨rfl, rfl, rfl⟩ dX12_works_487 rfl (G.sk 127 rfl) (by decide) rfl ?_
      refine lv_iload_n hx hb dX12_works_490 rfl (lv_at hl 4 rfl) ?_
      refine lv_lload_n hx hb dX12_works_491 rfl (lv_at hl 2 rfl) ?_
      refine xb_l2i hx hb dX12_works_492 ?_
      refine xb_topi (fun y_10 hr_y_10 he_y_10 => ?_)
      have hr_y_10 : -2147483648 ≤ y_10 ∧ y_10 ≤ 2147483647 := hr_y_10
      have hli_y_10 : ir (μ.1 116 x2) → y_10 = μ.1 116 x2 := fun h9 => (iv_eq hr_y_10 h9).mp he_y_10
      unfold ir at hli_y_10
      refine xb_ti (y := μ.1 116 x2) (hli_y_10 (by omega)) ?_
      have hr_11 : -2147483648 ≤ μ.1 116 x2 ∧ μ.1 116 x2 ≤ 2147483647 := by omega
      refine xa_iast G (a := 129) (i := n - 1) (x := μ.1 116 x2) rfl (by have h9 := G.lc (a := 129) (n := 26) 67 rfl; omega) (by unfold ir; omega) dX12_works_493 rfl (fun H locs G => ?_)
      have e_12 : (sv μ 129 (n - 1) (μ.1 116 x2)).1 111 83 = μ.1 111 83 := (sv_n _ (fun h9 => absurd h9.1 (by decide)))
      have hrx_13 := RX.eq (μ := μ) (ν := (sv μ 129 (n - 1) (μ.1 116 x2))) (Eqa.fr (L := [129]) (FrM.put FrM.rf (by decide)) (by decide)) (Eqf.fd (L := []) (fun j hj => (sv_n _ (fun h9 => absurd h9.1 (by decide)))) (by decide))
      have hMZ_14 : MZ (sv μ 129 (n - 1) (μ.1 116 x2)) := MZ.pc hMZ (by rw [show μ.1 111 47 = n from hn.symm])
      exact xr_v G hret hlk dX12_works_494 ⟨(FrM.put FrM.rf (by decide)), (fun j hj => (sv_n _ (fun h9 => absurd h9.1 (by decide)))), (hMI.go (x := μ.1 116 x2) (S := μ.1 111 53 - 0) (bl := μ.1 111 61) hMZ_14 hfar_.1 (Eqa.fr (L := [129]) (FrM.put FrM.rf (by decide)) (by decide)) (Eqf.fd (L := []) (fun j hj => (sv_n _ (fun h9 => absurd h9.1 (by decide)))) (by decide)) (by have h9 : (sv μ 129 (n - 1) (μ.1 116 x2)).1 129 (n - 1) = μ.1 116 x2 := (sv_s _ _ _ _); omega) (by have h9 : (sv μ 129 (n - 1) (μ.1 116 x2)).1 111 53 = μ.1 111 53 := (sv_n _ (fun h9 => absurd h9.1 (by decide))); omega) (by have h9 : (sv μ 129 (n - 1) (μ.1 116 x2)).1 111 61 = μ.1 111 61 := (sv_n _ (fun h9 => absurd h9.1 (by decide))); omega) (by omega))⟩
    · refine lv_aload_n hx hb dX12_works_473 rfl (lv_at hl 3 rfl) ?_
      refine lv_dup hx hb dX12_works_474 rfl ?_
      refine xa_geti G fd_X12 (a := 111) (x := μ.1 111 53) 53 rfl (by decide) rfl (wm 7 202 rfl rfl) ⟨rfl, rfl, rfl⟩ dX12_works_475 rfl rfl ?_
      have hr_15 : -2147483648 ≤ μ.1 111 53 ∧ μ.1 111 53 ≤ 2147483647 := by have h9 := G.hr (a := 111) (k := 53) rfl; exact h9
      refine lv_iconst (v := iv 1) hx hb dX12_works_478 rfl ?_
      refine xb_isub hx hb dX12_works_479 ?_
      refine xa_puti G fd_X12 (a := 111) (x := (μ.1 111 53) - 1) 53 (kz := 53) rfl rfl (by decide) rfl (by unfold ir; omega) (wm 7 202 rfl rfl) ⟨rfl, rfl, rfl, rfl⟩ rfl dX12_works_480 rfl (fun H locs G => ?_)
      refine lv_goto (tgt := 494) hx hb dX12_works_483 (by decide) ?_
      have e_16 : (sv μ 111 53 ((μ.1 111 53) - 1)).1 111 83 = μ.1 111 83 := (sv_n _ (by decide))
      have hrx_17 := RX.eq (μ := μ) (ν := (sv μ 111 53 ((μ.1 111 53) - 1))) (Eqa.fr (L := [111]) (FrM.put FrM.rf (by decide)) (by decide)) (Eqf.fd (L := [53]) (fun j hj => (sv_n _ (fun h9 => hj (by rw [h9.2]; decide)))) (by decide))
      have hMZ_18 : MZ (sv μ 111 53 ((μ.1 111 53) - 1)) := MZ.mn1 hMZ (n := n) (s := μ.1 131 (n - 1)) (hn.symm) (by have h9 : μ.1 131 (n - 1) = μ.1 131 (n - 1) := rfl; exact h9) (by omega) (by have h9 : μ.1 111 53 = μ.1 111 53 := rfl; omega)
      exact xr_v G hret hlk dX12_works_494 ⟨(FrM.put FrM.rf (by decide)), (fun j hj => (sv_n _ (fun h9 => hj (by rw [h9.2]; decide)))), (hMI.go (x := i + 1) (S := μ.1 111 53 + (-1)) (bl := μ.1 111 61) hMZ_18 ⟨(hMI.nx (e := -1) (by rw [ho]; unfold nxo; decide) (by rw [ho]; rfl)).1, (hMI.nx (e := -1) (by rw [ho]; unfold nxo; decide) (by rw [ho]; rfl)).2.trans (cem_n (by rw [ho]; unfold nxo; decide) (by rw [ho]; decide))⟩ (Eqa.fr (L := [111]) (FrM.put FrM.rf (by decide)) (by decide)) (Eqf.fd (L := [53]) (fun j hj => (sv_n _ (fun h9 => hj (by rw [h9.2]; decide)))) (by decide)) (by have h9 : (sv μ 111 53 ((μ.1 111 53) - 1)).1 129 (n - 1) = μ.1 129 (n - 1) := (sv_n _ (fun h9 => absurd h9.1 (by decide))); have h8 := hMI.2.2.2.2.2.1; omega) (by have h9 : (sv μ 111 53 ((μ.1 111 53) - 1)).1 111 53 = (μ.1 111 53) - 1 := (sv_s _ _ _ _); omega) (by have h9 : (sv μ 111 53 ((μ.1 111 53) - 1)).1 111 61 = μ.1 111 61 := (sv_n _ (by decide)); omega) (by omega))⟩
  by_cases c_29_22 : (μ.1 115 x2) = 22
  · refine xb_tin (tgt := 92) hx hb (by unfold ir; omega) dX12_works_29 (by omega) (off := 63) (by rw [c_29_22]; rfl) (by decide) ?_
    have ho : μ.1 115 x2 = 22 := by omega
    have hlw_ := hMI.low
    have hle_ := hlw_.2.2.2.2.2.2.1
    have hlo_ := hlw_.1 (by omega)
    clear hlw_
    refine lv_aload_n hx hb dX12_works_92 rfl (lv_at hl 3 rfl) ?_
    refine xc_iV G (b := 111) (rest := []) (As := []) (c_X12_step ω l μ (μ.1 111 83) (by omega) hMZ) (wm 10 122 rfl rfl) (wm 10 124 rfl rfl) (wm 0 194 rfl rfl) rfl rfl (by decide) rfl (wm 1 18 rfl rfl) (wm 10 125 rfl rfl) (by decide) hR (by decide) (n := 0) rfl rfl (Nat.le_of_ble_eq_true rfl) hl.1 dX12_works_93 (fun r_20 μ19 ρ d0 H locs hr_r_20 hp G => ?_)
    have hr_r_20 : -2147483648 ≤ r_20 ∧ r_20 ≤ 2147483647 := hr_r_20
    obtain ⟨F_21, hp_22, hp_23, hp_24⟩ := hp
    refine xb_if_eq (tgt := 494) hx hb (by unfold ir; omega) dX12_works_96 (by decide) (fun c_96 => ?_) (fun c_96 => ?_)
    · exact xr_v G hret hlk dX12_works_494 ⟨(FrM.tr FrM.rf F_21 (by decide)), (fun j hj => (hp_22 j (fun h9 => hj ((by decide : ∀ x ∈ ([83, 84, 93, 94] : List Int), x ∈ ([47, 48, 53, 61, 65, 68, 69, 81, 82, 83, 84, 89, 90, 91, 93, 94, 95, 96, 97, 98, 99] : List Int)) j h9)))), (RES.ov hp_23 (by omega))⟩
    · refine lv_aload_n hx hb dX12_works_99 rfl (lv_at hl 3 rfl) ?_
      refine lv_iload hx hb dX12_works_100 (lv_at hl 0 rfl) ?_
      have e_25 : μ19.1 111 53 = μ.1 111 53 := (hp_22 53 (by decide))
      have e_26 : μ19.1 131 (n - 1) = μ.1 131 (n - 1) := (F_21.1 131 (by decide) (n - 1))
      have hrx_27 := RX.eq (μ := μ) (ν := μ19) (Eqa.fr (L := [111]) (FrM.tr FrM.rf F_21 (by decide)) (by decide)) (Eqf.fd (L := [83, 84, 93, 94]) (fun j hj => (hp_22 j (fun h9 => hj ((by decide : ∀ x ∈ ([83, 84, 93, 94] : List Int), x ∈ ([83, 84, 93, 94] : List Int)) j h9)))) (by decide))
      have e_28 : μ19.1 111 47 = n := ((hp_22 47 (by decide)).trans hn.symm)
      have e_29 : μ19.1 131 (n - 1) = μ.1 131 (n - 1) := (F_21.1 131 (by decide) (n - 1))
      have e_30 : μ19.1 111 53 = μ.1 111 53 := (hp_22 53 (by decide))
      refine xc_vV G (b := 111) (rest := []) (As := [.int (iv (μ.1 127 (n - 1)))]) (c_X12_makes ω l μ19 (μ.1 127 (n - 1)) n (by unfold ir; omega) (by omega) hp_23 (by omega) (by omega) (by have h9 : μ19.1 127 (n - 1) = μ.1 127 (n - 1) := (F_21.1 127 (by decide) (n - 1)); omega) (TQ.mv (hMI.tq (e := 0) (by rw [ho]; unfold nxo; decide) (by rw [ho]; decide) (by rw [ho]; rfl)) (Eqa.fr (L := [111]) (FrM.tr FrM.rf F_21 (by decide)) (by decide)) (Eqf.fd (L := [83, 84, 93, 94]) (fun j hj => (hp_22 j (fun h9 => hj ((by decide : ∀ x ∈ ([83, 84, 93, 94] : List Int), x ∈ ([83, 84, 93, 94] : List Int)) j h9)))) (by decide)) (by have h9 : μ19.1 111 53 = μ.1 111 53 := (hp_22 53 (by decide)); omega)) (by omega)) (wm 11 3 rfl rfl) (wm 11 5 rfl rfl) (wm 0 224 rfl rfl) rfl rfl (by decide) rfl (wm 1 18 rfl rfl) (wm 11 6 rfl rfl) (by decide) hR (by decide) (n := 1) rfl rfl (Nat.le_of_ble_eq_true rfl) hl.1 dX12_works_102 (fun μ31 ρ d0 H locs hp G => ?_)
      obtain ⟨F_32, hp_33, hp_34⟩ := hp
      refine lv_goto (tgt := 494) hx hb dX12_works_105 (by decide) ?_
      exact xr_v G hret hlk dX12_works_494 ⟨(FrM.tr (FrM.tr FrM.rf F_21 (by decide)) F_32 (by decide)), (fun j hj => ((hp_33 j (fun h9 => hj ((by decide : ∀ x ∈ ([47, 53, 61, 81, 82, 83, 84, 90, 91, 93, 94, 95, 96, 97, 98, 99, 65, 68, 69] : List Int), x ∈ ([47, 48, 53, 61, 65, 68, 69, 81, 82, 83, 84, 89, 90, 91, 93, 94, 95, 96, 97, 98, 99] : List Int)) j h9))).trans (hp_22 j (fun h9 => hj ((by decide : ∀ x ∈ ([83, 84, 93, 94] : List Int), x ∈ ([47, 48, 53, 61, 65, 68, 69, 81, 82, 83, 84, 89, 90, 91, 93, 94, 95, 96, 97, 98, 99] : List Int)) j h9))))), (hp_34.le (by omega))⟩
  by_cases c_29_23 : (μ.1 115 x2) = 23
  · refine xb_tin (tgt := 108) hx hb (by unfold ir; omega) dX12_works_29 (by omega) (off := 79) (by rw [c_29_23]; rfl) (by decide) ?_
    have ho : μ.1 115 x2 = 23 := by omega
    have hlw_ := hMI.low
    have hle_ := hlw_.2.2.2.2.2.2.1
    have hlo_ := hlw_.1 (by omega)
    clear hlw_
    have hs1_ := hMZ.stv (μ.1 111 53 - 1) (by omega) (by omega)
    have hs1r_ := hs1_.1
    refine lv_aload_n hx hb dX12_works_108 rfl (lv_at hl 3 rfl) ?_
    refine lv_dup hx hb dX12_works_109 rfl ?_
    refine xa_geti G fd_X12 (a := 111) (x := μ.1 111 53) 53 rfl (by decide) rfl (wm 7 202 rfl rfl) ⟨rfl, rfl, rfl⟩ dX12_works_110 rfl rfl ?_
    have hr_35 : -2147483648 ≤ μ.1 111 53 ∧ μ.1 111 53 ≤ 2147483647 := by have h9 := G.hr (a := 111) (k := 53) rfl; exact h9
    refine lv_iconst (v := iv 1) hx hb dX12_works_113 rfl ?_
    refine xb_isub hx hb dX12_works_114 ?_
    refine xa_puti G fd_X12 (a := 111) (x := (μ.1 111 53) - 1) 53 (kz := 53) rfl rfl (by decide) rfl (by unfold ir; omega) (wm 7 202 rfl rfl) ⟨rfl, rfl, rfl, rfl⟩ rfl dX12_works_115 rfl (fun H locs G => ?_)
    refine lv_aload_n hx hb dX12_works_118 rfl (lv_at hl 3 rfl) ?_
    refine xa_getr G fd_X12 (a := 111) (x := 135) 51 rfl (by decide) rfl (wm 7 200 rfl rfl) ⟨rfl, rfl, rfl⟩ dX12_works_119 rfl (G.sk 133 rfl) (by decide) rfl ?_
    refine lv_aload_n hx hb dX12_works_122 rfl (lv_at hl 3 rfl) ?_
    refine xa_geti G fd_X12 (a := 111) (x := (μ.1 111 53) - 1) 53 rfl (by decide) rfl (wm 7 202 rfl rfl) ⟨rfl, rfl, rfl⟩ dX12_works_123 rfl (sv_s _ _ _ _) ?_
    have hr_36 : -2147483648 ≤ (μ.1 111 53) - 1 ∧ (μ.1 111 53) - 1 ≤ 2147483647 := by have h9 := G.hr (a := 111) (k := 53) rfl; rw [show (sv μ 111 53 ((μ.1 111 53) - 1)).1 111 53 = (μ.1 111 53) - 1 from (sv_s _ _ _ _)] at h9; exact h9
    refine xa_bald G (a := 135) (i := (μ.1 111 53) - 1) rfl (by have h9 := G.lc (a := 135) (n := 9000) 73 rfl; omega) dX12_works_126 rfl ?_
    refine xb_ti (y := μ.1 135 (μ.1 111 53 - 1)) (sv_n _ (fun h9 => absurd h9.1 (by decide))) ?_
    have hr_37 : -2147483648 ≤ μ.1 135 (μ.1 111 53 - 1) ∧ μ.1 135 (μ.1 111 53 - 1) ≤ 2147483647 := by have h9 := G.hr3 (a := 135) (k := (μ.1 111 53) - 1) rfl; rw [(sv_n _ (fun h9 => absurd h9.1 (by decide)))] at h9; exact h9
    refine lv_iconst (v := iv 2) hx hb dX12_works_127 rfl ?_
    refine xb_icmp_ne (tgt := 156) hx hb (by unfold ir; omega) (by unfold ir; omega) dX12_works_128 (by decide) (fun c_128 => ?_) (fun c_128 => ?_)
    · refine lv_aload_n hx hb dX12_works_156 rfl (lv_at hl 3 rfl) ?_
      refine lv_aload_n hx hb dX12_works_157 rfl (lv_at hl 3 rfl) ?_
      refine xa_getr G fd_X12 (a := 111) (x := 135) 51 rfl (by decide) rfl (wm 7 200 rfl rfl) ⟨rfl, rfl, rfl⟩ dX12_works_158 rfl (G.sk 133 rfl) (by decide) rfl ?_
      refine lv_aload_n hx hb dX12_works_161 rfl (lv_at hl 3 rfl) ?_
      refine xa_geti G fd_X12 (a := 111) (x := (μ.1 111 53) - 1) 53 rfl (by decide) rfl (wm 7 202 rfl rfl) ⟨rfl, rfl, rfl⟩ dX12_works_162 rfl (sv_s _ _ _ _) ?_
      refine xa_bald G (a := 135) (i := (μ.1 111 53) - 1) rfl (by have h9 := G.lc (a := 135) (n := 9000) 73 rfl; omega) dX12_works_165 rfl ?_
      refine xb_ti (y := μ.1 135 (μ.1 111 53 - 1)) (sv_n _ (fun h9 => absurd h9.1 (by decide))) ?_
      refine xb_if_ne (tgt := 173) hx hb (by unfold ir; omega) dX12_works_166 (by decide) (fun c_166 => ?_) (fun c_166 => ?_)
      · refine lv_iconst (v := iv 4) hx hb dX12_works_173 rfl ?_
        have hA1_38 : A1 (sv μ 111 53 ((μ.1 111 53) - 1)) := TQ.a1 (hMI.tq (e := 0) (by rw [ho]; unfold nxo; decide) (by rw [ho]; decide) (by rw [ho]; rfl)) (Eqa.fr (L := [111]) (FrM.put FrM.rf (by decide)) (by decide)) (Eqf.fd (L := [53]) (fun j hj => (sv_n _ (fun h9 => hj (by rw [h9.2]; decide)))) (by decide)) (by have h9 : (sv μ 111 53 ((μ.1 111 53) - 1)).1 111 53 = (μ.1 111 53) - 1 := (sv_s _ _ _ _); omega)
        have e_39 : (sv μ 111 53 ((μ.1 111 53) - 1)).1 111 4 = μ.1 111 4 := (sv_n _ (by decide))
        have e_40 : (sv μ 111 53 ((μ.1 111 53) - 1)).1 111 83 = μ.1 111 83 := (sv_n _ (by decide))
        have hrx_41 := RX.eq (μ := μ) (ν := (sv μ 111 53 ((μ.1 111 53) - 1))) (Eqa.fr (L := [111]) (FrM.put FrM.rf (by decide)) (by decide)) (Eqf.fd (L := [53]) (fun j hj => (sv_n _ (fun h9 => hj (by rw [h9.2]; decide)))) (by decide))
        have e_42 : (sv μ 111 53 ((μ.1 111 53) - 1)).1 111 94 = μ.1 111 94 := (sv_n _ (by decide))
        have e_43 : (sv μ 111 53 ((μ.1 111 53) - 1)).1 111 47 = n := ((sv_n _ (by decide)).trans hn.symm)
        have hMZ_44 : MZ (sv μ 111 53 ((μ.1 111 53) - 1)) := MZ.mn1 hMZ (n := n) (s := μ.1 131 (n - 1)) (hn.symm) (by have h9 : μ.1 131 (n - 1) = μ.1 131 (n - 1) := rfl; exact h9) (by omega) (by have h9 : μ.1 111 53 = μ.1 111 53 := rfl; omega)
        have e_45 : (sv μ 111 53 ((μ.1 111 53) - 1)).1 111 94 = μ.1 111 94 := (sv_n _ (by decide))
        refine xc_vV G (b := 111) (rest := []) (As := [.int (iv 4)]) (c_X12_arises_a ω l (sv μ 111 53 ((μ.1 111 53) - 1)) 4 n (by unfold ir; omega) (by omega) hMZ_44 (by omega) (by omega) (fun _ => by omega) (fun _ => hA1_38)) (wm 10 199 rfl rfl) (wm 10 201 rfl rfl) (wm 0 213 rfl rfl) rfl rfl (by decide) rfl (wm 1 18 rfl rfl) (wm 10 202 rfl rfl) (by decide) hR (by decide) (n := 1) rfl rfl (Nat.le_of_ble_eq_true rfl) hl.1 dX12_works_174 (fun μ46 ρ d0 H locs hp G => ?_)
        obtain ⟨F_47, hp_48, hp_49⟩ := hp
        refine lv_goto (tgt := 494) hx hb dX12_works_177 (by decide) ?_
        exact xr_v G hret hlk dX12_works_494 ⟨(FrM.tr (FrM.put FrM.rf (by decide)) F_47 (by decide)), (fun j hj => ((hp_48 j (fun h9 => hj ((by decide : ∀ x ∈ ([47, 53, 61, 81, 82, 83, 84, 90, 91, 93, 94, 95, 96, 97, 98, 99] : List Int), x ∈ ([47, 48, 53, 61, 65, 68, 69, 81, 82, 83, 84, 89, 90, 91, 93, 94, 95, 96, 97, 98, 99] : List Int)) j h9))).trans (sv_n _ (fun h9 => hj (by rw [h9.2]; decide))))), (hp_49.le (by omega))⟩
      · refine lv_iconst (v := iv 3) hx hb dX12_works_169 rfl ?_
        refine lv_goto (tgt := 174) hx hb dX12_works_170 (by decide) ?_
        have hA1_50 : A1 (sv μ 111 53 ((μ.1 111 53) - 1)) := TQ.a1 (hMI.tq (e := 0) (by rw [ho]; unfold nxo; decide) (by rw [ho]; decide) (by rw [ho]; rfl)) (Eqa.fr (L := [111]) (FrM.put FrM.rf (by decide)) (by decide)) (Eqf.fd (L := [53]) (fun j hj => (sv_n _ (fun h9 => hj (by rw [h9.2]; decide)))) (by decide)) (by have h9 : (sv μ 111 53 ((μ.1 111 53) - 1)).1 111 53 = (μ.1 111 53) - 1 := (sv_s _ _ _ _); omega)
        have e_51 : (sv μ 111 53 ((μ.1 111 53) - 1)).1 111 4 = μ.1 111 4 := (sv_n _ (by decide))
        have e_52 : (sv μ 111 53 ((μ.1 111 53) - 1)).1 111 83 = μ.1 111 83 := (sv_n _ (by decide))
        have hrx_53 := RX.eq (μ := μ) (ν := (sv μ 111 53 ((μ.1 111 53) - 1))) (Eqa.fr (L := [111]) (FrM.put FrM.rf (by decide)) (by decide)) (Eqf.fd (L := [53]) (fun j hj => (sv_n _ (fun h9 => hj (by rw [h9.2]; decide)))) (by decide))
        have e_54 : (sv μ 111 53 ((μ.1 111 53) - 1)).1 111 94 = μ.1 111 94 := (sv_n _ (by decide))
        have e_55 : (sv μ 111 53 ((μ.1 111 53) - 1)).1 111 47 = n := ((sv_n _ (by decide)).trans hn.symm)
        have hMZ_56 : MZ (sv μ 111 53 ((μ.1 111 53) - 1)) := MZ.mn1 hMZ (n := n) (s := μ.1 131 (n - 1)) (hn.symm) (by have h9 : μ.1 131 (n - 1) = μ.1 131 (n - 1) := rfl; exact h9) (by omega) (by have h9 : μ.1 111 53 = μ.1 111 53 := rfl; omega)
        have e_57 : (sv μ 111 53 ((μ.1 111 53) - 1)).1 111 94 = μ.1 111 94 := (sv_n _ (by decide))
        refine xc_vV G (b := 111) (rest := []) (As := [.int (iv 3)]) (c_X12_arises_a ω l (sv μ 111 53 ((μ.1 111 53) - 1)) 3 n (by unfold ir; omega) (by omega) hMZ_56 (by omega) (by omega) (fun _ => by omega) (fun _ => hA1_50)) (wm 10 199 rfl rfl) (wm 10 201 rfl rfl) (wm 0 213 rfl rfl) rfl rfl (by decide) rfl (wm 1 18 rfl rfl) (wm 10 202 rfl rfl) (by decide) hR (by decide) (n := 1) rfl rfl (Nat.le_of_ble_eq_true rfl) hl.1 dX12_works_174 (fun μ58 ρ d0 H locs hp G => ?_)
        obtain ⟨F_59, hp_60, hp_61⟩ := hp
        refine lv_goto (tgt := 494) hx hb dX12_works_177 (by decide) ?_
        exact xr_v G hret hlk dX12_works_494 ⟨(FrM.tr (FrM.put FrM.rf (by decide)) F_59 (by decide)), (fun j hj => ((hp_60 j (fun h9 => hj ((by decide : ∀ x ∈ ([47, 53, 61, 81, 82, 83, 84, 90, 91, 93, 94, 95, 96, 97, 98, 99] : List Int), x ∈ ([47, 48, 53, 61, 65, 68, 69, 81, 82, 83, 84, 89, 90, 91, 93, 94, 95, 96, 97, 98, 99] : List Int)) j h9))).trans (sv_n _ (fun h9 => hj (by rw [h9.2]; decide))))), (hp_61.le (by omega))⟩
    · have ha2_ := hs1_.2.1 (by omega)
      have har_ := hMZ.ar _ ha2_.1 ha2_.2
      refine lv_aload_n hx hb dX12_works_131 rfl (lv_at hl 3 rfl) ?_
      refine lv_iload hx hb dX12_works_132 (lv_at hl 0 rfl) ?_
      refine lv_aload_n hx hb dX12_works_134 rfl (lv_at hl 3 rfl) ?_
      refine xa_getr G fd_X12 (a := 111) (x := 145) 63 rfl (by decide) rfl (wm 7 212 rfl rfl) ⟨rfl, rfl, rfl⟩ dX12_works_135 rfl (G.sk 143 rfl) (by decide) rfl ?_
      refine lv_aload_n hx hb dX12_works_138 rfl (lv_at hl 3 rfl) ?_
      refine xa_getr G fd_X12 (a := 111) (x := 136) 52 rfl (by decide) rfl (wm 7 201 rfl rfl) ⟨rfl, rfl, rfl⟩ dX12_works_139 rfl (G.sk 134 rfl) (by decide) rfl ?_
      refine lv_aload_n hx hb dX12_works_142 rfl (lv_at hl 3 rfl) ?_
      refine xa_geti G fd_X12 (a := 111) (x := (μ.1 111 53) - 1) 53 rfl (by decide) rfl (wm 7 202 rfl rfl) ⟨rfl, rfl, rfl⟩ dX12_works_143 rfl (sv_s _ _ _ _) ?_
      refine xa_lald G (a := 136) (i := (μ.1 111 53) - 1) rfl (by have h9 := G.lc (a := 136) (n := 9000) 74 rfl; omega) dX12_works_146 rfl ?_
      refine xb_tl (y := μ.1 136 (μ.1 111 53 - 1)) (sv_n _ (fun h9 => absurd h9.1 (by decide))) ?_
      have hj_62 : jr (μ.1 136 (μ.1 111 53 - 1)) := (by have h9 := G.hj (a := 136) (k := (μ.1 111 53) - 1) rfl; rw [(sv_n _ (fun h9 => absurd h9.1 (by decide)))] at h9; exact h9)
      refine xb_l2i hx hb dX12_works_147 ?_
      refine xb_topi (fun y_63 hr_y_63 he_y_63 => ?_)
      have hr_y_63 : -2147483648 ≤ y_63 ∧ y_63 ≤ 2147483647 := hr_y_63
      have hli_y_63 : ir (μ.1 136 (μ.1 111 53 - 1)) → y_63 = μ.1 136 (μ.1 111 53 - 1) := fun h9 => (iv_eq hr_y_63 h9).mp he_y_63
      unfold ir at hli_y_63
      refine xb_ti (y := μ.1 136 (μ.1 111 53 - 1)) (hli_y_63 (by omega)) ?_
      have hr_64 : -2147483648 ≤ μ.1 136 (μ.1 111 53 - 1) ∧ μ.1 136 (μ.1 111 53 - 1) ≤ 2147483647 := by omega
      refine xa_iald G (a := 145) (i := μ.1 136 (μ.1 111 53 - 1)) rfl (by have h9 := G.lc (a := 145) (n := 20100) 83 rfl; omega) dX12_works_148 rfl ?_
      refine xb_ti (y := μ.1 145 (μ.1 136 (μ.1 111 53 - 1))) (sv_n _ (fun h9 => absurd h9.1 (by decide))) ?_
      have hr_65 : -2147483648 ≤ μ.1 145 (μ.1 136 (μ.1 111 53 - 1)) ∧ μ.1 145 (μ.1 136 (μ.1 111 53 - 1)) ≤ 2147483647 := by have h9 := G.hr (a := 145) (k := μ.1 136 (μ.1 111 53 - 1)) rfl; rw [(sv_n _ (fun h9 => absurd h9.1 (by decide)))] at h9; exact h9
      refine xb_i2l hx hb (by unfold ir; omega) dX12_works_149 ?_
      have e_66 : (sv μ 111 53 ((μ.1 111 53) - 1)).1 111 53 = (μ.1 111 53) - 1 := (sv_s _ _ _ _)
      have e_67 : (sv μ 111 53 ((μ.1 111 53) - 1)).1 111 53 = (μ.1 111 53) - 1 := (sv_s _ _ _ _)
      have hMZ_68 : MZ (sv μ 111 53 ((μ.1 111 53) - 1)) := MZ.mn1 hMZ (n := n) (s := μ.1 131 (n - 1)) (hn.symm) (by have h9 : μ.1 131 (n - 1) = μ.1 131 (n - 1) := rfl; exact h9) (by omega) (by have h9 : μ.1 111 53 = μ.1 111 53 := rfl; omega)
      have e_69 : (sv μ 111 53 ((μ.1 111 53) - 1)).1 111 53 = (μ.1 111 53) - 1 := (sv_s _ _ _ _)
      have e_70 : (sv μ 111 53 ((μ.1 111 53) - 1)).1 111 53 = (μ.1 111 53) - 1 := (sv_s _ _ _ _)
      have e_71 : (sv μ 111 53 ((μ.1 111 53) - 1)).1 111 53 = (μ.1 111 53) - 1 := (sv_s _ _ _ _)
      refine xc_vV G (b := 111) (rest := []) (As := [.int (iv (μ.1 127 (n - 1))), .long (jv (μ.1 145 (μ.1 136 (μ.1 111 53 - 1))))]) (c_X12_pushNumber ω l (sv μ 111 53 ((μ.1 111 53) - 1)) (μ.1 127 (n - 1)) (μ.1 145 (μ.1 136 (μ.1 111 53 - 1))) ((μ.1 111 53) - 1) (by unfold ir; omega) (by unfold jr; omega) (by omega) hMZ_68 (by omega)) (wm 11 7 rfl rfl) (wm 11 9 rfl rfl) (wm 0 225 rfl rfl) rfl rfl (by decide) rfl (wm 1 18 rfl rfl) (wm 11 10 rfl rfl) (by decide) hR (by decide) (n := 2) rfl rfl (Nat.le_of_ble_eq_true rfl) hl.1 dX12_works_150 (fun μ72 ρ d0 H locs hp G => ?_)
      obtain ⟨F_73, hp_74, hp_75, hs_76, hs_77, ha_78, ha_79⟩ := hp
      refine lv_goto (tgt := 494) hx hb dX12_works_153 (by decide) ?_
      have e_80 : μ72.1 111 83 = μ.1 111 83 := ((hp_74 83 (by decide)).trans (sv_n _ (by decide)))
      have hrx_81 := RX.eq (μ := μ) (ν := μ72) (Eqa.fr (L := [111, 135, 136]) (FrM.tr (FrM.put FrM.rf (by decide)) F_73 (by decide)) (by decide)) (Eqf.fd (L := [53]) (fun j hj => ((hp_74 j (fun h9 => hj ((by decide : ∀ x ∈ ([53] : List Int), x ∈ ([53] : List Int)) j h9))).trans (sv_n _ (fun h9 => hj (by rw [h9.2]; decide))))) (by decide))
      exact xr_v G hret hlk dX12_works_494 ⟨(FrM.tr (FrM.put FrM.rf (by decide)) F_73 (by decide)), (fun j hj => ((hp_74 j (fun h9 => hj ((by decide : ∀ x ∈ ([53] : List Int), x ∈ ([47, 48, 53, 61, 65, 68, 69, 81, 82, 83, 84, 89, 90, 91, 93, 94, 95, 96, 97, 98, 99] : List Int)) j h9))).trans (sv_n _ (fun h9 => hj (by rw [h9.2]; decide))))), (hMI.go (x := i + 1) (S := μ.1 111 53 + (0)) (bl := μ.1 111 61) hp_75 ⟨(hMI.nx (e := 0) (by rw [ho]; unfold nxo; decide) (by rw [ho]; rfl)).1, (hMI.nx (e := 0) (by rw [ho]; unfold nxo; decide) (by rw [ho]; rfl)).2.trans (cem_n (by rw [ho]; unfold nxo; decide) (by rw [ho]; decide))⟩ (Eqa.fr (L := [111, 135, 136]) (FrM.tr (FrM.put FrM.rf (by decide)) F_73 (by decide)) (by decide)) (Eqf.fd (L := [53]) (fun j hj => ((hp_74 j (fun h9 => hj ((by decide : ∀ x ∈ ([53] : List Int), x ∈ ([53] : List Int)) j h9))).trans (sv_n _ (fun h9 => hj (by rw [h9.2]; decide))))) (by decide)) (by have h9 : μ72.1 129 (n - 1) = μ.1 129 (n - 1) := ((F_73.1 129 (by decide) (n - 1)).trans (sv_n _ (fun h9 => absurd h9.1 (by decide)))); have h8 := hMI.2.2.2.2.2.1; omega) (by have h9 : μ72.1 111 53 = ((μ.1 111 53) - 1) + 1 := hs_76; omega) (by have h9 : μ72.1 111 61 = μ.1 111 61 := ((hp_74 61 (by decide)).trans (sv_n _ (by decide))); omega) (by omega))⟩
  by_cases c_29_24 : (μ.1 115 x2) = 24
  · refine xb_tin (tgt := 180) hx hb (by unfold ir; omega) dX12_works_29 (by omega) (off := 151) (by rw [c_29_24]; rfl) (by decide) ?_
    have ho : μ.1 115 x2 = 24 := by omega
    have hlw_ := hMI.low
    have hle_ := hlw_.2.2.2.2.2.2.1
    have hlo_ := hlw_.2.1 (by omega)
    clear hlw_
    refine lv_aload_n hx hb dX12_works_180 rfl (lv_at hl 3 rfl) ?_
    refine lv_iload hx hb dX12_works_181 (lv_at hl 0 rfl) ?_
    have e_82 : μ.1 111 47 = n := hn.symm
    refine xc_vV G (b := 111) (rest := []) (As := [.int (iv (μ.1 127 (n - 1)))]) (c_X12_getsCell ω l μ (μ.1 127 (n - 1)) n (by unfold ir; omega) (by omega) hMZ (by omega) (by omega) (by have h9 : μ.1 127 (n - 1) = μ.1 127 (n - 1) := rfl; omega) (TQ.mv (hMI.tq (e := -1) (by rw [ho]; unfold nxo; decide) (by rw [ho]; decide) (by rw [ho]; rfl)) (Eqa.fr (L := []) FrM.rf (by decide)) (Eqf.fd (L := []) (fun j hj => rfl) (by decide)) (by have h9 : μ.1 111 53 = μ.1 111 53 := rfl; omega)) (by omega)) (wm 11 11 rfl rfl) (wm 11 13 rfl rfl) (wm 0 226 rfl rfl) rfl rfl (by decide) rfl (wm 1 18 rfl rfl) (wm 11 14 rfl rfl) (by decide) hR (by decide) (n := 1) rfl rfl (Nat.le_of_ble_eq_true rfl) hl.1 dX12_works_183 (fun μ83 ρ d0 H locs hp G => ?_)
    obtain ⟨F_84, hp_85, hp_86⟩ := hp
    refine lv_goto (tgt := 494) hx hb dX12_works_186 (by decide) ?_
    exact xr_v G hret hlk dX12_works_494 ⟨(FrM.tr FrM.rf F_84 (by decide)), (fun j hj => (hp_85 j (fun h9 => hj ((by decide : ∀ x ∈ ([47, 53, 61, 81, 82, 83, 84, 90, 91, 93, 94, 95, 96, 97, 98, 99] : List Int), x ∈ ([47, 48, 53, 61, 65, 68, 69, 81, 82, 83, 84, 89, 90, 91, 93, 94, 95, 96, 97, 98, 99] : List Int)) j h9)))), (hp_86.le (by omega))⟩
  by_cases c_29_25 : (μ.1 115 x2) = 25
  · refine xb_tin (tgt := 189) hx hb (by unfold ir; omega) dX12_works_29 (by omega) (off := 160) (by rw [c_29_25]; rfl) (by decide) ?_
    have ho : μ.1 115 x2 = 25 := by omega
    have hlw_ := hMI.low
    have hle_ := hlw_.2.2.2.2.2.2.1
    have hlo_ := hlw_.2.2.2.1 ho
    clear hlw_
    have ht4_ := td4n hlo_.1
    refine lv_aload_n hx hb dX12_works_189 rfl (lv_at hl 3 rfl) ?_
    refine xc_iV G (b := 111) (rest := []) (As := []) (c_X12_step ω l μ (μ.1 111 83) (by omega) hMZ) (wm 10 122 rfl rfl) (wm 10 124 rfl rfl) (wm 0 194 rfl rfl) rfl rfl (by decide) rfl (wm 1 18 rfl rfl) (wm 10 125 rfl rfl) (by decide) hR (by decide) (n := 0) rfl rfl (Nat.le_of_ble_eq_true rfl) hl.1 dX12_works_190 (fun r_88 μ87 ρ d0 H locs hr_r_88 hp G => ?_)
    have hr_r_88 : -2147483648 ≤ r_88 ∧ r_88 ≤ 2147483647 := hr_r_88
    obtain ⟨F_89, hp_90, hp_91, hp_92⟩ := hp
    refine xb_if_eq (tgt := 494) hx hb (by unfold ir; omega) dX12_works_193 (by decide) (fun c_193 => ?_) (fun c_193 => ?_)
    · exact xr_v G hret hlk dX12_works_494 ⟨(FrM.tr FrM.rf F_89 (by decide)), (fun j hj => (hp_90 j (fun h9 => hj ((by decide : ∀ x ∈ ([83, 84, 93, 94] : List Int), x ∈ ([47, 48, 53, 61, 65, 68, 69, 81, 82, 83, 84, 89, 90, 91, 93, 94, 95, 96, 97, 98, 99] : List Int)) j h9)))), (RES.ov hp_91 (by omega))⟩
    · refine lv_aload_n hx hb dX12_works_196 rfl (lv_at hl 3 rfl) ?_
      refine lv_iload hx hb dX12_works_197 (lv_at hl 1 rfl) ?_
      refine lv_iconst (v := iv 4) hx hb dX12_works_199 rfl ?_
      refine xb_irem hx hb (by unfold ir; omega) (by omega) dX12_works_200 ?_
      refine lv_aload_n hx hb dX12_works_201 rfl (lv_at hl 3 rfl) ?_
      refine lv_iload hx hb dX12_works_202 (lv_at hl 1 rfl) ?_
      refine lv_iconst (v := iv 4) hx hb dX12_works_204 rfl ?_
      refine xb_irem hx hb (by unfold ir; omega) (by omega) dX12_works_205 ?_
      refine lv_lload_n hx hb dX12_works_206 rfl (lv_at hl 2 rfl) ?_
      have e_93 : μ87.1 117 x2 = μ.1 117 x2 := (F_89.1 117 (by decide) x2)
      have e_94 : μ87.1 117 x2 = μ.1 117 x2 := (F_89.1 117 (by decide) x2)
      have e_95 : μ87.1 117 x2 = μ.1 117 x2 := (F_89.1 117 (by decide) x2)
      refine xc_iV G (b := 111) (rest := [.int (iv ((μ.1 117 x2).tmod 4)), .ref (oP ω 111)]) (As := [.int (iv ((μ.1 117 x2).tmod 4)), .long (jv (μ.1 116 x2))]) (c_X12_functionOf ω l μ87 ((μ.1 117 x2).tmod 4) (μ.1 116 x2) (by unfold ir; omega) hj_1 (by omega) hp_91.1.2.1) (wm 11 15 rfl rfl) (wm 11 17 rfl rfl) (wm 0 227 rfl rfl) rfl rfl (by decide) rfl (wm 1 18 rfl rfl) (wm 11 18 rfl rfl) (by decide) hR (by decide) (n := 2) rfl rfl (Nat.le_of_ble_eq_true rfl) hl.1 dX12_works_207 (fun r_97 μ96 ρ d0 H locs hr_r_97 hp G => ?_)
      have hr_r_97 : -2147483648 ≤ r_97 ∧ r_97 ≤ 2147483647 := hr_r_97
      obtain ⟨hsm_98, hp_99⟩ := hp
      have hsm_98 := Eq.symm hsm_98
      subst hsm_98
      have hfo_100 : r_97 = -1 ∨ (0 ≤ r_97 ∧ r_97 < μ.1 122 ((μ.1 117 x2).tmod 4)) := by have h9 := hp_99; rw [(show μ87.1 122 ((μ.1 117 x2).tmod 4) = μ.1 122 ((μ.1 117 x2).tmod 4) from (F_89.1 122 (by decide) ((μ.1 117 x2).tmod 4)))] at h9; exact h9
      refine lv_iload hx hb dX12_works_210 (lv_at hl 1 rfl) ?_
      refine lv_iconst (v := iv 4) hx hb dX12_works_212 rfl ?_
      refine xb_idiv hx hb (by unfold ir; omega) (by omega) dX12_works_213 ?_
      have e_101 : μ87.1 111 53 = μ.1 111 53 := (hp_90 53 (by decide))
      have e_102 : μ87.1 131 (n - 1) = μ.1 131 (n - 1) := (F_89.1 131 (by decide) (n - 1))
      have hrx_103 := RX.eq (μ := μ) (ν := μ87) (Eqa.fr (L := [111]) (FrM.tr FrM.rf F_89 (by decide)) (by decide)) (Eqf.fd (L := [83, 84, 93, 94]) (fun j hj => (hp_90 j (fun h9 => hj ((by decide : ∀ x ∈ ([83, 84, 93, 94] : List Int), x ∈ ([83, 84, 93, 94] : List Int)) j h9)))) (by decide))
      have e_104 : μ87.1 111 47 = n := ((hp_90 47 (by decide)).trans hn.symm)
      have e_105 : μ87.1 117 x2 = μ.1 117 x2 := (F_89.1 117 (by decide) x2)
      have e_106 : μ87.1 117 x2 = μ.1 117 x2 := (F_89.1 117 (by decide) x2)
      have e_107 : μ87.1 117 x2 = μ.1 117 x2 := (F_89.1 117 (by decide) x2)
      have e_108 : μ87.1 131 (n - 1) = μ.1 131 (n - 1) := (F_89.1 131 (by decide) (n - 1))
      have e_109 : μ87.1 117 x2 = μ.1 117 x2 := (F_89.1 117 (by decide) x2)
      have e_110 : μ87.1 111 53 = μ.1 111 53 := (hp_90 53 (by decide))
      refine xc_vV G (b := 111) (rest := []) (As := [.int (iv ((μ.1 117 x2).tmod 4)), .int (iv r_97), .int (iv ((μ.1 117 x2).tdiv 4))]) (c_X12_calls ω l μ87 ((μ.1 117 x2).tmod 4) r_97 ((μ.1 117 x2).tdiv 4) n (by unfold ir; omega) (by unfold ir; omega) (by unfold ir; omega) (by omega) hp_91 (by omega) (by omega) (by omega) (by rw [(show μ87.1 122 ((μ.1 117 x2).tmod 4) = μ.1 122 ((μ.1 117 x2).tmod 4) from (F_89.1 122 (by decide) ((μ.1 117 x2).tmod 4)))]; exact hfo_100) (by omega) (TQ.mv (hMI.tq (e := 1 - (μ.1 117 x2).tdiv 4) (by rw [ho]; unfold nxo; decide) (by rw [ho]; decide) (by rw [ho]; rfl)) (Eqa.fr (L := [111]) (FrM.tr FrM.rf F_89 (by decide)) (by decide)) (Eqf.fd (L := [83, 84, 93, 94]) (fun j hj => (hp_90 j (fun h9 => hj ((by decide : ∀ x ∈ ([83, 84, 93, 94] : List Int), x ∈ ([83, 84, 93, 94] : List Int)) j h9)))) (by decide)) (by have h9 : μ87.1 111 53 = μ.1 111 53 := (hp_90 53 (by decide)); omega))) (wm 11 19 rfl rfl) (wm 11 21 rfl rfl) (wm 0 228 rfl rfl) rfl rfl (by decide) rfl (wm 1 18 rfl rfl) (wm 11 22 rfl rfl) (by decide) hR (by decide) (n := 3) rfl rfl (Nat.le_of_ble_eq_true rfl) hl.1 dX12_works_214 (fun μ111 ρ d0 H locs hp G => ?_)
      obtain ⟨F_112, hp_113, hp_114⟩ := hp
      refine lv_goto (tgt := 494) hx hb dX12_works_217 (by decide) ?_
      exact xr_v G hret hlk dX12_works_494 ⟨(FrM.tr (FrM.tr FrM.rf F_89 (by decide)) F_112 (by decide)), (fun j hj => ((hp_113 j (fun h9 => hj ((by decide : ∀ x ∈ ([47, 53, 61, 81, 82, 83, 84, 90, 91, 93, 94, 95, 96, 97, 98, 99, 48, 89] : List Int), x ∈ ([47, 48, 53, 61, 65, 68, 69, 81, 82, 83, 84, 89, 90, 91, 93, 94, 95, 96, 97, 98, 99] : List Int)) j h9))).trans (hp_90 j (fun h9 => hj ((by decide : ∀ x ∈ ([83, 84, 93, 94] : List Int), x ∈ ([47, 48, 53, 61, 65, 68, 69, 81, 82, 83, 84, 89, 90, 91, 93, 94, 95, 96, 97, 98, 99] : List Int)) j h9))))), (hp_114.le (by omega))⟩
  by_cases c_29_26 : (μ.1 115 x2) = 26
  · refine xb_tin (tgt := 220) hx hb (by unfold ir; omega) dX12_works_29 (by omega) (off := 191) (by rw [c_29_26]; rfl) (by decide) ?_
    have ho : μ.1 115 x2 = 26 := by omega
    have hlw_ := hMI.low
    have hle_ := hlw_.2.2.2.2.2.2.1
    have hlo_ := hlw_.2.2.2.2.1 ho
    clear hlw_
    refine lv_aload_n hx hb dX12_works_220 rfl (lv_at hl 3 rfl) ?_
    refine xc_iV G (b := 111) (rest := []) (As := []) (c_X12_step ω l μ (μ.1 111 83) (by omega) hMZ) (wm 10 122 rfl rfl) (wm 10 124 rfl rfl) (wm 0 194 rfl rfl) rfl rfl (by decide) rfl (wm 1 18 rfl rfl) (wm 10 125 rfl rfl) (by decide) hR (by decide) (n := 0) rfl rfl (Nat.le_of_ble_eq_true rfl) hl.1 dX12_works_221 (fun r_116 μ115 ρ d0 H locs hr_r_116 hp G => ?_)
    have hr_r_116 : -2147483648 ≤ r_116 ∧ r_116 ≤ 2147483647 := hr_r_116
    obtain ⟨F_117, hp_118, hp_119, hp_120⟩ := hp
    refine xb_if_eq (tgt := 494) hx hb (by unfold ir; omega) dX12_works_224 (by decide) (fun c_224 => ?_) (fun c_224 => ?_)
    · exact xr_v G hret hlk dX12_works_494 ⟨(FrM.tr FrM.rf F_117 (by decide)), (fun j hj => (hp_118 j (fun h9 => hj ((by decide : ∀ x ∈ ([83, 84, 93, 94] : List Int), x ∈ ([47, 48, 53, 61, 65, 68, 69, 81, 82, 83, 84, 89, 90, 91, 93, 94, 95, 96, 97, 98, 99] : List Int)) j h9)))), (RES.ov hp_119 (by omega))⟩
    · refine lv_aload_n hx hb dX12_works_227 rfl (lv_at hl 3 rfl) ?_
      refine lv_iload hx hb dX12_works_228 (lv_at hl 1 rfl) ?_
      have e_121 : μ115.1 111 53 = μ.1 111 53 := (hp_118 53 (by decide))
      have e_122 : μ115.1 131 (n - 1) = μ.1 131 (n - 1) := (F_117.1 131 (by decide) (n - 1))
      have hrx_123 := RX.eq (μ := μ) (ν := μ115) (Eqa.fr (L := [111]) (FrM.tr FrM.rf F_117 (by decide)) (by decide)) (Eqf.fd (L := [83, 84, 93, 94]) (fun j hj => (hp_118 j (fun h9 => hj ((by decide : ∀ x ∈ ([83, 84, 93, 94] : List Int), x ∈ ([83, 84, 93, 94] : List Int)) j h9)))) (by decide))
      have e_124 : μ115.1 111 47 = n := ((hp_118 47 (by decide)).trans hn.symm)
      have e_125 : μ115.1 117 x2 = μ.1 117 x2 := (F_117.1 117 (by decide) x2)
      have e_126 : μ115.1 131 (n - 1) = μ.1 131 (n - 1) := (F_117.1 131 (by decide) (n - 1))
      have e_127 : μ115.1 117 x2 = μ.1 117 x2 := (F_117.1 117 (by decide) x2)
      have e_128 : μ115.1 111 53 = μ.1 111 53 := (hp_118 53 (by decide))
      refine xc_vV G (b := 111) (rest := []) (As := [.int (iv (μ.1 117 x2))]) (c_X12_callsBy ω l μ115 (μ.1 117 x2) n (by unfold ir; omega) (by omega) hp_119 (by omega) (by omega) (by omega) (TQ.mv (hMI.tq (e := - μ.1 117 x2) (by rw [ho]; unfold nxo; decide) (by rw [ho]; decide) (by rw [ho]; rfl)) (Eqa.fr (L := [111]) (FrM.tr FrM.rf F_117 (by decide)) (by decide)) (Eqf.fd (L := [83, 84, 93, 94]) (fun j hj => (hp_118 j (fun h9 => hj ((by decide : ∀ x ∈ ([83, 84, 93, 94] : List Int), x ∈ ([83, 84, 93, 94] : List Int)) j h9)))) (by decide)) (by have h9 : μ115.1 111 53 = μ.1 111 53 := (hp_118 53 (by decide)); omega))) (wm 11 23 rfl rfl) (wm 11 25 rfl rfl) (wm 0 229 rfl rfl) rfl rfl (by decide) rfl (wm 1 18 rfl rfl) (wm 11 26 rfl rfl) (by decide) hR (by decide) (n := 1) rfl rfl (Nat.le_of_ble_eq_true rfl) hl.1 dX12_works_230 (fun μ129 ρ d0 H locs hp G => ?_)
      obtain ⟨F_130, hp_131, hp_132⟩ := hp
      refine lv_goto (tgt := 494) hx hb dX12_works_233 (by decide) ?_
      exact xr_v G hret hlk dX12_works_494 ⟨(FrM.tr (FrM.tr FrM.rf F_117 (by decide)) F_130 (by decide)), (fun j hj => ((hp_131 j (fun h9 => hj ((by decide : ∀ x ∈ ([47, 53, 61, 81, 82, 83, 84, 90, 91, 93, 94, 95, 96, 97, 98, 99, 48, 89] : List Int), x ∈ ([47, 48, 53, 61, 65, 68, 69, 81, 82, 83, 84, 89, 90, 91, 93, 94, 95, 96, 97, 98, 99] : List Int)) j h9))).trans (hp_118 j (fun h9 => hj ((by decide : ∀ x ∈ ([83, 84, 93, 94] : List Int), x ∈ ([47, 48, 53, 61, 65, 68, 69, 81, 82, 83, 84, 89, 90, 91, 93, 94, 95, 96, 97, 98, 99] : List Int)) j h9))))), (hp_132.le (by omega))⟩
  by_cases c_29_27 : (μ.1 115 x2) = 27
  · refine xb_tin (tgt := 236) hx hb (by unfold ir; omega) dX12_works_29 (by omega) (off := 207) (by rw [c_29_27]; rfl) (by decide) ?_
    have ho : μ.1 115 x2 = 27 := by omega
    have hle_ := hMI.low.2.2.2.2.2.2.1
    have h27_ := hMI.rul.2.2.2.1 ho
    refine lv_aload_n hx hb dX12_works_236 rfl (lv_at hl 3 rfl) ?_
    refine lv_iload hx hb dX12_works_237 (lv_at hl 1 rfl) ?_
    refine lv_lload_n hx hb dX12_works_239 rfl (lv_at hl 2 rfl) ?_
    refine xc_iV G (b := 111) (rest := []) (As := [.int (iv (μ.1 117 x2)), .long (jv (μ.1 116 x2))]) (c_X12_functionOf ω l μ (μ.1 117 x2) (μ.1 116 x2) (by unfold ir; omega) hj_1 (by omega) hMZ.1.2.1) (wm 11 15 rfl rfl) (wm 11 17 rfl rfl) (wm 0 227 rfl rfl) rfl rfl (by decide) rfl (wm 1 18 rfl rfl) (wm 11 18 rfl rfl) (by decide) hR (by decide) (n := 2) rfl rfl (Nat.le_of_ble_eq_true rfl) hl.1 dX12_works_240 (fun r_134 μ133 ρ d0 H locs hr_r_134 hp G => ?_)
    have hr_r_134 : -2147483648 ≤ r_134 ∧ r_134 ≤ 2147483647 := hr_r_134
    obtain ⟨hsm_135, hp_136⟩ := hp
    have hsm_135 := Eq.symm hsm_135
    subst hsm_135
    have hfo_137 : r_134 = -1 ∨ (0 ≤ r_134 ∧ r_134 < μ.1 122 (μ.1 117 x2)) := by have h9 := hp_136; rw [(show μ.1 122 (μ.1 117 x2) = μ.1 122 (μ.1 117 x2) from rfl)] at h9; exact h9
    refine lv_istore (lv' := [(7, .int (iv r_134)), (6, .int (iv (μ.1 127 (n - 1)))), (5, .int (iv (μ.1 117 x2))), (3, .long (jv (μ.1 116 x2))), (0, .ref (oP ω 111)), (1, .int (iv (n - 1))), (2, .int (iv x2))]) hx hb dX12_works_243 hl (by decide) rfl (fun ls hl => ?_)
    refine lv_iload hx hb dX12_works_245 (lv_at hl 0 rfl) ?_
    refine lv_iconst (v := iv (-1)) hx hb dX12_works_247 rfl ?_
    refine xb_icmp_ne (tgt := 259) hx hb (by unfold ir; omega) (by unfold ir; omega) dX12_works_248 (by decide) (fun c_248 => ?_) (fun c_248 => ?_)
    · refine lv_aload_n hx hb dX12_works_259 rfl (lv_at hl 4 rfl) ?_
      refine lv_iconst (v := iv 3) hx hb dX12_works_260 rfl ?_
      refine lv_ldc2 (s := s.setDrawn d0) hx hb G.1.2.2.2.1 (dr_words G.1.2.2.2.2 d0 _ (wm 11 27 rfl rfl)) dX12_works_261 ?_
      refine xb_litl (x := 64) (by decide) ?_
      refine lv_iload hx hb dX12_works_264 (lv_at hl 2 rfl) ?_
      refine xb_i2l hx hb (by unfold ir; omega) dX12_works_266 ?_
      refine xb_lmul hx hb dX12_works_267 ?_
      refine lv_iload hx hb dX12_works_268 (lv_at hl 0 rfl) ?_
      refine xb_i2l hx hb (by unfold ir; omega) dX12_works_270 ?_
      refine xb_ladd hx hb dX12_works_271 ?_
      have hfn_ := (hMZ.1.2.1 (μ.1 117 x2) (by omega) (by omega)).1
      refine xc_vV G (b := 111) (rest := []) (As := [.int (iv 3), .long (jv ((64 * (μ.1 117 x2)) + r_134))]) (c_X12_push ω l μ 3 ((64 * (μ.1 117 x2)) + r_134) (μ.1 111 53) (by unfold ir; omega) (by unfold jr; omega) (by omega) hMZ ⟨by decide, fun z => absurd z (by decide), fun _ => by omega, fun z => absurd z (by decide)⟩ (by omega)) (wm 10 127 rfl rfl) (wm 10 129 rfl rfl) (wm 0 195 rfl rfl) rfl rfl (by decide) rfl (wm 1 18 rfl rfl) (wm 10 130 rfl rfl) (by decide) hR (by decide) (n := 2) rfl rfl (Nat.le_of_ble_eq_true rfl) hl.1 dX12_works_272 (fun μ138 ρ d0 H locs hp G => ?_)
      obtain ⟨F_139, hp_140, hp_141, hs_142, hs_143, hs_144, ha_145, ha_146⟩ := hp
      refine lv_goto (tgt := 494) hx hb dX12_works_275 (by decide) ?_
      have e_147 : μ138.1 111 83 = μ.1 111 83 := (hp_140 83 (by decide))
      have hrx_148 := RX.eq (μ := μ) (ν := μ138) (Eqa.fr (L := [111, 135, 136]) (FrM.tr FrM.rf F_139 (by decide)) (by decide)) (Eqf.fd (L := [53]) (fun j hj => (hp_140 j (fun h9 => hj ((by decide : ∀ x ∈ ([53] : List Int), x ∈ ([53] : List Int)) j h9)))) (by decide))
      exact xr_v G hret hlk dX12_works_494 ⟨(FrM.tr FrM.rf F_139 (by decide)), (fun j hj => (hp_140 j (fun h9 => hj ((by decide : ∀ x ∈ ([53] : List Int), x ∈ ([47, 48, 53, 61, 65, 68, 69, 81, 82, 83, 84, 89, 90, 91, 93, 94, 95, 96, 97, 98, 99] : List Int)) j h9)))), (hMI.go (x := i + 1) (S := μ.1 111 53 + (1)) (bl := μ.1 111 61) hp_141 ⟨(hMI.nx (e := 1) (by rw [ho]; unfold nxo; decide) (by rw [ho]; rfl)).1, (hMI.nx (e := 1) (by rw [ho]; unfold nxo; decide) (by rw [ho]; rfl)).2.trans (cem_n (by rw [ho]; unfold nxo; decide) (by rw [ho]; decide))⟩ (Eqa.fr (L := [111, 135, 136]) (FrM.tr FrM.rf F_139 (by decide)) (by decide)) (Eqf.fd (L := [53]) (fun j hj => (hp_140 j (fun h9 => hj ((by decide : ∀ x ∈ ([53] : List Int), x ∈ ([53] : List Int)) j h9)))) (by decide)) (by have h9 : μ138.1 129 (n - 1) = μ.1 129 (n - 1) := (F_139.1 129 (by decide) (n - 1)); have h8 := hMI.2.2.2.2.2.1; omega) (by have h9 : μ138.1 111 53 = (μ.1 111 53) + 1 := hs_142; omega) (by have h9 : μ138.1 111 61 = μ.1 111 61 := (hp_140 61 (by decide)); omega) (by omega))⟩
    · refine lv_aload_n hx hb dX12_works_251 rfl (lv_at hl 4 rfl) ?_
      refine lv_iconst (v := iv 3) hx hb dX12_works_252 rfl ?_
      have hA1_149 : A1 μ := TQ.a1 (hMI.tq (e := 1) (by rw [ho]; unfold nxo; decide) (by rw [ho]; decide) (by rw [ho]; rfl)) (Eqa.fr (L := []) FrM.rf (by decide)) (Eqf.fd (L := []) (fun j hj => rfl) (by decide)) (by have h9 : μ.1 111 53 = μ.1 111 53 := rfl; omega)
      have e_150 : μ.1 111 47 = n := hn.symm
      refine xc_vV G (b := 111) (rest := []) (As := [.int (iv 3)]) (c_X12_arises_a ω l μ 3 n (by unfold ir; omega) (by omega) hMZ (by omega) (by omega) (fun _ => by omega) (fun _ => hA1_149)) (wm 10 199 rfl rfl) (wm 10 201 rfl rfl) (wm 0 213 rfl rfl) rfl rfl (by decide) rfl (wm 1 18 rfl rfl) (wm 10 202 rfl rfl) (by decide) hR (by decide) (n := 1) rfl rfl (Nat.le_of_ble_eq_true rfl) hl.1 dX12_works_253 (fun μ151 ρ d0 H locs hp G => ?_)
      obtain ⟨F_152, hp_153, hp_154⟩ := hp
      refine lv_goto (tgt := 494) hx hb dX12_works_256 (by decide) ?_
      exact xr_v G hret hlk dX12_works_494 ⟨(FrM.tr FrM.rf F_152 (by decide)), (fun j hj => (hp_153 j (fun h9 => hj ((by decide : ∀ x ∈ ([47, 53, 61, 81, 82, 83, 84, 90, 91, 93, 94, 95, 96, 97, 98, 99] : List Int), x ∈ ([47, 48, 53, 61, 65, 68, 69, 81, 82, 83, 84, 89, 90, 91, 93, 94, 95, 96, 97, 98, 99] : List Int)) j h9)))), (hp_154.le (by omega))⟩
  by_cases c_29_28 : (μ.1 115 x2) = 28
  · refine xb_tin (tgt := 278) hx hb (by unfold ir; omega) dX12_works_29 (by omega) (off := 249) (by rw [c_29_28]; rfl) (by decide) ?_
    have ho : μ.1 115 x2 = 28 := by omega
    have hle_ := hMI.low.2.2.2.2.2.2.1
    refine lv_aload_n hx hb dX12_works_278 rfl (lv_at hl 3 rfl) ?_
    refine lv_iconst (v := iv 1) hx hb dX12_works_279 rfl ?_
    refine lv_aload_n hx hb dX12_works_280 rfl (lv_at hl 3 rfl) ?_
    refine xa_geti G fd_X12 (a := 111) (x := μ.1 111 91) 91 rfl (by decide) rfl (wm 8 0 rfl rfl) ⟨rfl, rfl, rfl⟩ dX12_works_281 rfl rfl ?_
    have hr_155 : -2147483648 ≤ μ.1 111 91 ∧ μ.1 111 91 ≤ 2147483647 := by have h9 := G.hr (a := 111) (k := 91) rfl; exact h9
    refine xb_i2l hx hb (by unfold ir; omega) dX12_works_284 ?_
    refine xc_vV G (b := 111) (rest := []) (As := [.int (iv 1), .long (jv (μ.1 111 91))]) (c_X12_push ω l μ 1 (μ.1 111 91) (μ.1 111 53) (by unfold ir; omega) (by unfold jr; omega) (by omega) hMZ VV.n1 (by omega)) (wm 10 127 rfl rfl) (wm 10 129 rfl rfl) (wm 0 195 rfl rfl) rfl rfl (by decide) rfl (wm 1 18 rfl rfl) (wm 10 130 rfl rfl) (by decide) hR (by decide) (n := 2) rfl rfl (Nat.le_of_ble_eq_true rfl) hl.1 dX12_works_285 (fun μ156 ρ d0 H locs hp G => ?_)
    obtain ⟨F_157, hp_158, hp_159, hs_160, hs_161, hs_162, ha_163, ha_164⟩ := hp
    refine lv_goto (tgt := 494) hx hb dX12_works_288 (by decide) ?_
    have e_165 : μ156.1 111 83 = μ.1 111 83 := (hp_158 83 (by decide))
    have hrx_166 := RX.eq (μ := μ) (ν := μ156) (Eqa.fr (L := [111, 135, 136]) (FrM.tr FrM.rf F_157 (by decide)) (by decide)) (Eqf.fd (L := [53]) (fun j hj => (hp_158 j (fun h9 => hj ((by decide : ∀ x ∈ ([53] : List Int), x ∈ ([53] : List Int)) j h9)))) (by decide))
    exact xr_v G hret hlk dX12_works_494 ⟨(FrM.tr FrM.rf F_157 (by decide)), (fun j hj => (hp_158 j (fun h9 => hj ((by decide : ∀ x ∈ ([53] : List Int), x ∈ ([47, 48, 53, 61, 65, 68, 69, 81, 82, 83, 84, 89, 90, 91, 93, 94, 95, 96, 97, 98, 99] : List Int)) j h9)))), (hMI.go (x := i + 1) (S := μ.1 111 53 + (1)) (bl := μ.1 111 61) hp_159 ⟨(hMI.nx (e := 1) (by rw [ho]; unfold nxo; decide) (by rw [ho]; rfl)).1, (hMI.nx (e := 1) (by rw [ho]; unfold nxo; decide) (by rw [ho]; rfl)).2.trans (cem_n (by rw [ho]; unfold nxo; decide) (by rw [ho]; decide))⟩ (Eqa.fr (L := [111, 135, 136]) (FrM.tr FrM.rf F_157 (by decide)) (by decide)) (Eqf.fd (L := [53]) (fun j hj => (hp_158 j (fun h9 => hj ((by decide : ∀ x ∈ ([53] : List Int), x ∈ ([53] : List Int)) j h9)))) (by decide)) (by have h9 : μ156.1 129 (n - 1) = μ.1 129 (n - 1) := (F_157.1 129 (by decide) (n - 1)); have h8 := hMI.2.2.2.2.2.1; omega) (by have h9 : μ156.1 111 53 = (μ.1 111 53) + 1 := hs_160; omega) (by have h9 : μ156.1 111 61 = μ.1 111 61 := (hp_158 61 (by decide)); omega) (by omega))⟩
  by_cases c_29_29 : (μ.1 115 x2) = 29
  · refine xb_tin (tgt := 291) hx hb (by unfold ir; omega) dX12_works_29 (by omega) (off := 262) (by rw [c_29_29]; rfl) (by decide) ?_
    have ho : μ.1 115 x2 = 29 := by omega
    have hlw_ := hMI.low
    have hle_ := hlw_.2.2.2.2.2.2.1
    have hlo_ := hlw_.1 (by omega)
    clear hlw_
    have hs1_ := hMZ.stv (μ.1 111 53 - 1) (by omega) (by omega)
    have hs1r_ := hs1_.1
    have h29_ := hMI.rul.2.2.2.2.2.2.2 ho
    refine lv_aload_n hx hb dX12_works_291 rfl (lv_at hl 3 rfl) ?_
    refine lv_dup hx hb dX12_works_292 rfl ?_
    refine xa_geti G fd_X12 (a := 111) (x := μ.1 111 53) 53 rfl (by decide) rfl (wm 7 202 rfl rfl) ⟨rfl, rfl, rfl⟩ dX12_works_293 rfl rfl ?_
    have hr_167 : -2147483648 ≤ μ.1 111 53 ∧ μ.1 111 53 ≤ 2147483647 := by have h9 := G.hr (a := 111) (k := 53) rfl; exact h9
    refine lv_iconst (v := iv 1) hx hb dX12_works_296 rfl ?_
    refine xb_isub hx hb dX12_works_297 ?_
    refine xa_puti G fd_X12 (a := 111) (x := (μ.1 111 53) - 1) 53 (kz := 53) rfl rfl (by decide) rfl (by unfold ir; omega) (wm 7 202 rfl rfl) ⟨rfl, rfl, rfl, rfl⟩ rfl dX12_works_298 rfl (fun H locs G => ?_)
    refine lv_aload_n hx hb dX12_works_301 rfl (lv_at hl 3 rfl) ?_
    refine lv_iload hx hb dX12_works_302 (lv_at hl 1 rfl) ?_
    refine lv_aload_n hx hb dX12_works_304 rfl (lv_at hl 3 rfl) ?_
    refine xa_getr G fd_X12 (a := 111) (x := 135) 51 rfl (by decide) rfl (wm 7 200 rfl rfl) ⟨rfl, rfl, rfl⟩ dX12_works_305 rfl (G.sk 133 rfl) (by decide) rfl ?_
    refine lv_aload_n hx hb dX12_works_308 rfl (lv_at hl 3 rfl) ?_
    refine xa_geti G fd_X12 (a := 111) (x := (μ.1 111 53) - 1) 53 rfl (by decide) rfl (wm 7 202 rfl rfl) ⟨rfl, rfl, rfl⟩ dX12_works_309 rfl (sv_s _ _ _ _) ?_
    have hr_168 : -2147483648 ≤ (μ.1 111 53) - 1 ∧ (μ.1 111 53) - 1 ≤ 2147483647 := by have h9 := G.hr (a := 111) (k := 53) rfl; rw [show (sv μ 111 53 ((μ.1 111 53) - 1)).1 111 53 = (μ.1 111 53) - 1 from (sv_s _ _ _ _)] at h9; exact h9
    refine xa_bald G (a := 135) (i := (μ.1 111 53) - 1) rfl (by have h9 := G.lc (a := 135) (n := 9000) 73 rfl; omega) dX12_works_312 rfl ?_
    refine xb_ti (y := μ.1 135 (μ.1 111 53 - 1)) (sv_n _ (fun h9 => absurd h9.1 (by decide))) ?_
    have hr_169 : -2147483648 ≤ μ.1 135 (μ.1 111 53 - 1) ∧ μ.1 135 (μ.1 111 53 - 1) ≤ 2147483647 := by have h9 := G.hr3 (a := 135) (k := (μ.1 111 53) - 1) rfl; rw [(sv_n _ (fun h9 => absurd h9.1 (by decide)))] at h9; exact h9
    refine lv_aload_n hx hb dX12_works_313 rfl (lv_at hl 3 rfl) ?_
    refine xa_getr G fd_X12 (a := 111) (x := 136) 52 rfl (by decide) rfl (wm 7 201 rfl rfl) ⟨rfl, rfl, rfl⟩ dX12_works_314 rfl (G.sk 134 rfl) (by decide) rfl ?_
    refine lv_aload_n hx hb dX12_works_317 rfl (lv_at hl 3 rfl) ?_
    refine xa_geti G fd_X12 (a := 111) (x := (μ.1 111 53) - 1) 53 rfl (by decide) rfl (wm 7 202 rfl rfl) ⟨rfl, rfl, rfl⟩ dX12_works_318 rfl (sv_s _ _ _ _) ?_
    refine xa_lald G (a := 136) (i := (μ.1 111 53) - 1) rfl (by have h9 := G.lc (a := 136) (n := 9000) 74 rfl; omega) dX12_works_321 rfl ?_
    refine xb_tl (y := μ.1 136 (μ.1 111 53 - 1)) (sv_n _ (fun h9 => absurd h9.1 (by decide))) ?_
    have hj_170 : jr (μ.1 136 (μ.1 111 53 - 1)) := (by have h9 := G.hj (a := 136) (k := (μ.1 111 53) - 1) rfl; rw [(sv_n _ (fun h9 => absurd h9.1 (by decide)))] at h9; exact h9)
    have hA1_171 : A1 (sv μ 111 53 ((μ.1 111 53) - 1)) := TQ.a1 (hMI.tq (e := 0) (by rw [ho]; unfold nxo; decide) (by rw [ho]; decide) (by rw [ho]; rfl)) (Eqa.fr (L := [111]) (FrM.put FrM.rf (by decide)) (by decide)) (Eqf.fd (L := [53]) (fun j hj => (sv_n _ (fun h9 => hj (by rw [h9.2]; decide)))) (by decide)) (by have h9 : (sv μ 111 53 ((μ.1 111 53) - 1)).1 111 53 = (μ.1 111 53) - 1 := (sv_s _ _ _ _); omega)
    have e_172 : (sv μ 111 53 ((μ.1 111 53) - 1)).1 111 83 = μ.1 111 83 := (sv_n _ (by decide))
    have hrx_173 := RX.eq (μ := μ) (ν := (sv μ 111 53 ((μ.1 111 53) - 1))) (Eqa.fr (L := [111]) (FrM.put FrM.rf (by decide)) (by decide)) (Eqf.fd (L := [53]) (fun j hj => (sv_n _ (fun h9 => hj (by rw [h9.2]; decide)))) (by decide))
    have e_174 : (sv μ 111 53 ((μ.1 111 53) - 1)).1 111 94 = μ.1 111 94 := (sv_n _ (by decide))
    have e_175 : (sv μ 111 53 ((μ.1 111 53) - 1)).1 111 47 = n := ((sv_n _ (by decide)).trans hn.symm)
    have hMZ_176 : MZ (sv μ 111 53 ((μ.1 111 53) - 1)) := MZ.mn1 hMZ (n := n) (s := μ.1 131 (n - 1)) (hn.symm) (by have h9 : μ.1 131 (n - 1) = μ.1 131 (n - 1) := rfl; exact h9) (by omega) (by have h9 : μ.1 111 53 = μ.1 111 53 := rfl; omega)
    have e_177 : (sv μ 111 53 ((μ.1 111 53) - 1)).1 111 94 = μ.1 111 94 := (sv_n _ (by decide))
    refine xc_vV G (b := 111) (rest := []) (As := [.int (iv (μ.1 117 x2)), .int (iv (μ.1 135 (μ.1 111 53 - 1))), .long (jv (μ.1 136 (μ.1 111 53 - 1)))]) (c_X12_arisesWith_a ω l (sv μ 111 53 ((μ.1 111 53) - 1)) (μ.1 117 x2) (μ.1 135 (μ.1 111 53 - 1)) (μ.1 136 (μ.1 111 53 - 1)) n (by unfold ir; omega) (by unfold ir; omega) hj_170 (by omega) hMZ_176 (by omega) (by omega) (by rw [(show (sv μ 111 53 ((μ.1 111 53) - 1)).1 111 65 = μ.1 111 65 from (sv_n _ (by decide))), (show (sv μ 111 53 ((μ.1 111 53) - 1)).1 111 82 = μ.1 111 82 from (sv_n _ (by decide)))]; exact hs1_) (fun h9 => absurd h9 (by rw [(show (sv μ 111 53 ((μ.1 111 53) - 1)).1 127 (n - 1) = μ.1 127 (n - 1) from (sv_n _ (fun h9 => absurd h9.1 (by decide))))]; omega)) (fun _ => hA1_171)) (wm 10 203 rfl rfl) (wm 10 205 rfl rfl) (wm 0 214 rfl rfl) rfl rfl (by decide) rfl (wm 1 18 rfl rfl) (wm 10 206 rfl rfl) (by decide) hR (by decide) (n := 3) rfl rfl (Nat.le_of_ble_eq_true rfl) hl.1 dX12_works_322 (fun μ178 ρ d0 H locs hp G => ?_)
    obtain ⟨F_179, hp_180, hp_181⟩ := hp
    refine lv_goto (tgt := 494) hx hb dX12_works_325 (by decide) ?_
    exact xr_v G hret hlk dX12_works_494 ⟨(FrM.tr (FrM.put FrM.rf (by decide)) F_179 (by decide)), (fun j hj => ((hp_180 j (fun h9 => hj ((by decide : ∀ x ∈ ([47, 53, 61, 81, 82, 83, 84, 90, 91, 93, 94, 95, 96, 97, 98, 99] : List Int), x ∈ ([47, 48, 53, 61, 65, 68, 69, 81, 82, 83, 84, 89, 90, 91, 93, 94, 95, 96, 97, 98, 99] : List Int)) j h9))).trans (sv_n _ (fun h9 => hj (by rw [h9.2]; decide))))), (hp_181.le (by omega))⟩
  by_cases c_29_30 : (μ.1 115 x2) = 30
  · refine xb_tin (tgt := 328) hx hb (by unfold ir; omega) dX12_works_29 (by omega) (off := 299) (by rw [c_29_30]; rfl) (by decide) ?_
    have ho : μ.1 115 x2 = 30 := by omega
    have hlw_ := hMI.low
    have hle_ := hlw_.2.2.2.2.2.2.1
    have hlo_ := hlw_.1 (by omega)
    clear hlw_
    have hs1_ := hMZ.stv (μ.1 111 53 - 1) (by omega) (by omega)
    have hs1r_ := hs1_.1
    refine lv_aload_n hx hb dX12_works_328 rfl (lv_at hl 3 rfl) ?_
    refine lv_dup hx hb dX12_works_329 rfl ?_
    refine xa_geti G fd_X12 (a := 111) (x := μ.1 111 53) 53 rfl (by decide) rfl (wm 7 202 rfl rfl) ⟨rfl, rfl, rfl⟩ dX12_works_330 rfl rfl ?_
    have hr_182 : -2147483648 ≤ μ.1 111 53 ∧ μ.1 111 53 ≤ 2147483647 := by have h9 := G.hr (a := 111) (k := 53) rfl; exact h9
    refine lv_iconst (v := iv 1) hx hb dX12_works_333 rfl ?_
    refine xb_isub hx hb dX12_works_334 ?_
    refine xa_puti G fd_X12 (a := 111) (x := (μ.1 111 53) - 1) 53 (kz := 53) rfl rfl (by decide) rfl (by unfold ir; omega) (wm 7 202 rfl rfl) ⟨rfl, rfl, rfl, rfl⟩ rfl dX12_works_335 rfl (fun H locs G => ?_)
    refine lv_aload_n hx hb dX12_works_338 rfl (lv_at hl 3 rfl) ?_
    refine lv_iconst (v := iv 1) hx hb dX12_works_339 rfl ?_
    refine lv_aload_n hx hb dX12_works_340 rfl (lv_at hl 3 rfl) ?_
    refine xa_getr G fd_X12 (a := 111) (x := 135) 51 rfl (by decide) rfl (wm 7 200 rfl rfl) ⟨rfl, rfl, rfl⟩ dX12_works_341 rfl (G.sk 133 rfl) (by decide) rfl ?_
    refine lv_aload_n hx hb dX12_works_344 rfl (lv_at hl 3 rfl) ?_
    refine xa_geti G fd_X12 (a := 111) (x := (μ.1 111 53) - 1) 53 rfl (by decide) rfl (wm 7 202 rfl rfl) ⟨rfl, rfl, rfl⟩ dX12_works_345 rfl (sv_s _ _ _ _) ?_
    have hr_183 : -2147483648 ≤ (μ.1 111 53) - 1 ∧ (μ.1 111 53) - 1 ≤ 2147483647 := by have h9 := G.hr (a := 111) (k := 53) rfl; rw [show (sv μ 111 53 ((μ.1 111 53) - 1)).1 111 53 = (μ.1 111 53) - 1 from (sv_s _ _ _ _)] at h9; exact h9
    refine xa_bald G (a := 135) (i := (μ.1 111 53) - 1) rfl (by have h9 := G.lc (a := 135) (n := 9000) 73 rfl; omega) dX12_works_348 rfl ?_
    refine xb_ti (y := μ.1 135 (μ.1 111 53 - 1)) (sv_n _ (fun h9 => absurd h9.1 (by decide))) ?_
    have hr_184 : -2147483648 ≤ μ.1 135 (μ.1 111 53 - 1) ∧ μ.1 135 (μ.1 111 53 - 1) ≤ 2147483647 := by have h9 := G.hr3 (a := 135) (k := (μ.1 111 53) - 1) rfl; rw [(sv_n _ (fun h9 => absurd h9.1 (by decide)))] at h9; exact h9
    refine lv_iconst (v := iv 4) hx hb dX12_works_349 rfl ?_
    refine xb_icmp_ne (tgt := 372) hx hb (by unfold ir; omega) (by unfold ir; omega) dX12_works_350 (by decide) (fun c_350 => ?_) (fun c_350 => ?_)
    · refine lv_lconst (v := jv 0) hx hb dX12_works_372 rfl ?_
      have e_185 : (sv μ 111 53 ((μ.1 111 53) - 1)).1 111 53 = (μ.1 111 53) - 1 := (sv_s _ _ _ _)
      have e_186 : (sv μ 111 53 ((μ.1 111 53) - 1)).1 111 53 = (μ.1 111 53) - 1 := (sv_s _ _ _ _)
      have hMZ_187 : MZ (sv μ 111 53 ((μ.1 111 53) - 1)) := MZ.mn1 hMZ (n := n) (s := μ.1 131 (n - 1)) (hn.symm) (by have h9 : μ.1 131 (n - 1) = μ.1 131 (n - 1) := rfl; exact h9) (by omega) (by have h9 : μ.1 111 53 = μ.1 111 53 := rfl; omega)
      have e_188 : (sv μ 111 53 ((μ.1 111 53) - 1)).1 111 53 = (μ.1 111 53) - 1 := (sv_s _ _ _ _)
      have e_189 : (sv μ 111 53 ((μ.1 111 53) - 1)).1 111 53 = (μ.1 111 53) - 1 := (sv_s _ _ _ _)
      have e_190 : (sv μ 111 53 ((μ.1 111 53) - 1)).1 111 53 = (μ.1 111 53) - 1 := (sv_s _ _ _ _)
      have e_191 : (sv μ 111 53 ((μ.1 111 53) - 1)).1 111 53 = (μ.1 111 53) - 1 := (sv_s _ _ _ _)
      refine xc_vV G (b := 111) (rest := []) (As := [.int (iv 1), .long (jv 0)]) (c_X12_push ω l (sv μ 111 53 ((μ.1 111 53) - 1)) 1 0 ((μ.1 111 53) - 1) (by unfold ir; omega) (by unfold jr; omega) (by omega) hMZ_187 VV.n1 (by omega)) (wm 10 127 rfl rfl) (wm 10 129 rfl rfl) (wm 0 195 rfl rfl) rfl rfl (by decide) rfl (wm 1 18 rfl rfl) (wm 10 130 rfl rfl) (by decide) hR (by decide) (n := 2) rfl rfl (Nat.le_of_ble_eq_true rfl) hl.1 dX12_works_373 (fun μ192 ρ d0 H locs hp G => ?_)
      obtain ⟨F_193, hp_194, hp_195, hs_196, hs_197, hs_198, ha_199, ha_200⟩ := hp
      refine lv_goto (tgt := 494) hx hb dX12_works_376 (by decide) ?_
      have e_201 : μ192.1 111 83 = μ.1 111 83 := ((hp_194 83 (by decide)).trans (sv_n _ (by decide)))
      have hrx_202 := RX.eq (μ := μ) (ν := μ192) (Eqa.fr (L := [111, 135, 136]) (FrM.tr (FrM.put FrM.rf (by decide)) F_193 (by decide)) (by decide)) (Eqf.fd (L := [53]) (fun j hj => ((hp_194 j (fun h9 => hj ((by decide : ∀ x ∈ ([53] : List Int), x ∈ ([53] : List Int)) j h9))).trans (sv_n _ (fun h9 => hj (by rw [h9.2]; decide))))) (by decide))
      exact xr_v G hret hlk dX12_works_494 ⟨(FrM.tr (FrM.put FrM.rf (by decide)) F_193 (by decide)), (fun j hj => ((hp_194 j (fun h9 => hj ((by decide : ∀ x ∈ ([53] : List Int), x ∈ ([47, 48, 53, 61, 65, 68, 69, 81, 82, 83, 84, 89, 90, 91, 93, 94, 95, 96, 97, 98, 99] : List Int)) j h9))).trans (sv_n _ (fun h9 => hj (by rw [h9.2]; decide))))), (hMI.go (x := i + 1) (S := μ.1 111 53 + (0)) (bl := μ.1 111 61) hp_195 ⟨(hMI.nx (e := 0) (by rw [ho]; unfold nxo; decide) (by rw [ho]; rfl)).1, (hMI.nx (e := 0) (by rw [ho]; unfold nxo; decide) (by rw [ho]; rfl)).2.trans (cem_n (by rw [ho]; unfold nxo; decide) (by rw [ho]; decide))⟩ (Eqa.fr (L := [111, 135, 136]) (FrM.tr (FrM.put FrM.rf (by decide)) F_193 (by decide)) (by decide)) (Eqf.fd (L := [53]) (fun j hj => ((hp_194 j (fun h9 => hj ((by decide : ∀ x ∈ ([53] : List Int), x ∈ ([53] : List Int)) j h9))).trans (sv_n _ (fun h9 => hj (by rw [h9.2]; decide))))) (by decide)) (by have h9 : μ192.1 129 (n - 1) = μ.1 129 (n - 1) := ((F_193.1 129 (by decide) (n - 1)).trans (sv_n _ (fun h9 => absurd h9.1 (by decide)))); have h8 := hMI.2.2.2.2.2.1; omega) (by have h9 : μ192.1 111 53 = ((μ.1 111 53) - 1) + 1 := hs_196; omega) (by have h9 : μ192.1 111 61 = μ.1 111 61 := ((hp_194 61 (by decide)).trans (sv_n _ (by decide))); omega) (by omega))⟩
    · have ha4_ := hs1_.2.2.2 (by omega)
      refine lv_aload_n hx hb dX12_works_353 rfl (lv_at hl 3 rfl) ?_
      refine xa_getr G fd_X12 (a := 111) (x := 150) 71 rfl (by decide) rfl (wm 7 220 rfl rfl) ⟨rfl, rfl, rfl⟩ dX12_works_354 rfl (G.sk 148 rfl) (by decide) rfl ?_
      refine lv_aload_n hx hb dX12_works_357 rfl (lv_at hl 3 rfl) ?_
      refine xa_getr G fd_X12 (a := 111) (x := 136) 52 rfl (by decide) rfl (wm 7 201 rfl rfl) ⟨rfl, rfl, rfl⟩ dX12_works_358 rfl (G.sk 134 rfl) (by decide) rfl ?_
      refine lv_aload_n hx hb dX12_works_361 rfl (lv_at hl 3 rfl) ?_
      refine xa_geti G fd_X12 (a := 111) (x := (μ.1 111 53) - 1) 53 rfl (by decide) rfl (wm 7 202 rfl rfl) ⟨rfl, rfl, rfl⟩ dX12_works_362 rfl (sv_s _ _ _ _) ?_
      refine xa_lald G (a := 136) (i := (μ.1 111 53) - 1) rfl (by have h9 := G.lc (a := 136) (n := 9000) 74 rfl; omega) dX12_works_365 rfl ?_
      refine xb_tl (y := μ.1 136 (μ.1 111 53 - 1)) (sv_n _ (fun h9 => absurd h9.1 (by decide))) ?_
      have hj_203 : jr (μ.1 136 (μ.1 111 53 - 1)) := (by have h9 := G.hj (a := 136) (k := (μ.1 111 53) - 1) rfl; rw [(sv_n _ (fun h9 => absurd h9.1 (by decide)))] at h9; exact h9)
      refine xb_l2i hx hb dX12_works_366 ?_
      refine xb_topi (fun y_204 hr_y_204 he_y_204 => ?_)
      have hr_y_204 : -2147483648 ≤ y_204 ∧ y_204 ≤ 2147483647 := hr_y_204
      have hli_y_204 : ir (μ.1 136 (μ.1 111 53 - 1)) → y_204 = μ.1 136 (μ.1 111 53 - 1) := fun h9 => (iv_eq hr_y_204 h9).mp he_y_204
      unfold ir at hli_y_204
      refine xb_ti (y := μ.1 136 (μ.1 111 53 - 1)) (hli_y_204 (by omega)) ?_
      have hr_205 : -2147483648 ≤ μ.1 136 (μ.1 111 53 - 1) ∧ μ.1 136 (μ.1 111 53 - 1) ≤ 2147483647 := by omega
      refine xa_iald G (a := 150) (i := μ.1 136 (μ.1 111 53 - 1)) rfl (by have h9 := G.lc (a := 150) (n := 12000) 88 rfl; omega) dX12_works_367 rfl ?_
      refine xb_ti (y := μ.1 150 (μ.1 136 (μ.1 111 53 - 1))) (sv_n _ (fun h9 => absurd h9.1 (by decide))) ?_
      have hr_206 : -2147483648 ≤ μ.1 150 (μ.1 136 (μ.1 111 53 - 1)) ∧ μ.1 150 (μ.1 136 (μ.1 111 53 - 1)) ≤ 2147483647 := by have h9 := G.hr (a := 150) (k := μ.1 136 (μ.1 111 53 - 1)) rfl; rw [(sv_n _ (fun h9 => absurd h9.1 (by decide)))] at h9; exact h9
      refine xb_i2l hx hb (by unfold ir; omega) dX12_works_368 ?_
      refine lv_goto (tgt := 373) hx hb dX12_works_369 (by decide) ?_
      have e_207 : (sv μ 111 53 ((μ.1 111 53) - 1)).1 111 53 = (μ.1 111 53) - 1 := (sv_s _ _ _ _)
      have e_208 : (sv μ 111 53 ((μ.1 111 53) - 1)).1 111 53 = (μ.1 111 53) - 1 := (sv_s _ _ _ _)
      have hMZ_209 : MZ (sv μ 111 53 ((μ.1 111 53) - 1)) := MZ.mn1 hMZ (n := n) (s := μ.1 131 (n - 1)) (hn.symm) (by have h9 : μ.1 131 (n - 1) = μ.1 131 (n - 1) := rfl; exact h9) (by omega) (by have h9 : μ.1 111 53 = μ.1 111 53 := rfl; omega)
      have e_210 : (sv μ 111 53 ((μ.1 111 53) - 1)).1 111 53 = (μ.1 111 53) - 1 := (sv_s _ _ _ _)
      have e_211 : (sv μ 111 53 ((μ.1 111 53) - 1)).1 111 53 = (μ.1 111 53) - 1 := (sv_s _ _ _ _)
      have e_212 : (sv μ 111 53 ((μ.1 111 53) - 1)).1 111 53 = (μ.1 111 53) - 1 := (sv_s _ _ _ _)
      have e_213 : (sv μ 111 53 ((μ.1 111 53) - 1)).1 111 53 = (μ.1 111 53) - 1 := (sv_s _ _ _ _)
      have e_214 : (sv μ 111 53 ((μ.1 111 53) - 1)).1 136 (μ.1 111 53 - 1) = μ.1 136 (μ.1 111 53 - 1) := (sv_n _ (fun h9 => absurd h9.1 (by decide)))
      refine xc_vV G (b := 111) (rest := []) (As := [.int (iv 1), .long (jv (μ.1 150 (μ.1 136 (μ.1 111 53 - 1))))]) (c_X12_push ω l (sv μ 111 53 ((μ.1 111 53) - 1)) 1 (μ.1 150 (μ.1 136 (μ.1 111 53 - 1))) ((μ.1 111 53) - 1) (by unfold ir; omega) (by unfold jr; omega) (by omega) hMZ_209 VV.n1 (by omega)) (wm 10 127 rfl rfl) (wm 10 129 rfl rfl) (wm 0 195 rfl rfl) rfl rfl (by decide) rfl (wm 1 18 rfl rfl) (wm 10 130 rfl rfl) (by decide) hR (by decide) (n := 2) rfl rfl (Nat.le_of_ble_eq_true rfl) hl.1 dX12_works_373 (fun μ215 ρ d0 H locs hp G => ?_)
      obtain ⟨F_216, hp_217, hp_218, hs_219, hs_220, hs_221, ha_222, ha_223⟩ := hp
      refine lv_goto (tgt := 494) hx hb dX12_works_376 (by decide) ?_
      have e_224 : μ215.1 111 83 = μ.1 111 83 := ((hp_217 83 (by decide)).trans (sv_n _ (by decide)))
      have hrx_225 := RX.eq (μ := μ) (ν := μ215) (Eqa.fr (L := [111, 135, 136]) (FrM.tr (FrM.put FrM.rf (by decide)) F_216 (by decide)) (by decide)) (Eqf.fd (L := [53]) (fun j hj => ((hp_217 j (fun h9 => hj ((by decide : ∀ x ∈ ([53] : List Int), x ∈ ([53] : List Int)) j h9))).trans (sv_n _ (fun h9 => hj (by rw [h9.2]; decide))))) (by decide))
      exact xr_v G hret hlk dX12_works_494 ⟨(FrM.tr (FrM.put FrM.rf (by decide)) F_216 (by decide)), (fun j hj => ((hp_217 j (fun h9 => hj ((by decide : ∀ x ∈ ([53] : List Int), x ∈ ([47, 48, 53, 61, 65, 68, 69, 81, 82, 83, 84, 89, 90, 91, 93, 94, 95, 96, 97, 98, 99] : List Int)) j h9))).trans (sv_n _ (fun h9 => hj (by rw [h9.2]; decide))))), (hMI.go (x := i + 1) (S := μ.1 111 53 + (0)) (bl := μ.1 111 61) hp_218 ⟨(hMI.nx (e := 0) (by rw [ho]; unfold nxo; decide) (by rw [ho]; rfl)).1, (hMI.nx (e := 0) (by rw [ho]; unfold nxo; decide) (by rw [ho]; rfl)).2.trans (cem_n (by rw [ho]; unfold nxo; decide) (by rw [ho]; decide))⟩ (Eqa.fr (L := [111, 135, 136]) (FrM.tr (FrM.put FrM.rf (by decide)) F_216 (by decide)) (by decide)) (Eqf.fd (L := [53]) (fun j hj => ((hp_217 j (fun h9 => hj ((by decide : ∀ x ∈ ([53] : List Int), x ∈ ([53] : List Int)) j h9))).trans (sv_n _ (fun h9 => hj (by rw [h9.2]; decide))))) (by decide)) (by have h9 : μ215.1 129 (n - 1) = μ.1 129 (n - 1) := ((F_216.1 129 (by decide) (n - 1)).trans (sv_n _ (fun h9 => absurd h9.1 (by decide)))); have h8 := hMI.2.2.2.2.2.1; omega) (by have h9 : μ215.1 111 53 = ((μ.1 111 53) - 1) + 1 := hs_219; omega) (by have h9 : μ215.1 111 61 = μ.1 111 61 := ((hp_217 61 (by decide)).trans (sv_n _ (by decide))); omega) (by omega))⟩
  by_cases c_29_31 : (μ.1 115 x2) = 31
  · refine xb_tin (tgt := 379) hx hb (by unfold ir; omega) dX12_works_29 (by omega) (off := 350) (by rw [c_29_31]; rfl) (by decide) ?_
    have ho : μ.1 115 x2 = 31 := by omega
    have hlw_ := hMI.low
    have hle_ := hlw_.2.2.2.2.2.2.1
    have hlo_ := hlw_.2.1 (by omega)
    clear hlw_
    have h31_ := hMI.rul.2.2.2.2.2.2.1 ho
    have h31r_ : 0 ≤ μ.1 116 x2 ∧ μ.1 116 x2 ≤ 400 := by have h9 := h31_; unfold sgn at h9; omega
    refine lv_aload_n hx hb dX12_works_379 rfl (lv_at hl 3 rfl) ?_
    refine xc_iV G (b := 111) (rest := []) (As := []) (c_X12_step ω l μ (μ.1 111 83) (by omega) hMZ) (wm 10 122 rfl rfl) (wm 10 124 rfl rfl) (wm 0 194 rfl rfl) rfl rfl (by decide) rfl (wm 1 18 rfl rfl) (wm 10 125 rfl rfl) (by decide) hR (by decide) (n := 0) rfl rfl (Nat.le_of_ble_eq_true rfl) hl.1 dX12_works_380 (fun r_227 μ226 ρ d0 H locs hr_r_227 hp G => ?_)
    have hr_r_227 : -2147483648 ≤ r_227 ∧ r_227 ≤ 2147483647 := hr_r_227
    obtain ⟨F_228, hp_229, hp_230, hp_231⟩ := hp
    refine xb_if_eq (tgt := 494) hx hb (by unfold ir; omega) dX12_works_383 (by decide) (fun c_383 => ?_) (fun c_383 => ?_)
    · exact xr_v G hret hlk dX12_works_494 ⟨(FrM.tr FrM.rf F_228 (by decide)), (fun j hj => (hp_229 j (fun h9 => hj ((by decide : ∀ x ∈ ([83, 84, 93, 94] : List Int), x ∈ ([47, 48, 53, 61, 65, 68, 69, 81, 82, 83, 84, 89, 90, 91, 93, 94, 95, 96, 97, 98, 99] : List Int)) j h9)))), (RES.ov hp_230 (by omega))⟩
    · refine lv_aload_n hx hb dX12_works_386 rfl (lv_at hl 3 rfl) ?_
      refine lv_iload hx hb dX12_works_387 (lv_at hl 0 rfl) ?_
      refine lv_lload_n hx hb dX12_works_389 rfl (lv_at hl 2 rfl) ?_
      refine xb_l2i hx hb dX12_works_390 ?_
      refine xb_topi (fun y_232 hr_y_232 he_y_232 => ?_)
      have hr_y_232 : -2147483648 ≤ y_232 ∧ y_232 ≤ 2147483647 := hr_y_232
      have hli_y_232 : ir (μ.1 116 x2) → y_232 = μ.1 116 x2 := fun h9 => (iv_eq hr_y_232 h9).mp he_y_232
      unfold ir at hli_y_232
      refine xb_ti (y := μ.1 116 x2) (hli_y_232 (by omega)) ?_
      have hr_233 : -2147483648 ≤ μ.1 116 x2 ∧ μ.1 116 x2 ≤ 2147483647 := by omega
      have e_234 : μ226.1 111 53 = μ.1 111 53 := (hp_229 53 (by decide))
      have e_235 : μ226.1 131 (n - 1) = μ.1 131 (n - 1) := (F_228.1 131 (by decide) (n - 1))
      have hrx_236 := RX.eq (μ := μ) (ν := μ226) (Eqa.fr (L := [111]) (FrM.tr FrM.rf F_228 (by decide)) (by decide)) (Eqf.fd (L := [83, 84, 93, 94]) (fun j hj => (hp_229 j (fun h9 => hj ((by decide : ∀ x ∈ ([83, 84, 93, 94] : List Int), x ∈ ([83, 84, 93, 94] : List Int)) j h9)))) (by decide))
      have e_237 : μ226.1 111 47 = n := ((hp_229 47 (by decide)).trans hn.symm)
      have e_238 : μ226.1 131 (n - 1) = μ.1 131 (n - 1) := (F_228.1 131 (by decide) (n - 1))
      have e_239 : μ226.1 111 53 = μ.1 111 53 := (hp_229 53 (by decide))
      refine xc_vV G (b := 111) (rest := []) (As := [.int (iv (μ.1 127 (n - 1))), .int (iv (μ.1 116 x2))]) (c_X12_signs_ ω l μ226 (μ.1 127 (n - 1)) (μ.1 116 x2) n (by unfold ir; omega) (by unfold ir; omega) (by omega) hp_230 (by omega) (by omega) (by have h9 : μ226.1 127 (n - 1) = μ.1 127 (n - 1) := (F_228.1 127 (by decide) (n - 1)); omega) (TQ.mv (hMI.tq (e := -1) (by rw [ho]; unfold nxo; decide) (by rw [ho]; decide) (by rw [ho]; rfl)) (Eqa.fr (L := [111]) (FrM.tr FrM.rf F_228 (by decide)) (by decide)) (Eqf.fd (L := [83, 84, 93, 94]) (fun j hj => (hp_229 j (fun h9 => hj ((by decide : ∀ x ∈ ([83, 84, 93, 94] : List Int), x ∈ ([83, 84, 93, 94] : List Int)) j h9)))) (by decide)) (by have h9 : μ226.1 111 53 = μ.1 111 53 := (hp_229 53 (by decide)); omega)) (by omega) (fun _ => by have h9 := h31_; exact h9)) (wm 11 28 rfl rfl) (wm 11 30 rfl rfl) (wm 0 230 rfl rfl) rfl rfl (by decide) rfl (wm 1 18 rfl rfl) (wm 11 31 rfl rfl) (by decide) hR (by decide) (n := 2) rfl rfl (Nat.le_of_ble_eq_true rfl) hl.1 dX12_works_391 (fun μ240 ρ d0 H locs hp G => ?_)
      obtain ⟨F_241, hp_242, hp_243⟩ := hp
      refine lv_goto (tgt := 494) hx hb dX12_works_394 (by decide) ?_
      exact xr_v G hret hlk dX12_works_494 ⟨(FrM.tr (FrM.tr FrM.rf F_228 (by decide)) F_241 (by decide)), (fun j hj => ((hp_242 j (fun h9 => hj ((by decide : ∀ x ∈ ([47, 53, 61, 81, 82, 83, 84, 90, 91, 93, 94, 95, 96, 97, 98, 99] : List Int), x ∈ ([47, 48, 53, 61, 65, 68, 69, 81, 82, 83, 84, 89, 90, 91, 93, 94, 95, 96, 97, 98, 99] : List Int)) j h9))).trans (hp_229 j (fun h9 => hj ((by decide : ∀ x ∈ ([83, 84, 93, 94] : List Int), x ∈ ([47, 48, 53, 61, 65, 68, 69, 81, 82, 83, 84, 89, 90, 91, 93, 94, 95, 96, 97, 98, 99] : List Int)) j h9))))), (hp_243.le (by omega))⟩
  by_cases c_29_32 : (μ.1 115 x2) = 32
  · refine xb_tin (tgt := 397) hx hb (by unfold ir; omega) dX12_works_29 (by omega) (off := 368) (by rw [c_29_32]; rfl) (by decide) ?_
    have ho : μ.1 115 x2 = 32 := by omega
    have hlw_ := hMI.low
    have hle_ := hlw_.2.2.2.2.2.2.1
    have hlo_ := hlw_.1 (by omega)
    clear hlw_
    refine lv_aload_n hx hb dX12_works_397 rfl (lv_at hl 3 rfl) ?_
    refine xc_iV G (b := 111) (rest := []) (As := []) (c_X12_step ω l μ (μ.1 111 83) (by omega) hMZ) (wm 10 122 rfl rfl) (wm 10 124 rfl rfl) (wm 0 194 rfl rfl) rfl rfl (by decide) rfl (wm 1 18 rfl rfl) (wm 10 125 rfl rfl) (by decide) hR (by decide) (n := 0) rfl rfl (Nat.le_of_ble_eq_true rfl) hl.1 dX12_works_398 (fun r_245 μ244 ρ d0 H locs hr_r_245 hp G => ?_)
    have hr_r_245 : -2147483648 ≤ r_245 ∧ r_245 ≤ 2147483647 := hr_r_245
    obtain ⟨F_246, hp_247, hp_248, hp_249⟩ := hp
    refine xb_if_eq (tgt := 494) hx hb (by unfold ir; omega) dX12_works_401 (by decide) (fun c_401 => ?_) (fun c_401 => ?_)
    · exact xr_v G hret hlk dX12_works_494 ⟨(FrM.tr FrM.rf F_246 (by decide)), (fun j hj => (hp_247 j (fun h9 => hj ((by decide : ∀ x ∈ ([83, 84, 93, 94] : List Int), x ∈ ([47, 48, 53, 61, 65, 68, 69, 81, 82, 83, 84, 89, 90, 91, 93, 94, 95, 96, 97, 98, 99] : List Int)) j h9)))), (RES.ov hp_248 (by omega))⟩
    · refine lv_aload_n hx hb dX12_works_404 rfl (lv_at hl 3 rfl) ?_
      refine lv_iload hx hb dX12_works_405 (lv_at hl 0 rfl) ?_
      have e_250 : μ244.1 111 53 = μ.1 111 53 := (hp_247 53 (by decide))
      have e_251 : μ244.1 131 (n - 1) = μ.1 131 (n - 1) := (F_246.1 131 (by decide) (n - 1))
      have hrx_252 := RX.eq (μ := μ) (ν := μ244) (Eqa.fr (L := [111]) (FrM.tr FrM.rf F_246 (by decide)) (by decide)) (Eqf.fd (L := [83, 84, 93, 94]) (fun j hj => (hp_247 j (fun h9 => hj ((by decide : ∀ x ∈ ([83, 84, 93, 94] : List Int), x ∈ ([83, 84, 93, 94] : List Int)) j h9)))) (by decide))
      have e_253 : μ244.1 111 47 = n := ((hp_247 47 (by decide)).trans hn.symm)
      have e_254 : μ244.1 131 (n - 1) = μ.1 131 (n - 1) := (F_246.1 131 (by decide) (n - 1))
      have e_255 : μ244.1 111 53 = μ.1 111 53 := (hp_247 53 (by decide))
      refine xc_vV G (b := 111) (rest := []) (As := [.int (iv (μ.1 127 (n - 1)))]) (c_X12_minus ω l μ244 (μ.1 127 (n - 1)) n (by unfold ir; omega) (by omega) hp_248 (by omega) (by omega) (by have h9 : μ244.1 127 (n - 1) = μ.1 127 (n - 1) := (F_246.1 127 (by decide) (n - 1)); omega) (TQ.mv (hMI.tq (e := 0) (by rw [ho]; unfold nxo; decide) (by rw [ho]; decide) (by rw [ho]; rfl)) (Eqa.fr (L := [111]) (FrM.tr FrM.rf F_246 (by decide)) (by decide)) (Eqf.fd (L := [83, 84, 93, 94]) (fun j hj => (hp_247 j (fun h9 => hj ((by decide : ∀ x ∈ ([83, 84, 93, 94] : List Int), x ∈ ([83, 84, 93, 94] : List Int)) j h9)))) (by decide)) (by have h9 : μ244.1 111 53 = μ.1 111 53 := (hp_247 53 (by decide)); omega)) (by omega)) (wm 11 48 rfl rfl) (wm 11 50 rfl rfl) (wm 0 233 rfl rfl) rfl rfl (by decide) rfl (wm 1 18 rfl rfl) (wm 11 51 rfl rfl) (by decide) hR (by decide) (n := 1) rfl rfl (Nat.le_of_ble_eq_true rfl) hl.1 dX12_works_407 (fun μ256 ρ d0 H locs hp G => ?_)
      obtain ⟨F_257, hp_258, hp_259⟩ := hp
      refine lv_goto (tgt := 494) hx hb dX12_works_410 (by decide) ?_
      exact xr_v G hret hlk dX12_works_494 ⟨(FrM.tr (FrM.tr FrM.rf F_246 (by decide)) F_257 (by decide)), (fun j hj => ((hp_258 j (fun h9 => hj ((by decide : ∀ x ∈ ([47, 53, 61, 81, 82, 83, 84, 90, 91, 93, 94, 95, 96, 97, 98, 99] : List Int), x ∈ ([47, 48, 53, 61, 65, 68, 69, 81, 82, 83, 84, 89, 90, 91, 93, 94, 95, 96, 97, 98, 99] : List Int)) j h9))).trans (hp_247 j (fun h9 => hj ((by decide : ∀ x ∈ ([83, 84, 93, 94] : List Int), x ∈ ([47, 48, 53, 61, 65, 68, 69, 81, 82, 83, 84, 89, 90, 91, 93, 94, 95, 96, 97, 98, 99] : List Int)) j h9))))), (hp_259.le (by omega))⟩
  have c_29_33 : (μ.1 115 x2) = 33 := by omega
  refine xb_tin (tgt := 413) hx hb (by unfold ir; omega) dX12_works_29 (by omega) (off := 384) (by rw [c_29_33]; rfl) (by decide) ?_
  have ho : μ.1 115 x2 = 33 := by omega
  have hlw_ := hMI.low
  have hle_ := hlw_.2.2.2.2.2.2.1
  have hlo_ := hlw_.2.2.2.2.2.1 ho
  clear hlw_
  have hs1_ := hMZ.stv (μ.1 111 53 - 1) (by omega) (by omega)
  have hfar_ := hMI.far (d := μ.1 117 x2) (Or.inr (Or.inl ⟨ho, rfl⟩))
  refine lv_aload_n hx hb dX12_works_413 rfl (lv_at hl 3 rfl) ?_
  refine xc_iV G (b := 111) (rest := []) (As := []) (c_X12_top ω l μ (μ.1 111 53) (by omega) (by omega)) (wm 10 219 rfl rfl) (wm 10 221 rfl rfl) (wm 0 218 rfl rfl) rfl rfl (by decide) rfl (wm 1 18 rfl rfl) (wm 10 222 rfl rfl) (by decide) hR (by decide) (n := 0) rfl rfl (Nat.le_of_ble_eq_true rfl) hl.1 dX12_works_414 (fun r_261 μ260 ρ d0 H locs hr_r_261 hp G => ?_)
  have hr_r_261 : -2147483648 ≤ r_261 ∧ r_261 ≤ 2147483647 := hr_r_261
  obtain ⟨hsm_262, hp_263⟩ := hp
  have hsm_262 := Eq.symm hsm_262
  subst hsm_262
  refine xb_ti (y := μ.1 135 ((μ.1 111 53) - 1)) hp_263 ?_
  have hr_264 : -2147483648 ≤ μ.1 135 ((μ.1 111 53) - 1) ∧ μ.1 135 ((μ.1 111 53) - 1) ≤ 2147483647 := by omega
  refine lv_iconst (v := iv 4) hx hb dX12_works_417 rfl ?_
  refine xb_icmp_ne (tgt := 494) hx hb (by unfold ir; omega) (by unfold ir; omega) dX12_works_418 (by decide) (fun c_418 => ?_) (fun c_418 => ?_)
  · have hrx_265 := RX.eq (μ := μ) (ν := μ) (Eqa.fr (L := []) FrM.rf (by decide)) (Eqf.fd (L := []) (fun j hj => rfl) (by decide))
    exact xr_v G hret hlk dX12_works_494 ⟨FrM.rf, (fun j hj => rfl), (hMI.go (x := i + 1) (S := μ.1 111 53 + (0)) (bl := μ.1 111 61) hMZ ⟨(hMI.nx (e := 0) (by rw [ho]; unfold nxo; decide) (by rw [ho]; rfl)).1, (hMI.nx (e := 0) (by rw [ho]; unfold nxo; decide) (by rw [ho]; rfl)).2.trans (cem_n (by rw [ho]; unfold nxo; decide) (by rw [ho]; decide))⟩ (Eqa.fr (L := []) FrM.rf (by decide)) (Eqf.fd (L := []) (fun j hj => rfl) (by decide)) (by have h9 : μ.1 129 (n - 1) = μ.1 129 (n - 1) := rfl; have h8 := hMI.2.2.2.2.2.1; omega) (by have h9 : μ.1 111 53 = μ.1 111 53 := rfl; omega) (by have h9 : μ.1 111 61 = μ.1 111 61 := rfl; omega) (by omega))⟩
  · refine lv_aload_n hx hb dX12_works_421 rfl (lv_at hl 3 rfl) ?_
    refine xa_getr G fd_X12 (a := 111) (x := 136) 52 rfl (by decide) rfl (wm 7 201 rfl rfl) ⟨rfl, rfl, rfl⟩ dX12_works_422 rfl (G.sk 134 rfl) (by decide) rfl ?_
    refine lv_aload_n hx hb dX12_works_425 rfl (lv_at hl 3 rfl) ?_
    refine xa_geti G fd_X12 (a := 111) (x := μ.1 111 53) 53 rfl (by decide) rfl (wm 7 202 rfl rfl) ⟨rfl, rfl, rfl⟩ dX12_works_426 rfl rfl ?_
    have hr_266 : -2147483648 ≤ μ.1 111 53 ∧ μ.1 111 53 ≤ 2147483647 := by have h9 := G.hr (a := 111) (k := 53) rfl; exact h9
    refine lv_iconst (v := iv 1) hx hb dX12_works_429 rfl ?_
    refine xb_isub hx hb dX12_works_430 ?_
    refine xa_lald G (a := 136) (i := (μ.1 111 53) - 1) rfl (by have h9 := G.lc (a := 136) (n := 9000) 74 rfl; omega) dX12_works_431 rfl ?_
    refine xb_tl (y := μ.1 136 (μ.1 111 53 - 1)) rfl ?_
    have hj_267 : jr (μ.1 136 (μ.1 111 53 - 1)) := (by have h9 := G.hj (a := 136) (k := (μ.1 111 53) - 1) rfl; exact h9)
    refine lv_lstore (lv' := [(7, .long (jv (μ.1 136 (μ.1 111 53 - 1)))), (6, .int (iv (μ.1 127 (n - 1)))), (5, .int (iv (μ.1 117 x2))), (3, .long (jv (μ.1 116 x2))), (0, .ref (oP ω 111)), (1, .int (iv (n - 1))), (2, .int (iv x2))]) hx hb dX12_works_432 hl (by decide) rfl (fun ls hl => ?_)
    refine lv_aload_n hx hb dX12_works_434 rfl (lv_at hl 4 rfl) ?_
    refine lv_dup hx hb dX12_works_435 rfl ?_
    refine xa_geti G fd_X12 (a := 111) (x := μ.1 111 53) 53 rfl (by decide) rfl (wm 7 202 rfl rfl) ⟨rfl, rfl, rfl⟩ dX12_works_436 rfl rfl ?_
    refine lv_iload hx hb dX12_works_439 (lv_at hl 2 rfl) ?_
    refine lv_iconst (v := iv 1) hx hb dX12_works_441 rfl ?_
    refine xb_iadd hx hb dX12_works_442 ?_
    refine xb_isub hx hb dX12_works_443 ?_
    refine xa_puti G fd_X12 (a := 111) (x := (μ.1 111 53) - ((μ.1 117 x2) + 1)) 53 (kz := 53) rfl rfl (by decide) rfl (by unfold ir; omega) (wm 7 202 rfl rfl) ⟨rfl, rfl, rfl, rfl⟩ rfl dX12_works_444 rfl (fun H locs G => ?_)
    refine lv_aload_n hx hb dX12_works_447 rfl (lv_at hl 4 rfl) ?_
    refine lv_iconst (v := iv 4) hx hb dX12_works_448 rfl ?_
    refine lv_lload hx hb dX12_works_449 (lv_at hl 0 rfl) ?_
    have e_268 : (sv μ 111 53 ((μ.1 111 53) - ((μ.1 117 x2) + 1))).1 111 53 = (μ.1 111 53) - ((μ.1 117 x2) + 1) := (sv_s _ _ _ _)
    have e_269 : (sv μ 111 53 ((μ.1 111 53) - ((μ.1 117 x2) + 1))).1 117 x2 = μ.1 117 x2 := (sv_n _ (fun h9 => absurd h9.1 (by decide)))
    have e_270 : (sv μ 111 53 ((μ.1 111 53) - ((μ.1 117 x2) + 1))).1 111 53 = (μ.1 111 53) - ((μ.1 117 x2) + 1) := (sv_s _ _ _ _)
    have hMZ_271 : MZ (sv μ 111 53 ((μ.1 111 53) - ((μ.1 117 x2) + 1))) := MZ.mn1 hMZ (n := n) (s := μ.1 131 (n - 1)) (hn.symm) (by have h9 : μ.1 131 (n - 1) = μ.1 131 (n - 1) := rfl; exact h9) (by omega) (by have h9 : μ.1 111 53 = μ.1 111 53 := rfl; omega)
    have e_272 : (sv μ 111 53 ((μ.1 111 53) - ((μ.1 117 x2) + 1))).1 111 53 = (μ.1 111 53) - ((μ.1 117 x2) + 1) := (sv_s _ _ _ _)
    have e_273 : (sv μ 111 53 ((μ.1 111 53) - ((μ.1 117 x2) + 1))).1 117 x2 = μ.1 117 x2 := (sv_n _ (fun h9 => absurd h9.1 (by decide)))
    have e_274 : (sv μ 111 53 ((μ.1 111 53) - ((μ.1 117 x2) + 1))).1 111 53 = (μ.1 111 53) - ((μ.1 117 x2) + 1) := (sv_s _ _ _ _)
    have e_275 : (sv μ 111 53 ((μ.1 111 53) - ((μ.1 117 x2) + 1))).1 117 x2 = μ.1 117 x2 := (sv_n _ (fun h9 => absurd h9.1 (by decide)))
    have e_276 : (sv μ 111 53 ((μ.1 111 53) - ((μ.1 117 x2) + 1))).1 111 53 = (μ.1 111 53) - ((μ.1 117 x2) + 1) := (sv_s _ _ _ _)
    have e_277 : (sv μ 111 53 ((μ.1 111 53) - ((μ.1 117 x2) + 1))).1 117 x2 = μ.1 117 x2 := (sv_n _ (fun h9 => absurd h9.1 (by decide)))
    have e_278 : (sv μ 111 53 ((μ.1 111 53) - ((μ.1 117 x2) + 1))).1 111 53 = (μ.1 111 53) - ((μ.1 117 x2) + 1) := (sv_s _ _ _ _)
    have e_279 : (sv μ 111 53 ((μ.1 111 53) - ((μ.1 117 x2) + 1))).1 117 x2 = μ.1 117 x2 := (sv_n _ (fun h9 => absurd h9.1 (by decide)))
    have e_280 : (sv μ 111 53 ((μ.1 111 53) - ((μ.1 117 x2) + 1))).1 136 (μ.1 111 53 - 1) = μ.1 136 (μ.1 111 53 - 1) := (sv_n _ (fun h9 => absurd h9.1 (by decide)))
    refine xc_vV G (b := 111) (rest := []) (As := [.int (iv 4), .long (jv (μ.1 136 (μ.1 111 53 - 1)))]) (c_X12_push ω l (sv μ 111 53 ((μ.1 111 53) - ((μ.1 117 x2) + 1))) 4 (μ.1 136 (μ.1 111 53 - 1)) ((μ.1 111 53) - ((μ.1 117 x2) + 1)) (by unfold ir; omega) hj_267 (by omega) hMZ_271 (VV.n4 (by rw [(show (sv μ 111 53 ((μ.1 111 53) - ((μ.1 117 x2) + 1))).1 111 82 = μ.1 111 82 from (sv_n _ (by decide)))]; exact hs1_.2.2.2 (by omega))) (by omega)) (wm 10 127 rfl rfl) (wm 10 129 rfl rfl) (wm 0 195 rfl rfl) rfl rfl (by decide) rfl (wm 1 18 rfl rfl) (wm 10 130 rfl rfl) (by decide) hR (by decide) (n := 2) rfl rfl (Nat.le_of_ble_eq_true rfl) hl.1 dX12_works_451 (fun μ281 ρ d0 H locs hp G => ?_)
    obtain ⟨F_282, hp_283, hp_284, hs_285, hs_286, hs_287, ha_288, ha_289⟩ := hp
    refine lv_aload_n hx hb dX12_works_454 rfl (lv_at hl 4 rfl) ?_
    refine xa_getr G fd_X12 (a := 111) (x := 129) 43 rfl (by decide) rfl (wm 7 192 rfl rfl) ⟨rfl, rfl, rfl⟩ dX12_works_455 rfl (G.sk 127 rfl) (by decide) rfl ?_
    refine lv_iload_n hx hb dX12_works_458 rfl (lv_at hl 5 rfl) ?_
    refine lv_lload_n hx hb dX12_works_459 rfl (lv_at hl 3 rfl) ?_
    refine xb_l2i hx hb dX12_works_460 ?_
    refine xb_topi (fun y_290 hr_y_290 he_y_290 => ?_)
    have hr_y_290 : -2147483648 ≤ y_290 ∧ y_290 ≤ 2147483647 := hr_y_290
    have hli_y_290 : ir (μ.1 116 x2) → y_290 = μ.1 116 x2 := fun h9 => (iv_eq hr_y_290 h9).mp he_y_290
    unfold ir at hli_y_290
    refine xb_ti (y := μ.1 116 x2) (hli_y_290 (by omega)) ?_
    have hr_291 : -2147483648 ≤ μ.1 116 x2 ∧ μ.1 116 x2 ≤ 2147483647 := by omega
    refine xa_iast G (a := 129) (i := n - 1) (x := μ.1 116 x2) rfl (by have h9 := G.lc (a := 129) (n := 26) 67 rfl; omega) (by unfold ir; omega) dX12_works_461 rfl (fun H locs G => ?_)
    refine lv_goto (tgt := 494) hx hb dX12_works_462 (by decide) ?_
    have e_292 : (sv μ281 129 (n - 1) (μ.1 116 x2)).1 111 83 = μ.1 111 83 := ((sv_n _ (fun h9 => absurd h9.1 (by decide))).trans ((hp_283 83 (by decide)).trans (sv_n _ (by decide))))
    have hrx_293 := RX.eq (μ := μ) (ν := (sv μ281 129 (n - 1) (μ.1 116 x2))) (Eqa.fr (L := [129, 111, 135, 136]) (FrM.put (FrM.tr (FrM.put FrM.rf (by decide)) F_282 (by decide)) (by decide)) (by decide)) (Eqf.fd (L := [53]) (fun j hj => ((sv_n _ (fun h9 => absurd h9.1 (by decide))).trans ((hp_283 j (fun h9 => hj ((by decide : ∀ x ∈ ([53] : List Int), x ∈ ([53] : List Int)) j h9))).trans (sv_n _ (fun h9 => hj (by rw [h9.2]; decide)))))) (by decide))
    have hMZ_294 : MZ (sv μ281 129 (n - 1) (μ.1 116 x2)) := MZ.pc hp_284 (by rw [show μ281.1 111 47 = n from ((hp_283 47 (by decide)).trans ((sv_n _ (by decide)).trans hn.symm))])
    exact xr_v G hret hlk dX12_works_494 ⟨(FrM.put (FrM.tr (FrM.put FrM.rf (by decide)) F_282 (by decide)) (by decide)), (fun j hj => ((sv_n _ (fun h9 => absurd h9.1 (by decide))).trans ((hp_283 j (fun h9 => hj ((by decide : ∀ x ∈ ([53] : List Int), x ∈ ([47, 48, 53, 61, 65, 68, 69, 81, 82, 83, 84, 89, 90, 91, 93, 94, 95, 96, 97, 98, 99] : List Int)) j h9))).trans (sv_n _ (fun h9 => hj (by rw [h9.2]; decide)))))), (hMI.go (x := μ.1 116 x2) (S := μ.1 111 53 - μ.1 117 x2) (bl := μ.1 111 61) hMZ_294 hfar_.1 (Eqa.fr (L := [129, 111, 135, 136]) (FrM.put (FrM.tr (FrM.put FrM.rf (by decide)) F_282 (by decide)) (by decide)) (by decide)) (Eqf.fd (L := [53]) (fun j hj => ((sv_n _ (fun h9 => absurd h9.1 (by decide))).trans ((hp_283 j (fun h9 => hj ((by decide : ∀ x ∈ ([53] : List Int), x ∈ ([53] : List Int)) j h9))).trans (sv_n _ (fun h9 => hj (by rw [h9.2]; decide)))))) (by decide)) (by have h9 : (sv μ281 129 (n - 1) (μ.1 116 x2)).1 129 (n - 1) = μ.1 116 x2 := (sv_s _ _ _ _); omega) (by have h9 : (sv μ281 129 (n - 1) (μ.1 116 x2)).1 111 53 = ((μ.1 111 53) - ((μ.1 117 x2) + 1)) + 1 := ((sv_n _ (fun h9 => absurd h9.1 (by decide))).trans hs_285); omega) (by have h9 : (sv μ281 129 (n - 1) (μ.1 116 x2)).1 111 61 = μ.1 111 61 := ((sv_n _ (fun h9 => absurd h9.1 (by decide))).trans ((hp_283 61 (by decide)).trans (sv_n _ (by decide)))); omega) (by omega))⟩
