abbrev cX12_acts : ByteArray := prog_14_method_115_code
def yX12_acts : MethodName := ⟨RX12, "acts", "(II)V"⟩
theorem dX12_acts_0 : decode cX12_acts 0 = .ok (.aload_n 0, 1) := by decide +kernel
theorem dX12_acts_1 : decode cX12_acts 1 = .ok (.getfield 24, 3) := by decide +kernel
theorem dX12_acts_4 : decode cX12_acts 4 = .ok (.iload_n 2, 1) := by decide +kernel
theorem dX12_acts_5 : decode cX12_acts 5 = .ok (.laload, 1) := by decide +kernel
theorem dX12_acts_6 : decode cX12_acts 6 = .ok (.lstore_n 3, 1) := by decide +kernel
theorem dX12_acts_7 : decode cX12_acts 7 = .ok (.aload_n 0, 1) := by decide +kernel
theorem dX12_acts_8 : decode cX12_acts 8 = .ok (.getfield 27, 3) := by decide +kernel
theorem dX12_acts_11 : decode cX12_acts 11 = .ok (.iload_n 2, 1) := by decide +kernel
theorem dX12_acts_12 : decode cX12_acts 12 = .ok (.iaload, 1) := by decide +kernel
theorem dX12_acts_13 : decode cX12_acts 13 = .ok (.istore 5, 2) := by decide +kernel
theorem dX12_acts_15 : decode cX12_acts 15 = .ok (.aload_n 0, 1) := by decide +kernel
theorem dX12_acts_16 : decode cX12_acts 16 = .ok (.getfield 57, 3) := by decide +kernel
theorem dX12_acts_19 : decode cX12_acts 19 = .ok (.iload_n 1, 1) := by decide +kernel
theorem dX12_acts_20 : decode cX12_acts 20 = .ok (.iaload, 1) := by decide +kernel
theorem dX12_acts_21 : decode cX12_acts 21 = .ok (.istore 6, 2) := by decide +kernel
theorem dX12_acts_23 : decode cX12_acts 23 = .ok (.aload_n 0, 1) := by decide +kernel
theorem dX12_acts_24 : decode cX12_acts 24 = .ok (.getfield 21, 3) := by decide +kernel
theorem dX12_acts_27 : decode cX12_acts 27 = .ok (.iload_n 2, 1) := by decide +kernel
theorem dX12_acts_28 : decode cX12_acts 28 = .ok (.iaload, 1) := by decide +kernel
theorem dX12_acts_29 : decode cX12_acts 29 = .ok (.tableswitch 640 0 20 #[99, 117, 126, 135, 168, 205, 214, 250, 299, 310, 346, 418, 455, 467, 470, 481, 494, 529, 585, 592, 603], 99) := by decide +kernel
theorem dX12_acts_128 : decode cX12_acts 128 = .ok (.aload_n 0, 1) := by decide +kernel
theorem dX12_acts_129 : decode cX12_acts 129 = .ok (.invokevirtual 606, 3) := by decide +kernel
theorem dX12_acts_132 : decode cX12_acts 132 = .ok (.ifCond .eq 563, 3) := by decide +kernel
theorem dX12_acts_135 : decode cX12_acts 135 = .ok (.aload_n 0, 1) := by decide +kernel
theorem dX12_acts_136 : decode cX12_acts 136 = .ok (.getfield 66, 3) := by decide +kernel
theorem dX12_acts_139 : decode cX12_acts 139 = .ok (.iload_n 1, 1) := by decide +kernel
theorem dX12_acts_140 : decode cX12_acts 140 = .ok (.lload_n 3, 1) := by decide +kernel
theorem dX12_acts_141 : decode cX12_acts 141 = .ok (.l2i, 1) := by decide +kernel
theorem dX12_acts_142 : decode cX12_acts 142 = .ok (.iastore, 1) := by decide +kernel
theorem dX12_acts_143 : decode cX12_acts 143 = .ok (.goto 552, 3) := by decide +kernel
theorem dX12_acts_146 : decode cX12_acts 146 = .ok (.aload_n 0, 1) := by decide +kernel
theorem dX12_acts_147 : decode cX12_acts 147 = .ok (.iconst 1, 1) := by decide +kernel
theorem dX12_acts_148 : decode cX12_acts 148 = .ok (.lload_n 3, 1) := by decide +kernel
theorem dX12_acts_149 : decode cX12_acts 149 = .ok (.invokevirtual 577, 3) := by decide +kernel
theorem dX12_acts_152 : decode cX12_acts 152 = .ok (.goto 543, 3) := by decide +kernel
theorem dX12_acts_155 : decode cX12_acts 155 = .ok (.aload_n 0, 1) := by decide +kernel
theorem dX12_acts_156 : decode cX12_acts 156 = .ok (.iconst 0, 1) := by decide +kernel
theorem dX12_acts_157 : decode cX12_acts 157 = .ok (.lconst 0, 1) := by decide +kernel
theorem dX12_acts_158 : decode cX12_acts 158 = .ok (.invokevirtual 577, 3) := by decide +kernel
theorem dX12_acts_161 : decode cX12_acts 161 = .ok (.goto 534, 3) := by decide +kernel
theorem dX12_acts_164 : decode cX12_acts 164 = .ok (.aload_n 0, 1) := by decide +kernel
theorem dX12_acts_165 : decode cX12_acts 165 = .ok (.aload_n 0, 1) := by decide +kernel
theorem dX12_acts_166 : decode cX12_acts 166 = .ok (.getfield 75, 3) := by decide +kernel
theorem dX12_acts_169 : decode cX12_acts 169 = .ok (.sipush 320, 3) := by decide +kernel
theorem dX12_acts_172 : decode cX12_acts 172 = .ok (.iload_n 1, 1) := by decide +kernel
theorem dX12_acts_173 : decode cX12_acts 173 = .ok (.imul, 1) := by decide +kernel
theorem dX12_acts_174 : decode cX12_acts 174 = .ok (.lload_n 3, 1) := by decide +kernel
theorem dX12_acts_175 : decode cX12_acts 175 = .ok (.l2i, 1) := by decide +kernel
theorem dX12_acts_176 : decode cX12_acts 176 = .ok (.iadd, 1) := by decide +kernel
theorem dX12_acts_177 : decode cX12_acts 177 = .ok (.baload, 1) := by decide +kernel
theorem dX12_acts_178 : decode cX12_acts 178 = .ok (.aload_n 0, 1) := by decide +kernel
theorem dX12_acts_179 : decode cX12_acts 179 = .ok (.getfield 79, 3) := by decide +kernel
theorem dX12_acts_182 : decode cX12_acts 182 = .ok (.sipush 320, 3) := by decide +kernel
theorem dX12_acts_185 : decode cX12_acts 185 = .ok (.iload_n 1, 1) := by decide +kernel
theorem dX12_acts_186 : decode cX12_acts 186 = .ok (.imul, 1) := by decide +kernel
theorem dX12_acts_187 : decode cX12_acts 187 = .ok (.lload_n 3, 1) := by decide +kernel
theorem dX12_acts_188 : decode cX12_acts 188 = .ok (.l2i, 1) := by decide +kernel
theorem dX12_acts_189 : decode cX12_acts 189 = .ok (.iadd, 1) := by decide +kernel
theorem dX12_acts_190 : decode cX12_acts 190 = .ok (.laload, 1) := by decide +kernel
theorem dX12_acts_191 : decode cX12_acts 191 = .ok (.invokevirtual 577, 3) := by decide +kernel
theorem dX12_acts_194 : decode cX12_acts 194 = .ok (.goto 501, 3) := by decide +kernel
theorem dX12_acts_197 : decode cX12_acts 197 = .ok (.aload_n 0, 1) := by decide +kernel
theorem dX12_acts_198 : decode cX12_acts 198 = .ok (.dup, 1) := by decide +kernel
theorem dX12_acts_199 : decode cX12_acts 199 = .ok (.getfield 574, 3) := by decide +kernel
theorem dX12_acts_202 : decode cX12_acts 202 = .ok (.iconst 1, 1) := by decide +kernel
theorem dX12_acts_203 : decode cX12_acts 203 = .ok (.isub, 1) := by decide +kernel
theorem dX12_acts_204 : decode cX12_acts 204 = .ok (.putfield 574, 3) := by decide +kernel
theorem dX12_acts_207 : decode cX12_acts 207 = .ok (.aload_n 0, 1) := by decide +kernel
theorem dX12_acts_208 : decode cX12_acts 208 = .ok (.lload_n 3, 1) := by decide +kernel
theorem dX12_acts_209 : decode cX12_acts 209 = .ok (.l2i, 1) := by decide +kernel
theorem dX12_acts_210 : decode cX12_acts 210 = .ok (.aload_n 0, 1) := by decide +kernel
theorem dX12_acts_211 : decode cX12_acts 211 = .ok (.getfield 82, 3) := by decide +kernel
theorem dX12_acts_214 : decode cX12_acts 214 = .ok (.aload_n 0, 1) := by decide +kernel
theorem dX12_acts_215 : decode cX12_acts 215 = .ok (.getfield 574, 3) := by decide +kernel
theorem dX12_acts_218 : decode cX12_acts 218 = .ok (.baload, 1) := by decide +kernel
theorem dX12_acts_219 : decode cX12_acts 219 = .ok (.aload_n 0, 1) := by decide +kernel
theorem dX12_acts_220 : decode cX12_acts 220 = .ok (.getfield 85, 3) := by decide +kernel
theorem dX12_acts_223 : decode cX12_acts 223 = .ok (.aload_n 0, 1) := by decide +kernel
theorem dX12_acts_224 : decode cX12_acts 224 = .ok (.getfield 574, 3) := by decide +kernel
theorem dX12_acts_227 : decode cX12_acts 227 = .ok (.laload, 1) := by decide +kernel
theorem dX12_acts_228 : decode cX12_acts 228 = .ok (.invokevirtual 654, 3) := by decide +kernel
theorem dX12_acts_231 : decode cX12_acts 231 = .ok (.goto 464, 3) := by decide +kernel
theorem dX12_acts_234 : decode cX12_acts 234 = .ok (.aload_n 0, 1) := by decide +kernel
theorem dX12_acts_235 : decode cX12_acts 235 = .ok (.iload 6, 2) := by decide +kernel
theorem dX12_acts_237 : decode cX12_acts 237 = .ok (.invokevirtual 696, 3) := by decide +kernel
theorem dX12_acts_240 : decode cX12_acts 240 = .ok (.goto 455, 3) := by decide +kernel
theorem dX12_acts_243 : decode cX12_acts 243 = .ok (.aload_n 0, 1) := by decide +kernel
theorem dX12_acts_244 : decode cX12_acts 244 = .ok (.dup, 1) := by decide +kernel
theorem dX12_acts_245 : decode cX12_acts 245 = .ok (.getfield 574, 3) := by decide +kernel
theorem dX12_acts_248 : decode cX12_acts 248 = .ok (.iconst 1, 1) := by decide +kernel
theorem dX12_acts_249 : decode cX12_acts 249 = .ok (.isub, 1) := by decide +kernel
theorem dX12_acts_250 : decode cX12_acts 250 = .ok (.putfield 574, 3) := by decide +kernel
theorem dX12_acts_253 : decode cX12_acts 253 = .ok (.aload_n 0, 1) := by decide +kernel
theorem dX12_acts_254 : decode cX12_acts 254 = .ok (.getfield 82, 3) := by decide +kernel
theorem dX12_acts_257 : decode cX12_acts 257 = .ok (.aload_n 0, 1) := by decide +kernel
theorem dX12_acts_258 : decode cX12_acts 258 = .ok (.getfield 574, 3) := by decide +kernel
theorem dX12_acts_261 : decode cX12_acts 261 = .ok (.baload, 1) := by decide +kernel
theorem dX12_acts_262 : decode cX12_acts 262 = .ok (.iconst 4, 1) := by decide +kernel
theorem dX12_acts_263 : decode cX12_acts 263 = .ok (.if_icmp .ne 432, 3) := by decide +kernel
theorem dX12_acts_266 : decode cX12_acts 266 = .ok (.aload_n 0, 1) := by decide +kernel
theorem dX12_acts_267 : decode cX12_acts 267 = .ok (.dup, 1) := by decide +kernel
theorem dX12_acts_268 : decode cX12_acts 268 = .ok (.getfield 699, 3) := by decide +kernel
theorem dX12_acts_271 : decode cX12_acts 271 = .ok (.iconst 1, 1) := by decide +kernel
theorem dX12_acts_272 : decode cX12_acts 272 = .ok (.iadd, 1) := by decide +kernel
theorem dX12_acts_273 : decode cX12_acts 273 = .ok (.putfield 699, 3) := by decide +kernel
theorem dX12_acts_276 : decode cX12_acts 276 = .ok (.goto 419, 3) := by decide +kernel
theorem dX12_acts_279 : decode cX12_acts 279 = .ok (.aload_n 0, 1) := by decide +kernel
theorem dX12_acts_280 : decode cX12_acts 280 = .ok (.invokevirtual 702, 3) := by decide +kernel
theorem dX12_acts_283 : decode cX12_acts 283 = .ok (.ifCond .ne 6, 3) := by decide +kernel
theorem dX12_acts_286 : decode cX12_acts 286 = .ok (.goto 409, 3) := by decide +kernel
theorem dX12_acts_289 : decode cX12_acts 289 = .ok (.aload_n 0, 1) := by decide +kernel
theorem dX12_acts_290 : decode cX12_acts 290 = .ok (.dup, 1) := by decide +kernel
theorem dX12_acts_291 : decode cX12_acts 291 = .ok (.getfield 574, 3) := by decide +kernel
theorem dX12_acts_294 : decode cX12_acts 294 = .ok (.iconst 1, 1) := by decide +kernel
theorem dX12_acts_295 : decode cX12_acts 295 = .ok (.isub, 1) := by decide +kernel
theorem dX12_acts_296 : decode cX12_acts 296 = .ok (.putfield 574, 3) := by decide +kernel
theorem dX12_acts_299 : decode cX12_acts 299 = .ok (.aload_n 0, 1) := by decide +kernel
theorem dX12_acts_300 : decode cX12_acts 300 = .ok (.iload 6, 2) := by decide +kernel
theorem dX12_acts_302 : decode cX12_acts 302 = .ok (.aload_n 0, 1) := by decide +kernel
theorem dX12_acts_303 : decode cX12_acts 303 = .ok (.getfield 85, 3) := by decide +kernel
theorem dX12_acts_306 : decode cX12_acts 306 = .ok (.aload_n 0, 1) := by decide +kernel
theorem dX12_acts_307 : decode cX12_acts 307 = .ok (.getfield 574, 3) := by decide +kernel
theorem dX12_acts_310 : decode cX12_acts 310 = .ok (.laload, 1) := by decide +kernel
theorem dX12_acts_311 : decode cX12_acts 311 = .ok (.invokevirtual 705, 3) := by decide +kernel
theorem dX12_acts_314 : decode cX12_acts 314 = .ok (.ifCond .eq 381, 3) := by decide +kernel
theorem dX12_acts_317 : decode cX12_acts 317 = .ok (.aload_n 0, 1) := by decide +kernel
theorem dX12_acts_318 : decode cX12_acts 318 = .ok (.getfield 63, 3) := by decide +kernel
theorem dX12_acts_321 : decode cX12_acts 321 = .ok (.iload_n 1, 1) := by decide +kernel
theorem dX12_acts_322 : decode cX12_acts 322 = .ok (.lload_n 3, 1) := by decide +kernel
theorem dX12_acts_323 : decode cX12_acts 323 = .ok (.l2i, 1) := by decide +kernel
theorem dX12_acts_324 : decode cX12_acts 324 = .ok (.iastore, 1) := by decide +kernel
theorem dX12_acts_325 : decode cX12_acts 325 = .ok (.goto 370, 3) := by decide +kernel
theorem dX12_acts_328 : decode cX12_acts 328 = .ok (.aload_n 0, 1) := by decide +kernel
theorem dX12_acts_329 : decode cX12_acts 329 = .ok (.getfield 63, 3) := by decide +kernel
theorem dX12_acts_332 : decode cX12_acts 332 = .ok (.iload_n 1, 1) := by decide +kernel
theorem dX12_acts_333 : decode cX12_acts 333 = .ok (.lload_n 3, 1) := by decide +kernel
theorem dX12_acts_334 : decode cX12_acts 334 = .ok (.l2i, 1) := by decide +kernel
theorem dX12_acts_335 : decode cX12_acts 335 = .ok (.iastore, 1) := by decide +kernel
theorem dX12_acts_336 : decode cX12_acts 336 = .ok (.goto 359, 3) := by decide +kernel
theorem dX12_acts_339 : decode cX12_acts 339 = .ok (.aload_n 0, 1) := by decide +kernel
theorem dX12_acts_340 : decode cX12_acts 340 = .ok (.dup, 1) := by decide +kernel
theorem dX12_acts_341 : decode cX12_acts 341 = .ok (.getfield 574, 3) := by decide +kernel
theorem dX12_acts_344 : decode cX12_acts 344 = .ok (.iconst 1, 1) := by decide +kernel
theorem dX12_acts_345 : decode cX12_acts 345 = .ok (.isub, 1) := by decide +kernel
theorem dX12_acts_346 : decode cX12_acts 346 = .ok (.putfield 574, 3) := by decide +kernel
theorem dX12_acts_349 : decode cX12_acts 349 = .ok (.aload_n 0, 1) := by decide +kernel
theorem dX12_acts_350 : decode cX12_acts 350 = .ok (.iconst 1, 1) := by decide +kernel
theorem dX12_acts_351 : decode cX12_acts 351 = .ok (.aload_n 0, 1) := by decide +kernel
theorem dX12_acts_352 : decode cX12_acts 352 = .ok (.getfield 82, 3) := by decide +kernel
theorem dX12_acts_355 : decode cX12_acts 355 = .ok (.aload_n 0, 1) := by decide +kernel
theorem dX12_acts_356 : decode cX12_acts 356 = .ok (.getfield 574, 3) := by decide +kernel
theorem dX12_acts_359 : decode cX12_acts 359 = .ok (.baload, 1) := by decide +kernel
theorem dX12_acts_360 : decode cX12_acts 360 = .ok (.aload_n 0, 1) := by decide +kernel
theorem dX12_acts_361 : decode cX12_acts 361 = .ok (.getfield 85, 3) := by decide +kernel
theorem dX12_acts_364 : decode cX12_acts 364 = .ok (.aload_n 0, 1) := by decide +kernel
theorem dX12_acts_365 : decode cX12_acts 365 = .ok (.getfield 574, 3) := by decide +kernel
theorem dX12_acts_368 : decode cX12_acts 368 = .ok (.laload, 1) := by decide +kernel
theorem dX12_acts_369 : decode cX12_acts 369 = .ok (.invokevirtual 623, 3) := by decide +kernel
theorem dX12_acts_372 : decode cX12_acts 372 = .ok (.goto 323, 3) := by decide +kernel
theorem dX12_acts_375 : decode cX12_acts 375 = .ok (.aload_n 0, 1) := by decide +kernel
theorem dX12_acts_376 : decode cX12_acts 376 = .ok (.invokevirtual 702, 3) := by decide +kernel
theorem dX12_acts_379 : decode cX12_acts 379 = .ok (.ifCond .ne 6, 3) := by decide +kernel
theorem dX12_acts_382 : decode cX12_acts 382 = .ok (.goto 313, 3) := by decide +kernel
theorem dX12_acts_385 : decode cX12_acts 385 = .ok (.aload_n 0, 1) := by decide +kernel
theorem dX12_acts_386 : decode cX12_acts 386 = .ok (.dup, 1) := by decide +kernel
theorem dX12_acts_387 : decode cX12_acts 387 = .ok (.getfield 574, 3) := by decide +kernel
theorem dX12_acts_390 : decode cX12_acts 390 = .ok (.iconst 1, 1) := by decide +kernel
theorem dX12_acts_391 : decode cX12_acts 391 = .ok (.isub, 1) := by decide +kernel
theorem dX12_acts_392 : decode cX12_acts 392 = .ok (.putfield 574, 3) := by decide +kernel
theorem dX12_acts_395 : decode cX12_acts 395 = .ok (.aload_n 0, 1) := by decide +kernel
theorem dX12_acts_396 : decode cX12_acts 396 = .ok (.getfield 708, 3) := by decide +kernel
theorem dX12_acts_399 : decode cX12_acts 399 = .ok (.sipush 200, 3) := by decide +kernel
theorem dX12_acts_402 : decode cX12_acts 402 = .ok (.if_icmp .ge 32, 3) := by decide +kernel
theorem dX12_acts_405 : decode cX12_acts 405 = .ok (.aload_n 0, 1) := by decide +kernel
theorem dX12_acts_406 : decode cX12_acts 406 = .ok (.getfield 157, 3) := by decide +kernel
theorem dX12_acts_409 : decode cX12_acts 409 = .ok (.aload_n 0, 1) := by decide +kernel
theorem dX12_acts_410 : decode cX12_acts 410 = .ok (.getfield 708, 3) := by decide +kernel
theorem dX12_acts_413 : decode cX12_acts 413 = .ok (.aload_n 0, 1) := by decide +kernel
theorem dX12_acts_414 : decode cX12_acts 414 = .ok (.getfield 85, 3) := by decide +kernel
theorem dX12_acts_417 : decode cX12_acts 417 = .ok (.aload_n 0, 1) := by decide +kernel
theorem dX12_acts_418 : decode cX12_acts 418 = .ok (.getfield 574, 3) := by decide +kernel
theorem dX12_acts_421 : decode cX12_acts 421 = .ok (.laload, 1) := by decide +kernel
theorem dX12_acts_422 : decode cX12_acts 422 = .ok (.lastore, 1) := by decide +kernel
theorem dX12_acts_423 : decode cX12_acts 423 = .ok (.aload_n 0, 1) := by decide +kernel
theorem dX12_acts_424 : decode cX12_acts 424 = .ok (.getfield 160, 3) := by decide +kernel
theorem dX12_acts_427 : decode cX12_acts 427 = .ok (.aload_n 0, 1) := by decide +kernel
theorem dX12_acts_428 : decode cX12_acts 428 = .ok (.getfield 708, 3) := by decide +kernel
theorem dX12_acts_431 : decode cX12_acts 431 = .ok (.iload 6, 2) := by decide +kernel
theorem dX12_acts_433 : decode cX12_acts 433 = .ok (.iastore, 1) := by decide +kernel
theorem dX12_acts_434 : decode cX12_acts 434 = .ok (.aload_n 0, 1) := by decide +kernel
theorem dX12_acts_435 : decode cX12_acts 435 = .ok (.dup, 1) := by decide +kernel
theorem dX12_acts_436 : decode cX12_acts 436 = .ok (.getfield 708, 3) := by decide +kernel
theorem dX12_acts_439 : decode cX12_acts 439 = .ok (.iconst 1, 1) := by decide +kernel
theorem dX12_acts_440 : decode cX12_acts 440 = .ok (.iadd, 1) := by decide +kernel
theorem dX12_acts_441 : decode cX12_acts 441 = .ok (.putfield 708, 3) := by decide +kernel
theorem dX12_acts_444 : decode cX12_acts 444 = .ok (.goto 251, 3) := by decide +kernel
theorem dX12_acts_447 : decode cX12_acts 447 = .ok (.aload_n 0, 1) := by decide +kernel
theorem dX12_acts_448 : decode cX12_acts 448 = .ok (.dup, 1) := by decide +kernel
theorem dX12_acts_449 : decode cX12_acts 449 = .ok (.getfield 574, 3) := by decide +kernel
theorem dX12_acts_452 : decode cX12_acts 452 = .ok (.iconst 1, 1) := by decide +kernel
theorem dX12_acts_453 : decode cX12_acts 453 = .ok (.isub, 1) := by decide +kernel
theorem dX12_acts_454 : decode cX12_acts 454 = .ok (.putfield 574, 3) := by decide +kernel
theorem dX12_acts_457 : decode cX12_acts 457 = .ok (.aload_n 0, 1) := by decide +kernel
theorem dX12_acts_458 : decode cX12_acts 458 = .ok (.lload_n 3, 1) := by decide +kernel
theorem dX12_acts_459 : decode cX12_acts 459 = .ok (.l2i, 1) := by decide +kernel
theorem dX12_acts_460 : decode cX12_acts 460 = .ok (.aload_n 0, 1) := by decide +kernel
theorem dX12_acts_461 : decode cX12_acts 461 = .ok (.getfield 82, 3) := by decide +kernel
theorem dX12_acts_464 : decode cX12_acts 464 = .ok (.aload_n 0, 1) := by decide +kernel
theorem dX12_acts_465 : decode cX12_acts 465 = .ok (.getfield 574, 3) := by decide +kernel
theorem dX12_acts_468 : decode cX12_acts 468 = .ok (.baload, 1) := by decide +kernel
theorem dX12_acts_469 : decode cX12_acts 469 = .ok (.aload_n 0, 1) := by decide +kernel
theorem dX12_acts_470 : decode cX12_acts 470 = .ok (.getfield 85, 3) := by decide +kernel
theorem dX12_acts_473 : decode cX12_acts 473 = .ok (.aload_n 0, 1) := by decide +kernel
theorem dX12_acts_474 : decode cX12_acts 474 = .ok (.getfield 574, 3) := by decide +kernel
theorem dX12_acts_477 : decode cX12_acts 477 = .ok (.laload, 1) := by decide +kernel
theorem dX12_acts_478 : decode cX12_acts 478 = .ok (.invokevirtual 602, 3) := by decide +kernel
theorem dX12_acts_481 : decode cX12_acts 481 = .ok (.goto 214, 3) := by decide +kernel
theorem dX12_acts_484 : decode cX12_acts 484 = .ok (.aload_n 0, 1) := by decide +kernel
theorem dX12_acts_485 : decode cX12_acts 485 = .ok (.iconst 0, 1) := by decide +kernel
theorem dX12_acts_486 : decode cX12_acts 486 = .ok (.lload_n 3, 1) := by decide +kernel
theorem dX12_acts_487 : decode cX12_acts 487 = .ok (.l2i, 1) := by decide +kernel
theorem dX12_acts_488 : decode cX12_acts 488 = .ok (.iload 5, 2) := by decide +kernel
theorem dX12_acts_490 : decode cX12_acts 490 = .ok (.invokevirtual 632, 3) := by decide +kernel
theorem dX12_acts_493 : decode cX12_acts 493 = .ok (.goto 202, 3) := by decide +kernel
theorem dX12_acts_496 : decode cX12_acts 496 = .ok (.goto 199, 3) := by decide +kernel
theorem dX12_acts_499 : decode cX12_acts 499 = .ok (.aload_n 0, 1) := by decide +kernel
theorem dX12_acts_500 : decode cX12_acts 500 = .ok (.iconst 1, 1) := by decide +kernel
theorem dX12_acts_501 : decode cX12_acts 501 = .ok (.lload_n 3, 1) := by decide +kernel
theorem dX12_acts_502 : decode cX12_acts 502 = .ok (.l2i, 1) := by decide +kernel
theorem dX12_acts_503 : decode cX12_acts 503 = .ok (.iconst 0, 1) := by decide +kernel
theorem dX12_acts_504 : decode cX12_acts 504 = .ok (.invokevirtual 632, 3) := by decide +kernel
theorem dX12_acts_507 : decode cX12_acts 507 = .ok (.goto 188, 3) := by decide +kernel
theorem dX12_acts_510 : decode cX12_acts 510 = .ok (.aload_n 0, 1) := by decide +kernel
theorem dX12_acts_511 : decode cX12_acts 511 = .ok (.dup, 1) := by decide +kernel
theorem dX12_acts_512 : decode cX12_acts 512 = .ok (.getfield 596, 3) := by decide +kernel
theorem dX12_acts_515 : decode cX12_acts 515 = .ok (.iconst 1, 1) := by decide +kernel
theorem dX12_acts_516 : decode cX12_acts 516 = .ok (.isub, 1) := by decide +kernel
theorem dX12_acts_517 : decode cX12_acts 517 = .ok (.putfield 596, 3) := by decide +kernel
theorem dX12_acts_520 : decode cX12_acts 520 = .ok (.goto 175, 3) := by decide +kernel
theorem dX12_acts_523 : decode cX12_acts 523 = .ok (.aload_n 0, 1) := by decide +kernel
theorem dX12_acts_524 : decode cX12_acts 524 = .ok (.dup, 1) := by decide +kernel
theorem dX12_acts_525 : decode cX12_acts 525 = .ok (.getfield 596, 3) := by decide +kernel
theorem dX12_acts_528 : decode cX12_acts 528 = .ok (.iconst 1, 1) := by decide +kernel
theorem dX12_acts_529 : decode cX12_acts 529 = .ok (.isub, 1) := by decide +kernel
theorem dX12_acts_530 : decode cX12_acts 530 = .ok (.putfield 596, 3) := by decide +kernel
theorem dX12_acts_533 : decode cX12_acts 533 = .ok (.aload_n 0, 1) := by decide +kernel
theorem dX12_acts_534 : decode cX12_acts 534 = .ok (.getfield 63, 3) := by decide +kernel
theorem dX12_acts_537 : decode cX12_acts 537 = .ok (.iload_n 1, 1) := by decide +kernel
theorem dX12_acts_538 : decode cX12_acts 538 = .ok (.aload_n 0, 1) := by decide +kernel
theorem dX12_acts_539 : decode cX12_acts 539 = .ok (.getfield 91, 3) := by decide +kernel
theorem dX12_acts_542 : decode cX12_acts 542 = .ok (.aload_n 0, 1) := by decide +kernel
theorem dX12_acts_543 : decode cX12_acts 543 = .ok (.getfield 596, 3) := by decide +kernel
theorem dX12_acts_546 : decode cX12_acts 546 = .ok (.iaload, 1) := by decide +kernel
theorem dX12_acts_547 : decode cX12_acts 547 = .ok (.iastore, 1) := by decide +kernel
theorem dX12_acts_548 : decode cX12_acts 548 = .ok (.aload_n 0, 1) := by decide +kernel
theorem dX12_acts_549 : decode cX12_acts 549 = .ok (.iconst 2, 1) := by decide +kernel
theorem dX12_acts_550 : decode cX12_acts 550 = .ok (.iconst 0, 1) := by decide +kernel
theorem dX12_acts_551 : decode cX12_acts 551 = .ok (.iconst 0, 1) := by decide +kernel
theorem dX12_acts_552 : decode cX12_acts 552 = .ok (.invokevirtual 632, 3) := by decide +kernel
theorem dX12_acts_555 : decode cX12_acts 555 = .ok (.goto 140, 3) := by decide +kernel
theorem dX12_acts_558 : decode cX12_acts 558 = .ok (.aload_n 0, 1) := by decide +kernel
theorem dX12_acts_559 : decode cX12_acts 559 = .ok (.dup, 1) := by decide +kernel
theorem dX12_acts_560 : decode cX12_acts 560 = .ok (.getfield 596, 3) := by decide +kernel
theorem dX12_acts_563 : decode cX12_acts 563 = .ok (.iconst 1, 1) := by decide +kernel
theorem dX12_acts_564 : decode cX12_acts 564 = .ok (.isub, 1) := by decide +kernel
theorem dX12_acts_565 : decode cX12_acts 565 = .ok (.putfield 596, 3) := by decide +kernel
theorem dX12_acts_568 : decode cX12_acts 568 = .ok (.aload_n 0, 1) := by decide +kernel
theorem dX12_acts_569 : decode cX12_acts 569 = .ok (.getfield 100, 3) := by decide +kernel
theorem dX12_acts_572 : decode cX12_acts 572 = .ok (.aload_n 0, 1) := by decide +kernel
theorem dX12_acts_573 : decode cX12_acts 573 = .ok (.getfield 596, 3) := by decide +kernel
theorem dX12_acts_576 : decode cX12_acts 576 = .ok (.iaload, 1) := by decide +kernel
theorem dX12_acts_577 : decode cX12_acts 577 = .ok (.ifCond .le 118, 3) := by decide +kernel
theorem dX12_acts_580 : decode cX12_acts 580 = .ok (.aload_n 0, 1) := by decide +kernel
theorem dX12_acts_581 : decode cX12_acts 581 = .ok (.aload_n 0, 1) := by decide +kernel
theorem dX12_acts_582 : decode cX12_acts 582 = .ok (.getfield 100, 3) := by decide +kernel
theorem dX12_acts_585 : decode cX12_acts 585 = .ok (.aload_n 0, 1) := by decide +kernel
theorem dX12_acts_586 : decode cX12_acts 586 = .ok (.getfield 596, 3) := by decide +kernel
theorem dX12_acts_589 : decode cX12_acts 589 = .ok (.iaload, 1) := by decide +kernel
theorem dX12_acts_590 : decode cX12_acts 590 = .ok (.aload_n 0, 1) := by decide +kernel
theorem dX12_acts_591 : decode cX12_acts 591 = .ok (.getfield 103, 3) := by decide +kernel
theorem dX12_acts_594 : decode cX12_acts 594 = .ok (.aload_n 0, 1) := by decide +kernel
theorem dX12_acts_595 : decode cX12_acts 595 = .ok (.getfield 596, 3) := by decide +kernel
theorem dX12_acts_598 : decode cX12_acts 598 = .ok (.iaload, 1) := by decide +kernel
theorem dX12_acts_599 : decode cX12_acts 599 = .ok (.aload_n 0, 1) := by decide +kernel
theorem dX12_acts_600 : decode cX12_acts 600 = .ok (.getfield 106, 3) := by decide +kernel
theorem dX12_acts_603 : decode cX12_acts 603 = .ok (.aload_n 0, 1) := by decide +kernel
theorem dX12_acts_604 : decode cX12_acts 604 = .ok (.getfield 596, 3) := by decide +kernel
theorem dX12_acts_607 : decode cX12_acts 607 = .ok (.laload, 1) := by decide +kernel
theorem dX12_acts_608 : decode cX12_acts 608 = .ok (.invokevirtual 623, 3) := by decide +kernel
theorem dX12_acts_611 : decode cX12_acts 611 = .ok (.goto 84, 3) := by decide +kernel
theorem dX12_acts_614 : decode cX12_acts 614 = .ok (.aload_n 0, 1) := by decide +kernel
theorem dX12_acts_615 : decode cX12_acts 615 = .ok (.invokevirtual 711, 3) := by decide +kernel
theorem dX12_acts_618 : decode cX12_acts 618 = .ok (.goto 77, 3) := by decide +kernel
theorem dX12_acts_621 : decode cX12_acts 621 = .ok (.aload_n 0, 1) := by decide +kernel
theorem dX12_acts_622 : decode cX12_acts 622 = .ok (.iconst 3, 1) := by decide +kernel
theorem dX12_acts_623 : decode cX12_acts 623 = .ok (.lload_n 3, 1) := by decide +kernel
theorem dX12_acts_624 : decode cX12_acts 624 = .ok (.l2i, 1) := by decide +kernel
theorem dX12_acts_625 : decode cX12_acts 625 = .ok (.iconst 0, 1) := by decide +kernel
theorem dX12_acts_626 : decode cX12_acts 626 = .ok (.invokevirtual 632, 3) := by decide +kernel
theorem dX12_acts_629 : decode cX12_acts 629 = .ok (.goto 66, 3) := by decide +kernel
theorem dX12_acts_632 : decode cX12_acts 632 = .ok (.aload_n 0, 1) := by decide +kernel
theorem dX12_acts_633 : decode cX12_acts 633 = .ok (.dup, 1) := by decide +kernel
theorem dX12_acts_634 : decode cX12_acts 634 = .ok (.getfield 574, 3) := by decide +kernel
theorem dX12_acts_637 : decode cX12_acts 637 = .ok (.iconst 1, 1) := by decide +kernel
theorem dX12_acts_638 : decode cX12_acts 638 = .ok (.isub, 1) := by decide +kernel
theorem dX12_acts_639 : decode cX12_acts 639 = .ok (.putfield 574, 3) := by decide +kernel
theorem dX12_acts_642 : decode cX12_acts 642 = .ok (.aload_n 0, 1) := by decide +kernel
theorem dX12_acts_643 : decode cX12_acts 643 = .ok (.lload_n 3, 1) := by decide +kernel
theorem dX12_acts_644 : decode cX12_acts 644 = .ok (.l2i, 1) := by decide +kernel
theorem dX12_acts_645 : decode cX12_acts 645 = .ok (.aload_n 0, 1) := by decide +kernel
theorem dX12_acts_646 : decode cX12_acts 646 = .ok (.getfield 82, 3) := by decide +kernel
theorem dX12_acts_649 : decode cX12_acts 649 = .ok (.aload_n 0, 1) := by decide +kernel
theorem dX12_acts_650 : decode cX12_acts 650 = .ok (.getfield 574, 3) := by decide +kernel
theorem dX12_acts_653 : decode cX12_acts 653 = .ok (.baload, 1) := by decide +kernel
theorem dX12_acts_654 : decode cX12_acts 654 = .ok (.aload_n 0, 1) := by decide +kernel
theorem dX12_acts_655 : decode cX12_acts 655 = .ok (.getfield 85, 3) := by decide +kernel
theorem dX12_acts_658 : decode cX12_acts 658 = .ok (.aload_n 0, 1) := by decide +kernel
theorem dX12_acts_659 : decode cX12_acts 659 = .ok (.getfield 574, 3) := by decide +kernel
theorem dX12_acts_662 : decode cX12_acts 662 = .ok (.laload, 1) := by decide +kernel
theorem dX12_acts_663 : decode cX12_acts 663 = .ok (.invokevirtual 714, 3) := by decide +kernel
theorem dX12_acts_666 : decode cX12_acts 666 = .ok (.goto 29, 3) := by decide +kernel
theorem dX12_acts_669 : decode cX12_acts 669 = .ok (.aload_n 0, 1) := by decide +kernel
theorem dX12_acts_670 : decode cX12_acts 670 = .ok (.iconst 4, 1) := by decide +kernel
theorem dX12_acts_671 : decode cX12_acts 671 = .ok (.lload_n 3, 1) := by decide +kernel
theorem dX12_acts_672 : decode cX12_acts 672 = .ok (.l2i, 1) := by decide +kernel
theorem dX12_acts_673 : decode cX12_acts 673 = .ok (.iload 5, 2) := by decide +kernel
theorem dX12_acts_675 : decode cX12_acts 675 = .ok (.invokevirtual 632, 3) := by decide +kernel
theorem dX12_acts_678 : decode cX12_acts 678 = .ok (.aload_n 0, 1) := by decide +kernel
theorem dX12_acts_679 : decode cX12_acts 679 = .ok (.getfield 100, 3) := by decide +kernel
theorem dX12_acts_682 : decode cX12_acts 682 = .ok (.aload_n 0, 1) := by decide +kernel
theorem dX12_acts_683 : decode cX12_acts 683 = .ok (.getfield 596, 3) := by decide +kernel
theorem dX12_acts_686 : decode cX12_acts 686 = .ok (.iconst 1, 1) := by decide +kernel
theorem dX12_acts_687 : decode cX12_acts 687 = .ok (.isub, 1) := by decide +kernel
theorem dX12_acts_688 : decode cX12_acts 688 = .ok (.aload_n 0, 1) := by decide +kernel
theorem dX12_acts_689 : decode cX12_acts 689 = .ok (.getfield 63, 3) := by decide +kernel
theorem dX12_acts_692 : decode cX12_acts 692 = .ok (.iload_n 1, 1) := by decide +kernel
theorem dX12_acts_693 : decode cX12_acts 693 = .ok (.iaload, 1) := by decide +kernel
theorem dX12_acts_694 : decode cX12_acts 694 = .ok (.iastore, 1) := by decide +kernel
theorem dX12_acts_695 : decode cX12_acts 695 = .ok (.return_, 1) := by decide +kernel
theorem MI.r8 {μ : M3} {n i k : Int} (h : MI μ n i k) : (μ.1 115 k = 8 ∨ μ.1 115 k = 12 ∨ μ.1 115 k = 14 ∨ μ.1 115 k = 19 ∨ μ.1 115 k = 21 → 0 ≤ μ.1 116 k ∧ μ.1 116 k ≤ 8989) := by
  obtain ⟨B, h1, h2, hq, -⟩ := h.q
  have f8 : 0 ≤ fA μ (n - 1) ∧ fA μ (n - 1) ≤ B ∧ B ≤ 8989 := h1.1
  have k0 := h.k0
  obtain ⟨r1, r3, r4, r5, r7, r8, r11, r12, r13, r14, r15, r16, r17, r18, r19, -⟩ := hq
  intro o
  rcases o with o | o | o | o | o
  · rcases (r8 o).1 with z | z
    · have := z.1.1; have := z.1.2.1; omega
    · have := z.1; have := z.2.1; omega
  · have := (r12 o).2.2.2.1; have := (r12 o).2.2.2.2.1; omega
  · have := (r14 o).2.2.2.2.1.1; have := (r14 o).2.2.2.2.1.2.1; omega
  · have := (r19 (Or.inl o)).2.2.2.2.1.1; have := (r19 (Or.inl o)).2.2.2.2.1.2.1; omega
  · have := (r19 (Or.inr o)).2.2.2.2.1.1; have := (r19 (Or.inr o)).2.2.2.2.1.2.1; omega
theorem MZ.vr {μ : M3} (h : MZ μ) : VR μ (μ.1 111 47) := h.2.2.2.2.2.1
set_option maxHeartbeats 4000000 in
set_option maxRecDepth 100000 in
theorem c_X12_acts (ω : Om) (l : Launch) (μ : M3) (x2 : Int) (i : Int) (n : Int) (hx2 : ir x2) (hn : n = μ.1 111 47) (hMZ : MZ μ) (h1 : 1 ≤ n ∧ n ≤ 24) (h94 : μ.1 111 94 = 0) (hMI : MI μ n i x2) (hop : 0 ≤ μ.1 115 x2 ∧ μ.1 115 x2 ≤ 21) (hmk : 0 ≤ μ.1 111 85 ∧ μ.1 111 85 ≤ 1200000000) : CtV ω l yX12_acts cX12_acts 7 188 5090 [.ref (oP ω 111), .int (iv (n - 1)), .int (iv x2)] μ (fun (μ' : M3) => (FrM [111, 129, 133, 134, 135, 136, 137, 138, 139, 140, 141, 142, 143, 149, 150, 151, 152, 153, 154, 155, 156, 157, 158, 159, 130, 147, 148, 160, 161] μ μ') ∧ (∀ j, j ∉ ([47, 53, 61, 81, 82, 83, 84, 90, 91, 93, 94, 95, 96, 97, 98, 99, 85, 88] : List Int) → μ'.1 111 j = μ.1 111 j) ∧ (RES μ' (RK0 μ n i - 1)) ∧ (0 ≤ μ'.1 111 85 ∧ μ'.1 111 85 ≤ μ.1 111 85 + 1)) := by
  refine CtV.go (by decide) (Nat.le_of_ble_eq_true rfl) (fun ρ p e s m below meth c R ls G hR hret hlk hl => ?_)
  have hx := G.1.1
  have hb := G.1.2.1
  have hl : lv_has ls 7 [(0, .ref (oP ω 111)), (1, .int (iv (n - 1))), (2, .int (iv x2))] := hl
  generalize s.drawn = d0 at G ⊢
  have hr_x2 : -2147483648 ≤ x2 ∧ x2 ≤ 2147483647 := hx2
  have hzn_ := hMZ.n
  rw [← hn] at hzn_
  obtain ⟨hz47, hzFB, hzFL, hz81, hz82, hz84, hz65, hz4, hz104⟩ := hzn_
  have hk0_ := hMI.k0
  have hfr_ := (hMZ.2.2.1 (n - 1) (by omega) (by omega)).1.1
  have hzB := FB_1 (μ := μ) (n := n) (by omega)
  have hzL := FL_1 (μ := μ) (n := n) (by omega)
  have hxk_ := hMI.2.2.1
  have hpc_ := hMI.2.2.2.2.2.1
  refine lv_aload_n hx hb dX12_acts_0 rfl (lv_at hl 0 rfl) ?_
  refine xa_getr G fd_X12 (a := 111) (x := 116) 20 rfl (by decide) rfl (wm 7 169 rfl rfl) ⟨rfl, rfl, rfl⟩ dX12_acts_1 rfl (G.sk 114 rfl) (by decide) rfl ?_
  refine lv_iload_n hx hb dX12_acts_4 rfl (lv_at hl 2 rfl) ?_
  refine xa_lald G (a := 116) (i := x2) rfl (by have h9 := G.lc (a := 116) (n := 45000) 54 rfl; omega) dX12_acts_5 rfl ?_
  have hj_1 : jr (μ.1 116 x2) := (by have h9 := G.hj (a := 116) (k := x2) rfl; exact h9)
  refine lv_lstore_n (lv' := [(3, .long (jv (μ.1 116 x2))), (0, .ref (oP ω 111)), (1, .int (iv (n - 1))), (2, .int (iv x2))]) hx hb dX12_acts_6 rfl hl (by decide) rfl (fun ls hl => ?_)
  refine lv_aload_n hx hb dX12_acts_7 rfl (lv_at hl 1 rfl) ?_
  refine xa_getr G fd_X12 (a := 111) (x := 117) 21 rfl (by decide) rfl (wm 7 170 rfl rfl) ⟨rfl, rfl, rfl⟩ dX12_acts_8 rfl (G.sk 115 rfl) (by decide) rfl ?_
  refine lv_iload_n hx hb dX12_acts_11 rfl (lv_at hl 3 rfl) ?_
  refine xa_iald G (a := 117) (i := x2) rfl (by have h9 := G.lc (a := 117) (n := 45000) 55 rfl; omega) dX12_acts_12 rfl ?_
  have hr_2 : -2147483648 ≤ μ.1 117 x2 ∧ μ.1 117 x2 ≤ 2147483647 := by have h9 := G.hr (a := 117) (k := x2) rfl; exact h9
  refine lv_istore (lv' := [(5, .int (iv (μ.1 117 x2))), (3, .long (jv (μ.1 116 x2))), (0, .ref (oP ω 111)), (1, .int (iv (n - 1))), (2, .int (iv x2))]) hx hb dX12_acts_13 hl (by decide) rfl (fun ls hl => ?_)
  refine lv_aload_n hx hb dX12_acts_15 rfl (lv_at hl 2 rfl) ?_
  refine xa_getr G fd_X12 (a := 111) (x := 127) 41 rfl (by decide) rfl (wm 7 190 rfl rfl) ⟨rfl, rfl, rfl⟩ dX12_acts_16 rfl (G.sk 125 rfl) (by decide) rfl ?_
  refine lv_iload_n hx hb dX12_acts_19 rfl (lv_at hl 3 rfl) ?_
  refine xa_iald G (a := 127) (i := n - 1) rfl (by have h9 := G.lc (a := 127) (n := 26) 65 rfl; omega) dX12_acts_20 rfl ?_
  have hr_3 : -2147483648 ≤ μ.1 127 (n - 1) ∧ μ.1 127 (n - 1) ≤ 2147483647 := by have h9 := G.hr (a := 127) (k := n - 1) rfl; exact h9
  refine lv_istore (lv' := [(6, .int (iv (μ.1 127 (n - 1)))), (5, .int (iv (μ.1 117 x2))), (3, .long (jv (μ.1 116 x2))), (0, .ref (oP ω 111)), (1, .int (iv (n - 1))), (2, .int (iv x2))]) hx hb dX12_acts_21 hl (by decide) rfl (fun ls hl => ?_)
  refine lv_aload_n hx hb dX12_acts_23 rfl (lv_at hl 3 rfl) ?_
  refine xa_getr G fd_X12 (a := 111) (x := 115) 19 rfl (by decide) rfl (wm 7 168 rfl rfl) ⟨rfl, rfl, rfl⟩ dX12_acts_24 rfl (G.sk 113 rfl) (by decide) rfl ?_
  refine lv_iload_n hx hb dX12_acts_27 rfl (lv_at hl 5 rfl) ?_
  refine xa_iald G (a := 115) (i := x2) rfl (by have h9 := G.lc (a := 115) (n := 45000) 53 rfl; omega) dX12_acts_28 rfl ?_
  have hr_4 : -2147483648 ≤ μ.1 115 x2 ∧ μ.1 115 x2 ≤ 2147483647 := by have h9 := G.hr (a := 115) (k := x2) rfl; exact h9
  by_cases c_29_out : (μ.1 115 x2) < 0 ∨ 20 < (μ.1 115 x2)
  · refine xb_tout (tgt := 669) hx hb (by unfold ir; omega) dX12_acts_29 c_29_out (by decide) ?_
    have ho : μ.1 115 x2 = 21 := by omega
    have hr8_ := hMI.r8 (by omega)
    refine lv_aload_n hx hb dX12_acts_669 rfl (lv_at hl 3 rfl) ?_
    refine lv_iconst (v := iv 4) hx hb dX12_acts_670 rfl ?_
    refine lv_lload_n hx hb dX12_acts_671 rfl (lv_at hl 2 rfl) ?_
    refine xb_l2i hx hb dX12_acts_672 ?_
    refine xb_topi (fun y_5 hr_y_5 he_y_5 => ?_)
    have hr_y_5 : -2147483648 ≤ y_5 ∧ y_5 ≤ 2147483647 := hr_y_5
    have hli_y_5 : ir (μ.1 116 x2) → y_5 = μ.1 116 x2 := fun h9 => (iv_eq hr_y_5 h9).mp he_y_5
    unfold ir at hli_y_5
    refine xb_ti (y := μ.1 116 x2) (hli_y_5 (by omega)) ?_
    have hr_6 : -2147483648 ≤ μ.1 116 x2 ∧ μ.1 116 x2 ≤ 2147483647 := by omega
    refine lv_iload hx hb dX12_acts_673 (lv_at hl 1 rfl) ?_
    refine xc_vV G (b := 111) (rest := []) (As := [.int (iv 4), .int (iv (μ.1 116 x2)), .int (iv (μ.1 117 x2))]) (c_X12_block_ ω l μ 4 (μ.1 116 x2) (μ.1 117 x2) (μ.1 111 61) (by unfold ir; omega) (by unfold ir; omega) (by unfold ir; omega) (by omega) (by omega)) (wm 10 139 rfl rfl) (wm 10 141 rfl rfl) (wm 0 198 rfl rfl) rfl rfl (by decide) rfl (wm 1 18 rfl rfl) (wm 10 142 rfl rfl) (by decide) hR (by decide) (n := 3) rfl rfl (Nat.le_of_ble_eq_true rfl) hl.1 dX12_acts_675 (fun μ7 ρ d0 H locs hp G => ?_)
    obtain ⟨F_8, hp_9, hs_10, hs_11, hs_12, hs_13, hs_14, hs_15, ha_16, ha_17, ha_18, ha_19, ha_20⟩ := hp
    refine lv_aload_n hx hb dX12_acts_678 rfl (lv_at hl 3 rfl) ?_
    refine xa_getr G fd_X12 (a := 111) (x := 141) 58 rfl (by decide) rfl (wm 7 207 rfl rfl) ⟨rfl, rfl, rfl⟩ dX12_acts_679 rfl (G.sk 139 rfl) (by decide) rfl ?_
    refine lv_aload_n hx hb dX12_acts_682 rfl (lv_at hl 3 rfl) ?_
    refine xa_geti G fd_X12 (a := 111) (x := (μ.1 111 61) + 1) 61 rfl (by decide) rfl (wm 7 210 rfl rfl) ⟨rfl, rfl, rfl⟩ dX12_acts_683 rfl hs_10 ?_
    have hr_21 : -2147483648 ≤ (μ.1 111 61) + 1 ∧ (μ.1 111 61) + 1 ≤ 2147483647 := by have h9 := G.hr (a := 111) (k := 61) rfl; rw [show μ7.1 111 61 = (μ.1 111 61) + 1 from hs_10] at h9; exact h9
    refine lv_iconst (v := iv 1) hx hb dX12_acts_686 rfl ?_
    refine xb_isub hx hb dX12_acts_687 ?_
    refine xb_ti (y := (μ.1 111 61)) (by omega) ?_
    refine lv_aload_n hx hb dX12_acts_688 rfl (lv_at hl 3 rfl) ?_
    refine xa_getr G fd_X12 (a := 111) (x := 129) 43 rfl (by decide) rfl (wm 7 192 rfl rfl) ⟨rfl, rfl, rfl⟩ dX12_acts_689 rfl (G.sk 127 rfl) (by decide) rfl ?_
    refine lv_iload_n hx hb dX12_acts_692 rfl (lv_at hl 4 rfl) ?_
    refine xa_iald G (a := 129) (i := n - 1) rfl (by have h9 := G.lc (a := 129) (n := 26) 67 rfl; omega) dX12_acts_693 rfl ?_
    refine xb_ti (y := μ.1 129 (n - 1)) (F_8.1 129 (by decide) (n - 1)) ?_
    have hr_22 : -2147483648 ≤ μ.1 129 (n - 1) ∧ μ.1 129 (n - 1) ≤ 2147483647 := by have h9 := G.hr (a := 129) (k := n - 1) rfl; rw [(F_8.1 129 (by decide) (n - 1))] at h9; exact h9
    refine xa_iast G (a := 141) (i := (μ.1 111 61)) (x := μ.1 129 (n - 1)) rfl (by have h9 := G.lc (a := 141) (n := 900) 79 rfl; omega) (by unfold ir; omega) dX12_acts_694 rfl (fun H locs G => ?_)
    have e_23 : (sv μ7 141 (μ.1 111 61) (μ.1 129 (n - 1))).1 111 85 = μ.1 111 85 := ((sv_n _ (fun h9 => absurd h9.1 (by decide))).trans (hp_9 85 (by decide)))
    have e_24 : (sv μ7 141 (μ.1 111 61) (μ.1 129 (n - 1))).1 111 85 = μ.1 111 85 := ((sv_n _ (fun h9 => absurd h9.1 (by decide))).trans (hp_9 85 (by decide)))
    have e_25 : (sv μ7 141 (μ.1 111 61) (μ.1 129 (n - 1))).1 111 85 = μ.1 111 85 := ((sv_n _ (fun h9 => absurd h9.1 (by decide))).trans (hp_9 85 (by decide)))
    exact xr_v G hret hlk dX12_acts_695 ⟨(FrM.put (FrM.tr FrM.rf F_8 (by decide)) (by decide)), (fun j hj => ((sv_n _ (fun h9 => absurd h9.1 (by decide))).trans (hp_9 j (fun h9 => hj ((by decide : ∀ x ∈ ([61] : List Int), x ∈ ([47, 53, 61, 81, 82, 83, 84, 90, 91, 93, 94, 95, 96, 97, 98, 99, 85, 88] : List Int)) j h9))))), (hMI.pb (κ := 4) (by rw [ho]; decide) (Eqa.fr (L := [141, 111, 137, 138, 139, 140]) (FrM.put (FrM.tr FrM.rf F_8 (by decide)) (by decide)) (by decide)) (Eqf.fd (L := [61]) (fun j hj => ((sv_n _ (fun h9 => absurd h9.1 (by decide))).trans (hp_9 j (fun h9 => hj ((by decide : ∀ x ∈ ([61] : List Int), x ∈ ([61] : List Int)) j h9))))) (by decide)) (by have h9 : (sv μ7 141 (μ.1 111 61) (μ.1 129 (n - 1))).1 111 61 = (μ.1 111 61) + 1 := ((sv_n _ (fun h9 => absurd h9.1 (by decide))).trans hs_10); omega) (fun a ha j hj => by simp only [List.mem_cons, List.not_mem_nil, or_false] at ha; rcases ha with rfl | rfl | rfl | rfl | rfl | rfl; exact ((sv_n _ (by omega)).trans (ha_16 j (by omega))); exact ((sv_n _ (by omega)).trans (ha_17 j (by omega))); exact ((sv_n _ (by omega)).trans (ha_19 j (by omega))); exact ((sv_n _ (by omega)).trans (ha_20 j (by omega))); exact ((sv_n _ (by omega)).trans (F_8.1 142 (by decide) j)); exact ((sv_n _ (by omega)).trans (F_8.1 143 (by decide) j))) (by have h9 : (sv μ7 141 (μ.1 111 61) (μ.1 129 (n - 1))).1 137 (μ.1 111 61) = 4 := ((sv_n _ (fun h9 => absurd h9.1 (by decide))).trans hs_11); omega) (by have h9 : (sv μ7 141 (μ.1 111 61) (μ.1 129 (n - 1))).1 138 (μ.1 111 61) = (μ.1 116 x2) := ((sv_n _ (fun h9 => absurd h9.1 (by decide))).trans hs_12); omega) (by have h9 : (sv μ7 141 (μ.1 111 61) (μ.1 129 (n - 1))).1 140 (μ.1 111 61) = μ.1 111 53 := ((sv_n _ (fun h9 => absurd h9.1 (by decide))).trans hs_14); omega) (fun _ => by have h9 : (sv μ7 141 (μ.1 111 61) (μ.1 129 (n - 1))).1 141 (μ.1 111 61) = μ.1 129 (n - 1) := (sv_s _ _ _ _); have h8 := hMI.2.2.2.2.2.1; omega)), (by omega)⟩
  by_cases c_29_0 : (μ.1 115 x2) = 0
  · refine xb_tin (tgt := 128) hx hb (by unfold ir; omega) dX12_acts_29 (by omega) (off := 99) (by rw [c_29_0]; rfl) (by decide) ?_
    have ho : μ.1 115 x2 = 0 := by omega
    refine lv_aload_n hx hb dX12_acts_128 rfl (lv_at hl 3 rfl) ?_
    refine xc_iV G (b := 111) (rest := []) (As := []) (c_X12_step ω l μ (μ.1 111 83) (by omega) hMZ) (wm 10 122 rfl rfl) (wm 10 124 rfl rfl) (wm 0 194 rfl rfl) rfl rfl (by decide) rfl (wm 1 18 rfl rfl) (wm 10 125 rfl rfl) (by decide) hR (by decide) (n := 0) rfl rfl (Nat.le_of_ble_eq_true rfl) hl.1 dX12_acts_129 (fun r_27 μ26 ρ d0 H locs hr_r_27 hp G => ?_)
    have hr_r_27 : -2147483648 ≤ r_27 ∧ r_27 ≤ 2147483647 := hr_r_27
    obtain ⟨F_28, hp_29, hp_30, hp_31⟩ := hp
    refine xb_if_eq (tgt := 695) hx hb (by unfold ir; omega) dX12_acts_132 (by decide) (fun c_132 => ?_) (fun c_132 => ?_)
    · have e_32 : μ26.1 111 85 = μ.1 111 85 := (hp_29 85 (by decide))
      have e_33 : μ26.1 111 85 = μ.1 111 85 := (hp_29 85 (by decide))
      have e_34 : μ26.1 111 85 = μ.1 111 85 := (hp_29 85 (by decide))
      exact xr_v G hret hlk dX12_acts_695 ⟨(FrM.tr FrM.rf F_28 (by decide)), (fun j hj => (hp_29 j (fun h9 => hj ((by decide : ∀ x ∈ ([83, 84, 93, 94] : List Int), x ∈ ([47, 53, 61, 81, 82, 83, 84, 90, 91, 93, 94, 95, 96, 97, 98, 99, 85, 88] : List Int)) j h9)))), (RES.ov hp_30 (by omega)), (by omega)⟩
    · refine lv_aload_n hx hb dX12_acts_135 rfl (lv_at hl 3 rfl) ?_
      refine xa_getr G fd_X12 (a := 111) (x := 130) 44 rfl (by decide) rfl (wm 7 193 rfl rfl) ⟨rfl, rfl, rfl⟩ dX12_acts_136 rfl (G.sk 128 rfl) (by decide) rfl ?_
      refine lv_iload_n hx hb dX12_acts_139 rfl (lv_at hl 4 rfl) ?_
      refine lv_lload_n hx hb dX12_acts_140 rfl (lv_at hl 2 rfl) ?_
      refine xb_l2i hx hb dX12_acts_141 ?_
      refine xb_topi (fun y_35 hr_y_35 he_y_35 => ?_)
      have hr_y_35 : -2147483648 ≤ y_35 ∧ y_35 ≤ 2147483647 := hr_y_35
      have hli_y_35 : ir (μ.1 116 x2) → y_35 = μ.1 116 x2 := fun h9 => (iv_eq hr_y_35 h9).mp he_y_35
      unfold ir at hli_y_35
      refine xa_iast G (a := 130) (i := n - 1) (x := y_35) rfl (by have h9 := G.lc (a := 130) (n := 26) 68 rfl; omega) (by unfold ir; omega) dX12_acts_142 rfl (fun H locs G => ?_)
      refine lv_goto (tgt := 695) hx hb dX12_acts_143 (by decide) ?_
      have e_36 : (sv μ26 130 (n - 1) y_35).1 111 85 = μ.1 111 85 := ((sv_n _ (fun h9 => absurd h9.1 (by decide))).trans (hp_29 85 (by decide)))
      have e_37 : (sv μ26 130 (n - 1) y_35).1 111 83 = μ26.1 111 83 := (sv_n _ (fun h9 => absurd h9.1 (by decide)))
      have e_38 : (sv μ26 130 (n - 1) y_35).1 111 94 = μ26.1 111 94 := (sv_n _ (fun h9 => absurd h9.1 (by decide)))
      have hMZ_39 : MZ (sv μ26 130 (n - 1) y_35) := MZ.pua hp_30 (by decide)
      have e_40 : (sv μ26 130 (n - 1) y_35).1 111 85 = μ.1 111 85 := ((sv_n _ (fun h9 => absurd h9.1 (by decide))).trans (hp_29 85 (by decide)))
      have e_41 : (sv μ26 130 (n - 1) y_35).1 111 85 = μ.1 111 85 := ((sv_n _ (fun h9 => absurd h9.1 (by decide))).trans (hp_29 85 (by decide)))
      exact xr_v G hret hlk dX12_acts_695 ⟨(FrM.put (FrM.tr FrM.rf F_28 (by decide)) (by decide)), (fun j hj => ((sv_n _ (fun h9 => absurd h9.1 (by decide))).trans (hp_29 j (fun h9 => hj ((by decide : ∀ x ∈ ([83, 84, 93, 94] : List Int), x ∈ ([47, 53, 61, 81, 82, 83, 84, 90, 91, 93, 94, 95, 96, 97, 98, 99, 85, 88] : List Int)) j h9))))), (hMI.stp ho hMZ_39 (Eqa.fr (L := [130, 111]) (FrM.put (FrM.tr FrM.rf F_28 (by decide)) (by decide)) (by decide)) (fun k hk => by by_cases h9 : k = 94; (rw [h9]; have h8 : (sv μ26 130 (n - 1) y_35).1 111 94 = μ26.1 111 94 := (sv_n _ (fun h9 => absurd h9.1 (by decide))); omega); exact (Eqf.fd (K := [4, 47, 53, 61, 81]) (L := [83, 84, 93, 94]) (fun j hj => ((sv_n _ (fun h9 => absurd h9.1 (by decide))).trans (hp_29 j (fun h9 => hj ((by decide : ∀ x ∈ ([83, 84, 93, 94] : List Int), x ∈ ([83, 84, 93, 94] : List Int)) j h9))))) (by decide)) k (by revert hk h9; simp only [List.mem_cons, List.not_mem_nil, or_false]; omega)) (by have h8 : (sv μ26 130 (n - 1) y_35).1 111 83 = μ26.1 111 83 := (sv_n _ (fun h9 => absurd h9.1 (by decide))); omega)), (by omega)⟩
  by_cases c_29_1 : (μ.1 115 x2) = 1
  · refine xb_tin (tgt := 146) hx hb (by unfold ir; omega) dX12_acts_29 (by omega) (off := 117) (by rw [c_29_1]; rfl) (by decide) ?_
    have ho : μ.1 115 x2 = 1 := by omega
    have hle_ := hMI.low.2.2.2.2.2.2.1
    refine lv_aload_n hx hb dX12_acts_146 rfl (lv_at hl 3 rfl) ?_
    refine lv_iconst (v := iv 1) hx hb dX12_acts_147 rfl ?_
    refine lv_lload_n hx hb dX12_acts_148 rfl (lv_at hl 2 rfl) ?_
    refine xc_vV G (b := 111) (rest := []) (As := [.int (iv 1), .long (jv (μ.1 116 x2))]) (c_X12_push ω l μ 1 (μ.1 116 x2) (μ.1 111 53) (by unfold ir; omega) hj_1 (by omega) hMZ VV.n1 (by omega)) (wm 10 127 rfl rfl) (wm 10 129 rfl rfl) (wm 0 195 rfl rfl) rfl rfl (by decide) rfl (wm 1 18 rfl rfl) (wm 10 130 rfl rfl) (by decide) hR (by decide) (n := 2) rfl rfl (Nat.le_of_ble_eq_true rfl) hl.1 dX12_acts_149 (fun μ42 ρ d0 H locs hp G => ?_)
    obtain ⟨F_43, hp_44, hp_45, hs_46, hs_47, hs_48, ha_49, ha_50⟩ := hp
    refine lv_goto (tgt := 695) hx hb dX12_acts_152 (by decide) ?_
    have e_51 : μ42.1 111 85 = μ.1 111 85 := (hp_44 85 (by decide))
    have e_52 : μ42.1 111 83 = μ.1 111 83 := (hp_44 83 (by decide))
    have hrx_53 := RX.eq (μ := μ) (ν := μ42) (Eqa.fr (L := [111, 135, 136]) (FrM.tr FrM.rf F_43 (by decide)) (by decide)) (Eqf.fd (L := [53]) (fun j hj => (hp_44 j (fun h9 => hj ((by decide : ∀ x ∈ ([53] : List Int), x ∈ ([53] : List Int)) j h9)))) (by decide))
    have e_54 : μ42.1 111 85 = μ.1 111 85 := (hp_44 85 (by decide))
    have e_55 : μ42.1 111 85 = μ.1 111 85 := (hp_44 85 (by decide))
    exact xr_v G hret hlk dX12_acts_695 ⟨(FrM.tr FrM.rf F_43 (by decide)), (fun j hj => (hp_44 j (fun h9 => hj ((by decide : ∀ x ∈ ([53] : List Int), x ∈ ([47, 53, 61, 81, 82, 83, 84, 90, 91, 93, 94, 95, 96, 97, 98, 99, 85, 88] : List Int)) j h9)))), (hMI.go (x := i + 1) (S := μ.1 111 53 + (1)) (bl := μ.1 111 61) hp_45 ⟨(hMI.nx (e := 1) (by rw [ho]; unfold nxo; decide) (by rw [ho]; rfl)).1, (hMI.nx (e := 1) (by rw [ho]; unfold nxo; decide) (by rw [ho]; rfl)).2.trans (cem_n (by rw [ho]; unfold nxo; decide) (by rw [ho]; decide))⟩ (Eqa.fr (L := [111, 135, 136]) (FrM.tr FrM.rf F_43 (by decide)) (by decide)) (Eqf.fd (L := [53]) (fun j hj => (hp_44 j (fun h9 => hj ((by decide : ∀ x ∈ ([53] : List Int), x ∈ ([53] : List Int)) j h9)))) (by decide)) (by have h9 : μ42.1 129 (n - 1) = μ.1 129 (n - 1) := (F_43.1 129 (by decide) (n - 1)); have h8 := hMI.2.2.2.2.2.1; omega) (by have h9 : μ42.1 111 53 = (μ.1 111 53) + 1 := hs_46; omega) (by have h9 : μ42.1 111 61 = μ.1 111 61 := (hp_44 61 (by decide)); omega) (by omega)), (by omega)⟩
  by_cases c_29_2 : (μ.1 115 x2) = 2
  · refine xb_tin (tgt := 155) hx hb (by unfold ir; omega) dX12_acts_29 (by omega) (off := 126) (by rw [c_29_2]; rfl) (by decide) ?_
    have ho : μ.1 115 x2 = 2 := by omega
    have hle_ := hMI.low.2.2.2.2.2.2.1
    refine lv_aload_n hx hb dX12_acts_155 rfl (lv_at hl 3 rfl) ?_
    refine lv_iconst (v := iv 0) hx hb dX12_acts_156 rfl ?_
    refine lv_lconst (v := jv 0) hx hb dX12_acts_157 rfl ?_
    refine xc_vV G (b := 111) (rest := []) (As := [.int (iv 0), .long (jv 0)]) (c_X12_push ω l μ 0 0 (μ.1 111 53) (by unfold ir; omega) (by unfold jr; omega) (by omega) hMZ VV.n0 (by omega)) (wm 10 127 rfl rfl) (wm 10 129 rfl rfl) (wm 0 195 rfl rfl) rfl rfl (by decide) rfl (wm 1 18 rfl rfl) (wm 10 130 rfl rfl) (by decide) hR (by decide) (n := 2) rfl rfl (Nat.le_of_ble_eq_true rfl) hl.1 dX12_acts_158 (fun μ56 ρ d0 H locs hp G => ?_)
    obtain ⟨F_57, hp_58, hp_59, hs_60, hs_61, hs_62, ha_63, ha_64⟩ := hp
    refine lv_goto (tgt := 695) hx hb dX12_acts_161 (by decide) ?_
    have e_65 : μ56.1 111 85 = μ.1 111 85 := (hp_58 85 (by decide))
    have e_66 : μ56.1 111 83 = μ.1 111 83 := (hp_58 83 (by decide))
    have hrx_67 := RX.eq (μ := μ) (ν := μ56) (Eqa.fr (L := [111, 135, 136]) (FrM.tr FrM.rf F_57 (by decide)) (by decide)) (Eqf.fd (L := [53]) (fun j hj => (hp_58 j (fun h9 => hj ((by decide : ∀ x ∈ ([53] : List Int), x ∈ ([53] : List Int)) j h9)))) (by decide))
    have e_68 : μ56.1 111 85 = μ.1 111 85 := (hp_58 85 (by decide))
    have e_69 : μ56.1 111 85 = μ.1 111 85 := (hp_58 85 (by decide))
    exact xr_v G hret hlk dX12_acts_695 ⟨(FrM.tr FrM.rf F_57 (by decide)), (fun j hj => (hp_58 j (fun h9 => hj ((by decide : ∀ x ∈ ([53] : List Int), x ∈ ([47, 53, 61, 81, 82, 83, 84, 90, 91, 93, 94, 95, 96, 97, 98, 99, 85, 88] : List Int)) j h9)))), (hMI.go (x := i + 1) (S := μ.1 111 53 + (1)) (bl := μ.1 111 61) hp_59 ⟨(hMI.nx (e := 1) (by rw [ho]; unfold nxo; decide) (by rw [ho]; rfl)).1, (hMI.nx (e := 1) (by rw [ho]; unfold nxo; decide) (by rw [ho]; rfl)).2.trans (cem_n (by rw [ho]; unfold nxo; decide) (by rw [ho]; decide))⟩ (Eqa.fr (L := [111, 135, 136]) (FrM.tr FrM.rf F_57 (by decide)) (by decide)) (Eqf.fd (L := [53]) (fun j hj => (hp_58 j (fun h9 => hj ((by decide : ∀ x ∈ ([53] : List Int), x ∈ ([53] : List Int)) j h9)))) (by decide)) (by have h9 : μ56.1 129 (n - 1) = μ.1 129 (n - 1) := (F_57.1 129 (by decide) (n - 1)); have h8 := hMI.2.2.2.2.2.1; omega) (by have h9 : μ56.1 111 53 = (μ.1 111 53) + 1 := hs_60; omega) (by have h9 : μ56.1 111 61 = μ.1 111 61 := (hp_58 61 (by decide)); omega) (by omega)), (by omega)⟩
  by_cases c_29_3 : (μ.1 115 x2) = 3
  · refine xb_tin (tgt := 164) hx hb (by unfold ir; omega) dX12_acts_29 (by omega) (off := 135) (by rw [c_29_3]; rfl) (by decide) ?_
    have ho : μ.1 115 x2 = 3 := by omega
    have hru_ := hMI.rul.1
    have hru1_ := hru_.1 (by omega)
    have hru2_ := hru_.2 ho
    clear hru_
    have hvr_ := hMZ.vr (n - 1) (μ.1 116 x2) (by omega) (by omega) hru1_.1 hru2_ hru1_.2
    have hvrr_ := hvr_.1
    have hle_ := hMI.low.2.2.2.2.2.2.1
    refine lv_aload_n hx hb dX12_acts_164 rfl (lv_at hl 3 rfl) ?_
    refine lv_aload_n hx hb dX12_acts_165 rfl (lv_at hl 3 rfl) ?_
    refine xa_getr G fd_X12 (a := 111) (x := 133) 49 rfl (by decide) rfl (wm 7 198 rfl rfl) ⟨rfl, rfl, rfl⟩ dX12_acts_166 rfl (G.sk 131 rfl) (by decide) rfl ?_
    refine lv_sipush (v := iv 320) hx hb dX12_acts_169 rfl ?_
    refine lv_iload_n hx hb dX12_acts_172 rfl (lv_at hl 4 rfl) ?_
    refine xb_imul hx hb dX12_acts_173 ?_
    refine lv_lload_n hx hb dX12_acts_174 rfl (lv_at hl 2 rfl) ?_
    refine xb_l2i hx hb dX12_acts_175 ?_
    refine xb_topi (fun y_70 hr_y_70 he_y_70 => ?_)
    have hr_y_70 : -2147483648 ≤ y_70 ∧ y_70 ≤ 2147483647 := hr_y_70
    have hli_y_70 : ir (μ.1 116 x2) → y_70 = μ.1 116 x2 := fun h9 => (iv_eq hr_y_70 h9).mp he_y_70
    unfold ir at hli_y_70
    refine xb_ti (y := μ.1 116 x2) (hli_y_70 (by omega)) ?_
    have hr_71 : -2147483648 ≤ μ.1 116 x2 ∧ μ.1 116 x2 ≤ 2147483647 := by omega
    refine xb_iadd hx hb dX12_acts_176 ?_
    refine xa_bald G (a := 133) (i := (320 * (n - 1)) + (μ.1 116 x2)) rfl (by have h9 := G.lc (a := 133) (n := 8400) 71 rfl; omega) dX12_acts_177 rfl ?_
    have hr_72 : -2147483648 ≤ μ.1 133 ((320 * (n - 1)) + (μ.1 116 x2)) ∧ μ.1 133 ((320 * (n - 1)) + (μ.1 116 x2)) ≤ 2147483647 := by have h9 := G.hr3 (a := 133) (k := (320 * (n - 1)) + (μ.1 116 x2)) rfl; exact h9
    refine lv_aload_n hx hb dX12_acts_178 rfl (lv_at hl 3 rfl) ?_
    refine xa_getr G fd_X12 (a := 111) (x := 134) 50 rfl (by decide) rfl (wm 7 199 rfl rfl) ⟨rfl, rfl, rfl⟩ dX12_acts_179 rfl (G.sk 132 rfl) (by decide) rfl ?_
    refine lv_sipush (v := iv 320) hx hb dX12_acts_182 rfl ?_
    refine lv_iload_n hx hb dX12_acts_185 rfl (lv_at hl 4 rfl) ?_
    refine xb_imul hx hb dX12_acts_186 ?_
    refine lv_lload_n hx hb dX12_acts_187 rfl (lv_at hl 2 rfl) ?_
    refine xb_l2i hx hb dX12_acts_188 ?_
    refine xb_topi (fun y_73 hr_y_73 he_y_73 => ?_)
    have hr_y_73 : -2147483648 ≤ y_73 ∧ y_73 ≤ 2147483647 := hr_y_73
    have hli_y_73 : ir (μ.1 116 x2) → y_73 = μ.1 116 x2 := fun h9 => (iv_eq hr_y_73 h9).mp he_y_73
    unfold ir at hli_y_73
    refine xb_ti (y := μ.1 116 x2) (hli_y_73 (by omega)) ?_
    refine xb_iadd hx hb dX12_acts_189 ?_
    refine xa_lald G (a := 134) (i := (320 * (n - 1)) + (μ.1 116 x2)) rfl (by have h9 := G.lc (a := 134) (n := 8400) 72 rfl; omega) dX12_acts_190 rfl ?_
    have hj_74 : jr (μ.1 134 ((320 * (n - 1)) + (μ.1 116 x2))) := (by have h9 := G.hj (a := 134) (k := (320 * (n - 1)) + (μ.1 116 x2)) rfl; exact h9)
    refine xc_vV G (b := 111) (rest := []) (As := [.int (iv (μ.1 133 ((320 * (n - 1)) + (μ.1 116 x2)))), .long (jv (μ.1 134 ((320 * (n - 1)) + (μ.1 116 x2))))]) (c_X12_push ω l μ (μ.1 133 ((320 * (n - 1)) + (μ.1 116 x2))) (μ.1 134 ((320 * (n - 1)) + (μ.1 116 x2))) (μ.1 111 53) (by unfold ir; omega) hj_74 (by omega) hMZ (by rw [(show μ.1 111 65 = μ.1 111 65 from rfl), (show μ.1 111 82 = μ.1 111 82 from rfl)]; exact hvr_) (by omega)) (wm 10 127 rfl rfl) (wm 10 129 rfl rfl) (wm 0 195 rfl rfl) rfl rfl (by decide) rfl (wm 1 18 rfl rfl) (wm 10 130 rfl rfl) (by decide) hR (by decide) (n := 2) rfl rfl (Nat.le_of_ble_eq_true rfl) hl.1 dX12_acts_191 (fun μ75 ρ d0 H locs hp G => ?_)
    obtain ⟨F_76, hp_77, hp_78, hs_79, hs_80, hs_81, ha_82, ha_83⟩ := hp
    refine lv_goto (tgt := 695) hx hb dX12_acts_194 (by decide) ?_
    have e_84 : μ75.1 111 85 = μ.1 111 85 := (hp_77 85 (by decide))
    have e_85 : μ75.1 111 83 = μ.1 111 83 := (hp_77 83 (by decide))
    have hrx_86 := RX.eq (μ := μ) (ν := μ75) (Eqa.fr (L := [111, 135, 136]) (FrM.tr FrM.rf F_76 (by decide)) (by decide)) (Eqf.fd (L := [53]) (fun j hj => (hp_77 j (fun h9 => hj ((by decide : ∀ x ∈ ([53] : List Int), x ∈ ([53] : List Int)) j h9)))) (by decide))
    have e_87 : μ75.1 111 85 = μ.1 111 85 := (hp_77 85 (by decide))
    have e_88 : μ75.1 111 85 = μ.1 111 85 := (hp_77 85 (by decide))
    exact xr_v G hret hlk dX12_acts_695 ⟨(FrM.tr FrM.rf F_76 (by decide)), (fun j hj => (hp_77 j (fun h9 => hj ((by decide : ∀ x ∈ ([53] : List Int), x ∈ ([47, 53, 61, 81, 82, 83, 84, 90, 91, 93, 94, 95, 96, 97, 98, 99, 85, 88] : List Int)) j h9)))), (hMI.go (x := i + 1) (S := μ.1 111 53 + (1)) (bl := μ.1 111 61) hp_78 ⟨(hMI.nx (e := 1) (by rw [ho]; unfold nxo; decide) (by rw [ho]; rfl)).1, (hMI.nx (e := 1) (by rw [ho]; unfold nxo; decide) (by rw [ho]; rfl)).2.trans (cem_n (by rw [ho]; unfold nxo; decide) (by rw [ho]; decide))⟩ (Eqa.fr (L := [111, 135, 136]) (FrM.tr FrM.rf F_76 (by decide)) (by decide)) (Eqf.fd (L := [53]) (fun j hj => (hp_77 j (fun h9 => hj ((by decide : ∀ x ∈ ([53] : List Int), x ∈ ([53] : List Int)) j h9)))) (by decide)) (by have h9 : μ75.1 129 (n - 1) = μ.1 129 (n - 1) := (F_76.1 129 (by decide) (n - 1)); have h8 := hMI.2.2.2.2.2.1; omega) (by have h9 : μ75.1 111 53 = (μ.1 111 53) + 1 := hs_79; omega) (by have h9 : μ75.1 111 61 = μ.1 111 61 := (hp_77 61 (by decide)); omega) (by omega)), (by omega)⟩
  by_cases c_29_4 : (μ.1 115 x2) = 4
  · refine xb_tin (tgt := 197) hx hb (by unfold ir; omega) dX12_acts_29 (by omega) (off := 168) (by rw [c_29_4]; rfl) (by decide) ?_
    have ho : μ.1 115 x2 = 4 := by omega
    have hlw_ := hMI.low
    have hle_ := hlw_.2.2.2.2.2.2.1
    have hlo_ := hlw_.1 (by omega)
    clear hlw_
    have hs1_ := hMZ.stv (μ.1 111 53 - 1) (by omega) (by omega)
    have hs1r_ := hs1_.1
    have hru1_ := hMI.rul.1.1 (by omega)
    refine lv_aload_n hx hb dX12_acts_197 rfl (lv_at hl 3 rfl) ?_
    refine lv_dup hx hb dX12_acts_198 rfl ?_
    refine xa_geti G fd_X12 (a := 111) (x := μ.1 111 53) 53 rfl (by decide) rfl (wm 7 202 rfl rfl) ⟨rfl, rfl, rfl⟩ dX12_acts_199 rfl rfl ?_
    have hr_89 : -2147483648 ≤ μ.1 111 53 ∧ μ.1 111 53 ≤ 2147483647 := by have h9 := G.hr (a := 111) (k := 53) rfl; exact h9
    refine lv_iconst (v := iv 1) hx hb dX12_acts_202 rfl ?_
    refine xb_isub hx hb dX12_acts_203 ?_
    refine xa_puti G fd_X12 (a := 111) (x := (μ.1 111 53) - 1) 53 (kz := 53) rfl rfl (by decide) rfl (by unfold ir; omega) (wm 7 202 rfl rfl) ⟨rfl, rfl, rfl, rfl⟩ rfl dX12_acts_204 rfl (fun H locs G => ?_)
    refine lv_aload_n hx hb dX12_acts_207 rfl (lv_at hl 3 rfl) ?_
    refine lv_lload_n hx hb dX12_acts_208 rfl (lv_at hl 2 rfl) ?_
    refine xb_l2i hx hb dX12_acts_209 ?_
    refine xb_topi (fun y_90 hr_y_90 he_y_90 => ?_)
    have hr_y_90 : -2147483648 ≤ y_90 ∧ y_90 ≤ 2147483647 := hr_y_90
    have hli_y_90 : ir (μ.1 116 x2) → y_90 = μ.1 116 x2 := fun h9 => (iv_eq hr_y_90 h9).mp he_y_90
    unfold ir at hli_y_90
    refine xb_ti (y := μ.1 116 x2) (hli_y_90 (by omega)) ?_
    have hr_91 : -2147483648 ≤ μ.1 116 x2 ∧ μ.1 116 x2 ≤ 2147483647 := by omega
    refine lv_aload_n hx hb dX12_acts_210 rfl (lv_at hl 3 rfl) ?_
    refine xa_getr G fd_X12 (a := 111) (x := 135) 51 rfl (by decide) rfl (wm 7 200 rfl rfl) ⟨rfl, rfl, rfl⟩ dX12_acts_211 rfl (G.sk 133 rfl) (by decide) rfl ?_
    refine lv_aload_n hx hb dX12_acts_214 rfl (lv_at hl 3 rfl) ?_
    refine xa_geti G fd_X12 (a := 111) (x := (μ.1 111 53) - 1) 53 rfl (by decide) rfl (wm 7 202 rfl rfl) ⟨rfl, rfl, rfl⟩ dX12_acts_215 rfl (sv_s _ _ _ _) ?_
    have hr_92 : -2147483648 ≤ (μ.1 111 53) - 1 ∧ (μ.1 111 53) - 1 ≤ 2147483647 := by have h9 := G.hr (a := 111) (k := 53) rfl; rw [show (sv μ 111 53 ((μ.1 111 53) - 1)).1 111 53 = (μ.1 111 53) - 1 from (sv_s _ _ _ _)] at h9; exact h9
    refine xa_bald G (a := 135) (i := (μ.1 111 53) - 1) rfl (by have h9 := G.lc (a := 135) (n := 9000) 73 rfl; omega) dX12_acts_218 rfl ?_
    refine xb_ti (y := μ.1 135 (μ.1 111 53 - 1)) (sv_n _ (fun h9 => absurd h9.1 (by decide))) ?_
    have hr_93 : -2147483648 ≤ μ.1 135 (μ.1 111 53 - 1) ∧ μ.1 135 (μ.1 111 53 - 1) ≤ 2147483647 := by have h9 := G.hr3 (a := 135) (k := (μ.1 111 53) - 1) rfl; rw [(sv_n _ (fun h9 => absurd h9.1 (by decide)))] at h9; exact h9
    refine lv_aload_n hx hb dX12_acts_219 rfl (lv_at hl 3 rfl) ?_
    refine xa_getr G fd_X12 (a := 111) (x := 136) 52 rfl (by decide) rfl (wm 7 201 rfl rfl) ⟨rfl, rfl, rfl⟩ dX12_acts_220 rfl (G.sk 134 rfl) (by decide) rfl ?_
    refine lv_aload_n hx hb dX12_acts_223 rfl (lv_at hl 3 rfl) ?_
    refine xa_geti G fd_X12 (a := 111) (x := (μ.1 111 53) - 1) 53 rfl (by decide) rfl (wm 7 202 rfl rfl) ⟨rfl, rfl, rfl⟩ dX12_acts_224 rfl (sv_s _ _ _ _) ?_
    refine xa_lald G (a := 136) (i := (μ.1 111 53) - 1) rfl (by have h9 := G.lc (a := 136) (n := 9000) 74 rfl; omega) dX12_acts_227 rfl ?_
    refine xb_tl (y := μ.1 136 (μ.1 111 53 - 1)) (sv_n _ (fun h9 => absurd h9.1 (by decide))) ?_
    have hj_94 : jr (μ.1 136 (μ.1 111 53 - 1)) := (by have h9 := G.hj (a := 136) (k := (μ.1 111 53) - 1) rfl; rw [(sv_n _ (fun h9 => absurd h9.1 (by decide)))] at h9; exact h9)
    have e_95 : (sv μ 111 53 ((μ.1 111 53) - 1)).1 111 47 = n := ((sv_n _ (by decide)).trans hn.symm)
    have hMZ_96 : MZ (sv μ 111 53 ((μ.1 111 53) - 1)) := MZ.mn1 hMZ (n := n) (s := μ.1 131 (n - 1)) (hn.symm) (by have h9 : μ.1 131 (n - 1) = μ.1 131 (n - 1) := rfl; exact h9) (by omega) (by have h9 : μ.1 111 53 = μ.1 111 53 := rfl; omega)
    have e_97 : (sv μ 111 53 ((μ.1 111 53) - 1)).1 116 x2 = μ.1 116 x2 := (sv_n _ (fun h9 => absurd h9.1 (by decide)))
    have e_98 : (sv μ 111 53 ((μ.1 111 53) - 1)).1 116 x2 = μ.1 116 x2 := (sv_n _ (fun h9 => absurd h9.1 (by decide)))
    refine xc_vV G (b := 111) (rest := []) (As := [.int (iv (μ.1 116 x2)), .int (iv (μ.1 135 (μ.1 111 53 - 1))), .long (jv (μ.1 136 (μ.1 111 53 - 1)))]) (c_X12_puts ω l (sv μ 111 53 ((μ.1 111 53) - 1)) (μ.1 116 x2) (μ.1 135 (μ.1 111 53 - 1)) (μ.1 136 (μ.1 111 53 - 1)) n (by unfold ir; omega) (by unfold ir; omega) hj_94 (by omega) hMZ_96 (by omega) (by omega) (by rw [(show (sv μ 111 53 ((μ.1 111 53) - 1)).1 111 65 = μ.1 111 65 from (sv_n _ (by decide))), (show (sv μ 111 53 ((μ.1 111 53) - 1)).1 111 82 = μ.1 111 82 from (sv_n _ (by decide)))]; exact hs1_)) (wm 10 110 rfl rfl) (wm 10 112 rfl rfl) (wm 0 191 rfl rfl) rfl rfl (by decide) rfl (wm 1 18 rfl rfl) (wm 10 113 rfl rfl) (by decide) hR (by decide) (n := 3) rfl rfl (Nat.le_of_ble_eq_true rfl) hl.1 dX12_acts_228 (fun μ99 ρ d0 H locs hp G => ?_)
    obtain ⟨F_100, hp_101⟩ := hp
    refine lv_goto (tgt := 695) hx hb dX12_acts_231 (by decide) ?_
    have e_102 : μ99.1 111 85 = μ.1 111 85 := ((F_100.1 111 (by decide) 85).trans (sv_n _ (by decide)))
    have e_103 : μ99.1 111 83 = μ.1 111 83 := ((F_100.1 111 (by decide) 83).trans (sv_n _ (by decide)))
    have hrx_104 := RX.eq (μ := μ) (ν := μ99) (Eqa.fr (L := [133, 134, 111]) (FrM.tr (FrM.put FrM.rf (by decide)) F_100 (by decide)) (by decide)) (Eqf.fd (L := [53]) (fun j hj => ((F_100.1 111 (by decide) j).trans (sv_n _ (fun h9 => hj (by rw [h9.2]; decide))))) (by decide))
    have e_105 : μ99.1 111 85 = μ.1 111 85 := ((F_100.1 111 (by decide) 85).trans (sv_n _ (by decide)))
    have e_106 : μ99.1 111 85 = μ.1 111 85 := ((F_100.1 111 (by decide) 85).trans (sv_n _ (by decide)))
    exact xr_v G hret hlk dX12_acts_695 ⟨(FrM.tr (FrM.put FrM.rf (by decide)) F_100 (by decide)), (fun j hj => ((F_100.1 111 (by decide) j).trans (sv_n _ (fun h9 => hj (by rw [h9.2]; decide))))), (hMI.go (x := i + 1) (S := μ.1 111 53 + (-1)) (bl := μ.1 111 61) hp_101 ⟨(hMI.nx (e := -1) (by rw [ho]; unfold nxo; decide) (by rw [ho]; rfl)).1, (hMI.nx (e := -1) (by rw [ho]; unfold nxo; decide) (by rw [ho]; rfl)).2.trans (cem_n (by rw [ho]; unfold nxo; decide) (by rw [ho]; decide))⟩ (Eqa.fr (L := [133, 134, 111]) (FrM.tr (FrM.put FrM.rf (by decide)) F_100 (by decide)) (by decide)) (Eqf.fd (L := [53]) (fun j hj => ((F_100.1 111 (by decide) j).trans (sv_n _ (fun h9 => hj (by rw [h9.2]; decide))))) (by decide)) (by have h9 : μ99.1 129 (n - 1) = μ.1 129 (n - 1) := ((F_100.1 129 (by decide) (n - 1)).trans (sv_n _ (fun h9 => absurd h9.1 (by decide)))); have h8 := hMI.2.2.2.2.2.1; omega) (by have h9 : μ99.1 111 53 = (μ.1 111 53) - 1 := ((F_100.1 111 (by decide) 53).trans (sv_s _ _ _ _)); omega) (by have h9 : μ99.1 111 61 = μ.1 111 61 := ((F_100.1 111 (by decide) 61).trans (sv_n _ (by decide))); omega) (by omega)), (by omega)⟩
  by_cases c_29_5 : (μ.1 115 x2) = 5
  · refine xb_tin (tgt := 234) hx hb (by unfold ir; omega) dX12_acts_29 (by omega) (off := 205) (by rw [c_29_5]; rfl) (by decide) ?_
    have ho : μ.1 115 x2 = 5 := by omega
    refine lv_aload_n hx hb dX12_acts_234 rfl (lv_at hl 3 rfl) ?_
    refine lv_iload hx hb dX12_acts_235 (lv_at hl 0 rfl) ?_
    have e_107 : μ.1 111 47 = n := hn.symm
    refine xc_vV G (b := 111) (rest := []) (As := [.int (iv (μ.1 127 (n - 1)))]) (c_X12_setsCell ω l μ (μ.1 127 (n - 1)) i x2 n (by unfold ir; omega) (by omega) hMZ (by omega) (by omega) hMI rfl ho) (wm 10 131 rfl rfl) (wm 10 133 rfl rfl) (wm 0 196 rfl rfl) rfl rfl (by decide) rfl (wm 1 18 rfl rfl) (wm 10 134 rfl rfl) (by decide) hR (by decide) (n := 1) rfl rfl (Nat.le_of_ble_eq_true rfl) hl.1 dX12_acts_237 (fun μ108 ρ d0 H locs hp G => ?_)
    obtain ⟨F_109, hp_110, hp_111⟩ := hp
    refine lv_goto (tgt := 695) hx hb dX12_acts_240 (by decide) ?_
    have e_112 : μ108.1 111 85 = μ.1 111 85 := (hp_110 85 (by decide))
    have e_113 : μ108.1 111 85 = μ.1 111 85 := (hp_110 85 (by decide))
    have e_114 : μ108.1 111 85 = μ.1 111 85 := (hp_110 85 (by decide))
    exact xr_v G hret hlk dX12_acts_695 ⟨(FrM.tr FrM.rf F_109 (by decide)), (fun j hj => (hp_110 j (fun h9 => hj ((by decide : ∀ x ∈ ([47, 53, 61, 81, 82, 83, 84, 90, 91, 93, 94, 95, 96, 97, 98, 99] : List Int), x ∈ ([47, 53, 61, 81, 82, 83, 84, 90, 91, 93, 94, 95, 96, 97, 98, 99, 85, 88] : List Int)) j h9)))), (hp_111.le (by omega)), (by omega)⟩
  by_cases c_29_6 : (μ.1 115 x2) = 6
  · refine xb_tin (tgt := 243) hx hb (by unfold ir; omega) dX12_acts_29 (by omega) (off := 214) (by rw [c_29_6]; rfl) (by decide) ?_
    have ho : μ.1 115 x2 = 6 := by omega
    have hlw_ := hMI.low
    have hle_ := hlw_.2.2.2.2.2.2.1
    have hlo_ := hlw_.1 (by omega)
    clear hlw_
    have hs1_ := hMZ.stv (μ.1 111 53 - 1) (by omega) (by omega)
    have hs1r_ := hs1_.1
    refine lv_aload_n hx hb dX12_acts_243 rfl (lv_at hl 3 rfl) ?_
    refine lv_dup hx hb dX12_acts_244 rfl ?_
    refine xa_geti G fd_X12 (a := 111) (x := μ.1 111 53) 53 rfl (by decide) rfl (wm 7 202 rfl rfl) ⟨rfl, rfl, rfl⟩ dX12_acts_245 rfl rfl ?_
    have hr_115 : -2147483648 ≤ μ.1 111 53 ∧ μ.1 111 53 ≤ 2147483647 := by have h9 := G.hr (a := 111) (k := 53) rfl; exact h9
    refine lv_iconst (v := iv 1) hx hb dX12_acts_248 rfl ?_
    refine xb_isub hx hb dX12_acts_249 ?_
    refine xa_puti G fd_X12 (a := 111) (x := (μ.1 111 53) - 1) 53 (kz := 53) rfl rfl (by decide) rfl (by unfold ir; omega) (wm 7 202 rfl rfl) ⟨rfl, rfl, rfl, rfl⟩ rfl dX12_acts_250 rfl (fun H locs G => ?_)
    refine lv_aload_n hx hb dX12_acts_253 rfl (lv_at hl 3 rfl) ?_
    refine xa_getr G fd_X12 (a := 111) (x := 135) 51 rfl (by decide) rfl (wm 7 200 rfl rfl) ⟨rfl, rfl, rfl⟩ dX12_acts_254 rfl (G.sk 133 rfl) (by decide) rfl ?_
    refine lv_aload_n hx hb dX12_acts_257 rfl (lv_at hl 3 rfl) ?_
    refine xa_geti G fd_X12 (a := 111) (x := (μ.1 111 53) - 1) 53 rfl (by decide) rfl (wm 7 202 rfl rfl) ⟨rfl, rfl, rfl⟩ dX12_acts_258 rfl (sv_s _ _ _ _) ?_
    have hr_116 : -2147483648 ≤ (μ.1 111 53) - 1 ∧ (μ.1 111 53) - 1 ≤ 2147483647 := by have h9 := G.hr (a := 111) (k := 53) rfl; rw [show (sv μ 111 53 ((μ.1 111 53) - 1)).1 111 53 = (μ.1 111 53) - 1 from (sv_s _ _ _ _)] at h9; exact h9
    refine xa_bald G (a := 135) (i := (μ.1 111 53) - 1) rfl (by have h9 := G.lc (a := 135) (n := 9000) 73 rfl; omega) dX12_acts_261 rfl ?_
    refine xb_ti (y := μ.1 135 (μ.1 111 53 - 1)) (sv_n _ (fun h9 => absurd h9.1 (by decide))) ?_
    have hr_117 : -2147483648 ≤ μ.1 135 (μ.1 111 53 - 1) ∧ μ.1 135 (μ.1 111 53 - 1) ≤ 2147483647 := by have h9 := G.hr3 (a := 135) (k := (μ.1 111 53) - 1) rfl; rw [(sv_n _ (fun h9 => absurd h9.1 (by decide)))] at h9; exact h9
    refine lv_iconst (v := iv 4) hx hb dX12_acts_262 rfl ?_
    refine xb_icmp_ne (tgt := 695) hx hb (by unfold ir; omega) (by unfold ir; omega) dX12_acts_263 (by decide) (fun c_263 => ?_) (fun c_263 => ?_)
    · have e_118 : (sv μ 111 53 ((μ.1 111 53) - 1)).1 111 85 = μ.1 111 85 := (sv_n _ (by decide))
      have e_119 : (sv μ 111 53 ((μ.1 111 53) - 1)).1 111 83 = μ.1 111 83 := (sv_n _ (by decide))
      have hrx_120 := RX.eq (μ := μ) (ν := (sv μ 111 53 ((μ.1 111 53) - 1))) (Eqa.fr (L := [111]) (FrM.put FrM.rf (by decide)) (by decide)) (Eqf.fd (L := [53]) (fun j hj => (sv_n _ (fun h9 => hj (by rw [h9.2]; decide)))) (by decide))
      have hMZ_121 : MZ (sv μ 111 53 ((μ.1 111 53) - 1)) := MZ.mn1 hMZ (n := n) (s := μ.1 131 (n - 1)) (hn.symm) (by have h9 : μ.1 131 (n - 1) = μ.1 131 (n - 1) := rfl; exact h9) (by omega) (by have h9 : μ.1 111 53 = μ.1 111 53 := rfl; omega)
      have e_122 : (sv μ 111 53 ((μ.1 111 53) - 1)).1 111 85 = μ.1 111 85 := (sv_n _ (by decide))
      have e_123 : (sv μ 111 53 ((μ.1 111 53) - 1)).1 111 85 = μ.1 111 85 := (sv_n _ (by decide))
      exact xr_v G hret hlk dX12_acts_695 ⟨(FrM.put FrM.rf (by decide)), (fun j hj => (sv_n _ (fun h9 => hj (by rw [h9.2]; decide)))), (hMI.go (x := i + 1) (S := μ.1 111 53 + (-1)) (bl := μ.1 111 61) hMZ_121 ⟨(hMI.nx (e := -1) (by rw [ho]; unfold nxo; decide) (by rw [ho]; rfl)).1, (hMI.nx (e := -1) (by rw [ho]; unfold nxo; decide) (by rw [ho]; rfl)).2.trans (cem_n (by rw [ho]; unfold nxo; decide) (by rw [ho]; decide))⟩ (Eqa.fr (L := [111]) (FrM.put FrM.rf (by decide)) (by decide)) (Eqf.fd (L := [53]) (fun j hj => (sv_n _ (fun h9 => hj (by rw [h9.2]; decide)))) (by decide)) (by have h9 : (sv μ 111 53 ((μ.1 111 53) - 1)).1 129 (n - 1) = μ.1 129 (n - 1) := (sv_n _ (fun h9 => absurd h9.1 (by decide))); have h8 := hMI.2.2.2.2.2.1; omega) (by have h9 : (sv μ 111 53 ((μ.1 111 53) - 1)).1 111 53 = (μ.1 111 53) - 1 := (sv_s _ _ _ _); omega) (by have h9 : (sv μ 111 53 ((μ.1 111 53) - 1)).1 111 61 = μ.1 111 61 := (sv_n _ (by decide)); omega) (by omega)), (by omega)⟩
    · refine lv_aload_n hx hb dX12_acts_266 rfl (lv_at hl 3 rfl) ?_
      refine lv_dup hx hb dX12_acts_267 rfl ?_
      refine xa_geti G fd_X12 (a := 111) (x := μ.1 111 88) 88 rfl (by decide) rfl (wm 7 237 rfl rfl) ⟨rfl, rfl, rfl⟩ dX12_acts_268 rfl (sv_n _ (by decide)) ?_
      have hr_124 : -2147483648 ≤ μ.1 111 88 ∧ μ.1 111 88 ≤ 2147483647 := by have h9 := G.hr (a := 111) (k := 88) rfl; rw [show (sv μ 111 53 ((μ.1 111 53) - 1)).1 111 88 = μ.1 111 88 from (sv_n _ (by decide))] at h9; exact h9
      refine lv_iconst (v := iv 1) hx hb dX12_acts_271 rfl ?_
      refine xb_iadd hx hb dX12_acts_272 ?_
      refine xb_topi (fun y_125 hr_y_125 he_y_125 => ?_)
      have hr_y_125 : -2147483648 ≤ y_125 ∧ y_125 ≤ 2147483647 := hr_y_125
      refine xa_puti G fd_X12 (a := 111) (x := y_125) 88 (kz := 88) rfl rfl (by decide) rfl (by unfold ir; omega) (wm 7 237 rfl rfl) ⟨rfl, rfl, rfl, rfl⟩ rfl dX12_acts_273 rfl (fun H locs G => ?_)
      refine lv_goto (tgt := 695) hx hb dX12_acts_276 (by decide) ?_
      have e_126 : (sv (sv μ 111 53 ((μ.1 111 53) - 1)) 111 88 y_125).1 111 85 = μ.1 111 85 := ((sv_n _ (by decide)).trans (sv_n _ (by decide)))
      have e_127 : (sv (sv μ 111 53 ((μ.1 111 53) - 1)) 111 88 y_125).1 111 83 = μ.1 111 83 := ((sv_n _ (by decide)).trans (sv_n _ (by decide)))
      have hrx_128 := RX.eq (μ := μ) (ν := (sv (sv μ 111 53 ((μ.1 111 53) - 1)) 111 88 y_125)) (Eqa.fr (L := [111]) (FrM.put (FrM.put FrM.rf (by decide)) (by decide)) (by decide)) (Eqf.fd (L := [53, 88]) (fun j hj => ((sv_n _ (fun h9 => hj (by rw [h9.2]; decide))).trans (sv_n _ (fun h9 => hj (by rw [h9.2]; decide))))) (by decide))
      have hMZ_129 : MZ (sv μ 111 53 ((μ.1 111 53) - 1)) := MZ.mn1 hMZ (n := n) (s := μ.1 131 (n - 1)) (hn.symm) (by have h9 : μ.1 131 (n - 1) = μ.1 131 (n - 1) := rfl; exact h9) (by omega) (by have h9 : μ.1 111 53 = μ.1 111 53 := rfl; omega)
      have hMZ_130 : MZ (sv (sv μ 111 53 ((μ.1 111 53) - 1)) 111 88 y_125) := MZ.f hMZ_129 (by decide)
      have e_131 : (sv (sv μ 111 53 ((μ.1 111 53) - 1)) 111 88 y_125).1 111 85 = μ.1 111 85 := ((sv_n _ (by decide)).trans (sv_n _ (by decide)))
      have e_132 : (sv (sv μ 111 53 ((μ.1 111 53) - 1)) 111 88 y_125).1 111 85 = μ.1 111 85 := ((sv_n _ (by decide)).trans (sv_n _ (by decide)))
      exact xr_v G hret hlk dX12_acts_695 ⟨(FrM.put (FrM.put FrM.rf (by decide)) (by decide)), (fun j hj => ((sv_n _ (fun h9 => hj (by rw [h9.2]; decide))).trans (sv_n _ (fun h9 => hj (by rw [h9.2]; decide))))), (hMI.go (x := i + 1) (S := μ.1 111 53 + (-1)) (bl := μ.1 111 61) hMZ_130 ⟨(hMI.nx (e := -1) (by rw [ho]; unfold nxo; decide) (by rw [ho]; rfl)).1, (hMI.nx (e := -1) (by rw [ho]; unfold nxo; decide) (by rw [ho]; rfl)).2.trans (cem_n (by rw [ho]; unfold nxo; decide) (by rw [ho]; decide))⟩ (Eqa.fr (L := [111]) (FrM.put (FrM.put FrM.rf (by decide)) (by decide)) (by decide)) (Eqf.fd (L := [53, 88]) (fun j hj => ((sv_n _ (fun h9 => hj (by rw [h9.2]; decide))).trans (sv_n _ (fun h9 => hj (by rw [h9.2]; decide))))) (by decide)) (by have h9 : (sv (sv μ 111 53 ((μ.1 111 53) - 1)) 111 88 y_125).1 129 (n - 1) = μ.1 129 (n - 1) := ((sv_n _ (fun h9 => absurd h9.1 (by decide))).trans (sv_n _ (fun h9 => absurd h9.1 (by decide)))); have h8 := hMI.2.2.2.2.2.1; omega) (by have h9 : (sv (sv μ 111 53 ((μ.1 111 53) - 1)) 111 88 y_125).1 111 53 = (μ.1 111 53) - 1 := ((sv_n _ (by decide)).trans (sv_s _ _ _ _)); omega) (by have h9 : (sv (sv μ 111 53 ((μ.1 111 53) - 1)) 111 88 y_125).1 111 61 = μ.1 111 61 := ((sv_n _ (by decide)).trans (sv_n _ (by decide))); omega) (by omega)), (by omega)⟩
  by_cases c_29_7 : (μ.1 115 x2) = 7
  · refine xb_tin (tgt := 279) hx hb (by unfold ir; omega) dX12_acts_29 (by omega) (off := 250) (by rw [c_29_7]; rfl) (by decide) ?_
    have ho : μ.1 115 x2 = 7 := by omega
    have hlw_ := hMI.low
    have hle_ := hlw_.2.2.2.2.2.2.1
    have hlo_ := hlw_.1 (by omega)
    clear hlw_
    have hs1_ := hMZ.stv (μ.1 111 53 - 1) (by omega) (by omega)
    have hs1r_ := hs1_.1
    have hfar_ := hMI.far (d := 1) (Or.inl ⟨ho, rfl⟩)
    refine lv_aload_n hx hb dX12_acts_279 rfl (lv_at hl 3 rfl) ?_
    have e_133 : μ.1 111 47 = n := hn.symm
    refine xc_iV G (b := 111) (rest := []) (As := []) (c_X12_asksNumber ω l μ n (μ.1 111 53) (by omega) (by omega) hMZ (by omega) (by omega) (by omega) (by omega)) (wm 10 215 rfl rfl) (wm 10 217 rfl rfl) (wm 0 217 rfl rfl) rfl rfl (by decide) rfl (wm 1 18 rfl rfl) (wm 10 218 rfl rfl) (by decide) hR (by decide) (n := 0) rfl rfl (Nat.le_of_ble_eq_true rfl) hl.1 dX12_acts_280 (fun r_135 μ134 ρ d0 H locs hr_r_135 hp G => ?_)
    have hr_r_135 : -2147483648 ≤ r_135 ∧ r_135 ≤ 2147483647 := hr_r_135
    obtain ⟨F_136, hp_137, hp_138, hp_139, hp_140, hp_141⟩ := hp
    replace hp_140 := fun _ : Unit => hp_140
    refine xb_if_ne (tgt := 289) hx hb (by unfold ir; omega) dX12_acts_283 (by decide) (fun c_283 => ?_) (fun c_283 => ?_)
    · obtain ⟨hak_142, hak_1422⟩ := (hp_140 ()) (by omega)
      have hak_142 := Eq.symm hak_142
      subst hak_142
      refine lv_aload_n hx hb dX12_acts_289 rfl (lv_at hl 3 rfl) ?_
      refine lv_dup hx hb dX12_acts_290 rfl ?_
      refine xa_geti G fd_X12 (a := 111) (x := μ.1 111 53) 53 rfl (by decide) rfl (wm 7 202 rfl rfl) ⟨rfl, rfl, rfl⟩ dX12_acts_291 rfl rfl ?_
      have hr_143 : -2147483648 ≤ μ.1 111 53 ∧ μ.1 111 53 ≤ 2147483647 := by have h9 := G.hr (a := 111) (k := 53) rfl; exact h9
      refine lv_iconst (v := iv 1) hx hb dX12_acts_294 rfl ?_
      refine xb_isub hx hb dX12_acts_295 ?_
      refine xa_puti G fd_X12 (a := 111) (x := (μ.1 111 53) - 1) 53 (kz := 53) rfl rfl (by decide) rfl (by unfold ir; omega) (wm 7 202 rfl rfl) ⟨rfl, rfl, rfl, rfl⟩ rfl dX12_acts_296 rfl (fun H locs G => ?_)
      refine lv_aload_n hx hb dX12_acts_299 rfl (lv_at hl 3 rfl) ?_
      refine lv_iload hx hb dX12_acts_300 (lv_at hl 0 rfl) ?_
      refine lv_aload_n hx hb dX12_acts_302 rfl (lv_at hl 3 rfl) ?_
      refine xa_getr G fd_X12 (a := 111) (x := 136) 52 rfl (by decide) rfl (wm 7 201 rfl rfl) ⟨rfl, rfl, rfl⟩ dX12_acts_303 rfl (G.sk 134 rfl) (by decide) rfl ?_
      refine lv_aload_n hx hb dX12_acts_306 rfl (lv_at hl 3 rfl) ?_
      refine xa_geti G fd_X12 (a := 111) (x := (μ.1 111 53) - 1) 53 rfl (by decide) rfl (wm 7 202 rfl rfl) ⟨rfl, rfl, rfl⟩ dX12_acts_307 rfl (sv_s _ _ _ _) ?_
      have hr_144 : -2147483648 ≤ (μ.1 111 53) - 1 ∧ (μ.1 111 53) - 1 ≤ 2147483647 := by have h9 := G.hr (a := 111) (k := 53) rfl; rw [show (sv μ 111 53 ((μ.1 111 53) - 1)).1 111 53 = (μ.1 111 53) - 1 from (sv_s _ _ _ _)] at h9; exact h9
      refine xa_lald G (a := 136) (i := (μ.1 111 53) - 1) rfl (by have h9 := G.lc (a := 136) (n := 9000) 74 rfl; omega) dX12_acts_310 rfl ?_
      refine xb_tl (y := μ.1 136 (μ.1 111 53 - 1)) (sv_n _ (fun h9 => absurd h9.1 (by decide))) ?_
      have hj_145 : jr (μ.1 136 (μ.1 111 53 - 1)) := (by have h9 := G.hj (a := 136) (k := (μ.1 111 53) - 1) rfl; rw [(sv_n _ (fun h9 => absurd h9.1 (by decide)))] at h9; exact h9)
      refine xc_iV G (b := 111) (rest := []) (As := [.int (iv (μ.1 127 (n - 1))), .long (jv (μ.1 136 (μ.1 111 53 - 1)))]) (c_X12_isZero_b ω l (sv μ 111 53 ((μ.1 111 53) - 1)) (μ.1 127 (n - 1)) (μ.1 136 (μ.1 111 53 - 1)) (by unfold ir; omega) hj_145) (wm 10 223 rfl rfl) (wm 10 225 rfl rfl) (wm 0 219 rfl rfl) rfl rfl (by decide) rfl (wm 1 18 rfl rfl) (wm 10 226 rfl rfl) (by decide) hR (by decide) (n := 2) rfl rfl (Nat.le_of_ble_eq_true rfl) hl.1 dX12_acts_311 (fun r_147 μ146 ρ d0 H locs hr_r_147 hp G => ?_)
      have hr_r_147 : -2147483648 ≤ r_147 ∧ r_147 ≤ 2147483647 := hr_r_147
      obtain ⟨hsm_148, hp_149⟩ := hp
      have hsm_148 := Eq.symm hsm_148
      subst hsm_148
      refine xb_if_eq (tgt := 695) hx hb (by unfold ir; omega) dX12_acts_314 (by decide) (fun c_314 => ?_) (fun c_314 => ?_)
      · have e_150 : (sv μ 111 53 ((μ.1 111 53) - 1)).1 111 85 = μ.1 111 85 := (sv_n _ (by decide))
        have e_151 : (sv μ 111 53 ((μ.1 111 53) - 1)).1 111 83 = μ.1 111 83 := (sv_n _ (by decide))
        have hrx_152 := RX.eq (μ := μ) (ν := (sv μ 111 53 ((μ.1 111 53) - 1))) (Eqa.fr (L := [111]) (FrM.put FrM.rf (by decide)) (by decide)) (Eqf.fd (L := [53]) (fun j hj => (sv_n _ (fun h9 => hj (by rw [h9.2]; decide)))) (by decide))
        have hMZ_153 : MZ (sv μ 111 53 ((μ.1 111 53) - 1)) := MZ.mn1 hMZ (n := n) (s := μ.1 131 (n - 1)) (hn.symm) (by have h9 : μ.1 131 (n - 1) = μ.1 131 (n - 1) := rfl; exact h9) (by omega) (by have h9 : μ.1 111 53 = μ.1 111 53 := rfl; omega)
        have e_154 : (sv μ 111 53 ((μ.1 111 53) - 1)).1 111 85 = μ.1 111 85 := (sv_n _ (by decide))
        have e_155 : (sv μ 111 53 ((μ.1 111 53) - 1)).1 111 85 = μ.1 111 85 := (sv_n _ (by decide))
        exact xr_v G hret hlk dX12_acts_695 ⟨(FrM.put FrM.rf (by decide)), (fun j hj => (sv_n _ (fun h9 => hj (by rw [h9.2]; decide)))), (hMI.go (x := i + 1) (S := μ.1 111 53 + (-1)) (bl := μ.1 111 61) hMZ_153 ⟨(hMI.nx (e := -1) (by rw [ho]; unfold nxo; decide) (by rw [ho]; rfl)).1, (hMI.nx (e := -1) (by rw [ho]; unfold nxo; decide) (by rw [ho]; rfl)).2.trans (cem_n (by rw [ho]; unfold nxo; decide) (by rw [ho]; decide))⟩ (Eqa.fr (L := [111]) (FrM.put FrM.rf (by decide)) (by decide)) (Eqf.fd (L := [53]) (fun j hj => (sv_n _ (fun h9 => hj (by rw [h9.2]; decide)))) (by decide)) (by have h9 : (sv μ 111 53 ((μ.1 111 53) - 1)).1 129 (n - 1) = μ.1 129 (n - 1) := (sv_n _ (fun h9 => absurd h9.1 (by decide))); have h8 := hMI.2.2.2.2.2.1; omega) (by have h9 : (sv μ 111 53 ((μ.1 111 53) - 1)).1 111 53 = (μ.1 111 53) - 1 := (sv_s _ _ _ _); omega) (by have h9 : (sv μ 111 53 ((μ.1 111 53) - 1)).1 111 61 = μ.1 111 61 := (sv_n _ (by decide)); omega) (by omega)), (by omega)⟩
      · refine lv_aload_n hx hb dX12_acts_317 rfl (lv_at hl 3 rfl) ?_
        refine xa_getr G fd_X12 (a := 111) (x := 129) 43 rfl (by decide) rfl (wm 7 192 rfl rfl) ⟨rfl, rfl, rfl⟩ dX12_acts_318 rfl (G.sk 127 rfl) (by decide) rfl ?_
        refine lv_iload_n hx hb dX12_acts_321 rfl (lv_at hl 4 rfl) ?_
        refine lv_lload_n hx hb dX12_acts_322 rfl (lv_at hl 2 rfl) ?_
        refine xb_l2i hx hb dX12_acts_323 ?_
        refine xb_topi (fun y_156 hr_y_156 he_y_156 => ?_)
        have hr_y_156 : -2147483648 ≤ y_156 ∧ y_156 ≤ 2147483647 := hr_y_156
        have hli_y_156 : ir (μ.1 116 x2) → y_156 = μ.1 116 x2 := fun h9 => (iv_eq hr_y_156 h9).mp he_y_156
        unfold ir at hli_y_156
        refine xb_ti (y := μ.1 116 x2) (hli_y_156 (by omega)) ?_
        have hr_157 : -2147483648 ≤ μ.1 116 x2 ∧ μ.1 116 x2 ≤ 2147483647 := by omega
        refine xa_iast G (a := 129) (i := n - 1) (x := μ.1 116 x2) rfl (by have h9 := G.lc (a := 129) (n := 26) 67 rfl; omega) (by unfold ir; omega) dX12_acts_324 rfl (fun H locs G => ?_)
        refine lv_goto (tgt := 695) hx hb dX12_acts_325 (by decide) ?_
        have e_158 : (sv (sv μ 111 53 ((μ.1 111 53) - 1)) 129 (n - 1) (μ.1 116 x2)).1 111 85 = μ.1 111 85 := ((sv_n _ (fun h9 => absurd h9.1 (by decide))).trans (sv_n _ (by decide)))
        have e_159 : (sv (sv μ 111 53 ((μ.1 111 53) - 1)) 129 (n - 1) (μ.1 116 x2)).1 111 83 = μ.1 111 83 := ((sv_n _ (fun h9 => absurd h9.1 (by decide))).trans (sv_n _ (by decide)))
        have hrx_160 := RX.eq (μ := μ) (ν := (sv (sv μ 111 53 ((μ.1 111 53) - 1)) 129 (n - 1) (μ.1 116 x2))) (Eqa.fr (L := [129, 111]) (FrM.put (FrM.put FrM.rf (by decide)) (by decide)) (by decide)) (Eqf.fd (L := [53]) (fun j hj => ((sv_n _ (fun h9 => absurd h9.1 (by decide))).trans (sv_n _ (fun h9 => hj (by rw [h9.2]; decide))))) (by decide))
        have hMZ_161 : MZ (sv μ 111 53 ((μ.1 111 53) - 1)) := MZ.mn1 hMZ (n := n) (s := μ.1 131 (n - 1)) (hn.symm) (by have h9 : μ.1 131 (n - 1) = μ.1 131 (n - 1) := rfl; exact h9) (by omega) (by have h9 : μ.1 111 53 = μ.1 111 53 := rfl; omega)
        have hMZ_162 : MZ (sv (sv μ 111 53 ((μ.1 111 53) - 1)) 129 (n - 1) (μ.1 116 x2)) := MZ.pc hMZ_161 (by rw [show (sv μ 111 53 ((μ.1 111 53) - 1)).1 111 47 = n from ((sv_n _ (by decide)).trans hn.symm)])
        have e_163 : (sv (sv μ 111 53 ((μ.1 111 53) - 1)) 129 (n - 1) (μ.1 116 x2)).1 111 85 = μ.1 111 85 := ((sv_n _ (fun h9 => absurd h9.1 (by decide))).trans (sv_n _ (by decide)))
        have e_164 : (sv (sv μ 111 53 ((μ.1 111 53) - 1)) 129 (n - 1) (μ.1 116 x2)).1 111 85 = μ.1 111 85 := ((sv_n _ (fun h9 => absurd h9.1 (by decide))).trans (sv_n _ (by decide)))
        exact xr_v G hret hlk dX12_acts_695 ⟨(FrM.put (FrM.put FrM.rf (by decide)) (by decide)), (fun j hj => ((sv_n _ (fun h9 => absurd h9.1 (by decide))).trans (sv_n _ (fun h9 => hj (by rw [h9.2]; decide))))), (hMI.go (x := μ.1 116 x2) (S := μ.1 111 53 - 1) (bl := μ.1 111 61) hMZ_162 hfar_.1 (Eqa.fr (L := [129, 111]) (FrM.put (FrM.put FrM.rf (by decide)) (by decide)) (by decide)) (Eqf.fd (L := [53]) (fun j hj => ((sv_n _ (fun h9 => absurd h9.1 (by decide))).trans (sv_n _ (fun h9 => hj (by rw [h9.2]; decide))))) (by decide)) (by have h9 : (sv (sv μ 111 53 ((μ.1 111 53) - 1)) 129 (n - 1) (μ.1 116 x2)).1 129 (n - 1) = μ.1 116 x2 := (sv_s _ _ _ _); omega) (by have h9 : (sv (sv μ 111 53 ((μ.1 111 53) - 1)) 129 (n - 1) (μ.1 116 x2)).1 111 53 = (μ.1 111 53) - 1 := ((sv_n _ (fun h9 => absurd h9.1 (by decide))).trans (sv_s _ _ _ _)); omega) (by have h9 : (sv (sv μ 111 53 ((μ.1 111 53) - 1)) 129 (n - 1) (μ.1 116 x2)).1 111 61 = μ.1 111 61 := ((sv_n _ (fun h9 => absurd h9.1 (by decide))).trans (sv_n _ (by decide))); omega) (by omega)), (by omega)⟩
    · refine lv_goto (tgt := 695) hx hb dX12_acts_286 (by decide) ?_
      have e_165 : μ134.1 111 85 = μ.1 111 85 := (hp_137 85 (by decide))
      have e_166 : μ134.1 111 85 = μ.1 111 85 := (hp_137 85 (by decide))
      have e_167 : μ134.1 111 85 = μ.1 111 85 := (hp_137 85 (by decide))
      exact xr_v G hret hlk dX12_acts_695 ⟨(FrM.tr FrM.rf F_136 (by decide)), (fun j hj => (hp_137 j (fun h9 => hj ((by decide : ∀ x ∈ ([47, 53, 61, 81, 82, 83, 84, 90, 91, 93, 94, 95, 96, 97, 98, 99] : List Int), x ∈ ([47, 53, 61, 81, 82, 83, 84, 90, 91, 93, 94, 95, 96, 97, 98, 99, 85, 88] : List Int)) j h9)))), ((hp_141 (by omega)).le (by omega)), (by omega)⟩
  by_cases c_29_8 : (μ.1 115 x2) = 8
  · refine xb_tin (tgt := 328) hx hb (by unfold ir; omega) dX12_acts_29 (by omega) (off := 299) (by rw [c_29_8]; rfl) (by decide) ?_
    have ho : μ.1 115 x2 = 8 := by omega
    have hr8_ := hMI.r8 (by omega)
    refine lv_aload_n hx hb dX12_acts_328 rfl (lv_at hl 3 rfl) ?_
    refine xa_getr G fd_X12 (a := 111) (x := 129) 43 rfl (by decide) rfl (wm 7 192 rfl rfl) ⟨rfl, rfl, rfl⟩ dX12_acts_329 rfl (G.sk 127 rfl) (by decide) rfl ?_
    refine lv_iload_n hx hb dX12_acts_332 rfl (lv_at hl 4 rfl) ?_
    refine lv_lload_n hx hb dX12_acts_333 rfl (lv_at hl 2 rfl) ?_
    refine xb_l2i hx hb dX12_acts_334 ?_
    refine xb_topi (fun y_168 hr_y_168 he_y_168 => ?_)
    have hr_y_168 : -2147483648 ≤ y_168 ∧ y_168 ≤ 2147483647 := hr_y_168
    have hli_y_168 : ir (μ.1 116 x2) → y_168 = μ.1 116 x2 := fun h9 => (iv_eq hr_y_168 h9).mp he_y_168
    unfold ir at hli_y_168
    refine xb_ti (y := μ.1 116 x2) (hli_y_168 (by omega)) ?_
    have hr_169 : -2147483648 ≤ μ.1 116 x2 ∧ μ.1 116 x2 ≤ 2147483647 := by omega
    refine xa_iast G (a := 129) (i := n - 1) (x := μ.1 116 x2) rfl (by have h9 := G.lc (a := 129) (n := 26) 67 rfl; omega) (by unfold ir; omega) dX12_acts_335 rfl (fun H locs G => ?_)
    refine lv_goto (tgt := 695) hx hb dX12_acts_336 (by decide) ?_
    have e_170 : (sv μ 129 (n - 1) (μ.1 116 x2)).1 111 85 = μ.1 111 85 := (sv_n _ (fun h9 => absurd h9.1 (by decide)))
    have hMZ_171 : MZ (sv μ 129 (n - 1) (μ.1 116 x2)) := MZ.pc hMZ (by rw [show μ.1 111 47 = n from hn.symm])
    have e_172 : (sv μ 129 (n - 1) (μ.1 116 x2)).1 111 85 = μ.1 111 85 := (sv_n _ (fun h9 => absurd h9.1 (by decide)))
    have e_173 : (sv μ 129 (n - 1) (μ.1 116 x2)).1 111 85 = μ.1 111 85 := (sv_n _ (fun h9 => absurd h9.1 (by decide)))
    exact xr_v G hret hlk dX12_acts_695 ⟨(FrM.put FrM.rf (by decide)), (fun j hj => (sv_n _ (fun h9 => absurd h9.1 (by decide)))), (hMI.jmp ho hMZ_171 (Eqa.fr (L := [129]) (FrM.put FrM.rf (by decide)) (by decide)) (Eqf.fd (L := []) (fun j hj => (sv_n _ (fun h9 => absurd h9.1 (by decide)))) (by decide)) (by have h9 : (sv μ 129 (n - 1) (μ.1 116 x2)).1 129 (n - 1) = μ.1 116 x2 := (sv_s _ _ _ _); omega)), (by omega)⟩
  by_cases c_29_9 : (μ.1 115 x2) = 9
  · refine xb_tin (tgt := 339) hx hb (by unfold ir; omega) dX12_acts_29 (by omega) (off := 310) (by rw [c_29_9]; rfl) (by decide) ?_
    have ho : μ.1 115 x2 = 9 := by omega
    have hlw_ := hMI.low
    have hle_ := hlw_.2.2.2.2.2.2.1
    have hlo_ := hlw_.1 (by omega)
    clear hlw_
    have hs1_ := hMZ.stv (μ.1 111 53 - 1) (by omega) (by omega)
    have hs1r_ := hs1_.1
    refine lv_aload_n hx hb dX12_acts_339 rfl (lv_at hl 3 rfl) ?_
    refine lv_dup hx hb dX12_acts_340 rfl ?_
    refine xa_geti G fd_X12 (a := 111) (x := μ.1 111 53) 53 rfl (by decide) rfl (wm 7 202 rfl rfl) ⟨rfl, rfl, rfl⟩ dX12_acts_341 rfl rfl ?_
    have hr_174 : -2147483648 ≤ μ.1 111 53 ∧ μ.1 111 53 ≤ 2147483647 := by have h9 := G.hr (a := 111) (k := 53) rfl; exact h9
    refine lv_iconst (v := iv 1) hx hb dX12_acts_344 rfl ?_
    refine xb_isub hx hb dX12_acts_345 ?_
    refine xa_puti G fd_X12 (a := 111) (x := (μ.1 111 53) - 1) 53 (kz := 53) rfl rfl (by decide) rfl (by unfold ir; omega) (wm 7 202 rfl rfl) ⟨rfl, rfl, rfl, rfl⟩ rfl dX12_acts_346 rfl (fun H locs G => ?_)
    refine lv_aload_n hx hb dX12_acts_349 rfl (lv_at hl 3 rfl) ?_
    refine lv_iconst (v := iv 1) hx hb dX12_acts_350 rfl ?_
    refine lv_aload_n hx hb dX12_acts_351 rfl (lv_at hl 3 rfl) ?_
    refine xa_getr G fd_X12 (a := 111) (x := 135) 51 rfl (by decide) rfl (wm 7 200 rfl rfl) ⟨rfl, rfl, rfl⟩ dX12_acts_352 rfl (G.sk 133 rfl) (by decide) rfl ?_
    refine lv_aload_n hx hb dX12_acts_355 rfl (lv_at hl 3 rfl) ?_
    refine xa_geti G fd_X12 (a := 111) (x := (μ.1 111 53) - 1) 53 rfl (by decide) rfl (wm 7 202 rfl rfl) ⟨rfl, rfl, rfl⟩ dX12_acts_356 rfl (sv_s _ _ _ _) ?_
    have hr_175 : -2147483648 ≤ (μ.1 111 53) - 1 ∧ (μ.1 111 53) - 1 ≤ 2147483647 := by have h9 := G.hr (a := 111) (k := 53) rfl; rw [show (sv μ 111 53 ((μ.1 111 53) - 1)).1 111 53 = (μ.1 111 53) - 1 from (sv_s _ _ _ _)] at h9; exact h9
    refine xa_bald G (a := 135) (i := (μ.1 111 53) - 1) rfl (by have h9 := G.lc (a := 135) (n := 9000) 73 rfl; omega) dX12_acts_359 rfl ?_
    refine xb_ti (y := μ.1 135 (μ.1 111 53 - 1)) (sv_n _ (fun h9 => absurd h9.1 (by decide))) ?_
    have hr_176 : -2147483648 ≤ μ.1 135 (μ.1 111 53 - 1) ∧ μ.1 135 (μ.1 111 53 - 1) ≤ 2147483647 := by have h9 := G.hr3 (a := 135) (k := (μ.1 111 53) - 1) rfl; rw [(sv_n _ (fun h9 => absurd h9.1 (by decide)))] at h9; exact h9
    refine lv_aload_n hx hb dX12_acts_360 rfl (lv_at hl 3 rfl) ?_
    refine xa_getr G fd_X12 (a := 111) (x := 136) 52 rfl (by decide) rfl (wm 7 201 rfl rfl) ⟨rfl, rfl, rfl⟩ dX12_acts_361 rfl (G.sk 134 rfl) (by decide) rfl ?_
    refine lv_aload_n hx hb dX12_acts_364 rfl (lv_at hl 3 rfl) ?_
    refine xa_geti G fd_X12 (a := 111) (x := (μ.1 111 53) - 1) 53 rfl (by decide) rfl (wm 7 202 rfl rfl) ⟨rfl, rfl, rfl⟩ dX12_acts_365 rfl (sv_s _ _ _ _) ?_
    refine xa_lald G (a := 136) (i := (μ.1 111 53) - 1) rfl (by have h9 := G.lc (a := 136) (n := 9000) 74 rfl; omega) dX12_acts_368 rfl ?_
    refine xb_tl (y := μ.1 136 (μ.1 111 53 - 1)) (sv_n _ (fun h9 => absurd h9.1 (by decide))) ?_
    have hj_177 : jr (μ.1 136 (μ.1 111 53 - 1)) := (by have h9 := G.hj (a := 136) (k := (μ.1 111 53) - 1) rfl; rw [(sv_n _ (fun h9 => absurd h9.1 (by decide)))] at h9; exact h9)
    have e_178 : (sv μ 111 53 ((μ.1 111 53) - 1)).1 111 83 = μ.1 111 83 := (sv_n _ (by decide))
    have hrx_179 := RX.eq (μ := μ) (ν := (sv μ 111 53 ((μ.1 111 53) - 1))) (Eqa.fr (L := [111]) (FrM.put FrM.rf (by decide)) (by decide)) (Eqf.fd (L := [53]) (fun j hj => (sv_n _ (fun h9 => hj (by rw [h9.2]; decide)))) (by decide))
    have e_180 : (sv μ 111 53 ((μ.1 111 53) - 1)).1 111 94 = μ.1 111 94 := (sv_n _ (by decide))
    have e_181 : (sv μ 111 53 ((μ.1 111 53) - 1)).1 111 47 = n := ((sv_n _ (by decide)).trans hn.symm)
    have hMZ_182 : MZ (sv μ 111 53 ((μ.1 111 53) - 1)) := MZ.mn1 hMZ (n := n) (s := μ.1 131 (n - 1)) (hn.symm) (by have h9 : μ.1 131 (n - 1) = μ.1 131 (n - 1) := rfl; exact h9) (by omega) (by have h9 : μ.1 111 53 = μ.1 111 53 := rfl; omega)
    have e_183 : (sv μ 111 53 ((μ.1 111 53) - 1)).1 111 94 = μ.1 111 94 := (sv_n _ (by decide))
    refine xc_vV G (b := 111) (rest := []) (As := [.int (iv 1), .int (iv (μ.1 135 (μ.1 111 53 - 1))), .long (jv (μ.1 136 (μ.1 111 53 - 1)))]) (c_X12_unwinds_a ω l (sv μ 111 53 ((μ.1 111 53) - 1)) 1 (μ.1 135 (μ.1 111 53 - 1)) (μ.1 136 (μ.1 111 53 - 1)) n (by unfold ir; omega) (by unfold ir; omega) hj_177 (by omega) hMZ_182 (by omega) (by omega) (by omega) (fun _ => (by rw [(show (sv μ 111 53 ((μ.1 111 53) - 1)).1 111 65 = μ.1 111 65 from (sv_n _ (by decide))), (show (sv μ 111 53 ((μ.1 111 53) - 1)).1 111 82 = μ.1 111 82 from (sv_n _ (by decide)))]; exact hs1_)) (fun h9 => absurd h9 (by decide))) (wm 10 135 rfl rfl) (wm 10 137 rfl rfl) (wm 0 197 rfl rfl) rfl rfl (by decide) rfl (wm 1 18 rfl rfl) (wm 10 138 rfl rfl) (by decide) hR (by decide) (n := 3) rfl rfl (Nat.le_of_ble_eq_true rfl) hl.1 dX12_acts_369 (fun μ184 ρ d0 H locs hp G => ?_)
    obtain ⟨F_185, hp_186, hp_187⟩ := hp
    refine lv_goto (tgt := 695) hx hb dX12_acts_372 (by decide) ?_
    have e_188 : μ184.1 111 85 = μ.1 111 85 := ((hp_186 85 (by decide)).trans (sv_n _ (by decide)))
    have e_189 : μ184.1 111 85 = μ.1 111 85 := ((hp_186 85 (by decide)).trans (sv_n _ (by decide)))
    have e_190 : μ184.1 111 85 = μ.1 111 85 := ((hp_186 85 (by decide)).trans (sv_n _ (by decide)))
    exact xr_v G hret hlk dX12_acts_695 ⟨(FrM.tr (FrM.put FrM.rf (by decide)) F_185 (by decide)), (fun j hj => ((hp_186 j (fun h9 => hj ((by decide : ∀ x ∈ ([47, 53, 61, 81, 82, 83, 84, 90, 91, 93, 94, 95, 96, 97, 98, 99] : List Int), x ∈ ([47, 53, 61, 81, 82, 83, 84, 90, 91, 93, 94, 95, 96, 97, 98, 99, 85, 88] : List Int)) j h9))).trans (sv_n _ (fun h9 => hj (by rw [h9.2]; decide))))), (hp_187.le (by omega)), (by omega)⟩
  by_cases c_29_10 : (μ.1 115 x2) = 10
  · refine xb_tin (tgt := 375) hx hb (by unfold ir; omega) dX12_acts_29 (by omega) (off := 346) (by rw [c_29_10]; rfl) (by decide) ?_
    have ho : μ.1 115 x2 = 10 := by omega
    have hlw_ := hMI.low
    have hle_ := hlw_.2.2.2.2.2.2.1
    have hlo_ := hlw_.1 (by omega)
    clear hlw_
    have hs1_ := hMZ.stv (μ.1 111 53 - 1) (by omega) (by omega)
    have hs1r_ := hs1_.1
    refine lv_aload_n hx hb dX12_acts_375 rfl (lv_at hl 3 rfl) ?_
    have e_191 : μ.1 111 47 = n := hn.symm
    refine xc_iV G (b := 111) (rest := []) (As := []) (c_X12_asksNumber ω l μ n (μ.1 111 53) (by omega) (by omega) hMZ (by omega) (by omega) (by omega) (by omega)) (wm 10 215 rfl rfl) (wm 10 217 rfl rfl) (wm 0 217 rfl rfl) rfl rfl (by decide) rfl (wm 1 18 rfl rfl) (wm 10 218 rfl rfl) (by decide) hR (by decide) (n := 0) rfl rfl (Nat.le_of_ble_eq_true rfl) hl.1 dX12_acts_376 (fun r_193 μ192 ρ d0 H locs hr_r_193 hp G => ?_)
    have hr_r_193 : -2147483648 ≤ r_193 ∧ r_193 ≤ 2147483647 := hr_r_193
    obtain ⟨F_194, hp_195, hp_196, hp_197, hp_198, hp_199⟩ := hp
    replace hp_198 := fun _ : Unit => hp_198
    refine xb_if_ne (tgt := 385) hx hb (by unfold ir; omega) dX12_acts_379 (by decide) (fun c_379 => ?_) (fun c_379 => ?_)
    · obtain ⟨hak_200, hak_2002⟩ := (hp_198 ()) (by omega)
      have hak_200 := Eq.symm hak_200
      subst hak_200
      refine lv_aload_n hx hb dX12_acts_385 rfl (lv_at hl 3 rfl) ?_
      refine lv_dup hx hb dX12_acts_386 rfl ?_
      refine xa_geti G fd_X12 (a := 111) (x := μ.1 111 53) 53 rfl (by decide) rfl (wm 7 202 rfl rfl) ⟨rfl, rfl, rfl⟩ dX12_acts_387 rfl rfl ?_
      have hr_201 : -2147483648 ≤ μ.1 111 53 ∧ μ.1 111 53 ≤ 2147483647 := by have h9 := G.hr (a := 111) (k := 53) rfl; exact h9
      refine lv_iconst (v := iv 1) hx hb dX12_acts_390 rfl ?_
      refine xb_isub hx hb dX12_acts_391 ?_
      refine xa_puti G fd_X12 (a := 111) (x := (μ.1 111 53) - 1) 53 (kz := 53) rfl rfl (by decide) rfl (by unfold ir; omega) (wm 7 202 rfl rfl) ⟨rfl, rfl, rfl, rfl⟩ rfl dX12_acts_392 rfl (fun H locs G => ?_)
      refine lv_aload_n hx hb dX12_acts_395 rfl (lv_at hl 3 rfl) ?_
      refine xa_geti G fd_X12 (a := 111) (x := μ.1 111 85) 85 rfl (by decide) rfl (wm 7 234 rfl rfl) ⟨rfl, rfl, rfl⟩ dX12_acts_396 rfl (sv_n _ (by decide)) ?_
      have hr_202 : -2147483648 ≤ μ.1 111 85 ∧ μ.1 111 85 ≤ 2147483647 := by have h9 := G.hr (a := 111) (k := 85) rfl; rw [show (sv μ 111 53 ((μ.1 111 53) - 1)).1 111 85 = μ.1 111 85 from (sv_n _ (by decide))] at h9; exact h9
      refine lv_sipush (v := iv 200) hx hb dX12_acts_399 rfl ?_
      refine xb_icmp_ge (tgt := 434) hx hb (by unfold ir; omega) (by unfold ir; omega) dX12_acts_402 (by decide) (fun c_402 => ?_) (fun c_402 => ?_)
      · refine lv_aload_n hx hb dX12_acts_434 rfl (lv_at hl 3 rfl) ?_
        refine lv_dup hx hb dX12_acts_435 rfl ?_
        refine xa_geti G fd_X12 (a := 111) (x := μ.1 111 85) 85 rfl (by decide) rfl (wm 7 234 rfl rfl) ⟨rfl, rfl, rfl⟩ dX12_acts_436 rfl (sv_n _ (by decide)) ?_
        refine lv_iconst (v := iv 1) hx hb dX12_acts_439 rfl ?_
        refine xb_iadd hx hb dX12_acts_440 ?_
        refine xa_puti G fd_X12 (a := 111) (x := (μ.1 111 85) + 1) 85 (kz := 85) rfl rfl (by decide) rfl (by unfold ir; omega) (wm 7 234 rfl rfl) ⟨rfl, rfl, rfl, rfl⟩ rfl dX12_acts_441 rfl (fun H locs G => ?_)
        refine lv_goto (tgt := 695) hx hb dX12_acts_444 (by decide) ?_
        have e_203 : (sv (sv μ 111 53 ((μ.1 111 53) - 1)) 111 85 ((μ.1 111 85) + 1)).1 111 85 = (μ.1 111 85) + 1 := (sv_s _ _ _ _)
        have e_204 : (sv (sv μ 111 53 ((μ.1 111 53) - 1)) 111 85 ((μ.1 111 85) + 1)).1 111 83 = μ.1 111 83 := ((sv_n _ (by decide)).trans (sv_n _ (by decide)))
        have hrx_205 := RX.eq (μ := μ) (ν := (sv (sv μ 111 53 ((μ.1 111 53) - 1)) 111 85 ((μ.1 111 85) + 1))) (Eqa.fr (L := [111]) (FrM.put (FrM.put FrM.rf (by decide)) (by decide)) (by decide)) (Eqf.fd (L := [53, 85]) (fun j hj => ((sv_n _ (fun h9 => hj (by rw [h9.2]; decide))).trans (sv_n _ (fun h9 => hj (by rw [h9.2]; decide))))) (by decide))
        have hMZ_206 : MZ (sv μ 111 53 ((μ.1 111 53) - 1)) := MZ.mn1 hMZ (n := n) (s := μ.1 131 (n - 1)) (hn.symm) (by have h9 : μ.1 131 (n - 1) = μ.1 131 (n - 1) := rfl; exact h9) (by omega) (by have h9 : μ.1 111 53 = μ.1 111 53 := rfl; omega)
        have hMZ_207 : MZ (sv (sv μ 111 53 ((μ.1 111 53) - 1)) 111 85 ((μ.1 111 85) + 1)) := MZ.f hMZ_206 (by decide)
        have e_208 : (sv (sv μ 111 53 ((μ.1 111 53) - 1)) 111 85 ((μ.1 111 85) + 1)).1 111 85 = (μ.1 111 85) + 1 := (sv_s _ _ _ _)
        have e_209 : (sv (sv μ 111 53 ((μ.1 111 53) - 1)) 111 85 ((μ.1 111 85) + 1)).1 111 85 = (μ.1 111 85) + 1 := (sv_s _ _ _ _)
        exact xr_v G hret hlk dX12_acts_695 ⟨(FrM.put (FrM.put FrM.rf (by decide)) (by decide)), (fun j hj => ((sv_n _ (fun h9 => hj (by rw [h9.2]; decide))).trans (sv_n _ (fun h9 => hj (by rw [h9.2]; decide))))), (hMI.go (x := i + 1) (S := μ.1 111 53 + (-1)) (bl := μ.1 111 61) hMZ_207 ⟨(hMI.nx (e := -1) (by rw [ho]; unfold nxo; decide) (by rw [ho]; rfl)).1, (hMI.nx (e := -1) (by rw [ho]; unfold nxo; decide) (by rw [ho]; rfl)).2.trans (cem_n (by rw [ho]; unfold nxo; decide) (by rw [ho]; decide))⟩ (Eqa.fr (L := [111]) (FrM.put (FrM.put FrM.rf (by decide)) (by decide)) (by decide)) (Eqf.fd (L := [53, 85]) (fun j hj => ((sv_n _ (fun h9 => hj (by rw [h9.2]; decide))).trans (sv_n _ (fun h9 => hj (by rw [h9.2]; decide))))) (by decide)) (by have h9 : (sv (sv μ 111 53 ((μ.1 111 53) - 1)) 111 85 ((μ.1 111 85) + 1)).1 129 (n - 1) = μ.1 129 (n - 1) := ((sv_n _ (fun h9 => absurd h9.1 (by decide))).trans (sv_n _ (fun h9 => absurd h9.1 (by decide)))); have h8 := hMI.2.2.2.2.2.1; omega) (by have h9 : (sv (sv μ 111 53 ((μ.1 111 53) - 1)) 111 85 ((μ.1 111 85) + 1)).1 111 53 = (μ.1 111 53) - 1 := ((sv_n _ (by decide)).trans (sv_s _ _ _ _)); omega) (by have h9 : (sv (sv μ 111 53 ((μ.1 111 53) - 1)) 111 85 ((μ.1 111 85) + 1)).1 111 61 = μ.1 111 61 := ((sv_n _ (by decide)).trans (sv_n _ (by decide))); omega) (by omega)), (by omega)⟩
      · refine lv_aload_n hx hb dX12_acts_405 rfl (lv_at hl 3 rfl) ?_
        refine xa_getr G fd_X12 (a := 111) (x := 160) 86 rfl (by decide) rfl (wm 7 235 rfl rfl) ⟨rfl, rfl, rfl⟩ dX12_acts_406 rfl (G.sk 158 rfl) (by decide) rfl ?_
        refine lv_aload_n hx hb dX12_acts_409 rfl (lv_at hl 3 rfl) ?_
        refine xa_geti G fd_X12 (a := 111) (x := μ.1 111 85) 85 rfl (by decide) rfl (wm 7 234 rfl rfl) ⟨rfl, rfl, rfl⟩ dX12_acts_410 rfl (sv_n _ (by decide)) ?_
        refine lv_aload_n hx hb dX12_acts_413 rfl (lv_at hl 3 rfl) ?_
        refine xa_getr G fd_X12 (a := 111) (x := 136) 52 rfl (by decide) rfl (wm 7 201 rfl rfl) ⟨rfl, rfl, rfl⟩ dX12_acts_414 rfl (G.sk 134 rfl) (by decide) rfl ?_
        refine lv_aload_n hx hb dX12_acts_417 rfl (lv_at hl 3 rfl) ?_
        refine xa_geti G fd_X12 (a := 111) (x := (μ.1 111 53) - 1) 53 rfl (by decide) rfl (wm 7 202 rfl rfl) ⟨rfl, rfl, rfl⟩ dX12_acts_418 rfl (sv_s _ _ _ _) ?_
        have hr_210 : -2147483648 ≤ (μ.1 111 53) - 1 ∧ (μ.1 111 53) - 1 ≤ 2147483647 := by have h9 := G.hr (a := 111) (k := 53) rfl; rw [show (sv μ 111 53 ((μ.1 111 53) - 1)).1 111 53 = (μ.1 111 53) - 1 from (sv_s _ _ _ _)] at h9; exact h9
        refine xa_lald G (a := 136) (i := (μ.1 111 53) - 1) rfl (by have h9 := G.lc (a := 136) (n := 9000) 74 rfl; omega) dX12_acts_421 rfl ?_
        refine xb_tl (y := μ.1 136 (μ.1 111 53 - 1)) (sv_n _ (fun h9 => absurd h9.1 (by decide))) ?_
        have hj_211 : jr (μ.1 136 (μ.1 111 53 - 1)) := (by have h9 := G.hj (a := 136) (k := (μ.1 111 53) - 1) rfl; rw [(sv_n _ (fun h9 => absurd h9.1 (by decide)))] at h9; exact h9)
        refine xa_last G (a := 160) (i := μ.1 111 85) (x := μ.1 136 (μ.1 111 53 - 1)) rfl (by have h9 := G.lc (a := 160) (n := 200) 98 rfl; omega) hj_211 dX12_acts_422 rfl (fun H locs G => ?_)
        refine lv_aload_n hx hb dX12_acts_423 rfl (lv_at hl 3 rfl) ?_
        refine xa_getr G fd_X12 (a := 111) (x := 161) 87 rfl (by decide) rfl (wm 7 236 rfl rfl) ⟨rfl, rfl, rfl⟩ dX12_acts_424 rfl (G.sk 159 rfl) (by decide) rfl ?_
        refine lv_aload_n hx hb dX12_acts_427 rfl (lv_at hl 3 rfl) ?_
        refine xa_geti G fd_X12 (a := 111) (x := μ.1 111 85) 85 rfl (by decide) rfl (wm 7 234 rfl rfl) ⟨rfl, rfl, rfl⟩ dX12_acts_428 rfl ((sv_n _ (fun h9 => absurd h9.1 (by decide))).trans (sv_n _ (by decide))) ?_
        refine lv_iload hx hb dX12_acts_431 (lv_at hl 0 rfl) ?_
        refine xa_iast G (a := 161) (i := μ.1 111 85) (x := μ.1 127 (n - 1)) rfl (by have h9 := G.lc (a := 161) (n := 200) 99 rfl; omega) (by unfold ir; omega) dX12_acts_433 rfl (fun H locs G => ?_)
        refine lv_aload_n hx hb dX12_acts_434 rfl (lv_at hl 3 rfl) ?_
        refine lv_dup hx hb dX12_acts_435 rfl ?_
        refine xa_geti G fd_X12 (a := 111) (x := μ.1 111 85) 85 rfl (by decide) rfl (wm 7 234 rfl rfl) ⟨rfl, rfl, rfl⟩ dX12_acts_436 rfl ((sv_n _ (fun h9 => absurd h9.1 (by decide))).trans ((sv_n _ (fun h9 => absurd h9.1 (by decide))).trans (sv_n _ (by decide)))) ?_
        refine lv_iconst (v := iv 1) hx hb dX12_acts_439 rfl ?_
        refine xb_iadd hx hb dX12_acts_440 ?_
        refine xa_puti G fd_X12 (a := 111) (x := (μ.1 111 85) + 1) 85 (kz := 85) rfl rfl (by decide) rfl (by unfold ir; omega) (wm 7 234 rfl rfl) ⟨rfl, rfl, rfl, rfl⟩ rfl dX12_acts_441 rfl (fun H locs G => ?_)
        refine lv_goto (tgt := 695) hx hb dX12_acts_444 (by decide) ?_
        have e_212 : (sv (sv (sv (sv μ 111 53 ((μ.1 111 53) - 1)) 160 (μ.1 111 85) (μ.1 136 (μ.1 111 53 - 1))) 161 (μ.1 111 85) (μ.1 127 (n - 1))) 111 85 ((μ.1 111 85) + 1)).1 111 85 = (μ.1 111 85) + 1 := (sv_s _ _ _ _)
        have e_213 : (sv (sv (sv (sv μ 111 53 ((μ.1 111 53) - 1)) 160 (μ.1 111 85) (μ.1 136 (μ.1 111 53 - 1))) 161 (μ.1 111 85) (μ.1 127 (n - 1))) 111 85 ((μ.1 111 85) + 1)).1 111 83 = μ.1 111 83 := ((sv_n _ (by decide)).trans ((sv_n _ (fun h9 => absurd h9.1 (by decide))).trans ((sv_n _ (fun h9 => absurd h9.1 (by decide))).trans (sv_n _ (by decide)))))
        have hrx_214 := RX.eq (μ := μ) (ν := (sv (sv (sv (sv μ 111 53 ((μ.1 111 53) - 1)) 160 (μ.1 111 85) (μ.1 136 (μ.1 111 53 - 1))) 161 (μ.1 111 85) (μ.1 127 (n - 1))) 111 85 ((μ.1 111 85) + 1))) (Eqa.fr (L := [111, 161, 160]) (FrM.put (FrM.put (FrM.put (FrM.put FrM.rf (by decide)) (by decide)) (by decide)) (by decide)) (by decide)) (Eqf.fd (L := [53, 85]) (fun j hj => ((sv_n _ (fun h9 => hj (by rw [h9.2]; decide))).trans ((sv_n _ (fun h9 => absurd h9.1 (by decide))).trans ((sv_n _ (fun h9 => absurd h9.1 (by decide))).trans (sv_n _ (fun h9 => hj (by rw [h9.2]; decide))))))) (by decide))
        have hMZ_215 : MZ (sv μ 111 53 ((μ.1 111 53) - 1)) := MZ.mn1 hMZ (n := n) (s := μ.1 131 (n - 1)) (hn.symm) (by have h9 : μ.1 131 (n - 1) = μ.1 131 (n - 1) := rfl; exact h9) (by omega) (by have h9 : μ.1 111 53 = μ.1 111 53 := rfl; omega)
        have hMZ_216 : MZ (sv (sv μ 111 53 ((μ.1 111 53) - 1)) 160 (μ.1 111 85) (μ.1 136 (μ.1 111 53 - 1))) := MZ.pua hMZ_215 (by decide)
        have hMZ_217 : MZ (sv (sv (sv μ 111 53 ((μ.1 111 53) - 1)) 160 (μ.1 111 85) (μ.1 136 (μ.1 111 53 - 1))) 161 (μ.1 111 85) (μ.1 127 (n - 1))) := MZ.pua hMZ_216 (by decide)
        have hMZ_218 : MZ (sv (sv (sv (sv μ 111 53 ((μ.1 111 53) - 1)) 160 (μ.1 111 85) (μ.1 136 (μ.1 111 53 - 1))) 161 (μ.1 111 85) (μ.1 127 (n - 1))) 111 85 ((μ.1 111 85) + 1)) := MZ.f hMZ_217 (by decide)
        have e_219 : (sv (sv (sv (sv μ 111 53 ((μ.1 111 53) - 1)) 160 (μ.1 111 85) (μ.1 136 (μ.1 111 53 - 1))) 161 (μ.1 111 85) (μ.1 127 (n - 1))) 111 85 ((μ.1 111 85) + 1)).1 111 85 = (μ.1 111 85) + 1 := (sv_s _ _ _ _)
        have e_220 : (sv (sv (sv (sv μ 111 53 ((μ.1 111 53) - 1)) 160 (μ.1 111 85) (μ.1 136 (μ.1 111 53 - 1))) 161 (μ.1 111 85) (μ.1 127 (n - 1))) 111 85 ((μ.1 111 85) + 1)).1 111 85 = (μ.1 111 85) + 1 := (sv_s _ _ _ _)
        exact xr_v G hret hlk dX12_acts_695 ⟨(FrM.put (FrM.put (FrM.put (FrM.put FrM.rf (by decide)) (by decide)) (by decide)) (by decide)), (fun j hj => ((sv_n _ (fun h9 => hj (by rw [h9.2]; decide))).trans ((sv_n _ (fun h9 => absurd h9.1 (by decide))).trans ((sv_n _ (fun h9 => absurd h9.1 (by decide))).trans (sv_n _ (fun h9 => hj (by rw [h9.2]; decide))))))), (hMI.go (x := i + 1) (S := μ.1 111 53 + (-1)) (bl := μ.1 111 61) hMZ_218 ⟨(hMI.nx (e := -1) (by rw [ho]; unfold nxo; decide) (by rw [ho]; rfl)).1, (hMI.nx (e := -1) (by rw [ho]; unfold nxo; decide) (by rw [ho]; rfl)).2.trans (cem_n (by rw [ho]; unfold nxo; decide) (by rw [ho]; decide))⟩ (Eqa.fr (L := [111, 161, 160]) (FrM.put (FrM.put (FrM.put (FrM.put FrM.rf (by decide)) (by decide)) (by decide)) (by decide)) (by decide)) (Eqf.fd (L := [53, 85]) (fun j hj => ((sv_n _ (fun h9 => hj (by rw [h9.2]; decide))).trans ((sv_n _ (fun h9 => absurd h9.1 (by decide))).trans ((sv_n _ (fun h9 => absurd h9.1 (by decide))).trans (sv_n _ (fun h9 => hj (by rw [h9.2]; decide))))))) (by decide)) (by have h9 : (sv (sv (sv (sv μ 111 53 ((μ.1 111 53) - 1)) 160 (μ.1 111 85) (μ.1 136 (μ.1 111 53 - 1))) 161 (μ.1 111 85) (μ.1 127 (n - 1))) 111 85 ((μ.1 111 85) + 1)).1 129 (n - 1) = μ.1 129 (n - 1) := ((sv_n _ (fun h9 => absurd h9.1 (by decide))).trans ((sv_n _ (fun h9 => absurd h9.1 (by decide))).trans ((sv_n _ (fun h9 => absurd h9.1 (by decide))).trans (sv_n _ (fun h9 => absurd h9.1 (by decide)))))); have h8 := hMI.2.2.2.2.2.1; omega) (by have h9 : (sv (sv (sv (sv μ 111 53 ((μ.1 111 53) - 1)) 160 (μ.1 111 85) (μ.1 136 (μ.1 111 53 - 1))) 161 (μ.1 111 85) (μ.1 127 (n - 1))) 111 85 ((μ.1 111 85) + 1)).1 111 53 = (μ.1 111 53) - 1 := ((sv_n _ (by decide)).trans ((sv_n _ (fun h9 => absurd h9.1 (by decide))).trans ((sv_n _ (fun h9 => absurd h9.1 (by decide))).trans (sv_s _ _ _ _)))); omega) (by have h9 : (sv (sv (sv (sv μ 111 53 ((μ.1 111 53) - 1)) 160 (μ.1 111 85) (μ.1 136 (μ.1 111 53 - 1))) 161 (μ.1 111 85) (μ.1 127 (n - 1))) 111 85 ((μ.1 111 85) + 1)).1 111 61 = μ.1 111 61 := ((sv_n _ (by decide)).trans ((sv_n _ (fun h9 => absurd h9.1 (by decide))).trans ((sv_n _ (fun h9 => absurd h9.1 (by decide))).trans (sv_n _ (by decide))))); omega) (by omega)), (by omega)⟩
    · refine lv_goto (tgt := 695) hx hb dX12_acts_382 (by decide) ?_
      have e_221 : μ192.1 111 85 = μ.1 111 85 := (hp_195 85 (by decide))
      have e_222 : μ192.1 111 85 = μ.1 111 85 := (hp_195 85 (by decide))
      have e_223 : μ192.1 111 85 = μ.1 111 85 := (hp_195 85 (by decide))
      exact xr_v G hret hlk dX12_acts_695 ⟨(FrM.tr FrM.rf F_194 (by decide)), (fun j hj => (hp_195 j (fun h9 => hj ((by decide : ∀ x ∈ ([47, 53, 61, 81, 82, 83, 84, 90, 91, 93, 94, 95, 96, 97, 98, 99] : List Int), x ∈ ([47, 53, 61, 81, 82, 83, 84, 90, 91, 93, 94, 95, 96, 97, 98, 99, 85, 88] : List Int)) j h9)))), ((hp_199 (by omega)).le (by omega)), (by omega)⟩
  by_cases c_29_11 : (μ.1 115 x2) = 11
  · refine xb_tin (tgt := 447) hx hb (by unfold ir; omega) dX12_acts_29 (by omega) (off := 418) (by rw [c_29_11]; rfl) (by decide) ?_
    have ho : μ.1 115 x2 = 11 := by omega
    have hlw_ := hMI.low
    have hle_ := hlw_.2.2.2.2.2.2.1
    have hlo_ := hlw_.1 (by omega)
    clear hlw_
    have hs1_ := hMZ.stv (μ.1 111 53 - 1) (by omega) (by omega)
    have hs1r_ := hs1_.1
    have hr11_ := hMI.rul.2.1 (by omega)
    have hr11t_ := hr11_.1
    replace hr11t_ := fun _ : Unit => hr11t_
    have hr11b_ := hr11_.2
    clear hr11_
    refine lv_aload_n hx hb dX12_acts_447 rfl (lv_at hl 3 rfl) ?_
    refine lv_dup hx hb dX12_acts_448 rfl ?_
    refine xa_geti G fd_X12 (a := 111) (x := μ.1 111 53) 53 rfl (by decide) rfl (wm 7 202 rfl rfl) ⟨rfl, rfl, rfl⟩ dX12_acts_449 rfl rfl ?_
    have hr_224 : -2147483648 ≤ μ.1 111 53 ∧ μ.1 111 53 ≤ 2147483647 := by have h9 := G.hr (a := 111) (k := 53) rfl; exact h9
    refine lv_iconst (v := iv 1) hx hb dX12_acts_452 rfl ?_
    refine xb_isub hx hb dX12_acts_453 ?_
    refine xa_puti G fd_X12 (a := 111) (x := (μ.1 111 53) - 1) 53 (kz := 53) rfl rfl (by decide) rfl (by unfold ir; omega) (wm 7 202 rfl rfl) ⟨rfl, rfl, rfl, rfl⟩ rfl dX12_acts_454 rfl (fun H locs G => ?_)
    refine lv_aload_n hx hb dX12_acts_457 rfl (lv_at hl 3 rfl) ?_
    refine lv_lload_n hx hb dX12_acts_458 rfl (lv_at hl 2 rfl) ?_
    refine xb_l2i hx hb dX12_acts_459 ?_
    refine xb_topi (fun y_225 hr_y_225 he_y_225 => ?_)
    have hr_y_225 : -2147483648 ≤ y_225 ∧ y_225 ≤ 2147483647 := hr_y_225
    have hli_y_225 : ir (μ.1 116 x2) → y_225 = μ.1 116 x2 := fun h9 => (iv_eq hr_y_225 h9).mp he_y_225
    unfold ir at hli_y_225
    refine xb_ti (y := μ.1 116 x2) (hli_y_225 (by omega)) ?_
    have hr_226 : -2147483648 ≤ μ.1 116 x2 ∧ μ.1 116 x2 ≤ 2147483647 := by omega
    refine lv_aload_n hx hb dX12_acts_460 rfl (lv_at hl 3 rfl) ?_
    refine xa_getr G fd_X12 (a := 111) (x := 135) 51 rfl (by decide) rfl (wm 7 200 rfl rfl) ⟨rfl, rfl, rfl⟩ dX12_acts_461 rfl (G.sk 133 rfl) (by decide) rfl ?_
    refine lv_aload_n hx hb dX12_acts_464 rfl (lv_at hl 3 rfl) ?_
    refine xa_geti G fd_X12 (a := 111) (x := (μ.1 111 53) - 1) 53 rfl (by decide) rfl (wm 7 202 rfl rfl) ⟨rfl, rfl, rfl⟩ dX12_acts_465 rfl (sv_s _ _ _ _) ?_
    have hr_227 : -2147483648 ≤ (μ.1 111 53) - 1 ∧ (μ.1 111 53) - 1 ≤ 2147483647 := by have h9 := G.hr (a := 111) (k := 53) rfl; rw [show (sv μ 111 53 ((μ.1 111 53) - 1)).1 111 53 = (μ.1 111 53) - 1 from (sv_s _ _ _ _)] at h9; exact h9
    refine xa_bald G (a := 135) (i := (μ.1 111 53) - 1) rfl (by have h9 := G.lc (a := 135) (n := 9000) 73 rfl; omega) dX12_acts_468 rfl ?_
    refine xb_ti (y := μ.1 135 (μ.1 111 53 - 1)) (sv_n _ (fun h9 => absurd h9.1 (by decide))) ?_
    have hr_228 : -2147483648 ≤ μ.1 135 (μ.1 111 53 - 1) ∧ μ.1 135 (μ.1 111 53 - 1) ≤ 2147483647 := by have h9 := G.hr3 (a := 135) (k := (μ.1 111 53) - 1) rfl; rw [(sv_n _ (fun h9 => absurd h9.1 (by decide)))] at h9; exact h9
    refine lv_aload_n hx hb dX12_acts_469 rfl (lv_at hl 3 rfl) ?_
    refine xa_getr G fd_X12 (a := 111) (x := 136) 52 rfl (by decide) rfl (wm 7 201 rfl rfl) ⟨rfl, rfl, rfl⟩ dX12_acts_470 rfl (G.sk 134 rfl) (by decide) rfl ?_
    refine lv_aload_n hx hb dX12_acts_473 rfl (lv_at hl 3 rfl) ?_
    refine xa_geti G fd_X12 (a := 111) (x := (μ.1 111 53) - 1) 53 rfl (by decide) rfl (wm 7 202 rfl rfl) ⟨rfl, rfl, rfl⟩ dX12_acts_474 rfl (sv_s _ _ _ _) ?_
    refine xa_lald G (a := 136) (i := (μ.1 111 53) - 1) rfl (by have h9 := G.lc (a := 136) (n := 9000) 74 rfl; omega) dX12_acts_477 rfl ?_
    refine xb_tl (y := μ.1 136 (μ.1 111 53 - 1)) (sv_n _ (fun h9 => absurd h9.1 (by decide))) ?_
    have hj_229 : jr (μ.1 136 (μ.1 111 53 - 1)) := (by have h9 := G.hj (a := 136) (k := (μ.1 111 53) - 1) rfl; rw [(sv_n _ (fun h9 => absurd h9.1 (by decide)))] at h9; exact h9)
    have e_230 : (sv μ 111 53 ((μ.1 111 53) - 1)).1 111 83 = μ.1 111 83 := (sv_n _ (by decide))
    have hrx_231 := RX.eq (μ := μ) (ν := (sv μ 111 53 ((μ.1 111 53) - 1))) (Eqa.fr (L := [111]) (FrM.put FrM.rf (by decide)) (by decide)) (Eqf.fd (L := [53]) (fun j hj => (sv_n _ (fun h9 => hj (by rw [h9.2]; decide)))) (by decide))
    have e_232 : (sv μ 111 53 ((μ.1 111 53) - 1)).1 111 94 = μ.1 111 94 := (sv_n _ (by decide))
    have e_233 : (sv μ 111 53 ((μ.1 111 53) - 1)).1 111 47 = n := ((sv_n _ (by decide)).trans hn.symm)
    have hMZ_234 : MZ (sv μ 111 53 ((μ.1 111 53) - 1)) := MZ.mn1 hMZ (n := n) (s := μ.1 131 (n - 1)) (hn.symm) (by have h9 : μ.1 131 (n - 1) = μ.1 131 (n - 1) := rfl; exact h9) (by omega) (by have h9 : μ.1 111 53 = μ.1 111 53 := rfl; omega)
    have e_235 : (sv μ 111 53 ((μ.1 111 53) - 1)).1 111 94 = μ.1 111 94 := (sv_n _ (by decide))
    refine xc_vV G (b := 111) (rest := []) (As := [.int (iv (μ.1 116 x2)), .int (iv (μ.1 135 (μ.1 111 53 - 1))), .long (jv (μ.1 136 (μ.1 111 53 - 1)))]) (c_X12_arisesWith_a ω l (sv μ 111 53 ((μ.1 111 53) - 1)) (μ.1 116 x2) (μ.1 135 (μ.1 111 53 - 1)) (μ.1 136 (μ.1 111 53 - 1)) n (by unfold ir; omega) (by unfold ir; omega) hj_229 (by omega) hMZ_234 (by omega) (by omega) (by rw [(show (sv μ 111 53 ((μ.1 111 53) - 1)).1 111 65 = μ.1 111 65 from (sv_n _ (by decide))), (show (sv μ 111 53 ((μ.1 111 53) - 1)).1 111 82 = μ.1 111 82 from (sv_n _ (by decide)))]; exact hs1_) (fun _ => by rw [(show (sv μ 111 53 ((μ.1 111 53) - 1)).1 111 4 = μ.1 111 4 from (sv_n _ (by decide)))]; exact hr11b_) (fun h9 => absurd h9 (by rw [(show (sv μ 111 53 ((μ.1 111 53) - 1)).1 127 (n - 1) = μ.1 127 (n - 1) from (sv_n _ (fun h9 => absurd h9.1 (by decide))))]; rcases hr11t_ () with h8 | h8 <;> omega))) (wm 10 203 rfl rfl) (wm 10 205 rfl rfl) (wm 0 214 rfl rfl) rfl rfl (by decide) rfl (wm 1 18 rfl rfl) (wm 10 206 rfl rfl) (by decide) hR (by decide) (n := 3) rfl rfl (Nat.le_of_ble_eq_true rfl) hl.1 dX12_acts_478 (fun μ236 ρ d0 H locs hp G => ?_)
    obtain ⟨F_237, hp_238, hp_239⟩ := hp
    refine lv_goto (tgt := 695) hx hb dX12_acts_481 (by decide) ?_
    have e_240 : μ236.1 111 85 = μ.1 111 85 := ((hp_238 85 (by decide)).trans (sv_n _ (by decide)))
    have e_241 : μ236.1 111 85 = μ.1 111 85 := ((hp_238 85 (by decide)).trans (sv_n _ (by decide)))
    have e_242 : μ236.1 111 85 = μ.1 111 85 := ((hp_238 85 (by decide)).trans (sv_n _ (by decide)))
    exact xr_v G hret hlk dX12_acts_695 ⟨(FrM.tr (FrM.put FrM.rf (by decide)) F_237 (by decide)), (fun j hj => ((hp_238 j (fun h9 => hj ((by decide : ∀ x ∈ ([47, 53, 61, 81, 82, 83, 84, 90, 91, 93, 94, 95, 96, 97, 98, 99] : List Int), x ∈ ([47, 53, 61, 81, 82, 83, 84, 90, 91, 93, 94, 95, 96, 97, 98, 99, 85, 88] : List Int)) j h9))).trans (sv_n _ (fun h9 => hj (by rw [h9.2]; decide))))), (hp_239.le (by omega)), (by omega)⟩
  by_cases c_29_12 : (μ.1 115 x2) = 12
  · refine xb_tin (tgt := 484) hx hb (by unfold ir; omega) dX12_acts_29 (by omega) (off := 455) (by rw [c_29_12]; rfl) (by decide) ?_
    have ho : μ.1 115 x2 = 12 := by omega
    have hr8_ := hMI.r8 (by omega)
    refine lv_aload_n hx hb dX12_acts_484 rfl (lv_at hl 3 rfl) ?_
    refine lv_iconst (v := iv 0) hx hb dX12_acts_485 rfl ?_
    refine lv_lload_n hx hb dX12_acts_486 rfl (lv_at hl 2 rfl) ?_
    refine xb_l2i hx hb dX12_acts_487 ?_
    refine xb_topi (fun y_243 hr_y_243 he_y_243 => ?_)
    have hr_y_243 : -2147483648 ≤ y_243 ∧ y_243 ≤ 2147483647 := hr_y_243
    have hli_y_243 : ir (μ.1 116 x2) → y_243 = μ.1 116 x2 := fun h9 => (iv_eq hr_y_243 h9).mp he_y_243
    unfold ir at hli_y_243
    refine xb_ti (y := μ.1 116 x2) (hli_y_243 (by omega)) ?_
    have hr_244 : -2147483648 ≤ μ.1 116 x2 ∧ μ.1 116 x2 ≤ 2147483647 := by omega
    refine lv_iload hx hb dX12_acts_488 (lv_at hl 1 rfl) ?_
    refine xc_vV G (b := 111) (rest := []) (As := [.int (iv 0), .int (iv (μ.1 116 x2)), .int (iv (μ.1 117 x2))]) (c_X12_block_ ω l μ 0 (μ.1 116 x2) (μ.1 117 x2) (μ.1 111 61) (by unfold ir; omega) (by unfold ir; omega) (by unfold ir; omega) (by omega) (by omega)) (wm 10 139 rfl rfl) (wm 10 141 rfl rfl) (wm 0 198 rfl rfl) rfl rfl (by decide) rfl (wm 1 18 rfl rfl) (wm 10 142 rfl rfl) (by decide) hR (by decide) (n := 3) rfl rfl (Nat.le_of_ble_eq_true rfl) hl.1 dX12_acts_490 (fun μ245 ρ d0 H locs hp G => ?_)
    obtain ⟨F_246, hp_247, hs_248, hs_249, hs_250, hs_251, hs_252, hs_253, ha_254, ha_255, ha_256, ha_257, ha_258⟩ := hp
    refine lv_goto (tgt := 695) hx hb dX12_acts_493 (by decide) ?_
    have e_259 : μ245.1 111 85 = μ.1 111 85 := (hp_247 85 (by decide))
    have e_260 : μ245.1 111 85 = μ.1 111 85 := (hp_247 85 (by decide))
    have e_261 : μ245.1 111 85 = μ.1 111 85 := (hp_247 85 (by decide))
    exact xr_v G hret hlk dX12_acts_695 ⟨(FrM.tr FrM.rf F_246 (by decide)), (fun j hj => (hp_247 j (fun h9 => hj ((by decide : ∀ x ∈ ([61] : List Int), x ∈ ([47, 53, 61, 81, 82, 83, 84, 90, 91, 93, 94, 95, 96, 97, 98, 99, 85, 88] : List Int)) j h9)))), (hMI.pb (κ := 0) (by rw [ho]; decide) (Eqa.fr (L := [111, 137, 138, 139, 140, 141]) (FrM.tr FrM.rf F_246 (by decide)) (by decide)) (Eqf.fd (L := [61]) (fun j hj => (hp_247 j (fun h9 => hj ((by decide : ∀ x ∈ ([61] : List Int), x ∈ ([61] : List Int)) j h9)))) (by decide)) (by have h9 : μ245.1 111 61 = (μ.1 111 61) + 1 := hs_248; omega) (fun a ha j hj => by simp only [List.mem_cons, List.not_mem_nil, or_false] at ha; rcases ha with rfl | rfl | rfl | rfl | rfl | rfl; exact (ha_254 j (by omega)); exact (ha_255 j (by omega)); exact (ha_257 j (by omega)); exact (ha_258 j (by omega)); exact (F_246.1 142 (by decide) j); exact (F_246.1 143 (by decide) j)) (by have h9 : μ245.1 137 (μ.1 111 61) = 0 := hs_249; omega) (by have h9 : μ245.1 138 (μ.1 111 61) = (μ.1 116 x2) := hs_250; omega) (by have h9 : μ245.1 140 (μ.1 111 61) = μ.1 111 53 := hs_252; omega) (fun h9 => absurd h9 (by decide))), (by omega)⟩
  by_cases c_29_13 : (μ.1 115 x2) = 13
  · refine xb_tin (tgt := 496) hx hb (by unfold ir; omega) dX12_acts_29 (by omega) (off := 467) (by rw [c_29_13]; rfl) (by decide) ?_
    have ho : μ.1 115 x2 = 13 := by omega
    refine lv_goto (tgt := 695) hx hb dX12_acts_496 (by decide) ?_
    have hrx_262 := RX.eq (μ := μ) (ν := μ) (Eqa.fr (L := []) FrM.rf (by decide)) (Eqf.fd (L := []) (fun j hj => rfl) (by decide))
    exact xr_v G hret hlk dX12_acts_695 ⟨FrM.rf, (fun j hj => rfl), (hMI.go (x := i + 1) (S := μ.1 111 53 + (0)) (bl := μ.1 111 61) hMZ ⟨(hMI.nx (e := 0) (by rw [ho]; unfold nxo; decide) (by rw [ho]; rfl)).1, (hMI.nx (e := 0) (by rw [ho]; unfold nxo; decide) (by rw [ho]; rfl)).2.trans (cem_n (by rw [ho]; unfold nxo; decide) (by rw [ho]; decide))⟩ (Eqa.fr (L := []) FrM.rf (by decide)) (Eqf.fd (L := []) (fun j hj => rfl) (by decide)) (by have h9 : μ.1 129 (n - 1) = μ.1 129 (n - 1) := rfl; have h8 := hMI.2.2.2.2.2.1; omega) (by have h9 : μ.1 111 53 = μ.1 111 53 := rfl; omega) (by have h9 : μ.1 111 61 = μ.1 111 61 := rfl; omega) (by omega)), (by omega)⟩
  by_cases c_29_14 : (μ.1 115 x2) = 14
  · refine xb_tin (tgt := 499) hx hb (by unfold ir; omega) dX12_acts_29 (by omega) (off := 470) (by rw [c_29_14]; rfl) (by decide) ?_
    have ho : μ.1 115 x2 = 14 := by omega
    have hr8_ := hMI.r8 (by omega)
    refine lv_aload_n hx hb dX12_acts_499 rfl (lv_at hl 3 rfl) ?_
    refine lv_iconst (v := iv 1) hx hb dX12_acts_500 rfl ?_
    refine lv_lload_n hx hb dX12_acts_501 rfl (lv_at hl 2 rfl) ?_
    refine xb_l2i hx hb dX12_acts_502 ?_
    refine xb_topi (fun y_263 hr_y_263 he_y_263 => ?_)
    have hr_y_263 : -2147483648 ≤ y_263 ∧ y_263 ≤ 2147483647 := hr_y_263
    have hli_y_263 : ir (μ.1 116 x2) → y_263 = μ.1 116 x2 := fun h9 => (iv_eq hr_y_263 h9).mp he_y_263
    unfold ir at hli_y_263
    refine xb_ti (y := μ.1 116 x2) (hli_y_263 (by omega)) ?_
    have hr_264 : -2147483648 ≤ μ.1 116 x2 ∧ μ.1 116 x2 ≤ 2147483647 := by omega
    refine lv_iconst (v := iv 0) hx hb dX12_acts_503 rfl ?_
    refine xc_vV G (b := 111) (rest := []) (As := [.int (iv 1), .int (iv (μ.1 116 x2)), .int (iv 0)]) (c_X12_block_ ω l μ 1 (μ.1 116 x2) 0 (μ.1 111 61) (by unfold ir; omega) (by unfold ir; omega) (by unfold ir; omega) (by omega) (by omega)) (wm 10 139 rfl rfl) (wm 10 141 rfl rfl) (wm 0 198 rfl rfl) rfl rfl (by decide) rfl (wm 1 18 rfl rfl) (wm 10 142 rfl rfl) (by decide) hR (by decide) (n := 3) rfl rfl (Nat.le_of_ble_eq_true rfl) hl.1 dX12_acts_504 (fun μ265 ρ d0 H locs hp G => ?_)
    obtain ⟨F_266, hp_267, hs_268, hs_269, hs_270, hs_271, hs_272, hs_273, ha_274, ha_275, ha_276, ha_277, ha_278⟩ := hp
    refine lv_goto (tgt := 695) hx hb dX12_acts_507 (by decide) ?_
    have e_279 : μ265.1 111 85 = μ.1 111 85 := (hp_267 85 (by decide))
    have e_280 : μ265.1 111 85 = μ.1 111 85 := (hp_267 85 (by decide))
    have e_281 : μ265.1 111 85 = μ.1 111 85 := (hp_267 85 (by decide))
    exact xr_v G hret hlk dX12_acts_695 ⟨(FrM.tr FrM.rf F_266 (by decide)), (fun j hj => (hp_267 j (fun h9 => hj ((by decide : ∀ x ∈ ([61] : List Int), x ∈ ([47, 53, 61, 81, 82, 83, 84, 90, 91, 93, 94, 95, 96, 97, 98, 99, 85, 88] : List Int)) j h9)))), (hMI.pb (κ := 1) (by rw [ho]; decide) (Eqa.fr (L := [111, 137, 138, 139, 140, 141]) (FrM.tr FrM.rf F_266 (by decide)) (by decide)) (Eqf.fd (L := [61]) (fun j hj => (hp_267 j (fun h9 => hj ((by decide : ∀ x ∈ ([61] : List Int), x ∈ ([61] : List Int)) j h9)))) (by decide)) (by have h9 : μ265.1 111 61 = (μ.1 111 61) + 1 := hs_268; omega) (fun a ha j hj => by simp only [List.mem_cons, List.not_mem_nil, or_false] at ha; rcases ha with rfl | rfl | rfl | rfl | rfl | rfl; exact (ha_274 j (by omega)); exact (ha_275 j (by omega)); exact (ha_277 j (by omega)); exact (ha_278 j (by omega)); exact (F_266.1 142 (by decide) j); exact (F_266.1 143 (by decide) j)) (by have h9 : μ265.1 137 (μ.1 111 61) = 1 := hs_269; omega) (by have h9 : μ265.1 138 (μ.1 111 61) = (μ.1 116 x2) := hs_270; omega) (by have h9 : μ265.1 140 (μ.1 111 61) = μ.1 111 53 := hs_272; omega) (fun h9 => absurd h9 (by decide))), (by omega)⟩
  by_cases c_29_15 : (μ.1 115 x2) = 15
  · refine xb_tin (tgt := 510) hx hb (by unfold ir; omega) dX12_acts_29 (by omega) (off := 481) (by rw [c_29_15]; rfl) (by decide) ?_
    have ho : μ.1 115 x2 = 15 := by omega
    have ht15_ := hMI.t15 (by omega)
    have ht15b_ := ht15_.2.1
    refine lv_aload_n hx hb dX12_acts_510 rfl (lv_at hl 3 rfl) ?_
    refine lv_dup hx hb dX12_acts_511 rfl ?_
    refine xa_geti G fd_X12 (a := 111) (x := μ.1 111 61) 61 rfl (by decide) rfl (wm 7 210 rfl rfl) ⟨rfl, rfl, rfl⟩ dX12_acts_512 rfl rfl ?_
    have hr_282 : -2147483648 ≤ μ.1 111 61 ∧ μ.1 111 61 ≤ 2147483647 := by have h9 := G.hr (a := 111) (k := 61) rfl; exact h9
    refine lv_iconst (v := iv 1) hx hb dX12_acts_515 rfl ?_
    refine xb_isub hx hb dX12_acts_516 ?_
    refine xa_puti G fd_X12 (a := 111) (x := (μ.1 111 61) - 1) 61 (kz := 61) rfl rfl (by decide) rfl (by unfold ir; omega) (wm 7 210 rfl rfl) ⟨rfl, rfl, rfl, rfl⟩ rfl dX12_acts_517 rfl (fun H locs G => ?_)
    refine lv_goto (tgt := 695) hx hb dX12_acts_520 (by decide) ?_
    have e_283 : (sv μ 111 61 ((μ.1 111 61) - 1)).1 111 85 = μ.1 111 85 := (sv_n _ (by decide))
    have e_284 : (sv μ 111 61 ((μ.1 111 61) - 1)).1 111 61 = (μ.1 111 61) - 1 := (sv_s _ _ _ _)
    have hrd_ := RX.dn (μ := μ) (ν := (sv μ 111 61 ((μ.1 111 61) - 1))) (fun j _ => (sv_n _ (by omega))) (by have h9 : (sv μ 111 61 ((μ.1 111 61) - 1)).1 111 47 = n := ((sv_n _ (by decide)).trans hn.symm); omega) (sv_n _ (by decide)) (by omega)
    have hMZ_285 : MZ (sv μ 111 61 ((μ.1 111 61) - 1)) := MZ.bl1 hMZ (n := n) (s := μ.1 132 (n - 1)) (hn.symm) (by have h9 : μ.1 132 (n - 1) = μ.1 132 (n - 1) := rfl; exact h9) (by omega) (by have h9 : μ.1 111 61 = μ.1 111 61 := rfl; omega)
    have e_286 : (sv μ 111 61 ((μ.1 111 61) - 1)).1 111 85 = μ.1 111 85 := (sv_n _ (by decide))
    have e_287 : (sv μ 111 61 ((μ.1 111 61) - 1)).1 111 85 = μ.1 111 85 := (sv_n _ (by decide))
    exact xr_v G hret hlk dX12_acts_695 ⟨(FrM.put FrM.rf (by decide)), (fun j hj => (sv_n _ (fun h9 => hj (by rw [h9.2]; decide)))), (hMI.go (x := i + 1) (S := μ.1 111 53) (bl := μ.1 111 61 - 1) hMZ_285 ht15_.1 (Eqa.fr (L := [111]) (FrM.put FrM.rf (by decide)) (by decide)) (Eqf.fd (L := [61]) (fun j hj => (sv_n _ (fun h9 => hj (by rw [h9.2]; decide)))) (by decide)) (by have h9 : (sv μ 111 61 ((μ.1 111 61) - 1)).1 129 (n - 1) = μ.1 129 (n - 1) := (sv_n _ (fun h9 => absurd h9.1 (by decide))); have h8 := hMI.2.2.2.2.2.1; omega) (by have h9 : (sv μ 111 61 ((μ.1 111 61) - 1)).1 111 53 = μ.1 111 53 := (sv_n _ (by decide)); omega) (by have h9 : (sv μ 111 61 ((μ.1 111 61) - 1)).1 111 61 = (μ.1 111 61) - 1 := (sv_s _ _ _ _); omega) (by omega)), (by omega)⟩
  by_cases c_29_16 : (μ.1 115 x2) = 16
  · refine xb_tin (tgt := 523) hx hb (by unfold ir; omega) dX12_acts_29 (by omega) (off := 494) (by rw [c_29_16]; rfl) (by decide) ?_
    have ho : μ.1 115 x2 = 16 := by omega
    have ht16_ := hMI.t16 ho
    obtain ⟨hbk, -⟩ := MZ.bk (k := μ.1 111 61 - 1) hMZ hn.symm (by omega) ⟨by omega, by omega⟩
    have hb1_ := hbk.1
    refine lv_aload_n hx hb dX12_acts_523 rfl (lv_at hl 3 rfl) ?_
    refine lv_dup hx hb dX12_acts_524 rfl ?_
    refine xa_geti G fd_X12 (a := 111) (x := μ.1 111 61) 61 rfl (by decide) rfl (wm 7 210 rfl rfl) ⟨rfl, rfl, rfl⟩ dX12_acts_525 rfl rfl ?_
    have hr_288 : -2147483648 ≤ μ.1 111 61 ∧ μ.1 111 61 ≤ 2147483647 := by have h9 := G.hr (a := 111) (k := 61) rfl; exact h9
    refine lv_iconst (v := iv 1) hx hb dX12_acts_528 rfl ?_
    refine xb_isub hx hb dX12_acts_529 ?_
    refine xa_puti G fd_X12 (a := 111) (x := (μ.1 111 61) - 1) 61 (kz := 61) rfl rfl (by decide) rfl (by unfold ir; omega) (wm 7 210 rfl rfl) ⟨rfl, rfl, rfl, rfl⟩ rfl dX12_acts_530 rfl (fun H locs G => ?_)
    refine lv_aload_n hx hb dX12_acts_533 rfl (lv_at hl 3 rfl) ?_
    refine xa_getr G fd_X12 (a := 111) (x := 129) 43 rfl (by decide) rfl (wm 7 192 rfl rfl) ⟨rfl, rfl, rfl⟩ dX12_acts_534 rfl (G.sk 127 rfl) (by decide) rfl ?_
    refine lv_iload_n hx hb dX12_acts_537 rfl (lv_at hl 4 rfl) ?_
    refine lv_aload_n hx hb dX12_acts_538 rfl (lv_at hl 3 rfl) ?_
    refine xa_getr G fd_X12 (a := 111) (x := 138) 55 rfl (by decide) rfl (wm 7 204 rfl rfl) ⟨rfl, rfl, rfl⟩ dX12_acts_539 rfl (G.sk 136 rfl) (by decide) rfl ?_
    refine lv_aload_n hx hb dX12_acts_542 rfl (lv_at hl 3 rfl) ?_
    refine xa_geti G fd_X12 (a := 111) (x := (μ.1 111 61) - 1) 61 rfl (by decide) rfl (wm 7 210 rfl rfl) ⟨rfl, rfl, rfl⟩ dX12_acts_543 rfl (sv_s _ _ _ _) ?_
    have hr_289 : -2147483648 ≤ (μ.1 111 61) - 1 ∧ (μ.1 111 61) - 1 ≤ 2147483647 := by have h9 := G.hr (a := 111) (k := 61) rfl; rw [show (sv μ 111 61 ((μ.1 111 61) - 1)).1 111 61 = (μ.1 111 61) - 1 from (sv_s _ _ _ _)] at h9; exact h9
    refine xa_iald G (a := 138) (i := (μ.1 111 61) - 1) rfl (by have h9 := G.lc (a := 138) (n := 900) 76 rfl; omega) dX12_acts_546 rfl ?_
    refine xb_ti (y := μ.1 138 (μ.1 111 61 - 1)) (sv_n _ (fun h9 => absurd h9.1 (by decide))) ?_
    have hr_290 : -2147483648 ≤ μ.1 138 (μ.1 111 61 - 1) ∧ μ.1 138 (μ.1 111 61 - 1) ≤ 2147483647 := by have h9 := G.hr (a := 138) (k := (μ.1 111 61) - 1) rfl; rw [(sv_n _ (fun h9 => absurd h9.1 (by decide)))] at h9; exact h9
    refine xa_iast G (a := 129) (i := n - 1) (x := μ.1 138 (μ.1 111 61 - 1)) rfl (by have h9 := G.lc (a := 129) (n := 26) 67 rfl; omega) (by unfold ir; omega) dX12_acts_547 rfl (fun H locs G => ?_)
    refine lv_aload_n hx hb dX12_acts_548 rfl (lv_at hl 3 rfl) ?_
    refine lv_iconst (v := iv 2) hx hb dX12_acts_549 rfl ?_
    refine lv_iconst (v := iv 0) hx hb dX12_acts_550 rfl ?_
    refine lv_iconst (v := iv 0) hx hb dX12_acts_551 rfl ?_
    have e_291 : (sv (sv μ 111 61 ((μ.1 111 61) - 1)) 129 (n - 1) (μ.1 138 (μ.1 111 61 - 1))).1 111 61 = (μ.1 111 61) - 1 := ((sv_n _ (fun h9 => absurd h9.1 (by decide))).trans (sv_s _ _ _ _))
    have e_292 : (sv (sv μ 111 61 ((μ.1 111 61) - 1)) 129 (n - 1) (μ.1 138 (μ.1 111 61 - 1))).1 111 61 = (μ.1 111 61) - 1 := ((sv_n _ (fun h9 => absurd h9.1 (by decide))).trans (sv_s _ _ _ _))
    have e_293 : (sv (sv μ 111 61 ((μ.1 111 61) - 1)) 129 (n - 1) (μ.1 138 (μ.1 111 61 - 1))).1 111 61 = (μ.1 111 61) - 1 := ((sv_n _ (fun h9 => absurd h9.1 (by decide))).trans (sv_s _ _ _ _))
    have e_294 : (sv (sv μ 111 61 ((μ.1 111 61) - 1)) 129 (n - 1) (μ.1 138 (μ.1 111 61 - 1))).1 111 61 = (μ.1 111 61) - 1 := ((sv_n _ (fun h9 => absurd h9.1 (by decide))).trans (sv_s _ _ _ _))
    have e_295 : (sv (sv μ 111 61 ((μ.1 111 61) - 1)) 129 (n - 1) (μ.1 138 (μ.1 111 61 - 1))).1 111 61 = (μ.1 111 61) - 1 := ((sv_n _ (fun h9 => absurd h9.1 (by decide))).trans (sv_s _ _ _ _))
    have e_296 : (sv (sv μ 111 61 ((μ.1 111 61) - 1)) 129 (n - 1) (μ.1 138 (μ.1 111 61 - 1))).1 111 61 = (μ.1 111 61) - 1 := ((sv_n _ (fun h9 => absurd h9.1 (by decide))).trans (sv_s _ _ _ _))
    have e_297 : (sv (sv μ 111 61 ((μ.1 111 61) - 1)) 129 (n - 1) (μ.1 138 (μ.1 111 61 - 1))).1 111 61 = (μ.1 111 61) - 1 := ((sv_n _ (fun h9 => absurd h9.1 (by decide))).trans (sv_s _ _ _ _))
    have e_298 : (sv (sv μ 111 61 ((μ.1 111 61) - 1)) 129 (n - 1) (μ.1 138 (μ.1 111 61 - 1))).1 111 61 = (μ.1 111 61) - 1 := ((sv_n _ (fun h9 => absurd h9.1 (by decide))).trans (sv_s _ _ _ _))
    have e_299 : (sv (sv μ 111 61 ((μ.1 111 61) - 1)) 129 (n - 1) (μ.1 138 (μ.1 111 61 - 1))).1 111 61 = (μ.1 111 61) - 1 := ((sv_n _ (fun h9 => absurd h9.1 (by decide))).trans (sv_s _ _ _ _))
    have e_300 : (sv (sv μ 111 61 ((μ.1 111 61) - 1)) 129 (n - 1) (μ.1 138 (μ.1 111 61 - 1))).1 111 53 = μ.1 111 53 := ((sv_n _ (fun h9 => absurd h9.1 (by decide))).trans (sv_n _ (by decide)))
    have e_301 : (sv (sv μ 111 61 ((μ.1 111 61) - 1)) 129 (n - 1) (μ.1 138 (μ.1 111 61 - 1))).1 111 61 = (μ.1 111 61) - 1 := ((sv_n _ (fun h9 => absurd h9.1 (by decide))).trans (sv_s _ _ _ _))
    refine xc_vV G (b := 111) (rest := []) (As := [.int (iv 2), .int (iv 0), .int (iv 0)]) (c_X12_block_ ω l (sv (sv μ 111 61 ((μ.1 111 61) - 1)) 129 (n - 1) (μ.1 138 (μ.1 111 61 - 1))) 2 0 0 ((μ.1 111 61) - 1) (by unfold ir; omega) (by unfold ir; omega) (by unfold ir; omega) (by omega) (by omega)) (wm 10 139 rfl rfl) (wm 10 141 rfl rfl) (wm 0 198 rfl rfl) rfl rfl (by decide) rfl (wm 1 18 rfl rfl) (wm 10 142 rfl rfl) (by decide) hR (by decide) (n := 3) rfl rfl (Nat.le_of_ble_eq_true rfl) hl.1 dX12_acts_552 (fun μ302 ρ d0 H locs hp G => ?_)
    obtain ⟨F_303, hp_304, hs_305, hs_306, hs_307, hs_308, hs_309, hs_310, ha_311, ha_312, ha_313, ha_314, ha_315⟩ := hp
    refine lv_goto (tgt := 695) hx hb dX12_acts_555 (by decide) ?_
    have e_316 : μ302.1 111 85 = μ.1 111 85 := ((hp_304 85 (by decide)).trans ((sv_n _ (fun h9 => absurd h9.1 (by decide))).trans (sv_n _ (by decide))))
    have e_317 : μ302.1 111 85 = μ.1 111 85 := ((hp_304 85 (by decide)).trans ((sv_n _ (fun h9 => absurd h9.1 (by decide))).trans (sv_n _ (by decide))))
    have e_318 : μ302.1 111 85 = μ.1 111 85 := ((hp_304 85 (by decide)).trans ((sv_n _ (fun h9 => absurd h9.1 (by decide))).trans (sv_n _ (by decide))))
    exact xr_v G hret hlk dX12_acts_695 ⟨(FrM.tr (FrM.put (FrM.put FrM.rf (by decide)) (by decide)) F_303 (by decide)), (fun j hj => ((hp_304 j (fun h9 => hj ((by decide : ∀ x ∈ ([61] : List Int), x ∈ ([47, 53, 61, 81, 82, 83, 84, 90, 91, 93, 94, 95, 96, 97, 98, 99, 85, 88] : List Int)) j h9))).trans ((sv_n _ (fun h9 => absurd h9.1 (by decide))).trans (sv_n _ (fun h9 => hj (by rw [h9.2]; decide)))))), ((MZ.fin (n := n) (k := (μ.1 111 61 - 1)) (how := 0) (kd := 0) (it := 0) hMZ hn.symm (by omega) (by omega) (by omega) (by omega) (Eqa.fr (L := [111, 137, 138, 139, 140, 141, 129]) (FrM.tr (FrM.put (FrM.put FrM.rf (by decide)) (by decide)) F_303 (by decide)) (by decide)) (Eqf.fd (L := [61]) (fun j hj => ((hp_304 j (fun h9 => hj ((by decide : ∀ x ∈ ([61] : List Int), x ∈ ([61] : List Int)) j h9))).trans ((sv_n _ (fun h9 => absurd h9.1 (by decide))).trans (sv_n _ (fun h9 => hj (by rw [h9.2]; decide)))))) (by decide)) (fun j hj => ((F_303.1 129 (by decide) j).trans ((sv_n _ (by omega)).trans (sv_n _ (by omega))))) (by have h9 : μ302.1 129 (n - 1) = μ.1 138 (μ.1 111 61 - 1) := ((F_303.1 129 (by decide) (n - 1)).trans (sv_s _ _ _ _)); omega) (by have h9 : μ302.1 111 61 = ((μ.1 111 61) - 1) + 1 := hs_305; omega) (by have h9 : μ302.1 111 53 = μ.1 111 53 := ((hp_304 53 (by decide)).trans ((sv_n _ (fun h9 => absurd h9.1 (by decide))).trans (sv_n _ (by decide)))); omega) (fun a ha j hj => by simp only [List.mem_cons, List.not_mem_nil, or_false] at ha; rcases ha with rfl | rfl | rfl | rfl | rfl | rfl; exact ((ha_311 j (by omega)).trans ((sv_n _ (by omega)).trans (sv_n _ (by omega)))); exact ((ha_312 j (by omega)).trans ((sv_n _ (by omega)).trans (sv_n _ (by omega)))); exact ((ha_314 j (by omega)).trans ((sv_n _ (by omega)).trans (sv_n _ (by omega)))); exact ((ha_315 j (by omega)).trans ((sv_n _ (by omega)).trans (sv_n _ (by omega)))); exact ((F_303.1 142 (by decide) j).trans ((sv_n _ (by omega)).trans (sv_n _ (by omega)))); exact ((F_303.1 143 (by decide) j).trans ((sv_n _ (by omega)).trans (sv_n _ (by omega))))) (by have h9 : μ302.1 137 (μ.1 111 61 - 1) = 2 := hs_306; omega) (by have h9 : μ302.1 140 (μ.1 111 61 - 1) = (sv (sv μ 111 61 ((μ.1 111 61) - 1)) 129 (n - 1) (μ.1 138 (μ.1 111 61 - 1))).1 111 53 := hs_309; have h8 : (sv (sv μ 111 61 ((μ.1 111 61) - 1)) 129 (n - 1) (μ.1 138 (μ.1 111 61 - 1))).1 111 53 = μ.1 111 53 := ((sv_n _ (fun h9 => absurd h9.1 (by decide))).trans (sv_n _ (by decide))); omega) (by have h9 : μ302.1 141 (μ.1 111 61 - 1) = 0 := hs_310; omega) (fun h9 => absurd h9 (by decide)) (fun h9 => absurd h9 (by decide)) (by decide) (fun h9 => absurd h9 (by decide)) (fun h9 => absurd h9 (by decide)) (by have h9 : μ302.1 111 94 = μ.1 111 94 := ((hp_304 94 (by decide)).trans ((sv_n _ (fun h9 => absurd h9.1 (by decide))).trans (sv_n _ (by decide)))); omega)).le (by omega)), (by omega)⟩
  by_cases c_29_17 : (μ.1 115 x2) = 17
  · refine xb_tin (tgt := 558) hx hb (by unfold ir; omega) dX12_acts_29 (by omega) (off := 529) (by rw [c_29_17]; rfl) (by decide) ?_
    have ho : μ.1 115 x2 = 17 := by omega
    have ht15_ := hMI.t15 (by omega)
    have ht15b_ := ht15_.2.1
    have ht17_ := ht15_.2.2 ho
    obtain ⟨hbk, hpd⟩ := MZ.bk (k := μ.1 111 61 - 1) hMZ hn.symm (by omega) ⟨by omega, by omega⟩
    have hpd_ := hpd ht17_
    clear hpd
    have hpdr_ := hpd_.1
    refine lv_aload_n hx hb dX12_acts_558 rfl (lv_at hl 3 rfl) ?_
    refine lv_dup hx hb dX12_acts_559 rfl ?_
    refine xa_geti G fd_X12 (a := 111) (x := μ.1 111 61) 61 rfl (by decide) rfl (wm 7 210 rfl rfl) ⟨rfl, rfl, rfl⟩ dX12_acts_560 rfl rfl ?_
    have hr_319 : -2147483648 ≤ μ.1 111 61 ∧ μ.1 111 61 ≤ 2147483647 := by have h9 := G.hr (a := 111) (k := 61) rfl; exact h9
    refine lv_iconst (v := iv 1) hx hb dX12_acts_563 rfl ?_
    refine xb_isub hx hb dX12_acts_564 ?_
    refine xa_puti G fd_X12 (a := 111) (x := (μ.1 111 61) - 1) 61 (kz := 61) rfl rfl (by decide) rfl (by unfold ir; omega) (wm 7 210 rfl rfl) ⟨rfl, rfl, rfl, rfl⟩ rfl dX12_acts_565 rfl (fun H locs G => ?_)
    refine lv_aload_n hx hb dX12_acts_568 rfl (lv_at hl 3 rfl) ?_
    refine xa_getr G fd_X12 (a := 111) (x := 141) 58 rfl (by decide) rfl (wm 7 207 rfl rfl) ⟨rfl, rfl, rfl⟩ dX12_acts_569 rfl (G.sk 139 rfl) (by decide) rfl ?_
    refine lv_aload_n hx hb dX12_acts_572 rfl (lv_at hl 3 rfl) ?_
    refine xa_geti G fd_X12 (a := 111) (x := (μ.1 111 61) - 1) 61 rfl (by decide) rfl (wm 7 210 rfl rfl) ⟨rfl, rfl, rfl⟩ dX12_acts_573 rfl (sv_s _ _ _ _) ?_
    have hr_320 : -2147483648 ≤ (μ.1 111 61) - 1 ∧ (μ.1 111 61) - 1 ≤ 2147483647 := by have h9 := G.hr (a := 111) (k := 61) rfl; rw [show (sv μ 111 61 ((μ.1 111 61) - 1)).1 111 61 = (μ.1 111 61) - 1 from (sv_s _ _ _ _)] at h9; exact h9
    refine xa_iald G (a := 141) (i := (μ.1 111 61) - 1) rfl (by have h9 := G.lc (a := 141) (n := 900) 79 rfl; omega) dX12_acts_576 rfl ?_
    refine xb_ti (y := μ.1 141 (μ.1 111 61 - 1)) (sv_n _ (fun h9 => absurd h9.1 (by decide))) ?_
    have hr_321 : -2147483648 ≤ μ.1 141 (μ.1 111 61 - 1) ∧ μ.1 141 (μ.1 111 61 - 1) ≤ 2147483647 := by have h9 := G.hr (a := 141) (k := (μ.1 111 61) - 1) rfl; rw [(sv_n _ (fun h9 => absurd h9.1 (by decide)))] at h9; exact h9
    refine xb_if_le (tgt := 695) hx hb (by unfold ir; omega) dX12_acts_577 (by decide) (fun c_577 => ?_) (fun c_577 => ?_)
    · have e_322 : (sv μ 111 61 ((μ.1 111 61) - 1)).1 111 85 = μ.1 111 85 := (sv_n _ (by decide))
      have e_323 : (sv μ 111 61 ((μ.1 111 61) - 1)).1 111 61 = (μ.1 111 61) - 1 := (sv_s _ _ _ _)
      have hrd_ := RX.dn (μ := μ) (ν := (sv μ 111 61 ((μ.1 111 61) - 1))) (fun j _ => (sv_n _ (by omega))) (by have h9 : (sv μ 111 61 ((μ.1 111 61) - 1)).1 111 47 = n := ((sv_n _ (by decide)).trans hn.symm); omega) (sv_n _ (by decide)) (by omega)
      have hMZ_324 : MZ (sv μ 111 61 ((μ.1 111 61) - 1)) := MZ.bl1 hMZ (n := n) (s := μ.1 132 (n - 1)) (hn.symm) (by have h9 : μ.1 132 (n - 1) = μ.1 132 (n - 1) := rfl; exact h9) (by omega) (by have h9 : μ.1 111 61 = μ.1 111 61 := rfl; omega)
      have e_325 : (sv μ 111 61 ((μ.1 111 61) - 1)).1 111 85 = μ.1 111 85 := (sv_n _ (by decide))
      have e_326 : (sv μ 111 61 ((μ.1 111 61) - 1)).1 111 85 = μ.1 111 85 := (sv_n _ (by decide))
      exact xr_v G hret hlk dX12_acts_695 ⟨(FrM.put FrM.rf (by decide)), (fun j hj => (sv_n _ (fun h9 => hj (by rw [h9.2]; decide)))), (hMI.go (x := i + 1) (S := μ.1 111 53) (bl := μ.1 111 61 - 1) hMZ_324 ht15_.1 (Eqa.fr (L := [111]) (FrM.put FrM.rf (by decide)) (by decide)) (Eqf.fd (L := [61]) (fun j hj => (sv_n _ (fun h9 => hj (by rw [h9.2]; decide)))) (by decide)) (by have h9 : (sv μ 111 61 ((μ.1 111 61) - 1)).1 129 (n - 1) = μ.1 129 (n - 1) := (sv_n _ (fun h9 => absurd h9.1 (by decide))); have h8 := hMI.2.2.2.2.2.1; omega) (by have h9 : (sv μ 111 61 ((μ.1 111 61) - 1)).1 111 53 = μ.1 111 53 := (sv_n _ (by decide)); omega) (by have h9 : (sv μ 111 61 ((μ.1 111 61) - 1)).1 111 61 = (μ.1 111 61) - 1 := (sv_s _ _ _ _); omega) (by omega)), (by omega)⟩
    · refine lv_aload_n hx hb dX12_acts_580 rfl (lv_at hl 3 rfl) ?_
      refine lv_aload_n hx hb dX12_acts_581 rfl (lv_at hl 3 rfl) ?_
      refine xa_getr G fd_X12 (a := 111) (x := 141) 58 rfl (by decide) rfl (wm 7 207 rfl rfl) ⟨rfl, rfl, rfl⟩ dX12_acts_582 rfl (G.sk 139 rfl) (by decide) rfl ?_
      refine lv_aload_n hx hb dX12_acts_585 rfl (lv_at hl 3 rfl) ?_
      refine xa_geti G fd_X12 (a := 111) (x := (μ.1 111 61) - 1) 61 rfl (by decide) rfl (wm 7 210 rfl rfl) ⟨rfl, rfl, rfl⟩ dX12_acts_586 rfl (sv_s _ _ _ _) ?_
      refine xa_iald G (a := 141) (i := (μ.1 111 61) - 1) rfl (by have h9 := G.lc (a := 141) (n := 900) 79 rfl; omega) dX12_acts_589 rfl ?_
      refine xb_ti (y := μ.1 141 (μ.1 111 61 - 1)) (sv_n _ (fun h9 => absurd h9.1 (by decide))) ?_
      refine lv_aload_n hx hb dX12_acts_590 rfl (lv_at hl 3 rfl) ?_
      refine xa_getr G fd_X12 (a := 111) (x := 142) 59 rfl (by decide) rfl (wm 7 208 rfl rfl) ⟨rfl, rfl, rfl⟩ dX12_acts_591 rfl (G.sk 140 rfl) (by decide) rfl ?_
      refine lv_aload_n hx hb dX12_acts_594 rfl (lv_at hl 3 rfl) ?_
      refine xa_geti G fd_X12 (a := 111) (x := (μ.1 111 61) - 1) 61 rfl (by decide) rfl (wm 7 210 rfl rfl) ⟨rfl, rfl, rfl⟩ dX12_acts_595 rfl (sv_s _ _ _ _) ?_
      refine xa_iald G (a := 142) (i := (μ.1 111 61) - 1) rfl (by have h9 := G.lc (a := 142) (n := 900) 80 rfl; omega) dX12_acts_598 rfl ?_
      refine xb_ti (y := μ.1 142 (μ.1 111 61 - 1)) (sv_n _ (fun h9 => absurd h9.1 (by decide))) ?_
      have hr_327 : -2147483648 ≤ μ.1 142 (μ.1 111 61 - 1) ∧ μ.1 142 (μ.1 111 61 - 1) ≤ 2147483647 := by have h9 := G.hr (a := 142) (k := (μ.1 111 61) - 1) rfl; rw [(sv_n _ (fun h9 => absurd h9.1 (by decide)))] at h9; exact h9
      refine lv_aload_n hx hb dX12_acts_599 rfl (lv_at hl 3 rfl) ?_
      refine xa_getr G fd_X12 (a := 111) (x := 143) 60 rfl (by decide) rfl (wm 7 209 rfl rfl) ⟨rfl, rfl, rfl⟩ dX12_acts_600 rfl (G.sk 141 rfl) (by decide) rfl ?_
      refine lv_aload_n hx hb dX12_acts_603 rfl (lv_at hl 3 rfl) ?_
      refine xa_geti G fd_X12 (a := 111) (x := (μ.1 111 61) - 1) 61 rfl (by decide) rfl (wm 7 210 rfl rfl) ⟨rfl, rfl, rfl⟩ dX12_acts_604 rfl (sv_s _ _ _ _) ?_
      refine xa_lald G (a := 143) (i := (μ.1 111 61) - 1) rfl (by have h9 := G.lc (a := 143) (n := 900) 81 rfl; omega) dX12_acts_607 rfl ?_
      refine xb_tl (y := μ.1 143 (μ.1 111 61 - 1)) (sv_n _ (fun h9 => absurd h9.1 (by decide))) ?_
      have hj_328 : jr (μ.1 143 (μ.1 111 61 - 1)) := (by have h9 := G.hj (a := 143) (k := (μ.1 111 61) - 1) rfl; rw [(sv_n _ (fun h9 => absurd h9.1 (by decide)))] at h9; exact h9)
      have e_329 : (sv μ 111 61 ((μ.1 111 61) - 1)).1 111 61 = (μ.1 111 61) - 1 := (sv_s _ _ _ _)
      have hrd17_ := RX.dn (μ := μ) (ν := (sv μ 111 61 ((μ.1 111 61) - 1))) (fun j _ => (sv_n _ (by omega))) (by have h9 : (sv μ 111 61 ((μ.1 111 61) - 1)).1 111 47 = n := ((sv_n _ (by decide)).trans hn.symm); omega) (sv_n _ (by decide)) (by omega)
      have e_330 : (sv μ 111 61 ((μ.1 111 61) - 1)).1 111 94 = μ.1 111 94 := (sv_n _ (by decide))
      have e_331 : (sv μ 111 61 ((μ.1 111 61) - 1)).1 111 47 = n := ((sv_n _ (by decide)).trans hn.symm)
      have hMZ_332 : MZ (sv μ 111 61 ((μ.1 111 61) - 1)) := MZ.bl1 hMZ (n := n) (s := μ.1 132 (n - 1)) (hn.symm) (by have h9 : μ.1 132 (n - 1) = μ.1 132 (n - 1) := rfl; exact h9) (by omega) (by have h9 : μ.1 111 61 = μ.1 111 61 := rfl; omega)
      have e_333 : (sv μ 111 61 ((μ.1 111 61) - 1)).1 111 94 = μ.1 111 94 := (sv_n _ (by decide))
      refine xc_vV G (b := 111) (rest := []) (As := [.int (iv (μ.1 141 (μ.1 111 61 - 1))), .int (iv (μ.1 142 (μ.1 111 61 - 1))), .long (jv (μ.1 143 (μ.1 111 61 - 1)))]) (c_X12_unwinds_a ω l (sv μ 111 61 ((μ.1 111 61) - 1)) (μ.1 141 (μ.1 111 61 - 1)) (μ.1 142 (μ.1 111 61 - 1)) (μ.1 143 (μ.1 111 61 - 1)) n (by unfold ir; omega) (by unfold ir; omega) hj_328 (by omega) hMZ_332 (by omega) (by omega) (by omega) (fun h9 => by rw [(show (sv μ 111 61 ((μ.1 111 61) - 1)).1 111 65 = μ.1 111 65 from (sv_n _ (by decide))), (show (sv μ 111 61 ((μ.1 111 61) - 1)).1 111 82 = μ.1 111 82 from (sv_n _ (by decide)))]; exact hpd_.2.1 h9) (fun h9 => by have h8 := hbk.2.2.2.2.2.2.2 ht17_ h9; rw [(show (sv μ 111 61 ((μ.1 111 61) - 1)).1 111 82 = μ.1 111 82 from (sv_n _ (by decide))), (show (sv μ 111 61 ((μ.1 111 61) - 1)).1 149 (μ.1 143 (μ.1 111 61 - 1)) = μ.1 149 (μ.1 143 (μ.1 111 61 - 1)) from (sv_n _ (fun h9 => absurd h9.1 (by decide)))), (show (sv μ 111 61 ((μ.1 111 61) - 1)).1 127 (n - 1) = μ.1 127 (n - 1) from (sv_n _ (fun h9 => absurd h9.1 (by decide))))]; exact h8)) (wm 10 135 rfl rfl) (wm 10 137 rfl rfl) (wm 0 197 rfl rfl) rfl rfl (by decide) rfl (wm 1 18 rfl rfl) (wm 10 138 rfl rfl) (by decide) hR (by decide) (n := 3) rfl rfl (Nat.le_of_ble_eq_true rfl) hl.1 dX12_acts_608 (fun μ334 ρ d0 H locs hp G => ?_)
      obtain ⟨F_335, hp_336, hp_337⟩ := hp
      refine lv_goto (tgt := 695) hx hb dX12_acts_611 (by decide) ?_
      have e_338 : μ334.1 111 85 = μ.1 111 85 := ((hp_336 85 (by decide)).trans (sv_n _ (by decide)))
      have e_339 : μ334.1 111 85 = μ.1 111 85 := ((hp_336 85 (by decide)).trans (sv_n _ (by decide)))
      have e_340 : μ334.1 111 85 = μ.1 111 85 := ((hp_336 85 (by decide)).trans (sv_n _ (by decide)))
      exact xr_v G hret hlk dX12_acts_695 ⟨(FrM.tr (FrM.put FrM.rf (by decide)) F_335 (by decide)), (fun j hj => ((hp_336 j (fun h9 => hj ((by decide : ∀ x ∈ ([47, 53, 61, 81, 82, 83, 84, 90, 91, 93, 94, 95, 96, 97, 98, 99] : List Int), x ∈ ([47, 53, 61, 81, 82, 83, 84, 90, 91, 93, 94, 95, 96, 97, 98, 99, 85, 88] : List Int)) j h9))).trans (sv_n _ (fun h9 => hj (by rw [h9.2]; decide))))), (hp_337.le (by omega)), (by omega)⟩
  by_cases c_29_18 : (μ.1 115 x2) = 18
  · refine xb_tin (tgt := 614) hx hb (by unfold ir; omega) dX12_acts_29 (by omega) (off := 585) (by rw [c_29_18]; rfl) (by decide) ?_
    have ho : μ.1 115 x2 = 18 := by omega
    refine lv_aload_n hx hb dX12_acts_614 rfl (lv_at hl 3 rfl) ?_
    have e_341 : μ.1 111 47 = n := hn.symm
    refine xc_vV G (b := 111) (rest := []) (As := []) (c_X12_failsBy ω l μ i x2 n (by omega) hMZ (by omega) (by omega) hMI ho) (wm 10 227 rfl rfl) (wm 10 229 rfl rfl) (wm 0 220 rfl rfl) rfl rfl (by decide) rfl (wm 1 18 rfl rfl) (wm 10 230 rfl rfl) (by decide) hR (by decide) (n := 0) rfl rfl (Nat.le_of_ble_eq_true rfl) hl.1 dX12_acts_615 (fun μ342 ρ d0 H locs hp G => ?_)
    obtain ⟨F_343, hp_344, hp_345⟩ := hp
    refine lv_goto (tgt := 695) hx hb dX12_acts_618 (by decide) ?_
    have e_346 : μ342.1 111 85 = μ.1 111 85 := (hp_344 85 (by decide))
    have e_347 : μ342.1 111 85 = μ.1 111 85 := (hp_344 85 (by decide))
    have e_348 : μ342.1 111 85 = μ.1 111 85 := (hp_344 85 (by decide))
    exact xr_v G hret hlk dX12_acts_695 ⟨(FrM.tr FrM.rf F_343 (by decide)), (fun j hj => (hp_344 j (fun h9 => hj ((by decide : ∀ x ∈ ([47, 53, 61, 81, 82, 83, 84, 90, 91, 93, 94, 95, 96, 97, 98, 99] : List Int), x ∈ ([47, 53, 61, 81, 82, 83, 84, 90, 91, 93, 94, 95, 96, 97, 98, 99, 85, 88] : List Int)) j h9)))), (hp_345.le (by omega)), (by omega)⟩
  by_cases c_29_19 : (μ.1 115 x2) = 19
  · refine xb_tin (tgt := 621) hx hb (by unfold ir; omega) dX12_acts_29 (by omega) (off := 592) (by rw [c_29_19]; rfl) (by decide) ?_
    have ho : μ.1 115 x2 = 19 := by omega
    have hr8_ := hMI.r8 (by omega)
    refine lv_aload_n hx hb dX12_acts_621 rfl (lv_at hl 3 rfl) ?_
    refine lv_iconst (v := iv 3) hx hb dX12_acts_622 rfl ?_
    refine lv_lload_n hx hb dX12_acts_623 rfl (lv_at hl 2 rfl) ?_
    refine xb_l2i hx hb dX12_acts_624 ?_
    refine xb_topi (fun y_349 hr_y_349 he_y_349 => ?_)
    have hr_y_349 : -2147483648 ≤ y_349 ∧ y_349 ≤ 2147483647 := hr_y_349
    have hli_y_349 : ir (μ.1 116 x2) → y_349 = μ.1 116 x2 := fun h9 => (iv_eq hr_y_349 h9).mp he_y_349
    unfold ir at hli_y_349
    refine xb_ti (y := μ.1 116 x2) (hli_y_349 (by omega)) ?_
    have hr_350 : -2147483648 ≤ μ.1 116 x2 ∧ μ.1 116 x2 ≤ 2147483647 := by omega
    refine lv_iconst (v := iv 0) hx hb dX12_acts_625 rfl ?_
    refine xc_vV G (b := 111) (rest := []) (As := [.int (iv 3), .int (iv (μ.1 116 x2)), .int (iv 0)]) (c_X12_block_ ω l μ 3 (μ.1 116 x2) 0 (μ.1 111 61) (by unfold ir; omega) (by unfold ir; omega) (by unfold ir; omega) (by omega) (by omega)) (wm 10 139 rfl rfl) (wm 10 141 rfl rfl) (wm 0 198 rfl rfl) rfl rfl (by decide) rfl (wm 1 18 rfl rfl) (wm 10 142 rfl rfl) (by decide) hR (by decide) (n := 3) rfl rfl (Nat.le_of_ble_eq_true rfl) hl.1 dX12_acts_626 (fun μ351 ρ d0 H locs hp G => ?_)
    obtain ⟨F_352, hp_353, hs_354, hs_355, hs_356, hs_357, hs_358, hs_359, ha_360, ha_361, ha_362, ha_363, ha_364⟩ := hp
    refine lv_goto (tgt := 695) hx hb dX12_acts_629 (by decide) ?_
    have e_365 : μ351.1 111 85 = μ.1 111 85 := (hp_353 85 (by decide))
    have e_366 : μ351.1 111 85 = μ.1 111 85 := (hp_353 85 (by decide))
    have e_367 : μ351.1 111 85 = μ.1 111 85 := (hp_353 85 (by decide))
    exact xr_v G hret hlk dX12_acts_695 ⟨(FrM.tr FrM.rf F_352 (by decide)), (fun j hj => (hp_353 j (fun h9 => hj ((by decide : ∀ x ∈ ([61] : List Int), x ∈ ([47, 53, 61, 81, 82, 83, 84, 90, 91, 93, 94, 95, 96, 97, 98, 99, 85, 88] : List Int)) j h9)))), (hMI.pb (κ := 3) (by rw [ho]; decide) (Eqa.fr (L := [111, 137, 138, 139, 140, 141]) (FrM.tr FrM.rf F_352 (by decide)) (by decide)) (Eqf.fd (L := [61]) (fun j hj => (hp_353 j (fun h9 => hj ((by decide : ∀ x ∈ ([61] : List Int), x ∈ ([61] : List Int)) j h9)))) (by decide)) (by have h9 : μ351.1 111 61 = (μ.1 111 61) + 1 := hs_354; omega) (fun a ha j hj => by simp only [List.mem_cons, List.not_mem_nil, or_false] at ha; rcases ha with rfl | rfl | rfl | rfl | rfl | rfl; exact (ha_360 j (by omega)); exact (ha_361 j (by omega)); exact (ha_363 j (by omega)); exact (ha_364 j (by omega)); exact (F_352.1 142 (by decide) j); exact (F_352.1 143 (by decide) j)) (by have h9 : μ351.1 137 (μ.1 111 61) = 3 := hs_355; omega) (by have h9 : μ351.1 138 (μ.1 111 61) = (μ.1 116 x2) := hs_356; omega) (by have h9 : μ351.1 140 (μ.1 111 61) = μ.1 111 53 := hs_358; omega) (fun h9 => absurd h9 (by decide))), (by omega)⟩
  have c_29_20 : (μ.1 115 x2) = 20 := by omega
  refine xb_tin (tgt := 632) hx hb (by unfold ir; omega) dX12_acts_29 (by omega) (off := 603) (by rw [c_29_20]; rfl) (by decide) ?_
  have ho : μ.1 115 x2 = 20 := by omega
  have hlw_ := hMI.low
  have hle_ := hlw_.2.2.2.2.2.2.1
  have hlo_ := hlw_.1 (by omega)
  clear hlw_
  have hs1_ := hMZ.stv (μ.1 111 53 - 1) (by omega) (by omega)
  have hs1r_ := hs1_.1
  have hr11_ := hMI.rul.2.1 (by omega)
  have hr11t_ := hr11_.1
  replace hr11t_ := fun _ : Unit => hr11t_
  have hr11b_ := hr11_.2
  clear hr11_
  refine lv_aload_n hx hb dX12_acts_632 rfl (lv_at hl 3 rfl) ?_
  refine lv_dup hx hb dX12_acts_633 rfl ?_
  refine xa_geti G fd_X12 (a := 111) (x := μ.1 111 53) 53 rfl (by decide) rfl (wm 7 202 rfl rfl) ⟨rfl, rfl, rfl⟩ dX12_acts_634 rfl rfl ?_
  have hr_368 : -2147483648 ≤ μ.1 111 53 ∧ μ.1 111 53 ≤ 2147483647 := by have h9 := G.hr (a := 111) (k := 53) rfl; exact h9
  refine lv_iconst (v := iv 1) hx hb dX12_acts_637 rfl ?_
  refine xb_isub hx hb dX12_acts_638 ?_
  refine xa_puti G fd_X12 (a := 111) (x := (μ.1 111 53) - 1) 53 (kz := 53) rfl rfl (by decide) rfl (by unfold ir; omega) (wm 7 202 rfl rfl) ⟨rfl, rfl, rfl, rfl⟩ rfl dX12_acts_639 rfl (fun H locs G => ?_)
  refine lv_aload_n hx hb dX12_acts_642 rfl (lv_at hl 3 rfl) ?_
  refine lv_lload_n hx hb dX12_acts_643 rfl (lv_at hl 2 rfl) ?_
  refine xb_l2i hx hb dX12_acts_644 ?_
  refine xb_topi (fun y_369 hr_y_369 he_y_369 => ?_)
  have hr_y_369 : -2147483648 ≤ y_369 ∧ y_369 ≤ 2147483647 := hr_y_369
  have hli_y_369 : ir (μ.1 116 x2) → y_369 = μ.1 116 x2 := fun h9 => (iv_eq hr_y_369 h9).mp he_y_369
  unfold ir at hli_y_369
  refine xb_ti (y := μ.1 116 x2) (hli_y_369 (by omega)) ?_
  have hr_370 : -2147483648 ≤ μ.1 116 x2 ∧ μ.1 116 x2 ≤ 2147483647 := by omega
  refine lv_aload_n hx hb dX12_acts_645 rfl (lv_at hl 3 rfl) ?_
  refine xa_getr G fd_X12 (a := 111) (x := 135) 51 rfl (by decide) rfl (wm 7 200 rfl rfl) ⟨rfl, rfl, rfl⟩ dX12_acts_646 rfl (G.sk 133 rfl) (by decide) rfl ?_
  refine lv_aload_n hx hb dX12_acts_649 rfl (lv_at hl 3 rfl) ?_
  refine xa_geti G fd_X12 (a := 111) (x := (μ.1 111 53) - 1) 53 rfl (by decide) rfl (wm 7 202 rfl rfl) ⟨rfl, rfl, rfl⟩ dX12_acts_650 rfl (sv_s _ _ _ _) ?_
  have hr_371 : -2147483648 ≤ (μ.1 111 53) - 1 ∧ (μ.1 111 53) - 1 ≤ 2147483647 := by have h9 := G.hr (a := 111) (k := 53) rfl; rw [show (sv μ 111 53 ((μ.1 111 53) - 1)).1 111 53 = (μ.1 111 53) - 1 from (sv_s _ _ _ _)] at h9; exact h9
  refine xa_bald G (a := 135) (i := (μ.1 111 53) - 1) rfl (by have h9 := G.lc (a := 135) (n := 9000) 73 rfl; omega) dX12_acts_653 rfl ?_
  refine xb_ti (y := μ.1 135 (μ.1 111 53 - 1)) (sv_n _ (fun h9 => absurd h9.1 (by decide))) ?_
  have hr_372 : -2147483648 ≤ μ.1 135 (μ.1 111 53 - 1) ∧ μ.1 135 (μ.1 111 53 - 1) ≤ 2147483647 := by have h9 := G.hr3 (a := 135) (k := (μ.1 111 53) - 1) rfl; rw [(sv_n _ (fun h9 => absurd h9.1 (by decide)))] at h9; exact h9
  refine lv_aload_n hx hb dX12_acts_654 rfl (lv_at hl 3 rfl) ?_
  refine xa_getr G fd_X12 (a := 111) (x := 136) 52 rfl (by decide) rfl (wm 7 201 rfl rfl) ⟨rfl, rfl, rfl⟩ dX12_acts_655 rfl (G.sk 134 rfl) (by decide) rfl ?_
  refine lv_aload_n hx hb dX12_acts_658 rfl (lv_at hl 3 rfl) ?_
  refine xa_geti G fd_X12 (a := 111) (x := (μ.1 111 53) - 1) 53 rfl (by decide) rfl (wm 7 202 rfl rfl) ⟨rfl, rfl, rfl⟩ dX12_acts_659 rfl (sv_s _ _ _ _) ?_
  refine xa_lald G (a := 136) (i := (μ.1 111 53) - 1) rfl (by have h9 := G.lc (a := 136) (n := 9000) 74 rfl; omega) dX12_acts_662 rfl ?_
  refine xb_tl (y := μ.1 136 (μ.1 111 53 - 1)) (sv_n _ (fun h9 => absurd h9.1 (by decide))) ?_
  have hj_373 : jr (μ.1 136 (μ.1 111 53 - 1)) := (by have h9 := G.hj (a := 136) (k := (μ.1 111 53) - 1) rfl; rw [(sv_n _ (fun h9 => absurd h9.1 (by decide)))] at h9; exact h9)
  have e_374 : (sv μ 111 53 ((μ.1 111 53) - 1)).1 111 83 = μ.1 111 83 := (sv_n _ (by decide))
  have hrx_375 := RX.eq (μ := μ) (ν := (sv μ 111 53 ((μ.1 111 53) - 1))) (Eqa.fr (L := [111]) (FrM.put FrM.rf (by decide)) (by decide)) (Eqf.fd (L := [53]) (fun j hj => (sv_n _ (fun h9 => hj (by rw [h9.2]; decide)))) (by decide))
  have e_376 : (sv μ 111 53 ((μ.1 111 53) - 1)).1 111 94 = μ.1 111 94 := (sv_n _ (by decide))
  have e_377 : (sv μ 111 53 ((μ.1 111 53) - 1)).1 111 47 = n := ((sv_n _ (by decide)).trans hn.symm)
  have hMZ_378 : MZ (sv μ 111 53 ((μ.1 111 53) - 1)) := MZ.mn1 hMZ (n := n) (s := μ.1 131 (n - 1)) (hn.symm) (by have h9 : μ.1 131 (n - 1) = μ.1 131 (n - 1) := rfl; exact h9) (by omega) (by have h9 : μ.1 111 53 = μ.1 111 53 := rfl; omega)
  have e_379 : (sv μ 111 53 ((μ.1 111 53) - 1)).1 111 94 = μ.1 111 94 := (sv_n _ (by decide))
  refine xc_vV G (b := 111) (rest := []) (As := [.int (iv (μ.1 116 x2)), .int (iv (μ.1 135 (μ.1 111 53 - 1))), .long (jv (μ.1 136 (μ.1 111 53 - 1)))]) (c_X12_exits ω l (sv μ 111 53 ((μ.1 111 53) - 1)) (μ.1 116 x2) (μ.1 135 (μ.1 111 53 - 1)) (μ.1 136 (μ.1 111 53 - 1)) n (by unfold ir; omega) (by unfold ir; omega) hj_373 (by omega) hMZ_378 (by omega) (by omega) (by rw [(show (sv μ 111 53 ((μ.1 111 53) - 1)).1 111 65 = μ.1 111 65 from (sv_n _ (by decide))), (show (sv μ 111 53 ((μ.1 111 53) - 1)).1 111 82 = μ.1 111 82 from (sv_n _ (by decide)))]; exact hs1_) (by rw [(show (sv μ 111 53 ((μ.1 111 53) - 1)).1 111 4 = μ.1 111 4 from (sv_n _ (by decide)))]; exact hr11b_) (by rw [(show (sv μ 111 53 ((μ.1 111 53) - 1)).1 127 (n - 1) = μ.1 127 (n - 1) from (sv_n _ (fun h9 => absurd h9.1 (by decide))))]; rcases hr11t_ () with h8 | h8 <;> omega)) (wm 10 231 rfl rfl) (wm 10 233 rfl rfl) (wm 0 221 rfl rfl) rfl rfl (by decide) rfl (wm 1 18 rfl rfl) (wm 10 234 rfl rfl) (by decide) hR (by decide) (n := 3) rfl rfl (Nat.le_of_ble_eq_true rfl) hl.1 dX12_acts_663 (fun μ380 ρ d0 H locs hp G => ?_)
  obtain ⟨F_381, hp_382, hp_383⟩ := hp
  refine lv_goto (tgt := 695) hx hb dX12_acts_666 (by decide) ?_
  have e_384 : μ380.1 111 85 = μ.1 111 85 := ((hp_382 85 (by decide)).trans (sv_n _ (by decide)))
  have e_385 : μ380.1 111 85 = μ.1 111 85 := ((hp_382 85 (by decide)).trans (sv_n _ (by decide)))
  have e_386 : μ380.1 111 85 = μ.1 111 85 := ((hp_382 85 (by decide)).trans (sv_n _ (by decide)))
  exact xr_v G hret hlk dX12_acts_695 ⟨(FrM.tr (FrM.put FrM.rf (by decide)) F_381 (by decide)), (fun j hj => ((hp_382 j (fun h9 => hj ((by decide : ∀ x ∈ ([47, 53, 61, 81, 82, 83, 84, 90, 91, 93, 94, 95, 96, 97, 98, 99] : List Int), x ∈ ([47, 53, 61, 81, 82, 83, 84, 90, 91, 93, 94, 95, 96, 97, 98, 99, 85, 88] : List Int)) j h9))).trans (sv_n _ (fun h9 => hj (by rw [h9.2]; decide))))), (hp_383.le (by omega)), (by omega)⟩
