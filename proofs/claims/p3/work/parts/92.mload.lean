abbrev cX12_load : ByteArray := prog_14_method_77_code
def yX12_load : MethodName := ⟨RX12, "load", "(II)I"⟩
theorem dX12_load_0 : decode cX12_load 0 = .ok (.aload_n 0, 1) := by decide +kernel
theorem dX12_load_1 : decode cX12_load 1 = .ok (.iconst 0, 1) := by decide +kernel
theorem dX12_load_2 : decode cX12_load 2 = .ok (.putfield 200, 3) := by decide +kernel
theorem dX12_load_5 : decode cX12_load 5 = .ok (.iload_n 1, 1) := by decide +kernel
theorem dX12_load_6 : decode cX12_load 6 = .ok (.ifCond .lt 20, 3) := by decide +kernel
theorem dX12_load_9 : decode cX12_load 9 = .ok (.iload_n 1, 1) := by decide +kernel
theorem dX12_load_10 : decode cX12_load 10 = .ok (.iconst 3, 1) := by decide +kernel
theorem dX12_load_11 : decode cX12_load 11 = .ok (.if_icmp .gt 15, 3) := by decide +kernel
theorem dX12_load_14 : decode cX12_load 14 = .ok (.iload_n 2, 1) := by decide +kernel
theorem dX12_load_15 : decode cX12_load 15 = .ok (.ifCond .lt 11, 3) := by decide +kernel
theorem dX12_load_18 : decode cX12_load 18 = .ok (.iload_n 2, 1) := by decide +kernel
theorem dX12_load_19 : decode cX12_load 19 = .ok (.aload_n 0, 1) := by decide +kernel
theorem dX12_load_20 : decode cX12_load 20 = .ok (.getfield 203, 3) := by decide +kernel
theorem dX12_load_23 : decode cX12_load 23 = .ok (.if_icmp .le 7, 3) := by decide +kernel
theorem dX12_load_26 : decode cX12_load 26 = .ok (.sipush (-5000), 3) := by decide +kernel
theorem dX12_load_29 : decode cX12_load 29 = .ok (.ireturn, 1) := by decide +kernel
theorem dX12_load_30 : decode cX12_load 30 = .ok (.aload_n 0, 1) := by decide +kernel
theorem dX12_load_31 : decode cX12_load 31 = .ok (.iload_n 1, 1) := by decide +kernel
theorem dX12_load_32 : decode cX12_load 32 = .ok (.putfield 266, 3) := by decide +kernel
theorem dX12_load_35 : decode cX12_load 35 = .ok (.aload_n 0, 1) := by decide +kernel
theorem dX12_load_36 : decode cX12_load 36 = .ok (.iconst 0, 1) := by decide +kernel
theorem dX12_load_37 : decode cX12_load 37 = .ok (.putfield 206, 3) := by decide +kernel
theorem dX12_load_40 : decode cX12_load 40 = .ok (.aload_n 0, 1) := by decide +kernel
theorem dX12_load_41 : decode cX12_load 41 = .ok (.iload_n 2, 1) := by decide +kernel
theorem dX12_load_42 : decode cX12_load 42 = .ok (.putfield 209, 3) := by decide +kernel
theorem dX12_load_45 : decode cX12_load 45 = .ok (.aload_n 0, 1) := by decide +kernel
theorem dX12_load_46 : decode cX12_load 46 = .ok (.iconst 0, 1) := by decide +kernel
theorem dX12_load_47 : decode cX12_load 47 = .ok (.putfield 203, 3) := by decide +kernel
theorem dX12_load_50 : decode cX12_load 50 = .ok (.aload_n 0, 1) := by decide +kernel
theorem dX12_load_51 : decode cX12_load 51 = .ok (.iconst (-1), 1) := by decide +kernel
theorem dX12_load_52 : decode cX12_load 52 = .ok (.putfield 212, 3) := by decide +kernel
theorem dX12_load_55 : decode cX12_load 55 = .ok (.aload_n 0, 1) := by decide +kernel
theorem dX12_load_56 : decode cX12_load 56 = .ok (.iconst (-1), 1) := by decide +kernel
theorem dX12_load_57 : decode cX12_load 57 = .ok (.putfield 326, 3) := by decide +kernel
theorem dX12_load_60 : decode cX12_load 60 = .ok (.aload_n 0, 1) := by decide +kernel
theorem dX12_load_61 : decode cX12_load 61 = .ok (.iconst (-1), 1) := by decide +kernel
theorem dX12_load_62 : decode cX12_load 62 = .ok (.putfield 337, 3) := by decide +kernel
theorem dX12_load_65 : decode cX12_load 65 = .ok (.aload_n 0, 1) := by decide +kernel
theorem dX12_load_66 : decode cX12_load 66 = .ok (.iconst 0, 1) := by decide +kernel
theorem dX12_load_67 : decode cX12_load 67 = .ok (.putfield 307, 3) := by decide +kernel
theorem dX12_load_70 : decode cX12_load 70 = .ok (.aload_n 0, 1) := by decide +kernel
theorem dX12_load_71 : decode cX12_load 71 = .ok (.iconst 0, 1) := by decide +kernel
theorem dX12_load_72 : decode cX12_load 72 = .ok (.putfield 317, 3) := by decide +kernel
theorem dX12_load_75 : decode cX12_load 75 = .ok (.aload_n 0, 1) := by decide +kernel
theorem dX12_load_76 : decode cX12_load 76 = .ok (.iconst 0, 1) := by decide +kernel
theorem dX12_load_77 : decode cX12_load 77 = .ok (.putfield 505, 3) := by decide +kernel
theorem dX12_load_80 : decode cX12_load 80 = .ok (.aload_n 0, 1) := by decide +kernel
theorem dX12_load_81 : decode cX12_load 81 = .ok (.getfield 42, 3) := by decide +kernel
theorem dX12_load_84 : decode cX12_load 84 = .ok (.iconst 4, 1) := by decide +kernel
theorem dX12_load_85 : decode cX12_load 85 = .ok (.iconst 0, 1) := by decide +kernel
theorem dX12_load_86 : decode cX12_load 86 = .ok (.iastore, 1) := by decide +kernel
theorem dX12_load_87 : decode cX12_load 87 = .ok (.aload_n 0, 1) := by decide +kernel
theorem dX12_load_88 : decode cX12_load 88 = .ok (.aload_n 0, 1) := by decide +kernel
theorem dX12_load_89 : decode cX12_load 89 = .ok (.getfield 178, 3) := by decide +kernel
theorem dX12_load_92 : decode cX12_load 92 = .ok (.putfield 323, 3) := by decide +kernel
theorem dX12_load_95 : decode cX12_load 95 = .ok (.iconst 0, 1) := by decide +kernel
theorem dX12_load_96 : decode cX12_load 96 = .ok (.istore_n 3, 1) := by decide +kernel
theorem dX12_load_97 : decode cX12_load 97 = .ok (.iload_n 3, 1) := by decide +kernel
theorem dX12_load_98 : decode cX12_load 98 = .ok (.bipush 64, 2) := by decide +kernel
theorem dX12_load_100 : decode cX12_load 100 = .ok (.if_icmp .ge 21, 3) := by decide +kernel
theorem dX12_load_103 : decode cX12_load 103 = .ok (.aload_n 0, 1) := by decide +kernel
theorem dX12_load_104 : decode cX12_load 104 = .ok (.getfield 45, 3) := by decide +kernel
theorem dX12_load_107 : decode cX12_load 107 = .ok (.iload_n 3, 1) := by decide +kernel
theorem dX12_load_108 : decode cX12_load 108 = .ok (.aload_n 0, 1) := by decide +kernel
theorem dX12_load_109 : decode cX12_load 109 = .ok (.getfield 17, 3) := by decide +kernel
theorem dX12_load_112 : decode cX12_load 112 = .ok (.iload_n 3, 1) := by decide +kernel
theorem dX12_load_113 : decode cX12_load 113 = .ok (.iaload, 1) := by decide +kernel
theorem dX12_load_114 : decode cX12_load 114 = .ok (.iastore, 1) := by decide +kernel
theorem dX12_load_115 : decode cX12_load 115 = .ok (.iinc 3 1, 3) := by decide +kernel
theorem dX12_load_118 : decode cX12_load 118 = .ok (.goto (-21), 3) := by decide +kernel
theorem dX12_load_121 : decode cX12_load 121 = .ok (.aload_n 0, 1) := by decide +kernel
theorem dX12_load_122 : decode cX12_load 122 = .ok (.invokevirtual 295, 3) := by decide +kernel
theorem dX12_load_125 : decode cX12_load 125 = .ok (.aload_n 0, 1) := by decide +kernel
theorem dX12_load_126 : decode cX12_load 126 = .ok (.invokevirtual 518, 3) := by decide +kernel
theorem dX12_load_129 : decode cX12_load 129 = .ok (.aload_n 0, 1) := by decide +kernel
theorem dX12_load_130 : decode cX12_load 130 = .ok (.aload_n 0, 1) := by decide +kernel
theorem dX12_load_131 : decode cX12_load 131 = .ok (.getfield 212, 3) := by decide +kernel
theorem dX12_load_134 : decode cX12_load 134 = .ok (.iconst (-1), 1) := by decide +kernel
theorem dX12_load_135 : decode cX12_load 135 = .ok (.if_icmp .eq 7, 3) := by decide +kernel
theorem dX12_load_138 : decode cX12_load 138 = .ok (.iconst 1, 1) := by decide +kernel
theorem dX12_load_139 : decode cX12_load 139 = .ok (.goto 28, 3) := by decide +kernel
theorem dX12_load_142 : decode cX12_load 142 = .ok (.aload_n 0, 1) := by decide +kernel
theorem dX12_load_143 : decode cX12_load 143 = .ok (.getfield 326, 3) := by decide +kernel
theorem dX12_load_146 : decode cX12_load 146 = .ok (.iconst (-1), 1) := by decide +kernel
theorem dX12_load_147 : decode cX12_load 147 = .ok (.if_icmp .eq 7, 3) := by decide +kernel
theorem dX12_load_150 : decode cX12_load 150 = .ok (.iconst 2, 1) := by decide +kernel
theorem dX12_load_151 : decode cX12_load 151 = .ok (.goto 16, 3) := by decide +kernel
theorem dX12_load_154 : decode cX12_load 154 = .ok (.aload_n 0, 1) := by decide +kernel
theorem dX12_load_155 : decode cX12_load 155 = .ok (.getfield 337, 3) := by decide +kernel
theorem dX12_load_158 : decode cX12_load 158 = .ok (.iconst (-1), 1) := by decide +kernel
theorem dX12_load_159 : decode cX12_load 159 = .ok (.if_icmp .eq 7, 3) := by decide +kernel
theorem dX12_load_162 : decode cX12_load 162 = .ok (.iconst 3, 1) := by decide +kernel
theorem dX12_load_163 : decode cX12_load 163 = .ok (.goto 4, 3) := by decide +kernel
theorem dX12_load_166 : decode cX12_load 166 = .ok (.iconst 0, 1) := by decide +kernel
theorem dX12_load_167 : decode cX12_load 167 = .ok (.putfield 521, 3) := by decide +kernel
theorem dX12_load_170 : decode cX12_load 170 = .ok (.aload_n 0, 1) := by decide +kernel
theorem dX12_load_171 : decode cX12_load 171 = .ok (.getfield 521, 3) := by decide +kernel
theorem dX12_load_174 : decode cX12_load 174 = .ok (.ifCond .le 40, 3) := by decide +kernel
theorem dX12_load_177 : decode cX12_load 177 = .ok (.iconst (-1), 1) := by decide +kernel
theorem dX12_load_178 : decode cX12_load 178 = .ok (.aload_n 0, 1) := by decide +kernel
theorem dX12_load_179 : decode cX12_load 179 = .ok (.getfield 521, 3) := by decide +kernel
theorem dX12_load_182 : decode cX12_load 182 = .ok (.iconst 1, 1) := by decide +kernel
theorem dX12_load_183 : decode cX12_load 183 = .ok (.if_icmp .ne 10, 3) := by decide +kernel
theorem dX12_load_186 : decode cX12_load 186 = .ok (.aload_n 0, 1) := by decide +kernel
theorem dX12_load_187 : decode cX12_load 187 = .ok (.getfield 212, 3) := by decide +kernel
theorem dX12_load_190 : decode cX12_load 190 = .ok (.goto 22, 3) := by decide +kernel
theorem dX12_load_193 : decode cX12_load 193 = .ok (.aload_n 0, 1) := by decide +kernel
theorem dX12_load_194 : decode cX12_load 194 = .ok (.getfield 521, 3) := by decide +kernel
theorem dX12_load_197 : decode cX12_load 197 = .ok (.iconst 2, 1) := by decide +kernel
theorem dX12_load_198 : decode cX12_load 198 = .ok (.if_icmp .ne 10, 3) := by decide +kernel
theorem dX12_load_201 : decode cX12_load 201 = .ok (.aload_n 0, 1) := by decide +kernel
theorem dX12_load_202 : decode cX12_load 202 = .ok (.getfield 326, 3) := by decide +kernel
theorem dX12_load_205 : decode cX12_load 205 = .ok (.goto 7, 3) := by decide +kernel
theorem dX12_load_208 : decode cX12_load 208 = .ok (.aload_n 0, 1) := by decide +kernel
theorem dX12_load_209 : decode cX12_load 209 = .ok (.getfield 337, 3) := by decide +kernel
theorem dX12_load_212 : decode cX12_load 212 = .ok (.isub, 1) := by decide +kernel
theorem dX12_load_213 : decode cX12_load 213 = .ok (.ireturn, 1) := by decide +kernel
theorem dX12_load_214 : decode cX12_load 214 = .ok (.aload_n 0, 1) := by decide +kernel
theorem dX12_load_215 : decode cX12_load 215 = .ok (.aload_n 0, 1) := by decide +kernel
theorem dX12_load_216 : decode cX12_load 216 = .ok (.getfield 323, 3) := by decide +kernel
theorem dX12_load_219 : decode cX12_load 219 = .ok (.putfield 178, 3) := by decide +kernel
theorem dX12_load_222 : decode cX12_load 222 = .ok (.iconst 0, 1) := by decide +kernel
theorem dX12_load_223 : decode cX12_load 223 = .ok (.istore_n 3, 1) := by decide +kernel
theorem dX12_load_224 : decode cX12_load 224 = .ok (.iload_n 3, 1) := by decide +kernel
theorem dX12_load_225 : decode cX12_load 225 = .ok (.bipush 64, 2) := by decide +kernel
theorem dX12_load_227 : decode cX12_load 227 = .ok (.if_icmp .ge 21, 3) := by decide +kernel
theorem dX12_load_230 : decode cX12_load 230 = .ok (.aload_n 0, 1) := by decide +kernel
theorem dX12_load_231 : decode cX12_load 231 = .ok (.getfield 17, 3) := by decide +kernel
theorem dX12_load_234 : decode cX12_load 234 = .ok (.iload_n 3, 1) := by decide +kernel
theorem dX12_load_235 : decode cX12_load 235 = .ok (.aload_n 0, 1) := by decide +kernel
theorem dX12_load_236 : decode cX12_load 236 = .ok (.getfield 45, 3) := by decide +kernel
theorem dX12_load_239 : decode cX12_load 239 = .ok (.iload_n 3, 1) := by decide +kernel
theorem dX12_load_240 : decode cX12_load 240 = .ok (.iaload, 1) := by decide +kernel
theorem dX12_load_241 : decode cX12_load 241 = .ok (.iastore, 1) := by decide +kernel
theorem dX12_load_242 : decode cX12_load 242 = .ok (.iinc 3 1, 3) := by decide +kernel
theorem dX12_load_245 : decode cX12_load 245 = .ok (.goto (-21), 3) := by decide +kernel
theorem dX12_load_248 : decode cX12_load 248 = .ok (.iconst 0, 1) := by decide +kernel
theorem dX12_load_249 : decode cX12_load 249 = .ok (.istore_n 3, 1) := by decide +kernel
theorem dX12_load_250 : decode cX12_load 250 = .ok (.iload_n 3, 1) := by decide +kernel
theorem dX12_load_251 : decode cX12_load 251 = .ok (.aload_n 0, 1) := by decide +kernel
theorem dX12_load_252 : decode cX12_load 252 = .ok (.getfield 317, 3) := by decide +kernel
theorem dX12_load_255 : decode cX12_load 255 = .ok (.if_icmp .ge 75, 3) := by decide +kernel
theorem dX12_load_258 : decode cX12_load 258 = .ok (.aload_n 0, 1) := by decide +kernel
theorem dX12_load_259 : decode cX12_load 259 = .ok (.getfield 21, 3) := by decide +kernel
theorem dX12_load_262 : decode cX12_load 262 = .ok (.sipush 9000, 3) := by decide +kernel
theorem dX12_load_265 : decode cX12_load 265 = .ok (.iload_n 1, 1) := by decide +kernel
theorem dX12_load_266 : decode cX12_load 266 = .ok (.imul, 1) := by decide +kernel
theorem dX12_load_267 : decode cX12_load 267 = .ok (.iload_n 3, 1) := by decide +kernel
theorem dX12_load_268 : decode cX12_load 268 = .ok (.iadd, 1) := by decide +kernel
theorem dX12_load_269 : decode cX12_load 269 = .ok (.aload_n 0, 1) := by decide +kernel
theorem dX12_load_270 : decode cX12_load 270 = .ok (.getfield 21, 3) := by decide +kernel
theorem dX12_load_273 : decode cX12_load 273 = .ok (.ldc_w 316, 3) := by decide +kernel
theorem dX12_load_276 : decode cX12_load 276 = .ok (.iload_n 3, 1) := by decide +kernel
theorem dX12_load_277 : decode cX12_load 277 = .ok (.iadd, 1) := by decide +kernel
theorem dX12_load_278 : decode cX12_load 278 = .ok (.iaload, 1) := by decide +kernel
theorem dX12_load_279 : decode cX12_load 279 = .ok (.iastore, 1) := by decide +kernel
theorem dX12_load_280 : decode cX12_load 280 = .ok (.aload_n 0, 1) := by decide +kernel
theorem dX12_load_281 : decode cX12_load 281 = .ok (.getfield 24, 3) := by decide +kernel
theorem dX12_load_284 : decode cX12_load 284 = .ok (.sipush 9000, 3) := by decide +kernel
theorem dX12_load_287 : decode cX12_load 287 = .ok (.iload_n 1, 1) := by decide +kernel
theorem dX12_load_288 : decode cX12_load 288 = .ok (.imul, 1) := by decide +kernel
theorem dX12_load_289 : decode cX12_load 289 = .ok (.iload_n 3, 1) := by decide +kernel
theorem dX12_load_290 : decode cX12_load 290 = .ok (.iadd, 1) := by decide +kernel
theorem dX12_load_291 : decode cX12_load 291 = .ok (.aload_n 0, 1) := by decide +kernel
theorem dX12_load_292 : decode cX12_load 292 = .ok (.getfield 24, 3) := by decide +kernel
theorem dX12_load_295 : decode cX12_load 295 = .ok (.ldc_w 316, 3) := by decide +kernel
theorem dX12_load_298 : decode cX12_load 298 = .ok (.iload_n 3, 1) := by decide +kernel
theorem dX12_load_299 : decode cX12_load 299 = .ok (.iadd, 1) := by decide +kernel
theorem dX12_load_300 : decode cX12_load 300 = .ok (.laload, 1) := by decide +kernel
theorem dX12_load_301 : decode cX12_load 301 = .ok (.lastore, 1) := by decide +kernel
theorem dX12_load_302 : decode cX12_load 302 = .ok (.aload_n 0, 1) := by decide +kernel
theorem dX12_load_303 : decode cX12_load 303 = .ok (.getfield 27, 3) := by decide +kernel
theorem dX12_load_306 : decode cX12_load 306 = .ok (.sipush 9000, 3) := by decide +kernel
theorem dX12_load_309 : decode cX12_load 309 = .ok (.iload_n 1, 1) := by decide +kernel
theorem dX12_load_310 : decode cX12_load 310 = .ok (.imul, 1) := by decide +kernel
theorem dX12_load_311 : decode cX12_load 311 = .ok (.iload_n 3, 1) := by decide +kernel
theorem dX12_load_312 : decode cX12_load 312 = .ok (.iadd, 1) := by decide +kernel
theorem dX12_load_313 : decode cX12_load 313 = .ok (.aload_n 0, 1) := by decide +kernel
theorem dX12_load_314 : decode cX12_load 314 = .ok (.getfield 27, 3) := by decide +kernel
theorem dX12_load_317 : decode cX12_load 317 = .ok (.ldc_w 316, 3) := by decide +kernel
theorem dX12_load_320 : decode cX12_load 320 = .ok (.iload_n 3, 1) := by decide +kernel
theorem dX12_load_321 : decode cX12_load 321 = .ok (.iadd, 1) := by decide +kernel
theorem dX12_load_322 : decode cX12_load 322 = .ok (.iaload, 1) := by decide +kernel
theorem dX12_load_323 : decode cX12_load 323 = .ok (.iastore, 1) := by decide +kernel
theorem dX12_load_324 : decode cX12_load 324 = .ok (.iinc 3 1, 3) := by decide +kernel
theorem dX12_load_327 : decode cX12_load 327 = .ok (.goto (-77), 3) := by decide +kernel
theorem dX12_load_330 : decode cX12_load 330 = .ok (.iconst 0, 1) := by decide +kernel
theorem dX12_load_331 : decode cX12_load 331 = .ok (.istore_n 3, 1) := by decide +kernel
theorem dX12_load_332 : decode cX12_load 332 = .ok (.iload_n 3, 1) := by decide +kernel
theorem dX12_load_333 : decode cX12_load 333 = .ok (.aload_n 0, 1) := by decide +kernel
theorem dX12_load_334 : decode cX12_load 334 = .ok (.getfield 42, 3) := by decide +kernel
theorem dX12_load_337 : decode cX12_load 337 = .ok (.iconst 4, 1) := by decide +kernel
theorem dX12_load_338 : decode cX12_load 338 = .ok (.iaload, 1) := by decide +kernel
theorem dX12_load_339 : decode cX12_load 339 = .ok (.if_icmp .ge 93, 3) := by decide +kernel
theorem dX12_load_342 : decode cX12_load 342 = .ok (.aload_n 0, 1) := by decide +kernel
theorem dX12_load_343 : decode cX12_load 343 = .ok (.getfield 30, 3) := by decide +kernel
theorem dX12_load_346 : decode cX12_load 346 = .ok (.bipush 40, 2) := by decide +kernel
theorem dX12_load_348 : decode cX12_load 348 = .ok (.iload_n 1, 1) := by decide +kernel
theorem dX12_load_349 : decode cX12_load 349 = .ok (.imul, 1) := by decide +kernel
theorem dX12_load_350 : decode cX12_load 350 = .ok (.iload_n 3, 1) := by decide +kernel
theorem dX12_load_351 : decode cX12_load 351 = .ok (.iadd, 1) := by decide +kernel
theorem dX12_load_352 : decode cX12_load 352 = .ok (.aload_n 0, 1) := by decide +kernel
theorem dX12_load_353 : decode cX12_load 353 = .ok (.getfield 30, 3) := by decide +kernel
theorem dX12_load_356 : decode cX12_load 356 = .ok (.sipush 160, 3) := by decide +kernel
theorem dX12_load_359 : decode cX12_load 359 = .ok (.iload_n 3, 1) := by decide +kernel
theorem dX12_load_360 : decode cX12_load 360 = .ok (.iadd, 1) := by decide +kernel
theorem dX12_load_361 : decode cX12_load 361 = .ok (.laload, 1) := by decide +kernel
theorem dX12_load_362 : decode cX12_load 362 = .ok (.lastore, 1) := by decide +kernel
theorem dX12_load_363 : decode cX12_load 363 = .ok (.aload_n 0, 1) := by decide +kernel
theorem dX12_load_364 : decode cX12_load 364 = .ok (.getfield 33, 3) := by decide +kernel
theorem dX12_load_367 : decode cX12_load 367 = .ok (.bipush 40, 2) := by decide +kernel
theorem dX12_load_369 : decode cX12_load 369 = .ok (.iload_n 1, 1) := by decide +kernel
theorem dX12_load_370 : decode cX12_load 370 = .ok (.imul, 1) := by decide +kernel
theorem dX12_load_371 : decode cX12_load 371 = .ok (.iload_n 3, 1) := by decide +kernel
theorem dX12_load_372 : decode cX12_load 372 = .ok (.iadd, 1) := by decide +kernel
theorem dX12_load_373 : decode cX12_load 373 = .ok (.aload_n 0, 1) := by decide +kernel
theorem dX12_load_374 : decode cX12_load 374 = .ok (.getfield 33, 3) := by decide +kernel
theorem dX12_load_377 : decode cX12_load 377 = .ok (.sipush 160, 3) := by decide +kernel
theorem dX12_load_380 : decode cX12_load 380 = .ok (.iload_n 3, 1) := by decide +kernel
theorem dX12_load_381 : decode cX12_load 381 = .ok (.iadd, 1) := by decide +kernel
theorem dX12_load_382 : decode cX12_load 382 = .ok (.iaload, 1) := by decide +kernel
theorem dX12_load_383 : decode cX12_load 383 = .ok (.iastore, 1) := by decide +kernel
theorem dX12_load_384 : decode cX12_load 384 = .ok (.aload_n 0, 1) := by decide +kernel
theorem dX12_load_385 : decode cX12_load 385 = .ok (.getfield 36, 3) := by decide +kernel
theorem dX12_load_388 : decode cX12_load 388 = .ok (.bipush 40, 2) := by decide +kernel
theorem dX12_load_390 : decode cX12_load 390 = .ok (.iload_n 1, 1) := by decide +kernel
theorem dX12_load_391 : decode cX12_load 391 = .ok (.imul, 1) := by decide +kernel
theorem dX12_load_392 : decode cX12_load 392 = .ok (.iload_n 3, 1) := by decide +kernel
theorem dX12_load_393 : decode cX12_load 393 = .ok (.iadd, 1) := by decide +kernel
theorem dX12_load_394 : decode cX12_load 394 = .ok (.aload_n 0, 1) := by decide +kernel
theorem dX12_load_395 : decode cX12_load 395 = .ok (.getfield 36, 3) := by decide +kernel
theorem dX12_load_398 : decode cX12_load 398 = .ok (.sipush 160, 3) := by decide +kernel
theorem dX12_load_401 : decode cX12_load 401 = .ok (.iload_n 3, 1) := by decide +kernel
theorem dX12_load_402 : decode cX12_load 402 = .ok (.iadd, 1) := by decide +kernel
theorem dX12_load_403 : decode cX12_load 403 = .ok (.iaload, 1) := by decide +kernel
theorem dX12_load_404 : decode cX12_load 404 = .ok (.iastore, 1) := by decide +kernel
theorem dX12_load_405 : decode cX12_load 405 = .ok (.aload_n 0, 1) := by decide +kernel
theorem dX12_load_406 : decode cX12_load 406 = .ok (.getfield 39, 3) := by decide +kernel
theorem dX12_load_409 : decode cX12_load 409 = .ok (.bipush 40, 2) := by decide +kernel
theorem dX12_load_411 : decode cX12_load 411 = .ok (.iload_n 1, 1) := by decide +kernel
theorem dX12_load_412 : decode cX12_load 412 = .ok (.imul, 1) := by decide +kernel
theorem dX12_load_413 : decode cX12_load 413 = .ok (.iload_n 3, 1) := by decide +kernel
theorem dX12_load_414 : decode cX12_load 414 = .ok (.iadd, 1) := by decide +kernel
theorem dX12_load_415 : decode cX12_load 415 = .ok (.aload_n 0, 1) := by decide +kernel
theorem dX12_load_416 : decode cX12_load 416 = .ok (.getfield 39, 3) := by decide +kernel
theorem dX12_load_419 : decode cX12_load 419 = .ok (.sipush 160, 3) := by decide +kernel
theorem dX12_load_422 : decode cX12_load 422 = .ok (.iload_n 3, 1) := by decide +kernel
theorem dX12_load_423 : decode cX12_load 423 = .ok (.iadd, 1) := by decide +kernel
theorem dX12_load_424 : decode cX12_load 424 = .ok (.iaload, 1) := by decide +kernel
theorem dX12_load_425 : decode cX12_load 425 = .ok (.iastore, 1) := by decide +kernel
theorem dX12_load_426 : decode cX12_load 426 = .ok (.iinc 3 1, 3) := by decide +kernel
theorem dX12_load_429 : decode cX12_load 429 = .ok (.goto (-97), 3) := by decide +kernel
theorem dX12_load_432 : decode cX12_load 432 = .ok (.aload_n 0, 1) := by decide +kernel
theorem dX12_load_433 : decode cX12_load 433 = .ok (.getfield 42, 3) := by decide +kernel
theorem dX12_load_436 : decode cX12_load 436 = .ok (.iload_n 1, 1) := by decide +kernel
theorem dX12_load_437 : decode cX12_load 437 = .ok (.aload_n 0, 1) := by decide +kernel
theorem dX12_load_438 : decode cX12_load 438 = .ok (.getfield 42, 3) := by decide +kernel
theorem dX12_load_441 : decode cX12_load 441 = .ok (.iconst 4, 1) := by decide +kernel
theorem dX12_load_442 : decode cX12_load 442 = .ok (.iaload, 1) := by decide +kernel
theorem dX12_load_443 : decode cX12_load 443 = .ok (.iastore, 1) := by decide +kernel
theorem dX12_load_444 : decode cX12_load 444 = .ok (.aload_n 0, 1) := by decide +kernel
theorem dX12_load_445 : decode cX12_load 445 = .ok (.getfield 42, 3) := by decide +kernel
theorem dX12_load_448 : decode cX12_load 448 = .ok (.iload_n 1, 1) := by decide +kernel
theorem dX12_load_449 : decode cX12_load 449 = .ok (.iaload, 1) := by decide +kernel
theorem dX12_load_450 : decode cX12_load 450 = .ok (.ireturn, 1) := by decide +kernel
theorem mEXn.lo {μ ν : M3} (h : mEXn μ ν) (h0 : 0 ≤ μ.1 111 22) : ∀ j, j < 36000 → ν.1 115 j = μ.1 115 j ∧ ν.1 116 j = μ.1 116 j ∧ ν.1 117 j = μ.1 117 j := by
  intro j hj
  have e : (36000 : Int) + (j - 36000) = j := by omega
  have a0 := h.2.2 (j - 36000) 0 k0 (by omega)
  have a1 := h.2.2 (j - 36000) 1 k1 (by omega)
  have a2 := h.2.2 (j - 36000) 2 k2 (by omega)
  unfold cdm cR at a0 a1 a2
  rw [e] at a0 a1 a2
  rw [if_pos rfl, if_pos rfl] at a0
  rw [if_neg (by decide), if_pos rfl, if_neg (by decide), if_pos rfl] at a1
  rw [if_neg (by decide), if_neg (by decide), if_neg (by decide), if_neg (by decide)] at a2
  exact ⟨a0, a1, a2⟩
theorem mLI.cg {μ ν : M3} (h : mLI μ) (e4 : ν.1 111 4 = μ.1 111 4) (e31 : ν.1 111 31 = μ.1 111 31) (e11 : ν.1 111 11 = μ.1 111 11) (e2 : ν.1 111 2 = μ.1 111 2) (e14 : ∀ j, ν.1 114 j = μ.1 114 j) (e15 : ∀ j, ν.1 115 j = μ.1 115 j) (e16 : ∀ j, ν.1 116 j = μ.1 116 j) (e17 : ∀ j, ν.1 117 j = μ.1 117 j) (e19 : ∀ j, ν.1 119 j = μ.1 119 j) (e20 : ∀ j, ν.1 120 j = μ.1 120 j) (e21 : ∀ j, ν.1 121 j = μ.1 121 j) (e22 : ∀ j, ν.1 122 j = μ.1 122 j) : mLI ν := by
  obtain ⟨h1, h2, h3, h4, h5, h6⟩ := h
  unfold mLI
  rw [e4, e31, e11, e2]
  exact ⟨h1, h2.cg e14, h3, h4, h5, fun u u0 u1 => (h6 u u0 u1).kp (Int.le_of_eq e4.symm) (fun j _ _ => e15 j) (fun j _ _ => e16 j) (fun j _ _ => e17 j) (fun j _ _ => e19 j) (fun j _ _ => e20 j) (fun j _ _ => e21 j) (e22 u)⟩
set_option maxHeartbeats 4000000 in
set_option maxRecDepth 100000 in
theorem c_X12_load (ω : Om) (l : Launch) (μ : M3) (x1 : Int) (x2 : Int) (hx1 : ir x1) (hx2 : ir x2) (hLI : mLI μ) : CtI ω l yX12_load cX12_load 4 .int 243 7045 [.ref (oP ω 111), .int (iv x1), .int (iv x2)] μ (fun (r : Int) (μ' : M3) => (FrM [111, 113, 114, 115, 116, 117, 118, 119, 120, 121, 122, 123, 124, 126] μ μ') ∧ (∀ j, j ∉ ([0, 2, 4, 6, 7, 8, 9, 10, 11, 12, 13, 14, 15, 16, 17, 18, 22, 29, 31, 32, 34, 35, 36, 37, 39, 40] : List Int) → μ'.1 111 j = μ.1 111 j) ∧ (mLI μ') ∧ ((0 ≤ x1 ∧ x1 ≤ 3 ∧ 0 ≤ x2 ∧ x2 ≤ μ.1 111 2 ∧ μ'.1 111 2 = 0) ∨ (¬ (0 ≤ x1 ∧ x1 ≤ 3 ∧ 0 ≤ x2 ∧ x2 ≤ μ.1 111 2) ∧ μ'.1 111 2 = μ.1 111 2)) ∧ (μ.1 111 4 ≤ μ'.1 111 4)) := by
  refine CtI.go (by decide) (Nat.le_of_ble_eq_true rfl) (fun ρ p e s m below meth c R ls G hR hret hlk hl => ?_)
  have hx := G.1.1
  have hb := G.1.2.1
  have hl : lv_has ls 4 [(0, .ref (oP ω 111)), (1, .int (iv x1)), (2, .int (iv x2))] := hl
  generalize s.drawn = d0 at G ⊢
  have hr_x1 : -2147483648 ≤ x1 ∧ x1 ≤ 2147483647 := hx1
  have hr_x2 : -2147483648 ≤ x2 ∧ x2 ≤ 2147483647 := hx2
  obtain ⟨hli4, hlip, hli31, hli11, hli2, hliP⟩ := id hLI
  refine lv_aload_n hx hb dX12_load_0 rfl (lv_at hl 0 rfl) ?_
  refine lv_iconst (v := iv 0) hx hb dX12_load_1 rfl ?_
  refine xa_puti G fd_X12 (a := 111) (x := 0) 0 (kz := 0) rfl rfl (by decide) rfl (by unfold ir; omega) (wm 7 149 rfl rfl) ⟨rfl, rfl, rfl, rfl⟩ rfl dX12_load_2 rfl (fun H locs G => ?_)
  refine lv_iload_n hx hb dX12_load_5 rfl (lv_at hl 1 rfl) ?_
  refine xb_if_lt (tgt := 26) hx hb (by unfold ir; omega) dX12_load_6 (by decide) (fun c_6 => ?_) (fun c_6 => ?_)
  · refine lv_sipush (v := iv (-5000)) hx hb dX12_load_26 rfl ?_
    have e_1 : (sv μ 111 0 0).1 111 2 = μ.1 111 2 := (sv_n _ (by decide))
    have e_2 : (sv μ 111 0 0).1 111 4 = μ.1 111 4 := (sv_n _ (by decide))
    have e_3 : (sv μ 111 0 0).1 111 4 = μ.1 111 4 := (sv_n _ (by decide))
    exact xr_i G (x := (-5000)) hret hlk (by unfold ir; omega) rfl dX12_load_29 ⟨(FrM.put FrM.rf (by decide)), (fun j hj => (sv_n _ (fun h9 => hj (by rw [h9.2]; decide)))), (mLI.cg hLI (sv_n _ (by decide)) (sv_n _ (by decide)) (sv_n _ (by decide)) (sv_n _ (by decide)) (fun j => (sv_n _ (by omega))) (fun j => (sv_n _ (by omega))) (fun j => (sv_n _ (by omega))) (fun j => (sv_n _ (by omega))) (fun j => (sv_n _ (by omega))) (fun j => (sv_n _ (by omega))) (fun j => (sv_n _ (by omega))) (fun j => (sv_n _ (by omega)))), (Or.inr ⟨by omega, (sv_n _ (by decide))⟩), (by omega)⟩
  · refine lv_iload_n hx hb dX12_load_9 rfl (lv_at hl 1 rfl) ?_
    refine lv_iconst (v := iv 3) hx hb dX12_load_10 rfl ?_
    refine xb_icmp_gt (tgt := 26) hx hb (by unfold ir; omega) (by unfold ir; omega) dX12_load_11 (by decide) (fun c_11 => ?_) (fun c_11 => ?_)
    · refine lv_sipush (v := iv (-5000)) hx hb dX12_load_26 rfl ?_
      have e_4 : (sv μ 111 0 0).1 111 2 = μ.1 111 2 := (sv_n _ (by decide))
      have e_5 : (sv μ 111 0 0).1 111 4 = μ.1 111 4 := (sv_n _ (by decide))
      have e_6 : (sv μ 111 0 0).1 111 4 = μ.1 111 4 := (sv_n _ (by decide))
      exact xr_i G (x := (-5000)) hret hlk (by unfold ir; omega) rfl dX12_load_29 ⟨(FrM.put FrM.rf (by decide)), (fun j hj => (sv_n _ (fun h9 => hj (by rw [h9.2]; decide)))), (mLI.cg hLI (sv_n _ (by decide)) (sv_n _ (by decide)) (sv_n _ (by decide)) (sv_n _ (by decide)) (fun j => (sv_n _ (by omega))) (fun j => (sv_n _ (by omega))) (fun j => (sv_n _ (by omega))) (fun j => (sv_n _ (by omega))) (fun j => (sv_n _ (by omega))) (fun j => (sv_n _ (by omega))) (fun j => (sv_n _ (by omega))) (fun j => (sv_n _ (by omega)))), (Or.inr ⟨by omega, (sv_n _ (by decide))⟩), (by omega)⟩
    · refine lv_iload_n hx hb dX12_load_14 rfl (lv_at hl 2 rfl) ?_
      refine xb_if_lt (tgt := 26) hx hb (by unfold ir; omega) dX12_load_15 (by decide) (fun c_15 => ?_) (fun c_15 => ?_)
      · refine lv_sipush (v := iv (-5000)) hx hb dX12_load_26 rfl ?_
        have e_7 : (sv μ 111 0 0).1 111 2 = μ.1 111 2 := (sv_n _ (by decide))
        have e_8 : (sv μ 111 0 0).1 111 4 = μ.1 111 4 := (sv_n _ (by decide))
        have e_9 : (sv μ 111 0 0).1 111 4 = μ.1 111 4 := (sv_n _ (by decide))
        exact xr_i G (x := (-5000)) hret hlk (by unfold ir; omega) rfl dX12_load_29 ⟨(FrM.put FrM.rf (by decide)), (fun j hj => (sv_n _ (fun h9 => hj (by rw [h9.2]; decide)))), (mLI.cg hLI (sv_n _ (by decide)) (sv_n _ (by decide)) (sv_n _ (by decide)) (sv_n _ (by decide)) (fun j => (sv_n _ (by omega))) (fun j => (sv_n _ (by omega))) (fun j => (sv_n _ (by omega))) (fun j => (sv_n _ (by omega))) (fun j => (sv_n _ (by omega))) (fun j => (sv_n _ (by omega))) (fun j => (sv_n _ (by omega))) (fun j => (sv_n _ (by omega)))), (Or.inr ⟨by omega, (sv_n _ (by decide))⟩), (by omega)⟩
      · refine lv_iload_n hx hb dX12_load_18 rfl (lv_at hl 2 rfl) ?_
        refine lv_aload_n hx hb dX12_load_19 rfl (lv_at hl 0 rfl) ?_
        refine xa_geti G fd_X12 (a := 111) (x := μ.1 111 2) 2 rfl (by decide) rfl (wm 7 151 rfl rfl) ⟨rfl, rfl, rfl⟩ dX12_load_20 rfl (sv_n _ (by decide)) ?_
        have hr_10 : -2147483648 ≤ μ.1 111 2 ∧ μ.1 111 2 ≤ 2147483647 := by have h9 := G.hr (a := 111) (k := 2) rfl; rw [show (sv μ 111 0 0).1 111 2 = μ.1 111 2 from (sv_n _ (by decide))] at h9; exact h9
        refine xb_icmp_le (tgt := 30) hx hb (by unfold ir; omega) (by unfold ir; omega) dX12_load_23 (by decide) (fun c_23 => ?_) (fun c_23 => ?_)
        · refine lv_aload_n hx hb dX12_load_30 rfl (lv_at hl 0 rfl) ?_
          refine lv_iload_n hx hb dX12_load_31 rfl (lv_at hl 1 rfl) ?_
          refine xa_puti G fd_X12 (a := 111) (x := x1) 14 (kz := 14) rfl rfl (by decide) rfl (by unfold ir; omega) (wm 7 163 rfl rfl) ⟨rfl, rfl, rfl, rfl⟩ rfl dX12_load_32 rfl (fun H locs G => ?_)
          refine lv_aload_n hx hb dX12_load_35 rfl (lv_at hl 0 rfl) ?_
          refine lv_iconst (v := iv 0) hx hb dX12_load_36 rfl ?_
          refine xa_puti G fd_X12 (a := 111) (x := 0) 6 (kz := 6) rfl rfl (by decide) rfl (by unfold ir; omega) (wm 7 155 rfl rfl) ⟨rfl, rfl, rfl, rfl⟩ rfl dX12_load_37 rfl (fun H locs G => ?_)
          refine lv_aload_n hx hb dX12_load_40 rfl (lv_at hl 0 rfl) ?_
          refine lv_iload_n hx hb dX12_load_41 rfl (lv_at hl 2 rfl) ?_
          refine xa_puti G fd_X12 (a := 111) (x := x2) 7 (kz := 7) rfl rfl (by decide) rfl (by unfold ir; omega) (wm 7 156 rfl rfl) ⟨rfl, rfl, rfl, rfl⟩ rfl dX12_load_42 rfl (fun H locs G => ?_)
          refine lv_aload_n hx hb dX12_load_45 rfl (lv_at hl 0 rfl) ?_
          refine lv_iconst (v := iv 0) hx hb dX12_load_46 rfl ?_
          refine xa_puti G fd_X12 (a := 111) (x := 0) 2 (kz := 2) rfl rfl (by decide) rfl (by unfold ir; omega) (wm 7 151 rfl rfl) ⟨rfl, rfl, rfl, rfl⟩ rfl dX12_load_47 rfl (fun H locs G => ?_)
          refine lv_aload_n hx hb dX12_load_50 rfl (lv_at hl 0 rfl) ?_
          refine lv_iconst (v := iv (-1)) hx hb dX12_load_51 rfl ?_
          refine xa_puti G fd_X12 (a := 111) (x := (-1)) 15 (kz := 15) rfl rfl (by decide) rfl (by unfold ir; omega) (wm 7 164 rfl rfl) ⟨rfl, rfl, rfl, rfl⟩ rfl dX12_load_52 rfl (fun H locs G => ?_)
          refine lv_aload_n hx hb dX12_load_55 rfl (lv_at hl 0 rfl) ?_
          refine lv_iconst (v := iv (-1)) hx hb dX12_load_56 rfl ?_
          refine xa_puti G fd_X12 (a := 111) (x := (-1)) 16 (kz := 16) rfl rfl (by decide) rfl (by unfold ir; omega) (wm 7 165 rfl rfl) ⟨rfl, rfl, rfl, rfl⟩ rfl dX12_load_57 rfl (fun H locs G => ?_)
          refine lv_aload_n hx hb dX12_load_60 rfl (lv_at hl 0 rfl) ?_
          refine lv_iconst (v := iv (-1)) hx hb dX12_load_61 rfl ?_
          refine xa_puti G fd_X12 (a := 111) (x := (-1)) 17 (kz := 17) rfl rfl (by decide) rfl (by unfold ir; omega) (wm 7 166 rfl rfl) ⟨rfl, rfl, rfl, rfl⟩ rfl dX12_load_62 rfl (fun H locs G => ?_)
          refine lv_aload_n hx hb dX12_load_65 rfl (lv_at hl 0 rfl) ?_
          refine lv_iconst (v := iv 0) hx hb dX12_load_66 rfl ?_
          refine xa_puti G fd_X12 (a := 111) (x := 0) 18 (kz := 18) rfl rfl (by decide) rfl (by unfold ir; omega) (wm 7 167 rfl rfl) ⟨rfl, rfl, rfl, rfl⟩ rfl dX12_load_67 rfl (fun H locs G => ?_)
          refine lv_aload_n hx hb dX12_load_70 rfl (lv_at hl 0 rfl) ?_
          refine lv_iconst (v := iv 0) hx hb dX12_load_71 rfl ?_
          refine xa_puti G fd_X12 (a := 111) (x := 0) 22 (kz := 22) rfl rfl (by decide) rfl (by unfold ir; omega) (wm 7 171 rfl rfl) ⟨rfl, rfl, rfl, rfl⟩ rfl dX12_load_72 rfl (fun H locs G => ?_)
          refine lv_aload_n hx hb dX12_load_75 rfl (lv_at hl 0 rfl) ?_
          refine lv_iconst (v := iv 0) hx hb dX12_load_76 rfl ?_
          refine xa_puti G fd_X12 (a := 111) (x := 0) 39 (kz := 39) rfl rfl (by decide) rfl (by unfold ir; omega) (wm 7 188 rfl rfl) ⟨rfl, rfl, rfl, rfl⟩ rfl dX12_load_77 rfl (fun H locs G => ?_)
          refine lv_aload_n hx hb dX12_load_80 rfl (lv_at hl 0 rfl) ?_
          refine xa_getr G fd_X12 (a := 111) (x := 122) 27 rfl (by decide) rfl (wm 7 176 rfl rfl) ⟨rfl, rfl, rfl⟩ dX12_load_81 rfl (G.sk 120 rfl) (by decide) rfl ?_
          refine lv_iconst (v := iv 4) hx hb dX12_load_84 rfl ?_
          refine lv_iconst (v := iv 0) hx hb dX12_load_85 rfl ?_
          refine xa_iast G (a := 122) (i := 4) (x := 0) rfl (by have h9 := G.lc (a := 122) (n := 5) 60 rfl; omega) (by unfold ir; omega) dX12_load_86 rfl (fun H locs G => ?_)
          refine lv_aload_n hx hb dX12_load_87 rfl (lv_at hl 0 rfl) ?_
          refine lv_aload_n hx hb dX12_load_88 rfl (lv_at hl 0 rfl) ?_
          refine xa_geti G fd_X12 (a := 111) (x := μ.1 111 4) 4 rfl (by decide) rfl (wm 7 153 rfl rfl) ⟨rfl, rfl, rfl⟩ dX12_load_89 rfl ((sv_n _ (fun h9 => absurd h9.1 (by decide))).trans ((sv_n _ (by decide)).trans ((sv_n _ (by decide)).trans ((sv_n _ (by decide)).trans ((sv_n _ (by decide)).trans ((sv_n _ (by decide)).trans ((sv_n _ (by decide)).trans ((sv_n _ (by decide)).trans ((sv_n _ (by decide)).trans ((sv_n _ (by decide)).trans ((sv_n _ (by decide)).trans (sv_n _ (by decide))))))))))))) ?_
          have hr_11 : -2147483648 ≤ μ.1 111 4 ∧ μ.1 111 4 ≤ 2147483647 := by have h9 := G.hr (a := 111) (k := 4) rfl; rw [show (sv (sv (sv (sv (sv (sv (sv (sv (sv (sv (sv (sv μ 111 0 0) 111 14 x1) 111 6 0) 111 7 x2) 111 2 0) 111 15 (-1)) 111 16 (-1)) 111 17 (-1)) 111 18 0) 111 22 0) 111 39 0) 122 4 0).1 111 4 = μ.1 111 4 from ((sv_n _ (fun h9 => absurd h9.1 (by decide))).trans ((sv_n _ (by decide)).trans ((sv_n _ (by decide)).trans ((sv_n _ (by decide)).trans ((sv_n _ (by decide)).trans ((sv_n _ (by decide)).trans ((sv_n _ (by decide)).trans ((sv_n _ (by decide)).trans ((sv_n _ (by decide)).trans ((sv_n _ (by decide)).trans ((sv_n _ (by decide)).trans (sv_n _ (by decide)))))))))))))] at h9; exact h9
          refine xa_puti G fd_X12 (a := 111) (x := μ.1 111 4) 29 (kz := 29) rfl rfl (by decide) rfl (by unfold ir; omega) (wm 7 178 rfl rfl) ⟨rfl, rfl, rfl, rfl⟩ rfl dX12_load_92 rfl (fun H locs G => ?_)
          refine lv_iconst (v := iv 0) hx hb dX12_load_95 rfl ?_
          refine lv_istore_n (lv' := [(3, .int (iv 0)), (0, .ref (oP ω 111)), (1, .int (iv x1)), (2, .int (iv x2))]) hx hb dX12_load_96 rfl hl (by decide) rfl (fun ls hl => ?_)
          refine xl (fun n_9 μ' ls => ∃ (k9 : Int), (FrM [123] (sv (sv (sv (sv (sv (sv (sv (sv (sv (sv (sv (sv (sv μ 111 0 0) 111 14 x1) 111 6 0) 111 7 x2) 111 2 0) 111 15 (-1)) 111 16 (-1)) 111 17 (-1)) 111 18 0) 111 22 0) 111 39 0) 122 4 0) 111 29 (μ.1 111 4)) μ') ∧ (-2147483648 ≤ k9 ∧ k9 ≤ 2147483647) ∧ (0 ≤ k9 ∧ k9 ≤ 64) ∧ (∀ j, 0 ≤ j → j < k9 → μ'.1 123 j = μ'.1 114 j) ∧ n_9 = Int.toNat (64 - k9) ∧ lv_has ls 4 [(3, .int (iv k9)), (0, .ref (oP ω 111)), (1, .int (iv x1)), (2, .int (iv x2))]) (fun n_9 ρ μL12 d0 H locs ls hI_l G ih => ?_) _ _ _ _ _ _ _ ⟨0, FrM.rf, (by omega), (by omega), (fun j h1 h2 => absurd h1 (by omega)), rfl, lv_sub hl [0, 1, 2, 3] rfl⟩ G
          obtain ⟨k9, FL13, hi_15, hi_16, hi_17, hn14, hl⟩ := hI_l
          refine lv_iload_n hx hb dX12_load_97 rfl (lv_at hl 0 rfl) ?_
          refine lv_bipush (v := iv 64) hx hb dX12_load_98 rfl ?_
          refine xb_icmp_ge (tgt := 121) hx hb (by unfold ir; omega) (by unfold ir; omega) dX12_load_100 (by decide) (fun c_100 => ?_) (fun c_100 => ?_)
          · have h15_ : μL12.1 111 15 = -1 := ((FL13.1 111 (by decide) 15).trans ((sv_n _ (by decide)).trans ((sv_n _ (fun h9 => absurd h9.1 (by decide))).trans ((sv_n _ (by decide)).trans ((sv_n _ (by decide)).trans ((sv_n _ (by decide)).trans ((sv_n _ (by decide)).trans ((sv_n _ (by decide)).trans (sv_s _ _ _ _)))))))))
            have h16_ : μL12.1 111 16 = -1 := ((FL13.1 111 (by decide) 16).trans ((sv_n _ (by decide)).trans ((sv_n _ (fun h9 => absurd h9.1 (by decide))).trans ((sv_n _ (by decide)).trans ((sv_n _ (by decide)).trans ((sv_n _ (by decide)).trans ((sv_n _ (by decide)).trans (sv_s _ _ _ _))))))))
            have h17_ : μL12.1 111 17 = -1 := ((FL13.1 111 (by decide) 17).trans ((sv_n _ (by decide)).trans ((sv_n _ (fun h9 => absurd h9.1 (by decide))).trans ((sv_n _ (by decide)).trans ((sv_n _ (by decide)).trans ((sv_n _ (by decide)).trans (sv_s _ _ _ _)))))))
            have h18_ : μL12.1 111 18 = 0 := ((FL13.1 111 (by decide) 18).trans ((sv_n _ (by decide)).trans ((sv_n _ (fun h9 => absurd h9.1 (by decide))).trans ((sv_n _ (by decide)).trans ((sv_n _ (by decide)).trans (sv_s _ _ _ _))))))
            have hwr_ : wr μL12 = 0 := wr_0.2 h15_
            have hbd_ : bd μL12 = 0 := bd_0.2 ⟨h15_, h16_, h17_⟩
            have hnn_ : nn μL12 = 0 := by unfold nn; rw [if_pos h15_]; exact h18_
            have e_18 : μL12.1 111 4 = μ.1 111 4 := ((FL13.1 111 (by decide) 4).trans ((sv_n _ (by decide)).trans ((sv_n _ (fun h9 => absurd h9.1 (by decide))).trans ((sv_n _ (by decide)).trans ((sv_n _ (by decide)).trans ((sv_n _ (by decide)).trans ((sv_n _ (by decide)).trans ((sv_n _ (by decide)).trans ((sv_n _ (by decide)).trans ((sv_n _ (by decide)).trans ((sv_n _ (by decide)).trans ((sv_n _ (by decide)).trans ((sv_n _ (by decide)).trans (sv_n _ (by decide)))))))))))))))
            have e_19 : μL12.1 111 29 = μ.1 111 4 := ((FL13.1 111 (by decide) 29).trans (sv_s _ _ _ _))
            have hNP_ : NP μL12 := ⟨by omega, by rw [show μL12.1 111 29 = μ.1 111 4 from ((FL13.1 111 (by decide) 29).trans (sv_s _ _ _ _))]; exact NPr.cp hLI.2.1 (by omega) (fun j h1 h2 => ((hi_17 j h1 (by omega)).trans ((FL13.1 114 (by decide) j).trans ((sv_n _ (by omega)).trans ((sv_n _ (by omega)).trans ((sv_n _ (by omega)).trans ((sv_n _ (by omega)).trans ((sv_n _ (by omega)).trans ((sv_n _ (by omega)).trans ((sv_n _ (by omega)).trans ((sv_n _ (by omega)).trans ((sv_n _ (by omega)).trans ((sv_n _ (by omega)).trans ((sv_n _ (by omega)).trans ((sv_n _ (by omega)).trans (sv_n _ (by omega)))))))))))))))))⟩
            refine lv_aload_n hx hb dX12_load_121 rfl (lv_at hl 1 rfl) ?_
            have e_20 : μL12.1 111 6 = 0 := ((FL13.1 111 (by decide) 6).trans ((sv_n _ (by decide)).trans ((sv_n _ (fun h9 => absurd h9.1 (by decide))).trans ((sv_n _ (by decide)).trans ((sv_n _ (by decide)).trans ((sv_n _ (by decide)).trans ((sv_n _ (by decide)).trans ((sv_n _ (by decide)).trans ((sv_n _ (by decide)).trans ((sv_n _ (by decide)).trans ((sv_n _ (by decide)).trans (sv_s _ _ _ _))))))))))))
            have e_21 : μL12.1 111 6 = 0 := ((FL13.1 111 (by decide) 6).trans ((sv_n _ (by decide)).trans ((sv_n _ (fun h9 => absurd h9.1 (by decide))).trans ((sv_n _ (by decide)).trans ((sv_n _ (by decide)).trans ((sv_n _ (by decide)).trans ((sv_n _ (by decide)).trans ((sv_n _ (by decide)).trans ((sv_n _ (by decide)).trans ((sv_n _ (by decide)).trans ((sv_n _ (by decide)).trans (sv_s _ _ _ _))))))))))))
            have e_22 : μL12.1 111 7 = x2 := ((FL13.1 111 (by decide) 7).trans ((sv_n _ (by decide)).trans ((sv_n _ (fun h9 => absurd h9.1 (by decide))).trans ((sv_n _ (by decide)).trans ((sv_n _ (by decide)).trans ((sv_n _ (by decide)).trans ((sv_n _ (by decide)).trans ((sv_n _ (by decide)).trans ((sv_n _ (by decide)).trans ((sv_n _ (by decide)).trans (sv_s _ _ _ _)))))))))))
            have e_23 : μL12.1 111 7 = x2 := ((FL13.1 111 (by decide) 7).trans ((sv_n _ (by decide)).trans ((sv_n _ (fun h9 => absurd h9.1 (by decide))).trans ((sv_n _ (by decide)).trans ((sv_n _ (by decide)).trans ((sv_n _ (by decide)).trans ((sv_n _ (by decide)).trans ((sv_n _ (by decide)).trans ((sv_n _ (by decide)).trans ((sv_n _ (by decide)).trans (sv_s _ _ _ _)))))))))))
            have e_24 : μL12.1 111 14 = x1 := ((FL13.1 111 (by decide) 14).trans ((sv_n _ (by decide)).trans ((sv_n _ (fun h9 => absurd h9.1 (by decide))).trans ((sv_n _ (by decide)).trans ((sv_n _ (by decide)).trans ((sv_n _ (by decide)).trans ((sv_n _ (by decide)).trans ((sv_n _ (by decide)).trans ((sv_n _ (by decide)).trans ((sv_n _ (by decide)).trans ((sv_n _ (by decide)).trans ((sv_n _ (by decide)).trans (sv_s _ _ _ _)))))))))))))
            have e_25 : μL12.1 111 14 = x1 := ((FL13.1 111 (by decide) 14).trans ((sv_n _ (by decide)).trans ((sv_n _ (fun h9 => absurd h9.1 (by decide))).trans ((sv_n _ (by decide)).trans ((sv_n _ (by decide)).trans ((sv_n _ (by decide)).trans ((sv_n _ (by decide)).trans ((sv_n _ (by decide)).trans ((sv_n _ (by decide)).trans ((sv_n _ (by decide)).trans ((sv_n _ (by decide)).trans ((sv_n _ (by decide)).trans (sv_s _ _ _ _)))))))))))))
            have e_26 : μL12.1 111 11 = μ.1 111 11 := ((FL13.1 111 (by decide) 11).trans ((sv_n _ (by decide)).trans ((sv_n _ (fun h9 => absurd h9.1 (by decide))).trans ((sv_n _ (by decide)).trans ((sv_n _ (by decide)).trans ((sv_n _ (by decide)).trans ((sv_n _ (by decide)).trans ((sv_n _ (by decide)).trans ((sv_n _ (by decide)).trans ((sv_n _ (by decide)).trans ((sv_n _ (by decide)).trans ((sv_n _ (by decide)).trans ((sv_n _ (by decide)).trans (sv_n _ (by decide)))))))))))))))
            have e_27 : μL12.1 111 11 = μ.1 111 11 := ((FL13.1 111 (by decide) 11).trans ((sv_n _ (by decide)).trans ((sv_n _ (fun h9 => absurd h9.1 (by decide))).trans ((sv_n _ (by decide)).trans ((sv_n _ (by decide)).trans ((sv_n _ (by decide)).trans ((sv_n _ (by decide)).trans ((sv_n _ (by decide)).trans ((sv_n _ (by decide)).trans ((sv_n _ (by decide)).trans ((sv_n _ (by decide)).trans ((sv_n _ (by decide)).trans ((sv_n _ (by decide)).trans (sv_n _ (by decide)))))))))))))))
            have e_28 : wr μL12 = wr (sv (sv (sv (sv (sv (sv μ 111 0 0) 111 14 x1) 111 6 0) 111 7 x2) 111 2 0) 111 15 (-1)) := ((wr_cg (FL13.1 111 (by decide) 15)).trans ((wr_cg (sv_n _ (by decide))).trans ((wr_cg (sv_n _ (fun h9 => absurd h9.1 (by decide)))).trans ((wr_cg (sv_n _ (by decide))).trans ((wr_cg (sv_n _ (by decide))).trans ((wr_cg (sv_n _ (by decide))).trans ((wr_cg (sv_n _ (by decide))).trans (wr_cg (sv_n _ (by decide))))))))))
            have hw_29 := wr_r (μ := (sv (sv (sv (sv (sv (sv μ 111 0 0) 111 14 x1) 111 6 0) 111 7 x2) 111 2 0) 111 15 (-1)))
            have e_30 : bd μL12 = bd (sv (sv (sv (sv (sv (sv (sv (sv μ 111 0 0) 111 14 x1) 111 6 0) 111 7 x2) 111 2 0) 111 15 (-1)) 111 16 (-1)) 111 17 (-1)) := ((bd_cg (FL13.1 111 (by decide) 15) (FL13.1 111 (by decide) 16) (FL13.1 111 (by decide) 17)).trans ((bd_cg (sv_n _ (by decide)) (sv_n _ (by decide)) (sv_n _ (by decide))).trans ((bd_cg (sv_n _ (fun h9 => absurd h9.1 (by decide))) (sv_n _ (fun h9 => absurd h9.1 (by decide))) (sv_n _ (fun h9 => absurd h9.1 (by decide)))).trans ((bd_cg (sv_n _ (by decide)) (sv_n _ (by decide)) (sv_n _ (by decide))).trans ((bd_cg (sv_n _ (by decide)) (sv_n _ (by decide)) (sv_n _ (by decide))).trans (bd_cg (sv_n _ (by decide)) (sv_n _ (by decide)) (sv_n _ (by decide))))))))
            have hw_31 := wr_r (μ := (sv (sv (sv (sv (sv (sv (sv (sv μ 111 0 0) 111 14 x1) 111 6 0) 111 7 x2) 111 2 0) 111 15 (-1)) 111 16 (-1)) 111 17 (-1)))
            have e_32 : nn μL12 = nn (sv (sv (sv (sv (sv (sv (sv (sv (sv μ 111 0 0) 111 14 x1) 111 6 0) 111 7 x2) 111 2 0) 111 15 (-1)) 111 16 (-1)) 111 17 (-1)) 111 18 0) := ((nn_cg (FL13.1 111 (by decide) 15) (FL13.1 111 (by decide) 18)).trans ((nn_cg (sv_n _ (by decide)) (sv_n _ (by decide))).trans ((nn_cg (sv_n _ (fun h9 => absurd h9.1 (by decide))) (sv_n _ (fun h9 => absurd h9.1 (by decide)))).trans ((nn_cg (sv_n _ (by decide)) (sv_n _ (by decide))).trans (nn_cg (sv_n _ (by decide)) (sv_n _ (by decide)))))))
            refine xc_vV G (b := 111) (rest := []) (As := []) (c_X12_next_b ω l μL12  (by omega) (by omega) (by omega) (by omega) (by omega) hNP_ hwr_) (wm 9 0 rfl rfl) (wm 9 2 rfl rfl) (wm 0 119 rfl rfl) rfl rfl (by decide) rfl (wm 1 18 rfl rfl) (wm 9 3 rfl rfl) (by decide) hR (by decide) (n := 0) rfl rfl (Nat.le_of_ble_eq_true rfl) hl.1 dX12_load_122 (fun μ33 ρ d0 H locs hp G => ?_)
            obtain ⟨F_34, hp_35, hp_36, hp_37, hp_38⟩ := hp
            have hpl_39 := hp_36.pl
            have hw_40 := wr_r (μ := μL12)
            have hw_41 := wr_r (μ := μ33)
            refine lv_aload_n hx hb dX12_load_125 rfl (lv_at hl 1 rfl) ?_
            have e_42 : μ33.1 122 4 = 0 := ((F_34.1 122 (by decide) 4).trans ((FL13.1 122 (by decide) 4).trans ((sv_n _ (fun h9 => absurd h9.1 (by decide))).trans (sv_s _ _ _ _))))
            have e_43 : μ33.1 111 22 = 0 := ((hp_35 22 (by decide)).trans ((FL13.1 111 (by decide) 22).trans ((sv_n _ (by decide)).trans ((sv_n _ (fun h9 => absurd h9.1 (by decide))).trans ((sv_n _ (by decide)).trans (sv_s _ _ _ _))))))
            have e_44 : μ33.1 111 39 = 0 := ((hp_35 39 (by decide)).trans ((FL13.1 111 (by decide) 39).trans ((sv_n _ (by decide)).trans ((sv_n _ (fun h9 => absurd h9.1 (by decide))).trans (sv_s _ _ _ _)))))
            have e_45 : μ33.1 111 31 = μ.1 111 31 := ((hp_35 31 (by decide)).trans ((FL13.1 111 (by decide) 31).trans ((sv_n _ (by decide)).trans ((sv_n _ (fun h9 => absurd h9.1 (by decide))).trans ((sv_n _ (by decide)).trans ((sv_n _ (by decide)).trans ((sv_n _ (by decide)).trans ((sv_n _ (by decide)).trans ((sv_n _ (by decide)).trans ((sv_n _ (by decide)).trans ((sv_n _ (by decide)).trans ((sv_n _ (by decide)).trans ((sv_n _ (by decide)).trans ((sv_n _ (by decide)).trans (sv_n _ (by decide))))))))))))))))
            have e_46 : μ33.1 111 14 = x1 := ((hp_35 14 (by decide)).trans ((FL13.1 111 (by decide) 14).trans ((sv_n _ (by decide)).trans ((sv_n _ (fun h9 => absurd h9.1 (by decide))).trans ((sv_n _ (by decide)).trans ((sv_n _ (by decide)).trans ((sv_n _ (by decide)).trans ((sv_n _ (by decide)).trans ((sv_n _ (by decide)).trans ((sv_n _ (by decide)).trans ((sv_n _ (by decide)).trans ((sv_n _ (by decide)).trans ((sv_n _ (by decide)).trans (sv_s _ _ _ _))))))))))))))
            have e_47 : μ33.1 111 22 = 0 := ((hp_35 22 (by decide)).trans ((FL13.1 111 (by decide) 22).trans ((sv_n _ (by decide)).trans ((sv_n _ (fun h9 => absurd h9.1 (by decide))).trans ((sv_n _ (by decide)).trans (sv_s _ _ _ _))))))
            have e_48 : μ33.1 111 22 = 0 := ((hp_35 22 (by decide)).trans ((FL13.1 111 (by decide) 22).trans ((sv_n _ (by decide)).trans ((sv_n _ (fun h9 => absurd h9.1 (by decide))).trans ((sv_n _ (by decide)).trans (sv_s _ _ _ _))))))
            have e_49 : μ33.1 111 39 = 0 := ((hp_35 39 (by decide)).trans ((FL13.1 111 (by decide) 39).trans ((sv_n _ (by decide)).trans ((sv_n _ (fun h9 => absurd h9.1 (by decide))).trans (sv_s _ _ _ _)))))
            have e_50 : μ33.1 111 39 = 0 := ((hp_35 39 (by decide)).trans ((FL13.1 111 (by decide) 39).trans ((sv_n _ (by decide)).trans ((sv_n _ (fun h9 => absurd h9.1 (by decide))).trans (sv_s _ _ _ _)))))
            have e_51 : μ33.1 111 22 = 0 := ((hp_35 22 (by decide)).trans ((FL13.1 111 (by decide) 22).trans ((sv_n _ (by decide)).trans ((sv_n _ (fun h9 => absurd h9.1 (by decide))).trans ((sv_n _ (by decide)).trans (sv_s _ _ _ _))))))
            have e_52 : μ33.1 111 31 = μ.1 111 31 := ((hp_35 31 (by decide)).trans ((FL13.1 111 (by decide) 31).trans ((sv_n _ (by decide)).trans ((sv_n _ (fun h9 => absurd h9.1 (by decide))).trans ((sv_n _ (by decide)).trans ((sv_n _ (by decide)).trans ((sv_n _ (by decide)).trans ((sv_n _ (by decide)).trans ((sv_n _ (by decide)).trans ((sv_n _ (by decide)).trans ((sv_n _ (by decide)).trans ((sv_n _ (by decide)).trans ((sv_n _ (by decide)).trans ((sv_n _ (by decide)).trans (sv_n _ (by decide))))))))))))))))
            have e_53 : μ33.1 111 31 = μ.1 111 31 := ((hp_35 31 (by decide)).trans ((FL13.1 111 (by decide) 31).trans ((sv_n _ (by decide)).trans ((sv_n _ (fun h9 => absurd h9.1 (by decide))).trans ((sv_n _ (by decide)).trans ((sv_n _ (by decide)).trans ((sv_n _ (by decide)).trans ((sv_n _ (by decide)).trans ((sv_n _ (by decide)).trans ((sv_n _ (by decide)).trans ((sv_n _ (by decide)).trans ((sv_n _ (by decide)).trans ((sv_n _ (by decide)).trans ((sv_n _ (by decide)).trans (sv_n _ (by decide))))))))))))))))
            have e_54 : μ33.1 122 4 = 0 := ((F_34.1 122 (by decide) 4).trans ((FL13.1 122 (by decide) 4).trans ((sv_n _ (fun h9 => absurd h9.1 (by decide))).trans (sv_s _ _ _ _))))
            have e_55 : μ33.1 122 4 = 0 := ((F_34.1 122 (by decide) 4).trans ((FL13.1 122 (by decide) 4).trans ((sv_n _ (fun h9 => absurd h9.1 (by decide))).trans (sv_s _ _ _ _))))
            have e_56 : μ33.1 111 22 = 0 := ((hp_35 22 (by decide)).trans ((FL13.1 111 (by decide) 22).trans ((sv_n _ (by decide)).trans ((sv_n _ (fun h9 => absurd h9.1 (by decide))).trans ((sv_n _ (by decide)).trans (sv_s _ _ _ _))))))
            have e_57 : μ33.1 111 29 = μ.1 111 4 := ((hp_35 29 (by decide)).trans ((FL13.1 111 (by decide) 29).trans (sv_s _ _ _ _)))
            have e_58 : μ33.1 111 39 = 0 := ((hp_35 39 (by decide)).trans ((FL13.1 111 (by decide) 39).trans ((sv_n _ (by decide)).trans ((sv_n _ (fun h9 => absurd h9.1 (by decide))).trans (sv_s _ _ _ _)))))
            refine xc_vV G (b := 111) (rest := []) (As := []) (c_X12_text ω l μ33 x1 (by omega) hp_36 (by omega) (by omega) (by omega) (by omega) (by omega) (by omega) (by omega) (fun _ _ => mFN.nil ((hp_35 22 (by decide)).trans ((FL13.1 111 (by decide) 22).trans ((sv_n _ (by decide)).trans ((sv_n _ (fun h9 => absurd h9.1 (by decide))).trans ((sv_n _ (by decide)).trans (sv_s _ _ _ _)))))) ((F_34.1 122 (by decide) 4).trans ((FL13.1 122 (by decide) 4).trans ((sv_n _ (fun h9 => absurd h9.1 (by decide))).trans (sv_s _ _ _ _)))))) (wm 9 58 rfl rfl) (wm 9 60 rfl rfl) (wm 0 127 rfl rfl) rfl rfl (by decide) rfl (wm 1 18 rfl rfl) (wm 9 61 rfl rfl) (by decide) hR (by decide) (n := 0) rfl rfl (Nat.le_of_ble_eq_true rfl) hl.1 dX12_load_126 (fun μ59 ρ d0 H locs hp G => ?_)
            obtain ⟨F_60, hp_61, hp_62, hp_63, hp_64, hp_65, hp_66, hp_67, hp_68, hp_69, hp_70, hp_71, hp_72, hp_73, hp_74, hp_75, hp_76⟩ := hp
            have hpl_77 := hp_62.pl
            have hw_78 := wr_r (μ := μ59)
            have hlo_79 := hp_72.lo (Int.le_of_eq (((hp_35 22 (by decide)).trans ((FL13.1 111 (by decide) 22).trans ((sv_n _ (by decide)).trans ((sv_n _ (fun h9 => absurd h9.1 (by decide))).trans ((sv_n _ (by decide)).trans (sv_s _ _ _ _))))))).symm)
            have hpm9_ := hp_62.1.2.2.2.2.1
            have hpn9_ := hp_62.2.1
            have hpl9_ := hp_62.pl
            refine lv_aload_n hx hb dX12_load_129 rfl (lv_at hl 1 rfl) ?_
            refine lv_aload_n hx hb dX12_load_130 rfl (lv_at hl 1 rfl) ?_
            refine xa_geti G fd_X12 (a := 111) (x := μ59.1 111 15) 15 rfl (by decide) rfl (wm 7 164 rfl rfl) ⟨rfl, rfl, rfl⟩ dX12_load_131 rfl rfl ?_
            have hr_80 : -2147483648 ≤ μ59.1 111 15 ∧ μ59.1 111 15 ≤ 2147483647 := by have h9 := G.hr (a := 111) (k := 15) rfl; exact h9
            refine lv_iconst (v := iv (-1)) hx hb dX12_load_134 rfl ?_
            refine xb_icmp_eq (tgt := 142) hx hb (by unfold ir; omega) (by unfold ir; omega) dX12_load_135 (by decide) (fun c_135 => ?_) (fun c_135 => ?_)
            · refine lv_aload_n hx hb dX12_load_142 rfl (lv_at hl 1 rfl) ?_
              refine xa_geti G fd_X12 (a := 111) (x := μ59.1 111 16) 16 rfl (by decide) rfl (wm 7 165 rfl rfl) ⟨rfl, rfl, rfl⟩ dX12_load_143 rfl rfl ?_
              have hr_81 : -2147483648 ≤ μ59.1 111 16 ∧ μ59.1 111 16 ≤ 2147483647 := by have h9 := G.hr (a := 111) (k := 16) rfl; exact h9
              refine lv_iconst (v := iv (-1)) hx hb dX12_load_146 rfl ?_
              refine xb_icmp_eq (tgt := 154) hx hb (by unfold ir; omega) (by unfold ir; omega) dX12_load_147 (by decide) (fun c_147 => ?_) (fun c_147 => ?_)
              · refine lv_aload_n hx hb dX12_load_154 rfl (lv_at hl 1 rfl) ?_
                refine xa_geti G fd_X12 (a := 111) (x := μ59.1 111 17) 17 rfl (by decide) rfl (wm 7 166 rfl rfl) ⟨rfl, rfl, rfl⟩ dX12_load_155 rfl rfl ?_
                have hr_82 : -2147483648 ≤ μ59.1 111 17 ∧ μ59.1 111 17 ≤ 2147483647 := by have h9 := G.hr (a := 111) (k := 17) rfl; exact h9
                refine lv_iconst (v := iv (-1)) hx hb dX12_load_158 rfl ?_
                refine xb_icmp_eq (tgt := 166) hx hb (by unfold ir; omega) (by unfold ir; omega) dX12_load_159 (by decide) (fun c_159 => ?_) (fun c_159 => ?_)
                · refine lv_iconst (v := iv 0) hx hb dX12_load_166 rfl ?_
                  refine xa_puti G fd_X12 (a := 111) (x := 0) 40 (kz := 40) rfl rfl (by decide) rfl (by unfold ir; omega) (wm 7 189 rfl rfl) ⟨rfl, rfl, rfl, rfl⟩ rfl dX12_load_167 rfl (fun H locs G => ?_)
                  refine lv_aload_n hx hb dX12_load_170 rfl (lv_at hl 1 rfl) ?_
                  refine xa_geti G fd_X12 (a := 111) (x := 0) 40 rfl (by decide) rfl (wm 7 189 rfl rfl) ⟨rfl, rfl, rfl⟩ dX12_load_171 rfl (sv_s _ _ _ _) ?_
                  refine xb_if_le (tgt := 214) hx hb (x := 0) (by unfold ir; omega) dX12_load_174 (by decide) (fun c_174 => ?_) (fun c_174 => absurd (by decide) c_174)
                  have hb9_ : bd μ59 = 0 := bd_0.2 ⟨by omega, by omega, by omega⟩
                  have hfn_ := hp_71 () hb9_
                  have hf4_ := hfn_.2.1
                  have hcd_ : 0 ≤ μ59.1 111 22 ∧ μ59.1 111 22 ≤ 8990 := by have h9 := wr_r (μ := μ59); omega
                  refine lv_aload_n hx hb dX12_load_214 rfl (lv_at hl 1 rfl) ?_
                  refine lv_aload_n hx hb dX12_load_215 rfl (lv_at hl 1 rfl) ?_
                  refine xa_geti G fd_X12 (a := 111) (x := μ59.1 111 29) 29 rfl (by decide) rfl (wm 7 178 rfl rfl) ⟨rfl, rfl, rfl⟩ dX12_load_216 rfl (sv_n _ (by decide)) ?_
                  have hr_83 : -2147483648 ≤ μ59.1 111 29 ∧ μ59.1 111 29 ≤ 2147483647 := by have h9 := G.hr (a := 111) (k := 29) rfl; rw [show (sv μ59 111 40 0).1 111 29 = μ59.1 111 29 from (sv_n _ (by decide))] at h9; exact h9
                  refine xa_puti G fd_X12 (a := 111) (x := μ59.1 111 29) 4 (kz := 4) rfl rfl (by decide) rfl (by unfold ir; omega) (wm 7 153 rfl rfl) ⟨rfl, rfl, rfl, rfl⟩ rfl dX12_load_219 rfl (fun H locs G => ?_)
                  refine lv_iconst (v := iv 0) hx hb dX12_load_222 rfl ?_
                  refine lv_istore_n (lv' := [(3, .int (iv 0)), (0, .ref (oP ω 111)), (1, .int (iv x1)), (2, .int (iv x2))]) hx hb dX12_load_223 rfl hl (by decide) rfl (fun ls hl => ?_)
                  refine xl (fun n_9 μ' ls => ∃ (k9 : Int), (FrM [114] (sv (sv μ59 111 40 0) 111 4 (μ59.1 111 29)) μ') ∧ (-2147483648 ≤ k9 ∧ k9 ≤ 2147483647) ∧ (0 ≤ k9 ∧ k9 ≤ 64) ∧ (∀ j, 0 ≤ j → j < k9 → μ'.1 114 j = μ'.1 123 j) ∧ n_9 = Int.toNat (64 - k9) ∧ lv_has ls 4 [(3, .int (iv k9)), (0, .ref (oP ω 111)), (1, .int (iv x1)), (2, .int (iv x2))]) (fun n_9 ρ μL84 d0 H locs ls hI_l G ih => ?_) _ _ _ _ _ _ _ ⟨0, FrM.rf, (by omega), (by omega), (fun j h1 h2 => absurd h1 (by omega)), rfl, lv_sub hl [0, 1, 2, 3] rfl⟩ G
                  obtain ⟨k9, FL85, hi_87, hi_88, hi_89, hn86, hl⟩ := hI_l
                  refine lv_iload_n hx hb dX12_load_224 rfl (lv_at hl 0 rfl) ?_
                  refine lv_bipush (v := iv 64) hx hb dX12_load_225 rfl ?_
                  refine xb_icmp_ge (tgt := 248) hx hb (by unfold ir; omega) (by unfold ir; omega) dX12_load_227 (by decide) (fun c_227 => ?_) (fun c_227 => ?_)
                  · refine lv_iconst (v := iv 0) hx hb dX12_load_248 rfl ?_
                    refine lv_istore_n (lv' := [(3, .int (iv 0)), (0, .ref (oP ω 111)), (1, .int (iv x1)), (2, .int (iv x2))]) hx hb dX12_load_249 rfl hl (by decide) rfl (fun ls hl => ?_)
                    refine xl (fun n_9 μ' ls => ∃ (k9 : Int), (FrM [115, 116, 117] μL84 μ') ∧ (-2147483648 ≤ k9 ∧ k9 ≤ 2147483647) ∧ (0 ≤ k9 ∧ k9 ≤ 8990) ∧ (∀ j, 0 ≤ j → j < k9 → μ'.1 115 (9000 * x1 + j) = μ'.1 115 (36000 + j)) ∧ (∀ j, (j < 9000 * x1 ∨ 9000 * x1 + 9000 ≤ j) → μ'.1 115 j = μL84.1 115 j) ∧ (∀ j, 0 ≤ j → j < k9 → μ'.1 116 (9000 * x1 + j) = μ'.1 116 (36000 + j)) ∧ (∀ j, (j < 9000 * x1 ∨ 9000 * x1 + 9000 ≤ j) → μ'.1 116 j = μL84.1 116 j) ∧ (∀ j, 0 ≤ j → j < k9 → μ'.1 117 (9000 * x1 + j) = μ'.1 117 (36000 + j)) ∧ (∀ j, (j < 9000 * x1 ∨ 9000 * x1 + 9000 ≤ j) → μ'.1 117 j = μL84.1 117 j) ∧ n_9 = Int.toNat (9000 - k9) ∧ lv_has ls 4 [(3, .int (iv k9)), (0, .ref (oP ω 111)), (1, .int (iv x1)), (2, .int (iv x2))]) (fun n_9 ρ μL90 d0 H locs ls hI_l G ih => ?_) _ _ _ _ _ _ _ ⟨0, FrM.rf, (by omega), (by omega), (fun j h1 h2 => absurd h1 (by omega)), (fun j hj => rfl), (fun j h1 h2 => absurd h1 (by omega)), (fun j hj => rfl), (fun j h1 h2 => absurd h1 (by omega)), (fun j hj => rfl), rfl, lv_sub hl [0, 1, 2, 3] rfl⟩ G
                    obtain ⟨k9, FL91, hi_93, hi_94, hi_95, hi_96, hi_97, hi_98, hi_99, hi_100, hn92, hl⟩ := hI_l
                    refine lv_iload_n hx hb dX12_load_250 rfl (lv_at hl 0 rfl) ?_
                    refine lv_aload_n hx hb dX12_load_251 rfl (lv_at hl 1 rfl) ?_
                    refine xa_geti G fd_X12 (a := 111) (x := μ59.1 111 22) 22 rfl (by decide) rfl (wm 7 171 rfl rfl) ⟨rfl, rfl, rfl⟩ dX12_load_252 rfl ((FL91.1 111 (by decide) 22).trans ((FL85.1 111 (by decide) 22).trans ((sv_n _ (by decide)).trans (sv_n _ (by decide))))) ?_
                    have hr_101 : -2147483648 ≤ μ59.1 111 22 ∧ μ59.1 111 22 ≤ 2147483647 := by have h9 := G.hr (a := 111) (k := 22) rfl; rw [show μL90.1 111 22 = μ59.1 111 22 from ((FL91.1 111 (by decide) 22).trans ((FL85.1 111 (by decide) 22).trans ((sv_n _ (by decide)).trans (sv_n _ (by decide)))))] at h9; exact h9
                    refine xb_icmp_ge (tgt := 330) hx hb (by unfold ir; omega) (by unfold ir; omega) dX12_load_255 (by decide) (fun c_255 => ?_) (fun c_255 => ?_)
                    · refine lv_iconst (v := iv 0) hx hb dX12_load_330 rfl ?_
                      refine lv_istore_n (lv' := [(3, .int (iv 0)), (0, .ref (oP ω 111)), (1, .int (iv x1)), (2, .int (iv x2))]) hx hb dX12_load_331 rfl hl (by decide) rfl (fun ls hl => ?_)
                      refine xl (fun n_9 μ' ls => ∃ (k9 : Int), (FrM [118, 119, 120, 121] μL90 μ') ∧ (-2147483648 ≤ k9 ∧ k9 ≤ 2147483647) ∧ (0 ≤ k9 ∧ k9 ≤ 40) ∧ (∀ j, 0 ≤ j → j < k9 → μ'.1 118 (40 * x1 + j) = μ'.1 118 (160 + j)) ∧ (∀ j, (j < 40 * x1 ∨ 40 * x1 + 40 ≤ j) → μ'.1 118 j = μL90.1 118 j) ∧ (∀ j, 0 ≤ j → j < k9 → μ'.1 119 (40 * x1 + j) = μ'.1 119 (160 + j)) ∧ (∀ j, (j < 40 * x1 ∨ 40 * x1 + 40 ≤ j) → μ'.1 119 j = μL90.1 119 j) ∧ (∀ j, 0 ≤ j → j < k9 → μ'.1 120 (40 * x1 + j) = μ'.1 120 (160 + j)) ∧ (∀ j, (j < 40 * x1 ∨ 40 * x1 + 40 ≤ j) → μ'.1 120 j = μL90.1 120 j) ∧ (∀ j, 0 ≤ j → j < k9 → μ'.1 121 (40 * x1 + j) = μ'.1 121 (160 + j)) ∧ (∀ j, (j < 40 * x1 ∨ 40 * x1 + 40 ≤ j) → μ'.1 121 j = μL90.1 121 j) ∧ n_9 = Int.toNat (40 - k9) ∧ lv_has ls 4 [(3, .int (iv k9)), (0, .ref (oP ω 111)), (1, .int (iv x1)), (2, .int (iv x2))]) (fun n_9 ρ μL102 d0 H locs ls hI_l G ih => ?_) _ _ _ _ _ _ _ ⟨0, FrM.rf, (by omega), (by omega), (fun j h1 h2 => absurd h1 (by omega)), (fun j hj => rfl), (fun j h1 h2 => absurd h1 (by omega)), (fun j hj => rfl), (fun j h1 h2 => absurd h1 (by omega)), (fun j hj => rfl), (fun j h1 h2 => absurd h1 (by omega)), (fun j hj => rfl), rfl, lv_sub hl [0, 1, 2, 3] rfl⟩ G
                      obtain ⟨k9, FL103, hi_105, hi_106, hi_107, hi_108, hi_109, hi_110, hi_111, hi_112, hi_113, hi_114, hn104, hl⟩ := hI_l
                      refine lv_iload_n hx hb dX12_load_332 rfl (lv_at hl 0 rfl) ?_
                      refine lv_aload_n hx hb dX12_load_333 rfl (lv_at hl 1 rfl) ?_
                      refine xa_getr G fd_X12 (a := 111) (x := 122) 27 rfl (by decide) rfl (wm 7 176 rfl rfl) ⟨rfl, rfl, rfl⟩ dX12_load_334 rfl (G.sk 120 rfl) (by decide) rfl ?_
                      refine lv_iconst (v := iv 4) hx hb dX12_load_337 rfl ?_
                      refine xa_iald G (a := 122) (i := 4) rfl (by have h9 := G.lc (a := 122) (n := 5) 60 rfl; omega) dX12_load_338 rfl ?_
                      refine xb_ti (y := μ59.1 122 4) ((FL103.1 122 (by decide) 4).trans ((FL91.1 122 (by decide) 4).trans ((FL85.1 122 (by decide) 4).trans ((sv_n _ (fun h9 => absurd h9.1 (by decide))).trans (sv_n _ (fun h9 => absurd h9.1 (by decide))))))) ?_
                      have hr_115 : -2147483648 ≤ μ59.1 122 4 ∧ μ59.1 122 4 ≤ 2147483647 := by have h9 := G.hr (a := 122) (k := 4) rfl; rw [((FL103.1 122 (by decide) 4).trans ((FL91.1 122 (by decide) 4).trans ((FL85.1 122 (by decide) 4).trans ((sv_n _ (fun h9 => absurd h9.1 (by decide))).trans (sv_n _ (fun h9 => absurd h9.1 (by decide)))))))] at h9; exact h9
                      refine xb_icmp_ge (tgt := 432) hx hb (by unfold ir; omega) (by unfold ir; omega) dX12_load_339 (by decide) (fun c_339 => ?_) (fun c_339 => ?_)
                      · refine lv_aload_n hx hb dX12_load_432 rfl (lv_at hl 1 rfl) ?_
                        refine xa_getr G fd_X12 (a := 111) (x := 122) 27 rfl (by decide) rfl (wm 7 176 rfl rfl) ⟨rfl, rfl, rfl⟩ dX12_load_433 rfl (G.sk 120 rfl) (by decide) rfl ?_
                        refine lv_iload_n hx hb dX12_load_436 rfl (lv_at hl 2 rfl) ?_
                        refine lv_aload_n hx hb dX12_load_437 rfl (lv_at hl 1 rfl) ?_
                        refine xa_getr G fd_X12 (a := 111) (x := 122) 27 rfl (by decide) rfl (wm 7 176 rfl rfl) ⟨rfl, rfl, rfl⟩ dX12_load_438 rfl (G.sk 120 rfl) (by decide) rfl ?_
                        refine lv_iconst (v := iv 4) hx hb dX12_load_441 rfl ?_
                        refine xa_iald G (a := 122) (i := 4) rfl (by have h9 := G.lc (a := 122) (n := 5) 60 rfl; omega) dX12_load_442 rfl ?_
                        refine xb_ti (y := μ59.1 122 4) ((FL103.1 122 (by decide) 4).trans ((FL91.1 122 (by decide) 4).trans ((FL85.1 122 (by decide) 4).trans ((sv_n _ (fun h9 => absurd h9.1 (by decide))).trans (sv_n _ (fun h9 => absurd h9.1 (by decide))))))) ?_
                        refine xa_iast G (a := 122) (i := x1) (x := μ59.1 122 4) rfl (by have h9 := G.lc (a := 122) (n := 5) 60 rfl; omega) (by unfold ir; omega) dX12_load_443 rfl (fun H locs G => ?_)
                        refine lv_aload_n hx hb dX12_load_444 rfl (lv_at hl 1 rfl) ?_
                        refine xa_getr G fd_X12 (a := 111) (x := 122) 27 rfl (by decide) rfl (wm 7 176 rfl rfl) ⟨rfl, rfl, rfl⟩ dX12_load_445 rfl (G.sk 120 rfl) (by decide) rfl ?_
                        refine lv_iload_n hx hb dX12_load_448 rfl (lv_at hl 2 rfl) ?_
                        refine xa_iald G (a := 122) (i := x1) rfl (by have h9 := G.lc (a := 122) (n := 5) 60 rfl; omega) dX12_load_449 rfl ?_
                        refine xb_ti (y := μ59.1 122 4) (sv_s _ _ _ _) ?_
                        have e_116 : (sv μL102 122 x1 (μ59.1 122 4)).1 111 2 = 0 := ((sv_n _ (fun h9 => absurd h9.1 (by decide))).trans ((FL103.1 111 (by decide) 2).trans ((FL91.1 111 (by decide) 2).trans ((FL85.1 111 (by decide) 2).trans ((sv_n _ (by decide)).trans ((sv_n _ (by decide)).trans ((hp_61 2 (by decide)).trans ((hp_35 2 (by decide)).trans ((FL13.1 111 (by decide) 2).trans ((sv_n _ (by decide)).trans ((sv_n _ (fun h9 => absurd h9.1 (by decide))).trans ((sv_n _ (by decide)).trans ((sv_n _ (by decide)).trans ((sv_n _ (by decide)).trans ((sv_n _ (by decide)).trans ((sv_n _ (by decide)).trans ((sv_n _ (by decide)).trans (sv_s _ _ _ _))))))))))))))))))
                        have e_117 : (sv μL102 122 x1 (μ59.1 122 4)).1 111 4 = μ59.1 111 29 := ((sv_n _ (fun h9 => absurd h9.1 (by decide))).trans ((FL103.1 111 (by decide) 4).trans ((FL91.1 111 (by decide) 4).trans ((FL85.1 111 (by decide) 4).trans (sv_s _ _ _ _)))))
                        have e_118 : (sv μL102 122 x1 (μ59.1 122 4)).1 111 4 = μ59.1 111 29 := ((sv_n _ (fun h9 => absurd h9.1 (by decide))).trans ((FL103.1 111 (by decide) 4).trans ((FL91.1 111 (by decide) 4).trans ((FL85.1 111 (by decide) 4).trans (sv_s _ _ _ _)))))
                        have e_119 : (sv μL102 122 x1 (μ59.1 122 4)).1 111 31 = μ59.1 111 31 := ((sv_n _ (fun h9 => absurd h9.1 (by decide))).trans ((FL103.1 111 (by decide) 31).trans ((FL91.1 111 (by decide) 31).trans ((FL85.1 111 (by decide) 31).trans ((sv_n _ (by decide)).trans (sv_n _ (by decide)))))))
                        have e_120 : (sv μL102 122 x1 (μ59.1 122 4)).1 111 11 = μ59.1 111 11 := ((sv_n _ (fun h9 => absurd h9.1 (by decide))).trans ((FL103.1 111 (by decide) 11).trans ((FL91.1 111 (by decide) 11).trans ((FL85.1 111 (by decide) 11).trans ((sv_n _ (by decide)).trans (sv_n _ (by decide)))))))
                        have e_121 : (sv μL102 122 x1 (μ59.1 122 4)).1 111 2 = 0 := ((sv_n _ (fun h9 => absurd h9.1 (by decide))).trans ((FL103.1 111 (by decide) 2).trans ((FL91.1 111 (by decide) 2).trans ((FL85.1 111 (by decide) 2).trans ((sv_n _ (by decide)).trans ((sv_n _ (by decide)).trans ((hp_61 2 (by decide)).trans ((hp_35 2 (by decide)).trans ((FL13.1 111 (by decide) 2).trans ((sv_n _ (by decide)).trans ((sv_n _ (fun h9 => absurd h9.1 (by decide))).trans ((sv_n _ (by decide)).trans ((sv_n _ (by decide)).trans ((sv_n _ (by decide)).trans ((sv_n _ (by decide)).trans ((sv_n _ (by decide)).trans ((sv_n _ (by decide)).trans (sv_s _ _ _ _))))))))))))))))))
                        have e_122 : (sv μL102 122 x1 (μ59.1 122 4)).1 111 4 = μ59.1 111 29 := ((sv_n _ (fun h9 => absurd h9.1 (by decide))).trans ((FL103.1 111 (by decide) 4).trans ((FL91.1 111 (by decide) 4).trans ((FL85.1 111 (by decide) 4).trans (sv_s _ _ _ _)))))
                        exact xr_i G (x := μ59.1 122 4) hret hlk (by unfold ir; omega) rfl dX12_load_450 ⟨(FrM.put (FrM.tr (FrM.tr (FrM.tr (FrM.put (FrM.put (FrM.tr (FrM.tr (FrM.tr (FrM.put (FrM.put (FrM.put (FrM.put (FrM.put (FrM.put (FrM.put (FrM.put (FrM.put (FrM.put (FrM.put (FrM.put (FrM.put FrM.rf (by decide)) (by decide)) (by decide)) (by decide)) (by decide)) (by decide)) (by decide)) (by decide)) (by decide)) (by decide)) (by decide)) (by decide)) (by decide)) FL13 (by decide)) F_34 (by decide)) F_60 (by decide)) (by decide)) (by decide)) FL85 (by decide)) FL91 (by decide)) FL103 (by decide)) (by decide)), (fun j hj => ((sv_n _ (fun h9 => absurd h9.1 (by decide))).trans ((FL103.1 111 (by decide) j).trans ((FL91.1 111 (by decide) j).trans ((FL85.1 111 (by decide) j).trans ((sv_n _ (fun h9 => hj (by rw [h9.2]; decide))).trans ((sv_n _ (fun h9 => hj (by rw [h9.2]; decide))).trans ((hp_61 j (fun h9 => hj ((by decide : ∀ x ∈ ([6, 8, 9, 10, 11, 12, 13, 15, 16, 17, 18, 22, 29, 31, 32, 34, 35, 36, 37, 39] : List Int), x ∈ ([0, 2, 4, 6, 7, 8, 9, 10, 11, 12, 13, 14, 15, 16, 17, 18, 22, 29, 31, 32, 34, 35, 36, 37, 39, 40] : List Int)) j h9))).trans ((hp_35 j (fun h9 => hj ((by decide : ∀ x ∈ ([6, 8, 9, 10, 11, 12, 13, 15] : List Int), x ∈ ([0, 2, 4, 6, 7, 8, 9, 10, 11, 12, 13, 14, 15, 16, 17, 18, 22, 29, 31, 32, 34, 35, 36, 37, 39, 40] : List Int)) j h9))).trans ((FL13.1 111 (by decide) j).trans ((sv_n _ (fun h9 => hj (by rw [h9.2]; decide))).trans ((sv_n _ (fun h9 => absurd h9.1 (by decide))).trans ((sv_n _ (fun h9 => hj (by rw [h9.2]; decide))).trans ((sv_n _ (fun h9 => hj (by rw [h9.2]; decide))).trans ((sv_n _ (fun h9 => hj (by rw [h9.2]; decide))).trans ((sv_n _ (fun h9 => hj (by rw [h9.2]; decide))).trans ((sv_n _ (fun h9 => hj (by rw [h9.2]; decide))).trans ((sv_n _ (fun h9 => hj (by rw [h9.2]; decide))).trans ((sv_n _ (fun h9 => hj (by rw [h9.2]; decide))).trans ((sv_n _ (fun h9 => hj (by rw [h9.2]; decide))).trans ((sv_n _ (fun h9 => hj (by rw [h9.2]; decide))).trans ((sv_n _ (fun h9 => hj (by rw [h9.2]; decide))).trans (sv_n _ (fun h9 => hj (by rw [h9.2]; decide))))))))))))))))))))))))), ⟨by omega, by rw [show (sv μL102 122 x1 (μ59.1 122 4)).1 111 4 = μ59.1 111 29 from ((sv_n _ (fun h9 => absurd h9.1 (by decide))).trans ((FL103.1 111 (by decide) 4).trans ((FL91.1 111 (by decide) 4).trans ((FL85.1 111 (by decide) 4).trans (sv_s _ _ _ _)))))]; exact (NPr.cp hp_62.2.2 (by omega) (fun j h1 h2 => (((sv_n _ (by omega)).trans ((FL103.1 114 (by decide) j).trans (FL91.1 114 (by decide) j))).trans ((hi_89 j h1 (by omega)).trans ((FL85.1 123 (by decide) j).trans ((sv_n _ (by omega)).trans (sv_n _ (by omega)))))))), by omega, by omega, by omega, fun u u0 u1 => by rcases Classical.em (u = x1) with h9 | h9; (rw [h9]; exact mCD.of hfn_ (by omega) (by omega) (fun j h1 h2 => (((sv_n _ (by omega)).trans (FL103.1 115 (by decide) (9000 * x1 + j))).trans ((hi_95 j h1 (by omega)).trans ((hi_96 (36000 + j) (Or.inr (by omega))).trans ((FL85.1 115 (by decide) (36000 + j)).trans ((sv_n _ (by omega)).trans (sv_n _ (by omega)))))))) (fun j h1 h2 => (((sv_n _ (by omega)).trans (FL103.1 116 (by decide) (9000 * x1 + j))).trans ((hi_97 j h1 (by omega)).trans ((hi_98 (36000 + j) (Or.inr (by omega))).trans ((FL85.1 116 (by decide) (36000 + j)).trans ((sv_n _ (by omega)).trans (sv_n _ (by omega)))))))) (fun j h1 h2 => (((sv_n _ (by omega)).trans (FL103.1 117 (by decide) (9000 * x1 + j))).trans ((hi_99 j h1 (by omega)).trans ((hi_100 (36000 + j) (Or.inr (by omega))).trans ((FL85.1 117 (by decide) (36000 + j)).trans ((sv_n _ (by omega)).trans (sv_n _ (by omega)))))))) (fun j h1 h2 => ((sv_n _ (by omega)).trans ((hi_109 j h1 (by omega)).trans ((hi_110 (160 + j) (Or.inr (by omega))).trans ((FL91.1 119 (by decide) (160 + j)).trans ((FL85.1 119 (by decide) (160 + j)).trans ((sv_n _ (by omega)).trans (sv_n _ (by omega))))))))) (fun j h1 h2 => ((sv_n _ (by omega)).trans ((hi_111 j h1 (by omega)).trans ((hi_112 (160 + j) (Or.inr (by omega))).trans ((FL91.1 120 (by decide) (160 + j)).trans ((FL85.1 120 (by decide) (160 + j)).trans ((sv_n _ (by omega)).trans (sv_n _ (by omega))))))))) (fun j h1 h2 => ((sv_n _ (by omega)).trans ((hi_113 j h1 (by omega)).trans ((hi_114 (160 + j) (Or.inr (by omega))).trans ((FL91.1 121 (by decide) (160 + j)).trans ((FL85.1 121 (by decide) (160 + j)).trans ((sv_n _ (by omega)).trans (sv_n _ (by omega))))))))) (show (sv μL102 122 x1 (μ59.1 122 4)).1 122 x1 = μ59.1 122 4 from (sv_s _ _ _ _))); exact ((hliP u u0 u1).kp (by omega) (fun j h1 h2 => (((sv_n _ (by omega)).trans (FL103.1 115 (by decide) j)).trans ((hi_96 j (by omega)).trans (((FL85.1 115 (by decide) j).trans ((sv_n _ (by omega)).trans (sv_n _ (by omega)))).trans ((hlo_79 j (by omega)).1.trans ((F_34.1 115 (by decide) j).trans ((FL13.1 115 (by decide) j).trans ((sv_n _ (by omega)).trans ((sv_n _ (by omega)).trans ((sv_n _ (by omega)).trans ((sv_n _ (by omega)).trans ((sv_n _ (by omega)).trans ((sv_n _ (by omega)).trans ((sv_n _ (by omega)).trans ((sv_n _ (by omega)).trans ((sv_n _ (by omega)).trans ((sv_n _ (by omega)).trans ((sv_n _ (by omega)).trans ((sv_n _ (by omega)).trans (sv_n _ (by omega))))))))))))))))))))) (fun j h1 h2 => (((sv_n _ (by omega)).trans (FL103.1 116 (by decide) j)).trans ((hi_98 j (by omega)).trans (((FL85.1 116 (by decide) j).trans ((sv_n _ (by omega)).trans (sv_n _ (by omega)))).trans ((hlo_79 j (by omega)).2.1.trans ((F_34.1 116 (by decide) j).trans ((FL13.1 116 (by decide) j).trans ((sv_n _ (by omega)).trans ((sv_n _ (by omega)).trans ((sv_n _ (by omega)).trans ((sv_n _ (by omega)).trans ((sv_n _ (by omega)).trans ((sv_n _ (by omega)).trans ((sv_n _ (by omega)).trans ((sv_n _ (by omega)).trans ((sv_n _ (by omega)).trans ((sv_n _ (by omega)).trans ((sv_n _ (by omega)).trans ((sv_n _ (by omega)).trans (sv_n _ (by omega))))))))))))))))))))) (fun j h1 h2 => (((sv_n _ (by omega)).trans (FL103.1 117 (by decide) j)).trans ((hi_100 j (by omega)).trans (((FL85.1 117 (by decide) j).trans ((sv_n _ (by omega)).trans (sv_n _ (by omega)))).trans ((hlo_79 j (by omega)).2.2.trans ((F_34.1 117 (by decide) j).trans ((FL13.1 117 (by decide) j).trans ((sv_n _ (by omega)).trans ((sv_n _ (by omega)).trans ((sv_n _ (by omega)).trans ((sv_n _ (by omega)).trans ((sv_n _ (by omega)).trans ((sv_n _ (by omega)).trans ((sv_n _ (by omega)).trans ((sv_n _ (by omega)).trans ((sv_n _ (by omega)).trans ((sv_n _ (by omega)).trans ((sv_n _ (by omega)).trans ((sv_n _ (by omega)).trans (sv_n _ (by omega))))))))))))))))))))) (fun j h1 h2 => ((sv_n _ (by omega)).trans ((hi_110 j (by omega)).trans (((FL91.1 119 (by decide) j).trans ((FL85.1 119 (by decide) j).trans ((sv_n _ (by omega)).trans (sv_n _ (by omega))))).trans ((hp_73 j (by omega)).trans ((F_34.1 119 (by decide) j).trans ((FL13.1 119 (by decide) j).trans ((sv_n _ (by omega)).trans ((sv_n _ (by omega)).trans ((sv_n _ (by omega)).trans ((sv_n _ (by omega)).trans ((sv_n _ (by omega)).trans ((sv_n _ (by omega)).trans ((sv_n _ (by omega)).trans ((sv_n _ (by omega)).trans ((sv_n _ (by omega)).trans ((sv_n _ (by omega)).trans ((sv_n _ (by omega)).trans ((sv_n _ (by omega)).trans (sv_n _ (by omega))))))))))))))))))))) (fun j h1 h2 => ((sv_n _ (by omega)).trans ((hi_112 j (by omega)).trans (((FL91.1 120 (by decide) j).trans ((FL85.1 120 (by decide) j).trans ((sv_n _ (by omega)).trans (sv_n _ (by omega))))).trans ((hp_74 j (by omega)).trans ((F_34.1 120 (by decide) j).trans ((FL13.1 120 (by decide) j).trans ((sv_n _ (by omega)).trans ((sv_n _ (by omega)).trans ((sv_n _ (by omega)).trans ((sv_n _ (by omega)).trans ((sv_n _ (by omega)).trans ((sv_n _ (by omega)).trans ((sv_n _ (by omega)).trans ((sv_n _ (by omega)).trans ((sv_n _ (by omega)).trans ((sv_n _ (by omega)).trans ((sv_n _ (by omega)).trans ((sv_n _ (by omega)).trans (sv_n _ (by omega))))))))))))))))))))) (fun j h1 h2 => ((sv_n _ (by omega)).trans ((hi_114 j (by omega)).trans (((FL91.1 121 (by decide) j).trans ((FL85.1 121 (by decide) j).trans ((sv_n _ (by omega)).trans (sv_n _ (by omega))))).trans ((hp_75 j (by omega)).trans ((F_34.1 121 (by decide) j).trans ((FL13.1 121 (by decide) j).trans ((sv_n _ (by omega)).trans ((sv_n _ (by omega)).trans ((sv_n _ (by omega)).trans ((sv_n _ (by omega)).trans ((sv_n _ (by omega)).trans ((sv_n _ (by omega)).trans ((sv_n _ (by omega)).trans ((sv_n _ (by omega)).trans ((sv_n _ (by omega)).trans ((sv_n _ (by omega)).trans ((sv_n _ (by omega)).trans ((sv_n _ (by omega)).trans (sv_n _ (by omega))))))))))))))))))))) (((sv_n _ (by omega)).trans ((FL103.1 122 (by decide) u).trans ((FL91.1 122 (by decide) u).trans ((FL85.1 122 (by decide) u).trans ((sv_n _ (by omega)).trans (sv_n _ (by omega))))))).trans ((hp_76 u (by omega)).trans ((F_34.1 122 (by decide) u).trans ((FL13.1 122 (by decide) u).trans ((sv_n _ (by omega)).trans ((sv_n _ (by omega)).trans ((sv_n _ (by omega)).trans ((sv_n _ (by omega)).trans ((sv_n _ (by omega)).trans ((sv_n _ (by omega)).trans ((sv_n _ (by omega)).trans ((sv_n _ (by omega)).trans ((sv_n _ (by omega)).trans ((sv_n _ (by omega)).trans ((sv_n _ (by omega)).trans ((sv_n _ (by omega)).trans (sv_n _ (by omega)))))))))))))))))))⟩, (Or.inl ⟨by omega, by omega, by omega, by omega, ((sv_n _ (fun h9 => absurd h9.1 (by decide))).trans ((FL103.1 111 (by decide) 2).trans ((FL91.1 111 (by decide) 2).trans ((FL85.1 111 (by decide) 2).trans ((sv_n _ (by decide)).trans ((sv_n _ (by decide)).trans ((hp_61 2 (by decide)).trans ((hp_35 2 (by decide)).trans ((FL13.1 111 (by decide) 2).trans ((sv_n _ (by decide)).trans ((sv_n _ (fun h9 => absurd h9.1 (by decide))).trans ((sv_n _ (by decide)).trans ((sv_n _ (by decide)).trans ((sv_n _ (by decide)).trans ((sv_n _ (by decide)).trans ((sv_n _ (by decide)).trans ((sv_n _ (by decide)).trans (sv_s _ _ _ _))))))))))))))))))⟩), (by omega)⟩
                      · refine lv_aload_n hx hb dX12_load_342 rfl (lv_at hl 1 rfl) ?_
                        refine xa_getr G fd_X12 (a := 111) (x := 118) 23 rfl (by decide) rfl (wm 7 172 rfl rfl) ⟨rfl, rfl, rfl⟩ dX12_load_343 rfl (G.sk 116 rfl) (by decide) rfl ?_
                        refine lv_bipush (v := iv 40) hx hb dX12_load_346 rfl ?_
                        refine lv_iload_n hx hb dX12_load_348 rfl (lv_at hl 2 rfl) ?_
                        refine xb_imul hx hb dX12_load_349 ?_
                        refine lv_iload_n hx hb dX12_load_350 rfl (lv_at hl 0 rfl) ?_
                        refine xb_iadd hx hb dX12_load_351 ?_
                        refine lv_aload_n hx hb dX12_load_352 rfl (lv_at hl 1 rfl) ?_
                        refine xa_getr G fd_X12 (a := 111) (x := 118) 23 rfl (by decide) rfl (wm 7 172 rfl rfl) ⟨rfl, rfl, rfl⟩ dX12_load_353 rfl (G.sk 116 rfl) (by decide) rfl ?_
                        refine lv_sipush (v := iv 160) hx hb dX12_load_356 rfl ?_
                        refine lv_iload_n hx hb dX12_load_359 rfl (lv_at hl 0 rfl) ?_
                        refine xb_iadd hx hb dX12_load_360 ?_
                        refine xa_lald G (a := 118) (i := 160 + k9) rfl (by have h9 := G.lc (a := 118) (n := 200) 56 rfl; omega) dX12_load_361 rfl ?_
                        have hj_123 : jr (μL102.1 118 (160 + k9)) := (by have h9 := G.hj (a := 118) (k := 160 + k9) rfl; exact h9)
                        refine xa_last G (a := 118) (i := (40 * x1) + k9) (x := μL102.1 118 (160 + k9)) rfl (by have h9 := G.lc (a := 118) (n := 200) 56 rfl; omega) hj_123 dX12_load_362 rfl (fun H locs G => ?_)
                        refine lv_aload_n hx hb dX12_load_363 rfl (lv_at hl 1 rfl) ?_
                        refine xa_getr G fd_X12 (a := 111) (x := 119) 24 rfl (by decide) rfl (wm 7 173 rfl rfl) ⟨rfl, rfl, rfl⟩ dX12_load_364 rfl (G.sk 117 rfl) (by decide) rfl ?_
                        refine lv_bipush (v := iv 40) hx hb dX12_load_367 rfl ?_
                        refine lv_iload_n hx hb dX12_load_369 rfl (lv_at hl 2 rfl) ?_
                        refine xb_imul hx hb dX12_load_370 ?_
                        refine lv_iload_n hx hb dX12_load_371 rfl (lv_at hl 0 rfl) ?_
                        refine xb_iadd hx hb dX12_load_372 ?_
                        refine lv_aload_n hx hb dX12_load_373 rfl (lv_at hl 1 rfl) ?_
                        refine xa_getr G fd_X12 (a := 111) (x := 119) 24 rfl (by decide) rfl (wm 7 173 rfl rfl) ⟨rfl, rfl, rfl⟩ dX12_load_374 rfl (G.sk 117 rfl) (by decide) rfl ?_
                        refine lv_sipush (v := iv 160) hx hb dX12_load_377 rfl ?_
                        refine lv_iload_n hx hb dX12_load_380 rfl (lv_at hl 0 rfl) ?_
                        refine xb_iadd hx hb dX12_load_381 ?_
                        refine xa_iald G (a := 119) (i := 160 + k9) rfl (by have h9 := G.lc (a := 119) (n := 200) 57 rfl; omega) dX12_load_382 rfl ?_
                        refine xb_ti (y := μL102.1 119 (160 + k9)) (sv_n _ (fun h9 => absurd h9.1 (by decide))) ?_
                        have hr_124 : -2147483648 ≤ μL102.1 119 (160 + k9) ∧ μL102.1 119 (160 + k9) ≤ 2147483647 := by have h9 := G.hr (a := 119) (k := 160 + k9) rfl; rw [(sv_n _ (fun h9 => absurd h9.1 (by decide)))] at h9; exact h9
                        refine xa_iast G (a := 119) (i := (40 * x1) + k9) (x := μL102.1 119 (160 + k9)) rfl (by have h9 := G.lc (a := 119) (n := 200) 57 rfl; omega) (by unfold ir; omega) dX12_load_383 rfl (fun H locs G => ?_)
                        refine lv_aload_n hx hb dX12_load_384 rfl (lv_at hl 1 rfl) ?_
                        refine xa_getr G fd_X12 (a := 111) (x := 120) 25 rfl (by decide) rfl (wm 7 174 rfl rfl) ⟨rfl, rfl, rfl⟩ dX12_load_385 rfl (G.sk 118 rfl) (by decide) rfl ?_
                        refine lv_bipush (v := iv 40) hx hb dX12_load_388 rfl ?_
                        refine lv_iload_n hx hb dX12_load_390 rfl (lv_at hl 2 rfl) ?_
                        refine xb_imul hx hb dX12_load_391 ?_
                        refine lv_iload_n hx hb dX12_load_392 rfl (lv_at hl 0 rfl) ?_
                        refine xb_iadd hx hb dX12_load_393 ?_
                        refine lv_aload_n hx hb dX12_load_394 rfl (lv_at hl 1 rfl) ?_
                        refine xa_getr G fd_X12 (a := 111) (x := 120) 25 rfl (by decide) rfl (wm 7 174 rfl rfl) ⟨rfl, rfl, rfl⟩ dX12_load_395 rfl (G.sk 118 rfl) (by decide) rfl ?_
                        refine lv_sipush (v := iv 160) hx hb dX12_load_398 rfl ?_
                        refine lv_iload_n hx hb dX12_load_401 rfl (lv_at hl 0 rfl) ?_
                        refine xb_iadd hx hb dX12_load_402 ?_
                        refine xa_iald G (a := 120) (i := 160 + k9) rfl (by have h9 := G.lc (a := 120) (n := 200) 58 rfl; omega) dX12_load_403 rfl ?_
                        refine xb_ti (y := μL102.1 120 (160 + k9)) ((sv_n _ (fun h9 => absurd h9.1 (by decide))).trans (sv_n _ (fun h9 => absurd h9.1 (by decide)))) ?_
                        have hr_125 : -2147483648 ≤ μL102.1 120 (160 + k9) ∧ μL102.1 120 (160 + k9) ≤ 2147483647 := by have h9 := G.hr (a := 120) (k := 160 + k9) rfl; rw [((sv_n _ (fun h9 => absurd h9.1 (by decide))).trans (sv_n _ (fun h9 => absurd h9.1 (by decide))))] at h9; exact h9
                        refine xa_iast G (a := 120) (i := (40 * x1) + k9) (x := μL102.1 120 (160 + k9)) rfl (by have h9 := G.lc (a := 120) (n := 200) 58 rfl; omega) (by unfold ir; omega) dX12_load_404 rfl (fun H locs G => ?_)
                        refine lv_aload_n hx hb dX12_load_405 rfl (lv_at hl 1 rfl) ?_
                        refine xa_getr G fd_X12 (a := 111) (x := 121) 26 rfl (by decide) rfl (wm 7 175 rfl rfl) ⟨rfl, rfl, rfl⟩ dX12_load_406 rfl (G.sk 119 rfl) (by decide) rfl ?_
                        refine lv_bipush (v := iv 40) hx hb dX12_load_409 rfl ?_
                        refine lv_iload_n hx hb dX12_load_411 rfl (lv_at hl 2 rfl) ?_
                        refine xb_imul hx hb dX12_load_412 ?_
                        refine lv_iload_n hx hb dX12_load_413 rfl (lv_at hl 0 rfl) ?_
                        refine xb_iadd hx hb dX12_load_414 ?_
                        refine lv_aload_n hx hb dX12_load_415 rfl (lv_at hl 1 rfl) ?_
                        refine xa_getr G fd_X12 (a := 111) (x := 121) 26 rfl (by decide) rfl (wm 7 175 rfl rfl) ⟨rfl, rfl, rfl⟩ dX12_load_416 rfl (G.sk 119 rfl) (by decide) rfl ?_
                        refine lv_sipush (v := iv 160) hx hb dX12_load_419 rfl ?_
                        refine lv_iload_n hx hb dX12_load_422 rfl (lv_at hl 0 rfl) ?_
                        refine xb_iadd hx hb dX12_load_423 ?_
                        refine xa_iald G (a := 121) (i := 160 + k9) rfl (by have h9 := G.lc (a := 121) (n := 200) 59 rfl; omega) dX12_load_424 rfl ?_
                        refine xb_ti (y := μL102.1 121 (160 + k9)) ((sv_n _ (fun h9 => absurd h9.1 (by decide))).trans ((sv_n _ (fun h9 => absurd h9.1 (by decide))).trans (sv_n _ (fun h9 => absurd h9.1 (by decide))))) ?_
                        have hr_126 : -2147483648 ≤ μL102.1 121 (160 + k9) ∧ μL102.1 121 (160 + k9) ≤ 2147483647 := by have h9 := G.hr (a := 121) (k := 160 + k9) rfl; rw [((sv_n _ (fun h9 => absurd h9.1 (by decide))).trans ((sv_n _ (fun h9 => absurd h9.1 (by decide))).trans (sv_n _ (fun h9 => absurd h9.1 (by decide)))))] at h9; exact h9
                        refine xa_iast G (a := 121) (i := (40 * x1) + k9) (x := μL102.1 121 (160 + k9)) rfl (by have h9 := G.lc (a := 121) (n := 200) 59 rfl; omega) (by unfold ir; omega) dX12_load_425 rfl (fun H locs G => ?_)
                        refine lv_iinc (v := iv (k9 + 1)) (lv' := [(3, .int (iv (k9 + 1))), (0, .ref (oP ω 111)), (1, .int (iv x1)), (2, .int (iv x2))]) hx hb dX12_load_426 hl (k := 0) rfl (by rw [show Int32.ofInt 1 = iv 1 from rfl, iv_add]) (by decide) rfl (fun ls hl => ?_)
                        refine lv_goto (tgt := 332) hx hb dX12_load_429 (by decide) ?_
                        exact ih _ _ _ _ _ _ _ (by omega) ⟨k9 + 1, (FrM.put (FrM.put (FrM.put (FrM.put FL103 (by decide)) (by decide)) (by decide)) (by decide)), (by omega), (by omega), (fun j h1 h2 => by by_cases h9 : j = k9; (rw [h9]; exact (((sv_n _ (fun h9 => absurd h9.1 (by decide))).trans ((sv_n _ (fun h9 => absurd h9.1 (by decide))).trans ((sv_n _ (fun h9 => absurd h9.1 (by decide))).trans (sv_s _ _ _ _)))).trans (((sv_n _ (by omega)).trans ((sv_n _ (by omega)).trans ((sv_n _ (by omega)).trans (sv_n _ (by omega)))))).symm)); exact (((sv_n _ (by omega)).trans ((sv_n _ (by omega)).trans ((sv_n _ (by omega)).trans (sv_n _ (by omega))))).trans ((hi_107 j h1 (by omega)).trans (((sv_n _ (by omega)).trans ((sv_n _ (by omega)).trans ((sv_n _ (by omega)).trans (sv_n _ (by omega)))))).symm))), (fun j hj => (((sv_n _ (by omega)).trans ((sv_n _ (by omega)).trans ((sv_n _ (by omega)).trans (sv_n _ (by omega))))).trans (hi_108 j hj))), (fun j h1 h2 => by by_cases h9 : j = k9; (rw [h9]; exact (((sv_n _ (fun h9 => absurd h9.1 (by decide))).trans ((sv_n _ (fun h9 => absurd h9.1 (by decide))).trans (sv_s _ _ _ _))).trans (((sv_n _ (by omega)).trans ((sv_n _ (by omega)).trans ((sv_n _ (by omega)).trans (sv_n _ (by omega)))))).symm)); exact (((sv_n _ (by omega)).trans ((sv_n _ (by omega)).trans ((sv_n _ (by omega)).trans (sv_n _ (by omega))))).trans ((hi_109 j h1 (by omega)).trans (((sv_n _ (by omega)).trans ((sv_n _ (by omega)).trans ((sv_n _ (by omega)).trans (sv_n _ (by omega)))))).symm))), (fun j hj => (((sv_n _ (by omega)).trans ((sv_n _ (by omega)).trans ((sv_n _ (by omega)).trans (sv_n _ (by omega))))).trans (hi_110 j hj))), (fun j h1 h2 => by by_cases h9 : j = k9; (rw [h9]; exact (((sv_n _ (fun h9 => absurd h9.1 (by decide))).trans (sv_s _ _ _ _)).trans (((sv_n _ (by omega)).trans ((sv_n _ (by omega)).trans ((sv_n _ (by omega)).trans (sv_n _ (by omega)))))).symm)); exact (((sv_n _ (by omega)).trans ((sv_n _ (by omega)).trans ((sv_n _ (by omega)).trans (sv_n _ (by omega))))).trans ((hi_111 j h1 (by omega)).trans (((sv_n _ (by omega)).trans ((sv_n _ (by omega)).trans ((sv_n _ (by omega)).trans (sv_n _ (by omega)))))).symm))), (fun j hj => (((sv_n _ (by omega)).trans ((sv_n _ (by omega)).trans ((sv_n _ (by omega)).trans (sv_n _ (by omega))))).trans (hi_112 j hj))), (fun j h1 h2 => by by_cases h9 : j = k9; (rw [h9]; exact ((sv_s _ _ _ _).trans (((sv_n _ (by omega)).trans ((sv_n _ (by omega)).trans ((sv_n _ (by omega)).trans (sv_n _ (by omega)))))).symm)); exact (((sv_n _ (by omega)).trans ((sv_n _ (by omega)).trans ((sv_n _ (by omega)).trans (sv_n _ (by omega))))).trans ((hi_113 j h1 (by omega)).trans (((sv_n _ (by omega)).trans ((sv_n _ (by omega)).trans ((sv_n _ (by omega)).trans (sv_n _ (by omega)))))).symm))), (fun j hj => (((sv_n _ (by omega)).trans ((sv_n _ (by omega)).trans ((sv_n _ (by omega)).trans (sv_n _ (by omega))))).trans (hi_114 j hj))), rfl, lv_sub hl [0, 1, 2, 3] rfl⟩ G
                    · refine lv_aload_n hx hb dX12_load_258 rfl (lv_at hl 1 rfl) ?_
                      refine xa_getr G fd_X12 (a := 111) (x := 115) 19 rfl (by decide) rfl (wm 7 168 rfl rfl) ⟨rfl, rfl, rfl⟩ dX12_load_259 rfl (G.sk 113 rfl) (by decide) rfl ?_
                      refine lv_sipush (v := iv 9000) hx hb dX12_load_262 rfl ?_
                      refine lv_iload_n hx hb dX12_load_265 rfl (lv_at hl 2 rfl) ?_
                      refine xb_imul hx hb dX12_load_266 ?_
                      refine lv_iload_n hx hb dX12_load_267 rfl (lv_at hl 0 rfl) ?_
                      refine xb_iadd hx hb dX12_load_268 ?_
                      refine lv_aload_n hx hb dX12_load_269 rfl (lv_at hl 1 rfl) ?_
                      refine xa_getr G fd_X12 (a := 111) (x := 115) 19 rfl (by decide) rfl (wm 7 168 rfl rfl) ⟨rfl, rfl, rfl⟩ dX12_load_270 rfl (G.sk 113 rfl) (by decide) rfl ?_
                      refine lv_ldcw (s := s.setDrawn d0) hx hb G.1.2.2.2.1 (dr_words G.1.2.2.2.2 d0 _ (wm 9 130 rfl rfl)) dX12_load_273 ?_
                      refine xb_lit (x := 36000) (by decide) ?_
                      refine lv_iload_n hx hb dX12_load_276 rfl (lv_at hl 0 rfl) ?_
                      refine xb_iadd hx hb dX12_load_277 ?_
                      refine xa_iald G (a := 115) (i := 36000 + k9) rfl (by have h9 := G.lc (a := 115) (n := 45000) 53 rfl; omega) dX12_load_278 rfl ?_
                      have hr_127 : -2147483648 ≤ μL90.1 115 (36000 + k9) ∧ μL90.1 115 (36000 + k9) ≤ 2147483647 := by have h9 := G.hr (a := 115) (k := 36000 + k9) rfl; exact h9
                      refine xa_iast G (a := 115) (i := (9000 * x1) + k9) (x := μL90.1 115 (36000 + k9)) rfl (by have h9 := G.lc (a := 115) (n := 45000) 53 rfl; omega) (by unfold ir; omega) dX12_load_279 rfl (fun H locs G => ?_)
                      refine lv_aload_n hx hb dX12_load_280 rfl (lv_at hl 1 rfl) ?_
                      refine xa_getr G fd_X12 (a := 111) (x := 116) 20 rfl (by decide) rfl (wm 7 169 rfl rfl) ⟨rfl, rfl, rfl⟩ dX12_load_281 rfl (G.sk 114 rfl) (by decide) rfl ?_
                      refine lv_sipush (v := iv 9000) hx hb dX12_load_284 rfl ?_
                      refine lv_iload_n hx hb dX12_load_287 rfl (lv_at hl 2 rfl) ?_
                      refine xb_imul hx hb dX12_load_288 ?_
                      refine lv_iload_n hx hb dX12_load_289 rfl (lv_at hl 0 rfl) ?_
                      refine xb_iadd hx hb dX12_load_290 ?_
                      refine lv_aload_n hx hb dX12_load_291 rfl (lv_at hl 1 rfl) ?_
                      refine xa_getr G fd_X12 (a := 111) (x := 116) 20 rfl (by decide) rfl (wm 7 169 rfl rfl) ⟨rfl, rfl, rfl⟩ dX12_load_292 rfl (G.sk 114 rfl) (by decide) rfl ?_
                      refine lv_ldcw (s := s.setDrawn d0) hx hb G.1.2.2.2.1 (dr_words G.1.2.2.2.2 d0 _ (wm 9 130 rfl rfl)) dX12_load_295 ?_
                      refine xb_lit (x := 36000) (by decide) ?_
                      refine lv_iload_n hx hb dX12_load_298 rfl (lv_at hl 0 rfl) ?_
                      refine xb_iadd hx hb dX12_load_299 ?_
                      refine xa_lald G (a := 116) (i := 36000 + k9) rfl (by have h9 := G.lc (a := 116) (n := 45000) 54 rfl; omega) dX12_load_300 rfl ?_
                      refine xb_tl (y := μL90.1 116 (36000 + k9)) (sv_n _ (fun h9 => absurd h9.1 (by decide))) ?_
                      have hj_128 : jr (μL90.1 116 (36000 + k9)) := (by have h9 := G.hj (a := 116) (k := 36000 + k9) rfl; rw [(sv_n _ (fun h9 => absurd h9.1 (by decide)))] at h9; exact h9)
                      refine xa_last G (a := 116) (i := (9000 * x1) + k9) (x := μL90.1 116 (36000 + k9)) rfl (by have h9 := G.lc (a := 116) (n := 45000) 54 rfl; omega) hj_128 dX12_load_301 rfl (fun H locs G => ?_)
                      refine lv_aload_n hx hb dX12_load_302 rfl (lv_at hl 1 rfl) ?_
                      refine xa_getr G fd_X12 (a := 111) (x := 117) 21 rfl (by decide) rfl (wm 7 170 rfl rfl) ⟨rfl, rfl, rfl⟩ dX12_load_303 rfl (G.sk 115 rfl) (by decide) rfl ?_
                      refine lv_sipush (v := iv 9000) hx hb dX12_load_306 rfl ?_
                      refine lv_iload_n hx hb dX12_load_309 rfl (lv_at hl 2 rfl) ?_
                      refine xb_imul hx hb dX12_load_310 ?_
                      refine lv_iload_n hx hb dX12_load_311 rfl (lv_at hl 0 rfl) ?_
                      refine xb_iadd hx hb dX12_load_312 ?_
                      refine lv_aload_n hx hb dX12_load_313 rfl (lv_at hl 1 rfl) ?_
                      refine xa_getr G fd_X12 (a := 111) (x := 117) 21 rfl (by decide) rfl (wm 7 170 rfl rfl) ⟨rfl, rfl, rfl⟩ dX12_load_314 rfl (G.sk 115 rfl) (by decide) rfl ?_
                      refine lv_ldcw (s := s.setDrawn d0) hx hb G.1.2.2.2.1 (dr_words G.1.2.2.2.2 d0 _ (wm 9 130 rfl rfl)) dX12_load_317 ?_
                      refine xb_lit (x := 36000) (by decide) ?_
                      refine lv_iload_n hx hb dX12_load_320 rfl (lv_at hl 0 rfl) ?_
                      refine xb_iadd hx hb dX12_load_321 ?_
                      refine xa_iald G (a := 117) (i := 36000 + k9) rfl (by have h9 := G.lc (a := 117) (n := 45000) 55 rfl; omega) dX12_load_322 rfl ?_
                      refine xb_ti (y := μL90.1 117 (36000 + k9)) ((sv_n _ (fun h9 => absurd h9.1 (by decide))).trans (sv_n _ (fun h9 => absurd h9.1 (by decide)))) ?_
                      have hr_129 : -2147483648 ≤ μL90.1 117 (36000 + k9) ∧ μL90.1 117 (36000 + k9) ≤ 2147483647 := by have h9 := G.hr (a := 117) (k := 36000 + k9) rfl; rw [((sv_n _ (fun h9 => absurd h9.1 (by decide))).trans (sv_n _ (fun h9 => absurd h9.1 (by decide))))] at h9; exact h9
                      refine xa_iast G (a := 117) (i := (9000 * x1) + k9) (x := μL90.1 117 (36000 + k9)) rfl (by have h9 := G.lc (a := 117) (n := 45000) 55 rfl; omega) (by unfold ir; omega) dX12_load_323 rfl (fun H locs G => ?_)
                      refine lv_iinc (v := iv (k9 + 1)) (lv' := [(3, .int (iv (k9 + 1))), (0, .ref (oP ω 111)), (1, .int (iv x1)), (2, .int (iv x2))]) hx hb dX12_load_324 hl (k := 0) rfl (by rw [show Int32.ofInt 1 = iv 1 from rfl, iv_add]) (by decide) rfl (fun ls hl => ?_)
                      refine lv_goto (tgt := 250) hx hb dX12_load_327 (by decide) ?_
                      exact ih _ _ _ _ _ _ _ (by omega) ⟨k9 + 1, (FrM.put (FrM.put (FrM.put FL91 (by decide)) (by decide)) (by decide)), (by omega), (by omega), (fun j h1 h2 => by by_cases h9 : j = k9; (rw [h9]; exact (((sv_n _ (fun h9 => absurd h9.1 (by decide))).trans ((sv_n _ (fun h9 => absurd h9.1 (by decide))).trans (sv_s _ _ _ _))).trans (((sv_n _ (by omega)).trans ((sv_n _ (by omega)).trans (sv_n _ (by omega))))).symm)); exact (((sv_n _ (by omega)).trans ((sv_n _ (by omega)).trans (sv_n _ (by omega)))).trans ((hi_95 j h1 (by omega)).trans (((sv_n _ (by omega)).trans ((sv_n _ (by omega)).trans (sv_n _ (by omega))))).symm))), (fun j hj => (((sv_n _ (by omega)).trans ((sv_n _ (by omega)).trans (sv_n _ (by omega)))).trans (hi_96 j hj))), (fun j h1 h2 => by by_cases h9 : j = k9; (rw [h9]; exact (((sv_n _ (fun h9 => absurd h9.1 (by decide))).trans (sv_s _ _ _ _)).trans (((sv_n _ (by omega)).trans ((sv_n _ (by omega)).trans (sv_n _ (by omega))))).symm)); exact (((sv_n _ (by omega)).trans ((sv_n _ (by omega)).trans (sv_n _ (by omega)))).trans ((hi_97 j h1 (by omega)).trans (((sv_n _ (by omega)).trans ((sv_n _ (by omega)).trans (sv_n _ (by omega))))).symm))), (fun j hj => (((sv_n _ (by omega)).trans ((sv_n _ (by omega)).trans (sv_n _ (by omega)))).trans (hi_98 j hj))), (fun j h1 h2 => by by_cases h9 : j = k9; (rw [h9]; exact ((sv_s _ _ _ _).trans (((sv_n _ (by omega)).trans ((sv_n _ (by omega)).trans (sv_n _ (by omega))))).symm)); exact (((sv_n _ (by omega)).trans ((sv_n _ (by omega)).trans (sv_n _ (by omega)))).trans ((hi_99 j h1 (by omega)).trans (((sv_n _ (by omega)).trans ((sv_n _ (by omega)).trans (sv_n _ (by omega))))).symm))), (fun j hj => (((sv_n _ (by omega)).trans ((sv_n _ (by omega)).trans (sv_n _ (by omega)))).trans (hi_100 j hj))), rfl, lv_sub hl [0, 1, 2, 3] rfl⟩ G
                  · refine lv_aload_n hx hb dX12_load_230 rfl (lv_at hl 1 rfl) ?_
                    refine xa_getr G fd_X12 (a := 111) (x := 114) 5 rfl (by decide) rfl (wm 7 154 rfl rfl) ⟨rfl, rfl, rfl⟩ dX12_load_231 rfl (G.sk 112 rfl) (by decide) rfl ?_
                    refine lv_iload_n hx hb dX12_load_234 rfl (lv_at hl 0 rfl) ?_
                    refine lv_aload_n hx hb dX12_load_235 rfl (lv_at hl 1 rfl) ?_
                    refine xa_getr G fd_X12 (a := 111) (x := 123) 28 rfl (by decide) rfl (wm 7 177 rfl rfl) ⟨rfl, rfl, rfl⟩ dX12_load_236 rfl (G.sk 121 rfl) (by decide) rfl ?_
                    refine lv_iload_n hx hb dX12_load_239 rfl (lv_at hl 0 rfl) ?_
                    refine xa_iald G (a := 123) (i := k9) rfl (by have h9 := G.lc (a := 123) (n := 64) 61 rfl; omega) dX12_load_240 rfl ?_
                    refine xb_ti (y := μ59.1 123 k9) ((FL85.1 123 (by decide) k9).trans ((sv_n _ (fun h9 => absurd h9.1 (by decide))).trans (sv_n _ (fun h9 => absurd h9.1 (by decide))))) ?_
                    have hr_130 : -2147483648 ≤ μ59.1 123 k9 ∧ μ59.1 123 k9 ≤ 2147483647 := by have h9 := G.hr (a := 123) (k := k9) rfl; rw [((FL85.1 123 (by decide) k9).trans ((sv_n _ (fun h9 => absurd h9.1 (by decide))).trans (sv_n _ (fun h9 => absurd h9.1 (by decide)))))] at h9; exact h9
                    refine xa_iast G (a := 114) (i := k9) (x := μ59.1 123 k9) rfl (by have h9 := G.lc (a := 114) (n := 64) 52 rfl; omega) (by unfold ir; omega) dX12_load_241 rfl (fun H locs G => ?_)
                    refine lv_iinc (v := iv (k9 + 1)) (lv' := [(3, .int (iv (k9 + 1))), (0, .ref (oP ω 111)), (1, .int (iv x1)), (2, .int (iv x2))]) hx hb dX12_load_242 hl (k := 0) rfl (by rw [show Int32.ofInt 1 = iv 1 from rfl, iv_add]) (by decide) rfl (fun ls hl => ?_)
                    refine lv_goto (tgt := 224) hx hb dX12_load_245 (by decide) ?_
                    exact ih _ _ _ _ _ _ _ (by omega) ⟨k9 + 1, (FrM.put FL85 (by decide)), (by omega), (by omega), (fun j h1 h2 => by by_cases h9 : j = k9; (rw [h9]; exact ((sv_s _ _ _ _).trans (((sv_n _ (fun h9 => absurd h9.1 (by decide))).trans ((FL85.1 123 (by decide) k9).trans ((sv_n _ (fun h9 => absurd h9.1 (by decide))).trans (sv_n _ (fun h9 => absurd h9.1 (by decide))))))).symm)); exact ((sv_n _ (by omega)).trans ((hi_89 j h1 (by omega)).trans ((sv_n _ (by omega))).symm))), rfl, lv_sub hl [0, 1, 2, 3] rfl⟩ G
                · refine lv_iconst (v := iv 3) hx hb dX12_load_162 rfl ?_
                  refine lv_goto (tgt := 167) hx hb dX12_load_163 (by decide) ?_
                  refine xa_puti G fd_X12 (a := 111) (x := 3) 40 (kz := 40) rfl rfl (by decide) rfl (by unfold ir; omega) (wm 7 189 rfl rfl) ⟨rfl, rfl, rfl, rfl⟩ rfl dX12_load_167 rfl (fun H locs G => ?_)
                  refine lv_aload_n hx hb dX12_load_170 rfl (lv_at hl 1 rfl) ?_
                  refine xa_geti G fd_X12 (a := 111) (x := 3) 40 rfl (by decide) rfl (wm 7 189 rfl rfl) ⟨rfl, rfl, rfl⟩ dX12_load_171 rfl (sv_s _ _ _ _) ?_
                  refine xb_if_le (tgt := 214) hx hb (x := 3) (by unfold ir; omega) dX12_load_174 (by decide) (fun c_174 => absurd c_174 (by decide)) (fun c_174 => ?_)
                  refine lv_iconst (v := iv (-1)) hx hb dX12_load_177 rfl ?_
                  refine lv_aload_n hx hb dX12_load_178 rfl (lv_at hl 1 rfl) ?_
                  refine xa_geti G fd_X12 (a := 111) (x := 3) 40 rfl (by decide) rfl (wm 7 189 rfl rfl) ⟨rfl, rfl, rfl⟩ dX12_load_179 rfl (sv_s _ _ _ _) ?_
                  refine lv_iconst (v := iv 1) hx hb dX12_load_182 rfl ?_
                  refine xb_icmp_ne (tgt := 193) hx hb (x := 3) (y := 1) (by unfold ir; omega) (by unfold ir; omega) dX12_load_183 (by decide) (fun c_183 => ?_) (fun c_183 => absurd c_183 (by decide))
                  refine lv_aload_n hx hb dX12_load_193 rfl (lv_at hl 1 rfl) ?_
                  refine xa_geti G fd_X12 (a := 111) (x := 3) 40 rfl (by decide) rfl (wm 7 189 rfl rfl) ⟨rfl, rfl, rfl⟩ dX12_load_194 rfl (sv_s _ _ _ _) ?_
                  refine lv_iconst (v := iv 2) hx hb dX12_load_197 rfl ?_
                  refine xb_icmp_ne (tgt := 208) hx hb (x := 3) (y := 2) (by unfold ir; omega) (by unfold ir; omega) dX12_load_198 (by decide) (fun c_198 => ?_) (fun c_198 => absurd c_198 (by decide))
                  refine lv_aload_n hx hb dX12_load_208 rfl (lv_at hl 1 rfl) ?_
                  refine xa_geti G fd_X12 (a := 111) (x := μ59.1 111 17) 17 rfl (by decide) rfl (wm 7 166 rfl rfl) ⟨rfl, rfl, rfl⟩ dX12_load_209 rfl (sv_n _ (by decide)) ?_
                  refine xb_isub hx hb dX12_load_212 ?_
                  have e_131 : (sv μ59 111 40 3).1 111 2 = 0 := ((sv_n _ (by decide)).trans ((hp_61 2 (by decide)).trans ((hp_35 2 (by decide)).trans ((FL13.1 111 (by decide) 2).trans ((sv_n _ (by decide)).trans ((sv_n _ (fun h9 => absurd h9.1 (by decide))).trans ((sv_n _ (by decide)).trans ((sv_n _ (by decide)).trans ((sv_n _ (by decide)).trans ((sv_n _ (by decide)).trans ((sv_n _ (by decide)).trans ((sv_n _ (by decide)).trans (sv_s _ _ _ _)))))))))))))
                  have e_132 : (sv μ59 111 40 3).1 111 4 = μ.1 111 4 := ((sv_n _ (by decide)).trans ((hp_61 4 (by decide)).trans ((hp_35 4 (by decide)).trans ((FL13.1 111 (by decide) 4).trans ((sv_n _ (by decide)).trans ((sv_n _ (fun h9 => absurd h9.1 (by decide))).trans ((sv_n _ (by decide)).trans ((sv_n _ (by decide)).trans ((sv_n _ (by decide)).trans ((sv_n _ (by decide)).trans ((sv_n _ (by decide)).trans ((sv_n _ (by decide)).trans ((sv_n _ (by decide)).trans ((sv_n _ (by decide)).trans ((sv_n _ (by decide)).trans ((sv_n _ (by decide)).trans (sv_n _ (by decide))))))))))))))))))
                  have e_133 : (sv μ59 111 40 3).1 111 4 = μ.1 111 4 := ((sv_n _ (by decide)).trans ((hp_61 4 (by decide)).trans ((hp_35 4 (by decide)).trans ((FL13.1 111 (by decide) 4).trans ((sv_n _ (by decide)).trans ((sv_n _ (fun h9 => absurd h9.1 (by decide))).trans ((sv_n _ (by decide)).trans ((sv_n _ (by decide)).trans ((sv_n _ (by decide)).trans ((sv_n _ (by decide)).trans ((sv_n _ (by decide)).trans ((sv_n _ (by decide)).trans ((sv_n _ (by decide)).trans ((sv_n _ (by decide)).trans ((sv_n _ (by decide)).trans ((sv_n _ (by decide)).trans (sv_n _ (by decide))))))))))))))))))
                  have e_134 : (sv μ59 111 40 3).1 111 31 = μ59.1 111 31 := (sv_n _ (by decide))
                  have e_135 : (sv μ59 111 40 3).1 111 11 = μ59.1 111 11 := (sv_n _ (by decide))
                  have e_136 : (sv μ59 111 40 3).1 111 2 = 0 := ((sv_n _ (by decide)).trans ((hp_61 2 (by decide)).trans ((hp_35 2 (by decide)).trans ((FL13.1 111 (by decide) 2).trans ((sv_n _ (by decide)).trans ((sv_n _ (fun h9 => absurd h9.1 (by decide))).trans ((sv_n _ (by decide)).trans ((sv_n _ (by decide)).trans ((sv_n _ (by decide)).trans ((sv_n _ (by decide)).trans ((sv_n _ (by decide)).trans ((sv_n _ (by decide)).trans (sv_s _ _ _ _)))))))))))))
                  have e_137 : (sv μ59 111 40 3).1 111 4 = μ.1 111 4 := ((sv_n _ (by decide)).trans ((hp_61 4 (by decide)).trans ((hp_35 4 (by decide)).trans ((FL13.1 111 (by decide) 4).trans ((sv_n _ (by decide)).trans ((sv_n _ (fun h9 => absurd h9.1 (by decide))).trans ((sv_n _ (by decide)).trans ((sv_n _ (by decide)).trans ((sv_n _ (by decide)).trans ((sv_n _ (by decide)).trans ((sv_n _ (by decide)).trans ((sv_n _ (by decide)).trans ((sv_n _ (by decide)).trans ((sv_n _ (by decide)).trans ((sv_n _ (by decide)).trans ((sv_n _ (by decide)).trans (sv_n _ (by decide))))))))))))))))))
                  exact xr_i G (x := (-1) - (μ59.1 111 17)) hret hlk (by unfold ir; omega) rfl dX12_load_213 ⟨(FrM.put (FrM.tr (FrM.tr (FrM.tr (FrM.put (FrM.put (FrM.put (FrM.put (FrM.put (FrM.put (FrM.put (FrM.put (FrM.put (FrM.put (FrM.put (FrM.put (FrM.put FrM.rf (by decide)) (by decide)) (by decide)) (by decide)) (by decide)) (by decide)) (by decide)) (by decide)) (by decide)) (by decide)) (by decide)) (by decide)) (by decide)) FL13 (by decide)) F_34 (by decide)) F_60 (by decide)) (by decide)), (fun j hj => ((sv_n _ (fun h9 => hj (by rw [h9.2]; decide))).trans ((hp_61 j (fun h9 => hj ((by decide : ∀ x ∈ ([6, 8, 9, 10, 11, 12, 13, 15, 16, 17, 18, 22, 29, 31, 32, 34, 35, 36, 37, 39] : List Int), x ∈ ([0, 2, 4, 6, 7, 8, 9, 10, 11, 12, 13, 14, 15, 16, 17, 18, 22, 29, 31, 32, 34, 35, 36, 37, 39, 40] : List Int)) j h9))).trans ((hp_35 j (fun h9 => hj ((by decide : ∀ x ∈ ([6, 8, 9, 10, 11, 12, 13, 15] : List Int), x ∈ ([0, 2, 4, 6, 7, 8, 9, 10, 11, 12, 13, 14, 15, 16, 17, 18, 22, 29, 31, 32, 34, 35, 36, 37, 39, 40] : List Int)) j h9))).trans ((FL13.1 111 (by decide) j).trans ((sv_n _ (fun h9 => hj (by rw [h9.2]; decide))).trans ((sv_n _ (fun h9 => absurd h9.1 (by decide))).trans ((sv_n _ (fun h9 => hj (by rw [h9.2]; decide))).trans ((sv_n _ (fun h9 => hj (by rw [h9.2]; decide))).trans ((sv_n _ (fun h9 => hj (by rw [h9.2]; decide))).trans ((sv_n _ (fun h9 => hj (by rw [h9.2]; decide))).trans ((sv_n _ (fun h9 => hj (by rw [h9.2]; decide))).trans ((sv_n _ (fun h9 => hj (by rw [h9.2]; decide))).trans ((sv_n _ (fun h9 => hj (by rw [h9.2]; decide))).trans ((sv_n _ (fun h9 => hj (by rw [h9.2]; decide))).trans ((sv_n _ (fun h9 => hj (by rw [h9.2]; decide))).trans ((sv_n _ (fun h9 => hj (by rw [h9.2]; decide))).trans (sv_n _ (fun h9 => hj (by rw [h9.2]; decide)))))))))))))))))))), ⟨by omega, by rw [show (sv μ59 111 40 3).1 111 4 = μ.1 111 4 from ((sv_n _ (by decide)).trans ((hp_61 4 (by decide)).trans ((hp_35 4 (by decide)).trans ((FL13.1 111 (by decide) 4).trans ((sv_n _ (by decide)).trans ((sv_n _ (fun h9 => absurd h9.1 (by decide))).trans ((sv_n _ (by decide)).trans ((sv_n _ (by decide)).trans ((sv_n _ (by decide)).trans ((sv_n _ (by decide)).trans ((sv_n _ (by decide)).trans ((sv_n _ (by decide)).trans ((sv_n _ (by decide)).trans ((sv_n _ (by decide)).trans ((sv_n _ (by decide)).trans ((sv_n _ (by decide)).trans (sv_n _ (by decide))))))))))))))))))]; exact hlip.cg (fun j => ((sv_n _ (by omega)).trans ((F_60.1 114 (by decide) j).trans ((F_34.1 114 (by decide) j).trans ((FL13.1 114 (by decide) j).trans ((sv_n _ (by omega)).trans ((sv_n _ (by omega)).trans ((sv_n _ (by omega)).trans ((sv_n _ (by omega)).trans ((sv_n _ (by omega)).trans ((sv_n _ (by omega)).trans ((sv_n _ (by omega)).trans ((sv_n _ (by omega)).trans ((sv_n _ (by omega)).trans ((sv_n _ (by omega)).trans ((sv_n _ (by omega)).trans ((sv_n _ (by omega)).trans (sv_n _ (by omega))))))))))))))))))), by omega, by omega, by omega, fun u u0 u1 => ((hliP u u0 u1).kp (by omega) (fun j h1 h2 => ((sv_n _ (by omega)).trans ((hlo_79 j (by omega)).1.trans ((F_34.1 115 (by decide) j).trans ((FL13.1 115 (by decide) j).trans ((sv_n _ (by omega)).trans ((sv_n _ (by omega)).trans ((sv_n _ (by omega)).trans ((sv_n _ (by omega)).trans ((sv_n _ (by omega)).trans ((sv_n _ (by omega)).trans ((sv_n _ (by omega)).trans ((sv_n _ (by omega)).trans ((sv_n _ (by omega)).trans ((sv_n _ (by omega)).trans ((sv_n _ (by omega)).trans ((sv_n _ (by omega)).trans (sv_n _ (by omega))))))))))))))))))) (fun j h1 h2 => ((sv_n _ (by omega)).trans ((hlo_79 j (by omega)).2.1.trans ((F_34.1 116 (by decide) j).trans ((FL13.1 116 (by decide) j).trans ((sv_n _ (by omega)).trans ((sv_n _ (by omega)).trans ((sv_n _ (by omega)).trans ((sv_n _ (by omega)).trans ((sv_n _ (by omega)).trans ((sv_n _ (by omega)).trans ((sv_n _ (by omega)).trans ((sv_n _ (by omega)).trans ((sv_n _ (by omega)).trans ((sv_n _ (by omega)).trans ((sv_n _ (by omega)).trans ((sv_n _ (by omega)).trans (sv_n _ (by omega))))))))))))))))))) (fun j h1 h2 => ((sv_n _ (by omega)).trans ((hlo_79 j (by omega)).2.2.trans ((F_34.1 117 (by decide) j).trans ((FL13.1 117 (by decide) j).trans ((sv_n _ (by omega)).trans ((sv_n _ (by omega)).trans ((sv_n _ (by omega)).trans ((sv_n _ (by omega)).trans ((sv_n _ (by omega)).trans ((sv_n _ (by omega)).trans ((sv_n _ (by omega)).trans ((sv_n _ (by omega)).trans ((sv_n _ (by omega)).trans ((sv_n _ (by omega)).trans ((sv_n _ (by omega)).trans ((sv_n _ (by omega)).trans (sv_n _ (by omega))))))))))))))))))) (fun j h1 h2 => ((sv_n _ (by omega)).trans ((hp_73 j (by omega)).trans ((F_34.1 119 (by decide) j).trans ((FL13.1 119 (by decide) j).trans ((sv_n _ (by omega)).trans ((sv_n _ (by omega)).trans ((sv_n _ (by omega)).trans ((sv_n _ (by omega)).trans ((sv_n _ (by omega)).trans ((sv_n _ (by omega)).trans ((sv_n _ (by omega)).trans ((sv_n _ (by omega)).trans ((sv_n _ (by omega)).trans ((sv_n _ (by omega)).trans ((sv_n _ (by omega)).trans ((sv_n _ (by omega)).trans (sv_n _ (by omega))))))))))))))))))) (fun j h1 h2 => ((sv_n _ (by omega)).trans ((hp_74 j (by omega)).trans ((F_34.1 120 (by decide) j).trans ((FL13.1 120 (by decide) j).trans ((sv_n _ (by omega)).trans ((sv_n _ (by omega)).trans ((sv_n _ (by omega)).trans ((sv_n _ (by omega)).trans ((sv_n _ (by omega)).trans ((sv_n _ (by omega)).trans ((sv_n _ (by omega)).trans ((sv_n _ (by omega)).trans ((sv_n _ (by omega)).trans ((sv_n _ (by omega)).trans ((sv_n _ (by omega)).trans ((sv_n _ (by omega)).trans (sv_n _ (by omega))))))))))))))))))) (fun j h1 h2 => ((sv_n _ (by omega)).trans ((hp_75 j (by omega)).trans ((F_34.1 121 (by decide) j).trans ((FL13.1 121 (by decide) j).trans ((sv_n _ (by omega)).trans ((sv_n _ (by omega)).trans ((sv_n _ (by omega)).trans ((sv_n _ (by omega)).trans ((sv_n _ (by omega)).trans ((sv_n _ (by omega)).trans ((sv_n _ (by omega)).trans ((sv_n _ (by omega)).trans ((sv_n _ (by omega)).trans ((sv_n _ (by omega)).trans ((sv_n _ (by omega)).trans ((sv_n _ (by omega)).trans (sv_n _ (by omega))))))))))))))))))) ((sv_n _ (by omega)).trans ((hp_76 u (by omega)).trans ((F_34.1 122 (by decide) u).trans ((FL13.1 122 (by decide) u).trans ((sv_n _ (by omega)).trans ((sv_n _ (by omega)).trans ((sv_n _ (by omega)).trans ((sv_n _ (by omega)).trans ((sv_n _ (by omega)).trans ((sv_n _ (by omega)).trans ((sv_n _ (by omega)).trans ((sv_n _ (by omega)).trans ((sv_n _ (by omega)).trans ((sv_n _ (by omega)).trans ((sv_n _ (by omega)).trans ((sv_n _ (by omega)).trans (sv_n _ (by omega)))))))))))))))))))⟩, (Or.inl ⟨by omega, by omega, by omega, by omega, ((sv_n _ (by decide)).trans ((hp_61 2 (by decide)).trans ((hp_35 2 (by decide)).trans ((FL13.1 111 (by decide) 2).trans ((sv_n _ (by decide)).trans ((sv_n _ (fun h9 => absurd h9.1 (by decide))).trans ((sv_n _ (by decide)).trans ((sv_n _ (by decide)).trans ((sv_n _ (by decide)).trans ((sv_n _ (by decide)).trans ((sv_n _ (by decide)).trans ((sv_n _ (by decide)).trans (sv_s _ _ _ _)))))))))))))⟩), (by omega)⟩
              · refine lv_iconst (v := iv 2) hx hb dX12_load_150 rfl ?_
                refine lv_goto (tgt := 167) hx hb dX12_load_151 (by decide) ?_
                refine xa_puti G fd_X12 (a := 111) (x := 2) 40 (kz := 40) rfl rfl (by decide) rfl (by unfold ir; omega) (wm 7 189 rfl rfl) ⟨rfl, rfl, rfl, rfl⟩ rfl dX12_load_167 rfl (fun H locs G => ?_)
                refine lv_aload_n hx hb dX12_load_170 rfl (lv_at hl 1 rfl) ?_
                refine xa_geti G fd_X12 (a := 111) (x := 2) 40 rfl (by decide) rfl (wm 7 189 rfl rfl) ⟨rfl, rfl, rfl⟩ dX12_load_171 rfl (sv_s _ _ _ _) ?_
                refine xb_if_le (tgt := 214) hx hb (x := 2) (by unfold ir; omega) dX12_load_174 (by decide) (fun c_174 => absurd c_174 (by decide)) (fun c_174 => ?_)
                refine lv_iconst (v := iv (-1)) hx hb dX12_load_177 rfl ?_
                refine lv_aload_n hx hb dX12_load_178 rfl (lv_at hl 1 rfl) ?_
                refine xa_geti G fd_X12 (a := 111) (x := 2) 40 rfl (by decide) rfl (wm 7 189 rfl rfl) ⟨rfl, rfl, rfl⟩ dX12_load_179 rfl (sv_s _ _ _ _) ?_
                refine lv_iconst (v := iv 1) hx hb dX12_load_182 rfl ?_
                refine xb_icmp_ne (tgt := 193) hx hb (x := 2) (y := 1) (by unfold ir; omega) (by unfold ir; omega) dX12_load_183 (by decide) (fun c_183 => ?_) (fun c_183 => absurd c_183 (by decide))
                refine lv_aload_n hx hb dX12_load_193 rfl (lv_at hl 1 rfl) ?_
                refine xa_geti G fd_X12 (a := 111) (x := 2) 40 rfl (by decide) rfl (wm 7 189 rfl rfl) ⟨rfl, rfl, rfl⟩ dX12_load_194 rfl (sv_s _ _ _ _) ?_
                refine lv_iconst (v := iv 2) hx hb dX12_load_197 rfl ?_
                refine xb_icmp_ne (tgt := 208) hx hb (x := 2) (y := 2) (by unfold ir; omega) (by unfold ir; omega) dX12_load_198 (by decide) (fun c_198 => absurd c_198 (by decide)) (fun c_198 => ?_)
                refine lv_aload_n hx hb dX12_load_201 rfl (lv_at hl 1 rfl) ?_
                refine xa_geti G fd_X12 (a := 111) (x := μ59.1 111 16) 16 rfl (by decide) rfl (wm 7 165 rfl rfl) ⟨rfl, rfl, rfl⟩ dX12_load_202 rfl (sv_n _ (by decide)) ?_
                refine lv_goto (tgt := 212) hx hb dX12_load_205 (by decide) ?_
                refine xb_isub hx hb dX12_load_212 ?_
                have e_138 : (sv μ59 111 40 2).1 111 2 = 0 := ((sv_n _ (by decide)).trans ((hp_61 2 (by decide)).trans ((hp_35 2 (by decide)).trans ((FL13.1 111 (by decide) 2).trans ((sv_n _ (by decide)).trans ((sv_n _ (fun h9 => absurd h9.1 (by decide))).trans ((sv_n _ (by decide)).trans ((sv_n _ (by decide)).trans ((sv_n _ (by decide)).trans ((sv_n _ (by decide)).trans ((sv_n _ (by decide)).trans ((sv_n _ (by decide)).trans (sv_s _ _ _ _)))))))))))))
                have e_139 : (sv μ59 111 40 2).1 111 4 = μ.1 111 4 := ((sv_n _ (by decide)).trans ((hp_61 4 (by decide)).trans ((hp_35 4 (by decide)).trans ((FL13.1 111 (by decide) 4).trans ((sv_n _ (by decide)).trans ((sv_n _ (fun h9 => absurd h9.1 (by decide))).trans ((sv_n _ (by decide)).trans ((sv_n _ (by decide)).trans ((sv_n _ (by decide)).trans ((sv_n _ (by decide)).trans ((sv_n _ (by decide)).trans ((sv_n _ (by decide)).trans ((sv_n _ (by decide)).trans ((sv_n _ (by decide)).trans ((sv_n _ (by decide)).trans ((sv_n _ (by decide)).trans (sv_n _ (by decide))))))))))))))))))
                have e_140 : (sv μ59 111 40 2).1 111 4 = μ.1 111 4 := ((sv_n _ (by decide)).trans ((hp_61 4 (by decide)).trans ((hp_35 4 (by decide)).trans ((FL13.1 111 (by decide) 4).trans ((sv_n _ (by decide)).trans ((sv_n _ (fun h9 => absurd h9.1 (by decide))).trans ((sv_n _ (by decide)).trans ((sv_n _ (by decide)).trans ((sv_n _ (by decide)).trans ((sv_n _ (by decide)).trans ((sv_n _ (by decide)).trans ((sv_n _ (by decide)).trans ((sv_n _ (by decide)).trans ((sv_n _ (by decide)).trans ((sv_n _ (by decide)).trans ((sv_n _ (by decide)).trans (sv_n _ (by decide))))))))))))))))))
                have e_141 : (sv μ59 111 40 2).1 111 31 = μ59.1 111 31 := (sv_n _ (by decide))
                have e_142 : (sv μ59 111 40 2).1 111 11 = μ59.1 111 11 := (sv_n _ (by decide))
                have e_143 : (sv μ59 111 40 2).1 111 2 = 0 := ((sv_n _ (by decide)).trans ((hp_61 2 (by decide)).trans ((hp_35 2 (by decide)).trans ((FL13.1 111 (by decide) 2).trans ((sv_n _ (by decide)).trans ((sv_n _ (fun h9 => absurd h9.1 (by decide))).trans ((sv_n _ (by decide)).trans ((sv_n _ (by decide)).trans ((sv_n _ (by decide)).trans ((sv_n _ (by decide)).trans ((sv_n _ (by decide)).trans ((sv_n _ (by decide)).trans (sv_s _ _ _ _)))))))))))))
                have e_144 : (sv μ59 111 40 2).1 111 4 = μ.1 111 4 := ((sv_n _ (by decide)).trans ((hp_61 4 (by decide)).trans ((hp_35 4 (by decide)).trans ((FL13.1 111 (by decide) 4).trans ((sv_n _ (by decide)).trans ((sv_n _ (fun h9 => absurd h9.1 (by decide))).trans ((sv_n _ (by decide)).trans ((sv_n _ (by decide)).trans ((sv_n _ (by decide)).trans ((sv_n _ (by decide)).trans ((sv_n _ (by decide)).trans ((sv_n _ (by decide)).trans ((sv_n _ (by decide)).trans ((sv_n _ (by decide)).trans ((sv_n _ (by decide)).trans ((sv_n _ (by decide)).trans (sv_n _ (by decide))))))))))))))))))
                exact xr_i G (x := (-1) - (μ59.1 111 16)) hret hlk (by unfold ir; omega) rfl dX12_load_213 ⟨(FrM.put (FrM.tr (FrM.tr (FrM.tr (FrM.put (FrM.put (FrM.put (FrM.put (FrM.put (FrM.put (FrM.put (FrM.put (FrM.put (FrM.put (FrM.put (FrM.put (FrM.put FrM.rf (by decide)) (by decide)) (by decide)) (by decide)) (by decide)) (by decide)) (by decide)) (by decide)) (by decide)) (by decide)) (by decide)) (by decide)) (by decide)) FL13 (by decide)) F_34 (by decide)) F_60 (by decide)) (by decide)), (fun j hj => ((sv_n _ (fun h9 => hj (by rw [h9.2]; decide))).trans ((hp_61 j (fun h9 => hj ((by decide : ∀ x ∈ ([6, 8, 9, 10, 11, 12, 13, 15, 16, 17, 18, 22, 29, 31, 32, 34, 35, 36, 37, 39] : List Int), x ∈ ([0, 2, 4, 6, 7, 8, 9, 10, 11, 12, 13, 14, 15, 16, 17, 18, 22, 29, 31, 32, 34, 35, 36, 37, 39, 40] : List Int)) j h9))).trans ((hp_35 j (fun h9 => hj ((by decide : ∀ x ∈ ([6, 8, 9, 10, 11, 12, 13, 15] : List Int), x ∈ ([0, 2, 4, 6, 7, 8, 9, 10, 11, 12, 13, 14, 15, 16, 17, 18, 22, 29, 31, 32, 34, 35, 36, 37, 39, 40] : List Int)) j h9))).trans ((FL13.1 111 (by decide) j).trans ((sv_n _ (fun h9 => hj (by rw [h9.2]; decide))).trans ((sv_n _ (fun h9 => absurd h9.1 (by decide))).trans ((sv_n _ (fun h9 => hj (by rw [h9.2]; decide))).trans ((sv_n _ (fun h9 => hj (by rw [h9.2]; decide))).trans ((sv_n _ (fun h9 => hj (by rw [h9.2]; decide))).trans ((sv_n _ (fun h9 => hj (by rw [h9.2]; decide))).trans ((sv_n _ (fun h9 => hj (by rw [h9.2]; decide))).trans ((sv_n _ (fun h9 => hj (by rw [h9.2]; decide))).trans ((sv_n _ (fun h9 => hj (by rw [h9.2]; decide))).trans ((sv_n _ (fun h9 => hj (by rw [h9.2]; decide))).trans ((sv_n _ (fun h9 => hj (by rw [h9.2]; decide))).trans ((sv_n _ (fun h9 => hj (by rw [h9.2]; decide))).trans (sv_n _ (fun h9 => hj (by rw [h9.2]; decide)))))))))))))))))))), ⟨by omega, by rw [show (sv μ59 111 40 2).1 111 4 = μ.1 111 4 from ((sv_n _ (by decide)).trans ((hp_61 4 (by decide)).trans ((hp_35 4 (by decide)).trans ((FL13.1 111 (by decide) 4).trans ((sv_n _ (by decide)).trans ((sv_n _ (fun h9 => absurd h9.1 (by decide))).trans ((sv_n _ (by decide)).trans ((sv_n _ (by decide)).trans ((sv_n _ (by decide)).trans ((sv_n _ (by decide)).trans ((sv_n _ (by decide)).trans ((sv_n _ (by decide)).trans ((sv_n _ (by decide)).trans ((sv_n _ (by decide)).trans ((sv_n _ (by decide)).trans ((sv_n _ (by decide)).trans (sv_n _ (by decide))))))))))))))))))]; exact hlip.cg (fun j => ((sv_n _ (by omega)).trans ((F_60.1 114 (by decide) j).trans ((F_34.1 114 (by decide) j).trans ((FL13.1 114 (by decide) j).trans ((sv_n _ (by omega)).trans ((sv_n _ (by omega)).trans ((sv_n _ (by omega)).trans ((sv_n _ (by omega)).trans ((sv_n _ (by omega)).trans ((sv_n _ (by omega)).trans ((sv_n _ (by omega)).trans ((sv_n _ (by omega)).trans ((sv_n _ (by omega)).trans ((sv_n _ (by omega)).trans ((sv_n _ (by omega)).trans ((sv_n _ (by omega)).trans (sv_n _ (by omega))))))))))))))))))), by omega, by omega, by omega, fun u u0 u1 => ((hliP u u0 u1).kp (by omega) (fun j h1 h2 => ((sv_n _ (by omega)).trans ((hlo_79 j (by omega)).1.trans ((F_34.1 115 (by decide) j).trans ((FL13.1 115 (by decide) j).trans ((sv_n _ (by omega)).trans ((sv_n _ (by omega)).trans ((sv_n _ (by omega)).trans ((sv_n _ (by omega)).trans ((sv_n _ (by omega)).trans ((sv_n _ (by omega)).trans ((sv_n _ (by omega)).trans ((sv_n _ (by omega)).trans ((sv_n _ (by omega)).trans ((sv_n _ (by omega)).trans ((sv_n _ (by omega)).trans ((sv_n _ (by omega)).trans (sv_n _ (by omega))))))))))))))))))) (fun j h1 h2 => ((sv_n _ (by omega)).trans ((hlo_79 j (by omega)).2.1.trans ((F_34.1 116 (by decide) j).trans ((FL13.1 116 (by decide) j).trans ((sv_n _ (by omega)).trans ((sv_n _ (by omega)).trans ((sv_n _ (by omega)).trans ((sv_n _ (by omega)).trans ((sv_n _ (by omega)).trans ((sv_n _ (by omega)).trans ((sv_n _ (by omega)).trans ((sv_n _ (by omega)).trans ((sv_n _ (by omega)).trans ((sv_n _ (by omega)).trans ((sv_n _ (by omega)).trans ((sv_n _ (by omega)).trans (sv_n _ (by omega))))))))))))))))))) (fun j h1 h2 => ((sv_n _ (by omega)).trans ((hlo_79 j (by omega)).2.2.trans ((F_34.1 117 (by decide) j).trans ((FL13.1 117 (by decide) j).trans ((sv_n _ (by omega)).trans ((sv_n _ (by omega)).trans ((sv_n _ (by omega)).trans ((sv_n _ (by omega)).trans ((sv_n _ (by omega)).trans ((sv_n _ (by omega)).trans ((sv_n _ (by omega)).trans ((sv_n _ (by omega)).trans ((sv_n _ (by omega)).trans ((sv_n _ (by omega)).trans ((sv_n _ (by omega)).trans ((sv_n _ (by omega)).trans (sv_n _ (by omega))))))))))))))))))) (fun j h1 h2 => ((sv_n _ (by omega)).trans ((hp_73 j (by omega)).trans ((F_34.1 119 (by decide) j).trans ((FL13.1 119 (by decide) j).trans ((sv_n _ (by omega)).trans ((sv_n _ (by omega)).trans ((sv_n _ (by omega)).trans ((sv_n _ (by omega)).trans ((sv_n _ (by omega)).trans ((sv_n _ (by omega)).trans ((sv_n _ (by omega)).trans ((sv_n _ (by omega)).trans ((sv_n _ (by omega)).trans ((sv_n _ (by omega)).trans ((sv_n _ (by omega)).trans ((sv_n _ (by omega)).trans (sv_n _ (by omega))))))))))))))))))) (fun j h1 h2 => ((sv_n _ (by omega)).trans ((hp_74 j (by omega)).trans ((F_34.1 120 (by decide) j).trans ((FL13.1 120 (by decide) j).trans ((sv_n _ (by omega)).trans ((sv_n _ (by omega)).trans ((sv_n _ (by omega)).trans ((sv_n _ (by omega)).trans ((sv_n _ (by omega)).trans ((sv_n _ (by omega)).trans ((sv_n _ (by omega)).trans ((sv_n _ (by omega)).trans ((sv_n _ (by omega)).trans ((sv_n _ (by omega)).trans ((sv_n _ (by omega)).trans ((sv_n _ (by omega)).trans (sv_n _ (by omega))))))))))))))))))) (fun j h1 h2 => ((sv_n _ (by omega)).trans ((hp_75 j (by omega)).trans ((F_34.1 121 (by decide) j).trans ((FL13.1 121 (by decide) j).trans ((sv_n _ (by omega)).trans ((sv_n _ (by omega)).trans ((sv_n _ (by omega)).trans ((sv_n _ (by omega)).trans ((sv_n _ (by omega)).trans ((sv_n _ (by omega)).trans ((sv_n _ (by omega)).trans ((sv_n _ (by omega)).trans ((sv_n _ (by omega)).trans ((sv_n _ (by omega)).trans ((sv_n _ (by omega)).trans ((sv_n _ (by omega)).trans (sv_n _ (by omega))))))))))))))))))) ((sv_n _ (by omega)).trans ((hp_76 u (by omega)).trans ((F_34.1 122 (by decide) u).trans ((FL13.1 122 (by decide) u).trans ((sv_n _ (by omega)).trans ((sv_n _ (by omega)).trans ((sv_n _ (by omega)).trans ((sv_n _ (by omega)).trans ((sv_n _ (by omega)).trans ((sv_n _ (by omega)).trans ((sv_n _ (by omega)).trans ((sv_n _ (by omega)).trans ((sv_n _ (by omega)).trans ((sv_n _ (by omega)).trans ((sv_n _ (by omega)).trans ((sv_n _ (by omega)).trans (sv_n _ (by omega)))))))))))))))))))⟩, (Or.inl ⟨by omega, by omega, by omega, by omega, ((sv_n _ (by decide)).trans ((hp_61 2 (by decide)).trans ((hp_35 2 (by decide)).trans ((FL13.1 111 (by decide) 2).trans ((sv_n _ (by decide)).trans ((sv_n _ (fun h9 => absurd h9.1 (by decide))).trans ((sv_n _ (by decide)).trans ((sv_n _ (by decide)).trans ((sv_n _ (by decide)).trans ((sv_n _ (by decide)).trans ((sv_n _ (by decide)).trans ((sv_n _ (by decide)).trans (sv_s _ _ _ _)))))))))))))⟩), (by omega)⟩
            · refine lv_iconst (v := iv 1) hx hb dX12_load_138 rfl ?_
              refine lv_goto (tgt := 167) hx hb dX12_load_139 (by decide) ?_
              refine xa_puti G fd_X12 (a := 111) (x := 1) 40 (kz := 40) rfl rfl (by decide) rfl (by unfold ir; omega) (wm 7 189 rfl rfl) ⟨rfl, rfl, rfl, rfl⟩ rfl dX12_load_167 rfl (fun H locs G => ?_)
              refine lv_aload_n hx hb dX12_load_170 rfl (lv_at hl 1 rfl) ?_
              refine xa_geti G fd_X12 (a := 111) (x := 1) 40 rfl (by decide) rfl (wm 7 189 rfl rfl) ⟨rfl, rfl, rfl⟩ dX12_load_171 rfl (sv_s _ _ _ _) ?_
              refine xb_if_le (tgt := 214) hx hb (x := 1) (by unfold ir; omega) dX12_load_174 (by decide) (fun c_174 => absurd c_174 (by decide)) (fun c_174 => ?_)
              refine lv_iconst (v := iv (-1)) hx hb dX12_load_177 rfl ?_
              refine lv_aload_n hx hb dX12_load_178 rfl (lv_at hl 1 rfl) ?_
              refine xa_geti G fd_X12 (a := 111) (x := 1) 40 rfl (by decide) rfl (wm 7 189 rfl rfl) ⟨rfl, rfl, rfl⟩ dX12_load_179 rfl (sv_s _ _ _ _) ?_
              refine lv_iconst (v := iv 1) hx hb dX12_load_182 rfl ?_
              refine xb_icmp_ne (tgt := 193) hx hb (x := 1) (y := 1) (by unfold ir; omega) (by unfold ir; omega) dX12_load_183 (by decide) (fun c_183 => absurd c_183 (by decide)) (fun c_183 => ?_)
              refine lv_aload_n hx hb dX12_load_186 rfl (lv_at hl 1 rfl) ?_
              refine xa_geti G fd_X12 (a := 111) (x := μ59.1 111 15) 15 rfl (by decide) rfl (wm 7 164 rfl rfl) ⟨rfl, rfl, rfl⟩ dX12_load_187 rfl (sv_n _ (by decide)) ?_
              refine lv_goto (tgt := 212) hx hb dX12_load_190 (by decide) ?_
              refine xb_isub hx hb dX12_load_212 ?_
              have e_145 : (sv μ59 111 40 1).1 111 2 = 0 := ((sv_n _ (by decide)).trans ((hp_61 2 (by decide)).trans ((hp_35 2 (by decide)).trans ((FL13.1 111 (by decide) 2).trans ((sv_n _ (by decide)).trans ((sv_n _ (fun h9 => absurd h9.1 (by decide))).trans ((sv_n _ (by decide)).trans ((sv_n _ (by decide)).trans ((sv_n _ (by decide)).trans ((sv_n _ (by decide)).trans ((sv_n _ (by decide)).trans ((sv_n _ (by decide)).trans (sv_s _ _ _ _)))))))))))))
              have e_146 : (sv μ59 111 40 1).1 111 4 = μ.1 111 4 := ((sv_n _ (by decide)).trans ((hp_61 4 (by decide)).trans ((hp_35 4 (by decide)).trans ((FL13.1 111 (by decide) 4).trans ((sv_n _ (by decide)).trans ((sv_n _ (fun h9 => absurd h9.1 (by decide))).trans ((sv_n _ (by decide)).trans ((sv_n _ (by decide)).trans ((sv_n _ (by decide)).trans ((sv_n _ (by decide)).trans ((sv_n _ (by decide)).trans ((sv_n _ (by decide)).trans ((sv_n _ (by decide)).trans ((sv_n _ (by decide)).trans ((sv_n _ (by decide)).trans ((sv_n _ (by decide)).trans (sv_n _ (by decide))))))))))))))))))
              have e_147 : (sv μ59 111 40 1).1 111 4 = μ.1 111 4 := ((sv_n _ (by decide)).trans ((hp_61 4 (by decide)).trans ((hp_35 4 (by decide)).trans ((FL13.1 111 (by decide) 4).trans ((sv_n _ (by decide)).trans ((sv_n _ (fun h9 => absurd h9.1 (by decide))).trans ((sv_n _ (by decide)).trans ((sv_n _ (by decide)).trans ((sv_n _ (by decide)).trans ((sv_n _ (by decide)).trans ((sv_n _ (by decide)).trans ((sv_n _ (by decide)).trans ((sv_n _ (by decide)).trans ((sv_n _ (by decide)).trans ((sv_n _ (by decide)).trans ((sv_n _ (by decide)).trans (sv_n _ (by decide))))))))))))))))))
              have e_148 : (sv μ59 111 40 1).1 111 31 = μ59.1 111 31 := (sv_n _ (by decide))
              have e_149 : (sv μ59 111 40 1).1 111 11 = μ59.1 111 11 := (sv_n _ (by decide))
              have e_150 : (sv μ59 111 40 1).1 111 2 = 0 := ((sv_n _ (by decide)).trans ((hp_61 2 (by decide)).trans ((hp_35 2 (by decide)).trans ((FL13.1 111 (by decide) 2).trans ((sv_n _ (by decide)).trans ((sv_n _ (fun h9 => absurd h9.1 (by decide))).trans ((sv_n _ (by decide)).trans ((sv_n _ (by decide)).trans ((sv_n _ (by decide)).trans ((sv_n _ (by decide)).trans ((sv_n _ (by decide)).trans ((sv_n _ (by decide)).trans (sv_s _ _ _ _)))))))))))))
              have e_151 : (sv μ59 111 40 1).1 111 4 = μ.1 111 4 := ((sv_n _ (by decide)).trans ((hp_61 4 (by decide)).trans ((hp_35 4 (by decide)).trans ((FL13.1 111 (by decide) 4).trans ((sv_n _ (by decide)).trans ((sv_n _ (fun h9 => absurd h9.1 (by decide))).trans ((sv_n _ (by decide)).trans ((sv_n _ (by decide)).trans ((sv_n _ (by decide)).trans ((sv_n _ (by decide)).trans ((sv_n _ (by decide)).trans ((sv_n _ (by decide)).trans ((sv_n _ (by decide)).trans ((sv_n _ (by decide)).trans ((sv_n _ (by decide)).trans ((sv_n _ (by decide)).trans (sv_n _ (by decide))))))))))))))))))
              exact xr_i G (x := (-1) - (μ59.1 111 15)) hret hlk (by unfold ir; omega) rfl dX12_load_213 ⟨(FrM.put (FrM.tr (FrM.tr (FrM.tr (FrM.put (FrM.put (FrM.put (FrM.put (FrM.put (FrM.put (FrM.put (FrM.put (FrM.put (FrM.put (FrM.put (FrM.put (FrM.put FrM.rf (by decide)) (by decide)) (by decide)) (by decide)) (by decide)) (by decide)) (by decide)) (by decide)) (by decide)) (by decide)) (by decide)) (by decide)) (by decide)) FL13 (by decide)) F_34 (by decide)) F_60 (by decide)) (by decide)), (fun j hj => ((sv_n _ (fun h9 => hj (by rw [h9.2]; decide))).trans ((hp_61 j (fun h9 => hj ((by decide : ∀ x ∈ ([6, 8, 9, 10, 11, 12, 13, 15, 16, 17, 18, 22, 29, 31, 32, 34, 35, 36, 37, 39] : List Int), x ∈ ([0, 2, 4, 6, 7, 8, 9, 10, 11, 12, 13, 14, 15, 16, 17, 18, 22, 29, 31, 32, 34, 35, 36, 37, 39, 40] : List Int)) j h9))).trans ((hp_35 j (fun h9 => hj ((by decide : ∀ x ∈ ([6, 8, 9, 10, 11, 12, 13, 15] : List Int), x ∈ ([0, 2, 4, 6, 7, 8, 9, 10, 11, 12, 13, 14, 15, 16, 17, 18, 22, 29, 31, 32, 34, 35, 36, 37, 39, 40] : List Int)) j h9))).trans ((FL13.1 111 (by decide) j).trans ((sv_n _ (fun h9 => hj (by rw [h9.2]; decide))).trans ((sv_n _ (fun h9 => absurd h9.1 (by decide))).trans ((sv_n _ (fun h9 => hj (by rw [h9.2]; decide))).trans ((sv_n _ (fun h9 => hj (by rw [h9.2]; decide))).trans ((sv_n _ (fun h9 => hj (by rw [h9.2]; decide))).trans ((sv_n _ (fun h9 => hj (by rw [h9.2]; decide))).trans ((sv_n _ (fun h9 => hj (by rw [h9.2]; decide))).trans ((sv_n _ (fun h9 => hj (by rw [h9.2]; decide))).trans ((sv_n _ (fun h9 => hj (by rw [h9.2]; decide))).trans ((sv_n _ (fun h9 => hj (by rw [h9.2]; decide))).trans ((sv_n _ (fun h9 => hj (by rw [h9.2]; decide))).trans ((sv_n _ (fun h9 => hj (by rw [h9.2]; decide))).trans (sv_n _ (fun h9 => hj (by rw [h9.2]; decide)))))))))))))))))))), ⟨by omega, by rw [show (sv μ59 111 40 1).1 111 4 = μ.1 111 4 from ((sv_n _ (by decide)).trans ((hp_61 4 (by decide)).trans ((hp_35 4 (by decide)).trans ((FL13.1 111 (by decide) 4).trans ((sv_n _ (by decide)).trans ((sv_n _ (fun h9 => absurd h9.1 (by decide))).trans ((sv_n _ (by decide)).trans ((sv_n _ (by decide)).trans ((sv_n _ (by decide)).trans ((sv_n _ (by decide)).trans ((sv_n _ (by decide)).trans ((sv_n _ (by decide)).trans ((sv_n _ (by decide)).trans ((sv_n _ (by decide)).trans ((sv_n _ (by decide)).trans ((sv_n _ (by decide)).trans (sv_n _ (by decide))))))))))))))))))]; exact hlip.cg (fun j => ((sv_n _ (by omega)).trans ((F_60.1 114 (by decide) j).trans ((F_34.1 114 (by decide) j).trans ((FL13.1 114 (by decide) j).trans ((sv_n _ (by omega)).trans ((sv_n _ (by omega)).trans ((sv_n _ (by omega)).trans ((sv_n _ (by omega)).trans ((sv_n _ (by omega)).trans ((sv_n _ (by omega)).trans ((sv_n _ (by omega)).trans ((sv_n _ (by omega)).trans ((sv_n _ (by omega)).trans ((sv_n _ (by omega)).trans ((sv_n _ (by omega)).trans ((sv_n _ (by omega)).trans (sv_n _ (by omega))))))))))))))))))), by omega, by omega, by omega, fun u u0 u1 => ((hliP u u0 u1).kp (by omega) (fun j h1 h2 => ((sv_n _ (by omega)).trans ((hlo_79 j (by omega)).1.trans ((F_34.1 115 (by decide) j).trans ((FL13.1 115 (by decide) j).trans ((sv_n _ (by omega)).trans ((sv_n _ (by omega)).trans ((sv_n _ (by omega)).trans ((sv_n _ (by omega)).trans ((sv_n _ (by omega)).trans ((sv_n _ (by omega)).trans ((sv_n _ (by omega)).trans ((sv_n _ (by omega)).trans ((sv_n _ (by omega)).trans ((sv_n _ (by omega)).trans ((sv_n _ (by omega)).trans ((sv_n _ (by omega)).trans (sv_n _ (by omega))))))))))))))))))) (fun j h1 h2 => ((sv_n _ (by omega)).trans ((hlo_79 j (by omega)).2.1.trans ((F_34.1 116 (by decide) j).trans ((FL13.1 116 (by decide) j).trans ((sv_n _ (by omega)).trans ((sv_n _ (by omega)).trans ((sv_n _ (by omega)).trans ((sv_n _ (by omega)).trans ((sv_n _ (by omega)).trans ((sv_n _ (by omega)).trans ((sv_n _ (by omega)).trans ((sv_n _ (by omega)).trans ((sv_n _ (by omega)).trans ((sv_n _ (by omega)).trans ((sv_n _ (by omega)).trans ((sv_n _ (by omega)).trans (sv_n _ (by omega))))))))))))))))))) (fun j h1 h2 => ((sv_n _ (by omega)).trans ((hlo_79 j (by omega)).2.2.trans ((F_34.1 117 (by decide) j).trans ((FL13.1 117 (by decide) j).trans ((sv_n _ (by omega)).trans ((sv_n _ (by omega)).trans ((sv_n _ (by omega)).trans ((sv_n _ (by omega)).trans ((sv_n _ (by omega)).trans ((sv_n _ (by omega)).trans ((sv_n _ (by omega)).trans ((sv_n _ (by omega)).trans ((sv_n _ (by omega)).trans ((sv_n _ (by omega)).trans ((sv_n _ (by omega)).trans ((sv_n _ (by omega)).trans (sv_n _ (by omega))))))))))))))))))) (fun j h1 h2 => ((sv_n _ (by omega)).trans ((hp_73 j (by omega)).trans ((F_34.1 119 (by decide) j).trans ((FL13.1 119 (by decide) j).trans ((sv_n _ (by omega)).trans ((sv_n _ (by omega)).trans ((sv_n _ (by omega)).trans ((sv_n _ (by omega)).trans ((sv_n _ (by omega)).trans ((sv_n _ (by omega)).trans ((sv_n _ (by omega)).trans ((sv_n _ (by omega)).trans ((sv_n _ (by omega)).trans ((sv_n _ (by omega)).trans ((sv_n _ (by omega)).trans ((sv_n _ (by omega)).trans (sv_n _ (by omega))))))))))))))))))) (fun j h1 h2 => ((sv_n _ (by omega)).trans ((hp_74 j (by omega)).trans ((F_34.1 120 (by decide) j).trans ((FL13.1 120 (by decide) j).trans ((sv_n _ (by omega)).trans ((sv_n _ (by omega)).trans ((sv_n _ (by omega)).trans ((sv_n _ (by omega)).trans ((sv_n _ (by omega)).trans ((sv_n _ (by omega)).trans ((sv_n _ (by omega)).trans ((sv_n _ (by omega)).trans ((sv_n _ (by omega)).trans ((sv_n _ (by omega)).trans ((sv_n _ (by omega)).trans ((sv_n _ (by omega)).trans (sv_n _ (by omega))))))))))))))))))) (fun j h1 h2 => ((sv_n _ (by omega)).trans ((hp_75 j (by omega)).trans ((F_34.1 121 (by decide) j).trans ((FL13.1 121 (by decide) j).trans ((sv_n _ (by omega)).trans ((sv_n _ (by omega)).trans ((sv_n _ (by omega)).trans ((sv_n _ (by omega)).trans ((sv_n _ (by omega)).trans ((sv_n _ (by omega)).trans ((sv_n _ (by omega)).trans ((sv_n _ (by omega)).trans ((sv_n _ (by omega)).trans ((sv_n _ (by omega)).trans ((sv_n _ (by omega)).trans ((sv_n _ (by omega)).trans (sv_n _ (by omega))))))))))))))))))) ((sv_n _ (by omega)).trans ((hp_76 u (by omega)).trans ((F_34.1 122 (by decide) u).trans ((FL13.1 122 (by decide) u).trans ((sv_n _ (by omega)).trans ((sv_n _ (by omega)).trans ((sv_n _ (by omega)).trans ((sv_n _ (by omega)).trans ((sv_n _ (by omega)).trans ((sv_n _ (by omega)).trans ((sv_n _ (by omega)).trans ((sv_n _ (by omega)).trans ((sv_n _ (by omega)).trans ((sv_n _ (by omega)).trans ((sv_n _ (by omega)).trans ((sv_n _ (by omega)).trans (sv_n _ (by omega)))))))))))))))))))⟩, (Or.inl ⟨by omega, by omega, by omega, by omega, ((sv_n _ (by decide)).trans ((hp_61 2 (by decide)).trans ((hp_35 2 (by decide)).trans ((FL13.1 111 (by decide) 2).trans ((sv_n _ (by decide)).trans ((sv_n _ (fun h9 => absurd h9.1 (by decide))).trans ((sv_n _ (by decide)).trans ((sv_n _ (by decide)).trans ((sv_n _ (by decide)).trans ((sv_n _ (by decide)).trans ((sv_n _ (by decide)).trans ((sv_n _ (by decide)).trans (sv_s _ _ _ _)))))))))))))⟩), (by omega)⟩
          · refine lv_aload_n hx hb dX12_load_103 rfl (lv_at hl 1 rfl) ?_
            refine xa_getr G fd_X12 (a := 111) (x := 123) 28 rfl (by decide) rfl (wm 7 177 rfl rfl) ⟨rfl, rfl, rfl⟩ dX12_load_104 rfl (G.sk 121 rfl) (by decide) rfl ?_
            refine lv_iload_n hx hb dX12_load_107 rfl (lv_at hl 0 rfl) ?_
            refine lv_aload_n hx hb dX12_load_108 rfl (lv_at hl 1 rfl) ?_
            refine xa_getr G fd_X12 (a := 111) (x := 114) 5 rfl (by decide) rfl (wm 7 154 rfl rfl) ⟨rfl, rfl, rfl⟩ dX12_load_109 rfl (G.sk 112 rfl) (by decide) rfl ?_
            refine lv_iload_n hx hb dX12_load_112 rfl (lv_at hl 0 rfl) ?_
            refine xa_iald G (a := 114) (i := k9) rfl (by have h9 := G.lc (a := 114) (n := 64) 52 rfl; omega) dX12_load_113 rfl ?_
            refine xb_ti (y := μ.1 114 k9) ((FL13.1 114 (by decide) k9).trans ((sv_n _ (fun h9 => absurd h9.1 (by decide))).trans ((sv_n _ (fun h9 => absurd h9.1 (by decide))).trans ((sv_n _ (fun h9 => absurd h9.1 (by decide))).trans ((sv_n _ (fun h9 => absurd h9.1 (by decide))).trans ((sv_n _ (fun h9 => absurd h9.1 (by decide))).trans ((sv_n _ (fun h9 => absurd h9.1 (by decide))).trans ((sv_n _ (fun h9 => absurd h9.1 (by decide))).trans ((sv_n _ (fun h9 => absurd h9.1 (by decide))).trans ((sv_n _ (fun h9 => absurd h9.1 (by decide))).trans ((sv_n _ (fun h9 => absurd h9.1 (by decide))).trans ((sv_n _ (fun h9 => absurd h9.1 (by decide))).trans ((sv_n _ (fun h9 => absurd h9.1 (by decide))).trans (sv_n _ (fun h9 => absurd h9.1 (by decide)))))))))))))))) ?_
            have hr_152 : -2147483648 ≤ μ.1 114 k9 ∧ μ.1 114 k9 ≤ 2147483647 := by have h9 := G.hr (a := 114) (k := k9) rfl; rw [((FL13.1 114 (by decide) k9).trans ((sv_n _ (fun h9 => absurd h9.1 (by decide))).trans ((sv_n _ (fun h9 => absurd h9.1 (by decide))).trans ((sv_n _ (fun h9 => absurd h9.1 (by decide))).trans ((sv_n _ (fun h9 => absurd h9.1 (by decide))).trans ((sv_n _ (fun h9 => absurd h9.1 (by decide))).trans ((sv_n _ (fun h9 => absurd h9.1 (by decide))).trans ((sv_n _ (fun h9 => absurd h9.1 (by decide))).trans ((sv_n _ (fun h9 => absurd h9.1 (by decide))).trans ((sv_n _ (fun h9 => absurd h9.1 (by decide))).trans ((sv_n _ (fun h9 => absurd h9.1 (by decide))).trans ((sv_n _ (fun h9 => absurd h9.1 (by decide))).trans ((sv_n _ (fun h9 => absurd h9.1 (by decide))).trans (sv_n _ (fun h9 => absurd h9.1 (by decide))))))))))))))))] at h9; exact h9
            refine xa_iast G (a := 123) (i := k9) (x := μ.1 114 k9) rfl (by have h9 := G.lc (a := 123) (n := 64) 61 rfl; omega) (by unfold ir; omega) dX12_load_114 rfl (fun H locs G => ?_)
            refine lv_iinc (v := iv (k9 + 1)) (lv' := [(3, .int (iv (k9 + 1))), (0, .ref (oP ω 111)), (1, .int (iv x1)), (2, .int (iv x2))]) hx hb dX12_load_115 hl (k := 0) rfl (by rw [show Int32.ofInt 1 = iv 1 from rfl, iv_add]) (by decide) rfl (fun ls hl => ?_)
            refine lv_goto (tgt := 97) hx hb dX12_load_118 (by decide) ?_
            exact ih _ _ _ _ _ _ _ (by omega) ⟨k9 + 1, (FrM.put FL13 (by decide)), (by omega), (by omega), (fun j h1 h2 => by by_cases h9 : j = k9; (rw [h9]; exact ((sv_s _ _ _ _).trans (((sv_n _ (fun h9 => absurd h9.1 (by decide))).trans ((FL13.1 114 (by decide) k9).trans ((sv_n _ (fun h9 => absurd h9.1 (by decide))).trans ((sv_n _ (fun h9 => absurd h9.1 (by decide))).trans ((sv_n _ (fun h9 => absurd h9.1 (by decide))).trans ((sv_n _ (fun h9 => absurd h9.1 (by decide))).trans ((sv_n _ (fun h9 => absurd h9.1 (by decide))).trans ((sv_n _ (fun h9 => absurd h9.1 (by decide))).trans ((sv_n _ (fun h9 => absurd h9.1 (by decide))).trans ((sv_n _ (fun h9 => absurd h9.1 (by decide))).trans ((sv_n _ (fun h9 => absurd h9.1 (by decide))).trans ((sv_n _ (fun h9 => absurd h9.1 (by decide))).trans ((sv_n _ (fun h9 => absurd h9.1 (by decide))).trans ((sv_n _ (fun h9 => absurd h9.1 (by decide))).trans (sv_n _ (fun h9 => absurd h9.1 (by decide)))))))))))))))))).symm)); exact ((sv_n _ (by omega)).trans ((hi_17 j h1 (by omega)).trans ((sv_n _ (by omega))).symm))), rfl, lv_sub hl [0, 1, 2, 3] rfl⟩ G
        · refine lv_sipush (v := iv (-5000)) hx hb dX12_load_26 rfl ?_
          have e_153 : (sv μ 111 0 0).1 111 2 = μ.1 111 2 := (sv_n _ (by decide))
          have e_154 : (sv μ 111 0 0).1 111 4 = μ.1 111 4 := (sv_n _ (by decide))
          have e_155 : (sv μ 111 0 0).1 111 4 = μ.1 111 4 := (sv_n _ (by decide))
          exact xr_i G (x := (-5000)) hret hlk (by unfold ir; omega) rfl dX12_load_29 ⟨(FrM.put FrM.rf (by decide)), (fun j hj => (sv_n _ (fun h9 => hj (by rw [h9.2]; decide)))), (mLI.cg hLI (sv_n _ (by decide)) (sv_n _ (by decide)) (sv_n _ (by decide)) (sv_n _ (by decide)) (fun j => (sv_n _ (by omega))) (fun j => (sv_n _ (by omega))) (fun j => (sv_n _ (by omega))) (fun j => (sv_n _ (by omega))) (fun j => (sv_n _ (by omega))) (fun j => (sv_n _ (by omega))) (fun j => (sv_n _ (by omega))) (fun j => (sv_n _ (by omega)))), (Or.inr ⟨by omega, (sv_n _ (by decide))⟩), (by omega)⟩
