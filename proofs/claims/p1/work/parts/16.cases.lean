abbrev cL_law : ByteArray := code
theorem dL_law_18 : decode cL_law 18 = .ok (.iload_n 3, 1) := by decide +kernel
theorem dL_law_19 : decode cL_law 19 = .ok (.aload_n 0, 1) := by decide +kernel
theorem dL_law_20 : decode cL_law 20 = .ok (.arraylength, 1) := by decide +kernel
theorem dL_law_21 : decode cL_law 21 = .ok (.bipush 6, 2) := by decide +kernel
theorem dL_law_23 : decode cL_law 23 = .ok (.isub, 1) := by decide +kernel
theorem dL_law_24 : decode cL_law 24 = .ok (.if_icmp .gt 553, 3) := by decide +kernel
theorem dL_law_100 : decode cL_law 100 = .ok (.aload_n 1, 1) := by decide +kernel
theorem dL_law_101 : decode cL_law 101 = .ok (.aload_n 0, 1) := by decide +kernel
theorem dL_law_102 : decode cL_law 102 = .ok (.iload_n 3, 1) := by decide +kernel
theorem dL_law_103 : decode cL_law 103 = .ok (.iconst 1, 1) := by decide +kernel
theorem dL_law_104 : decode cL_law 104 = .ok (.iadd, 1) := by decide +kernel
theorem dL_law_105 : decode cL_law 105 = .ok (.iaload, 1) := by decide +kernel
theorem dL_law_106 : decode cL_law 106 = .ok (.aload_n 0, 1) := by decide +kernel
theorem dL_law_107 : decode cL_law 107 = .ok (.iload_n 3, 1) := by decide +kernel
theorem dL_law_108 : decode cL_law 108 = .ok (.iconst 2, 1) := by decide +kernel
theorem dL_law_109 : decode cL_law 109 = .ok (.iadd, 1) := by decide +kernel
theorem dL_law_110 : decode cL_law 110 = .ok (.iaload, 1) := by decide +kernel
theorem dL_law_111 : decode cL_law 111 = .ok (.aload_n 0, 1) := by decide +kernel
theorem dL_law_112 : decode cL_law 112 = .ok (.iload_n 3, 1) := by decide +kernel
theorem dL_law_113 : decode cL_law 113 = .ok (.iconst 3, 1) := by decide +kernel
theorem dL_law_114 : decode cL_law 114 = .ok (.iadd, 1) := by decide +kernel
theorem dL_law_115 : decode cL_law 115 = .ok (.iaload, 1) := by decide +kernel
theorem dL_law_116 : decode cL_law 116 = .ok (.aload_n 0, 1) := by decide +kernel
theorem dL_law_117 : decode cL_law 117 = .ok (.iload_n 3, 1) := by decide +kernel
theorem dL_law_118 : decode cL_law 118 = .ok (.iconst 4, 1) := by decide +kernel
theorem dL_law_119 : decode cL_law 119 = .ok (.iadd, 1) := by decide +kernel
theorem dL_law_120 : decode cL_law 120 = .ok (.iaload, 1) := by decide +kernel
theorem dL_law_121 : decode cL_law 121 = .ok (.aload_n 0, 1) := by decide +kernel
theorem dL_law_122 : decode cL_law 122 = .ok (.iload_n 3, 1) := by decide +kernel
theorem dL_law_123 : decode cL_law 123 = .ok (.iconst 5, 1) := by decide +kernel
theorem dL_law_124 : decode cL_law 124 = .ok (.iadd, 1) := by decide +kernel
theorem dL_law_125 : decode cL_law 125 = .ok (.iaload, 1) := by decide +kernel
theorem dL_law_126 : decode cL_law 126 = .ok (.invokevirtual 13, 3) := by decide +kernel
theorem dL_law_129 : decode cL_law 129 = .ok (.aload_n 2, 1) := by decide +kernel
theorem dL_law_130 : decode cL_law 130 = .ok (.aload_n 0, 1) := by decide +kernel
theorem dL_law_131 : decode cL_law 131 = .ok (.iload_n 3, 1) := by decide +kernel
theorem dL_law_132 : decode cL_law 132 = .ok (.iconst 1, 1) := by decide +kernel
theorem dL_law_133 : decode cL_law 133 = .ok (.iadd, 1) := by decide +kernel
theorem dL_law_134 : decode cL_law 134 = .ok (.iaload, 1) := by decide +kernel
theorem dL_law_135 : decode cL_law 135 = .ok (.aload_n 0, 1) := by decide +kernel
theorem dL_law_136 : decode cL_law 136 = .ok (.iload_n 3, 1) := by decide +kernel
theorem dL_law_137 : decode cL_law 137 = .ok (.iconst 2, 1) := by decide +kernel
theorem dL_law_138 : decode cL_law 138 = .ok (.iadd, 1) := by decide +kernel
theorem dL_law_139 : decode cL_law 139 = .ok (.iaload, 1) := by decide +kernel
theorem dL_law_140 : decode cL_law 140 = .ok (.aload_n 0, 1) := by decide +kernel
theorem dL_law_141 : decode cL_law 141 = .ok (.iload_n 3, 1) := by decide +kernel
theorem dL_law_142 : decode cL_law 142 = .ok (.iconst 3, 1) := by decide +kernel
theorem dL_law_143 : decode cL_law 143 = .ok (.iadd, 1) := by decide +kernel
theorem dL_law_144 : decode cL_law 144 = .ok (.iaload, 1) := by decide +kernel
theorem dL_law_145 : decode cL_law 145 = .ok (.aload_n 0, 1) := by decide +kernel
theorem dL_law_146 : decode cL_law 146 = .ok (.iload_n 3, 1) := by decide +kernel
theorem dL_law_147 : decode cL_law 147 = .ok (.iconst 4, 1) := by decide +kernel
theorem dL_law_148 : decode cL_law 148 = .ok (.iadd, 1) := by decide +kernel
theorem dL_law_149 : decode cL_law 149 = .ok (.iaload, 1) := by decide +kernel
theorem dL_law_150 : decode cL_law 150 = .ok (.aload_n 0, 1) := by decide +kernel
theorem dL_law_151 : decode cL_law 151 = .ok (.iload_n 3, 1) := by decide +kernel
theorem dL_law_152 : decode cL_law 152 = .ok (.iconst 5, 1) := by decide +kernel
theorem dL_law_153 : decode cL_law 153 = .ok (.iadd, 1) := by decide +kernel
theorem dL_law_154 : decode cL_law 154 = .ok (.iaload, 1) := by decide +kernel
theorem dL_law_155 : decode cL_law 155 = .ok (.invokevirtual 17, 3) := by decide +kernel
theorem dL_law_158 : decode cL_law 158 = .ok (.if_icmp .eq 413, 3) := by decide +kernel
theorem dL_law_163 : decode cL_law 163 = .ok (.aload_n 1, 1) := by decide +kernel
theorem dL_law_164 : decode cL_law 164 = .ok (.aload_n 0, 1) := by decide +kernel
theorem dL_law_165 : decode cL_law 165 = .ok (.iload_n 3, 1) := by decide +kernel
theorem dL_law_166 : decode cL_law 166 = .ok (.iconst 1, 1) := by decide +kernel
theorem dL_law_167 : decode cL_law 167 = .ok (.iadd, 1) := by decide +kernel
theorem dL_law_168 : decode cL_law 168 = .ok (.iaload, 1) := by decide +kernel
theorem dL_law_169 : decode cL_law 169 = .ok (.aload_n 0, 1) := by decide +kernel
theorem dL_law_170 : decode cL_law 170 = .ok (.iload_n 3, 1) := by decide +kernel
theorem dL_law_171 : decode cL_law 171 = .ok (.iconst 2, 1) := by decide +kernel
theorem dL_law_172 : decode cL_law 172 = .ok (.iadd, 1) := by decide +kernel
theorem dL_law_173 : decode cL_law 173 = .ok (.iaload, 1) := by decide +kernel
theorem dL_law_174 : decode cL_law 174 = .ok (.invokevirtual 18, 3) := by decide +kernel
theorem dL_law_177 : decode cL_law 177 = .ok (.aload_n 2, 1) := by decide +kernel
theorem dL_law_178 : decode cL_law 178 = .ok (.aload_n 0, 1) := by decide +kernel
theorem dL_law_179 : decode cL_law 179 = .ok (.iload_n 3, 1) := by decide +kernel
theorem dL_law_180 : decode cL_law 180 = .ok (.iconst 1, 1) := by decide +kernel
theorem dL_law_181 : decode cL_law 181 = .ok (.iadd, 1) := by decide +kernel
theorem dL_law_182 : decode cL_law 182 = .ok (.iaload, 1) := by decide +kernel
theorem dL_law_183 : decode cL_law 183 = .ok (.aload_n 0, 1) := by decide +kernel
theorem dL_law_184 : decode cL_law 184 = .ok (.iload_n 3, 1) := by decide +kernel
theorem dL_law_185 : decode cL_law 185 = .ok (.iconst 2, 1) := by decide +kernel
theorem dL_law_186 : decode cL_law 186 = .ok (.iadd, 1) := by decide +kernel
theorem dL_law_187 : decode cL_law 187 = .ok (.iaload, 1) := by decide +kernel
theorem dL_law_188 : decode cL_law 188 = .ok (.invokevirtual 22, 3) := by decide +kernel
theorem dL_law_191 : decode cL_law 191 = .ok (.if_icmp .eq 380, 3) := by decide +kernel
theorem dL_law_196 : decode cL_law 196 = .ok (.aload_n 1, 1) := by decide +kernel
theorem dL_law_197 : decode cL_law 197 = .ok (.invokevirtual 23, 3) := by decide +kernel
theorem dL_law_200 : decode cL_law 200 = .ok (.aload_n 2, 1) := by decide +kernel
theorem dL_law_201 : decode cL_law 201 = .ok (.invokevirtual 27, 3) := by decide +kernel
theorem dL_law_204 : decode cL_law 204 = .ok (.if_icmp .eq 367, 3) := by decide +kernel
theorem dL_law_209 : decode cL_law 209 = .ok (.aload_n 1, 1) := by decide +kernel
theorem dL_law_210 : decode cL_law 210 = .ok (.aload_n 0, 1) := by decide +kernel
theorem dL_law_211 : decode cL_law 211 = .ok (.iload_n 3, 1) := by decide +kernel
theorem dL_law_212 : decode cL_law 212 = .ok (.iconst 1, 1) := by decide +kernel
theorem dL_law_213 : decode cL_law 213 = .ok (.iadd, 1) := by decide +kernel
theorem dL_law_214 : decode cL_law 214 = .ok (.iaload, 1) := by decide +kernel
theorem dL_law_215 : decode cL_law 215 = .ok (.aload_n 0, 1) := by decide +kernel
theorem dL_law_216 : decode cL_law 216 = .ok (.iload_n 3, 1) := by decide +kernel
theorem dL_law_217 : decode cL_law 217 = .ok (.iconst 2, 1) := by decide +kernel
theorem dL_law_218 : decode cL_law 218 = .ok (.iadd, 1) := by decide +kernel
theorem dL_law_219 : decode cL_law 219 = .ok (.iaload, 1) := by decide +kernel
theorem dL_law_220 : decode cL_law 220 = .ok (.invokevirtual 28, 3) := by decide +kernel
theorem dL_law_223 : decode cL_law 223 = .ok (.aload_n 2, 1) := by decide +kernel
theorem dL_law_224 : decode cL_law 224 = .ok (.aload_n 0, 1) := by decide +kernel
theorem dL_law_225 : decode cL_law 225 = .ok (.iload_n 3, 1) := by decide +kernel
theorem dL_law_226 : decode cL_law 226 = .ok (.iconst 1, 1) := by decide +kernel
theorem dL_law_227 : decode cL_law 227 = .ok (.iadd, 1) := by decide +kernel
theorem dL_law_228 : decode cL_law 228 = .ok (.iaload, 1) := by decide +kernel
theorem dL_law_229 : decode cL_law 229 = .ok (.aload_n 0, 1) := by decide +kernel
theorem dL_law_230 : decode cL_law 230 = .ok (.iload_n 3, 1) := by decide +kernel
theorem dL_law_231 : decode cL_law 231 = .ok (.iconst 2, 1) := by decide +kernel
theorem dL_law_232 : decode cL_law 232 = .ok (.iadd, 1) := by decide +kernel
theorem dL_law_233 : decode cL_law 233 = .ok (.iaload, 1) := by decide +kernel
theorem dL_law_234 : decode cL_law 234 = .ok (.invokevirtual 31, 3) := by decide +kernel
theorem dL_law_237 : decode cL_law 237 = .ok (.if_icmp .eq 334, 3) := by decide +kernel
theorem dL_law_242 : decode cL_law 242 = .ok (.aload_n 1, 1) := by decide +kernel
theorem dL_law_243 : decode cL_law 243 = .ok (.aload_n 0, 1) := by decide +kernel
theorem dL_law_244 : decode cL_law 244 = .ok (.iload_n 3, 1) := by decide +kernel
theorem dL_law_245 : decode cL_law 245 = .ok (.iconst 1, 1) := by decide +kernel
theorem dL_law_246 : decode cL_law 246 = .ok (.iadd, 1) := by decide +kernel
theorem dL_law_247 : decode cL_law 247 = .ok (.iaload, 1) := by decide +kernel
theorem dL_law_248 : decode cL_law 248 = .ok (.aload_n 0, 1) := by decide +kernel
theorem dL_law_249 : decode cL_law 249 = .ok (.iload_n 3, 1) := by decide +kernel
theorem dL_law_250 : decode cL_law 250 = .ok (.iconst 2, 1) := by decide +kernel
theorem dL_law_251 : decode cL_law 251 = .ok (.iadd, 1) := by decide +kernel
theorem dL_law_252 : decode cL_law 252 = .ok (.iaload, 1) := by decide +kernel
theorem dL_law_253 : decode cL_law 253 = .ok (.aload_n 0, 1) := by decide +kernel
theorem dL_law_254 : decode cL_law 254 = .ok (.iload_n 3, 1) := by decide +kernel
theorem dL_law_255 : decode cL_law 255 = .ok (.iconst 3, 1) := by decide +kernel
theorem dL_law_256 : decode cL_law 256 = .ok (.iadd, 1) := by decide +kernel
theorem dL_law_257 : decode cL_law 257 = .ok (.iaload, 1) := by decide +kernel
theorem dL_law_258 : decode cL_law 258 = .ok (.invokevirtual 32, 3) := by decide +kernel
theorem dL_law_261 : decode cL_law 261 = .ok (.aload_n 2, 1) := by decide +kernel
theorem dL_law_262 : decode cL_law 262 = .ok (.aload_n 0, 1) := by decide +kernel
theorem dL_law_263 : decode cL_law 263 = .ok (.iload_n 3, 1) := by decide +kernel
theorem dL_law_264 : decode cL_law 264 = .ok (.iconst 1, 1) := by decide +kernel
theorem dL_law_265 : decode cL_law 265 = .ok (.iadd, 1) := by decide +kernel
theorem dL_law_266 : decode cL_law 266 = .ok (.iaload, 1) := by decide +kernel
theorem dL_law_267 : decode cL_law 267 = .ok (.aload_n 0, 1) := by decide +kernel
theorem dL_law_268 : decode cL_law 268 = .ok (.iload_n 3, 1) := by decide +kernel
theorem dL_law_269 : decode cL_law 269 = .ok (.iconst 2, 1) := by decide +kernel
theorem dL_law_270 : decode cL_law 270 = .ok (.iadd, 1) := by decide +kernel
theorem dL_law_271 : decode cL_law 271 = .ok (.iaload, 1) := by decide +kernel
theorem dL_law_272 : decode cL_law 272 = .ok (.aload_n 0, 1) := by decide +kernel
theorem dL_law_273 : decode cL_law 273 = .ok (.iload_n 3, 1) := by decide +kernel
theorem dL_law_274 : decode cL_law 274 = .ok (.iconst 3, 1) := by decide +kernel
theorem dL_law_275 : decode cL_law 275 = .ok (.iadd, 1) := by decide +kernel
theorem dL_law_276 : decode cL_law 276 = .ok (.iaload, 1) := by decide +kernel
theorem dL_law_277 : decode cL_law 277 = .ok (.invokevirtual 36, 3) := by decide +kernel
theorem dL_law_280 : decode cL_law 280 = .ok (.if_icmp .eq 291, 3) := by decide +kernel
theorem dL_law_285 : decode cL_law 285 = .ok (.aload_n 1, 1) := by decide +kernel
theorem dL_law_286 : decode cL_law 286 = .ok (.aload_n 0, 1) := by decide +kernel
theorem dL_law_287 : decode cL_law 287 = .ok (.iload_n 3, 1) := by decide +kernel
theorem dL_law_288 : decode cL_law 288 = .ok (.iconst 1, 1) := by decide +kernel
theorem dL_law_289 : decode cL_law 289 = .ok (.iadd, 1) := by decide +kernel
theorem dL_law_290 : decode cL_law 290 = .ok (.iaload, 1) := by decide +kernel
theorem dL_law_291 : decode cL_law 291 = .ok (.aload_n 0, 1) := by decide +kernel
theorem dL_law_292 : decode cL_law 292 = .ok (.iload_n 3, 1) := by decide +kernel
theorem dL_law_293 : decode cL_law 293 = .ok (.iconst 2, 1) := by decide +kernel
theorem dL_law_294 : decode cL_law 294 = .ok (.iadd, 1) := by decide +kernel
theorem dL_law_295 : decode cL_law 295 = .ok (.iaload, 1) := by decide +kernel
theorem dL_law_296 : decode cL_law 296 = .ok (.aload_n 0, 1) := by decide +kernel
theorem dL_law_297 : decode cL_law 297 = .ok (.iload_n 3, 1) := by decide +kernel
theorem dL_law_298 : decode cL_law 298 = .ok (.iconst 3, 1) := by decide +kernel
theorem dL_law_299 : decode cL_law 299 = .ok (.iadd, 1) := by decide +kernel
theorem dL_law_300 : decode cL_law 300 = .ok (.iaload, 1) := by decide +kernel
theorem dL_law_301 : decode cL_law 301 = .ok (.aload_n 0, 1) := by decide +kernel
theorem dL_law_302 : decode cL_law 302 = .ok (.iload_n 3, 1) := by decide +kernel
theorem dL_law_303 : decode cL_law 303 = .ok (.iconst 4, 1) := by decide +kernel
theorem dL_law_304 : decode cL_law 304 = .ok (.iadd, 1) := by decide +kernel
theorem dL_law_305 : decode cL_law 305 = .ok (.iaload, 1) := by decide +kernel
theorem dL_law_306 : decode cL_law 306 = .ok (.invokevirtual 37, 3) := by decide +kernel
theorem dL_law_309 : decode cL_law 309 = .ok (.aload_n 2, 1) := by decide +kernel
theorem dL_law_310 : decode cL_law 310 = .ok (.aload_n 0, 1) := by decide +kernel
theorem dL_law_311 : decode cL_law 311 = .ok (.iload_n 3, 1) := by decide +kernel
theorem dL_law_312 : decode cL_law 312 = .ok (.iconst 1, 1) := by decide +kernel
theorem dL_law_313 : decode cL_law 313 = .ok (.iadd, 1) := by decide +kernel
theorem dL_law_314 : decode cL_law 314 = .ok (.iaload, 1) := by decide +kernel
theorem dL_law_315 : decode cL_law 315 = .ok (.aload_n 0, 1) := by decide +kernel
theorem dL_law_316 : decode cL_law 316 = .ok (.iload_n 3, 1) := by decide +kernel
theorem dL_law_317 : decode cL_law 317 = .ok (.iconst 2, 1) := by decide +kernel
theorem dL_law_318 : decode cL_law 318 = .ok (.iadd, 1) := by decide +kernel
theorem dL_law_319 : decode cL_law 319 = .ok (.iaload, 1) := by decide +kernel
theorem dL_law_320 : decode cL_law 320 = .ok (.aload_n 0, 1) := by decide +kernel
theorem dL_law_321 : decode cL_law 321 = .ok (.iload_n 3, 1) := by decide +kernel
theorem dL_law_322 : decode cL_law 322 = .ok (.iconst 3, 1) := by decide +kernel
theorem dL_law_323 : decode cL_law 323 = .ok (.iadd, 1) := by decide +kernel
theorem dL_law_324 : decode cL_law 324 = .ok (.iaload, 1) := by decide +kernel
theorem dL_law_325 : decode cL_law 325 = .ok (.aload_n 0, 1) := by decide +kernel
theorem dL_law_326 : decode cL_law 326 = .ok (.iload_n 3, 1) := by decide +kernel
theorem dL_law_327 : decode cL_law 327 = .ok (.iconst 4, 1) := by decide +kernel
theorem dL_law_328 : decode cL_law 328 = .ok (.iadd, 1) := by decide +kernel
theorem dL_law_329 : decode cL_law 329 = .ok (.iaload, 1) := by decide +kernel
theorem dL_law_330 : decode cL_law 330 = .ok (.invokevirtual 41, 3) := by decide +kernel
theorem dL_law_333 : decode cL_law 333 = .ok (.if_icmp .eq 238, 3) := by decide +kernel
theorem dL_law_338 : decode cL_law 338 = .ok (.aload_n 1, 1) := by decide +kernel
theorem dL_law_339 : decode cL_law 339 = .ok (.aload_n 0, 1) := by decide +kernel
theorem dL_law_340 : decode cL_law 340 = .ok (.iload_n 3, 1) := by decide +kernel
theorem dL_law_341 : decode cL_law 341 = .ok (.iconst 1, 1) := by decide +kernel
theorem dL_law_342 : decode cL_law 342 = .ok (.iadd, 1) := by decide +kernel
theorem dL_law_343 : decode cL_law 343 = .ok (.iaload, 1) := by decide +kernel
theorem dL_law_344 : decode cL_law 344 = .ok (.aload_n 0, 1) := by decide +kernel
theorem dL_law_345 : decode cL_law 345 = .ok (.iload_n 3, 1) := by decide +kernel
theorem dL_law_346 : decode cL_law 346 = .ok (.iconst 2, 1) := by decide +kernel
theorem dL_law_347 : decode cL_law 347 = .ok (.iadd, 1) := by decide +kernel
theorem dL_law_348 : decode cL_law 348 = .ok (.iaload, 1) := by decide +kernel
theorem dL_law_349 : decode cL_law 349 = .ok (.aload_n 0, 1) := by decide +kernel
theorem dL_law_350 : decode cL_law 350 = .ok (.iload_n 3, 1) := by decide +kernel
theorem dL_law_351 : decode cL_law 351 = .ok (.iconst 3, 1) := by decide +kernel
theorem dL_law_352 : decode cL_law 352 = .ok (.iadd, 1) := by decide +kernel
theorem dL_law_353 : decode cL_law 353 = .ok (.iaload, 1) := by decide +kernel
theorem dL_law_354 : decode cL_law 354 = .ok (.i2l, 1) := by decide +kernel
theorem dL_law_355 : decode cL_law 355 = .ok (.bipush 32, 2) := by decide +kernel
theorem dL_law_357 : decode cL_law 357 = .ok (.lshl, 1) := by decide +kernel
theorem dL_law_358 : decode cL_law 358 = .ok (.aload_n 0, 1) := by decide +kernel
theorem dL_law_359 : decode cL_law 359 = .ok (.iload_n 3, 1) := by decide +kernel
theorem dL_law_360 : decode cL_law 360 = .ok (.iconst 4, 1) := by decide +kernel
theorem dL_law_361 : decode cL_law 361 = .ok (.iadd, 1) := by decide +kernel
theorem dL_law_362 : decode cL_law 362 = .ok (.iaload, 1) := by decide +kernel
theorem dL_law_363 : decode cL_law 363 = .ok (.i2l, 1) := by decide +kernel
theorem dL_law_364 : decode cL_law 364 = .ok (.ldc2_w 42, 3) := by decide +kernel
theorem dL_law_367 : decode cL_law 367 = .ok (.land, 1) := by decide +kernel
theorem dL_law_368 : decode cL_law 368 = .ok (.lor, 1) := by decide +kernel
theorem dL_law_369 : decode cL_law 369 = .ok (.invokevirtual 44, 3) := by decide +kernel
theorem dL_law_372 : decode cL_law 372 = .ok (.aload_n 2, 1) := by decide +kernel
theorem dL_law_373 : decode cL_law 373 = .ok (.aload_n 0, 1) := by decide +kernel
theorem dL_law_374 : decode cL_law 374 = .ok (.iload_n 3, 1) := by decide +kernel
theorem dL_law_375 : decode cL_law 375 = .ok (.iconst 1, 1) := by decide +kernel
theorem dL_law_376 : decode cL_law 376 = .ok (.iadd, 1) := by decide +kernel
theorem dL_law_377 : decode cL_law 377 = .ok (.iaload, 1) := by decide +kernel
theorem dL_law_378 : decode cL_law 378 = .ok (.aload_n 0, 1) := by decide +kernel
theorem dL_law_379 : decode cL_law 379 = .ok (.iload_n 3, 1) := by decide +kernel
theorem dL_law_380 : decode cL_law 380 = .ok (.iconst 2, 1) := by decide +kernel
theorem dL_law_381 : decode cL_law 381 = .ok (.iadd, 1) := by decide +kernel
theorem dL_law_382 : decode cL_law 382 = .ok (.iaload, 1) := by decide +kernel
theorem dL_law_383 : decode cL_law 383 = .ok (.aload_n 0, 1) := by decide +kernel
theorem dL_law_384 : decode cL_law 384 = .ok (.iload_n 3, 1) := by decide +kernel
theorem dL_law_385 : decode cL_law 385 = .ok (.iconst 3, 1) := by decide +kernel
theorem dL_law_386 : decode cL_law 386 = .ok (.iadd, 1) := by decide +kernel
theorem dL_law_387 : decode cL_law 387 = .ok (.iaload, 1) := by decide +kernel
theorem dL_law_388 : decode cL_law 388 = .ok (.i2l, 1) := by decide +kernel
theorem dL_law_389 : decode cL_law 389 = .ok (.bipush 32, 2) := by decide +kernel
theorem dL_law_391 : decode cL_law 391 = .ok (.lshl, 1) := by decide +kernel
theorem dL_law_392 : decode cL_law 392 = .ok (.aload_n 0, 1) := by decide +kernel
theorem dL_law_393 : decode cL_law 393 = .ok (.iload_n 3, 1) := by decide +kernel
theorem dL_law_394 : decode cL_law 394 = .ok (.iconst 4, 1) := by decide +kernel
theorem dL_law_395 : decode cL_law 395 = .ok (.iadd, 1) := by decide +kernel
theorem dL_law_396 : decode cL_law 396 = .ok (.iaload, 1) := by decide +kernel
theorem dL_law_397 : decode cL_law 397 = .ok (.i2l, 1) := by decide +kernel
theorem dL_law_398 : decode cL_law 398 = .ok (.ldc2_w 42, 3) := by decide +kernel
theorem dL_law_401 : decode cL_law 401 = .ok (.land, 1) := by decide +kernel
theorem dL_law_402 : decode cL_law 402 = .ok (.lor, 1) := by decide +kernel
theorem dL_law_403 : decode cL_law 403 = .ok (.invokevirtual 48, 3) := by decide +kernel
theorem dL_law_406 : decode cL_law 406 = .ok (.if_icmp .eq 165, 3) := by decide +kernel
theorem dL_law_571 : decode cL_law 571 = .ok (.iinc 3 6, 3) := by decide +kernel
theorem dL_law_574 : decode cL_law 574 = .ok (.goto (-556), 3) := by decide +kernel
theorem dL_law_577 : decode cL_law 577 = .ok (.iconst 1, 1) := by decide +kernel
theorem dL_law_578 : decode cL_law 578 = .ok (.ireturn, 1) := by decide +kernel
set_option maxHeartbeats 4000000 in
set_option maxRecDepth 100000 in
theorem law_0 {p : Program} {l : Launch} {e : Env} {s : State} {m : MethodId} {below : List Frame} {meth : Method} {c : Code} {b : Nat} {xs : Nat → Int32} (C0 : lw_At p s m meth c b 6 xs) (dC : Nat → ClassId) (dI : Nat → Nat → Nat) (q_1 : Nat) (q_2 : Nat) (cA_3 : ClassId) (q_4 : Nat) (q_13 : Nat) (q_25 : Nat) (q_27 : Nat) (q_38 : Nat) (q_52 : Nat) (q_101 : Nat) (q_102 : Nat) (cA_103 : ClassId) (q_104 : Nat) (q_106 : Nat) (q_108 : Nat) (q_109 : Nat) (q_110 : Nat) (q_111 : Nat) (q_112 : Nat) (q_113 : Nat) (q_114 : Nat) (q_115 : Nat) (q_117 : Nat) (q_119 : Nat) (q_120 : Nat) (q_121 : Nat) (q_122 : Nat) (q_123 : Nat) (q_124 : Nat) (q_125 : Nat) (q_126 : Nat) (q_127 : Nat) (q_128 : Nat) (q_129 : Nat) (q_130 : Nat) (q_131 : Nat) (q_132 : Nat) (q_133 : Nat) (q_134 : Nat) (q_135 : Nat) (q_136 : Nat) (q_137 : Nat) (q_138 : Nat) (q_139 : Nat) (q_140 : Nat) (q_141 : Nat) (q_142 : Nat) (q_143 : Nat) (q_144 : Nat) (q_145 : Nat) (q_146 : Nat) (q_147 : Nat) (q_148 : Nat) (q_149 : Nat) (q_150 : Nat) (q_151 : Nat) (q_152 : Nat) (q_153 : Nat) (q_154 : Nat) (q_155 : Nat) (q_156 : Nat) (q_157 : Nat) (q_159 : Nat) (q_161 : Nat) (q_163 : Nat) (q_165 : Nat) {H : Heap} {locs : List Loc} {ls : Array Slot} (hK : va_K (dC, dI) vwCl [(cA_3, .byte), (cA_103, .int)] s) (hP : va_P (dC, dI) vwCl [(q_1, .inr (10, [.ref q_2, .int 0, .int 0, .ref q_4, .ref q_13, .ref q_25, .ref q_27, .ref q_38, .ref q_52])), (q_2, .inl (cA_3, 3000, .inl (fun _ => 0))), (q_101, .inr (11, [.int 0, .ref q_102, .int 0, .ref q_104, .int 12, .ref q_106, .int 0, .int 0, .int 0, .int 0, .long 0, .int 0, .long 0, .int 0, .int 0, .int 0, .int 0, .int 0, .int 0, .ref q_108, .ref q_109, .ref q_110, .int 0, .ref q_111, .ref q_112, .ref q_113, .ref q_114, .ref q_115, .ref q_117, .int 0, .ref q_119, .int 0, .int 0, .ref q_120, .int 0, .int 0, .long 0, .int 0, .ref q_121, .int 0, .int 0, .ref q_122, .ref q_123, .ref q_124, .ref q_125, .ref q_126, .ref q_127, .int 0, .int 0, .ref q_128, .ref q_129, .ref q_130, .ref q_131, .int 0, .ref q_132, .ref q_133, .ref q_134, .ref q_135, .ref q_136, .ref q_137, .ref q_138, .int 0, .ref q_139, .ref q_140, .ref q_141, .int 0, .ref q_142, .ref q_143, .int 0, .int 0, .ref q_144, .ref q_145, .ref q_146, .ref q_147, .ref q_148, .ref q_149, .ref q_150, .ref q_151, .ref q_152, .ref q_153, .ref q_154, .int 0, .int 0, .int 0, .int 0, .int 0, .ref q_155, .ref q_156, .int 0, .int 0, .int 0, .int 0, .int 0, .int 0, .int 0, .int 0, .long 0, .int 0, .int 0, .long 0, .ref q_157, .ref q_159, .ref q_161, .ref q_163, .int 0, .ref q_165])), (q_102, .inl (cA_103, 3000, .inl (fun _ => 0)))] H) (hD : va_D (fun q : Nat => s.heap.size ≤ q) [(q_1, .inr (10, [.ref q_2, .int 0, .int 0, .ref q_4, .ref q_13, .ref q_25, .ref q_27, .ref q_38, .ref q_52])), (q_2, .inl (cA_3, 3000, .inl (fun _ => 0))), (q_101, .inr (11, [.int 0, .ref q_102, .int 0, .ref q_104, .int 12, .ref q_106, .int 0, .int 0, .int 0, .int 0, .long 0, .int 0, .long 0, .int 0, .int 0, .int 0, .int 0, .int 0, .int 0, .ref q_108, .ref q_109, .ref q_110, .int 0, .ref q_111, .ref q_112, .ref q_113, .ref q_114, .ref q_115, .ref q_117, .int 0, .ref q_119, .int 0, .int 0, .ref q_120, .int 0, .int 0, .long 0, .int 0, .ref q_121, .int 0, .int 0, .ref q_122, .ref q_123, .ref q_124, .ref q_125, .ref q_126, .ref q_127, .int 0, .int 0, .ref q_128, .ref q_129, .ref q_130, .ref q_131, .int 0, .ref q_132, .ref q_133, .ref q_134, .ref q_135, .ref q_136, .ref q_137, .ref q_138, .int 0, .ref q_139, .ref q_140, .ref q_141, .int 0, .ref q_142, .ref q_143, .int 0, .int 0, .ref q_144, .ref q_145, .ref q_146, .ref q_147, .ref q_148, .ref q_149, .ref q_150, .ref q_151, .ref q_152, .ref q_153, .ref q_154, .int 0, .int 0, .int 0, .int 0, .int 0, .ref q_155, .ref q_156, .int 0, .int 0, .int 0, .int 0, .int 0, .int 0, .int 0, .int 0, .long 0, .int 0, .int 0, .long 0, .ref q_157, .ref q_159, .ref q_161, .ref q_163, .int 0, .ref q_165])), (q_102, .inl (cA_103, 3000, .inl (fun _ => 0)))]) (hS : va_S (fun q : Nat => s.heap.size ≤ q) s.heap H locs) (hl : lv_has ls 4 [(0, .ref b), (1, .ref q_1), (2, .ref q_101), (3, .int 0)]) : W p l e room_1 s m #[Value.ref b] below meth c H locs 167 452814 (lw_Z below #[Value.ref b] s) (F0 m 100 ls []) := by
  obtain ⟨hx, hb, hr, hml, hown, hts, hX, hbl, hlocks, hgv⟩ := id C0
  have hown : s.vm.findClass RL = some m.cls := hown
  have hA : ∀ q : Nat, s.heap.size ≤ q → (fun q : Nat => s.heap.size ≤ q) q := fun _ h => h
  have hbA : ¬ (fun q : Nat => s.heap.size ≤ q) b := Nat.not_le.mpr hbl
  refine lv_aload_n hx hb dL_law_100 rfl (lv_at hl 1 rfl) ?_
  refine lv_aload_n hx hb dL_law_101 rfl (lv_at hl 0 rfl) ?_
  refine lv_iload_n hx hb dL_law_102 rfl (lv_at hl 3 rfl) ?_
  refine lv_iconst (v := 1) hx hb dL_law_103 (by decide) ?_
  refine lv_iadd hx hb dL_law_104 ?_
  refine my_ti (v := 1) (by decide) ?_
  refine va_sld hx hb hX hbl hbA hS (by unfold vp_in; decide) dL_law_105 ?_
  refine my_ti (v := xs 1) rfl ?_
  refine lv_aload_n hx hb dL_law_106 rfl (lv_at hl 0 rfl) ?_
  refine lv_iload_n hx hb dL_law_107 rfl (lv_at hl 3 rfl) ?_
  refine lv_iconst (v := 2) hx hb dL_law_108 (by decide) ?_
  refine lv_iadd hx hb dL_law_109 ?_
  refine my_ti (v := 2) (by decide) ?_
  refine va_sld hx hb hX hbl hbA hS (by unfold vp_in; decide) dL_law_110 ?_
  refine my_ti (v := xs 2) rfl ?_
  refine lv_aload_n hx hb dL_law_111 rfl (lv_at hl 0 rfl) ?_
  refine lv_iload_n hx hb dL_law_112 rfl (lv_at hl 3 rfl) ?_
  refine lv_iconst (v := 3) hx hb dL_law_113 (by decide) ?_
  refine lv_iadd hx hb dL_law_114 ?_
  refine my_ti (v := 3) (by decide) ?_
  refine va_sld hx hb hX hbl hbA hS (by unfold vp_in; decide) dL_law_115 ?_
  refine my_ti (v := xs 3) rfl ?_
  refine lv_aload_n hx hb dL_law_116 rfl (lv_at hl 0 rfl) ?_
  refine lv_iload_n hx hb dL_law_117 rfl (lv_at hl 3 rfl) ?_
  refine lv_iconst (v := 4) hx hb dL_law_118 (by decide) ?_
  refine lv_iadd hx hb dL_law_119 ?_
  refine my_ti (v := 4) (by decide) ?_
  refine va_sld hx hb hX hbl hbA hS (by unfold vp_in; decide) dL_law_120 ?_
  refine my_ti (v := xs 4) rfl ?_
  refine lv_aload_n hx hb dL_law_121 rfl (lv_at hl 0 rfl) ?_
  refine lv_iload_n hx hb dL_law_122 rfl (lv_at hl 3 rfl) ?_
  refine lv_iconst (v := 5) hx hb dL_law_123 (by decide) ?_
  refine lv_iadd hx hb dL_law_124 ?_
  refine my_ti (v := 5) (by decide) ?_
  refine va_sld hx hb hX hbl hbA hS (by unfold vp_in; decide) dL_law_125 ?_
  refine my_ti (v := xs 5) rfl ?_
  have hPc := hP.sub (ws' := [(q_1, .inr (10, [.ref q_2, .int 0, .int 0, .ref q_4, .ref q_13, .ref q_25, .ref q_27, .ref q_38, .ref q_52])), (q_2, .inl (cA_3, 3000, .inl (fun _ => 0)))]) [0, 1] rfl
  have hDc := hD.sub (ws' := [(q_1, .inr (10, [.ref q_2, .int 0, .int 0, .ref q_4, .ref q_13, .ref q_25, .ref q_27, .ref q_38, .ref q_52])), (q_2, .inl (cA_3, 3000, .inl (fun _ => 0)))]) [0, 1] (by decide) rfl
  have hKc := hK.sub (tys' := [(cA_3, .byte)]) [0] rfl
  have hFc := va_free (wc := [(q_1, .inr (10, [.ref q_2, .int 0, .int 0, .ref q_4, .ref q_13, .ref q_25, .ref q_27, .ref q_38, .ref q_52])), (q_2, .inl (cA_3, 3000, .inl (fun _ => 0)))]) hD hS hA [0, 1] rfl
  refine va_calli (va_runV (As := [.int (xs 1), .int (xs 2), .int (xs 3), .int (xs 4), .int (xs 5)]) (rest := []) ⟨hx, hb, hml, hown, hts⟩ (c_X11_feed l dC dI H.size q_1 q_2 q_4 q_13 q_25 q_27 q_38 q_52 cA_3 (fun _ => 0) (xs 1) (xs 2) (xs 3) (xs 4) (xs 5) ) (cwV 5 hts gl_wsX11_feed_13 rfl rfl rfl (by decide +kernel) ⟨Nat.le_of_ble_eq_true rfl, Nat.le_of_ble_eq_true rfl⟩) ⟨fb_M, va_recv hK hP (ci := 10) (q0 := 0) rfl rfl, fun U hU hW => ⟨rfl, xM.at hPc hKc hDc hU hW⟩⟩ rfl rfl hl.1 rfl (lv_room (Nat.le_of_ble_eq_true rfl)) dL_law_126 ⟨Nat.le_of_ble_eq_true rfl, Nat.le_of_ble_eq_true rfl⟩) hS (fun q _ h => hFc q h) hFc (fun r_171 u t H locs ht hvm hw hB hz1 hk1 hS => ?_)
  have hw_172 := hw
  obtain ⟨hP, hD, hK⟩ := xB.join (wr := [(q_101, .inr (11, [.int 0, .ref q_102, .int 0, .ref q_104, .int 12, .ref q_106, .int 0, .int 0, .int 0, .int 0, .long 0, .int 0, .long 0, .int 0, .int 0, .int 0, .int 0, .int 0, .int 0, .ref q_108, .ref q_109, .ref q_110, .int 0, .ref q_111, .ref q_112, .ref q_113, .ref q_114, .ref q_115, .ref q_117, .int 0, .ref q_119, .int 0, .int 0, .ref q_120, .int 0, .int 0, .long 0, .int 0, .ref q_121, .int 0, .int 0, .ref q_122, .ref q_123, .ref q_124, .ref q_125, .ref q_126, .ref q_127, .int 0, .int 0, .ref q_128, .ref q_129, .ref q_130, .ref q_131, .int 0, .ref q_132, .ref q_133, .ref q_134, .ref q_135, .ref q_136, .ref q_137, .ref q_138, .int 0, .ref q_139, .ref q_140, .ref q_141, .int 0, .ref q_142, .ref q_143, .int 0, .int 0, .ref q_144, .ref q_145, .ref q_146, .ref q_147, .ref q_148, .ref q_149, .ref q_150, .ref q_151, .ref q_152, .ref q_153, .ref q_154, .int 0, .int 0, .int 0, .int 0, .int 0, .ref q_155, .ref q_156, .int 0, .int 0, .int 0, .int 0, .int 0, .int 0, .int 0, .int 0, .long 0, .int 0, .int 0, .long 0, .ref q_157, .ref q_159, .ref q_161, .ref q_163, .int 0, .ref q_165])), (q_102, .inl (cA_103, 3000, .inl (fun _ => 0)))]) (w1 := []) hP hD hK [0, 1] [2, 3] rfl rfl (by decide) (by decide) hk1 hFc (xB.nil hvm hK) ht hvm
  have hP : va_P (dC, dI) vwCl [(q_101, .inr (11, [.int 0, .ref q_102, .int 0, .ref q_104, .int 12, .ref q_106, .int 0, .int 0, .int 0, .int 0, .long 0, .int 0, .long 0, .int 0, .int 0, .int 0, .int 0, .int 0, .int 0, .ref q_108, .ref q_109, .ref q_110, .int 0, .ref q_111, .ref q_112, .ref q_113, .ref q_114, .ref q_115, .ref q_117, .int 0, .ref q_119, .int 0, .int 0, .ref q_120, .int 0, .int 0, .long 0, .int 0, .ref q_121, .int 0, .int 0, .ref q_122, .ref q_123, .ref q_124, .ref q_125, .ref q_126, .ref q_127, .int 0, .int 0, .ref q_128, .ref q_129, .ref q_130, .ref q_131, .int 0, .ref q_132, .ref q_133, .ref q_134, .ref q_135, .ref q_136, .ref q_137, .ref q_138, .int 0, .ref q_139, .ref q_140, .ref q_141, .int 0, .ref q_142, .ref q_143, .int 0, .int 0, .ref q_144, .ref q_145, .ref q_146, .ref q_147, .ref q_148, .ref q_149, .ref q_150, .ref q_151, .ref q_152, .ref q_153, .ref q_154, .int 0, .int 0, .int 0, .int 0, .int 0, .ref q_155, .ref q_156, .int 0, .int 0, .int 0, .int 0, .int 0, .int 0, .int 0, .int 0, .long 0, .int 0, .int 0, .long 0, .ref q_157, .ref q_159, .ref q_161, .ref q_163, .int 0, .ref q_165])), (q_102, .inl (cA_103, 3000, .inl (fun _ => 0)))] _ := hP
  have hD : va_D (fun q : Nat => s.heap.size ≤ q) [(q_101, .inr (11, [.int 0, .ref q_102, .int 0, .ref q_104, .int 12, .ref q_106, .int 0, .int 0, .int 0, .int 0, .long 0, .int 0, .long 0, .int 0, .int 0, .int 0, .int 0, .int 0, .int 0, .ref q_108, .ref q_109, .ref q_110, .int 0, .ref q_111, .ref q_112, .ref q_113, .ref q_114, .ref q_115, .ref q_117, .int 0, .ref q_119, .int 0, .int 0, .ref q_120, .int 0, .int 0, .long 0, .int 0, .ref q_121, .int 0, .int 0, .ref q_122, .ref q_123, .ref q_124, .ref q_125, .ref q_126, .ref q_127, .int 0, .int 0, .ref q_128, .ref q_129, .ref q_130, .ref q_131, .int 0, .ref q_132, .ref q_133, .ref q_134, .ref q_135, .ref q_136, .ref q_137, .ref q_138, .int 0, .ref q_139, .ref q_140, .ref q_141, .int 0, .ref q_142, .ref q_143, .int 0, .int 0, .ref q_144, .ref q_145, .ref q_146, .ref q_147, .ref q_148, .ref q_149, .ref q_150, .ref q_151, .ref q_152, .ref q_153, .ref q_154, .int 0, .int 0, .int 0, .int 0, .int 0, .ref q_155, .ref q_156, .int 0, .int 0, .int 0, .int 0, .int 0, .int 0, .int 0, .int 0, .long 0, .int 0, .int 0, .long 0, .ref q_157, .ref q_159, .ref q_161, .ref q_163, .int 0, .ref q_165])), (q_102, .inl (cA_103, 3000, .inl (fun _ => 0)))] := hD
  have hK : va_K (dC, dI) vwCl [(cA_3, .byte), (cA_103, .int)] s := hK
  refine lv_aload_n hx hb dL_law_129 rfl (lv_at hl 2 rfl) ?_
  refine lv_aload_n hx hb dL_law_130 rfl (lv_at hl 0 rfl) ?_
  refine lv_iload_n hx hb dL_law_131 rfl (lv_at hl 3 rfl) ?_
  refine lv_iconst (v := 1) hx hb dL_law_132 (by decide) ?_
  refine lv_iadd hx hb dL_law_133 ?_
  refine my_ti (v := 1) (by decide) ?_
  refine va_sld hx hb hX hbl hbA hS (by unfold vp_in; decide) dL_law_134 ?_
  refine my_ti (v := xs 1) rfl ?_
  refine lv_aload_n hx hb dL_law_135 rfl (lv_at hl 0 rfl) ?_
  refine lv_iload_n hx hb dL_law_136 rfl (lv_at hl 3 rfl) ?_
  refine lv_iconst (v := 2) hx hb dL_law_137 (by decide) ?_
  refine lv_iadd hx hb dL_law_138 ?_
  refine my_ti (v := 2) (by decide) ?_
  refine va_sld hx hb hX hbl hbA hS (by unfold vp_in; decide) dL_law_139 ?_
  refine my_ti (v := xs 2) rfl ?_
  refine lv_aload_n hx hb dL_law_140 rfl (lv_at hl 0 rfl) ?_
  refine lv_iload_n hx hb dL_law_141 rfl (lv_at hl 3 rfl) ?_
  refine lv_iconst (v := 3) hx hb dL_law_142 (by decide) ?_
  refine lv_iadd hx hb dL_law_143 ?_
  refine my_ti (v := 3) (by decide) ?_
  refine va_sld hx hb hX hbl hbA hS (by unfold vp_in; decide) dL_law_144 ?_
  refine my_ti (v := xs 3) rfl ?_
  refine lv_aload_n hx hb dL_law_145 rfl (lv_at hl 0 rfl) ?_
  refine lv_iload_n hx hb dL_law_146 rfl (lv_at hl 3 rfl) ?_
  refine lv_iconst (v := 4) hx hb dL_law_147 (by decide) ?_
  refine lv_iadd hx hb dL_law_148 ?_
  refine my_ti (v := 4) (by decide) ?_
  refine va_sld hx hb hX hbl hbA hS (by unfold vp_in; decide) dL_law_149 ?_
  refine my_ti (v := xs 4) rfl ?_
  refine lv_aload_n hx hb dL_law_150 rfl (lv_at hl 0 rfl) ?_
  refine lv_iload_n hx hb dL_law_151 rfl (lv_at hl 3 rfl) ?_
  refine lv_iconst (v := 5) hx hb dL_law_152 (by decide) ?_
  refine lv_iadd hx hb dL_law_153 ?_
  refine my_ti (v := 5) (by decide) ?_
  refine va_sld hx hb hX hbl hbA hS (by unfold vp_in; decide) dL_law_154 ?_
  refine my_ti (v := xs 5) rfl ?_
  have hPc := hP.sub (ws' := [(q_101, .inr (11, [.int 0, .ref q_102, .int 0, .ref q_104, .int 12, .ref q_106, .int 0, .int 0, .int 0, .int 0, .long 0, .int 0, .long 0, .int 0, .int 0, .int 0, .int 0, .int 0, .int 0, .ref q_108, .ref q_109, .ref q_110, .int 0, .ref q_111, .ref q_112, .ref q_113, .ref q_114, .ref q_115, .ref q_117, .int 0, .ref q_119, .int 0, .int 0, .ref q_120, .int 0, .int 0, .long 0, .int 0, .ref q_121, .int 0, .int 0, .ref q_122, .ref q_123, .ref q_124, .ref q_125, .ref q_126, .ref q_127, .int 0, .int 0, .ref q_128, .ref q_129, .ref q_130, .ref q_131, .int 0, .ref q_132, .ref q_133, .ref q_134, .ref q_135, .ref q_136, .ref q_137, .ref q_138, .int 0, .ref q_139, .ref q_140, .ref q_141, .int 0, .ref q_142, .ref q_143, .int 0, .int 0, .ref q_144, .ref q_145, .ref q_146, .ref q_147, .ref q_148, .ref q_149, .ref q_150, .ref q_151, .ref q_152, .ref q_153, .ref q_154, .int 0, .int 0, .int 0, .int 0, .int 0, .ref q_155, .ref q_156, .int 0, .int 0, .int 0, .int 0, .int 0, .int 0, .int 0, .int 0, .long 0, .int 0, .int 0, .long 0, .ref q_157, .ref q_159, .ref q_161, .ref q_163, .int 0, .ref q_165])), (q_102, .inl (cA_103, 3000, .inl (fun _ => 0)))]) [0, 1] rfl
  have hDc := hD.sub (ws' := [(q_101, .inr (11, [.int 0, .ref q_102, .int 0, .ref q_104, .int 12, .ref q_106, .int 0, .int 0, .int 0, .int 0, .long 0, .int 0, .long 0, .int 0, .int 0, .int 0, .int 0, .int 0, .int 0, .ref q_108, .ref q_109, .ref q_110, .int 0, .ref q_111, .ref q_112, .ref q_113, .ref q_114, .ref q_115, .ref q_117, .int 0, .ref q_119, .int 0, .int 0, .ref q_120, .int 0, .int 0, .long 0, .int 0, .ref q_121, .int 0, .int 0, .ref q_122, .ref q_123, .ref q_124, .ref q_125, .ref q_126, .ref q_127, .int 0, .int 0, .ref q_128, .ref q_129, .ref q_130, .ref q_131, .int 0, .ref q_132, .ref q_133, .ref q_134, .ref q_135, .ref q_136, .ref q_137, .ref q_138, .int 0, .ref q_139, .ref q_140, .ref q_141, .int 0, .ref q_142, .ref q_143, .int 0, .int 0, .ref q_144, .ref q_145, .ref q_146, .ref q_147, .ref q_148, .ref q_149, .ref q_150, .ref q_151, .ref q_152, .ref q_153, .ref q_154, .int 0, .int 0, .int 0, .int 0, .int 0, .ref q_155, .ref q_156, .int 0, .int 0, .int 0, .int 0, .int 0, .int 0, .int 0, .int 0, .long 0, .int 0, .int 0, .long 0, .ref q_157, .ref q_159, .ref q_161, .ref q_163, .int 0, .ref q_165])), (q_102, .inl (cA_103, 3000, .inl (fun _ => 0)))]) [0, 1] (by decide) rfl
  have hKc := hK.sub (tys' := [(cA_103, .int)]) [1] rfl
  have hFc := va_free (wc := [(q_101, .inr (11, [.int 0, .ref q_102, .int 0, .ref q_104, .int 12, .ref q_106, .int 0, .int 0, .int 0, .int 0, .long 0, .int 0, .long 0, .int 0, .int 0, .int 0, .int 0, .int 0, .int 0, .ref q_108, .ref q_109, .ref q_110, .int 0, .ref q_111, .ref q_112, .ref q_113, .ref q_114, .ref q_115, .ref q_117, .int 0, .ref q_119, .int 0, .int 0, .ref q_120, .int 0, .int 0, .long 0, .int 0, .ref q_121, .int 0, .int 0, .ref q_122, .ref q_123, .ref q_124, .ref q_125, .ref q_126, .ref q_127, .int 0, .int 0, .ref q_128, .ref q_129, .ref q_130, .ref q_131, .int 0, .ref q_132, .ref q_133, .ref q_134, .ref q_135, .ref q_136, .ref q_137, .ref q_138, .int 0, .ref q_139, .ref q_140, .ref q_141, .int 0, .ref q_142, .ref q_143, .int 0, .int 0, .ref q_144, .ref q_145, .ref q_146, .ref q_147, .ref q_148, .ref q_149, .ref q_150, .ref q_151, .ref q_152, .ref q_153, .ref q_154, .int 0, .int 0, .int 0, .int 0, .int 0, .ref q_155, .ref q_156, .int 0, .int 0, .int 0, .int 0, .int 0, .int 0, .int 0, .int 0, .long 0, .int 0, .int 0, .long 0, .ref q_157, .ref q_159, .ref q_161, .ref q_163, .int 0, .ref q_165])), (q_102, .inl (cA_103, 3000, .inl (fun _ => 0)))]) hD hS hA [0, 1] rfl
  refine va_calli (va_runV (As := [.int (xs 1), .int (xs 2), .int (xs 3), .int (xs 4), .int (xs 5)]) (rest := [.int r_171]) ⟨hx, hb, hml, hown, hts⟩ (c_X12_feed l dC dI H.size q_101 q_102 q_104 q_106 q_108 q_109 q_110 q_111 q_112 q_113 q_114 q_115 q_117 q_119 q_120 q_121 q_122 q_123 q_124 q_125 q_126 q_127 q_128 q_129 q_130 q_131 q_132 q_133 q_134 q_135 q_136 q_137 q_138 q_139 q_140 q_141 q_142 q_143 q_144 q_145 q_146 q_147 q_148 q_149 q_150 q_151 q_152 q_153 q_154 q_155 q_156 q_157 q_159 q_161 q_163 q_165 cA_103 (fun _ => 0) (xs 1) (xs 2) (xs 3) (xs 4) (xs 5) ) (cwV 5 hts gl_wqX12_feed_17 rfl rfl rfl (by decide +kernel) ⟨Nat.le_of_ble_eq_true rfl, Nat.le_of_ble_eq_true rfl⟩) ⟨fb_M, va_recv hK hP (ci := 11) (q0 := 0) rfl rfl, fun U hU hW => ⟨rfl, xM.at hPc hKc hDc hU hW⟩⟩ rfl rfl hl.1 rfl (lv_room (Nat.le_of_ble_eq_true rfl)) dL_law_155 ⟨Nat.le_of_ble_eq_true rfl, Nat.le_of_ble_eq_true rfl⟩) hS (fun q _ h => hFc q h) hFc (fun r_173 u t H locs ht hvm hw hB hz1 hk1 hS => ?_)
  have hw_174 := hw
  obtain ⟨hP, hD, hK⟩ := xB.join (wr := []) (w1 := []) hP hD hK [0, 1] [] rfl rfl (by decide) (by decide) hk1 hFc (xB.nil hvm hK) ht hvm
  have hP : va_P (dC, dI) vwCl [] _ := hP
  have hD : va_D (fun q : Nat => s.heap.size ≤ q) [] := hD
  have hK : va_K (dC, dI) vwCl [(cA_3, .byte), (cA_103, .int)] s := hK
  refine lv_icmp_eq (tgt := 571) hx hb dL_law_158 (by decide) (fun c_158 => ?_) (fun c_158 => absurd (hw_172.trans hw_174.symm) c_158)
  refine lv_iinc (v := 6) (lv' := [(3, .int 6), (0, .ref b), (1, .ref q_1), (2, .ref q_101)]) hx hb dL_law_571 hl (k := 3) rfl (by decide) (by decide) rfl (fun ls hl => ?_)
  refine lv_goto (tgt := 18) hx hb dL_law_574 (by decide) ?_
  refine lv_iload_n hx hb dL_law_18 rfl (lv_at hl 0 rfl) ?_
  refine lv_aload_n hx hb dL_law_19 rfl (lv_at hl 1 rfl) ?_
  refine va_slen hx hb hX hbl hbA hS dL_law_20 ?_
  refine my_ti (v := 6) rfl ?_
  refine lv_bipush (v := 6) hx hb dL_law_21 (by decide) ?_
  refine lv_isub hx hb dL_law_23 ?_
  refine my_ti (v := 0) (by decide) ?_
  refine lv_icmp_gt (tgt := 577) hx hb dL_law_24 (by decide) (fun c_24 => ?_) (fun c_24 => absurd c_24 (by decide))
  refine lv_iconst (v := 1) hx hb dL_law_577 (by decide) ?_
  refine va_forget (fun q hq => hS.2.2 q hq) ?_
  refine W.widen (k := 600000) (n := 7302250) (Nat.le_of_ble_eq_true rfl) (Nat.le_of_ble_eq_true rfl) ?_
  exact W.base (lw_ret (d0 := s.drawn) (Drawn.sameBut.refl s.drawn lw_cs) hx hb hr hlocks dL_law_578)

set_option maxHeartbeats 4000000 in
set_option maxRecDepth 100000 in
theorem law_1 {p : Program} {l : Launch} {e : Env} {s : State} {m : MethodId} {below : List Frame} {meth : Method} {c : Code} {b : Nat} {xs : Nat → Int32} (C0 : lw_At p s m meth c b 6 xs) (dC : Nat → ClassId) (dI : Nat → Nat → Nat) (q_1 : Nat) (q_2 : Nat) (cA_3 : ClassId) (q_4 : Nat) (q_5 : Nat) (q_7 : Nat) (cA_8 : ClassId) (q_9 : Nat) (cA_10 : ClassId) (f_12 : Nat → Int32) (q_13 : Nat) (q_25 : Nat) (cA_26 : ClassId) (q_27 : Nat) (q_28 : Nat) (q_29 : Nat) (q_30 : Nat) (cA_31 : ClassId) (q_32 : Nat) (q_33 : Nat) (q_34 : Nat) (q_35 : Nat) (q_36 : Nat) (q_37 : Nat) (q_38 : Nat) (q_39 : Nat) (cA_40 : ClassId) (q_41 : Nat) (q_42 : Nat) (q_43 : Nat) (q_44 : Nat) (cA_45 : ClassId) (q_46 : Nat) (cA_47 : ClassId) (q_48 : Nat) (cA_49 : ClassId) (q_50 : Nat) (cA_51 : ClassId) (q_52 : Nat) (q_67 : Nat) (q_74 : Nat) (q_81 : Nat) (q_88 : Nat) (f_95 : Nat → Option Nat) (q_101 : Nat) (q_102 : Nat) (q_104 : Nat) (q_106 : Nat) (cA_107 : ClassId) (q_108 : Nat) (q_109 : Nat) (q_110 : Nat) (q_111 : Nat) (q_112 : Nat) (q_113 : Nat) (q_114 : Nat) (q_115 : Nat) (cA_116 : ClassId) (q_117 : Nat) (cA_118 : ClassId) (q_119 : Nat) (q_120 : Nat) (q_121 : Nat) (q_122 : Nat) (q_123 : Nat) (q_124 : Nat) (q_125 : Nat) (q_126 : Nat) (q_127 : Nat) (q_128 : Nat) (q_129 : Nat) (q_130 : Nat) (q_131 : Nat) (q_132 : Nat) (q_133 : Nat) (q_134 : Nat) (q_135 : Nat) (q_136 : Nat) (q_137 : Nat) (q_138 : Nat) (q_139 : Nat) (q_140 : Nat) (q_141 : Nat) (q_142 : Nat) (q_143 : Nat) (q_144 : Nat) (q_145 : Nat) (q_146 : Nat) (q_147 : Nat) (q_148 : Nat) (q_149 : Nat) (q_150 : Nat) (q_151 : Nat) (q_152 : Nat) (q_153 : Nat) (q_154 : Nat) (q_155 : Nat) (q_156 : Nat) (q_157 : Nat) (q_159 : Nat) (q_161 : Nat) (q_163 : Nat) (q_165 : Nat) (g_168 : Nat → Int32) (hf_97 : f_95 0 = some q_67) (hf_98 : f_95 1 = some q_74) (hf_99 : f_95 2 = some q_81) (hf_100 : f_95 3 = some q_88) {H : Heap} {locs : List Loc} {ls : Array Slot} (hK : va_K (dC, dI) vwCl [(cA_3, .byte), (cA_8, .int), (cA_10, .int), (cA_26, .object RX8), (cA_31, .int), (cA_40, .int), (cA_45, .int), (cA_47, .int), (cA_49, .long), (cA_51, .double), (cA_107, .int), (cA_116, .int), (cA_118, .int)] s) (hP : va_P (dC, dI) vwCl [(q_1, .inr (10, [.ref q_2, .int 0, .int 0, .ref q_4, .ref q_13, .ref q_25, .ref q_27, .ref q_38, .ref q_52])), (q_2, .inl (cA_3, 3000, .inl (fun _ => 0))), (q_4, .inr (5, [.ref q_5, .ref q_7, .ref q_9, .int 11, .int 0])), (q_7, .inl (cA_8, 52, .inl f_12)), (q_9, .inl (cA_10, 52, .inl (fun _ => 0))), (q_25, .inl (cA_26, 4, .inr (.inr (.inr (.inr f_95))))), (q_27, .inr (7, [.ref q_28, .int 0, .ref q_29, .ref q_34, .ref q_35, .ref q_36, .ref q_37, .int 0])), (q_29, .inr (8, [.ref q_30, .ref q_32, .ref q_33, .int 0])), (q_30, .inl (cA_31, 32, .inl (fun _ => 0))), (q_38, .inr (6, [.ref q_42, .ref q_4, .ref q_27, .ref q_39, .ref q_41, .int 0, .int 0, .int 0, .int 0, .int 0, .int 0])), (q_39, .inl (cA_40, 4, .inl (fun _ => 0))), (q_42, .inr (9, [.ref q_2, .ref q_43, .ref q_44, .ref q_46, .ref q_48, .ref q_50, .int 0, .int 0, .int 0, .int 0, .int 0, .int 0, .int 0, .int 0, .long 0, .double FP.dconst0])), (q_44, .inl (cA_45, 3001, .inl (fun _ => 0))), (q_46, .inl (cA_47, 3001, .inl (fun _ => 0))), (q_48, .inl (cA_49, 3001, .inr (.inl (fun _ => 0)))), (q_50, .inl (cA_51, 3001, .inr (.inr (.inr (.inl (fun _ => 0)))))), (q_101, .inr (11, [.int 0, .ref q_102, .int 0, .ref q_104, .int 12, .ref q_106, .int 0, .int 0, .int 0, .int 0, .long 0, .int 0, .long 0, .int 0, .int 0, .int 0, .int 0, .int 0, .int 0, .ref q_108, .ref q_109, .ref q_110, .int 0, .ref q_111, .ref q_112, .ref q_113, .ref q_114, .ref q_115, .ref q_117, .int 0, .ref q_119, .int 0, .int 0, .ref q_120, .int 0, .int 0, .long 0, .int 0, .ref q_121, .int 0, .int 0, .ref q_122, .ref q_123, .ref q_124, .ref q_125, .ref q_126, .ref q_127, .int 0, .int 0, .ref q_128, .ref q_129, .ref q_130, .ref q_131, .int 0, .ref q_132, .ref q_133, .ref q_134, .ref q_135, .ref q_136, .ref q_137, .ref q_138, .int 0, .ref q_139, .ref q_140, .ref q_141, .int 0, .ref q_142, .ref q_143, .int 0, .int 0, .ref q_144, .ref q_145, .ref q_146, .ref q_147, .ref q_148, .ref q_149, .ref q_150, .ref q_151, .ref q_152, .ref q_153, .ref q_154, .int 0, .int 0, .int 0, .int 0, .int 0, .ref q_155, .ref q_156, .int 0, .int 0, .int 0, .int 0, .int 0, .int 0, .int 0, .int 0, .long 0, .int 0, .int 0, .long 0, .ref q_157, .ref q_159, .ref q_161, .ref q_163, .int 0, .ref q_165])), (q_106, .inl (cA_107, 64, .inl g_168)), (q_115, .inl (cA_116, 5, .inl (fun _ => 0))), (q_117, .inl (cA_118, 64, .inl (fun _ => 0)))] H) (hD : va_D (fun q : Nat => s.heap.size ≤ q) [(q_1, .inr (10, [.ref q_2, .int 0, .int 0, .ref q_4, .ref q_13, .ref q_25, .ref q_27, .ref q_38, .ref q_52])), (q_2, .inl (cA_3, 3000, .inl (fun _ => 0))), (q_4, .inr (5, [.ref q_5, .ref q_7, .ref q_9, .int 11, .int 0])), (q_7, .inl (cA_8, 52, .inl f_12)), (q_9, .inl (cA_10, 52, .inl (fun _ => 0))), (q_25, .inl (cA_26, 4, .inr (.inr (.inr (.inr f_95))))), (q_27, .inr (7, [.ref q_28, .int 0, .ref q_29, .ref q_34, .ref q_35, .ref q_36, .ref q_37, .int 0])), (q_29, .inr (8, [.ref q_30, .ref q_32, .ref q_33, .int 0])), (q_30, .inl (cA_31, 32, .inl (fun _ => 0))), (q_38, .inr (6, [.ref q_42, .ref q_4, .ref q_27, .ref q_39, .ref q_41, .int 0, .int 0, .int 0, .int 0, .int 0, .int 0])), (q_39, .inl (cA_40, 4, .inl (fun _ => 0))), (q_42, .inr (9, [.ref q_2, .ref q_43, .ref q_44, .ref q_46, .ref q_48, .ref q_50, .int 0, .int 0, .int 0, .int 0, .int 0, .int 0, .int 0, .int 0, .long 0, .double FP.dconst0])), (q_44, .inl (cA_45, 3001, .inl (fun _ => 0))), (q_46, .inl (cA_47, 3001, .inl (fun _ => 0))), (q_48, .inl (cA_49, 3001, .inr (.inl (fun _ => 0)))), (q_50, .inl (cA_51, 3001, .inr (.inr (.inr (.inl (fun _ => 0)))))), (q_101, .inr (11, [.int 0, .ref q_102, .int 0, .ref q_104, .int 12, .ref q_106, .int 0, .int 0, .int 0, .int 0, .long 0, .int 0, .long 0, .int 0, .int 0, .int 0, .int 0, .int 0, .int 0, .ref q_108, .ref q_109, .ref q_110, .int 0, .ref q_111, .ref q_112, .ref q_113, .ref q_114, .ref q_115, .ref q_117, .int 0, .ref q_119, .int 0, .int 0, .ref q_120, .int 0, .int 0, .long 0, .int 0, .ref q_121, .int 0, .int 0, .ref q_122, .ref q_123, .ref q_124, .ref q_125, .ref q_126, .ref q_127, .int 0, .int 0, .ref q_128, .ref q_129, .ref q_130, .ref q_131, .int 0, .ref q_132, .ref q_133, .ref q_134, .ref q_135, .ref q_136, .ref q_137, .ref q_138, .int 0, .ref q_139, .ref q_140, .ref q_141, .int 0, .ref q_142, .ref q_143, .int 0, .int 0, .ref q_144, .ref q_145, .ref q_146, .ref q_147, .ref q_148, .ref q_149, .ref q_150, .ref q_151, .ref q_152, .ref q_153, .ref q_154, .int 0, .int 0, .int 0, .int 0, .int 0, .ref q_155, .ref q_156, .int 0, .int 0, .int 0, .int 0, .int 0, .int 0, .int 0, .int 0, .long 0, .int 0, .int 0, .long 0, .ref q_157, .ref q_159, .ref q_161, .ref q_163, .int 0, .ref q_165])), (q_106, .inl (cA_107, 64, .inl g_168)), (q_115, .inl (cA_116, 5, .inl (fun _ => 0))), (q_117, .inl (cA_118, 64, .inl (fun _ => 0)))]) (hS : va_S (fun q : Nat => s.heap.size ≤ q) s.heap H locs) (hl : lv_has ls 4 [(0, .ref b), (1, .ref q_1), (2, .ref q_101), (3, .int 0)]) : W p l e room_1 s m #[Value.ref b] below meth c H locs 167 452814 (lw_Z below #[Value.ref b] s) (F0 m 163 ls []) := by
  obtain ⟨hx, hb, hr, hml, hown, hts, hX, hbl, hlocks, hgv⟩ := id C0
  have hown : s.vm.findClass RL = some m.cls := hown
  have hA : ∀ q : Nat, s.heap.size ≤ q → (fun q : Nat => s.heap.size ≤ q) q := fun _ h => h
  have hbA : ¬ (fun q : Nat => s.heap.size ≤ q) b := Nat.not_le.mpr hbl
  refine lv_aload_n hx hb dL_law_163 rfl (lv_at hl 1 rfl) ?_
  refine lv_aload_n hx hb dL_law_164 rfl (lv_at hl 0 rfl) ?_
  refine lv_iload_n hx hb dL_law_165 rfl (lv_at hl 3 rfl) ?_
  refine lv_iconst (v := 1) hx hb dL_law_166 (by decide) ?_
  refine lv_iadd hx hb dL_law_167 ?_
  refine my_ti (v := 1) (by decide) ?_
  refine va_sld hx hb hX hbl hbA hS (by unfold vp_in; decide) dL_law_168 ?_
  refine my_ti (v := xs 1) rfl ?_
  refine lv_aload_n hx hb dL_law_169 rfl (lv_at hl 0 rfl) ?_
  refine lv_iload_n hx hb dL_law_170 rfl (lv_at hl 3 rfl) ?_
  refine lv_iconst (v := 2) hx hb dL_law_171 (by decide) ?_
  refine lv_iadd hx hb dL_law_172 ?_
  refine my_ti (v := 2) (by decide) ?_
  refine va_sld hx hb hX hbl hbA hS (by unfold vp_in; decide) dL_law_173 ?_
  refine my_ti (v := xs 2) rfl ?_
  have hPc := hP.sub (ws' := [(q_1, .inr (10, [.ref q_2, .int 0, .int 0, .ref q_4, .ref q_13, .ref q_25, .ref q_27, .ref q_38, .ref q_52])), (q_4, .inr (5, [.ref q_5, .ref q_7, .ref q_9, .int 11, .int 0])), (q_7, .inl (cA_8, 52, .inl f_12)), (q_9, .inl (cA_10, 52, .inl (fun _ => 0))), (q_38, .inr (6, [.ref q_42, .ref q_4, .ref q_27, .ref q_39, .ref q_41, .int 0, .int 0, .int 0, .int 0, .int 0, .int 0])), (q_27, .inr (7, [.ref q_28, .int 0, .ref q_29, .ref q_34, .ref q_35, .ref q_36, .ref q_37, .int 0])), (q_29, .inr (8, [.ref q_30, .ref q_32, .ref q_33, .int 0])), (q_30, .inl (cA_31, 32, .inl (fun _ => 0))), (q_39, .inl (cA_40, 4, .inl (fun _ => 0))), (q_42, .inr (9, [.ref q_2, .ref q_43, .ref q_44, .ref q_46, .ref q_48, .ref q_50, .int 0, .int 0, .int 0, .int 0, .int 0, .int 0, .int 0, .int 0, .long 0, .double FP.dconst0])), (q_2, .inl (cA_3, 3000, .inl (fun _ => 0))), (q_44, .inl (cA_45, 3001, .inl (fun _ => 0))), (q_46, .inl (cA_47, 3001, .inl (fun _ => 0))), (q_48, .inl (cA_49, 3001, .inr (.inl (fun _ => 0)))), (q_50, .inl (cA_51, 3001, .inr (.inr (.inr (.inl (fun _ => 0)))))), (q_25, .inl (cA_26, 4, .inr (.inr (.inr (.inr f_95)))))]) [0, 2, 3, 4, 9, 6, 7, 8, 10, 11, 1, 12, 13, 14, 15, 5] rfl
  have hDc := hD.sub (ws' := [(q_1, .inr (10, [.ref q_2, .int 0, .int 0, .ref q_4, .ref q_13, .ref q_25, .ref q_27, .ref q_38, .ref q_52])), (q_4, .inr (5, [.ref q_5, .ref q_7, .ref q_9, .int 11, .int 0])), (q_7, .inl (cA_8, 52, .inl f_12)), (q_9, .inl (cA_10, 52, .inl (fun _ => 0))), (q_38, .inr (6, [.ref q_42, .ref q_4, .ref q_27, .ref q_39, .ref q_41, .int 0, .int 0, .int 0, .int 0, .int 0, .int 0])), (q_27, .inr (7, [.ref q_28, .int 0, .ref q_29, .ref q_34, .ref q_35, .ref q_36, .ref q_37, .int 0])), (q_29, .inr (8, [.ref q_30, .ref q_32, .ref q_33, .int 0])), (q_30, .inl (cA_31, 32, .inl (fun _ => 0))), (q_39, .inl (cA_40, 4, .inl (fun _ => 0))), (q_42, .inr (9, [.ref q_2, .ref q_43, .ref q_44, .ref q_46, .ref q_48, .ref q_50, .int 0, .int 0, .int 0, .int 0, .int 0, .int 0, .int 0, .int 0, .long 0, .double FP.dconst0])), (q_2, .inl (cA_3, 3000, .inl (fun _ => 0))), (q_44, .inl (cA_45, 3001, .inl (fun _ => 0))), (q_46, .inl (cA_47, 3001, .inl (fun _ => 0))), (q_48, .inl (cA_49, 3001, .inr (.inl (fun _ => 0)))), (q_50, .inl (cA_51, 3001, .inr (.inr (.inr (.inl (fun _ => 0)))))), (q_25, .inl (cA_26, 4, .inr (.inr (.inr (.inr f_95)))))]) [0, 2, 3, 4, 9, 6, 7, 8, 10, 11, 1, 12, 13, 14, 15, 5] (by decide) rfl
  have hKc := hK.sub (tys' := [(cA_8, .int), (cA_10, .int), (cA_31, .int), (cA_40, .int), (cA_3, .byte), (cA_45, .int), (cA_47, .int), (cA_49, .long), (cA_51, .double), (cA_26, .object RX8)]) [1, 2, 4, 5, 0, 6, 7, 8, 9, 3] rfl
  have hFc := va_free (wc := [(q_1, .inr (10, [.ref q_2, .int 0, .int 0, .ref q_4, .ref q_13, .ref q_25, .ref q_27, .ref q_38, .ref q_52])), (q_4, .inr (5, [.ref q_5, .ref q_7, .ref q_9, .int 11, .int 0])), (q_7, .inl (cA_8, 52, .inl f_12)), (q_9, .inl (cA_10, 52, .inl (fun _ => 0))), (q_38, .inr (6, [.ref q_42, .ref q_4, .ref q_27, .ref q_39, .ref q_41, .int 0, .int 0, .int 0, .int 0, .int 0, .int 0])), (q_27, .inr (7, [.ref q_28, .int 0, .ref q_29, .ref q_34, .ref q_35, .ref q_36, .ref q_37, .int 0])), (q_29, .inr (8, [.ref q_30, .ref q_32, .ref q_33, .int 0])), (q_30, .inl (cA_31, 32, .inl (fun _ => 0))), (q_39, .inl (cA_40, 4, .inl (fun _ => 0))), (q_42, .inr (9, [.ref q_2, .ref q_43, .ref q_44, .ref q_46, .ref q_48, .ref q_50, .int 0, .int 0, .int 0, .int 0, .int 0, .int 0, .int 0, .int 0, .long 0, .double FP.dconst0])), (q_2, .inl (cA_3, 3000, .inl (fun _ => 0))), (q_44, .inl (cA_45, 3001, .inl (fun _ => 0))), (q_46, .inl (cA_47, 3001, .inl (fun _ => 0))), (q_48, .inl (cA_49, 3001, .inr (.inl (fun _ => 0)))), (q_50, .inl (cA_51, 3001, .inr (.inr (.inr (.inl (fun _ => 0)))))), (q_25, .inl (cA_26, 4, .inr (.inr (.inr (.inr f_95)))))]) hD hS hA [0, 2, 3, 4, 9, 6, 7, 8, 10, 11, 1, 12, 13, 14, 15, 5] rfl
  refine va_calli (va_runV (As := [.int (xs 1), .int (xs 2)]) (rest := []) ⟨hx, hb, hml, hown, hts⟩ (c_X11_load l dC dI H.size q_1 q_38 q_27 q_42 q_4 q_13 q_25 q_52 q_5 q_7 q_9 cA_8 f_12 cA_10 (fun _ => 0) q_4 q_39 q_41 q_2 q_43 q_44 q_46 q_48 q_50 cA_3 (fun _ => 0) cA_45 cA_47 cA_49 cA_51 q_28 q_29 q_34 q_35 q_36 q_37 q_30 q_32 q_33 cA_31 (fun _ => 0) cA_40 cA_26 f_95 q_67 q_74 q_81 q_88 (xs 1) (xs 2) hf_97 hf_98 hf_99 hf_100) (cwV 2 hts gl_wqX11_load_18 rfl rfl rfl (by decide +kernel) ⟨Nat.le_of_ble_eq_true rfl, Nat.le_of_ble_eq_true rfl⟩) ⟨(fb_ME eF_fb), va_recv hK hP (ci := 10) (q0 := 0) rfl rfl, fun U hU hW => ⟨rfl, ⟨xM.at hPc hKc hDc hU hW, eF_at (va_Nw.of rfl (hts (.fieldLinkNest RX7 80 RX10 "kind" "I" RX11) (List.mem_of_getElem? (i := 454) (by decide +kernel)))) hW⟩⟩⟩ rfl rfl hl.1 rfl (lv_room (Nat.le_of_ble_eq_true rfl)) dL_law_174 ⟨Nat.le_of_ble_eq_true rfl, Nat.le_of_ble_eq_true rfl⟩) hS (fun q _ h => hFc q h) hFc (fun r_171 u t H locs ht hvm hw hB hz1 hk1 hS => ?_)
  have hw_172 := hw
  obtain ⟨hP, hD, hK⟩ := xB.join (wr := [(q_101, .inr (11, [.int 0, .ref q_102, .int 0, .ref q_104, .int 12, .ref q_106, .int 0, .int 0, .int 0, .int 0, .long 0, .int 0, .long 0, .int 0, .int 0, .int 0, .int 0, .int 0, .int 0, .ref q_108, .ref q_109, .ref q_110, .int 0, .ref q_111, .ref q_112, .ref q_113, .ref q_114, .ref q_115, .ref q_117, .int 0, .ref q_119, .int 0, .int 0, .ref q_120, .int 0, .int 0, .long 0, .int 0, .ref q_121, .int 0, .int 0, .ref q_122, .ref q_123, .ref q_124, .ref q_125, .ref q_126, .ref q_127, .int 0, .int 0, .ref q_128, .ref q_129, .ref q_130, .ref q_131, .int 0, .ref q_132, .ref q_133, .ref q_134, .ref q_135, .ref q_136, .ref q_137, .ref q_138, .int 0, .ref q_139, .ref q_140, .ref q_141, .int 0, .ref q_142, .ref q_143, .int 0, .int 0, .ref q_144, .ref q_145, .ref q_146, .ref q_147, .ref q_148, .ref q_149, .ref q_150, .ref q_151, .ref q_152, .ref q_153, .ref q_154, .int 0, .int 0, .int 0, .int 0, .int 0, .ref q_155, .ref q_156, .int 0, .int 0, .int 0, .int 0, .int 0, .int 0, .int 0, .int 0, .long 0, .int 0, .int 0, .long 0, .ref q_157, .ref q_159, .ref q_161, .ref q_163, .int 0, .ref q_165])), (q_106, .inl (cA_107, 64, .inl g_168)), (q_115, .inl (cA_116, 5, .inl (fun _ => 0))), (q_117, .inl (cA_118, 64, .inl (fun _ => 0)))]) (w1 := []) hP hD hK [0, 2, 3, 4, 9, 6, 7, 8, 10, 11, 1, 12, 13, 14, 15, 5] [16, 17, 18, 19] rfl rfl (by decide) (by decide) hk1 hFc (xB.nil hvm hK) ht hvm
  have hP : va_P (dC, dI) vwCl [(q_101, .inr (11, [.int 0, .ref q_102, .int 0, .ref q_104, .int 12, .ref q_106, .int 0, .int 0, .int 0, .int 0, .long 0, .int 0, .long 0, .int 0, .int 0, .int 0, .int 0, .int 0, .int 0, .ref q_108, .ref q_109, .ref q_110, .int 0, .ref q_111, .ref q_112, .ref q_113, .ref q_114, .ref q_115, .ref q_117, .int 0, .ref q_119, .int 0, .int 0, .ref q_120, .int 0, .int 0, .long 0, .int 0, .ref q_121, .int 0, .int 0, .ref q_122, .ref q_123, .ref q_124, .ref q_125, .ref q_126, .ref q_127, .int 0, .int 0, .ref q_128, .ref q_129, .ref q_130, .ref q_131, .int 0, .ref q_132, .ref q_133, .ref q_134, .ref q_135, .ref q_136, .ref q_137, .ref q_138, .int 0, .ref q_139, .ref q_140, .ref q_141, .int 0, .ref q_142, .ref q_143, .int 0, .int 0, .ref q_144, .ref q_145, .ref q_146, .ref q_147, .ref q_148, .ref q_149, .ref q_150, .ref q_151, .ref q_152, .ref q_153, .ref q_154, .int 0, .int 0, .int 0, .int 0, .int 0, .ref q_155, .ref q_156, .int 0, .int 0, .int 0, .int 0, .int 0, .int 0, .int 0, .int 0, .long 0, .int 0, .int 0, .long 0, .ref q_157, .ref q_159, .ref q_161, .ref q_163, .int 0, .ref q_165])), (q_106, .inl (cA_107, 64, .inl g_168)), (q_115, .inl (cA_116, 5, .inl (fun _ => 0))), (q_117, .inl (cA_118, 64, .inl (fun _ => 0)))] _ := hP
  have hD : va_D (fun q : Nat => s.heap.size ≤ q) [(q_101, .inr (11, [.int 0, .ref q_102, .int 0, .ref q_104, .int 12, .ref q_106, .int 0, .int 0, .int 0, .int 0, .long 0, .int 0, .long 0, .int 0, .int 0, .int 0, .int 0, .int 0, .int 0, .ref q_108, .ref q_109, .ref q_110, .int 0, .ref q_111, .ref q_112, .ref q_113, .ref q_114, .ref q_115, .ref q_117, .int 0, .ref q_119, .int 0, .int 0, .ref q_120, .int 0, .int 0, .long 0, .int 0, .ref q_121, .int 0, .int 0, .ref q_122, .ref q_123, .ref q_124, .ref q_125, .ref q_126, .ref q_127, .int 0, .int 0, .ref q_128, .ref q_129, .ref q_130, .ref q_131, .int 0, .ref q_132, .ref q_133, .ref q_134, .ref q_135, .ref q_136, .ref q_137, .ref q_138, .int 0, .ref q_139, .ref q_140, .ref q_141, .int 0, .ref q_142, .ref q_143, .int 0, .int 0, .ref q_144, .ref q_145, .ref q_146, .ref q_147, .ref q_148, .ref q_149, .ref q_150, .ref q_151, .ref q_152, .ref q_153, .ref q_154, .int 0, .int 0, .int 0, .int 0, .int 0, .ref q_155, .ref q_156, .int 0, .int 0, .int 0, .int 0, .int 0, .int 0, .int 0, .int 0, .long 0, .int 0, .int 0, .long 0, .ref q_157, .ref q_159, .ref q_161, .ref q_163, .int 0, .ref q_165])), (q_106, .inl (cA_107, 64, .inl g_168)), (q_115, .inl (cA_116, 5, .inl (fun _ => 0))), (q_117, .inl (cA_118, 64, .inl (fun _ => 0)))] := hD
  have hK : va_K (dC, dI) vwCl [(cA_3, .byte), (cA_8, .int), (cA_10, .int), (cA_26, .object RX8), (cA_31, .int), (cA_40, .int), (cA_45, .int), (cA_47, .int), (cA_49, .long), (cA_51, .double), (cA_107, .int), (cA_116, .int), (cA_118, .int)] s := hK
  refine lv_aload_n hx hb dL_law_177 rfl (lv_at hl 2 rfl) ?_
  refine lv_aload_n hx hb dL_law_178 rfl (lv_at hl 0 rfl) ?_
  refine lv_iload_n hx hb dL_law_179 rfl (lv_at hl 3 rfl) ?_
  refine lv_iconst (v := 1) hx hb dL_law_180 (by decide) ?_
  refine lv_iadd hx hb dL_law_181 ?_
  refine my_ti (v := 1) (by decide) ?_
  refine va_sld hx hb hX hbl hbA hS (by unfold vp_in; decide) dL_law_182 ?_
  refine my_ti (v := xs 1) rfl ?_
  refine lv_aload_n hx hb dL_law_183 rfl (lv_at hl 0 rfl) ?_
  refine lv_iload_n hx hb dL_law_184 rfl (lv_at hl 3 rfl) ?_
  refine lv_iconst (v := 2) hx hb dL_law_185 (by decide) ?_
  refine lv_iadd hx hb dL_law_186 ?_
  refine my_ti (v := 2) (by decide) ?_
  refine va_sld hx hb hX hbl hbA hS (by unfold vp_in; decide) dL_law_187 ?_
  refine my_ti (v := xs 2) rfl ?_
  have hPc := hP.sub (ws' := [(q_101, .inr (11, [.int 0, .ref q_102, .int 0, .ref q_104, .int 12, .ref q_106, .int 0, .int 0, .int 0, .int 0, .long 0, .int 0, .long 0, .int 0, .int 0, .int 0, .int 0, .int 0, .int 0, .ref q_108, .ref q_109, .ref q_110, .int 0, .ref q_111, .ref q_112, .ref q_113, .ref q_114, .ref q_115, .ref q_117, .int 0, .ref q_119, .int 0, .int 0, .ref q_120, .int 0, .int 0, .long 0, .int 0, .ref q_121, .int 0, .int 0, .ref q_122, .ref q_123, .ref q_124, .ref q_125, .ref q_126, .ref q_127, .int 0, .int 0, .ref q_128, .ref q_129, .ref q_130, .ref q_131, .int 0, .ref q_132, .ref q_133, .ref q_134, .ref q_135, .ref q_136, .ref q_137, .ref q_138, .int 0, .ref q_139, .ref q_140, .ref q_141, .int 0, .ref q_142, .ref q_143, .int 0, .int 0, .ref q_144, .ref q_145, .ref q_146, .ref q_147, .ref q_148, .ref q_149, .ref q_150, .ref q_151, .ref q_152, .ref q_153, .ref q_154, .int 0, .int 0, .int 0, .int 0, .int 0, .ref q_155, .ref q_156, .int 0, .int 0, .int 0, .int 0, .int 0, .int 0, .int 0, .int 0, .long 0, .int 0, .int 0, .long 0, .ref q_157, .ref q_159, .ref q_161, .ref q_163, .int 0, .ref q_165])), (q_106, .inl (cA_107, 64, .inl g_168)), (q_117, .inl (cA_118, 64, .inl (fun _ => 0))), (q_115, .inl (cA_116, 5, .inl (fun _ => 0)))]) [0, 1, 3, 2] rfl
  have hDc := hD.sub (ws' := [(q_101, .inr (11, [.int 0, .ref q_102, .int 0, .ref q_104, .int 12, .ref q_106, .int 0, .int 0, .int 0, .int 0, .long 0, .int 0, .long 0, .int 0, .int 0, .int 0, .int 0, .int 0, .int 0, .ref q_108, .ref q_109, .ref q_110, .int 0, .ref q_111, .ref q_112, .ref q_113, .ref q_114, .ref q_115, .ref q_117, .int 0, .ref q_119, .int 0, .int 0, .ref q_120, .int 0, .int 0, .long 0, .int 0, .ref q_121, .int 0, .int 0, .ref q_122, .ref q_123, .ref q_124, .ref q_125, .ref q_126, .ref q_127, .int 0, .int 0, .ref q_128, .ref q_129, .ref q_130, .ref q_131, .int 0, .ref q_132, .ref q_133, .ref q_134, .ref q_135, .ref q_136, .ref q_137, .ref q_138, .int 0, .ref q_139, .ref q_140, .ref q_141, .int 0, .ref q_142, .ref q_143, .int 0, .int 0, .ref q_144, .ref q_145, .ref q_146, .ref q_147, .ref q_148, .ref q_149, .ref q_150, .ref q_151, .ref q_152, .ref q_153, .ref q_154, .int 0, .int 0, .int 0, .int 0, .int 0, .ref q_155, .ref q_156, .int 0, .int 0, .int 0, .int 0, .int 0, .int 0, .int 0, .int 0, .long 0, .int 0, .int 0, .long 0, .ref q_157, .ref q_159, .ref q_161, .ref q_163, .int 0, .ref q_165])), (q_106, .inl (cA_107, 64, .inl g_168)), (q_117, .inl (cA_118, 64, .inl (fun _ => 0))), (q_115, .inl (cA_116, 5, .inl (fun _ => 0)))]) [0, 1, 3, 2] (by decide) rfl
  have hKc := hK.sub (tys' := [(cA_107, .int), (cA_118, .int), (cA_116, .int)]) [10, 12, 11] rfl
  have hFc := va_free (wc := [(q_101, .inr (11, [.int 0, .ref q_102, .int 0, .ref q_104, .int 12, .ref q_106, .int 0, .int 0, .int 0, .int 0, .long 0, .int 0, .long 0, .int 0, .int 0, .int 0, .int 0, .int 0, .int 0, .ref q_108, .ref q_109, .ref q_110, .int 0, .ref q_111, .ref q_112, .ref q_113, .ref q_114, .ref q_115, .ref q_117, .int 0, .ref q_119, .int 0, .int 0, .ref q_120, .int 0, .int 0, .long 0, .int 0, .ref q_121, .int 0, .int 0, .ref q_122, .ref q_123, .ref q_124, .ref q_125, .ref q_126, .ref q_127, .int 0, .int 0, .ref q_128, .ref q_129, .ref q_130, .ref q_131, .int 0, .ref q_132, .ref q_133, .ref q_134, .ref q_135, .ref q_136, .ref q_137, .ref q_138, .int 0, .ref q_139, .ref q_140, .ref q_141, .int 0, .ref q_142, .ref q_143, .int 0, .int 0, .ref q_144, .ref q_145, .ref q_146, .ref q_147, .ref q_148, .ref q_149, .ref q_150, .ref q_151, .ref q_152, .ref q_153, .ref q_154, .int 0, .int 0, .int 0, .int 0, .int 0, .ref q_155, .ref q_156, .int 0, .int 0, .int 0, .int 0, .int 0, .int 0, .int 0, .int 0, .long 0, .int 0, .int 0, .long 0, .ref q_157, .ref q_159, .ref q_161, .ref q_163, .int 0, .ref q_165])), (q_106, .inl (cA_107, 64, .inl g_168)), (q_117, .inl (cA_118, 64, .inl (fun _ => 0))), (q_115, .inl (cA_116, 5, .inl (fun _ => 0)))]) hD hS hA [0, 1, 3, 2] rfl
  refine va_calli (va_runV (As := [.int (xs 1), .int (xs 2)]) (rest := [.int r_171]) ⟨hx, hb, hml, hown, hts⟩ (c_X12_load l dC dI H.size q_101 q_102 q_104 q_106 q_108 q_109 q_110 q_111 q_112 q_113 q_114 q_115 q_117 q_119 q_120 q_121 q_122 q_123 q_124 q_125 q_126 q_127 q_128 q_129 q_130 q_131 q_132 q_133 q_134 q_135 q_136 q_137 q_138 q_139 q_140 q_141 q_142 q_143 q_144 q_145 q_146 q_147 q_148 q_149 q_150 q_151 q_152 q_153 q_154 q_155 q_156 q_157 q_159 q_161 q_163 q_165 cA_107 g_168 cA_118 (fun _ => 0) cA_116 (xs 1) (xs 2) ) (cwV 2 hts gl_wqX12_load_22 rfl rfl rfl (by decide +kernel) ⟨Nat.le_of_ble_eq_true rfl, Nat.le_of_ble_eq_true rfl⟩) ⟨fb_M, va_recv hK hP (ci := 11) (q0 := 0) rfl rfl, fun U hU hW => ⟨rfl, xM.at hPc hKc hDc hU hW⟩⟩ rfl rfl hl.1 rfl (lv_room (Nat.le_of_ble_eq_true rfl)) dL_law_188 ⟨Nat.le_of_ble_eq_true rfl, Nat.le_of_ble_eq_true rfl⟩) hS (fun q _ h => hFc q h) hFc (fun r_173 u t H locs ht hvm hw hB hz1 hk1 hS => ?_)
  have hw_174 := hw
  obtain ⟨hP, hD, hK⟩ := xB.join (wr := []) (w1 := []) hP hD hK [0, 1, 3, 2] [] rfl rfl (by decide) (by decide) hk1 hFc (xB.nil hvm hK) ht hvm
  have hP : va_P (dC, dI) vwCl [] _ := hP
  have hD : va_D (fun q : Nat => s.heap.size ≤ q) [] := hD
  have hK : va_K (dC, dI) vwCl [(cA_3, .byte), (cA_8, .int), (cA_10, .int), (cA_26, .object RX8), (cA_31, .int), (cA_40, .int), (cA_45, .int), (cA_47, .int), (cA_49, .long), (cA_51, .double), (cA_107, .int), (cA_116, .int), (cA_118, .int)] s := hK
  refine lv_icmp_eq (tgt := 571) hx hb dL_law_191 (by decide) (fun c_191 => ?_) (fun c_191 => absurd (or_eq hw_172 hw_174) c_191)
  refine lv_iinc (v := 6) (lv' := [(3, .int 6), (0, .ref b), (1, .ref q_1), (2, .ref q_101)]) hx hb dL_law_571 hl (k := 3) rfl (by decide) (by decide) rfl (fun ls hl => ?_)
  refine lv_goto (tgt := 18) hx hb dL_law_574 (by decide) ?_
  refine lv_iload_n hx hb dL_law_18 rfl (lv_at hl 0 rfl) ?_
  refine lv_aload_n hx hb dL_law_19 rfl (lv_at hl 1 rfl) ?_
  refine va_slen hx hb hX hbl hbA hS dL_law_20 ?_
  refine my_ti (v := 6) rfl ?_
  refine lv_bipush (v := 6) hx hb dL_law_21 (by decide) ?_
  refine lv_isub hx hb dL_law_23 ?_
  refine my_ti (v := 0) (by decide) ?_
  refine lv_icmp_gt (tgt := 577) hx hb dL_law_24 (by decide) (fun c_24 => ?_) (fun c_24 => absurd c_24 (by decide))
  refine lv_iconst (v := 1) hx hb dL_law_577 (by decide) ?_
  refine va_forget (fun q hq => hS.2.2 q hq) ?_
  refine W.widen (k := 600000) (n := 7302250) (Nat.le_of_ble_eq_true rfl) (Nat.le_of_ble_eq_true rfl) ?_
  exact W.base (lw_ret (d0 := s.drawn) (Drawn.sameBut.refl s.drawn lw_cs) hx hb hr hlocks dL_law_578)

set_option maxHeartbeats 4000000 in
set_option maxRecDepth 100000 in
theorem law_2 {p : Program} {l : Launch} {e : Env} {s : State} {m : MethodId} {below : List Frame} {meth : Method} {c : Code} {b : Nat} {xs : Nat → Int32} (C0 : lw_At p s m meth c b 6 xs) (dC : Nat → ClassId) (dI : Nat → Nat → Nat) (q_1 : Nat) (q_2 : Nat) (q_4 : Nat) (q_13 : Nat) (q_25 : Nat) (q_27 : Nat) (q_38 : Nat) (q_52 : Nat) (q_101 : Nat) (q_102 : Nat) (q_104 : Nat) (q_106 : Nat) (q_108 : Nat) (q_109 : Nat) (q_110 : Nat) (q_111 : Nat) (q_112 : Nat) (q_113 : Nat) (q_114 : Nat) (q_115 : Nat) (q_117 : Nat) (q_119 : Nat) (q_120 : Nat) (q_121 : Nat) (q_122 : Nat) (q_123 : Nat) (q_124 : Nat) (q_125 : Nat) (q_126 : Nat) (q_127 : Nat) (q_128 : Nat) (q_129 : Nat) (q_130 : Nat) (q_131 : Nat) (q_132 : Nat) (q_133 : Nat) (q_134 : Nat) (q_135 : Nat) (q_136 : Nat) (q_137 : Nat) (q_138 : Nat) (q_139 : Nat) (q_140 : Nat) (q_141 : Nat) (q_142 : Nat) (q_143 : Nat) (q_144 : Nat) (q_145 : Nat) (q_146 : Nat) (q_147 : Nat) (q_148 : Nat) (q_149 : Nat) (q_150 : Nat) (q_151 : Nat) (q_152 : Nat) (q_153 : Nat) (q_154 : Nat) (q_155 : Nat) (q_156 : Nat) (q_157 : Nat) (q_159 : Nat) (q_161 : Nat) (q_163 : Nat) (q_165 : Nat) {H : Heap} {locs : List Loc} {ls : Array Slot} (hK : va_K (dC, dI) vwCl [] s) (hP : va_P (dC, dI) vwCl [(q_1, .inr (10, [.ref q_2, .int 0, .int 0, .ref q_4, .ref q_13, .ref q_25, .ref q_27, .ref q_38, .ref q_52])), (q_101, .inr (11, [.int 0, .ref q_102, .int 0, .ref q_104, .int 12, .ref q_106, .int 0, .int 0, .int 0, .int 0, .long 0, .int 0, .long 0, .int 0, .int 0, .int 0, .int 0, .int 0, .int 0, .ref q_108, .ref q_109, .ref q_110, .int 0, .ref q_111, .ref q_112, .ref q_113, .ref q_114, .ref q_115, .ref q_117, .int 0, .ref q_119, .int 0, .int 0, .ref q_120, .int 0, .int 0, .long 0, .int 0, .ref q_121, .int 0, .int 0, .ref q_122, .ref q_123, .ref q_124, .ref q_125, .ref q_126, .ref q_127, .int 0, .int 0, .ref q_128, .ref q_129, .ref q_130, .ref q_131, .int 0, .ref q_132, .ref q_133, .ref q_134, .ref q_135, .ref q_136, .ref q_137, .ref q_138, .int 0, .ref q_139, .ref q_140, .ref q_141, .int 0, .ref q_142, .ref q_143, .int 0, .int 0, .ref q_144, .ref q_145, .ref q_146, .ref q_147, .ref q_148, .ref q_149, .ref q_150, .ref q_151, .ref q_152, .ref q_153, .ref q_154, .int 0, .int 0, .int 0, .int 0, .int 0, .ref q_155, .ref q_156, .int 0, .int 0, .int 0, .int 0, .int 0, .int 0, .int 0, .int 0, .long 0, .int 0, .int 0, .long 0, .ref q_157, .ref q_159, .ref q_161, .ref q_163, .int 0, .ref q_165]))] H) (hD : va_D (fun q : Nat => s.heap.size ≤ q) [(q_1, .inr (10, [.ref q_2, .int 0, .int 0, .ref q_4, .ref q_13, .ref q_25, .ref q_27, .ref q_38, .ref q_52])), (q_101, .inr (11, [.int 0, .ref q_102, .int 0, .ref q_104, .int 12, .ref q_106, .int 0, .int 0, .int 0, .int 0, .long 0, .int 0, .long 0, .int 0, .int 0, .int 0, .int 0, .int 0, .int 0, .ref q_108, .ref q_109, .ref q_110, .int 0, .ref q_111, .ref q_112, .ref q_113, .ref q_114, .ref q_115, .ref q_117, .int 0, .ref q_119, .int 0, .int 0, .ref q_120, .int 0, .int 0, .long 0, .int 0, .ref q_121, .int 0, .int 0, .ref q_122, .ref q_123, .ref q_124, .ref q_125, .ref q_126, .ref q_127, .int 0, .int 0, .ref q_128, .ref q_129, .ref q_130, .ref q_131, .int 0, .ref q_132, .ref q_133, .ref q_134, .ref q_135, .ref q_136, .ref q_137, .ref q_138, .int 0, .ref q_139, .ref q_140, .ref q_141, .int 0, .ref q_142, .ref q_143, .int 0, .int 0, .ref q_144, .ref q_145, .ref q_146, .ref q_147, .ref q_148, .ref q_149, .ref q_150, .ref q_151, .ref q_152, .ref q_153, .ref q_154, .int 0, .int 0, .int 0, .int 0, .int 0, .ref q_155, .ref q_156, .int 0, .int 0, .int 0, .int 0, .int 0, .int 0, .int 0, .int 0, .long 0, .int 0, .int 0, .long 0, .ref q_157, .ref q_159, .ref q_161, .ref q_163, .int 0, .ref q_165]))]) (hS : va_S (fun q : Nat => s.heap.size ≤ q) s.heap H locs) (hl : lv_has ls 4 [(0, .ref b), (1, .ref q_1), (2, .ref q_101), (3, .int 0)]) : W p l e room_1 s m #[Value.ref b] below meth c H locs 167 452814 (lw_Z below #[Value.ref b] s) (F0 m 196 ls []) := by
  obtain ⟨hx, hb, hr, hml, hown, hts, hX, hbl, hlocks, hgv⟩ := id C0
  have hown : s.vm.findClass RL = some m.cls := hown
  have hA : ∀ q : Nat, s.heap.size ≤ q → (fun q : Nat => s.heap.size ≤ q) q := fun _ h => h
  have hbA : ¬ (fun q : Nat => s.heap.size ≤ q) b := Nat.not_le.mpr hbl
  refine lv_aload_n hx hb dL_law_196 rfl (lv_at hl 1 rfl) ?_
  refine va_calli (va_runV (As := []) (rest := []) ⟨hx, hb, hml, hown, hts⟩ (c_X11_fault l dC dI q_1 q_2 q_4 q_13 q_25 q_27 q_38 q_52 ) (cwV 0 hts gl_wsX11_fault_23 rfl rfl rfl (by decide +kernel) ⟨Nat.le_of_ble_eq_true rfl, Nat.le_of_ble_eq_true rfl⟩) ⟨fb_R, va_recv hK hP (ci := 10) (q0 := 0) rfl rfl, fun U hU hW => ⟨rfl, xR.at (hP.sub (ws' := [(q_1, .inr (10, [.ref q_2, .int 0, .int 0, .ref q_4, .ref q_13, .ref q_25, .ref q_27, .ref q_38, .ref q_52]))]) [0] rfl) (hK.sub (tys' := []) [] rfl) hU hW⟩⟩ rfl rfl hl.1 rfl (lv_room (Nat.le_of_ble_eq_true rfl)) dL_law_197 ⟨Nat.le_of_ble_eq_true rfl, Nat.le_of_ble_eq_true rfl⟩) hS (fun q _ h => h.elim) (fun q h => h.elim) (fun r_171 u t H locs ht hvm hw hB hz1 hk1 hS => ?_)
  have hw_172 := hw
  have hP := xR.keep hP hk1
  refine lv_aload_n hx hb dL_law_200 rfl (lv_at hl 2 rfl) ?_
  have hPc := hP.sub (ws' := [(q_101, .inr (11, [.int 0, .ref q_102, .int 0, .ref q_104, .int 12, .ref q_106, .int 0, .int 0, .int 0, .int 0, .long 0, .int 0, .long 0, .int 0, .int 0, .int 0, .int 0, .int 0, .int 0, .ref q_108, .ref q_109, .ref q_110, .int 0, .ref q_111, .ref q_112, .ref q_113, .ref q_114, .ref q_115, .ref q_117, .int 0, .ref q_119, .int 0, .int 0, .ref q_120, .int 0, .int 0, .long 0, .int 0, .ref q_121, .int 0, .int 0, .ref q_122, .ref q_123, .ref q_124, .ref q_125, .ref q_126, .ref q_127, .int 0, .int 0, .ref q_128, .ref q_129, .ref q_130, .ref q_131, .int 0, .ref q_132, .ref q_133, .ref q_134, .ref q_135, .ref q_136, .ref q_137, .ref q_138, .int 0, .ref q_139, .ref q_140, .ref q_141, .int 0, .ref q_142, .ref q_143, .int 0, .int 0, .ref q_144, .ref q_145, .ref q_146, .ref q_147, .ref q_148, .ref q_149, .ref q_150, .ref q_151, .ref q_152, .ref q_153, .ref q_154, .int 0, .int 0, .int 0, .int 0, .int 0, .ref q_155, .ref q_156, .int 0, .int 0, .int 0, .int 0, .int 0, .int 0, .int 0, .int 0, .long 0, .int 0, .int 0, .long 0, .ref q_157, .ref q_159, .ref q_161, .ref q_163, .int 0, .ref q_165]))]) [1] rfl
  have hDc := hD.sub (ws' := [(q_101, .inr (11, [.int 0, .ref q_102, .int 0, .ref q_104, .int 12, .ref q_106, .int 0, .int 0, .int 0, .int 0, .long 0, .int 0, .long 0, .int 0, .int 0, .int 0, .int 0, .int 0, .int 0, .ref q_108, .ref q_109, .ref q_110, .int 0, .ref q_111, .ref q_112, .ref q_113, .ref q_114, .ref q_115, .ref q_117, .int 0, .ref q_119, .int 0, .int 0, .ref q_120, .int 0, .int 0, .long 0, .int 0, .ref q_121, .int 0, .int 0, .ref q_122, .ref q_123, .ref q_124, .ref q_125, .ref q_126, .ref q_127, .int 0, .int 0, .ref q_128, .ref q_129, .ref q_130, .ref q_131, .int 0, .ref q_132, .ref q_133, .ref q_134, .ref q_135, .ref q_136, .ref q_137, .ref q_138, .int 0, .ref q_139, .ref q_140, .ref q_141, .int 0, .ref q_142, .ref q_143, .int 0, .int 0, .ref q_144, .ref q_145, .ref q_146, .ref q_147, .ref q_148, .ref q_149, .ref q_150, .ref q_151, .ref q_152, .ref q_153, .ref q_154, .int 0, .int 0, .int 0, .int 0, .int 0, .ref q_155, .ref q_156, .int 0, .int 0, .int 0, .int 0, .int 0, .int 0, .int 0, .int 0, .long 0, .int 0, .int 0, .long 0, .ref q_157, .ref q_159, .ref q_161, .ref q_163, .int 0, .ref q_165]))]) [1] (by decide) rfl
  have hKc := hK.sub (tys' := []) [] rfl
  have hFc := va_free (wc := [(q_101, .inr (11, [.int 0, .ref q_102, .int 0, .ref q_104, .int 12, .ref q_106, .int 0, .int 0, .int 0, .int 0, .long 0, .int 0, .long 0, .int 0, .int 0, .int 0, .int 0, .int 0, .int 0, .ref q_108, .ref q_109, .ref q_110, .int 0, .ref q_111, .ref q_112, .ref q_113, .ref q_114, .ref q_115, .ref q_117, .int 0, .ref q_119, .int 0, .int 0, .ref q_120, .int 0, .int 0, .long 0, .int 0, .ref q_121, .int 0, .int 0, .ref q_122, .ref q_123, .ref q_124, .ref q_125, .ref q_126, .ref q_127, .int 0, .int 0, .ref q_128, .ref q_129, .ref q_130, .ref q_131, .int 0, .ref q_132, .ref q_133, .ref q_134, .ref q_135, .ref q_136, .ref q_137, .ref q_138, .int 0, .ref q_139, .ref q_140, .ref q_141, .int 0, .ref q_142, .ref q_143, .int 0, .int 0, .ref q_144, .ref q_145, .ref q_146, .ref q_147, .ref q_148, .ref q_149, .ref q_150, .ref q_151, .ref q_152, .ref q_153, .ref q_154, .int 0, .int 0, .int 0, .int 0, .int 0, .ref q_155, .ref q_156, .int 0, .int 0, .int 0, .int 0, .int 0, .int 0, .int 0, .int 0, .long 0, .int 0, .int 0, .long 0, .ref q_157, .ref q_159, .ref q_161, .ref q_163, .int 0, .ref q_165]))]) hD hS hA [1] rfl
  refine va_calli (va_runV (As := []) (rest := [.int r_171]) ⟨hx, hb, hml, hown, hts⟩ (c_X12_fault l dC dI H.size q_101 q_102 q_104 q_106 q_108 q_109 q_110 q_111 q_112 q_113 q_114 q_115 q_117 q_119 q_120 q_121 q_122 q_123 q_124 q_125 q_126 q_127 q_128 q_129 q_130 q_131 q_132 q_133 q_134 q_135 q_136 q_137 q_138 q_139 q_140 q_141 q_142 q_143 q_144 q_145 q_146 q_147 q_148 q_149 q_150 q_151 q_152 q_153 q_154 q_155 q_156 q_157 q_159 q_161 q_163 q_165 ) (cwV 0 hts gl_wqX12_fault_27 rfl rfl rfl (by decide +kernel) ⟨Nat.le_of_ble_eq_true rfl, Nat.le_of_ble_eq_true rfl⟩) ⟨fb_M, va_recv hK hP (ci := 11) (q0 := 1) rfl rfl, fun U hU hW => ⟨rfl, xM.at hPc hKc hDc hU hW⟩⟩ rfl rfl hl.1 rfl (lv_room (Nat.le_of_ble_eq_true rfl)) dL_law_201 ⟨Nat.le_of_ble_eq_true rfl, Nat.le_of_ble_eq_true rfl⟩) hS (fun q _ h => hFc q h) hFc (fun r_173 u t H locs ht hvm hw hB hz1 hk1 hS => ?_)
  have hw_174 := hw
  obtain ⟨hP, hD, hK⟩ := xB.join (wr := [(q_1, .inr (10, [.ref q_2, .int 0, .int 0, .ref q_4, .ref q_13, .ref q_25, .ref q_27, .ref q_38, .ref q_52]))]) (w1 := []) hP hD hK [1] [0] rfl rfl (by decide) (by decide) hk1 hFc (xB.nil hvm hK) ht hvm
  have hP : va_P (dC, dI) vwCl [(q_1, .inr (10, [.ref q_2, .int 0, .int 0, .ref q_4, .ref q_13, .ref q_25, .ref q_27, .ref q_38, .ref q_52]))] _ := hP
  have hD : va_D (fun q : Nat => s.heap.size ≤ q) [(q_1, .inr (10, [.ref q_2, .int 0, .int 0, .ref q_4, .ref q_13, .ref q_25, .ref q_27, .ref q_38, .ref q_52]))] := hD
  have hK : va_K (dC, dI) vwCl [] s := hK
  refine lv_icmp_eq (tgt := 571) hx hb dL_law_204 (by decide) (fun c_204 => ?_) (fun c_204 => absurd (hw_172.trans hw_174.symm) c_204)
  refine lv_iinc (v := 6) (lv' := [(3, .int 6), (0, .ref b), (1, .ref q_1), (2, .ref q_101)]) hx hb dL_law_571 hl (k := 3) rfl (by decide) (by decide) rfl (fun ls hl => ?_)
  refine lv_goto (tgt := 18) hx hb dL_law_574 (by decide) ?_
  refine lv_iload_n hx hb dL_law_18 rfl (lv_at hl 0 rfl) ?_
  refine lv_aload_n hx hb dL_law_19 rfl (lv_at hl 1 rfl) ?_
  refine va_slen hx hb hX hbl hbA hS dL_law_20 ?_
  refine my_ti (v := 6) rfl ?_
  refine lv_bipush (v := 6) hx hb dL_law_21 (by decide) ?_
  refine lv_isub hx hb dL_law_23 ?_
  refine my_ti (v := 0) (by decide) ?_
  refine lv_icmp_gt (tgt := 577) hx hb dL_law_24 (by decide) (fun c_24 => ?_) (fun c_24 => absurd c_24 (by decide))
  refine lv_iconst (v := 1) hx hb dL_law_577 (by decide) ?_
  refine va_forget (fun q hq => hS.2.2 q hq) ?_
  refine W.widen (k := 600000) (n := 7302250) (Nat.le_of_ble_eq_true rfl) (Nat.le_of_ble_eq_true rfl) ?_
  exact W.base (lw_ret (d0 := s.drawn) (Drawn.sameBut.refl s.drawn lw_cs) hx hb hr hlocks dL_law_578)

set_option maxHeartbeats 4000000 in
set_option maxRecDepth 100000 in
theorem law_3 {p : Program} {l : Launch} {e : Env} {s : State} {m : MethodId} {below : List Frame} {meth : Method} {c : Code} {b : Nat} {xs : Nat → Int32} (C0 : lw_At p s m meth c b 6 xs) (dC : Nat → ClassId) (dI : Nat → Nat → Nat) (q_1 : Nat) (q_2 : Nat) (q_4 : Nat) (q_5 : Nat) (cA_6 : ClassId) (q_7 : Nat) (q_9 : Nat) (f_11 : Nat → Int64) (q_13 : Nat) (q_25 : Nat) (q_27 : Nat) (q_38 : Nat) (q_52 : Nat) (q_101 : Nat) (q_102 : Nat) (q_104 : Nat) (cA_105 : ClassId) (q_106 : Nat) (q_108 : Nat) (q_109 : Nat) (q_110 : Nat) (q_111 : Nat) (q_112 : Nat) (q_113 : Nat) (q_114 : Nat) (q_115 : Nat) (q_117 : Nat) (q_119 : Nat) (q_120 : Nat) (q_121 : Nat) (q_122 : Nat) (q_123 : Nat) (q_124 : Nat) (q_125 : Nat) (q_126 : Nat) (q_127 : Nat) (q_128 : Nat) (q_129 : Nat) (q_130 : Nat) (q_131 : Nat) (q_132 : Nat) (q_133 : Nat) (q_134 : Nat) (q_135 : Nat) (q_136 : Nat) (q_137 : Nat) (q_138 : Nat) (q_139 : Nat) (q_140 : Nat) (q_141 : Nat) (q_142 : Nat) (q_143 : Nat) (q_144 : Nat) (q_145 : Nat) (q_146 : Nat) (q_147 : Nat) (q_148 : Nat) (q_149 : Nat) (q_150 : Nat) (q_151 : Nat) (q_152 : Nat) (q_153 : Nat) (q_154 : Nat) (q_155 : Nat) (q_156 : Nat) (q_157 : Nat) (q_159 : Nat) (q_161 : Nat) (q_163 : Nat) (q_165 : Nat) (f_167 : Nat → Int64) (hf_96 : f_11 = (nmS 63).2.2) (hf_170 : f_167 = (mdS 63).2.2) {H : Heap} {locs : List Loc} {ls : Array Slot} (hK : va_K (dC, dI) vwCl [(cA_6, .long), (cA_105, .long)] s) (hP : va_P (dC, dI) vwCl [(q_1, .inr (10, [.ref q_2, .int 0, .int 0, .ref q_4, .ref q_13, .ref q_25, .ref q_27, .ref q_38, .ref q_52])), (q_4, .inr (5, [.ref q_5, .ref q_7, .ref q_9, .int 11, .int 0])), (q_5, .inl (cA_6, 52, .inr (.inl f_11))), (q_101, .inr (11, [.int 0, .ref q_102, .int 0, .ref q_104, .int 12, .ref q_106, .int 0, .int 0, .int 0, .int 0, .long 0, .int 0, .long 0, .int 0, .int 0, .int 0, .int 0, .int 0, .int 0, .ref q_108, .ref q_109, .ref q_110, .int 0, .ref q_111, .ref q_112, .ref q_113, .ref q_114, .ref q_115, .ref q_117, .int 0, .ref q_119, .int 0, .int 0, .ref q_120, .int 0, .int 0, .long 0, .int 0, .ref q_121, .int 0, .int 0, .ref q_122, .ref q_123, .ref q_124, .ref q_125, .ref q_126, .ref q_127, .int 0, .int 0, .ref q_128, .ref q_129, .ref q_130, .ref q_131, .int 0, .ref q_132, .ref q_133, .ref q_134, .ref q_135, .ref q_136, .ref q_137, .ref q_138, .int 0, .ref q_139, .ref q_140, .ref q_141, .int 0, .ref q_142, .ref q_143, .int 0, .int 0, .ref q_144, .ref q_145, .ref q_146, .ref q_147, .ref q_148, .ref q_149, .ref q_150, .ref q_151, .ref q_152, .ref q_153, .ref q_154, .int 0, .int 0, .int 0, .int 0, .int 0, .ref q_155, .ref q_156, .int 0, .int 0, .int 0, .int 0, .int 0, .int 0, .int 0, .int 0, .long 0, .int 0, .int 0, .long 0, .ref q_157, .ref q_159, .ref q_161, .ref q_163, .int 0, .ref q_165])), (q_104, .inl (cA_105, 64, .inr (.inl f_167)))] H) (hD : va_D (fun q : Nat => s.heap.size ≤ q) [(q_1, .inr (10, [.ref q_2, .int 0, .int 0, .ref q_4, .ref q_13, .ref q_25, .ref q_27, .ref q_38, .ref q_52])), (q_4, .inr (5, [.ref q_5, .ref q_7, .ref q_9, .int 11, .int 0])), (q_5, .inl (cA_6, 52, .inr (.inl f_11))), (q_101, .inr (11, [.int 0, .ref q_102, .int 0, .ref q_104, .int 12, .ref q_106, .int 0, .int 0, .int 0, .int 0, .long 0, .int 0, .long 0, .int 0, .int 0, .int 0, .int 0, .int 0, .int 0, .ref q_108, .ref q_109, .ref q_110, .int 0, .ref q_111, .ref q_112, .ref q_113, .ref q_114, .ref q_115, .ref q_117, .int 0, .ref q_119, .int 0, .int 0, .ref q_120, .int 0, .int 0, .long 0, .int 0, .ref q_121, .int 0, .int 0, .ref q_122, .ref q_123, .ref q_124, .ref q_125, .ref q_126, .ref q_127, .int 0, .int 0, .ref q_128, .ref q_129, .ref q_130, .ref q_131, .int 0, .ref q_132, .ref q_133, .ref q_134, .ref q_135, .ref q_136, .ref q_137, .ref q_138, .int 0, .ref q_139, .ref q_140, .ref q_141, .int 0, .ref q_142, .ref q_143, .int 0, .int 0, .ref q_144, .ref q_145, .ref q_146, .ref q_147, .ref q_148, .ref q_149, .ref q_150, .ref q_151, .ref q_152, .ref q_153, .ref q_154, .int 0, .int 0, .int 0, .int 0, .int 0, .ref q_155, .ref q_156, .int 0, .int 0, .int 0, .int 0, .int 0, .int 0, .int 0, .int 0, .long 0, .int 0, .int 0, .long 0, .ref q_157, .ref q_159, .ref q_161, .ref q_163, .int 0, .ref q_165])), (q_104, .inl (cA_105, 64, .inr (.inl f_167)))]) (hS : va_S (fun q : Nat => s.heap.size ≤ q) s.heap H locs) (hl : lv_has ls 4 [(0, .ref b), (1, .ref q_1), (2, .ref q_101), (3, .int 0)]) : W p l e room_1 s m #[Value.ref b] below meth c H locs 167 452814 (lw_Z below #[Value.ref b] s) (F0 m 209 ls []) := by
  obtain ⟨hx, hb, hr, hml, hown, hts, hX, hbl, hlocks, hgv⟩ := id C0
  have hown : s.vm.findClass RL = some m.cls := hown
  have hA : ∀ q : Nat, s.heap.size ≤ q → (fun q : Nat => s.heap.size ≤ q) q := fun _ h => h
  have hbA : ¬ (fun q : Nat => s.heap.size ≤ q) b := Nat.not_le.mpr hbl
  refine lv_aload_n hx hb dL_law_209 rfl (lv_at hl 1 rfl) ?_
  refine lv_aload_n hx hb dL_law_210 rfl (lv_at hl 0 rfl) ?_
  refine lv_iload_n hx hb dL_law_211 rfl (lv_at hl 3 rfl) ?_
  refine lv_iconst (v := 1) hx hb dL_law_212 (by decide) ?_
  refine lv_iadd hx hb dL_law_213 ?_
  refine my_ti (v := 1) (by decide) ?_
  refine va_sld hx hb hX hbl hbA hS (by unfold vp_in; decide) dL_law_214 ?_
  refine my_ti (v := xs 1) rfl ?_
  refine lv_aload_n hx hb dL_law_215 rfl (lv_at hl 0 rfl) ?_
  refine lv_iload_n hx hb dL_law_216 rfl (lv_at hl 3 rfl) ?_
  refine lv_iconst (v := 2) hx hb dL_law_217 (by decide) ?_
  refine lv_iadd hx hb dL_law_218 ?_
  refine my_ti (v := 2) (by decide) ?_
  refine va_sld hx hb hX hbl hbA hS (by unfold vp_in; decide) dL_law_219 ?_
  refine my_ti (v := xs 2) rfl ?_
  refine va_calli (va_runV (As := [.int (xs 1), .int (xs 2)]) (rest := []) ⟨hx, hb, hml, hown, hts⟩ (c_X11_letter l dC dI q_1 q_2 q_4 q_13 q_25 q_27 q_38 q_52 q_5 q_7 q_9 cA_6 f_11 (xs 1) (xs 2) hf_96) (cwV 2 hts gl_wsX11_letter_28 rfl rfl rfl (by decide +kernel) ⟨Nat.le_of_ble_eq_true rfl, Nat.le_of_ble_eq_true rfl⟩) ⟨fb_R, va_recv hK hP (ci := 10) (q0 := 0) rfl rfl, fun U hU hW => ⟨rfl, xR.at (hP.sub (ws' := [(q_1, .inr (10, [.ref q_2, .int 0, .int 0, .ref q_4, .ref q_13, .ref q_25, .ref q_27, .ref q_38, .ref q_52])), (q_4, .inr (5, [.ref q_5, .ref q_7, .ref q_9, .int 11, .int 0])), (q_5, .inl (cA_6, 52, .inr (.inl f_11)))]) [0, 1, 2] rfl) (hK.sub (tys' := [(cA_6, .long)]) [0] rfl) hU hW⟩⟩ rfl rfl hl.1 rfl (lv_room (Nat.le_of_ble_eq_true rfl)) dL_law_220 ⟨Nat.le_of_ble_eq_true rfl, Nat.le_of_ble_eq_true rfl⟩) hS (fun q _ h => h.elim) (fun q h => h.elim) (fun r_171 u t H locs ht hvm hw hB hz1 hk1 hS => ?_)
  have hw_172 := hw
  have hP := xR.keep hP hk1
  refine lv_aload_n hx hb dL_law_223 rfl (lv_at hl 2 rfl) ?_
  refine lv_aload_n hx hb dL_law_224 rfl (lv_at hl 0 rfl) ?_
  refine lv_iload_n hx hb dL_law_225 rfl (lv_at hl 3 rfl) ?_
  refine lv_iconst (v := 1) hx hb dL_law_226 (by decide) ?_
  refine lv_iadd hx hb dL_law_227 ?_
  refine my_ti (v := 1) (by decide) ?_
  refine va_sld hx hb hX hbl hbA hS (by unfold vp_in; decide) dL_law_228 ?_
  refine my_ti (v := xs 1) rfl ?_
  refine lv_aload_n hx hb dL_law_229 rfl (lv_at hl 0 rfl) ?_
  refine lv_iload_n hx hb dL_law_230 rfl (lv_at hl 3 rfl) ?_
  refine lv_iconst (v := 2) hx hb dL_law_231 (by decide) ?_
  refine lv_iadd hx hb dL_law_232 ?_
  refine my_ti (v := 2) (by decide) ?_
  refine va_sld hx hb hX hbl hbA hS (by unfold vp_in; decide) dL_law_233 ?_
  refine my_ti (v := xs 2) rfl ?_
  have hPc := hP.sub (ws' := [(q_101, .inr (11, [.int 0, .ref q_102, .int 0, .ref q_104, .int 12, .ref q_106, .int 0, .int 0, .int 0, .int 0, .long 0, .int 0, .long 0, .int 0, .int 0, .int 0, .int 0, .int 0, .int 0, .ref q_108, .ref q_109, .ref q_110, .int 0, .ref q_111, .ref q_112, .ref q_113, .ref q_114, .ref q_115, .ref q_117, .int 0, .ref q_119, .int 0, .int 0, .ref q_120, .int 0, .int 0, .long 0, .int 0, .ref q_121, .int 0, .int 0, .ref q_122, .ref q_123, .ref q_124, .ref q_125, .ref q_126, .ref q_127, .int 0, .int 0, .ref q_128, .ref q_129, .ref q_130, .ref q_131, .int 0, .ref q_132, .ref q_133, .ref q_134, .ref q_135, .ref q_136, .ref q_137, .ref q_138, .int 0, .ref q_139, .ref q_140, .ref q_141, .int 0, .ref q_142, .ref q_143, .int 0, .int 0, .ref q_144, .ref q_145, .ref q_146, .ref q_147, .ref q_148, .ref q_149, .ref q_150, .ref q_151, .ref q_152, .ref q_153, .ref q_154, .int 0, .int 0, .int 0, .int 0, .int 0, .ref q_155, .ref q_156, .int 0, .int 0, .int 0, .int 0, .int 0, .int 0, .int 0, .int 0, .long 0, .int 0, .int 0, .long 0, .ref q_157, .ref q_159, .ref q_161, .ref q_163, .int 0, .ref q_165])), (q_104, .inl (cA_105, 64, .inr (.inl f_167)))]) [3, 4] rfl
  have hDc := hD.sub (ws' := [(q_101, .inr (11, [.int 0, .ref q_102, .int 0, .ref q_104, .int 12, .ref q_106, .int 0, .int 0, .int 0, .int 0, .long 0, .int 0, .long 0, .int 0, .int 0, .int 0, .int 0, .int 0, .int 0, .ref q_108, .ref q_109, .ref q_110, .int 0, .ref q_111, .ref q_112, .ref q_113, .ref q_114, .ref q_115, .ref q_117, .int 0, .ref q_119, .int 0, .int 0, .ref q_120, .int 0, .int 0, .long 0, .int 0, .ref q_121, .int 0, .int 0, .ref q_122, .ref q_123, .ref q_124, .ref q_125, .ref q_126, .ref q_127, .int 0, .int 0, .ref q_128, .ref q_129, .ref q_130, .ref q_131, .int 0, .ref q_132, .ref q_133, .ref q_134, .ref q_135, .ref q_136, .ref q_137, .ref q_138, .int 0, .ref q_139, .ref q_140, .ref q_141, .int 0, .ref q_142, .ref q_143, .int 0, .int 0, .ref q_144, .ref q_145, .ref q_146, .ref q_147, .ref q_148, .ref q_149, .ref q_150, .ref q_151, .ref q_152, .ref q_153, .ref q_154, .int 0, .int 0, .int 0, .int 0, .int 0, .ref q_155, .ref q_156, .int 0, .int 0, .int 0, .int 0, .int 0, .int 0, .int 0, .int 0, .long 0, .int 0, .int 0, .long 0, .ref q_157, .ref q_159, .ref q_161, .ref q_163, .int 0, .ref q_165])), (q_104, .inl (cA_105, 64, .inr (.inl f_167)))]) [3, 4] (by decide) rfl
  have hKc := hK.sub (tys' := [(cA_105, .long)]) [1] rfl
  have hFc := va_free (wc := [(q_101, .inr (11, [.int 0, .ref q_102, .int 0, .ref q_104, .int 12, .ref q_106, .int 0, .int 0, .int 0, .int 0, .long 0, .int 0, .long 0, .int 0, .int 0, .int 0, .int 0, .int 0, .int 0, .ref q_108, .ref q_109, .ref q_110, .int 0, .ref q_111, .ref q_112, .ref q_113, .ref q_114, .ref q_115, .ref q_117, .int 0, .ref q_119, .int 0, .int 0, .ref q_120, .int 0, .int 0, .long 0, .int 0, .ref q_121, .int 0, .int 0, .ref q_122, .ref q_123, .ref q_124, .ref q_125, .ref q_126, .ref q_127, .int 0, .int 0, .ref q_128, .ref q_129, .ref q_130, .ref q_131, .int 0, .ref q_132, .ref q_133, .ref q_134, .ref q_135, .ref q_136, .ref q_137, .ref q_138, .int 0, .ref q_139, .ref q_140, .ref q_141, .int 0, .ref q_142, .ref q_143, .int 0, .int 0, .ref q_144, .ref q_145, .ref q_146, .ref q_147, .ref q_148, .ref q_149, .ref q_150, .ref q_151, .ref q_152, .ref q_153, .ref q_154, .int 0, .int 0, .int 0, .int 0, .int 0, .ref q_155, .ref q_156, .int 0, .int 0, .int 0, .int 0, .int 0, .int 0, .int 0, .int 0, .long 0, .int 0, .int 0, .long 0, .ref q_157, .ref q_159, .ref q_161, .ref q_163, .int 0, .ref q_165])), (q_104, .inl (cA_105, 64, .inr (.inl f_167)))]) hD hS hA [3, 4] rfl
  refine va_calli (va_runV (As := [.int (xs 1), .int (xs 2)]) (rest := [.int r_171]) ⟨hx, hb, hml, hown, hts⟩ (c_X12_letter l dC dI H.size q_101 q_102 q_104 q_106 q_108 q_109 q_110 q_111 q_112 q_113 q_114 q_115 q_117 q_119 q_120 q_121 q_122 q_123 q_124 q_125 q_126 q_127 q_128 q_129 q_130 q_131 q_132 q_133 q_134 q_135 q_136 q_137 q_138 q_139 q_140 q_141 q_142 q_143 q_144 q_145 q_146 q_147 q_148 q_149 q_150 q_151 q_152 q_153 q_154 q_155 q_156 q_157 q_159 q_161 q_163 q_165 cA_105 f_167 (xs 1) (xs 2) hf_170) (cwV 2 hts gl_wqX12_letter_31 rfl rfl rfl (by decide +kernel) ⟨Nat.le_of_ble_eq_true rfl, Nat.le_of_ble_eq_true rfl⟩) ⟨fb_M, va_recv hK hP (ci := 11) (q0 := 3) rfl rfl, fun U hU hW => ⟨rfl, xM.at hPc hKc hDc hU hW⟩⟩ rfl rfl hl.1 rfl (lv_room (Nat.le_of_ble_eq_true rfl)) dL_law_234 ⟨Nat.le_of_ble_eq_true rfl, Nat.le_of_ble_eq_true rfl⟩) hS (fun q _ h => hFc q h) hFc (fun r_173 u t H locs ht hvm hw hB hz1 hk1 hS => ?_)
  have hw_174 := hw
  obtain ⟨hP, hD, hK⟩ := xB.join (wr := [(q_1, .inr (10, [.ref q_2, .int 0, .int 0, .ref q_4, .ref q_13, .ref q_25, .ref q_27, .ref q_38, .ref q_52])), (q_4, .inr (5, [.ref q_5, .ref q_7, .ref q_9, .int 11, .int 0])), (q_5, .inl (cA_6, 52, .inr (.inl f_11)))]) (w1 := []) hP hD hK [3, 4] [0, 1, 2] rfl rfl (by decide) (by decide) hk1 hFc (xB.nil hvm hK) ht hvm
  have hP : va_P (dC, dI) vwCl [(q_1, .inr (10, [.ref q_2, .int 0, .int 0, .ref q_4, .ref q_13, .ref q_25, .ref q_27, .ref q_38, .ref q_52])), (q_4, .inr (5, [.ref q_5, .ref q_7, .ref q_9, .int 11, .int 0])), (q_5, .inl (cA_6, 52, .inr (.inl f_11)))] _ := hP
  have hD : va_D (fun q : Nat => s.heap.size ≤ q) [(q_1, .inr (10, [.ref q_2, .int 0, .int 0, .ref q_4, .ref q_13, .ref q_25, .ref q_27, .ref q_38, .ref q_52])), (q_4, .inr (5, [.ref q_5, .ref q_7, .ref q_9, .int 11, .int 0])), (q_5, .inl (cA_6, 52, .inr (.inl f_11)))] := hD
  have hK : va_K (dC, dI) vwCl [(cA_6, .long), (cA_105, .long)] s := hK
  refine lv_icmp_eq (tgt := 571) hx hb dL_law_237 (by decide) (fun c_237 => ?_) (fun c_237 => absurd (hw_172.trans hw_174.symm) c_237)
  refine lv_iinc (v := 6) (lv' := [(3, .int 6), (0, .ref b), (1, .ref q_1), (2, .ref q_101)]) hx hb dL_law_571 hl (k := 3) rfl (by decide) (by decide) rfl (fun ls hl => ?_)
  refine lv_goto (tgt := 18) hx hb dL_law_574 (by decide) ?_
  refine lv_iload_n hx hb dL_law_18 rfl (lv_at hl 0 rfl) ?_
  refine lv_aload_n hx hb dL_law_19 rfl (lv_at hl 1 rfl) ?_
  refine va_slen hx hb hX hbl hbA hS dL_law_20 ?_
  refine my_ti (v := 6) rfl ?_
  refine lv_bipush (v := 6) hx hb dL_law_21 (by decide) ?_
  refine lv_isub hx hb dL_law_23 ?_
  refine my_ti (v := 0) (by decide) ?_
  refine lv_icmp_gt (tgt := 577) hx hb dL_law_24 (by decide) (fun c_24 => ?_) (fun c_24 => absurd c_24 (by decide))
  refine lv_iconst (v := 1) hx hb dL_law_577 (by decide) ?_
  refine va_forget (fun q hq => hS.2.2 q hq) ?_
  refine W.widen (k := 600000) (n := 7302250) (Nat.le_of_ble_eq_true rfl) (Nat.le_of_ble_eq_true rfl) ?_
  exact W.base (lw_ret (d0 := s.drawn) (Drawn.sameBut.refl s.drawn lw_cs) hx hb hr hlocks dL_law_578)

set_option maxHeartbeats 4000000 in
set_option maxRecDepth 100000 in
theorem law_4 {p : Program} {l : Launch} {e : Env} {s : State} {m : MethodId} {below : List Frame} {meth : Method} {c : Code} {b : Nat} {xs : Nat → Int32} (C0 : lw_At p s m meth c b 6 xs) (dC : Nat → ClassId) (dI : Nat → Nat → Nat) (q_1 : Nat) (q_2 : Nat) (q_4 : Nat) (q_13 : Nat) (q_14 : Nat) (cA_15 : ClassId) (q_16 : Nat) (q_18 : Nat) (q_20 : Nat) (q_22 : Nat) (q_25 : Nat) (q_27 : Nat) (q_38 : Nat) (q_52 : Nat) (q_101 : Nat) (q_102 : Nat) (q_104 : Nat) (q_106 : Nat) (q_108 : Nat) (q_109 : Nat) (q_110 : Nat) (q_111 : Nat) (q_112 : Nat) (q_113 : Nat) (q_114 : Nat) (q_115 : Nat) (q_117 : Nat) (q_119 : Nat) (q_120 : Nat) (q_121 : Nat) (q_122 : Nat) (q_123 : Nat) (q_124 : Nat) (q_125 : Nat) (q_126 : Nat) (q_127 : Nat) (q_128 : Nat) (q_129 : Nat) (q_130 : Nat) (q_131 : Nat) (q_132 : Nat) (q_133 : Nat) (q_134 : Nat) (q_135 : Nat) (q_136 : Nat) (q_137 : Nat) (q_138 : Nat) (q_139 : Nat) (q_140 : Nat) (q_141 : Nat) (q_142 : Nat) (q_143 : Nat) (q_144 : Nat) (q_145 : Nat) (q_146 : Nat) (q_147 : Nat) (q_148 : Nat) (q_149 : Nat) (q_150 : Nat) (q_151 : Nat) (q_152 : Nat) (q_153 : Nat) (q_154 : Nat) (q_155 : Nat) (q_156 : Nat) (q_157 : Nat) (cA_158 : ClassId) (q_159 : Nat) (q_161 : Nat) (q_163 : Nat) (q_165 : Nat) {H : Heap} {locs : List Loc} {ls : Array Slot} (hK : va_K (dC, dI) vwCl [(cA_15, .int), (cA_158, .int)] s) (hP : va_P (dC, dI) vwCl [(q_1, .inr (10, [.ref q_2, .int 0, .int 0, .ref q_4, .ref q_13, .ref q_25, .ref q_27, .ref q_38, .ref q_52])), (q_13, .inr (0, [.ref q_14, .ref q_16, .ref q_18, .ref q_20, .ref q_22, .int 0])), (q_14, .inl (cA_15, 16, .inl (fun _ => 0))), (q_101, .inr (11, [.int 0, .ref q_102, .int 0, .ref q_104, .int 12, .ref q_106, .int 0, .int 0, .int 0, .int 0, .long 0, .int 0, .long 0, .int 0, .int 0, .int 0, .int 0, .int 0, .int 0, .ref q_108, .ref q_109, .ref q_110, .int 0, .ref q_111, .ref q_112, .ref q_113, .ref q_114, .ref q_115, .ref q_117, .int 0, .ref q_119, .int 0, .int 0, .ref q_120, .int 0, .int 0, .long 0, .int 0, .ref q_121, .int 0, .int 0, .ref q_122, .ref q_123, .ref q_124, .ref q_125, .ref q_126, .ref q_127, .int 0, .int 0, .ref q_128, .ref q_129, .ref q_130, .ref q_131, .int 0, .ref q_132, .ref q_133, .ref q_134, .ref q_135, .ref q_136, .ref q_137, .ref q_138, .int 0, .ref q_139, .ref q_140, .ref q_141, .int 0, .ref q_142, .ref q_143, .int 0, .int 0, .ref q_144, .ref q_145, .ref q_146, .ref q_147, .ref q_148, .ref q_149, .ref q_150, .ref q_151, .ref q_152, .ref q_153, .ref q_154, .int 0, .int 0, .int 0, .int 0, .int 0, .ref q_155, .ref q_156, .int 0, .int 0, .int 0, .int 0, .int 0, .int 0, .int 0, .int 0, .long 0, .int 0, .int 0, .long 0, .ref q_157, .ref q_159, .ref q_161, .ref q_163, .int 0, .ref q_165])), (q_157, .inl (cA_158, 16, .inl (fun _ => 0)))] H) (hD : va_D (fun q : Nat => s.heap.size ≤ q) [(q_1, .inr (10, [.ref q_2, .int 0, .int 0, .ref q_4, .ref q_13, .ref q_25, .ref q_27, .ref q_38, .ref q_52])), (q_13, .inr (0, [.ref q_14, .ref q_16, .ref q_18, .ref q_20, .ref q_22, .int 0])), (q_14, .inl (cA_15, 16, .inl (fun _ => 0))), (q_101, .inr (11, [.int 0, .ref q_102, .int 0, .ref q_104, .int 12, .ref q_106, .int 0, .int 0, .int 0, .int 0, .long 0, .int 0, .long 0, .int 0, .int 0, .int 0, .int 0, .int 0, .int 0, .ref q_108, .ref q_109, .ref q_110, .int 0, .ref q_111, .ref q_112, .ref q_113, .ref q_114, .ref q_115, .ref q_117, .int 0, .ref q_119, .int 0, .int 0, .ref q_120, .int 0, .int 0, .long 0, .int 0, .ref q_121, .int 0, .int 0, .ref q_122, .ref q_123, .ref q_124, .ref q_125, .ref q_126, .ref q_127, .int 0, .int 0, .ref q_128, .ref q_129, .ref q_130, .ref q_131, .int 0, .ref q_132, .ref q_133, .ref q_134, .ref q_135, .ref q_136, .ref q_137, .ref q_138, .int 0, .ref q_139, .ref q_140, .ref q_141, .int 0, .ref q_142, .ref q_143, .int 0, .int 0, .ref q_144, .ref q_145, .ref q_146, .ref q_147, .ref q_148, .ref q_149, .ref q_150, .ref q_151, .ref q_152, .ref q_153, .ref q_154, .int 0, .int 0, .int 0, .int 0, .int 0, .ref q_155, .ref q_156, .int 0, .int 0, .int 0, .int 0, .int 0, .int 0, .int 0, .int 0, .long 0, .int 0, .int 0, .long 0, .ref q_157, .ref q_159, .ref q_161, .ref q_163, .int 0, .ref q_165])), (q_157, .inl (cA_158, 16, .inl (fun _ => 0)))]) (hS : va_S (fun q : Nat => s.heap.size ≤ q) s.heap H locs) (hl : lv_has ls 4 [(0, .ref b), (1, .ref q_1), (2, .ref q_101), (3, .int 0)]) : W p l e room_1 s m #[Value.ref b] below meth c H locs 167 452814 (lw_Z below #[Value.ref b] s) (F0 m 242 ls []) := by
  obtain ⟨hx, hb, hr, hml, hown, hts, hX, hbl, hlocks, hgv⟩ := id C0
  have hown : s.vm.findClass RL = some m.cls := hown
  have hA : ∀ q : Nat, s.heap.size ≤ q → (fun q : Nat => s.heap.size ≤ q) q := fun _ h => h
  have hbA : ¬ (fun q : Nat => s.heap.size ≤ q) b := Nat.not_le.mpr hbl
  refine lv_aload_n hx hb dL_law_242 rfl (lv_at hl 1 rfl) ?_
  refine lv_aload_n hx hb dL_law_243 rfl (lv_at hl 0 rfl) ?_
  refine lv_iload_n hx hb dL_law_244 rfl (lv_at hl 3 rfl) ?_
  refine lv_iconst (v := 1) hx hb dL_law_245 (by decide) ?_
  refine lv_iadd hx hb dL_law_246 ?_
  refine my_ti (v := 1) (by decide) ?_
  refine va_sld hx hb hX hbl hbA hS (by unfold vp_in; decide) dL_law_247 ?_
  refine my_ti (v := xs 1) rfl ?_
  refine lv_aload_n hx hb dL_law_248 rfl (lv_at hl 0 rfl) ?_
  refine lv_iload_n hx hb dL_law_249 rfl (lv_at hl 3 rfl) ?_
  refine lv_iconst (v := 2) hx hb dL_law_250 (by decide) ?_
  refine lv_iadd hx hb dL_law_251 ?_
  refine my_ti (v := 2) (by decide) ?_
  refine va_sld hx hb hX hbl hbA hS (by unfold vp_in; decide) dL_law_252 ?_
  refine my_ti (v := xs 2) rfl ?_
  refine lv_aload_n hx hb dL_law_253 rfl (lv_at hl 0 rfl) ?_
  refine lv_iload_n hx hb dL_law_254 rfl (lv_at hl 3 rfl) ?_
  refine lv_iconst (v := 3) hx hb dL_law_255 (by decide) ?_
  refine lv_iadd hx hb dL_law_256 ?_
  refine my_ti (v := 3) (by decide) ?_
  refine va_sld hx hb hX hbl hbA hS (by unfold vp_in; decide) dL_law_257 ?_
  refine my_ti (v := xs 3) rfl ?_
  have hPc := hP.sub (ws' := [(q_1, .inr (10, [.ref q_2, .int 0, .int 0, .ref q_4, .ref q_13, .ref q_25, .ref q_27, .ref q_38, .ref q_52])), (q_13, .inr (0, [.ref q_14, .ref q_16, .ref q_18, .ref q_20, .ref q_22, .int 0])), (q_14, .inl (cA_15, 16, .inl (fun _ => 0)))]) [0, 1, 2] rfl
  have hDc := hD.sub (ws' := [(q_1, .inr (10, [.ref q_2, .int 0, .int 0, .ref q_4, .ref q_13, .ref q_25, .ref q_27, .ref q_38, .ref q_52])), (q_13, .inr (0, [.ref q_14, .ref q_16, .ref q_18, .ref q_20, .ref q_22, .int 0])), (q_14, .inl (cA_15, 16, .inl (fun _ => 0)))]) [0, 1, 2] (by decide) rfl
  have hKc := hK.sub (tys' := [(cA_15, .int)]) [0] rfl
  have hFc := va_free (wc := [(q_1, .inr (10, [.ref q_2, .int 0, .int 0, .ref q_4, .ref q_13, .ref q_25, .ref q_27, .ref q_38, .ref q_52])), (q_13, .inr (0, [.ref q_14, .ref q_16, .ref q_18, .ref q_20, .ref q_22, .int 0])), (q_14, .inl (cA_15, 16, .inl (fun _ => 0)))]) hD hS hA [0, 1, 2] rfl
  refine va_calli (va_runV (As := [.int (xs 1), .int (xs 2), .int (xs 3)]) (rest := []) ⟨hx, hb, hml, hown, hts⟩ (c_X11_rule l dC dI H.size q_1 q_2 q_4 q_13 q_25 q_27 q_38 q_52 q_14 q_16 q_18 q_20 q_22 cA_15 (fun _ => 0) (xs 1) (xs 2) (xs 3) ) (cwV 3 hts gl_wsX11_rule_32 rfl rfl rfl (by decide +kernel) ⟨Nat.le_of_ble_eq_true rfl, Nat.le_of_ble_eq_true rfl⟩) ⟨fb_M, va_recv hK hP (ci := 10) (q0 := 0) rfl rfl, fun U hU hW => ⟨rfl, xM.at hPc hKc hDc hU hW⟩⟩ rfl rfl hl.1 rfl (lv_room (Nat.le_of_ble_eq_true rfl)) dL_law_258 ⟨Nat.le_of_ble_eq_true rfl, Nat.le_of_ble_eq_true rfl⟩) hS (fun q _ h => hFc q h) hFc (fun r_171 u t H locs ht hvm hw hB hz1 hk1 hS => ?_)
  have hw_172 := hw
  obtain ⟨hP, hD, hK⟩ := xB.join (wr := [(q_101, .inr (11, [.int 0, .ref q_102, .int 0, .ref q_104, .int 12, .ref q_106, .int 0, .int 0, .int 0, .int 0, .long 0, .int 0, .long 0, .int 0, .int 0, .int 0, .int 0, .int 0, .int 0, .ref q_108, .ref q_109, .ref q_110, .int 0, .ref q_111, .ref q_112, .ref q_113, .ref q_114, .ref q_115, .ref q_117, .int 0, .ref q_119, .int 0, .int 0, .ref q_120, .int 0, .int 0, .long 0, .int 0, .ref q_121, .int 0, .int 0, .ref q_122, .ref q_123, .ref q_124, .ref q_125, .ref q_126, .ref q_127, .int 0, .int 0, .ref q_128, .ref q_129, .ref q_130, .ref q_131, .int 0, .ref q_132, .ref q_133, .ref q_134, .ref q_135, .ref q_136, .ref q_137, .ref q_138, .int 0, .ref q_139, .ref q_140, .ref q_141, .int 0, .ref q_142, .ref q_143, .int 0, .int 0, .ref q_144, .ref q_145, .ref q_146, .ref q_147, .ref q_148, .ref q_149, .ref q_150, .ref q_151, .ref q_152, .ref q_153, .ref q_154, .int 0, .int 0, .int 0, .int 0, .int 0, .ref q_155, .ref q_156, .int 0, .int 0, .int 0, .int 0, .int 0, .int 0, .int 0, .int 0, .long 0, .int 0, .int 0, .long 0, .ref q_157, .ref q_159, .ref q_161, .ref q_163, .int 0, .ref q_165])), (q_157, .inl (cA_158, 16, .inl (fun _ => 0)))]) (w1 := []) hP hD hK [0, 1, 2] [3, 4] rfl rfl (by decide) (by decide) hk1 hFc (xB.nil hvm hK) ht hvm
  have hP : va_P (dC, dI) vwCl [(q_101, .inr (11, [.int 0, .ref q_102, .int 0, .ref q_104, .int 12, .ref q_106, .int 0, .int 0, .int 0, .int 0, .long 0, .int 0, .long 0, .int 0, .int 0, .int 0, .int 0, .int 0, .int 0, .ref q_108, .ref q_109, .ref q_110, .int 0, .ref q_111, .ref q_112, .ref q_113, .ref q_114, .ref q_115, .ref q_117, .int 0, .ref q_119, .int 0, .int 0, .ref q_120, .int 0, .int 0, .long 0, .int 0, .ref q_121, .int 0, .int 0, .ref q_122, .ref q_123, .ref q_124, .ref q_125, .ref q_126, .ref q_127, .int 0, .int 0, .ref q_128, .ref q_129, .ref q_130, .ref q_131, .int 0, .ref q_132, .ref q_133, .ref q_134, .ref q_135, .ref q_136, .ref q_137, .ref q_138, .int 0, .ref q_139, .ref q_140, .ref q_141, .int 0, .ref q_142, .ref q_143, .int 0, .int 0, .ref q_144, .ref q_145, .ref q_146, .ref q_147, .ref q_148, .ref q_149, .ref q_150, .ref q_151, .ref q_152, .ref q_153, .ref q_154, .int 0, .int 0, .int 0, .int 0, .int 0, .ref q_155, .ref q_156, .int 0, .int 0, .int 0, .int 0, .int 0, .int 0, .int 0, .int 0, .long 0, .int 0, .int 0, .long 0, .ref q_157, .ref q_159, .ref q_161, .ref q_163, .int 0, .ref q_165])), (q_157, .inl (cA_158, 16, .inl (fun _ => 0)))] _ := hP
  have hD : va_D (fun q : Nat => s.heap.size ≤ q) [(q_101, .inr (11, [.int 0, .ref q_102, .int 0, .ref q_104, .int 12, .ref q_106, .int 0, .int 0, .int 0, .int 0, .long 0, .int 0, .long 0, .int 0, .int 0, .int 0, .int 0, .int 0, .int 0, .ref q_108, .ref q_109, .ref q_110, .int 0, .ref q_111, .ref q_112, .ref q_113, .ref q_114, .ref q_115, .ref q_117, .int 0, .ref q_119, .int 0, .int 0, .ref q_120, .int 0, .int 0, .long 0, .int 0, .ref q_121, .int 0, .int 0, .ref q_122, .ref q_123, .ref q_124, .ref q_125, .ref q_126, .ref q_127, .int 0, .int 0, .ref q_128, .ref q_129, .ref q_130, .ref q_131, .int 0, .ref q_132, .ref q_133, .ref q_134, .ref q_135, .ref q_136, .ref q_137, .ref q_138, .int 0, .ref q_139, .ref q_140, .ref q_141, .int 0, .ref q_142, .ref q_143, .int 0, .int 0, .ref q_144, .ref q_145, .ref q_146, .ref q_147, .ref q_148, .ref q_149, .ref q_150, .ref q_151, .ref q_152, .ref q_153, .ref q_154, .int 0, .int 0, .int 0, .int 0, .int 0, .ref q_155, .ref q_156, .int 0, .int 0, .int 0, .int 0, .int 0, .int 0, .int 0, .int 0, .long 0, .int 0, .int 0, .long 0, .ref q_157, .ref q_159, .ref q_161, .ref q_163, .int 0, .ref q_165])), (q_157, .inl (cA_158, 16, .inl (fun _ => 0)))] := hD
  have hK : va_K (dC, dI) vwCl [(cA_15, .int), (cA_158, .int)] s := hK
  refine lv_aload_n hx hb dL_law_261 rfl (lv_at hl 2 rfl) ?_
  refine lv_aload_n hx hb dL_law_262 rfl (lv_at hl 0 rfl) ?_
  refine lv_iload_n hx hb dL_law_263 rfl (lv_at hl 3 rfl) ?_
  refine lv_iconst (v := 1) hx hb dL_law_264 (by decide) ?_
  refine lv_iadd hx hb dL_law_265 ?_
  refine my_ti (v := 1) (by decide) ?_
  refine va_sld hx hb hX hbl hbA hS (by unfold vp_in; decide) dL_law_266 ?_
  refine my_ti (v := xs 1) rfl ?_
  refine lv_aload_n hx hb dL_law_267 rfl (lv_at hl 0 rfl) ?_
  refine lv_iload_n hx hb dL_law_268 rfl (lv_at hl 3 rfl) ?_
  refine lv_iconst (v := 2) hx hb dL_law_269 (by decide) ?_
  refine lv_iadd hx hb dL_law_270 ?_
  refine my_ti (v := 2) (by decide) ?_
  refine va_sld hx hb hX hbl hbA hS (by unfold vp_in; decide) dL_law_271 ?_
  refine my_ti (v := xs 2) rfl ?_
  refine lv_aload_n hx hb dL_law_272 rfl (lv_at hl 0 rfl) ?_
  refine lv_iload_n hx hb dL_law_273 rfl (lv_at hl 3 rfl) ?_
  refine lv_iconst (v := 3) hx hb dL_law_274 (by decide) ?_
  refine lv_iadd hx hb dL_law_275 ?_
  refine my_ti (v := 3) (by decide) ?_
  refine va_sld hx hb hX hbl hbA hS (by unfold vp_in; decide) dL_law_276 ?_
  refine my_ti (v := xs 3) rfl ?_
  have hPc := hP.sub (ws' := [(q_101, .inr (11, [.int 0, .ref q_102, .int 0, .ref q_104, .int 12, .ref q_106, .int 0, .int 0, .int 0, .int 0, .long 0, .int 0, .long 0, .int 0, .int 0, .int 0, .int 0, .int 0, .int 0, .ref q_108, .ref q_109, .ref q_110, .int 0, .ref q_111, .ref q_112, .ref q_113, .ref q_114, .ref q_115, .ref q_117, .int 0, .ref q_119, .int 0, .int 0, .ref q_120, .int 0, .int 0, .long 0, .int 0, .ref q_121, .int 0, .int 0, .ref q_122, .ref q_123, .ref q_124, .ref q_125, .ref q_126, .ref q_127, .int 0, .int 0, .ref q_128, .ref q_129, .ref q_130, .ref q_131, .int 0, .ref q_132, .ref q_133, .ref q_134, .ref q_135, .ref q_136, .ref q_137, .ref q_138, .int 0, .ref q_139, .ref q_140, .ref q_141, .int 0, .ref q_142, .ref q_143, .int 0, .int 0, .ref q_144, .ref q_145, .ref q_146, .ref q_147, .ref q_148, .ref q_149, .ref q_150, .ref q_151, .ref q_152, .ref q_153, .ref q_154, .int 0, .int 0, .int 0, .int 0, .int 0, .ref q_155, .ref q_156, .int 0, .int 0, .int 0, .int 0, .int 0, .int 0, .int 0, .int 0, .long 0, .int 0, .int 0, .long 0, .ref q_157, .ref q_159, .ref q_161, .ref q_163, .int 0, .ref q_165])), (q_157, .inl (cA_158, 16, .inl (fun _ => 0)))]) [0, 1] rfl
  have hDc := hD.sub (ws' := [(q_101, .inr (11, [.int 0, .ref q_102, .int 0, .ref q_104, .int 12, .ref q_106, .int 0, .int 0, .int 0, .int 0, .long 0, .int 0, .long 0, .int 0, .int 0, .int 0, .int 0, .int 0, .int 0, .ref q_108, .ref q_109, .ref q_110, .int 0, .ref q_111, .ref q_112, .ref q_113, .ref q_114, .ref q_115, .ref q_117, .int 0, .ref q_119, .int 0, .int 0, .ref q_120, .int 0, .int 0, .long 0, .int 0, .ref q_121, .int 0, .int 0, .ref q_122, .ref q_123, .ref q_124, .ref q_125, .ref q_126, .ref q_127, .int 0, .int 0, .ref q_128, .ref q_129, .ref q_130, .ref q_131, .int 0, .ref q_132, .ref q_133, .ref q_134, .ref q_135, .ref q_136, .ref q_137, .ref q_138, .int 0, .ref q_139, .ref q_140, .ref q_141, .int 0, .ref q_142, .ref q_143, .int 0, .int 0, .ref q_144, .ref q_145, .ref q_146, .ref q_147, .ref q_148, .ref q_149, .ref q_150, .ref q_151, .ref q_152, .ref q_153, .ref q_154, .int 0, .int 0, .int 0, .int 0, .int 0, .ref q_155, .ref q_156, .int 0, .int 0, .int 0, .int 0, .int 0, .int 0, .int 0, .int 0, .long 0, .int 0, .int 0, .long 0, .ref q_157, .ref q_159, .ref q_161, .ref q_163, .int 0, .ref q_165])), (q_157, .inl (cA_158, 16, .inl (fun _ => 0)))]) [0, 1] (by decide) rfl
  have hKc := hK.sub (tys' := [(cA_158, .int)]) [1] rfl
  have hFc := va_free (wc := [(q_101, .inr (11, [.int 0, .ref q_102, .int 0, .ref q_104, .int 12, .ref q_106, .int 0, .int 0, .int 0, .int 0, .long 0, .int 0, .long 0, .int 0, .int 0, .int 0, .int 0, .int 0, .int 0, .ref q_108, .ref q_109, .ref q_110, .int 0, .ref q_111, .ref q_112, .ref q_113, .ref q_114, .ref q_115, .ref q_117, .int 0, .ref q_119, .int 0, .int 0, .ref q_120, .int 0, .int 0, .long 0, .int 0, .ref q_121, .int 0, .int 0, .ref q_122, .ref q_123, .ref q_124, .ref q_125, .ref q_126, .ref q_127, .int 0, .int 0, .ref q_128, .ref q_129, .ref q_130, .ref q_131, .int 0, .ref q_132, .ref q_133, .ref q_134, .ref q_135, .ref q_136, .ref q_137, .ref q_138, .int 0, .ref q_139, .ref q_140, .ref q_141, .int 0, .ref q_142, .ref q_143, .int 0, .int 0, .ref q_144, .ref q_145, .ref q_146, .ref q_147, .ref q_148, .ref q_149, .ref q_150, .ref q_151, .ref q_152, .ref q_153, .ref q_154, .int 0, .int 0, .int 0, .int 0, .int 0, .ref q_155, .ref q_156, .int 0, .int 0, .int 0, .int 0, .int 0, .int 0, .int 0, .int 0, .long 0, .int 0, .int 0, .long 0, .ref q_157, .ref q_159, .ref q_161, .ref q_163, .int 0, .ref q_165])), (q_157, .inl (cA_158, 16, .inl (fun _ => 0)))]) hD hS hA [0, 1] rfl
  refine va_calli (va_runV (As := [.int (xs 1), .int (xs 2), .int (xs 3)]) (rest := [.int r_171]) ⟨hx, hb, hml, hown, hts⟩ (c_X12_rule l dC dI H.size q_101 q_102 q_104 q_106 q_108 q_109 q_110 q_111 q_112 q_113 q_114 q_115 q_117 q_119 q_120 q_121 q_122 q_123 q_124 q_125 q_126 q_127 q_128 q_129 q_130 q_131 q_132 q_133 q_134 q_135 q_136 q_137 q_138 q_139 q_140 q_141 q_142 q_143 q_144 q_145 q_146 q_147 q_148 q_149 q_150 q_151 q_152 q_153 q_154 q_155 q_156 q_157 q_159 q_161 q_163 q_165 cA_158 (fun _ => 0) (xs 1) (xs 2) (xs 3) ) (cwV 3 hts gl_wqX12_rule_36 rfl rfl rfl (by decide +kernel) ⟨Nat.le_of_ble_eq_true rfl, Nat.le_of_ble_eq_true rfl⟩) ⟨fb_M, va_recv hK hP (ci := 11) (q0 := 0) rfl rfl, fun U hU hW => ⟨rfl, xM.at hPc hKc hDc hU hW⟩⟩ rfl rfl hl.1 rfl (lv_room (Nat.le_of_ble_eq_true rfl)) dL_law_277 ⟨Nat.le_of_ble_eq_true rfl, Nat.le_of_ble_eq_true rfl⟩) hS (fun q _ h => hFc q h) hFc (fun r_173 u t H locs ht hvm hw hB hz1 hk1 hS => ?_)
  have hw_174 := hw
  obtain ⟨hP, hD, hK⟩ := xB.join (wr := []) (w1 := []) hP hD hK [0, 1] [] rfl rfl (by decide) (by decide) hk1 hFc (xB.nil hvm hK) ht hvm
  have hP : va_P (dC, dI) vwCl [] _ := hP
  have hD : va_D (fun q : Nat => s.heap.size ≤ q) [] := hD
  have hK : va_K (dC, dI) vwCl [(cA_15, .int), (cA_158, .int)] s := hK
  refine lv_icmp_eq (tgt := 571) hx hb dL_law_280 (by decide) (fun c_280 => ?_) (fun c_280 => absurd (or_eq hw_172 hw_174) c_280)
  refine lv_iinc (v := 6) (lv' := [(3, .int 6), (0, .ref b), (1, .ref q_1), (2, .ref q_101)]) hx hb dL_law_571 hl (k := 3) rfl (by decide) (by decide) rfl (fun ls hl => ?_)
  refine lv_goto (tgt := 18) hx hb dL_law_574 (by decide) ?_
  refine lv_iload_n hx hb dL_law_18 rfl (lv_at hl 0 rfl) ?_
  refine lv_aload_n hx hb dL_law_19 rfl (lv_at hl 1 rfl) ?_
  refine va_slen hx hb hX hbl hbA hS dL_law_20 ?_
  refine my_ti (v := 6) rfl ?_
  refine lv_bipush (v := 6) hx hb dL_law_21 (by decide) ?_
  refine lv_isub hx hb dL_law_23 ?_
  refine my_ti (v := 0) (by decide) ?_
  refine lv_icmp_gt (tgt := 577) hx hb dL_law_24 (by decide) (fun c_24 => ?_) (fun c_24 => absurd c_24 (by decide))
  refine lv_iconst (v := 1) hx hb dL_law_577 (by decide) ?_
  refine va_forget (fun q hq => hS.2.2 q hq) ?_
  refine W.widen (k := 600000) (n := 7302250) (Nat.le_of_ble_eq_true rfl) (Nat.le_of_ble_eq_true rfl) ?_
  exact W.base (lw_ret (d0 := s.drawn) (Drawn.sameBut.refl s.drawn lw_cs) hx hb hr hlocks dL_law_578)

set_option maxHeartbeats 4000000 in
set_option maxRecDepth 100000 in
theorem law_5 {p : Program} {l : Launch} {e : Env} {s : State} {m : MethodId} {below : List Frame} {meth : Method} {c : Code} {b : Nat} {xs : Nat → Int32} (C0 : lw_At p s m meth c b 6 xs) (dC : Nat → ClassId) (dI : Nat → Nat → Nat) (q_1 : Nat) (q_2 : Nat) (q_4 : Nat) (q_5 : Nat) (q_7 : Nat) (q_9 : Nat) (q_13 : Nat) (q_14 : Nat) (q_16 : Nat) (cA_17 : ClassId) (q_18 : Nat) (cA_19 : ClassId) (q_20 : Nat) (cA_21 : ClassId) (q_22 : Nat) (cA_23 : ClassId) (f_24 : Nat → Int32) (q_25 : Nat) (q_27 : Nat) (q_38 : Nat) (q_52 : Nat) (q_101 : Nat) (q_102 : Nat) (q_104 : Nat) (q_106 : Nat) (q_108 : Nat) (q_109 : Nat) (q_110 : Nat) (q_111 : Nat) (q_112 : Nat) (q_113 : Nat) (q_114 : Nat) (q_115 : Nat) (q_117 : Nat) (q_119 : Nat) (q_120 : Nat) (q_121 : Nat) (q_122 : Nat) (q_123 : Nat) (q_124 : Nat) (q_125 : Nat) (q_126 : Nat) (q_127 : Nat) (q_128 : Nat) (q_129 : Nat) (q_130 : Nat) (q_131 : Nat) (q_132 : Nat) (q_133 : Nat) (q_134 : Nat) (q_135 : Nat) (q_136 : Nat) (q_137 : Nat) (q_138 : Nat) (q_139 : Nat) (q_140 : Nat) (q_141 : Nat) (q_142 : Nat) (q_143 : Nat) (q_144 : Nat) (q_145 : Nat) (q_146 : Nat) (q_147 : Nat) (q_148 : Nat) (q_149 : Nat) (q_150 : Nat) (q_151 : Nat) (q_152 : Nat) (q_153 : Nat) (q_154 : Nat) (q_155 : Nat) (q_156 : Nat) (q_157 : Nat) (q_159 : Nat) (cA_160 : ClassId) (q_161 : Nat) (cA_162 : ClassId) (q_163 : Nat) (cA_164 : ClassId) (q_165 : Nat) (cA_166 : ClassId) (d_169 : Nat → Int32) {H : Heap} {locs : List Loc} {ls : Array Slot} (hK : va_K (dC, dI) vwCl [(cA_17, .int), (cA_19, .int), (cA_21, .int), (cA_23, .int), (cA_17, .int), (cA_160, .int), (cA_162, .int), (cA_164, .int), (cA_166, .int)] s) (hP : va_P (dC, dI) vwCl [(q_1, .inr (10, [.ref q_2, .int 0, .int 0, .ref q_4, .ref q_13, .ref q_25, .ref q_27, .ref q_38, .ref q_52])), (q_4, .inr (5, [.ref q_5, .ref q_7, .ref q_9, .int 11, .int 0])), (q_13, .inr (0, [.ref q_14, .ref q_16, .ref q_18, .ref q_20, .ref q_22, .int 0])), (q_18, .inl (cA_19, 100, .inl (fun _ => 0))), (q_20, .inl (cA_21, 100, .inl (fun _ => 0))), (q_22, .inl (cA_23, 100, .inl (fun _ => 0))), (q_16, .inl (cA_17, 16, .inl f_24)), (q_101, .inr (11, [.int 0, .ref q_102, .int 0, .ref q_104, .int 12, .ref q_106, .int 0, .int 0, .int 0, .int 0, .long 0, .int 0, .long 0, .int 0, .int 0, .int 0, .int 0, .int 0, .int 0, .ref q_108, .ref q_109, .ref q_110, .int 0, .ref q_111, .ref q_112, .ref q_113, .ref q_114, .ref q_115, .ref q_117, .int 0, .ref q_119, .int 0, .int 0, .ref q_120, .int 0, .int 0, .long 0, .int 0, .ref q_121, .int 0, .int 0, .ref q_122, .ref q_123, .ref q_124, .ref q_125, .ref q_126, .ref q_127, .int 0, .int 0, .ref q_128, .ref q_129, .ref q_130, .ref q_131, .int 0, .ref q_132, .ref q_133, .ref q_134, .ref q_135, .ref q_136, .ref q_137, .ref q_138, .int 0, .ref q_139, .ref q_140, .ref q_141, .int 0, .ref q_142, .ref q_143, .int 0, .int 0, .ref q_144, .ref q_145, .ref q_146, .ref q_147, .ref q_148, .ref q_149, .ref q_150, .ref q_151, .ref q_152, .ref q_153, .ref q_154, .int 0, .int 0, .int 0, .int 0, .int 0, .ref q_155, .ref q_156, .int 0, .int 0, .int 0, .int 0, .int 0, .int 0, .int 0, .int 0, .long 0, .int 0, .int 0, .long 0, .ref q_157, .ref q_159, .ref q_161, .ref q_163, .int 0, .ref q_165])), (q_159, .inl (cA_160, 100, .inl (fun _ => 0))), (q_161, .inl (cA_162, 100, .inl (fun _ => 0))), (q_163, .inl (cA_164, 100, .inl (fun _ => 0))), (q_165, .inl (cA_166, 16, .inl d_169))] H) (hD : va_D (fun q : Nat => s.heap.size ≤ q) [(q_1, .inr (10, [.ref q_2, .int 0, .int 0, .ref q_4, .ref q_13, .ref q_25, .ref q_27, .ref q_38, .ref q_52])), (q_4, .inr (5, [.ref q_5, .ref q_7, .ref q_9, .int 11, .int 0])), (q_13, .inr (0, [.ref q_14, .ref q_16, .ref q_18, .ref q_20, .ref q_22, .int 0])), (q_18, .inl (cA_19, 100, .inl (fun _ => 0))), (q_20, .inl (cA_21, 100, .inl (fun _ => 0))), (q_22, .inl (cA_23, 100, .inl (fun _ => 0))), (q_16, .inl (cA_17, 16, .inl f_24)), (q_101, .inr (11, [.int 0, .ref q_102, .int 0, .ref q_104, .int 12, .ref q_106, .int 0, .int 0, .int 0, .int 0, .long 0, .int 0, .long 0, .int 0, .int 0, .int 0, .int 0, .int 0, .int 0, .ref q_108, .ref q_109, .ref q_110, .int 0, .ref q_111, .ref q_112, .ref q_113, .ref q_114, .ref q_115, .ref q_117, .int 0, .ref q_119, .int 0, .int 0, .ref q_120, .int 0, .int 0, .long 0, .int 0, .ref q_121, .int 0, .int 0, .ref q_122, .ref q_123, .ref q_124, .ref q_125, .ref q_126, .ref q_127, .int 0, .int 0, .ref q_128, .ref q_129, .ref q_130, .ref q_131, .int 0, .ref q_132, .ref q_133, .ref q_134, .ref q_135, .ref q_136, .ref q_137, .ref q_138, .int 0, .ref q_139, .ref q_140, .ref q_141, .int 0, .ref q_142, .ref q_143, .int 0, .int 0, .ref q_144, .ref q_145, .ref q_146, .ref q_147, .ref q_148, .ref q_149, .ref q_150, .ref q_151, .ref q_152, .ref q_153, .ref q_154, .int 0, .int 0, .int 0, .int 0, .int 0, .ref q_155, .ref q_156, .int 0, .int 0, .int 0, .int 0, .int 0, .int 0, .int 0, .int 0, .long 0, .int 0, .int 0, .long 0, .ref q_157, .ref q_159, .ref q_161, .ref q_163, .int 0, .ref q_165])), (q_159, .inl (cA_160, 100, .inl (fun _ => 0))), (q_161, .inl (cA_162, 100, .inl (fun _ => 0))), (q_163, .inl (cA_164, 100, .inl (fun _ => 0))), (q_165, .inl (cA_166, 16, .inl d_169))]) (hS : va_S (fun q : Nat => s.heap.size ≤ q) s.heap H locs) (hl : lv_has ls 4 [(0, .ref b), (1, .ref q_1), (2, .ref q_101), (3, .int 0)]) : W p l e room_1 s m #[Value.ref b] below meth c H locs 167 452814 (lw_Z below #[Value.ref b] s) (F0 m 285 ls []) := by
  obtain ⟨hx, hb, hr, hml, hown, hts, hX, hbl, hlocks, hgv⟩ := id C0
  have hown : s.vm.findClass RL = some m.cls := hown
  have hA : ∀ q : Nat, s.heap.size ≤ q → (fun q : Nat => s.heap.size ≤ q) q := fun _ h => h
  have hbA : ¬ (fun q : Nat => s.heap.size ≤ q) b := Nat.not_le.mpr hbl
  refine lv_aload_n hx hb dL_law_285 rfl (lv_at hl 1 rfl) ?_
  refine lv_aload_n hx hb dL_law_286 rfl (lv_at hl 0 rfl) ?_
  refine lv_iload_n hx hb dL_law_287 rfl (lv_at hl 3 rfl) ?_
  refine lv_iconst (v := 1) hx hb dL_law_288 (by decide) ?_
  refine lv_iadd hx hb dL_law_289 ?_
  refine my_ti (v := 1) (by decide) ?_
  refine va_sld hx hb hX hbl hbA hS (by unfold vp_in; decide) dL_law_290 ?_
  refine my_ti (v := xs 1) rfl ?_
  refine lv_aload_n hx hb dL_law_291 rfl (lv_at hl 0 rfl) ?_
  refine lv_iload_n hx hb dL_law_292 rfl (lv_at hl 3 rfl) ?_
  refine lv_iconst (v := 2) hx hb dL_law_293 (by decide) ?_
  refine lv_iadd hx hb dL_law_294 ?_
  refine my_ti (v := 2) (by decide) ?_
  refine va_sld hx hb hX hbl hbA hS (by unfold vp_in; decide) dL_law_295 ?_
  refine my_ti (v := xs 2) rfl ?_
  refine lv_aload_n hx hb dL_law_296 rfl (lv_at hl 0 rfl) ?_
  refine lv_iload_n hx hb dL_law_297 rfl (lv_at hl 3 rfl) ?_
  refine lv_iconst (v := 3) hx hb dL_law_298 (by decide) ?_
  refine lv_iadd hx hb dL_law_299 ?_
  refine my_ti (v := 3) (by decide) ?_
  refine va_sld hx hb hX hbl hbA hS (by unfold vp_in; decide) dL_law_300 ?_
  refine my_ti (v := xs 3) rfl ?_
  refine lv_aload_n hx hb dL_law_301 rfl (lv_at hl 0 rfl) ?_
  refine lv_iload_n hx hb dL_law_302 rfl (lv_at hl 3 rfl) ?_
  refine lv_iconst (v := 4) hx hb dL_law_303 (by decide) ?_
  refine lv_iadd hx hb dL_law_304 ?_
  refine my_ti (v := 4) (by decide) ?_
  refine va_sld hx hb hX hbl hbA hS (by unfold vp_in; decide) dL_law_305 ?_
  refine my_ti (v := xs 4) rfl ?_
  have hPc := hP.sub (ws' := [(q_1, .inr (10, [.ref q_2, .int 0, .int 0, .ref q_4, .ref q_13, .ref q_25, .ref q_27, .ref q_38, .ref q_52])), (q_4, .inr (5, [.ref q_5, .ref q_7, .ref q_9, .int 11, .int 0])), (q_13, .inr (0, [.ref q_14, .ref q_16, .ref q_18, .ref q_20, .ref q_22, .int 0])), (q_16, .inl (cA_17, 16, .inl f_24)), (q_18, .inl (cA_19, 100, .inl (fun _ => 0))), (q_20, .inl (cA_21, 100, .inl (fun _ => 0))), (q_22, .inl (cA_23, 100, .inl (fun _ => 0)))]) [0, 1, 2, 6, 3, 4, 5] rfl
  have hDc := hD.sub (ws' := [(q_1, .inr (10, [.ref q_2, .int 0, .int 0, .ref q_4, .ref q_13, .ref q_25, .ref q_27, .ref q_38, .ref q_52])), (q_4, .inr (5, [.ref q_5, .ref q_7, .ref q_9, .int 11, .int 0])), (q_13, .inr (0, [.ref q_14, .ref q_16, .ref q_18, .ref q_20, .ref q_22, .int 0])), (q_16, .inl (cA_17, 16, .inl f_24)), (q_18, .inl (cA_19, 100, .inl (fun _ => 0))), (q_20, .inl (cA_21, 100, .inl (fun _ => 0))), (q_22, .inl (cA_23, 100, .inl (fun _ => 0)))]) [0, 1, 2, 6, 3, 4, 5] (by decide) rfl
  have hKc := hK.sub (tys' := [(cA_17, .int), (cA_19, .int), (cA_21, .int), (cA_23, .int)]) [0, 1, 2, 3] rfl
  have hFc := va_free (wc := [(q_1, .inr (10, [.ref q_2, .int 0, .int 0, .ref q_4, .ref q_13, .ref q_25, .ref q_27, .ref q_38, .ref q_52])), (q_4, .inr (5, [.ref q_5, .ref q_7, .ref q_9, .int 11, .int 0])), (q_13, .inr (0, [.ref q_14, .ref q_16, .ref q_18, .ref q_20, .ref q_22, .int 0])), (q_16, .inl (cA_17, 16, .inl f_24)), (q_18, .inl (cA_19, 100, .inl (fun _ => 0))), (q_20, .inl (cA_21, 100, .inl (fun _ => 0))), (q_22, .inl (cA_23, 100, .inl (fun _ => 0)))]) hD hS hA [0, 1, 2, 6, 3, 4, 5] rfl
  refine va_calli (va_runV (As := [.int (xs 1), .int (xs 2), .int (xs 3), .int (xs 4)]) (rest := []) ⟨hx, hb, hml, hown, hts⟩ (c_X11_entry l dC dI H.size q_1 q_2 q_4 q_13 q_25 q_27 q_38 q_52 q_5 q_7 q_9 q_14 q_16 q_18 q_20 q_22 cA_17 f_24 cA_19 (fun _ => 0) cA_21 (fun _ => 0) cA_23 (fun _ => 0) (xs 1) (xs 2) (xs 3) (xs 4) ) (cwV 4 hts gl_wsX11_entry_37 rfl rfl rfl (by decide +kernel) ⟨Nat.le_of_ble_eq_true rfl, Nat.le_of_ble_eq_true rfl⟩) ⟨fb_M, va_recv hK hP (ci := 10) (q0 := 0) rfl rfl, fun U hU hW => ⟨rfl, xM.at hPc hKc hDc hU hW⟩⟩ rfl rfl hl.1 rfl (lv_room (Nat.le_of_ble_eq_true rfl)) dL_law_306 ⟨Nat.le_of_ble_eq_true rfl, Nat.le_of_ble_eq_true rfl⟩) hS (fun q _ h => hFc q h) hFc (fun r_171 u t H locs ht hvm hw hB hz1 hk1 hS => ?_)
  have hw_172 := hw
  obtain ⟨hP, hD, hK⟩ := xB.join (wr := [(q_101, .inr (11, [.int 0, .ref q_102, .int 0, .ref q_104, .int 12, .ref q_106, .int 0, .int 0, .int 0, .int 0, .long 0, .int 0, .long 0, .int 0, .int 0, .int 0, .int 0, .int 0, .int 0, .ref q_108, .ref q_109, .ref q_110, .int 0, .ref q_111, .ref q_112, .ref q_113, .ref q_114, .ref q_115, .ref q_117, .int 0, .ref q_119, .int 0, .int 0, .ref q_120, .int 0, .int 0, .long 0, .int 0, .ref q_121, .int 0, .int 0, .ref q_122, .ref q_123, .ref q_124, .ref q_125, .ref q_126, .ref q_127, .int 0, .int 0, .ref q_128, .ref q_129, .ref q_130, .ref q_131, .int 0, .ref q_132, .ref q_133, .ref q_134, .ref q_135, .ref q_136, .ref q_137, .ref q_138, .int 0, .ref q_139, .ref q_140, .ref q_141, .int 0, .ref q_142, .ref q_143, .int 0, .int 0, .ref q_144, .ref q_145, .ref q_146, .ref q_147, .ref q_148, .ref q_149, .ref q_150, .ref q_151, .ref q_152, .ref q_153, .ref q_154, .int 0, .int 0, .int 0, .int 0, .int 0, .ref q_155, .ref q_156, .int 0, .int 0, .int 0, .int 0, .int 0, .int 0, .int 0, .int 0, .long 0, .int 0, .int 0, .long 0, .ref q_157, .ref q_159, .ref q_161, .ref q_163, .int 0, .ref q_165])), (q_159, .inl (cA_160, 100, .inl (fun _ => 0))), (q_161, .inl (cA_162, 100, .inl (fun _ => 0))), (q_163, .inl (cA_164, 100, .inl (fun _ => 0))), (q_165, .inl (cA_166, 16, .inl d_169))]) (w1 := []) hP hD hK [0, 1, 2, 6, 3, 4, 5] [7, 8, 9, 10, 11] rfl rfl (by decide) (by decide) hk1 hFc (xB.nil hvm hK) ht hvm
  have hP : va_P (dC, dI) vwCl [(q_101, .inr (11, [.int 0, .ref q_102, .int 0, .ref q_104, .int 12, .ref q_106, .int 0, .int 0, .int 0, .int 0, .long 0, .int 0, .long 0, .int 0, .int 0, .int 0, .int 0, .int 0, .int 0, .ref q_108, .ref q_109, .ref q_110, .int 0, .ref q_111, .ref q_112, .ref q_113, .ref q_114, .ref q_115, .ref q_117, .int 0, .ref q_119, .int 0, .int 0, .ref q_120, .int 0, .int 0, .long 0, .int 0, .ref q_121, .int 0, .int 0, .ref q_122, .ref q_123, .ref q_124, .ref q_125, .ref q_126, .ref q_127, .int 0, .int 0, .ref q_128, .ref q_129, .ref q_130, .ref q_131, .int 0, .ref q_132, .ref q_133, .ref q_134, .ref q_135, .ref q_136, .ref q_137, .ref q_138, .int 0, .ref q_139, .ref q_140, .ref q_141, .int 0, .ref q_142, .ref q_143, .int 0, .int 0, .ref q_144, .ref q_145, .ref q_146, .ref q_147, .ref q_148, .ref q_149, .ref q_150, .ref q_151, .ref q_152, .ref q_153, .ref q_154, .int 0, .int 0, .int 0, .int 0, .int 0, .ref q_155, .ref q_156, .int 0, .int 0, .int 0, .int 0, .int 0, .int 0, .int 0, .int 0, .long 0, .int 0, .int 0, .long 0, .ref q_157, .ref q_159, .ref q_161, .ref q_163, .int 0, .ref q_165])), (q_159, .inl (cA_160, 100, .inl (fun _ => 0))), (q_161, .inl (cA_162, 100, .inl (fun _ => 0))), (q_163, .inl (cA_164, 100, .inl (fun _ => 0))), (q_165, .inl (cA_166, 16, .inl d_169))] _ := hP
  have hD : va_D (fun q : Nat => s.heap.size ≤ q) [(q_101, .inr (11, [.int 0, .ref q_102, .int 0, .ref q_104, .int 12, .ref q_106, .int 0, .int 0, .int 0, .int 0, .long 0, .int 0, .long 0, .int 0, .int 0, .int 0, .int 0, .int 0, .int 0, .ref q_108, .ref q_109, .ref q_110, .int 0, .ref q_111, .ref q_112, .ref q_113, .ref q_114, .ref q_115, .ref q_117, .int 0, .ref q_119, .int 0, .int 0, .ref q_120, .int 0, .int 0, .long 0, .int 0, .ref q_121, .int 0, .int 0, .ref q_122, .ref q_123, .ref q_124, .ref q_125, .ref q_126, .ref q_127, .int 0, .int 0, .ref q_128, .ref q_129, .ref q_130, .ref q_131, .int 0, .ref q_132, .ref q_133, .ref q_134, .ref q_135, .ref q_136, .ref q_137, .ref q_138, .int 0, .ref q_139, .ref q_140, .ref q_141, .int 0, .ref q_142, .ref q_143, .int 0, .int 0, .ref q_144, .ref q_145, .ref q_146, .ref q_147, .ref q_148, .ref q_149, .ref q_150, .ref q_151, .ref q_152, .ref q_153, .ref q_154, .int 0, .int 0, .int 0, .int 0, .int 0, .ref q_155, .ref q_156, .int 0, .int 0, .int 0, .int 0, .int 0, .int 0, .int 0, .int 0, .long 0, .int 0, .int 0, .long 0, .ref q_157, .ref q_159, .ref q_161, .ref q_163, .int 0, .ref q_165])), (q_159, .inl (cA_160, 100, .inl (fun _ => 0))), (q_161, .inl (cA_162, 100, .inl (fun _ => 0))), (q_163, .inl (cA_164, 100, .inl (fun _ => 0))), (q_165, .inl (cA_166, 16, .inl d_169))] := hD
  have hK : va_K (dC, dI) vwCl [(cA_17, .int), (cA_19, .int), (cA_21, .int), (cA_23, .int), (cA_17, .int), (cA_160, .int), (cA_162, .int), (cA_164, .int), (cA_166, .int)] s := hK
  refine lv_aload_n hx hb dL_law_309 rfl (lv_at hl 2 rfl) ?_
  refine lv_aload_n hx hb dL_law_310 rfl (lv_at hl 0 rfl) ?_
  refine lv_iload_n hx hb dL_law_311 rfl (lv_at hl 3 rfl) ?_
  refine lv_iconst (v := 1) hx hb dL_law_312 (by decide) ?_
  refine lv_iadd hx hb dL_law_313 ?_
  refine my_ti (v := 1) (by decide) ?_
  refine va_sld hx hb hX hbl hbA hS (by unfold vp_in; decide) dL_law_314 ?_
  refine my_ti (v := xs 1) rfl ?_
  refine lv_aload_n hx hb dL_law_315 rfl (lv_at hl 0 rfl) ?_
  refine lv_iload_n hx hb dL_law_316 rfl (lv_at hl 3 rfl) ?_
  refine lv_iconst (v := 2) hx hb dL_law_317 (by decide) ?_
  refine lv_iadd hx hb dL_law_318 ?_
  refine my_ti (v := 2) (by decide) ?_
  refine va_sld hx hb hX hbl hbA hS (by unfold vp_in; decide) dL_law_319 ?_
  refine my_ti (v := xs 2) rfl ?_
  refine lv_aload_n hx hb dL_law_320 rfl (lv_at hl 0 rfl) ?_
  refine lv_iload_n hx hb dL_law_321 rfl (lv_at hl 3 rfl) ?_
  refine lv_iconst (v := 3) hx hb dL_law_322 (by decide) ?_
  refine lv_iadd hx hb dL_law_323 ?_
  refine my_ti (v := 3) (by decide) ?_
  refine va_sld hx hb hX hbl hbA hS (by unfold vp_in; decide) dL_law_324 ?_
  refine my_ti (v := xs 3) rfl ?_
  refine lv_aload_n hx hb dL_law_325 rfl (lv_at hl 0 rfl) ?_
  refine lv_iload_n hx hb dL_law_326 rfl (lv_at hl 3 rfl) ?_
  refine lv_iconst (v := 4) hx hb dL_law_327 (by decide) ?_
  refine lv_iadd hx hb dL_law_328 ?_
  refine my_ti (v := 4) (by decide) ?_
  refine va_sld hx hb hX hbl hbA hS (by unfold vp_in; decide) dL_law_329 ?_
  refine my_ti (v := xs 4) rfl ?_
  have hPc := hP.sub (ws' := [(q_101, .inr (11, [.int 0, .ref q_102, .int 0, .ref q_104, .int 12, .ref q_106, .int 0, .int 0, .int 0, .int 0, .long 0, .int 0, .long 0, .int 0, .int 0, .int 0, .int 0, .int 0, .int 0, .ref q_108, .ref q_109, .ref q_110, .int 0, .ref q_111, .ref q_112, .ref q_113, .ref q_114, .ref q_115, .ref q_117, .int 0, .ref q_119, .int 0, .int 0, .ref q_120, .int 0, .int 0, .long 0, .int 0, .ref q_121, .int 0, .int 0, .ref q_122, .ref q_123, .ref q_124, .ref q_125, .ref q_126, .ref q_127, .int 0, .int 0, .ref q_128, .ref q_129, .ref q_130, .ref q_131, .int 0, .ref q_132, .ref q_133, .ref q_134, .ref q_135, .ref q_136, .ref q_137, .ref q_138, .int 0, .ref q_139, .ref q_140, .ref q_141, .int 0, .ref q_142, .ref q_143, .int 0, .int 0, .ref q_144, .ref q_145, .ref q_146, .ref q_147, .ref q_148, .ref q_149, .ref q_150, .ref q_151, .ref q_152, .ref q_153, .ref q_154, .int 0, .int 0, .int 0, .int 0, .int 0, .ref q_155, .ref q_156, .int 0, .int 0, .int 0, .int 0, .int 0, .int 0, .int 0, .int 0, .long 0, .int 0, .int 0, .long 0, .ref q_157, .ref q_159, .ref q_161, .ref q_163, .int 0, .ref q_165])), (q_165, .inl (cA_166, 16, .inl d_169)), (q_159, .inl (cA_160, 100, .inl (fun _ => 0))), (q_161, .inl (cA_162, 100, .inl (fun _ => 0))), (q_163, .inl (cA_164, 100, .inl (fun _ => 0)))]) [0, 4, 1, 2, 3] rfl
  have hDc := hD.sub (ws' := [(q_101, .inr (11, [.int 0, .ref q_102, .int 0, .ref q_104, .int 12, .ref q_106, .int 0, .int 0, .int 0, .int 0, .long 0, .int 0, .long 0, .int 0, .int 0, .int 0, .int 0, .int 0, .int 0, .ref q_108, .ref q_109, .ref q_110, .int 0, .ref q_111, .ref q_112, .ref q_113, .ref q_114, .ref q_115, .ref q_117, .int 0, .ref q_119, .int 0, .int 0, .ref q_120, .int 0, .int 0, .long 0, .int 0, .ref q_121, .int 0, .int 0, .ref q_122, .ref q_123, .ref q_124, .ref q_125, .ref q_126, .ref q_127, .int 0, .int 0, .ref q_128, .ref q_129, .ref q_130, .ref q_131, .int 0, .ref q_132, .ref q_133, .ref q_134, .ref q_135, .ref q_136, .ref q_137, .ref q_138, .int 0, .ref q_139, .ref q_140, .ref q_141, .int 0, .ref q_142, .ref q_143, .int 0, .int 0, .ref q_144, .ref q_145, .ref q_146, .ref q_147, .ref q_148, .ref q_149, .ref q_150, .ref q_151, .ref q_152, .ref q_153, .ref q_154, .int 0, .int 0, .int 0, .int 0, .int 0, .ref q_155, .ref q_156, .int 0, .int 0, .int 0, .int 0, .int 0, .int 0, .int 0, .int 0, .long 0, .int 0, .int 0, .long 0, .ref q_157, .ref q_159, .ref q_161, .ref q_163, .int 0, .ref q_165])), (q_165, .inl (cA_166, 16, .inl d_169)), (q_159, .inl (cA_160, 100, .inl (fun _ => 0))), (q_161, .inl (cA_162, 100, .inl (fun _ => 0))), (q_163, .inl (cA_164, 100, .inl (fun _ => 0)))]) [0, 4, 1, 2, 3] (by decide) rfl
  have hKc := hK.sub (tys' := [(cA_166, .int), (cA_160, .int), (cA_162, .int), (cA_164, .int)]) [8, 5, 6, 7] rfl
  have hFc := va_free (wc := [(q_101, .inr (11, [.int 0, .ref q_102, .int 0, .ref q_104, .int 12, .ref q_106, .int 0, .int 0, .int 0, .int 0, .long 0, .int 0, .long 0, .int 0, .int 0, .int 0, .int 0, .int 0, .int 0, .ref q_108, .ref q_109, .ref q_110, .int 0, .ref q_111, .ref q_112, .ref q_113, .ref q_114, .ref q_115, .ref q_117, .int 0, .ref q_119, .int 0, .int 0, .ref q_120, .int 0, .int 0, .long 0, .int 0, .ref q_121, .int 0, .int 0, .ref q_122, .ref q_123, .ref q_124, .ref q_125, .ref q_126, .ref q_127, .int 0, .int 0, .ref q_128, .ref q_129, .ref q_130, .ref q_131, .int 0, .ref q_132, .ref q_133, .ref q_134, .ref q_135, .ref q_136, .ref q_137, .ref q_138, .int 0, .ref q_139, .ref q_140, .ref q_141, .int 0, .ref q_142, .ref q_143, .int 0, .int 0, .ref q_144, .ref q_145, .ref q_146, .ref q_147, .ref q_148, .ref q_149, .ref q_150, .ref q_151, .ref q_152, .ref q_153, .ref q_154, .int 0, .int 0, .int 0, .int 0, .int 0, .ref q_155, .ref q_156, .int 0, .int 0, .int 0, .int 0, .int 0, .int 0, .int 0, .int 0, .long 0, .int 0, .int 0, .long 0, .ref q_157, .ref q_159, .ref q_161, .ref q_163, .int 0, .ref q_165])), (q_165, .inl (cA_166, 16, .inl d_169)), (q_159, .inl (cA_160, 100, .inl (fun _ => 0))), (q_161, .inl (cA_162, 100, .inl (fun _ => 0))), (q_163, .inl (cA_164, 100, .inl (fun _ => 0)))]) hD hS hA [0, 4, 1, 2, 3] rfl
  refine va_calli (va_runV (As := [.int (xs 1), .int (xs 2), .int (xs 3), .int (xs 4)]) (rest := [.int r_171]) ⟨hx, hb, hml, hown, hts⟩ (c_X12_entry l dC dI H.size q_101 q_102 q_104 q_106 q_108 q_109 q_110 q_111 q_112 q_113 q_114 q_115 q_117 q_119 q_120 q_121 q_122 q_123 q_124 q_125 q_126 q_127 q_128 q_129 q_130 q_131 q_132 q_133 q_134 q_135 q_136 q_137 q_138 q_139 q_140 q_141 q_142 q_143 q_144 q_145 q_146 q_147 q_148 q_149 q_150 q_151 q_152 q_153 q_154 q_155 q_156 q_157 q_159 q_161 q_163 q_165 cA_166 d_169 cA_160 (fun _ => 0) cA_162 (fun _ => 0) cA_164 (fun _ => 0) (xs 1) (xs 2) (xs 3) (xs 4) ) (cwV 4 hts gl_wqX12_entry_41 rfl rfl rfl (by decide +kernel) ⟨Nat.le_of_ble_eq_true rfl, Nat.le_of_ble_eq_true rfl⟩) ⟨fb_M, va_recv hK hP (ci := 11) (q0 := 0) rfl rfl, fun U hU hW => ⟨rfl, xM.at hPc hKc hDc hU hW⟩⟩ rfl rfl hl.1 rfl (lv_room (Nat.le_of_ble_eq_true rfl)) dL_law_330 ⟨Nat.le_of_ble_eq_true rfl, Nat.le_of_ble_eq_true rfl⟩) hS (fun q _ h => hFc q h) hFc (fun r_173 u t H locs ht hvm hw hB hz1 hk1 hS => ?_)
  have hw_174 := hw
  obtain ⟨hP, hD, hK⟩ := xB.join (wr := []) (w1 := []) hP hD hK [0, 4, 1, 2, 3] [] rfl rfl (by decide) (by decide) hk1 hFc (xB.nil hvm hK) ht hvm
  have hP : va_P (dC, dI) vwCl [] _ := hP
  have hD : va_D (fun q : Nat => s.heap.size ≤ q) [] := hD
  have hK : va_K (dC, dI) vwCl [(cA_17, .int), (cA_19, .int), (cA_21, .int), (cA_23, .int), (cA_17, .int), (cA_160, .int), (cA_162, .int), (cA_164, .int), (cA_166, .int)] s := hK
  refine lv_icmp_eq (tgt := 571) hx hb dL_law_333 (by decide) (fun c_333 => ?_) (fun c_333 => absurd (or_eq hw_172 hw_174) c_333)
  refine lv_iinc (v := 6) (lv' := [(3, .int 6), (0, .ref b), (1, .ref q_1), (2, .ref q_101)]) hx hb dL_law_571 hl (k := 3) rfl (by decide) (by decide) rfl (fun ls hl => ?_)
  refine lv_goto (tgt := 18) hx hb dL_law_574 (by decide) ?_
  refine lv_iload_n hx hb dL_law_18 rfl (lv_at hl 0 rfl) ?_
  refine lv_aload_n hx hb dL_law_19 rfl (lv_at hl 1 rfl) ?_
  refine va_slen hx hb hX hbl hbA hS dL_law_20 ?_
  refine my_ti (v := 6) rfl ?_
  refine lv_bipush (v := 6) hx hb dL_law_21 (by decide) ?_
  refine lv_isub hx hb dL_law_23 ?_
  refine my_ti (v := 0) (by decide) ?_
  refine lv_icmp_gt (tgt := 577) hx hb dL_law_24 (by decide) (fun c_24 => ?_) (fun c_24 => absurd c_24 (by decide))
  refine lv_iconst (v := 1) hx hb dL_law_577 (by decide) ?_
  refine va_forget (fun q hq => hS.2.2 q hq) ?_
  refine W.widen (k := 600000) (n := 7302250) (Nat.le_of_ble_eq_true rfl) (Nat.le_of_ble_eq_true rfl) ?_
  exact W.base (lw_ret (d0 := s.drawn) (Drawn.sameBut.refl s.drawn lw_cs) hx hb hr hlocks dL_law_578)

set_option maxHeartbeats 4000000 in
set_option maxRecDepth 100000 in
theorem law_6 {p : Program} {l : Launch} {e : Env} {s : State} {m : MethodId} {below : List Frame} {meth : Method} {c : Code} {b : Nat} {xs : Nat → Int32} (C0 : lw_At p s m meth c b 6 xs) (dC : Nat → ClassId) (dI : Nat → Nat → Nat) (q_1 : Nat) (q_2 : Nat) (q_4 : Nat) (q_13 : Nat) (q_25 : Nat) (cA_26 : ClassId) (q_27 : Nat) (q_38 : Nat) (q_52 : Nat) (q_67 : Nat) (q_68 : Nat) (q_69 : Nat) (q_70 : Nat) (q_71 : Nat) (q_72 : Nat) (q_73 : Nat) (q_74 : Nat) (q_75 : Nat) (q_76 : Nat) (q_77 : Nat) (q_78 : Nat) (q_79 : Nat) (q_80 : Nat) (q_81 : Nat) (q_82 : Nat) (q_83 : Nat) (q_84 : Nat) (q_85 : Nat) (q_86 : Nat) (q_87 : Nat) (q_88 : Nat) (q_89 : Nat) (q_90 : Nat) (q_91 : Nat) (q_92 : Nat) (q_93 : Nat) (q_94 : Nat) (f_95 : Nat → Option Nat) (q_101 : Nat) (q_102 : Nat) (q_104 : Nat) (q_106 : Nat) (q_108 : Nat) (q_109 : Nat) (q_110 : Nat) (q_111 : Nat) (q_112 : Nat) (q_113 : Nat) (q_114 : Nat) (q_115 : Nat) (cA_116 : ClassId) (q_117 : Nat) (q_119 : Nat) (q_120 : Nat) (q_121 : Nat) (q_122 : Nat) (q_123 : Nat) (q_124 : Nat) (q_125 : Nat) (q_126 : Nat) (q_127 : Nat) (q_128 : Nat) (q_129 : Nat) (q_130 : Nat) (q_131 : Nat) (q_132 : Nat) (q_133 : Nat) (q_134 : Nat) (q_135 : Nat) (q_136 : Nat) (q_137 : Nat) (q_138 : Nat) (q_139 : Nat) (q_140 : Nat) (q_141 : Nat) (q_142 : Nat) (q_143 : Nat) (q_144 : Nat) (q_145 : Nat) (q_146 : Nat) (q_147 : Nat) (q_148 : Nat) (q_149 : Nat) (q_150 : Nat) (q_151 : Nat) (q_152 : Nat) (q_153 : Nat) (q_154 : Nat) (q_155 : Nat) (q_156 : Nat) (q_157 : Nat) (q_159 : Nat) (q_161 : Nat) (q_163 : Nat) (q_165 : Nat) (hf_97 : f_95 0 = some q_67) (hf_98 : f_95 1 = some q_74) (hf_99 : f_95 2 = some q_81) (hf_100 : f_95 3 = some q_88) {H : Heap} {locs : List Loc} {ls : Array Slot} (hK : va_K (dC, dI) vwCl [(cA_26, .object RX8), (cA_116, .int)] s) (hP : va_P (dC, dI) vwCl [(q_1, .inr (10, [.ref q_2, .int 0, .int 0, .ref q_4, .ref q_13, .ref q_25, .ref q_27, .ref q_38, .ref q_52])), (q_25, .inl (cA_26, 4, .inr (.inr (.inr (.inr f_95))))), (q_67, .inr (7, [.ref q_68, .int 0, .ref q_69, .ref q_70, .ref q_71, .ref q_72, .ref q_73, .int 0])), (q_74, .inr (7, [.ref q_75, .int 0, .ref q_76, .ref q_77, .ref q_78, .ref q_79, .ref q_80, .int 0])), (q_81, .inr (7, [.ref q_82, .int 0, .ref q_83, .ref q_84, .ref q_85, .ref q_86, .ref q_87, .int 0])), (q_88, .inr (7, [.ref q_89, .int 0, .ref q_90, .ref q_91, .ref q_92, .ref q_93, .ref q_94, .int 0])), (q_101, .inr (11, [.int 0, .ref q_102, .int 0, .ref q_104, .int 12, .ref q_106, .int 0, .int 0, .int 0, .int 0, .long 0, .int 0, .long 0, .int 0, .int 0, .int 0, .int 0, .int 0, .int 0, .ref q_108, .ref q_109, .ref q_110, .int 0, .ref q_111, .ref q_112, .ref q_113, .ref q_114, .ref q_115, .ref q_117, .int 0, .ref q_119, .int 0, .int 0, .ref q_120, .int 0, .int 0, .long 0, .int 0, .ref q_121, .int 0, .int 0, .ref q_122, .ref q_123, .ref q_124, .ref q_125, .ref q_126, .ref q_127, .int 0, .int 0, .ref q_128, .ref q_129, .ref q_130, .ref q_131, .int 0, .ref q_132, .ref q_133, .ref q_134, .ref q_135, .ref q_136, .ref q_137, .ref q_138, .int 0, .ref q_139, .ref q_140, .ref q_141, .int 0, .ref q_142, .ref q_143, .int 0, .int 0, .ref q_144, .ref q_145, .ref q_146, .ref q_147, .ref q_148, .ref q_149, .ref q_150, .ref q_151, .ref q_152, .ref q_153, .ref q_154, .int 0, .int 0, .int 0, .int 0, .int 0, .ref q_155, .ref q_156, .int 0, .int 0, .int 0, .int 0, .int 0, .int 0, .int 0, .int 0, .long 0, .int 0, .int 0, .long 0, .ref q_157, .ref q_159, .ref q_161, .ref q_163, .int 0, .ref q_165])), (q_115, .inl (cA_116, 5, .inl (fun _ => 0)))] H) (hD : va_D (fun q : Nat => s.heap.size ≤ q) [(q_1, .inr (10, [.ref q_2, .int 0, .int 0, .ref q_4, .ref q_13, .ref q_25, .ref q_27, .ref q_38, .ref q_52])), (q_25, .inl (cA_26, 4, .inr (.inr (.inr (.inr f_95))))), (q_67, .inr (7, [.ref q_68, .int 0, .ref q_69, .ref q_70, .ref q_71, .ref q_72, .ref q_73, .int 0])), (q_74, .inr (7, [.ref q_75, .int 0, .ref q_76, .ref q_77, .ref q_78, .ref q_79, .ref q_80, .int 0])), (q_81, .inr (7, [.ref q_82, .int 0, .ref q_83, .ref q_84, .ref q_85, .ref q_86, .ref q_87, .int 0])), (q_88, .inr (7, [.ref q_89, .int 0, .ref q_90, .ref q_91, .ref q_92, .ref q_93, .ref q_94, .int 0])), (q_101, .inr (11, [.int 0, .ref q_102, .int 0, .ref q_104, .int 12, .ref q_106, .int 0, .int 0, .int 0, .int 0, .long 0, .int 0, .long 0, .int 0, .int 0, .int 0, .int 0, .int 0, .int 0, .ref q_108, .ref q_109, .ref q_110, .int 0, .ref q_111, .ref q_112, .ref q_113, .ref q_114, .ref q_115, .ref q_117, .int 0, .ref q_119, .int 0, .int 0, .ref q_120, .int 0, .int 0, .long 0, .int 0, .ref q_121, .int 0, .int 0, .ref q_122, .ref q_123, .ref q_124, .ref q_125, .ref q_126, .ref q_127, .int 0, .int 0, .ref q_128, .ref q_129, .ref q_130, .ref q_131, .int 0, .ref q_132, .ref q_133, .ref q_134, .ref q_135, .ref q_136, .ref q_137, .ref q_138, .int 0, .ref q_139, .ref q_140, .ref q_141, .int 0, .ref q_142, .ref q_143, .int 0, .int 0, .ref q_144, .ref q_145, .ref q_146, .ref q_147, .ref q_148, .ref q_149, .ref q_150, .ref q_151, .ref q_152, .ref q_153, .ref q_154, .int 0, .int 0, .int 0, .int 0, .int 0, .ref q_155, .ref q_156, .int 0, .int 0, .int 0, .int 0, .int 0, .int 0, .int 0, .int 0, .long 0, .int 0, .int 0, .long 0, .ref q_157, .ref q_159, .ref q_161, .ref q_163, .int 0, .ref q_165])), (q_115, .inl (cA_116, 5, .inl (fun _ => 0)))]) (hS : va_S (fun q : Nat => s.heap.size ≤ q) s.heap H locs) (hl : lv_has ls 4 [(0, .ref b), (1, .ref q_1), (2, .ref q_101), (3, .int 0)]) : W p l e room_1 s m #[Value.ref b] below meth c H locs 167 452814 (lw_Z below #[Value.ref b] s) (F0 m 338 ls []) := by
  obtain ⟨hx, hb, hr, hml, hown, hts, hX, hbl, hlocks, hgv⟩ := id C0
  have hown : s.vm.findClass RL = some m.cls := hown
  have hA : ∀ q : Nat, s.heap.size ≤ q → (fun q : Nat => s.heap.size ≤ q) q := fun _ h => h
  have hbA : ¬ (fun q : Nat => s.heap.size ≤ q) b := Nat.not_le.mpr hbl
  refine lv_aload_n hx hb dL_law_338 rfl (lv_at hl 1 rfl) ?_
  refine lv_aload_n hx hb dL_law_339 rfl (lv_at hl 0 rfl) ?_
  refine lv_iload_n hx hb dL_law_340 rfl (lv_at hl 3 rfl) ?_
  refine lv_iconst (v := 1) hx hb dL_law_341 (by decide) ?_
  refine lv_iadd hx hb dL_law_342 ?_
  refine my_ti (v := 1) (by decide) ?_
  refine va_sld hx hb hX hbl hbA hS (by unfold vp_in; decide) dL_law_343 ?_
  refine my_ti (v := xs 1) rfl ?_
  refine lv_aload_n hx hb dL_law_344 rfl (lv_at hl 0 rfl) ?_
  refine lv_iload_n hx hb dL_law_345 rfl (lv_at hl 3 rfl) ?_
  refine lv_iconst (v := 2) hx hb dL_law_346 (by decide) ?_
  refine lv_iadd hx hb dL_law_347 ?_
  refine my_ti (v := 2) (by decide) ?_
  refine va_sld hx hb hX hbl hbA hS (by unfold vp_in; decide) dL_law_348 ?_
  refine my_ti (v := xs 2) rfl ?_
  refine lv_aload_n hx hb dL_law_349 rfl (lv_at hl 0 rfl) ?_
  refine lv_iload_n hx hb dL_law_350 rfl (lv_at hl 3 rfl) ?_
  refine lv_iconst (v := 3) hx hb dL_law_351 (by decide) ?_
  refine lv_iadd hx hb dL_law_352 ?_
  refine my_ti (v := 3) (by decide) ?_
  refine va_sld hx hb hX hbl hbA hS (by unfold vp_in; decide) dL_law_353 ?_
  refine my_ti (v := xs 3) rfl ?_
  refine lv_i2l (v := (xs 3).toInt64) hx hb dL_law_354 rfl ?_
  refine lv_bipush (v := 32) hx hb dL_law_355 (by decide) ?_
  refine lv_lshl (v := ((xs 3).toInt64) <<< ((32 : Int32).toInt64 &&& 63)) hx hb dL_law_357 rfl ?_
  refine lv_aload_n hx hb dL_law_358 rfl (lv_at hl 0 rfl) ?_
  refine lv_iload_n hx hb dL_law_359 rfl (lv_at hl 3 rfl) ?_
  refine lv_iconst (v := 4) hx hb dL_law_360 (by decide) ?_
  refine lv_iadd hx hb dL_law_361 ?_
  refine my_ti (v := 4) (by decide) ?_
  refine va_sld hx hb hX hbl hbA hS (by unfold vp_in; decide) dL_law_362 ?_
  refine my_ti (v := xs 4) rfl ?_
  refine lv_i2l (v := (xs 4).toInt64) hx hb dL_law_363 rfl ?_
  refine lv_ldc2 hx hb hown (hts (.constantLong RL 42 (4294967295)) (List.mem_of_getElem? (i := 2725) (by decide +kernel))) dL_law_364 ?_
  refine lv_land hx hb dL_law_367 ?_
  refine lv_lor hx hb dL_law_368 ?_
  refine va_calli (va_runV (As := [.int (xs 1), .int (xs 2), .long ((((xs 3).toInt64) <<< ((32 : Int32).toInt64 &&& 63)) ||| (((xs 4).toInt64) &&& 4294967295))]) (rest := []) ⟨hx, hb, hml, hown, hts⟩ (c_X11_callq l dC dI q_1 q_2 q_4 q_13 q_25 q_27 q_38 q_52 cA_26 f_95 q_67 q_68 q_69 q_70 q_71 q_72 q_73 q_74 q_75 q_76 q_77 q_78 q_79 q_80 q_81 q_82 q_83 q_84 q_85 q_86 q_87 q_88 q_89 q_90 q_91 q_92 q_93 q_94 (xs 1) (xs 2) ((((xs 3).toInt64) <<< ((32 : Int32).toInt64 &&& 63)) ||| (((xs 4).toInt64) &&& 4294967295)) hf_97 hf_98 hf_99 hf_100) (cwV 3 hts gl_wqX11_callq_44 rfl rfl rfl (by decide +kernel) ⟨Nat.le_of_ble_eq_true rfl, Nat.le_of_ble_eq_true rfl⟩) ⟨fb_R, va_recv hK hP (ci := 10) (q0 := 0) rfl rfl, fun U hU hW => ⟨rfl, xR.at (hP.sub (ws' := [(q_1, .inr (10, [.ref q_2, .int 0, .int 0, .ref q_4, .ref q_13, .ref q_25, .ref q_27, .ref q_38, .ref q_52])), (q_25, .inl (cA_26, 4, .inr (.inr (.inr (.inr f_95))))), (q_67, .inr (7, [.ref q_68, .int 0, .ref q_69, .ref q_70, .ref q_71, .ref q_72, .ref q_73, .int 0])), (q_74, .inr (7, [.ref q_75, .int 0, .ref q_76, .ref q_77, .ref q_78, .ref q_79, .ref q_80, .int 0])), (q_81, .inr (7, [.ref q_82, .int 0, .ref q_83, .ref q_84, .ref q_85, .ref q_86, .ref q_87, .int 0])), (q_88, .inr (7, [.ref q_89, .int 0, .ref q_90, .ref q_91, .ref q_92, .ref q_93, .ref q_94, .int 0]))]) [0, 1, 2, 3, 4, 5] rfl) (hK.sub (tys' := [(cA_26, .object RX8)]) [0] rfl) hU hW⟩⟩ rfl rfl hl.1 rfl (lv_room (Nat.le_of_ble_eq_true rfl)) dL_law_369 ⟨Nat.le_of_ble_eq_true rfl, Nat.le_of_ble_eq_true rfl⟩) hS (fun q _ h => h.elim) (fun q h => h.elim) (fun r_171 u t H locs ht hvm hw hB hz1 hk1 hS => ?_)
  have hw_172 := hw
  have hP := xR.keep hP hk1
  refine lv_aload_n hx hb dL_law_372 rfl (lv_at hl 2 rfl) ?_
  refine lv_aload_n hx hb dL_law_373 rfl (lv_at hl 0 rfl) ?_
  refine lv_iload_n hx hb dL_law_374 rfl (lv_at hl 3 rfl) ?_
  refine lv_iconst (v := 1) hx hb dL_law_375 (by decide) ?_
  refine lv_iadd hx hb dL_law_376 ?_
  refine my_ti (v := 1) (by decide) ?_
  refine va_sld hx hb hX hbl hbA hS (by unfold vp_in; decide) dL_law_377 ?_
  refine my_ti (v := xs 1) rfl ?_
  refine lv_aload_n hx hb dL_law_378 rfl (lv_at hl 0 rfl) ?_
  refine lv_iload_n hx hb dL_law_379 rfl (lv_at hl 3 rfl) ?_
  refine lv_iconst (v := 2) hx hb dL_law_380 (by decide) ?_
  refine lv_iadd hx hb dL_law_381 ?_
  refine my_ti (v := 2) (by decide) ?_
  refine va_sld hx hb hX hbl hbA hS (by unfold vp_in; decide) dL_law_382 ?_
  refine my_ti (v := xs 2) rfl ?_
  refine lv_aload_n hx hb dL_law_383 rfl (lv_at hl 0 rfl) ?_
  refine lv_iload_n hx hb dL_law_384 rfl (lv_at hl 3 rfl) ?_
  refine lv_iconst (v := 3) hx hb dL_law_385 (by decide) ?_
  refine lv_iadd hx hb dL_law_386 ?_
  refine my_ti (v := 3) (by decide) ?_
  refine va_sld hx hb hX hbl hbA hS (by unfold vp_in; decide) dL_law_387 ?_
  refine my_ti (v := xs 3) rfl ?_
  refine lv_i2l (v := (xs 3).toInt64) hx hb dL_law_388 rfl ?_
  refine lv_bipush (v := 32) hx hb dL_law_389 (by decide) ?_
  refine lv_lshl (v := ((xs 3).toInt64) <<< ((32 : Int32).toInt64 &&& 63)) hx hb dL_law_391 rfl ?_
  refine lv_aload_n hx hb dL_law_392 rfl (lv_at hl 0 rfl) ?_
  refine lv_iload_n hx hb dL_law_393 rfl (lv_at hl 3 rfl) ?_
  refine lv_iconst (v := 4) hx hb dL_law_394 (by decide) ?_
  refine lv_iadd hx hb dL_law_395 ?_
  refine my_ti (v := 4) (by decide) ?_
  refine va_sld hx hb hX hbl hbA hS (by unfold vp_in; decide) dL_law_396 ?_
  refine my_ti (v := xs 4) rfl ?_
  refine lv_i2l (v := (xs 4).toInt64) hx hb dL_law_397 rfl ?_
  refine lv_ldc2 hx hb hown (hts (.constantLong RL 42 (4294967295)) (List.mem_of_getElem? (i := 2725) (by decide +kernel))) dL_law_398 ?_
  refine lv_land hx hb dL_law_401 ?_
  refine lv_lor hx hb dL_law_402 ?_
  have hPc := hP.sub (ws' := [(q_101, .inr (11, [.int 0, .ref q_102, .int 0, .ref q_104, .int 12, .ref q_106, .int 0, .int 0, .int 0, .int 0, .long 0, .int 0, .long 0, .int 0, .int 0, .int 0, .int 0, .int 0, .int 0, .ref q_108, .ref q_109, .ref q_110, .int 0, .ref q_111, .ref q_112, .ref q_113, .ref q_114, .ref q_115, .ref q_117, .int 0, .ref q_119, .int 0, .int 0, .ref q_120, .int 0, .int 0, .long 0, .int 0, .ref q_121, .int 0, .int 0, .ref q_122, .ref q_123, .ref q_124, .ref q_125, .ref q_126, .ref q_127, .int 0, .int 0, .ref q_128, .ref q_129, .ref q_130, .ref q_131, .int 0, .ref q_132, .ref q_133, .ref q_134, .ref q_135, .ref q_136, .ref q_137, .ref q_138, .int 0, .ref q_139, .ref q_140, .ref q_141, .int 0, .ref q_142, .ref q_143, .int 0, .int 0, .ref q_144, .ref q_145, .ref q_146, .ref q_147, .ref q_148, .ref q_149, .ref q_150, .ref q_151, .ref q_152, .ref q_153, .ref q_154, .int 0, .int 0, .int 0, .int 0, .int 0, .ref q_155, .ref q_156, .int 0, .int 0, .int 0, .int 0, .int 0, .int 0, .int 0, .int 0, .long 0, .int 0, .int 0, .long 0, .ref q_157, .ref q_159, .ref q_161, .ref q_163, .int 0, .ref q_165])), (q_115, .inl (cA_116, 5, .inl (fun _ => 0)))]) [6, 7] rfl
  have hDc := hD.sub (ws' := [(q_101, .inr (11, [.int 0, .ref q_102, .int 0, .ref q_104, .int 12, .ref q_106, .int 0, .int 0, .int 0, .int 0, .long 0, .int 0, .long 0, .int 0, .int 0, .int 0, .int 0, .int 0, .int 0, .ref q_108, .ref q_109, .ref q_110, .int 0, .ref q_111, .ref q_112, .ref q_113, .ref q_114, .ref q_115, .ref q_117, .int 0, .ref q_119, .int 0, .int 0, .ref q_120, .int 0, .int 0, .long 0, .int 0, .ref q_121, .int 0, .int 0, .ref q_122, .ref q_123, .ref q_124, .ref q_125, .ref q_126, .ref q_127, .int 0, .int 0, .ref q_128, .ref q_129, .ref q_130, .ref q_131, .int 0, .ref q_132, .ref q_133, .ref q_134, .ref q_135, .ref q_136, .ref q_137, .ref q_138, .int 0, .ref q_139, .ref q_140, .ref q_141, .int 0, .ref q_142, .ref q_143, .int 0, .int 0, .ref q_144, .ref q_145, .ref q_146, .ref q_147, .ref q_148, .ref q_149, .ref q_150, .ref q_151, .ref q_152, .ref q_153, .ref q_154, .int 0, .int 0, .int 0, .int 0, .int 0, .ref q_155, .ref q_156, .int 0, .int 0, .int 0, .int 0, .int 0, .int 0, .int 0, .int 0, .long 0, .int 0, .int 0, .long 0, .ref q_157, .ref q_159, .ref q_161, .ref q_163, .int 0, .ref q_165])), (q_115, .inl (cA_116, 5, .inl (fun _ => 0)))]) [6, 7] (by decide) rfl
  have hKc := hK.sub (tys' := [(cA_116, .int)]) [1] rfl
  have hFc := va_free (wc := [(q_101, .inr (11, [.int 0, .ref q_102, .int 0, .ref q_104, .int 12, .ref q_106, .int 0, .int 0, .int 0, .int 0, .long 0, .int 0, .long 0, .int 0, .int 0, .int 0, .int 0, .int 0, .int 0, .ref q_108, .ref q_109, .ref q_110, .int 0, .ref q_111, .ref q_112, .ref q_113, .ref q_114, .ref q_115, .ref q_117, .int 0, .ref q_119, .int 0, .int 0, .ref q_120, .int 0, .int 0, .long 0, .int 0, .ref q_121, .int 0, .int 0, .ref q_122, .ref q_123, .ref q_124, .ref q_125, .ref q_126, .ref q_127, .int 0, .int 0, .ref q_128, .ref q_129, .ref q_130, .ref q_131, .int 0, .ref q_132, .ref q_133, .ref q_134, .ref q_135, .ref q_136, .ref q_137, .ref q_138, .int 0, .ref q_139, .ref q_140, .ref q_141, .int 0, .ref q_142, .ref q_143, .int 0, .int 0, .ref q_144, .ref q_145, .ref q_146, .ref q_147, .ref q_148, .ref q_149, .ref q_150, .ref q_151, .ref q_152, .ref q_153, .ref q_154, .int 0, .int 0, .int 0, .int 0, .int 0, .ref q_155, .ref q_156, .int 0, .int 0, .int 0, .int 0, .int 0, .int 0, .int 0, .int 0, .long 0, .int 0, .int 0, .long 0, .ref q_157, .ref q_159, .ref q_161, .ref q_163, .int 0, .ref q_165])), (q_115, .inl (cA_116, 5, .inl (fun _ => 0)))]) hD hS hA [6, 7] rfl
  refine va_calli (va_runV (As := [.int (xs 1), .int (xs 2), .long ((((xs 3).toInt64) <<< ((32 : Int32).toInt64 &&& 63)) ||| (((xs 4).toInt64) &&& 4294967295))]) (rest := [.int r_171]) ⟨hx, hb, hml, hown, hts⟩ (c_X12_call_ l dC dI H.size q_101 q_102 q_104 q_106 q_108 q_109 q_110 q_111 q_112 q_113 q_114 q_115 q_117 q_119 q_120 q_121 q_122 q_123 q_124 q_125 q_126 q_127 q_128 q_129 q_130 q_131 q_132 q_133 q_134 q_135 q_136 q_137 q_138 q_139 q_140 q_141 q_142 q_143 q_144 q_145 q_146 q_147 q_148 q_149 q_150 q_151 q_152 q_153 q_154 q_155 q_156 q_157 q_159 q_161 q_163 q_165 cA_116 (xs 1) (xs 2) ((((xs 3).toInt64) <<< ((32 : Int32).toInt64 &&& 63)) ||| (((xs 4).toInt64) &&& 4294967295)) ) (cwV 3 hts gl_wqX12_call__48 rfl rfl rfl (by decide +kernel) ⟨Nat.le_of_ble_eq_true rfl, Nat.le_of_ble_eq_true rfl⟩) ⟨fb_M, va_recv hK hP (ci := 11) (q0 := 6) rfl rfl, fun U hU hW => ⟨rfl, xM.at hPc hKc hDc hU hW⟩⟩ rfl rfl hl.1 rfl (lv_room (Nat.le_of_ble_eq_true rfl)) dL_law_403 ⟨Nat.le_of_ble_eq_true rfl, Nat.le_of_ble_eq_true rfl⟩) hS (fun q _ h => hFc q h) hFc (fun r_173 u t H locs ht hvm hw hB hz1 hk1 hS => ?_)
  have hw_174 := hw
  obtain ⟨hP, hD, hK⟩ := xB.join (wr := [(q_1, .inr (10, [.ref q_2, .int 0, .int 0, .ref q_4, .ref q_13, .ref q_25, .ref q_27, .ref q_38, .ref q_52])), (q_25, .inl (cA_26, 4, .inr (.inr (.inr (.inr f_95))))), (q_67, .inr (7, [.ref q_68, .int 0, .ref q_69, .ref q_70, .ref q_71, .ref q_72, .ref q_73, .int 0])), (q_74, .inr (7, [.ref q_75, .int 0, .ref q_76, .ref q_77, .ref q_78, .ref q_79, .ref q_80, .int 0])), (q_81, .inr (7, [.ref q_82, .int 0, .ref q_83, .ref q_84, .ref q_85, .ref q_86, .ref q_87, .int 0])), (q_88, .inr (7, [.ref q_89, .int 0, .ref q_90, .ref q_91, .ref q_92, .ref q_93, .ref q_94, .int 0]))]) (w1 := []) hP hD hK [6, 7] [0, 1, 2, 3, 4, 5] rfl rfl (by decide) (by decide) hk1 hFc (xB.nil hvm hK) ht hvm
  have hP : va_P (dC, dI) vwCl [(q_1, .inr (10, [.ref q_2, .int 0, .int 0, .ref q_4, .ref q_13, .ref q_25, .ref q_27, .ref q_38, .ref q_52])), (q_25, .inl (cA_26, 4, .inr (.inr (.inr (.inr f_95))))), (q_67, .inr (7, [.ref q_68, .int 0, .ref q_69, .ref q_70, .ref q_71, .ref q_72, .ref q_73, .int 0])), (q_74, .inr (7, [.ref q_75, .int 0, .ref q_76, .ref q_77, .ref q_78, .ref q_79, .ref q_80, .int 0])), (q_81, .inr (7, [.ref q_82, .int 0, .ref q_83, .ref q_84, .ref q_85, .ref q_86, .ref q_87, .int 0])), (q_88, .inr (7, [.ref q_89, .int 0, .ref q_90, .ref q_91, .ref q_92, .ref q_93, .ref q_94, .int 0]))] _ := hP
  have hD : va_D (fun q : Nat => s.heap.size ≤ q) [(q_1, .inr (10, [.ref q_2, .int 0, .int 0, .ref q_4, .ref q_13, .ref q_25, .ref q_27, .ref q_38, .ref q_52])), (q_25, .inl (cA_26, 4, .inr (.inr (.inr (.inr f_95))))), (q_67, .inr (7, [.ref q_68, .int 0, .ref q_69, .ref q_70, .ref q_71, .ref q_72, .ref q_73, .int 0])), (q_74, .inr (7, [.ref q_75, .int 0, .ref q_76, .ref q_77, .ref q_78, .ref q_79, .ref q_80, .int 0])), (q_81, .inr (7, [.ref q_82, .int 0, .ref q_83, .ref q_84, .ref q_85, .ref q_86, .ref q_87, .int 0])), (q_88, .inr (7, [.ref q_89, .int 0, .ref q_90, .ref q_91, .ref q_92, .ref q_93, .ref q_94, .int 0]))] := hD
  have hK : va_K (dC, dI) vwCl [(cA_26, .object RX8), (cA_116, .int)] s := hK
  refine lv_icmp_eq (tgt := 571) hx hb dL_law_406 (by decide) (fun c_406 => ?_) (fun c_406 => absurd (hw_172.trans hw_174.symm) c_406)
  refine lv_iinc (v := 6) (lv' := [(3, .int 6), (0, .ref b), (1, .ref q_1), (2, .ref q_101)]) hx hb dL_law_571 hl (k := 3) rfl (by decide) (by decide) rfl (fun ls hl => ?_)
  refine lv_goto (tgt := 18) hx hb dL_law_574 (by decide) ?_
  refine lv_iload_n hx hb dL_law_18 rfl (lv_at hl 0 rfl) ?_
  refine lv_aload_n hx hb dL_law_19 rfl (lv_at hl 1 rfl) ?_
  refine va_slen hx hb hX hbl hbA hS dL_law_20 ?_
  refine my_ti (v := 6) rfl ?_
  refine lv_bipush (v := 6) hx hb dL_law_21 (by decide) ?_
  refine lv_isub hx hb dL_law_23 ?_
  refine my_ti (v := 0) (by decide) ?_
  refine lv_icmp_gt (tgt := 577) hx hb dL_law_24 (by decide) (fun c_24 => ?_) (fun c_24 => absurd c_24 (by decide))
  refine lv_iconst (v := 1) hx hb dL_law_577 (by decide) ?_
  refine va_forget (fun q hq => hS.2.2 q hq) ?_
  refine W.widen (k := 600000) (n := 7302250) (Nat.le_of_ble_eq_true rfl) (Nat.le_of_ble_eq_true rfl) ?_
  exact W.base (lw_ret (d0 := s.drawn) (Drawn.sameBut.refl s.drawn lw_cs) hx hb hr hlocks dL_law_578)
