theorem dL_law_18 : decode cL_law 18 = .ok (.iload_n 3, 1) := by decide +kernel
theorem dL_law_19 : decode cL_law 19 = .ok (.aload_n 0, 1) := by decide +kernel
theorem dL_law_20 : decode cL_law 20 = .ok (.arraylength, 1) := by decide +kernel
theorem dL_law_21 : decode cL_law 21 = .ok (.bipush 6, 2) := by decide +kernel
theorem dL_law_23 : decode cL_law 23 = .ok (.isub, 1) := by decide +kernel
theorem dL_law_24 : decode cL_law 24 = .ok (.if_icmp .gt 551, 3) := by decide +kernel
theorem dL_law_27 : decode cL_law 27 = .ok (.aload_n 0, 1) := by decide +kernel
theorem dL_law_28 : decode cL_law 28 = .ok (.iload_n 3, 1) := by decide +kernel
theorem dL_law_29 : decode cL_law 29 = .ok (.iaload, 1) := by decide +kernel
theorem dL_law_30 : decode cL_law 30 = .ok (.bipush 15, 2) := by decide +kernel
theorem dL_law_32 : decode cL_law 32 = .ok (.iand, 1) := by decide +kernel
theorem dL_law_33 : decode cL_law 33 = .ok (.tableswitch 536 0 12 #[67, 130, 163, 176, 209, 252, 305, 378, 401, 414, 437, 460, 493], 67) := by decide +kernel
theorem dL_law_100 : decode cL_law 100 = .ok (.aload_n 1, 1) := by decide +kernel
theorem dL_law_101 : decode cL_law 101 = .ok (.aload_n 0, 1) := by decide +kernel
theorem dL_law_102 : decode cL_law 102 = .ok (.iload_n 3, 1) := by decide +kernel
theorem dL_law_103 : decode cL_law 103 = .ok (.iconst 1, 1) := by decide +kernel
theorem dL_law_104 : decode cL_law 104 = .ok (.iadd, 1) := by decide +kernel
theorem dL_law_105 : decode cL_law 105 = .ok (.iaload, 1) := by decide +kernel
theorem dL_law_106 : decode cL_law 106 = .ok (.aload_n 0, 1) := by decide +kernel
theorem dL_law_107 : decode cL_law 107 = .ok (.iload_n 3, 1) := by decide +kernel
theorem dL_law_108 : decode cL_law 108 = .ok (.iconst 2, 1) := by decide +kernel
theorem dL_law_109 : decode cL_law 109 = .ok (.iadd, 1) := by decide +kernel
theorem dL_law_110 : decode cL_law 110 = .ok (.iaload, 1) := by decide +kernel
theorem dL_law_111 : decode cL_law 111 = .ok (.aload_n 0, 1) := by decide +kernel
theorem dL_law_112 : decode cL_law 112 = .ok (.iload_n 3, 1) := by decide +kernel
theorem dL_law_113 : decode cL_law 113 = .ok (.iconst 3, 1) := by decide +kernel
theorem dL_law_114 : decode cL_law 114 = .ok (.iadd, 1) := by decide +kernel
theorem dL_law_115 : decode cL_law 115 = .ok (.iaload, 1) := by decide +kernel
theorem dL_law_116 : decode cL_law 116 = .ok (.aload_n 0, 1) := by decide +kernel
theorem dL_law_117 : decode cL_law 117 = .ok (.iload_n 3, 1) := by decide +kernel
theorem dL_law_118 : decode cL_law 118 = .ok (.iconst 4, 1) := by decide +kernel
theorem dL_law_119 : decode cL_law 119 = .ok (.iadd, 1) := by decide +kernel
theorem dL_law_120 : decode cL_law 120 = .ok (.iaload, 1) := by decide +kernel
theorem dL_law_121 : decode cL_law 121 = .ok (.aload_n 0, 1) := by decide +kernel
theorem dL_law_122 : decode cL_law 122 = .ok (.iload_n 3, 1) := by decide +kernel
theorem dL_law_123 : decode cL_law 123 = .ok (.iconst 5, 1) := by decide +kernel
theorem dL_law_124 : decode cL_law 124 = .ok (.iadd, 1) := by decide +kernel
theorem dL_law_125 : decode cL_law 125 = .ok (.iaload, 1) := by decide +kernel
theorem dL_law_126 : decode cL_law 126 = .ok (.invokevirtual 13, 3) := by decide +kernel
theorem dL_law_129 : decode cL_law 129 = .ok (.aload_n 2, 1) := by decide +kernel
theorem dL_law_130 : decode cL_law 130 = .ok (.aload_n 0, 1) := by decide +kernel
theorem dL_law_131 : decode cL_law 131 = .ok (.iload_n 3, 1) := by decide +kernel
theorem dL_law_132 : decode cL_law 132 = .ok (.iconst 1, 1) := by decide +kernel
theorem dL_law_133 : decode cL_law 133 = .ok (.iadd, 1) := by decide +kernel
theorem dL_law_134 : decode cL_law 134 = .ok (.iaload, 1) := by decide +kernel
theorem dL_law_135 : decode cL_law 135 = .ok (.aload_n 0, 1) := by decide +kernel
theorem dL_law_136 : decode cL_law 136 = .ok (.iload_n 3, 1) := by decide +kernel
theorem dL_law_137 : decode cL_law 137 = .ok (.iconst 2, 1) := by decide +kernel
theorem dL_law_138 : decode cL_law 138 = .ok (.iadd, 1) := by decide +kernel
theorem dL_law_139 : decode cL_law 139 = .ok (.iaload, 1) := by decide +kernel
theorem dL_law_140 : decode cL_law 140 = .ok (.aload_n 0, 1) := by decide +kernel
theorem dL_law_141 : decode cL_law 141 = .ok (.iload_n 3, 1) := by decide +kernel
theorem dL_law_142 : decode cL_law 142 = .ok (.iconst 3, 1) := by decide +kernel
theorem dL_law_143 : decode cL_law 143 = .ok (.iadd, 1) := by decide +kernel
theorem dL_law_144 : decode cL_law 144 = .ok (.iaload, 1) := by decide +kernel
theorem dL_law_145 : decode cL_law 145 = .ok (.aload_n 0, 1) := by decide +kernel
theorem dL_law_146 : decode cL_law 146 = .ok (.iload_n 3, 1) := by decide +kernel
theorem dL_law_147 : decode cL_law 147 = .ok (.iconst 4, 1) := by decide +kernel
theorem dL_law_148 : decode cL_law 148 = .ok (.iadd, 1) := by decide +kernel
theorem dL_law_149 : decode cL_law 149 = .ok (.iaload, 1) := by decide +kernel
theorem dL_law_150 : decode cL_law 150 = .ok (.aload_n 0, 1) := by decide +kernel
theorem dL_law_151 : decode cL_law 151 = .ok (.iload_n 3, 1) := by decide +kernel
theorem dL_law_152 : decode cL_law 152 = .ok (.iconst 5, 1) := by decide +kernel
theorem dL_law_153 : decode cL_law 153 = .ok (.iadd, 1) := by decide +kernel
theorem dL_law_154 : decode cL_law 154 = .ok (.iaload, 1) := by decide +kernel
theorem dL_law_155 : decode cL_law 155 = .ok (.invokevirtual 17, 3) := by decide +kernel
theorem dL_law_158 : decode cL_law 158 = .ok (.if_icmp .eq 411, 3) := by decide +kernel
theorem dL_law_163 : decode cL_law 163 = .ok (.aload_n 1, 1) := by decide +kernel
theorem dL_law_164 : decode cL_law 164 = .ok (.aload_n 0, 1) := by decide +kernel
theorem dL_law_165 : decode cL_law 165 = .ok (.iload_n 3, 1) := by decide +kernel
theorem dL_law_166 : decode cL_law 166 = .ok (.iconst 1, 1) := by decide +kernel
theorem dL_law_167 : decode cL_law 167 = .ok (.iadd, 1) := by decide +kernel
theorem dL_law_168 : decode cL_law 168 = .ok (.iaload, 1) := by decide +kernel
theorem dL_law_169 : decode cL_law 169 = .ok (.aload_n 0, 1) := by decide +kernel
theorem dL_law_170 : decode cL_law 170 = .ok (.iload_n 3, 1) := by decide +kernel
theorem dL_law_171 : decode cL_law 171 = .ok (.iconst 2, 1) := by decide +kernel
theorem dL_law_172 : decode cL_law 172 = .ok (.iadd, 1) := by decide +kernel
theorem dL_law_173 : decode cL_law 173 = .ok (.iaload, 1) := by decide +kernel
theorem dL_law_174 : decode cL_law 174 = .ok (.invokevirtual 18, 3) := by decide +kernel
theorem dL_law_177 : decode cL_law 177 = .ok (.pop, 1) := by decide +kernel
theorem dL_law_178 : decode cL_law 178 = .ok (.aload_n 2, 1) := by decide +kernel
theorem dL_law_179 : decode cL_law 179 = .ok (.aload_n 0, 1) := by decide +kernel
theorem dL_law_180 : decode cL_law 180 = .ok (.iload_n 3, 1) := by decide +kernel
theorem dL_law_181 : decode cL_law 181 = .ok (.iconst 1, 1) := by decide +kernel
theorem dL_law_182 : decode cL_law 182 = .ok (.iadd, 1) := by decide +kernel
theorem dL_law_183 : decode cL_law 183 = .ok (.iaload, 1) := by decide +kernel
theorem dL_law_184 : decode cL_law 184 = .ok (.aload_n 0, 1) := by decide +kernel
theorem dL_law_185 : decode cL_law 185 = .ok (.iload_n 3, 1) := by decide +kernel
theorem dL_law_186 : decode cL_law 186 = .ok (.iconst 2, 1) := by decide +kernel
theorem dL_law_187 : decode cL_law 187 = .ok (.iadd, 1) := by decide +kernel
theorem dL_law_188 : decode cL_law 188 = .ok (.iaload, 1) := by decide +kernel
theorem dL_law_189 : decode cL_law 189 = .ok (.invokevirtual 22, 3) := by decide +kernel
theorem dL_law_192 : decode cL_law 192 = .ok (.pop, 1) := by decide +kernel
theorem dL_law_193 : decode cL_law 193 = .ok (.goto 376, 3) := by decide +kernel
theorem dL_law_196 : decode cL_law 196 = .ok (.aload_n 1, 1) := by decide +kernel
theorem dL_law_197 : decode cL_law 197 = .ok (.invokevirtual 23, 3) := by decide +kernel
theorem dL_law_200 : decode cL_law 200 = .ok (.pop, 1) := by decide +kernel
theorem dL_law_201 : decode cL_law 201 = .ok (.aload_n 2, 1) := by decide +kernel
theorem dL_law_202 : decode cL_law 202 = .ok (.invokevirtual 27, 3) := by decide +kernel
theorem dL_law_205 : decode cL_law 205 = .ok (.pop, 1) := by decide +kernel
theorem dL_law_206 : decode cL_law 206 = .ok (.goto 363, 3) := by decide +kernel
theorem dL_law_209 : decode cL_law 209 = .ok (.aload_n 1, 1) := by decide +kernel
theorem dL_law_210 : decode cL_law 210 = .ok (.aload_n 0, 1) := by decide +kernel
theorem dL_law_211 : decode cL_law 211 = .ok (.iload_n 3, 1) := by decide +kernel
theorem dL_law_212 : decode cL_law 212 = .ok (.iconst 1, 1) := by decide +kernel
theorem dL_law_213 : decode cL_law 213 = .ok (.iadd, 1) := by decide +kernel
theorem dL_law_214 : decode cL_law 214 = .ok (.iaload, 1) := by decide +kernel
theorem dL_law_215 : decode cL_law 215 = .ok (.aload_n 0, 1) := by decide +kernel
theorem dL_law_216 : decode cL_law 216 = .ok (.iload_n 3, 1) := by decide +kernel
theorem dL_law_217 : decode cL_law 217 = .ok (.iconst 2, 1) := by decide +kernel
theorem dL_law_218 : decode cL_law 218 = .ok (.iadd, 1) := by decide +kernel
theorem dL_law_219 : decode cL_law 219 = .ok (.iaload, 1) := by decide +kernel
theorem dL_law_220 : decode cL_law 220 = .ok (.invokevirtual 28, 3) := by decide +kernel
theorem dL_law_223 : decode cL_law 223 = .ok (.pop, 1) := by decide +kernel
theorem dL_law_224 : decode cL_law 224 = .ok (.aload_n 2, 1) := by decide +kernel
theorem dL_law_225 : decode cL_law 225 = .ok (.aload_n 0, 1) := by decide +kernel
theorem dL_law_226 : decode cL_law 226 = .ok (.iload_n 3, 1) := by decide +kernel
theorem dL_law_227 : decode cL_law 227 = .ok (.iconst 1, 1) := by decide +kernel
theorem dL_law_228 : decode cL_law 228 = .ok (.iadd, 1) := by decide +kernel
theorem dL_law_229 : decode cL_law 229 = .ok (.iaload, 1) := by decide +kernel
theorem dL_law_230 : decode cL_law 230 = .ok (.aload_n 0, 1) := by decide +kernel
theorem dL_law_231 : decode cL_law 231 = .ok (.iload_n 3, 1) := by decide +kernel
theorem dL_law_232 : decode cL_law 232 = .ok (.iconst 2, 1) := by decide +kernel
theorem dL_law_233 : decode cL_law 233 = .ok (.iadd, 1) := by decide +kernel
theorem dL_law_234 : decode cL_law 234 = .ok (.iaload, 1) := by decide +kernel
theorem dL_law_235 : decode cL_law 235 = .ok (.invokevirtual 31, 3) := by decide +kernel
theorem dL_law_238 : decode cL_law 238 = .ok (.pop, 1) := by decide +kernel
theorem dL_law_239 : decode cL_law 239 = .ok (.goto 330, 3) := by decide +kernel
theorem dL_law_242 : decode cL_law 242 = .ok (.aload_n 1, 1) := by decide +kernel
theorem dL_law_243 : decode cL_law 243 = .ok (.aload_n 0, 1) := by decide +kernel
theorem dL_law_244 : decode cL_law 244 = .ok (.iload_n 3, 1) := by decide +kernel
theorem dL_law_245 : decode cL_law 245 = .ok (.iconst 1, 1) := by decide +kernel
theorem dL_law_246 : decode cL_law 246 = .ok (.iadd, 1) := by decide +kernel
theorem dL_law_247 : decode cL_law 247 = .ok (.iaload, 1) := by decide +kernel
theorem dL_law_248 : decode cL_law 248 = .ok (.aload_n 0, 1) := by decide +kernel
theorem dL_law_249 : decode cL_law 249 = .ok (.iload_n 3, 1) := by decide +kernel
theorem dL_law_250 : decode cL_law 250 = .ok (.iconst 2, 1) := by decide +kernel
theorem dL_law_251 : decode cL_law 251 = .ok (.iadd, 1) := by decide +kernel
theorem dL_law_252 : decode cL_law 252 = .ok (.iaload, 1) := by decide +kernel
theorem dL_law_253 : decode cL_law 253 = .ok (.aload_n 0, 1) := by decide +kernel
theorem dL_law_254 : decode cL_law 254 = .ok (.iload_n 3, 1) := by decide +kernel
theorem dL_law_255 : decode cL_law 255 = .ok (.iconst 3, 1) := by decide +kernel
theorem dL_law_256 : decode cL_law 256 = .ok (.iadd, 1) := by decide +kernel
theorem dL_law_257 : decode cL_law 257 = .ok (.iaload, 1) := by decide +kernel
theorem dL_law_258 : decode cL_law 258 = .ok (.invokevirtual 32, 3) := by decide +kernel
theorem dL_law_261 : decode cL_law 261 = .ok (.pop, 1) := by decide +kernel
theorem dL_law_262 : decode cL_law 262 = .ok (.aload_n 2, 1) := by decide +kernel
theorem dL_law_263 : decode cL_law 263 = .ok (.aload_n 0, 1) := by decide +kernel
theorem dL_law_264 : decode cL_law 264 = .ok (.iload_n 3, 1) := by decide +kernel
theorem dL_law_265 : decode cL_law 265 = .ok (.iconst 1, 1) := by decide +kernel
theorem dL_law_266 : decode cL_law 266 = .ok (.iadd, 1) := by decide +kernel
theorem dL_law_267 : decode cL_law 267 = .ok (.iaload, 1) := by decide +kernel
theorem dL_law_268 : decode cL_law 268 = .ok (.aload_n 0, 1) := by decide +kernel
theorem dL_law_269 : decode cL_law 269 = .ok (.iload_n 3, 1) := by decide +kernel
theorem dL_law_270 : decode cL_law 270 = .ok (.iconst 2, 1) := by decide +kernel
theorem dL_law_271 : decode cL_law 271 = .ok (.iadd, 1) := by decide +kernel
theorem dL_law_272 : decode cL_law 272 = .ok (.iaload, 1) := by decide +kernel
theorem dL_law_273 : decode cL_law 273 = .ok (.aload_n 0, 1) := by decide +kernel
theorem dL_law_274 : decode cL_law 274 = .ok (.iload_n 3, 1) := by decide +kernel
theorem dL_law_275 : decode cL_law 275 = .ok (.iconst 3, 1) := by decide +kernel
theorem dL_law_276 : decode cL_law 276 = .ok (.iadd, 1) := by decide +kernel
theorem dL_law_277 : decode cL_law 277 = .ok (.iaload, 1) := by decide +kernel
theorem dL_law_278 : decode cL_law 278 = .ok (.invokevirtual 36, 3) := by decide +kernel
theorem dL_law_281 : decode cL_law 281 = .ok (.pop, 1) := by decide +kernel
theorem dL_law_282 : decode cL_law 282 = .ok (.goto 287, 3) := by decide +kernel
theorem dL_law_285 : decode cL_law 285 = .ok (.aload_n 1, 1) := by decide +kernel
theorem dL_law_286 : decode cL_law 286 = .ok (.aload_n 0, 1) := by decide +kernel
theorem dL_law_287 : decode cL_law 287 = .ok (.iload_n 3, 1) := by decide +kernel
theorem dL_law_288 : decode cL_law 288 = .ok (.iconst 1, 1) := by decide +kernel
theorem dL_law_289 : decode cL_law 289 = .ok (.iadd, 1) := by decide +kernel
theorem dL_law_290 : decode cL_law 290 = .ok (.iaload, 1) := by decide +kernel
theorem dL_law_291 : decode cL_law 291 = .ok (.aload_n 0, 1) := by decide +kernel
theorem dL_law_292 : decode cL_law 292 = .ok (.iload_n 3, 1) := by decide +kernel
theorem dL_law_293 : decode cL_law 293 = .ok (.iconst 2, 1) := by decide +kernel
theorem dL_law_294 : decode cL_law 294 = .ok (.iadd, 1) := by decide +kernel
theorem dL_law_295 : decode cL_law 295 = .ok (.iaload, 1) := by decide +kernel
theorem dL_law_296 : decode cL_law 296 = .ok (.aload_n 0, 1) := by decide +kernel
theorem dL_law_297 : decode cL_law 297 = .ok (.iload_n 3, 1) := by decide +kernel
theorem dL_law_298 : decode cL_law 298 = .ok (.iconst 3, 1) := by decide +kernel
theorem dL_law_299 : decode cL_law 299 = .ok (.iadd, 1) := by decide +kernel
theorem dL_law_300 : decode cL_law 300 = .ok (.iaload, 1) := by decide +kernel
theorem dL_law_301 : decode cL_law 301 = .ok (.aload_n 0, 1) := by decide +kernel
theorem dL_law_302 : decode cL_law 302 = .ok (.iload_n 3, 1) := by decide +kernel
theorem dL_law_303 : decode cL_law 303 = .ok (.iconst 4, 1) := by decide +kernel
theorem dL_law_304 : decode cL_law 304 = .ok (.iadd, 1) := by decide +kernel
theorem dL_law_305 : decode cL_law 305 = .ok (.iaload, 1) := by decide +kernel
theorem dL_law_306 : decode cL_law 306 = .ok (.invokevirtual 37, 3) := by decide +kernel
theorem dL_law_309 : decode cL_law 309 = .ok (.pop, 1) := by decide +kernel
theorem dL_law_310 : decode cL_law 310 = .ok (.aload_n 2, 1) := by decide +kernel
theorem dL_law_311 : decode cL_law 311 = .ok (.aload_n 0, 1) := by decide +kernel
theorem dL_law_312 : decode cL_law 312 = .ok (.iload_n 3, 1) := by decide +kernel
theorem dL_law_313 : decode cL_law 313 = .ok (.iconst 1, 1) := by decide +kernel
theorem dL_law_314 : decode cL_law 314 = .ok (.iadd, 1) := by decide +kernel
theorem dL_law_315 : decode cL_law 315 = .ok (.iaload, 1) := by decide +kernel
theorem dL_law_316 : decode cL_law 316 = .ok (.aload_n 0, 1) := by decide +kernel
theorem dL_law_317 : decode cL_law 317 = .ok (.iload_n 3, 1) := by decide +kernel
theorem dL_law_318 : decode cL_law 318 = .ok (.iconst 2, 1) := by decide +kernel
theorem dL_law_319 : decode cL_law 319 = .ok (.iadd, 1) := by decide +kernel
theorem dL_law_320 : decode cL_law 320 = .ok (.iaload, 1) := by decide +kernel
theorem dL_law_321 : decode cL_law 321 = .ok (.aload_n 0, 1) := by decide +kernel
theorem dL_law_322 : decode cL_law 322 = .ok (.iload_n 3, 1) := by decide +kernel
theorem dL_law_323 : decode cL_law 323 = .ok (.iconst 3, 1) := by decide +kernel
theorem dL_law_324 : decode cL_law 324 = .ok (.iadd, 1) := by decide +kernel
theorem dL_law_325 : decode cL_law 325 = .ok (.iaload, 1) := by decide +kernel
theorem dL_law_326 : decode cL_law 326 = .ok (.aload_n 0, 1) := by decide +kernel
theorem dL_law_327 : decode cL_law 327 = .ok (.iload_n 3, 1) := by decide +kernel
theorem dL_law_328 : decode cL_law 328 = .ok (.iconst 4, 1) := by decide +kernel
theorem dL_law_329 : decode cL_law 329 = .ok (.iadd, 1) := by decide +kernel
theorem dL_law_330 : decode cL_law 330 = .ok (.iaload, 1) := by decide +kernel
theorem dL_law_331 : decode cL_law 331 = .ok (.invokevirtual 41, 3) := by decide +kernel
theorem dL_law_334 : decode cL_law 334 = .ok (.pop, 1) := by decide +kernel
theorem dL_law_335 : decode cL_law 335 = .ok (.goto 234, 3) := by decide +kernel
theorem dL_law_338 : decode cL_law 338 = .ok (.aload_n 1, 1) := by decide +kernel
theorem dL_law_339 : decode cL_law 339 = .ok (.aload_n 0, 1) := by decide +kernel
theorem dL_law_340 : decode cL_law 340 = .ok (.iload_n 3, 1) := by decide +kernel
theorem dL_law_341 : decode cL_law 341 = .ok (.iconst 1, 1) := by decide +kernel
theorem dL_law_342 : decode cL_law 342 = .ok (.iadd, 1) := by decide +kernel
theorem dL_law_343 : decode cL_law 343 = .ok (.iaload, 1) := by decide +kernel
theorem dL_law_344 : decode cL_law 344 = .ok (.aload_n 0, 1) := by decide +kernel
theorem dL_law_345 : decode cL_law 345 = .ok (.iload_n 3, 1) := by decide +kernel
theorem dL_law_346 : decode cL_law 346 = .ok (.iconst 2, 1) := by decide +kernel
theorem dL_law_347 : decode cL_law 347 = .ok (.iadd, 1) := by decide +kernel
theorem dL_law_348 : decode cL_law 348 = .ok (.iaload, 1) := by decide +kernel
theorem dL_law_349 : decode cL_law 349 = .ok (.aload_n 0, 1) := by decide +kernel
theorem dL_law_350 : decode cL_law 350 = .ok (.iload_n 3, 1) := by decide +kernel
theorem dL_law_351 : decode cL_law 351 = .ok (.iconst 3, 1) := by decide +kernel
theorem dL_law_352 : decode cL_law 352 = .ok (.iadd, 1) := by decide +kernel
theorem dL_law_353 : decode cL_law 353 = .ok (.iaload, 1) := by decide +kernel
theorem dL_law_354 : decode cL_law 354 = .ok (.i2l, 1) := by decide +kernel
theorem dL_law_355 : decode cL_law 355 = .ok (.bipush 32, 2) := by decide +kernel
theorem dL_law_357 : decode cL_law 357 = .ok (.lshl, 1) := by decide +kernel
theorem dL_law_358 : decode cL_law 358 = .ok (.aload_n 0, 1) := by decide +kernel
theorem dL_law_359 : decode cL_law 359 = .ok (.iload_n 3, 1) := by decide +kernel
theorem dL_law_360 : decode cL_law 360 = .ok (.iconst 4, 1) := by decide +kernel
theorem dL_law_361 : decode cL_law 361 = .ok (.iadd, 1) := by decide +kernel
theorem dL_law_362 : decode cL_law 362 = .ok (.iaload, 1) := by decide +kernel
theorem dL_law_363 : decode cL_law 363 = .ok (.i2l, 1) := by decide +kernel
theorem dL_law_364 : decode cL_law 364 = .ok (.ldc2_w 42, 3) := by decide +kernel
theorem dL_law_367 : decode cL_law 367 = .ok (.land, 1) := by decide +kernel
theorem dL_law_368 : decode cL_law 368 = .ok (.lor, 1) := by decide +kernel
theorem dL_law_369 : decode cL_law 369 = .ok (.invokevirtual 44, 3) := by decide +kernel
theorem dL_law_372 : decode cL_law 372 = .ok (.pop, 1) := by decide +kernel
theorem dL_law_373 : decode cL_law 373 = .ok (.aload_n 2, 1) := by decide +kernel
theorem dL_law_374 : decode cL_law 374 = .ok (.aload_n 0, 1) := by decide +kernel
theorem dL_law_375 : decode cL_law 375 = .ok (.iload_n 3, 1) := by decide +kernel
theorem dL_law_376 : decode cL_law 376 = .ok (.iconst 1, 1) := by decide +kernel
theorem dL_law_377 : decode cL_law 377 = .ok (.iadd, 1) := by decide +kernel
theorem dL_law_378 : decode cL_law 378 = .ok (.iaload, 1) := by decide +kernel
theorem dL_law_379 : decode cL_law 379 = .ok (.aload_n 0, 1) := by decide +kernel
theorem dL_law_380 : decode cL_law 380 = .ok (.iload_n 3, 1) := by decide +kernel
theorem dL_law_381 : decode cL_law 381 = .ok (.iconst 2, 1) := by decide +kernel
theorem dL_law_382 : decode cL_law 382 = .ok (.iadd, 1) := by decide +kernel
theorem dL_law_383 : decode cL_law 383 = .ok (.iaload, 1) := by decide +kernel
theorem dL_law_384 : decode cL_law 384 = .ok (.aload_n 0, 1) := by decide +kernel
theorem dL_law_385 : decode cL_law 385 = .ok (.iload_n 3, 1) := by decide +kernel
theorem dL_law_386 : decode cL_law 386 = .ok (.iconst 3, 1) := by decide +kernel
theorem dL_law_387 : decode cL_law 387 = .ok (.iadd, 1) := by decide +kernel
theorem dL_law_388 : decode cL_law 388 = .ok (.iaload, 1) := by decide +kernel
theorem dL_law_389 : decode cL_law 389 = .ok (.i2l, 1) := by decide +kernel
theorem dL_law_390 : decode cL_law 390 = .ok (.bipush 32, 2) := by decide +kernel
theorem dL_law_392 : decode cL_law 392 = .ok (.lshl, 1) := by decide +kernel
theorem dL_law_393 : decode cL_law 393 = .ok (.aload_n 0, 1) := by decide +kernel
theorem dL_law_394 : decode cL_law 394 = .ok (.iload_n 3, 1) := by decide +kernel
theorem dL_law_395 : decode cL_law 395 = .ok (.iconst 4, 1) := by decide +kernel
theorem dL_law_396 : decode cL_law 396 = .ok (.iadd, 1) := by decide +kernel
theorem dL_law_397 : decode cL_law 397 = .ok (.iaload, 1) := by decide +kernel
theorem dL_law_398 : decode cL_law 398 = .ok (.i2l, 1) := by decide +kernel
theorem dL_law_399 : decode cL_law 399 = .ok (.ldc2_w 42, 3) := by decide +kernel
theorem dL_law_402 : decode cL_law 402 = .ok (.land, 1) := by decide +kernel
theorem dL_law_403 : decode cL_law 403 = .ok (.lor, 1) := by decide +kernel
theorem dL_law_404 : decode cL_law 404 = .ok (.invokevirtual 48, 3) := by decide +kernel
theorem dL_law_407 : decode cL_law 407 = .ok (.pop, 1) := by decide +kernel
theorem dL_law_408 : decode cL_law 408 = .ok (.goto 161, 3) := by decide +kernel
theorem dL_law_411 : decode cL_law 411 = .ok (.aload_n 1, 1) := by decide +kernel
theorem dL_law_412 : decode cL_law 412 = .ok (.aload_n 0, 1) := by decide +kernel
theorem dL_law_413 : decode cL_law 413 = .ok (.iload_n 3, 1) := by decide +kernel
theorem dL_law_414 : decode cL_law 414 = .ok (.iconst 1, 1) := by decide +kernel
theorem dL_law_415 : decode cL_law 415 = .ok (.iadd, 1) := by decide +kernel
theorem dL_law_416 : decode cL_law 416 = .ok (.iaload, 1) := by decide +kernel
theorem dL_law_417 : decode cL_law 417 = .ok (.invokevirtual 49, 3) := by decide +kernel
theorem dL_law_420 : decode cL_law 420 = .ok (.pop, 1) := by decide +kernel
theorem dL_law_421 : decode cL_law 421 = .ok (.aload_n 2, 1) := by decide +kernel
theorem dL_law_422 : decode cL_law 422 = .ok (.aload_n 0, 1) := by decide +kernel
theorem dL_law_423 : decode cL_law 423 = .ok (.iload_n 3, 1) := by decide +kernel
theorem dL_law_424 : decode cL_law 424 = .ok (.iconst 1, 1) := by decide +kernel
theorem dL_law_425 : decode cL_law 425 = .ok (.iadd, 1) := by decide +kernel
theorem dL_law_426 : decode cL_law 426 = .ok (.iaload, 1) := by decide +kernel
theorem dL_law_427 : decode cL_law 427 = .ok (.invokevirtual 53, 3) := by decide +kernel
theorem dL_law_430 : decode cL_law 430 = .ok (.pop, 1) := by decide +kernel
theorem dL_law_431 : decode cL_law 431 = .ok (.goto 138, 3) := by decide +kernel
theorem dL_law_434 : decode cL_law 434 = .ok (.aload_n 1, 1) := by decide +kernel
theorem dL_law_435 : decode cL_law 435 = .ok (.invokevirtual 54, 3) := by decide +kernel
theorem dL_law_438 : decode cL_law 438 = .ok (.pop2, 1) := by decide +kernel
theorem dL_law_439 : decode cL_law 439 = .ok (.aload_n 2, 1) := by decide +kernel
theorem dL_law_440 : decode cL_law 440 = .ok (.invokevirtual 58, 3) := by decide +kernel
theorem dL_law_443 : decode cL_law 443 = .ok (.pop2, 1) := by decide +kernel
theorem dL_law_444 : decode cL_law 444 = .ok (.goto 125, 3) := by decide +kernel
theorem dL_law_447 : decode cL_law 447 = .ok (.aload_n 1, 1) := by decide +kernel
theorem dL_law_448 : decode cL_law 448 = .ok (.aload_n 0, 1) := by decide +kernel
theorem dL_law_449 : decode cL_law 449 = .ok (.iload_n 3, 1) := by decide +kernel
theorem dL_law_450 : decode cL_law 450 = .ok (.iconst 1, 1) := by decide +kernel
theorem dL_law_451 : decode cL_law 451 = .ok (.iadd, 1) := by decide +kernel
theorem dL_law_452 : decode cL_law 452 = .ok (.iaload, 1) := by decide +kernel
theorem dL_law_453 : decode cL_law 453 = .ok (.invokevirtual 59, 3) := by decide +kernel
theorem dL_law_456 : decode cL_law 456 = .ok (.pop2, 1) := by decide +kernel
theorem dL_law_457 : decode cL_law 457 = .ok (.aload_n 2, 1) := by decide +kernel
theorem dL_law_458 : decode cL_law 458 = .ok (.aload_n 0, 1) := by decide +kernel
theorem dL_law_459 : decode cL_law 459 = .ok (.iload_n 3, 1) := by decide +kernel
theorem dL_law_460 : decode cL_law 460 = .ok (.iconst 1, 1) := by decide +kernel
theorem dL_law_461 : decode cL_law 461 = .ok (.iadd, 1) := by decide +kernel
theorem dL_law_462 : decode cL_law 462 = .ok (.iaload, 1) := by decide +kernel
theorem dL_law_463 : decode cL_law 463 = .ok (.invokevirtual 63, 3) := by decide +kernel
theorem dL_law_466 : decode cL_law 466 = .ok (.pop2, 1) := by decide +kernel
theorem dL_law_467 : decode cL_law 467 = .ok (.goto 102, 3) := by decide +kernel
theorem dL_law_470 : decode cL_law 470 = .ok (.aload_n 1, 1) := by decide +kernel
theorem dL_law_471 : decode cL_law 471 = .ok (.aload_n 0, 1) := by decide +kernel
theorem dL_law_472 : decode cL_law 472 = .ok (.iload_n 3, 1) := by decide +kernel
theorem dL_law_473 : decode cL_law 473 = .ok (.iconst 1, 1) := by decide +kernel
theorem dL_law_474 : decode cL_law 474 = .ok (.iadd, 1) := by decide +kernel
theorem dL_law_475 : decode cL_law 475 = .ok (.iaload, 1) := by decide +kernel
theorem dL_law_476 : decode cL_law 476 = .ok (.invokevirtual 64, 3) := by decide +kernel
theorem dL_law_479 : decode cL_law 479 = .ok (.pop, 1) := by decide +kernel
theorem dL_law_480 : decode cL_law 480 = .ok (.aload_n 2, 1) := by decide +kernel
theorem dL_law_481 : decode cL_law 481 = .ok (.aload_n 0, 1) := by decide +kernel
theorem dL_law_482 : decode cL_law 482 = .ok (.iload_n 3, 1) := by decide +kernel
theorem dL_law_483 : decode cL_law 483 = .ok (.iconst 1, 1) := by decide +kernel
theorem dL_law_484 : decode cL_law 484 = .ok (.iadd, 1) := by decide +kernel
theorem dL_law_485 : decode cL_law 485 = .ok (.iaload, 1) := by decide +kernel
theorem dL_law_486 : decode cL_law 486 = .ok (.invokevirtual 67, 3) := by decide +kernel
theorem dL_law_489 : decode cL_law 489 = .ok (.pop, 1) := by decide +kernel
theorem dL_law_490 : decode cL_law 490 = .ok (.goto 79, 3) := by decide +kernel
theorem dL_law_493 : decode cL_law 493 = .ok (.aload_n 1, 1) := by decide +kernel
theorem dL_law_494 : decode cL_law 494 = .ok (.aload_n 0, 1) := by decide +kernel
theorem dL_law_495 : decode cL_law 495 = .ok (.iload_n 3, 1) := by decide +kernel
theorem dL_law_496 : decode cL_law 496 = .ok (.iconst 1, 1) := by decide +kernel
theorem dL_law_497 : decode cL_law 497 = .ok (.iadd, 1) := by decide +kernel
theorem dL_law_498 : decode cL_law 498 = .ok (.iaload, 1) := by decide +kernel
theorem dL_law_499 : decode cL_law 499 = .ok (.aload_n 0, 1) := by decide +kernel
theorem dL_law_500 : decode cL_law 500 = .ok (.iload_n 3, 1) := by decide +kernel
theorem dL_law_501 : decode cL_law 501 = .ok (.iconst 2, 1) := by decide +kernel
theorem dL_law_502 : decode cL_law 502 = .ok (.iadd, 1) := by decide +kernel
theorem dL_law_503 : decode cL_law 503 = .ok (.iaload, 1) := by decide +kernel
theorem dL_law_504 : decode cL_law 504 = .ok (.invokevirtual 68, 3) := by decide +kernel
theorem dL_law_507 : decode cL_law 507 = .ok (.pop, 1) := by decide +kernel
theorem dL_law_508 : decode cL_law 508 = .ok (.aload_n 2, 1) := by decide +kernel
theorem dL_law_509 : decode cL_law 509 = .ok (.aload_n 0, 1) := by decide +kernel
theorem dL_law_510 : decode cL_law 510 = .ok (.iload_n 3, 1) := by decide +kernel
theorem dL_law_511 : decode cL_law 511 = .ok (.iconst 1, 1) := by decide +kernel
theorem dL_law_512 : decode cL_law 512 = .ok (.iadd, 1) := by decide +kernel
theorem dL_law_513 : decode cL_law 513 = .ok (.iaload, 1) := by decide +kernel
theorem dL_law_514 : decode cL_law 514 = .ok (.aload_n 0, 1) := by decide +kernel
theorem dL_law_515 : decode cL_law 515 = .ok (.iload_n 3, 1) := by decide +kernel
theorem dL_law_516 : decode cL_law 516 = .ok (.iconst 2, 1) := by decide +kernel
theorem dL_law_517 : decode cL_law 517 = .ok (.iadd, 1) := by decide +kernel
theorem dL_law_518 : decode cL_law 518 = .ok (.iaload, 1) := by decide +kernel
theorem dL_law_519 : decode cL_law 519 = .ok (.invokevirtual 71, 3) := by decide +kernel
theorem dL_law_522 : decode cL_law 522 = .ok (.pop, 1) := by decide +kernel
theorem dL_law_523 : decode cL_law 523 = .ok (.goto 46, 3) := by decide +kernel
theorem dL_law_526 : decode cL_law 526 = .ok (.aload_n 1, 1) := by decide +kernel
theorem dL_law_527 : decode cL_law 527 = .ok (.aload_n 0, 1) := by decide +kernel
theorem dL_law_528 : decode cL_law 528 = .ok (.iload_n 3, 1) := by decide +kernel
theorem dL_law_529 : decode cL_law 529 = .ok (.iconst 1, 1) := by decide +kernel
theorem dL_law_530 : decode cL_law 530 = .ok (.iadd, 1) := by decide +kernel
theorem dL_law_531 : decode cL_law 531 = .ok (.iaload, 1) := by decide +kernel
theorem dL_law_532 : decode cL_law 532 = .ok (.aload_n 0, 1) := by decide +kernel
theorem dL_law_533 : decode cL_law 533 = .ok (.iload_n 3, 1) := by decide +kernel
theorem dL_law_534 : decode cL_law 534 = .ok (.iconst 2, 1) := by decide +kernel
theorem dL_law_535 : decode cL_law 535 = .ok (.iadd, 1) := by decide +kernel
theorem dL_law_536 : decode cL_law 536 = .ok (.iaload, 1) := by decide +kernel
theorem dL_law_537 : decode cL_law 537 = .ok (.aload_n 0, 1) := by decide +kernel
theorem dL_law_538 : decode cL_law 538 = .ok (.iload_n 3, 1) := by decide +kernel
theorem dL_law_539 : decode cL_law 539 = .ok (.iconst 3, 1) := by decide +kernel
theorem dL_law_540 : decode cL_law 540 = .ok (.iadd, 1) := by decide +kernel
theorem dL_law_541 : decode cL_law 541 = .ok (.iaload, 1) := by decide +kernel
theorem dL_law_542 : decode cL_law 542 = .ok (.invokevirtual 72, 3) := by decide +kernel
theorem dL_law_545 : decode cL_law 545 = .ok (.pop, 1) := by decide +kernel
theorem dL_law_546 : decode cL_law 546 = .ok (.aload_n 2, 1) := by decide +kernel
theorem dL_law_547 : decode cL_law 547 = .ok (.aload_n 0, 1) := by decide +kernel
theorem dL_law_548 : decode cL_law 548 = .ok (.iload_n 3, 1) := by decide +kernel
theorem dL_law_549 : decode cL_law 549 = .ok (.iconst 1, 1) := by decide +kernel
theorem dL_law_550 : decode cL_law 550 = .ok (.iadd, 1) := by decide +kernel
theorem dL_law_551 : decode cL_law 551 = .ok (.iaload, 1) := by decide +kernel
theorem dL_law_552 : decode cL_law 552 = .ok (.aload_n 0, 1) := by decide +kernel
theorem dL_law_553 : decode cL_law 553 = .ok (.iload_n 3, 1) := by decide +kernel
theorem dL_law_554 : decode cL_law 554 = .ok (.iconst 2, 1) := by decide +kernel
theorem dL_law_555 : decode cL_law 555 = .ok (.iadd, 1) := by decide +kernel
theorem dL_law_556 : decode cL_law 556 = .ok (.iaload, 1) := by decide +kernel
theorem dL_law_557 : decode cL_law 557 = .ok (.aload_n 0, 1) := by decide +kernel
theorem dL_law_558 : decode cL_law 558 = .ok (.iload_n 3, 1) := by decide +kernel
theorem dL_law_559 : decode cL_law 559 = .ok (.iconst 3, 1) := by decide +kernel
theorem dL_law_560 : decode cL_law 560 = .ok (.iadd, 1) := by decide +kernel
theorem dL_law_561 : decode cL_law 561 = .ok (.iaload, 1) := by decide +kernel
theorem dL_law_562 : decode cL_law 562 = .ok (.invokevirtual 76, 3) := by decide +kernel
theorem dL_law_565 : decode cL_law 565 = .ok (.pop, 1) := by decide +kernel
theorem dL_law_566 : decode cL_law 566 = .ok (.goto 3, 3) := by decide +kernel
theorem dL_law_569 : decode cL_law 569 = .ok (.iinc 3 6, 3) := by decide +kernel
theorem dL_law_572 : decode cL_law 572 = .ok (.goto (-554), 3) := by decide +kernel
theorem dL_law_575 : decode cL_law 575 = .ok (.iconst 1, 1) := by decide +kernel
theorem dL_law_576 : decode cL_law 576 = .ok (.ireturn, 1) := by decide +kernel
theorem CI.f6 {K : List Int} {μ ν : M3} (h : CI μ) (F : Fr K μ ν) (h1 : npL K = true) (h2 : ν.1 0 6 = μ.1 0 6) (h3 : 12 ∉ K) (h4 : 70 ∉ K) : CI ν := by
  obtain ⟨⟨hh, cc, dd, a⟩, b, c, d⟩ := h
  refine ⟨⟨hh, cc, dd, a.fr F h1⟩, b.fr F h1, ?_, by rw [F.1 70 h4]; exact d⟩
  unfold DI at *
  simp only [h2, F.1 12 h3]
  exact c
theorem hi_ {K : List Int} (hK : (K.all fun a => decide (111 ≤ a)) = true) {a : Int} (ha : a < 111) : a ∉ K := fun q => by
  have h := of_decide_eq_true (List.all_eq_true.mp hK a q)
  omega
theorem lo_ {K : List Int} (hK : (K.all fun a => decide (a < 111)) = true) {a : Int} (ha : 111 ≤ a) : a ∉ K := fun q => by
  have h := of_decide_eq_true (List.all_eq_true.mp hK a q)
  omega
theorem npL_hi {K : List Int} (hK : (K.all fun a => decide (111 ≤ a)) = true) : npL K = true := by
  have e : ∀ a : Int, a < 111 → a ∉ K := fun a ha => hi_ hK ha
  unfold npL
  simp [e]
theorem IC.rf {K : List Int} {μ ν : M3} (h : IC μ) (F : FrM K μ ν) (hK : (K.all fun a => decide (111 ≤ a)) = true) : IC ν := by
  have e : ∀ a, a < 111 → ∀ j, ν.1 a j = μ.1 a j := fun a ha => F.1 a (hi_ hK ha)
  refine IC.mk2 h F.2 (fun r hr => e r (by rcases hr with h | h | h | h | h | h | h | h | h | h <;> omega) 3) (fun p hp => ⟨e p (by rcases hp with h | h | h | h | h <;> omega) 1, e p (by rcases hp with h | h | h | h | h <;> omega) 7⟩) ?_
  have hn := h.nm
  unfold nums at *
  simp only [e 0 (by decide), e 2 (by decide), e 6 (by decide), e 52 (by decide), e 60 (by decide), e 45 (by decide), e 23 (by decide), e 26 (by decide), F.2]
  exact hn
theorem CI.rf {K : List Int} {μ ν : M3} (h : CI μ) (F : FrM K μ ν) (hK : (K.all fun a => decide (111 ≤ a)) = true) : CI ν := CI.f6 h F.fr (npL_hi hK) (F.1 0 (hi_ hK (by decide)) 6) (hi_ hK (by decide)) (hi_ hK (by decide))
theorem CIr.cl {K : List Int} {μ ν : M3} (h : CIr μ) (F : Fr K μ ν) (hK : (K.all fun a => decide (a < 111)) = true) : CIr ν := by
  have e : ∀ a, 111 ≤ a → ∀ j, ν.1 a j = μ.1 a j := fun a ha => F.1 a (lo_ hK ha)
  refine CIr.mv h (fun a ha j => e a ((by decide : ∀ a ∈ ([114, 115, 116, 117, 119, 120, 121, 122, 144, 145, 146, 147, 148, 149, 150, 151, 152, 156, 157, 158, 159, 163, 165, 166] : List Int), (111 : Int) ≤ a) a ha) j) (fun k _ => e 111 (by decide) k) ?_
  rw [e 111 (by decide) 2]
  exact h.n.2.1
theorem rule_eq {r1 r2 : Int} {P : Prop} (h1 : (r1 = 1 ∧ P) ∨ (r1 = 0 ∧ ¬ P)) (h2 : (r2 = 1 ∧ P) ∨ (r2 = 0 ∧ ¬ P)) : r1 = r2 := by
  rcases h1 with ⟨u, v⟩ | ⟨u, v⟩ <;> rcases h2 with ⟨x, y⟩ | ⟨x, y⟩
  · omega
  · exact absurd v y
  · exact absurd y v
  · omega
theorem fa_and (a b : Nat) : nI a &&& nI b = nI (a &&& b) := by
  apply Int32.toBitVec_inj.1
  show BitVec.ofNat 32 a &&& BitVec.ofNat 32 b = BitVec.ofNat 32 (a &&& b)
  apply BitVec.eq_of_getLsbD_eq
  intro i hi
  simp [hi]
theorem and15 (x : Int32) : ∃ j, j < 16 ∧ x &&& 15 = nI j := by
  have e : x = nI x.toBitVec.toNat := by
    apply Int32.toBitVec_inj.1
    show x.toBitVec = BitVec.ofNat 32 x.toBitVec.toNat
    simp
  refine ⟨x.toBitVec.toNat % 16, Nat.mod_lt _ (by omega), ?_⟩
  have h : nI x.toBitVec.toNat &&& nI (2 ^ 4 - 1) = nI (x.toBitVec.toNat % 2 ^ 4) := by rw [fa_and, Nat.and_two_pow_sub_one_eq_mod]
  rw [← e] at h
  exact h
set_option maxHeartbeats 4000000 in
set_option maxRecDepth 100000 in
theorem law6_0 {p : Program} {l : Launch} {e : Env} {s : State} {m : MethodId} {below : List Frame} {meth : Method} {c : Code} {b L : Nat} {xs : Nat → Int32} {ω : Om} (C0 : lw_At p s m meth c b L xs) (hL : (L : Int) ≤ 3072) (hoB : oB ω = s.heap.size) {i : Int} (hi : 0 ≤ i ∧ i + 6 ≤ (L : Int)) {ρ : Int → Nat} {μ : M3} {d0 : Drawn} {H : Heap} {locs : List Loc} {ls : Array Slot} (G : Gd ω ρ μ p m c cL_law 4 s #[Value.ref b] RL d0 room_1 H locs) (hI : IC μ) (hCI : CI μ) (hCr : CIr μ) (hT : μ.1 0 1 = μ.1 111 2) (hl : lv_has ls 4 [(3, .int (iv i)), (2, .ref (oP ω 111)), (1, .ref (oP ω 0)), (0, .ref b)]) (kk : ∀ (ρ : Int → Nat) (μ : M3) (d0 : Drawn) (H : Heap) (locs : List Loc), Gd ω ρ μ p m c cL_law 4 s #[Value.ref b] RL d0 room_1 H locs → IC μ → CI μ → CIr μ → μ.1 0 1 = μ.1 111 2 → WT p l e room_1 s d0 m #[Value.ref b] below meth c H locs (lw_Z below #[Value.ref b] s) (F0 m 569 ls [])) : WT p l e room_1 s d0 m #[Value.ref b] below meth c H locs (lw_Z below #[Value.ref b] s) (F0 m 100 ls []) := by
  have hx := G.1.1
  have hb := G.1.2.1
  have hR : room_1.frames = 2048 ∧ room_1.locals = 84000 := ⟨rfl, rfl⟩
  obtain ⟨-, -, hr, hml, hown, hts, hX, hbl, hlocks, hgv⟩ := id C0
  have hbA : ¬ Aw ω b := by show ¬ oB ω ≤ b; omega
  refine lv_aload_n hx hb dL_law_100 rfl (lv_at hl 2 rfl) ?_
  refine lv_aload_n hx hb dL_law_101 rfl (lv_at hl 3 rfl) ?_
  refine lv_iload_n hx hb dL_law_102 rfl (lv_at hl 0 rfl) ?_
  refine lv_iconst (v := iv 1) hx hb dL_law_103 rfl ?_
  refine xb_iadd hx hb dL_law_104 ?_
  refine va_sld (s := s.setDrawn d0) hx hb hX hbl hbA G.2.2.2.1 (iv_in (x := i + 1) (n := (L : Int)) (by omega) (by omega)) dL_law_105 ?_
  refine xb_topi (fun y_1 hr_y_1 he_y_1 => ?_)
  have hr_y_1 : -2147483648 ≤ y_1 ∧ y_1 ≤ 2147483647 := hr_y_1
  refine lv_aload_n hx hb dL_law_106 rfl (lv_at hl 3 rfl) ?_
  refine lv_iload_n hx hb dL_law_107 rfl (lv_at hl 0 rfl) ?_
  refine lv_iconst (v := iv 2) hx hb dL_law_108 rfl ?_
  refine xb_iadd hx hb dL_law_109 ?_
  refine va_sld (s := s.setDrawn d0) hx hb hX hbl hbA G.2.2.2.1 (iv_in (x := i + 2) (n := (L : Int)) (by omega) (by omega)) dL_law_110 ?_
  refine xb_topi (fun y_2 hr_y_2 he_y_2 => ?_)
  have hr_y_2 : -2147483648 ≤ y_2 ∧ y_2 ≤ 2147483647 := hr_y_2
  refine lv_aload_n hx hb dL_law_111 rfl (lv_at hl 3 rfl) ?_
  refine lv_iload_n hx hb dL_law_112 rfl (lv_at hl 0 rfl) ?_
  refine lv_iconst (v := iv 3) hx hb dL_law_113 rfl ?_
  refine xb_iadd hx hb dL_law_114 ?_
  refine va_sld (s := s.setDrawn d0) hx hb hX hbl hbA G.2.2.2.1 (iv_in (x := i + 3) (n := (L : Int)) (by omega) (by omega)) dL_law_115 ?_
  refine xb_topi (fun y_3 hr_y_3 he_y_3 => ?_)
  have hr_y_3 : -2147483648 ≤ y_3 ∧ y_3 ≤ 2147483647 := hr_y_3
  refine lv_aload_n hx hb dL_law_116 rfl (lv_at hl 3 rfl) ?_
  refine lv_iload_n hx hb dL_law_117 rfl (lv_at hl 0 rfl) ?_
  refine lv_iconst (v := iv 4) hx hb dL_law_118 rfl ?_
  refine xb_iadd hx hb dL_law_119 ?_
  refine va_sld (s := s.setDrawn d0) hx hb hX hbl hbA G.2.2.2.1 (iv_in (x := i + 4) (n := (L : Int)) (by omega) (by omega)) dL_law_120 ?_
  refine xb_topi (fun y_4 hr_y_4 he_y_4 => ?_)
  have hr_y_4 : -2147483648 ≤ y_4 ∧ y_4 ≤ 2147483647 := hr_y_4
  refine lv_aload_n hx hb dL_law_121 rfl (lv_at hl 3 rfl) ?_
  refine lv_iload_n hx hb dL_law_122 rfl (lv_at hl 0 rfl) ?_
  refine lv_iconst (v := iv 5) hx hb dL_law_123 rfl ?_
  refine xb_iadd hx hb dL_law_124 ?_
  refine va_sld (s := s.setDrawn d0) hx hb hX hbl hbA G.2.2.2.1 (iv_in (x := i + 5) (n := (L : Int)) (by omega) (by omega)) dL_law_125 ?_
  refine xb_topi (fun y_5 hr_y_5 he_y_5 => ?_)
  have hr_y_5 : -2147483648 ≤ y_5 ∧ y_5 ≤ 2147483647 := hr_y_5
  refine xc_iV G (b := 0) (rest := []) (As := [.int (iv y_1), .int (iv y_2), .int (iv y_3), .int (iv y_4), .int (iv y_5)]) (c_X11_feed ω l μ y_1 y_2 y_3 y_4 y_5 _ (by unfold ir; omega) (by unfold ir; omega) (by unfold ir; omega) (by unfold ir; omega) (by unfold ir; omega) hI rfl) (wm 2 224 rfl rfl) (wm 2 225 rfl rfl) (wm 2 226 rfl rfl) rfl rfl (by decide) rfl (wm 1 1 rfl rfl) (wm 2 227 rfl rfl) (by decide) hR (by decide) (n := 5) rfl rfl (Nat.le_of_ble_eq_true rfl) hl.1 dL_law_126 (fun r_7 μ6 ρ d0 H locs hr_r_7 hp G => ?_)
  obtain ⟨hp_8, hp_9, hp_10, hp_11, hp_12⟩ := hp
  have hI_13 : IC μ6 := hp_9
  have hCI_14 : CI μ6 := CI.f6 hCI hp_8 (by decide) hp_12 (by decide) (by decide)
  have hCr_15 : CIr μ6 := CIr.cl hCr hp_8 (by decide)
  have tm_16 : μ6.1 111 2 = μ.1 111 2 := hp_8.1 111 (by decide) 2
  have hr_r_7 : -2147483648 ≤ r_7 ∧ r_7 ≤ 2147483647 := hr_r_7
  refine lv_aload_n hx hb dL_law_129 rfl (lv_at hl 1 rfl) ?_
  refine lv_aload_n hx hb dL_law_130 rfl (lv_at hl 3 rfl) ?_
  refine lv_iload_n hx hb dL_law_131 rfl (lv_at hl 0 rfl) ?_
  refine lv_iconst (v := iv 1) hx hb dL_law_132 rfl ?_
  refine xb_iadd hx hb dL_law_133 ?_
  refine va_sld (s := s.setDrawn d0) hx hb hX hbl hbA G.2.2.2.1 (iv_in (x := i + 1) (n := (L : Int)) (by omega) (by omega)) dL_law_134 ?_
  refine my_ti (v := iv y_1) he_y_1.symm ?_
  refine lv_aload_n hx hb dL_law_135 rfl (lv_at hl 3 rfl) ?_
  refine lv_iload_n hx hb dL_law_136 rfl (lv_at hl 0 rfl) ?_
  refine lv_iconst (v := iv 2) hx hb dL_law_137 rfl ?_
  refine xb_iadd hx hb dL_law_138 ?_
  refine va_sld (s := s.setDrawn d0) hx hb hX hbl hbA G.2.2.2.1 (iv_in (x := i + 2) (n := (L : Int)) (by omega) (by omega)) dL_law_139 ?_
  refine my_ti (v := iv y_2) he_y_2.symm ?_
  refine lv_aload_n hx hb dL_law_140 rfl (lv_at hl 3 rfl) ?_
  refine lv_iload_n hx hb dL_law_141 rfl (lv_at hl 0 rfl) ?_
  refine lv_iconst (v := iv 3) hx hb dL_law_142 rfl ?_
  refine xb_iadd hx hb dL_law_143 ?_
  refine va_sld (s := s.setDrawn d0) hx hb hX hbl hbA G.2.2.2.1 (iv_in (x := i + 3) (n := (L : Int)) (by omega) (by omega)) dL_law_144 ?_
  refine my_ti (v := iv y_3) he_y_3.symm ?_
  refine lv_aload_n hx hb dL_law_145 rfl (lv_at hl 3 rfl) ?_
  refine lv_iload_n hx hb dL_law_146 rfl (lv_at hl 0 rfl) ?_
  refine lv_iconst (v := iv 4) hx hb dL_law_147 rfl ?_
  refine xb_iadd hx hb dL_law_148 ?_
  refine va_sld (s := s.setDrawn d0) hx hb hX hbl hbA G.2.2.2.1 (iv_in (x := i + 4) (n := (L : Int)) (by omega) (by omega)) dL_law_149 ?_
  refine my_ti (v := iv y_4) he_y_4.symm ?_
  refine lv_aload_n hx hb dL_law_150 rfl (lv_at hl 3 rfl) ?_
  refine lv_iload_n hx hb dL_law_151 rfl (lv_at hl 0 rfl) ?_
  refine lv_iconst (v := iv 5) hx hb dL_law_152 rfl ?_
  refine xb_iadd hx hb dL_law_153 ?_
  refine va_sld (s := s.setDrawn d0) hx hb hX hbl hbA G.2.2.2.1 (iv_in (x := i + 5) (n := (L : Int)) (by omega) (by omega)) dL_law_154 ?_
  refine my_ti (v := iv y_5) he_y_5.symm ?_
  refine xc_iV G (b := 111) (rest := [.int (iv r_7)]) (As := [.int (iv y_1), .int (iv y_2), .int (iv y_3), .int (iv y_4), .int (iv y_5)]) (c_X12_feed ω l μ6 y_1 y_2 y_3 y_4 y_5 (by unfold ir; omega) (by unfold ir; omega) (by unfold ir; omega) (by unfold ir; omega) (by unfold ir; omega) hCr_15) (wm 8 232 rfl rfl) (wm 8 233 rfl rfl) (wm 8 234 rfl rfl) rfl rfl (by decide) rfl (wm 1 18 rfl rfl) (wm 8 235 rfl rfl) (by decide) hR (by decide) (n := 5) rfl rfl (Nat.le_of_ble_eq_true rfl) hl.1 dL_law_155 (fun r_18 μ17 ρ d0 H locs hr_r_18 hp G => ?_)
  obtain ⟨hp_19, hp_20, hp_21, hp_22⟩ := hp
  have hI_23 : IC μ17 := IC.rf hI_13 hp_19 (by decide)
  have hCI_24 : CI μ17 := CI.rf hCI_14 hp_19 (by decide)
  have hCr_25 : CIr μ17 := hp_21
  have tx_26 : μ17.1 0 1 = μ6.1 0 1 := hp_19.1 0 (by decide) 1
  have hr_r_18 : -2147483648 ≤ r_18 ∧ r_18 ≤ 2147483647 := hr_r_18
  have eq9 : r_7 = r_18 := by omega
  refine xb_icmp_eq (tgt := 569) hx hb (by unfold ir; omega) (by unfold ir; omega) dL_law_158 (by decide) (fun c_158 => ?_) (fun c_158 => absurd eq9 c_158)
  have hT9 : μ17.1 0 1 = μ17.1 111 2 := by omega
  exact kk _ _ _ _ _ G hI_23 hCI_24 hCr_25 hT9
set_option maxHeartbeats 4000000 in
set_option maxRecDepth 100000 in
theorem law6_1 {p : Program} {l : Launch} {e : Env} {s : State} {m : MethodId} {below : List Frame} {meth : Method} {c : Code} {b L : Nat} {xs : Nat → Int32} {ω : Om} (C0 : lw_At p s m meth c b L xs) (hL : (L : Int) ≤ 3072) (hoB : oB ω = s.heap.size) {i : Int} (hi : 0 ≤ i ∧ i + 6 ≤ (L : Int)) {ρ : Int → Nat} {μ : M3} {d0 : Drawn} {H : Heap} {locs : List Loc} {ls : Array Slot} (G : Gd ω ρ μ p m c cL_law 4 s #[Value.ref b] RL d0 room_1 H locs) (hI : IC μ) (hCI : CI μ) (hCr : CIr μ) (hT : μ.1 0 1 = μ.1 111 2) (hl : lv_has ls 4 [(3, .int (iv i)), (2, .ref (oP ω 111)), (1, .ref (oP ω 0)), (0, .ref b)]) (kk : ∀ (ρ : Int → Nat) (μ : M3) (d0 : Drawn) (H : Heap) (locs : List Loc), Gd ω ρ μ p m c cL_law 4 s #[Value.ref b] RL d0 room_1 H locs → IC μ → CI μ → CIr μ → μ.1 0 1 = μ.1 111 2 → WT p l e room_1 s d0 m #[Value.ref b] below meth c H locs (lw_Z below #[Value.ref b] s) (F0 m 569 ls [])) : WT p l e room_1 s d0 m #[Value.ref b] below meth c H locs (lw_Z below #[Value.ref b] s) (F0 m 163 ls []) := by
  have hx := G.1.1
  have hb := G.1.2.1
  have hR : room_1.frames = 2048 ∧ room_1.locals = 84000 := ⟨rfl, rfl⟩
  obtain ⟨-, -, hr, hml, hown, hts, hX, hbl, hlocks, hgv⟩ := id C0
  have hbA : ¬ Aw ω b := by show ¬ oB ω ≤ b; omega
  refine lv_aload_n hx hb dL_law_163 rfl (lv_at hl 2 rfl) ?_
  refine lv_aload_n hx hb dL_law_164 rfl (lv_at hl 3 rfl) ?_
  refine lv_iload_n hx hb dL_law_165 rfl (lv_at hl 0 rfl) ?_
  refine lv_iconst (v := iv 1) hx hb dL_law_166 rfl ?_
  refine xb_iadd hx hb dL_law_167 ?_
  refine va_sld (s := s.setDrawn d0) hx hb hX hbl hbA G.2.2.2.1 (iv_in (x := i + 1) (n := (L : Int)) (by omega) (by omega)) dL_law_168 ?_
  refine xb_topi (fun y_1 hr_y_1 he_y_1 => ?_)
  have hr_y_1 : -2147483648 ≤ y_1 ∧ y_1 ≤ 2147483647 := hr_y_1
  refine lv_aload_n hx hb dL_law_169 rfl (lv_at hl 3 rfl) ?_
  refine lv_iload_n hx hb dL_law_170 rfl (lv_at hl 0 rfl) ?_
  refine lv_iconst (v := iv 2) hx hb dL_law_171 rfl ?_
  refine xb_iadd hx hb dL_law_172 ?_
  refine va_sld (s := s.setDrawn d0) hx hb hX hbl hbA G.2.2.2.1 (iv_in (x := i + 2) (n := (L : Int)) (by omega) (by omega)) dL_law_173 ?_
  refine xb_topi (fun y_2 hr_y_2 he_y_2 => ?_)
  have hr_y_2 : -2147483648 ≤ y_2 ∧ y_2 ≤ 2147483647 := hr_y_2
  refine xc_iV G (b := 0) (rest := []) (As := [.int (iv y_1), .int (iv y_2)]) (c_X11_load ω l μ y_1 y_2 (by unfold ir; omega) (by unfold ir; omega) hI hCI) (wm 2 232 rfl rfl) (wm 2 233 rfl rfl) (wm 2 234 rfl rfl) rfl rfl (by decide) rfl (wm 1 1 rfl rfl) (wm 2 235 rfl rfl) (by decide) hR (by decide) (n := 2) rfl rfl (Nat.le_of_ble_eq_true rfl) hl.1 dL_law_174 (fun r_4 μ3 ρ d0 H locs hr_r_4 hp G => ?_)
  obtain ⟨hp_5, hp_6, hp_7, hp_8⟩ := hp
  have hI_9 : IC μ3 := hp_6
  have hCI_10 : CI μ3 := hp_7
  have hCr_11 : CIr μ3 := CIr.cl hCr hp_5 (by decide)
  have tm_12 : μ3.1 111 2 = μ.1 111 2 := hp_5.1 111 (by decide) 2
  have hr_r_4 : -2147483648 ≤ r_4 ∧ r_4 ≤ 2147483647 := hr_r_4
  refine lv_pop hx hb dL_law_177 rfl ?_
  refine lv_aload_n hx hb dL_law_178 rfl (lv_at hl 1 rfl) ?_
  refine lv_aload_n hx hb dL_law_179 rfl (lv_at hl 3 rfl) ?_
  refine lv_iload_n hx hb dL_law_180 rfl (lv_at hl 0 rfl) ?_
  refine lv_iconst (v := iv 1) hx hb dL_law_181 rfl ?_
  refine xb_iadd hx hb dL_law_182 ?_
  refine va_sld (s := s.setDrawn d0) hx hb hX hbl hbA G.2.2.2.1 (iv_in (x := i + 1) (n := (L : Int)) (by omega) (by omega)) dL_law_183 ?_
  refine my_ti (v := iv y_1) he_y_1.symm ?_
  refine lv_aload_n hx hb dL_law_184 rfl (lv_at hl 3 rfl) ?_
  refine lv_iload_n hx hb dL_law_185 rfl (lv_at hl 0 rfl) ?_
  refine lv_iconst (v := iv 2) hx hb dL_law_186 rfl ?_
  refine xb_iadd hx hb dL_law_187 ?_
  refine va_sld (s := s.setDrawn d0) hx hb hX hbl hbA G.2.2.2.1 (iv_in (x := i + 2) (n := (L : Int)) (by omega) (by omega)) dL_law_188 ?_
  refine my_ti (v := iv y_2) he_y_2.symm ?_
  refine xc_iV G (b := 111) (rest := []) (As := [.int (iv y_1), .int (iv y_2)]) (c_X12_load ω l μ3 y_1 y_2 (by unfold ir; omega) (by unfold ir; omega) hCr_11.1) (wm 8 236 rfl rfl) (wm 8 237 rfl rfl) (wm 8 238 rfl rfl) rfl rfl (by decide) rfl (wm 1 18 rfl rfl) (wm 8 239 rfl rfl) (by decide) hR (by decide) (n := 2) rfl rfl (Nat.le_of_ble_eq_true rfl) hl.1 dL_law_189 (fun r_14 μ13 ρ d0 H locs hr_r_14 hp G => ?_)
  obtain ⟨hp_15, hp_16, hp_17, hp_18, hp_19⟩ := hp
  have hI_20 : IC μ13 := IC.rf hI_9 hp_15 (by decide)
  have hCI_21 : CI μ13 := CI.rf hCI_10 hp_15 (by decide)
  have hCr_22 : CIr μ13 := CIr.ld hCr_11 hp_17 (Eqa.fr hp_15 (by decide)) (Eqf.fd hp_16 (by decide)) hp_19
  have tx_23 : μ13.1 0 1 = μ3.1 0 1 := hp_15.1 0 (by decide) 1
  have hr_r_14 : -2147483648 ≤ r_14 ∧ r_14 ≤ 2147483647 := hr_r_14
  refine lv_pop hx hb dL_law_192 rfl ?_
  refine lv_goto (tgt := 569) hx hb dL_law_193 (by decide) ?_
  have hT9 : μ13.1 0 1 = μ13.1 111 2 := by omega
  exact kk _ _ _ _ _ G hI_20 hCI_21 hCr_22 hT9
set_option maxHeartbeats 4000000 in
set_option maxRecDepth 100000 in
theorem law6_2 {p : Program} {l : Launch} {e : Env} {s : State} {m : MethodId} {below : List Frame} {meth : Method} {c : Code} {b L : Nat} {xs : Nat → Int32} {ω : Om} (C0 : lw_At p s m meth c b L xs) (hL : (L : Int) ≤ 3072) (hoB : oB ω = s.heap.size) {i : Int} (hi : 0 ≤ i ∧ i + 6 ≤ (L : Int)) {ρ : Int → Nat} {μ : M3} {d0 : Drawn} {H : Heap} {locs : List Loc} {ls : Array Slot} (G : Gd ω ρ μ p m c cL_law 4 s #[Value.ref b] RL d0 room_1 H locs) (hI : IC μ) (hCI : CI μ) (hCr : CIr μ) (hT : μ.1 0 1 = μ.1 111 2) (hl : lv_has ls 4 [(3, .int (iv i)), (2, .ref (oP ω 111)), (1, .ref (oP ω 0)), (0, .ref b)]) (kk : ∀ (ρ : Int → Nat) (μ : M3) (d0 : Drawn) (H : Heap) (locs : List Loc), Gd ω ρ μ p m c cL_law 4 s #[Value.ref b] RL d0 room_1 H locs → IC μ → CI μ → CIr μ → μ.1 0 1 = μ.1 111 2 → WT p l e room_1 s d0 m #[Value.ref b] below meth c H locs (lw_Z below #[Value.ref b] s) (F0 m 569 ls [])) : WT p l e room_1 s d0 m #[Value.ref b] below meth c H locs (lw_Z below #[Value.ref b] s) (F0 m 196 ls []) := by
  have hx := G.1.1
  have hb := G.1.2.1
  have hR : room_1.frames = 2048 ∧ room_1.locals = 84000 := ⟨rfl, rfl⟩
  obtain ⟨-, -, hr, hml, hown, hts, hX, hbl, hlocks, hgv⟩ := id C0
  have hbA : ¬ Aw ω b := by show ¬ oB ω ≤ b; omega
  refine lv_aload_n hx hb dL_law_196 rfl (lv_at hl 2 rfl) ?_
  refine xc_iV G (b := 0) (rest := []) (As := []) (c_X11_fault ω l μ hI) (wm 4 221 rfl rfl) (wm 4 222 rfl rfl) (wm 4 223 rfl rfl) rfl rfl (by decide) rfl (wm 1 1 rfl rfl) (wm 4 224 rfl rfl) (by decide) hR (by decide) (n := 0) rfl rfl (Nat.le_of_ble_eq_true rfl) hl.1 dL_law_197 (fun r_2 μ1 ρ d0 H locs hr_r_2 hp G => ?_)
  obtain ⟨hp_3, hp_4⟩ := hp
  have hI_5 : IC μ1 := by rw [hp_3]; exact hI
  have hCI_6 : CI μ1 := by rw [hp_3]; exact hCI
  have hCr_7 : CIr μ1 := by rw [hp_3]; exact hCr
  have tx_8 : μ1.1 0 1 = μ.1 0 1 := by rw [hp_3]
  have tm_9 : μ1.1 111 2 = μ.1 111 2 := by rw [hp_3]
  have hr_r_2 : -2147483648 ≤ r_2 ∧ r_2 ≤ 2147483647 := hr_r_2
  refine lv_pop hx hb dL_law_200 rfl ?_
  refine lv_aload_n hx hb dL_law_201 rfl (lv_at hl 1 rfl) ?_
  refine xc_iV G (b := 111) (rest := []) (As := []) (c_X12_fault ω l μ1 hCr_7) (wm 10 59 rfl rfl) (wm 10 60 rfl rfl) (wm 10 61 rfl rfl) rfl rfl (by decide) rfl (wm 1 18 rfl rfl) (wm 10 62 rfl rfl) (by decide) hR (by decide) (n := 0) rfl rfl (Nat.le_of_ble_eq_true rfl) hl.1 dL_law_202 (fun r_11 μ10 ρ d0 H locs hr_r_11 hp G => ?_)
  obtain ⟨hp_12, hp_13, hp_14⟩ := hp
  have hI_15 : IC μ10 := IC.rf hI_5 hp_12 (by decide)
  have hCI_16 : CI μ10 := CI.rf hCI_6 hp_12 (by decide)
  have hCr_17 : CIr μ10 := hp_14
  have tx_18 : μ10.1 0 1 = μ1.1 0 1 := hp_12.1 0 (by decide) 1
  have tm_19 : μ10.1 111 2 = μ1.1 111 2 := hp_13 2 (by decide)
  have hr_r_11 : -2147483648 ≤ r_11 ∧ r_11 ≤ 2147483647 := hr_r_11
  refine lv_pop hx hb dL_law_205 rfl ?_
  refine lv_goto (tgt := 569) hx hb dL_law_206 (by decide) ?_
  have hT9 : μ10.1 0 1 = μ10.1 111 2 := by omega
  exact kk _ _ _ _ _ G hI_15 hCI_16 hCr_17 hT9
set_option maxHeartbeats 4000000 in
set_option maxRecDepth 100000 in
theorem law6_3 {p : Program} {l : Launch} {e : Env} {s : State} {m : MethodId} {below : List Frame} {meth : Method} {c : Code} {b L : Nat} {xs : Nat → Int32} {ω : Om} (C0 : lw_At p s m meth c b L xs) (hL : (L : Int) ≤ 3072) (hoB : oB ω = s.heap.size) {i : Int} (hi : 0 ≤ i ∧ i + 6 ≤ (L : Int)) {ρ : Int → Nat} {μ : M3} {d0 : Drawn} {H : Heap} {locs : List Loc} {ls : Array Slot} (G : Gd ω ρ μ p m c cL_law 4 s #[Value.ref b] RL d0 room_1 H locs) (hI : IC μ) (hCI : CI μ) (hCr : CIr μ) (hT : μ.1 0 1 = μ.1 111 2) (hl : lv_has ls 4 [(3, .int (iv i)), (2, .ref (oP ω 111)), (1, .ref (oP ω 0)), (0, .ref b)]) (kk : ∀ (ρ : Int → Nat) (μ : M3) (d0 : Drawn) (H : Heap) (locs : List Loc), Gd ω ρ μ p m c cL_law 4 s #[Value.ref b] RL d0 room_1 H locs → IC μ → CI μ → CIr μ → μ.1 0 1 = μ.1 111 2 → WT p l e room_1 s d0 m #[Value.ref b] below meth c H locs (lw_Z below #[Value.ref b] s) (F0 m 569 ls [])) : WT p l e room_1 s d0 m #[Value.ref b] below meth c H locs (lw_Z below #[Value.ref b] s) (F0 m 209 ls []) := by
  have hx := G.1.1
  have hb := G.1.2.1
  have hR : room_1.frames = 2048 ∧ room_1.locals = 84000 := ⟨rfl, rfl⟩
  obtain ⟨-, -, hr, hml, hown, hts, hX, hbl, hlocks, hgv⟩ := id C0
  have hbA : ¬ Aw ω b := by show ¬ oB ω ≤ b; omega
  refine lv_aload_n hx hb dL_law_209 rfl (lv_at hl 2 rfl) ?_
  refine lv_aload_n hx hb dL_law_210 rfl (lv_at hl 3 rfl) ?_
  refine lv_iload_n hx hb dL_law_211 rfl (lv_at hl 0 rfl) ?_
  refine lv_iconst (v := iv 1) hx hb dL_law_212 rfl ?_
  refine xb_iadd hx hb dL_law_213 ?_
  refine va_sld (s := s.setDrawn d0) hx hb hX hbl hbA G.2.2.2.1 (iv_in (x := i + 1) (n := (L : Int)) (by omega) (by omega)) dL_law_214 ?_
  refine xb_topi (fun y_1 hr_y_1 he_y_1 => ?_)
  have hr_y_1 : -2147483648 ≤ y_1 ∧ y_1 ≤ 2147483647 := hr_y_1
  refine lv_aload_n hx hb dL_law_215 rfl (lv_at hl 3 rfl) ?_
  refine lv_iload_n hx hb dL_law_216 rfl (lv_at hl 0 rfl) ?_
  refine lv_iconst (v := iv 2) hx hb dL_law_217 rfl ?_
  refine xb_iadd hx hb dL_law_218 ?_
  refine va_sld (s := s.setDrawn d0) hx hb hX hbl hbA G.2.2.2.1 (iv_in (x := i + 2) (n := (L : Int)) (by omega) (by omega)) dL_law_219 ?_
  refine xb_topi (fun y_2 hr_y_2 he_y_2 => ?_)
  have hr_y_2 : -2147483648 ≤ y_2 ∧ y_2 ≤ 2147483647 := hr_y_2
  refine xc_iV G (b := 0) (rest := []) (As := [.int (iv y_1), .int (iv y_2)]) (c_X11_letter ω l μ y_1 y_2 (by unfold ir; omega) (by unfold ir; omega) hI) (wm 4 225 rfl rfl) (wm 4 226 rfl rfl) (wm 4 227 rfl rfl) rfl rfl (by decide) rfl (wm 1 1 rfl rfl) (wm 4 228 rfl rfl) (by decide) hR (by decide) (n := 2) rfl rfl (Nat.le_of_ble_eq_true rfl) hl.1 dL_law_220 (fun r_4 μ3 ρ d0 H locs hr_r_4 hp G => ?_)
  have hp_5 := hp
  have hI_6 : IC μ3 := by rw [hp_5]; exact hI
  have hCI_7 : CI μ3 := by rw [hp_5]; exact hCI
  have hCr_8 : CIr μ3 := by rw [hp_5]; exact hCr
  have tx_9 : μ3.1 0 1 = μ.1 0 1 := by rw [hp_5]
  have tm_10 : μ3.1 111 2 = μ.1 111 2 := by rw [hp_5]
  have hr_r_4 : -2147483648 ≤ r_4 ∧ r_4 ≤ 2147483647 := hr_r_4
  refine lv_pop hx hb dL_law_223 rfl ?_
  refine lv_aload_n hx hb dL_law_224 rfl (lv_at hl 1 rfl) ?_
  refine lv_aload_n hx hb dL_law_225 rfl (lv_at hl 3 rfl) ?_
  refine lv_iload_n hx hb dL_law_226 rfl (lv_at hl 0 rfl) ?_
  refine lv_iconst (v := iv 1) hx hb dL_law_227 rfl ?_
  refine xb_iadd hx hb dL_law_228 ?_
  refine va_sld (s := s.setDrawn d0) hx hb hX hbl hbA G.2.2.2.1 (iv_in (x := i + 1) (n := (L : Int)) (by omega) (by omega)) dL_law_229 ?_
  refine my_ti (v := iv y_1) he_y_1.symm ?_
  refine lv_aload_n hx hb dL_law_230 rfl (lv_at hl 3 rfl) ?_
  refine lv_iload_n hx hb dL_law_231 rfl (lv_at hl 0 rfl) ?_
  refine lv_iconst (v := iv 2) hx hb dL_law_232 rfl ?_
  refine xb_iadd hx hb dL_law_233 ?_
  refine va_sld (s := s.setDrawn d0) hx hb hX hbl hbA G.2.2.2.1 (iv_in (x := i + 2) (n := (L : Int)) (by omega) (by omega)) dL_law_234 ?_
  refine my_ti (v := iv y_2) he_y_2.symm ?_
  refine xc_iV G (b := 111) (rest := []) (As := [.int (iv y_1), .int (iv y_2)]) (c_X12_letter ω l μ3 y_1 y_2 (by unfold ir; omega) (by unfold ir; omega) hCr_8) (wm 8 228 rfl rfl) (wm 8 229 rfl rfl) (wm 8 230 rfl rfl) rfl rfl (by decide) rfl (wm 1 18 rfl rfl) (wm 8 231 rfl rfl) (by decide) hR (by decide) (n := 2) rfl rfl (Nat.le_of_ble_eq_true rfl) hl.1 dL_law_235 (fun r_12 μ11 ρ d0 H locs hr_r_12 hp G => ?_)
  obtain ⟨hp_13, hp_14, hp_15⟩ := hp
  have hI_16 : IC μ11 := IC.rf hI_6 hp_13 (by decide)
  have hCI_17 : CI μ11 := CI.rf hCI_7 hp_13 (by decide)
  have hCr_18 : CIr μ11 := hp_15
  have tx_19 : μ11.1 0 1 = μ3.1 0 1 := hp_13.1 0 (by decide) 1
  have tm_20 : μ11.1 111 2 = μ3.1 111 2 := hp_14 2 (by decide)
  have hr_r_12 : -2147483648 ≤ r_12 ∧ r_12 ≤ 2147483647 := hr_r_12
  refine lv_pop hx hb dL_law_238 rfl ?_
  refine lv_goto (tgt := 569) hx hb dL_law_239 (by decide) ?_
  have hT9 : μ11.1 0 1 = μ11.1 111 2 := by omega
  exact kk _ _ _ _ _ G hI_16 hCI_17 hCr_18 hT9
set_option maxHeartbeats 4000000 in
set_option maxRecDepth 100000 in
theorem law6_4 {p : Program} {l : Launch} {e : Env} {s : State} {m : MethodId} {below : List Frame} {meth : Method} {c : Code} {b L : Nat} {xs : Nat → Int32} {ω : Om} (C0 : lw_At p s m meth c b L xs) (hL : (L : Int) ≤ 3072) (hoB : oB ω = s.heap.size) {i : Int} (hi : 0 ≤ i ∧ i + 6 ≤ (L : Int)) {ρ : Int → Nat} {μ : M3} {d0 : Drawn} {H : Heap} {locs : List Loc} {ls : Array Slot} (G : Gd ω ρ μ p m c cL_law 4 s #[Value.ref b] RL d0 room_1 H locs) (hI : IC μ) (hCI : CI μ) (hCr : CIr μ) (hT : μ.1 0 1 = μ.1 111 2) (hl : lv_has ls 4 [(3, .int (iv i)), (2, .ref (oP ω 111)), (1, .ref (oP ω 0)), (0, .ref b)]) (kk : ∀ (ρ : Int → Nat) (μ : M3) (d0 : Drawn) (H : Heap) (locs : List Loc), Gd ω ρ μ p m c cL_law 4 s #[Value.ref b] RL d0 room_1 H locs → IC μ → CI μ → CIr μ → μ.1 0 1 = μ.1 111 2 → WT p l e room_1 s d0 m #[Value.ref b] below meth c H locs (lw_Z below #[Value.ref b] s) (F0 m 569 ls [])) : WT p l e room_1 s d0 m #[Value.ref b] below meth c H locs (lw_Z below #[Value.ref b] s) (F0 m 242 ls []) := by
  have hx := G.1.1
  have hb := G.1.2.1
  have hR : room_1.frames = 2048 ∧ room_1.locals = 84000 := ⟨rfl, rfl⟩
  obtain ⟨-, -, hr, hml, hown, hts, hX, hbl, hlocks, hgv⟩ := id C0
  have hbA : ¬ Aw ω b := by show ¬ oB ω ≤ b; omega
  refine lv_aload_n hx hb dL_law_242 rfl (lv_at hl 2 rfl) ?_
  refine lv_aload_n hx hb dL_law_243 rfl (lv_at hl 3 rfl) ?_
  refine lv_iload_n hx hb dL_law_244 rfl (lv_at hl 0 rfl) ?_
  refine lv_iconst (v := iv 1) hx hb dL_law_245 rfl ?_
  refine xb_iadd hx hb dL_law_246 ?_
  refine va_sld (s := s.setDrawn d0) hx hb hX hbl hbA G.2.2.2.1 (iv_in (x := i + 1) (n := (L : Int)) (by omega) (by omega)) dL_law_247 ?_
  refine xb_topi (fun y_1 hr_y_1 he_y_1 => ?_)
  have hr_y_1 : -2147483648 ≤ y_1 ∧ y_1 ≤ 2147483647 := hr_y_1
  refine lv_aload_n hx hb dL_law_248 rfl (lv_at hl 3 rfl) ?_
  refine lv_iload_n hx hb dL_law_249 rfl (lv_at hl 0 rfl) ?_
  refine lv_iconst (v := iv 2) hx hb dL_law_250 rfl ?_
  refine xb_iadd hx hb dL_law_251 ?_
  refine va_sld (s := s.setDrawn d0) hx hb hX hbl hbA G.2.2.2.1 (iv_in (x := i + 2) (n := (L : Int)) (by omega) (by omega)) dL_law_252 ?_
  refine xb_topi (fun y_2 hr_y_2 he_y_2 => ?_)
  have hr_y_2 : -2147483648 ≤ y_2 ∧ y_2 ≤ 2147483647 := hr_y_2
  refine lv_aload_n hx hb dL_law_253 rfl (lv_at hl 3 rfl) ?_
  refine lv_iload_n hx hb dL_law_254 rfl (lv_at hl 0 rfl) ?_
  refine lv_iconst (v := iv 3) hx hb dL_law_255 rfl ?_
  refine xb_iadd hx hb dL_law_256 ?_
  refine va_sld (s := s.setDrawn d0) hx hb hX hbl hbA G.2.2.2.1 (iv_in (x := i + 3) (n := (L : Int)) (by omega) (by omega)) dL_law_257 ?_
  refine xb_topi (fun y_3 hr_y_3 he_y_3 => ?_)
  have hr_y_3 : -2147483648 ≤ y_3 ∧ y_3 ≤ 2147483647 := hr_y_3
  refine xc_iV G (b := 0) (rest := []) (As := [.int (iv y_1), .int (iv y_2), .int (iv y_3)]) (c_X11_rule ω l μ y_1 y_2 y_3 (by unfold ir; omega) (by unfold ir; omega) (by unfold ir; omega) hI) (wm 4 234 rfl rfl) (wm 4 235 rfl rfl) (wm 4 236 rfl rfl) rfl rfl (by decide) rfl (wm 1 1 rfl rfl) (wm 4 237 rfl rfl) (by decide) hR (by decide) (n := 3) rfl rfl (Nat.le_of_ble_eq_true rfl) hl.1 dL_law_258 (fun r_5 μ4 ρ d0 H locs hr_r_5 hp G => ?_)
  obtain ⟨hp_6, hp_7, hp_8⟩ := hp
  have hI_9 : IC μ4 := hp_7
  have hCI_10 : CI μ4 := CI.f6 hCI hp_6 (by decide) (hp_6.1 0 (by decide) 6) (by decide) (by decide)
  have hCr_11 : CIr μ4 := CIr.cl hCr hp_6 (by decide)
  have tx_12 : μ4.1 0 1 = μ.1 0 1 := hp_6.1 0 (by decide) 1
  have tm_13 : μ4.1 111 2 = μ.1 111 2 := hp_6.1 111 (by decide) 2
  have hr_r_5 : -2147483648 ≤ r_5 ∧ r_5 ≤ 2147483647 := hr_r_5
  refine lv_pop hx hb dL_law_261 rfl ?_
  refine lv_aload_n hx hb dL_law_262 rfl (lv_at hl 1 rfl) ?_
  refine lv_aload_n hx hb dL_law_263 rfl (lv_at hl 3 rfl) ?_
  refine lv_iload_n hx hb dL_law_264 rfl (lv_at hl 0 rfl) ?_
  refine lv_iconst (v := iv 1) hx hb dL_law_265 rfl ?_
  refine xb_iadd hx hb dL_law_266 ?_
  refine va_sld (s := s.setDrawn d0) hx hb hX hbl hbA G.2.2.2.1 (iv_in (x := i + 1) (n := (L : Int)) (by omega) (by omega)) dL_law_267 ?_
  refine my_ti (v := iv y_1) he_y_1.symm ?_
  refine lv_aload_n hx hb dL_law_268 rfl (lv_at hl 3 rfl) ?_
  refine lv_iload_n hx hb dL_law_269 rfl (lv_at hl 0 rfl) ?_
  refine lv_iconst (v := iv 2) hx hb dL_law_270 rfl ?_
  refine xb_iadd hx hb dL_law_271 ?_
  refine va_sld (s := s.setDrawn d0) hx hb hX hbl hbA G.2.2.2.1 (iv_in (x := i + 2) (n := (L : Int)) (by omega) (by omega)) dL_law_272 ?_
  refine my_ti (v := iv y_2) he_y_2.symm ?_
  refine lv_aload_n hx hb dL_law_273 rfl (lv_at hl 3 rfl) ?_
  refine lv_iload_n hx hb dL_law_274 rfl (lv_at hl 0 rfl) ?_
  refine lv_iconst (v := iv 3) hx hb dL_law_275 rfl ?_
  refine xb_iadd hx hb dL_law_276 ?_
  refine va_sld (s := s.setDrawn d0) hx hb hX hbl hbA G.2.2.2.1 (iv_in (x := i + 3) (n := (L : Int)) (by omega) (by omega)) dL_law_277 ?_
  refine my_ti (v := iv y_3) he_y_3.symm ?_
  refine xc_iV G (b := 111) (rest := []) (As := [.int (iv y_1), .int (iv y_2), .int (iv y_3)]) (c_X12_rule ω l μ4 y_1 y_2 y_3 (by unfold ir; omega) (by unfold ir; omega) (by unfold ir; omega) hCr_11) (wm 10 63 rfl rfl) (wm 10 64 rfl rfl) (wm 10 65 rfl rfl) rfl rfl (by decide) rfl (wm 1 18 rfl rfl) (wm 10 66 rfl rfl) (by decide) hR (by decide) (n := 3) rfl rfl (Nat.le_of_ble_eq_true rfl) hl.1 dL_law_278 (fun r_15 μ14 ρ d0 H locs hr_r_15 hp G => ?_)
  obtain ⟨hp_16, hp_17, hp_18, hp_19⟩ := hp
  have hI_20 : IC μ14 := IC.rf hI_9 hp_16 (by decide)
  have hCI_21 : CI μ14 := CI.rf hCI_10 hp_16 (by decide)
  have hCr_22 : CIr μ14 := hp_18
  have tx_23 : μ14.1 0 1 = μ4.1 0 1 := hp_16.1 0 (by decide) 1
  have tm_24 : μ14.1 111 2 = μ4.1 111 2 := hp_17 2 (by decide)
  have hr_r_15 : -2147483648 ≤ r_15 ∧ r_15 ≤ 2147483647 := hr_r_15
  refine lv_pop hx hb dL_law_281 rfl ?_
  refine lv_goto (tgt := 569) hx hb dL_law_282 (by decide) ?_
  have hT9 : μ14.1 0 1 = μ14.1 111 2 := by omega
  exact kk _ _ _ _ _ G hI_20 hCI_21 hCr_22 hT9
set_option maxHeartbeats 4000000 in
set_option maxRecDepth 100000 in
theorem law6_5 {p : Program} {l : Launch} {e : Env} {s : State} {m : MethodId} {below : List Frame} {meth : Method} {c : Code} {b L : Nat} {xs : Nat → Int32} {ω : Om} (C0 : lw_At p s m meth c b L xs) (hL : (L : Int) ≤ 3072) (hoB : oB ω = s.heap.size) {i : Int} (hi : 0 ≤ i ∧ i + 6 ≤ (L : Int)) {ρ : Int → Nat} {μ : M3} {d0 : Drawn} {H : Heap} {locs : List Loc} {ls : Array Slot} (G : Gd ω ρ μ p m c cL_law 4 s #[Value.ref b] RL d0 room_1 H locs) (hI : IC μ) (hCI : CI μ) (hCr : CIr μ) (hT : μ.1 0 1 = μ.1 111 2) (hl : lv_has ls 4 [(3, .int (iv i)), (2, .ref (oP ω 111)), (1, .ref (oP ω 0)), (0, .ref b)]) (kk : ∀ (ρ : Int → Nat) (μ : M3) (d0 : Drawn) (H : Heap) (locs : List Loc), Gd ω ρ μ p m c cL_law 4 s #[Value.ref b] RL d0 room_1 H locs → IC μ → CI μ → CIr μ → μ.1 0 1 = μ.1 111 2 → WT p l e room_1 s d0 m #[Value.ref b] below meth c H locs (lw_Z below #[Value.ref b] s) (F0 m 569 ls [])) : WT p l e room_1 s d0 m #[Value.ref b] below meth c H locs (lw_Z below #[Value.ref b] s) (F0 m 285 ls []) := by
  have hx := G.1.1
  have hb := G.1.2.1
  have hR : room_1.frames = 2048 ∧ room_1.locals = 84000 := ⟨rfl, rfl⟩
  obtain ⟨-, -, hr, hml, hown, hts, hX, hbl, hlocks, hgv⟩ := id C0
  have hbA : ¬ Aw ω b := by show ¬ oB ω ≤ b; omega
  refine lv_aload_n hx hb dL_law_285 rfl (lv_at hl 2 rfl) ?_
  refine lv_aload_n hx hb dL_law_286 rfl (lv_at hl 3 rfl) ?_
  refine lv_iload_n hx hb dL_law_287 rfl (lv_at hl 0 rfl) ?_
  refine lv_iconst (v := iv 1) hx hb dL_law_288 rfl ?_
  refine xb_iadd hx hb dL_law_289 ?_
  refine va_sld (s := s.setDrawn d0) hx hb hX hbl hbA G.2.2.2.1 (iv_in (x := i + 1) (n := (L : Int)) (by omega) (by omega)) dL_law_290 ?_
  refine xb_topi (fun y_1 hr_y_1 he_y_1 => ?_)
  have hr_y_1 : -2147483648 ≤ y_1 ∧ y_1 ≤ 2147483647 := hr_y_1
  refine lv_aload_n hx hb dL_law_291 rfl (lv_at hl 3 rfl) ?_
  refine lv_iload_n hx hb dL_law_292 rfl (lv_at hl 0 rfl) ?_
  refine lv_iconst (v := iv 2) hx hb dL_law_293 rfl ?_
  refine xb_iadd hx hb dL_law_294 ?_
  refine va_sld (s := s.setDrawn d0) hx hb hX hbl hbA G.2.2.2.1 (iv_in (x := i + 2) (n := (L : Int)) (by omega) (by omega)) dL_law_295 ?_
  refine xb_topi (fun y_2 hr_y_2 he_y_2 => ?_)
  have hr_y_2 : -2147483648 ≤ y_2 ∧ y_2 ≤ 2147483647 := hr_y_2
  refine lv_aload_n hx hb dL_law_296 rfl (lv_at hl 3 rfl) ?_
  refine lv_iload_n hx hb dL_law_297 rfl (lv_at hl 0 rfl) ?_
  refine lv_iconst (v := iv 3) hx hb dL_law_298 rfl ?_
  refine xb_iadd hx hb dL_law_299 ?_
  refine va_sld (s := s.setDrawn d0) hx hb hX hbl hbA G.2.2.2.1 (iv_in (x := i + 3) (n := (L : Int)) (by omega) (by omega)) dL_law_300 ?_
  refine xb_topi (fun y_3 hr_y_3 he_y_3 => ?_)
  have hr_y_3 : -2147483648 ≤ y_3 ∧ y_3 ≤ 2147483647 := hr_y_3
  refine lv_aload_n hx hb dL_law_301 rfl (lv_at hl 3 rfl) ?_
  refine lv_iload_n hx hb dL_law_302 rfl (lv_at hl 0 rfl) ?_
  refine lv_iconst (v := iv 4) hx hb dL_law_303 rfl ?_
  refine xb_iadd hx hb dL_law_304 ?_
  refine va_sld (s := s.setDrawn d0) hx hb hX hbl hbA G.2.2.2.1 (iv_in (x := i + 4) (n := (L : Int)) (by omega) (by omega)) dL_law_305 ?_
  refine xb_topi (fun y_4 hr_y_4 he_y_4 => ?_)
  have hr_y_4 : -2147483648 ≤ y_4 ∧ y_4 ≤ 2147483647 := hr_y_4
  refine xc_iV G (b := 0) (rest := []) (As := [.int (iv y_1), .int (iv y_2), .int (iv y_3), .int (iv y_4)]) (c_X11_entry ω l μ y_1 y_2 y_3 y_4 (by unfold ir; omega) (by unfold ir; omega) (by unfold ir; omega) (by unfold ir; omega) hI) (wm 5 5 rfl rfl) (wm 5 6 rfl rfl) (wm 5 7 rfl rfl) rfl rfl (by decide) rfl (wm 1 1 rfl rfl) (wm 5 8 rfl rfl) (by decide) hR (by decide) (n := 4) rfl rfl (Nat.le_of_ble_eq_true rfl) hl.1 dL_law_306 (fun r_6 μ5 ρ d0 H locs hr_r_6 hp G => ?_)
  obtain ⟨hp_7, hp_8, hp_9⟩ := hp
  have hI_10 : IC μ5 := hp_8
  have hCI_11 : CI μ5 := CI.f6 hCI hp_7 (by decide) (hp_7.1 0 (by decide) 6) (by decide) (by decide)
  have hCr_12 : CIr μ5 := CIr.cl hCr hp_7 (by decide)
  have tx_13 : μ5.1 0 1 = μ.1 0 1 := hp_7.1 0 (by decide) 1
  have tm_14 : μ5.1 111 2 = μ.1 111 2 := hp_7.1 111 (by decide) 2
  have hr_r_6 : -2147483648 ≤ r_6 ∧ r_6 ≤ 2147483647 := hr_r_6
  refine lv_pop hx hb dL_law_309 rfl ?_
  refine lv_aload_n hx hb dL_law_310 rfl (lv_at hl 1 rfl) ?_
  refine lv_aload_n hx hb dL_law_311 rfl (lv_at hl 3 rfl) ?_
  refine lv_iload_n hx hb dL_law_312 rfl (lv_at hl 0 rfl) ?_
  refine lv_iconst (v := iv 1) hx hb dL_law_313 rfl ?_
  refine xb_iadd hx hb dL_law_314 ?_
  refine va_sld (s := s.setDrawn d0) hx hb hX hbl hbA G.2.2.2.1 (iv_in (x := i + 1) (n := (L : Int)) (by omega) (by omega)) dL_law_315 ?_
  refine my_ti (v := iv y_1) he_y_1.symm ?_
  refine lv_aload_n hx hb dL_law_316 rfl (lv_at hl 3 rfl) ?_
  refine lv_iload_n hx hb dL_law_317 rfl (lv_at hl 0 rfl) ?_
  refine lv_iconst (v := iv 2) hx hb dL_law_318 rfl ?_
  refine xb_iadd hx hb dL_law_319 ?_
  refine va_sld (s := s.setDrawn d0) hx hb hX hbl hbA G.2.2.2.1 (iv_in (x := i + 2) (n := (L : Int)) (by omega) (by omega)) dL_law_320 ?_
  refine my_ti (v := iv y_2) he_y_2.symm ?_
  refine lv_aload_n hx hb dL_law_321 rfl (lv_at hl 3 rfl) ?_
  refine lv_iload_n hx hb dL_law_322 rfl (lv_at hl 0 rfl) ?_
  refine lv_iconst (v := iv 3) hx hb dL_law_323 rfl ?_
  refine xb_iadd hx hb dL_law_324 ?_
  refine va_sld (s := s.setDrawn d0) hx hb hX hbl hbA G.2.2.2.1 (iv_in (x := i + 3) (n := (L : Int)) (by omega) (by omega)) dL_law_325 ?_
  refine my_ti (v := iv y_3) he_y_3.symm ?_
  refine lv_aload_n hx hb dL_law_326 rfl (lv_at hl 3 rfl) ?_
  refine lv_iload_n hx hb dL_law_327 rfl (lv_at hl 0 rfl) ?_
  refine lv_iconst (v := iv 4) hx hb dL_law_328 rfl ?_
  refine xb_iadd hx hb dL_law_329 ?_
  refine va_sld (s := s.setDrawn d0) hx hb hX hbl hbA G.2.2.2.1 (iv_in (x := i + 4) (n := (L : Int)) (by omega) (by omega)) dL_law_330 ?_
  refine my_ti (v := iv y_4) he_y_4.symm ?_
  refine xc_iV G (b := 111) (rest := []) (As := [.int (iv y_1), .int (iv y_2), .int (iv y_3), .int (iv y_4)]) (c_X12_entry ω l μ5 y_1 y_2 y_3 y_4 (by unfold ir; omega) (by unfold ir; omega) (by unfold ir; omega) (by unfold ir; omega) hCr_12) (wm 10 67 rfl rfl) (wm 10 68 rfl rfl) (wm 10 69 rfl rfl) rfl rfl (by decide) rfl (wm 1 18 rfl rfl) (wm 10 70 rfl rfl) (by decide) hR (by decide) (n := 4) rfl rfl (Nat.le_of_ble_eq_true rfl) hl.1 dL_law_331 (fun r_16 μ15 ρ d0 H locs hr_r_16 hp G => ?_)
  obtain ⟨hp_17, hp_18, hp_19, hp_20⟩ := hp
  have hI_21 : IC μ15 := IC.rf hI_10 hp_17 (by decide)
  have hCI_22 : CI μ15 := CI.rf hCI_11 hp_17 (by decide)
  have hCr_23 : CIr μ15 := hp_19
  have tx_24 : μ15.1 0 1 = μ5.1 0 1 := hp_17.1 0 (by decide) 1
  have tm_25 : μ15.1 111 2 = μ5.1 111 2 := hp_18 2 (by decide)
  have hr_r_16 : -2147483648 ≤ r_16 ∧ r_16 ≤ 2147483647 := hr_r_16
  refine lv_pop hx hb dL_law_334 rfl ?_
  refine lv_goto (tgt := 569) hx hb dL_law_335 (by decide) ?_
  have hT9 : μ15.1 0 1 = μ15.1 111 2 := by omega
  exact kk _ _ _ _ _ G hI_21 hCI_22 hCr_23 hT9
set_option maxHeartbeats 4000000 in
set_option maxRecDepth 100000 in
theorem law6_6 {p : Program} {l : Launch} {e : Env} {s : State} {m : MethodId} {below : List Frame} {meth : Method} {c : Code} {b L : Nat} {xs : Nat → Int32} {ω : Om} (C0 : lw_At p s m meth c b L xs) (hL : (L : Int) ≤ 3072) (hoB : oB ω = s.heap.size) {i : Int} (hi : 0 ≤ i ∧ i + 6 ≤ (L : Int)) {ρ : Int → Nat} {μ : M3} {d0 : Drawn} {H : Heap} {locs : List Loc} {ls : Array Slot} (G : Gd ω ρ μ p m c cL_law 4 s #[Value.ref b] RL d0 room_1 H locs) (hI : IC μ) (hCI : CI μ) (hCr : CIr μ) (hT : μ.1 0 1 = μ.1 111 2) (hl : lv_has ls 4 [(3, .int (iv i)), (2, .ref (oP ω 111)), (1, .ref (oP ω 0)), (0, .ref b)]) (kk : ∀ (ρ : Int → Nat) (μ : M3) (d0 : Drawn) (H : Heap) (locs : List Loc), Gd ω ρ μ p m c cL_law 4 s #[Value.ref b] RL d0 room_1 H locs → IC μ → CI μ → CIr μ → μ.1 0 1 = μ.1 111 2 → WT p l e room_1 s d0 m #[Value.ref b] below meth c H locs (lw_Z below #[Value.ref b] s) (F0 m 569 ls [])) : WT p l e room_1 s d0 m #[Value.ref b] below meth c H locs (lw_Z below #[Value.ref b] s) (F0 m 338 ls []) := by
  have hx := G.1.1
  have hb := G.1.2.1
  have hR : room_1.frames = 2048 ∧ room_1.locals = 84000 := ⟨rfl, rfl⟩
  obtain ⟨-, -, hr, hml, hown, hts, hX, hbl, hlocks, hgv⟩ := id C0
  have hbA : ¬ Aw ω b := by show ¬ oB ω ≤ b; omega
  refine lv_aload_n hx hb dL_law_338 rfl (lv_at hl 2 rfl) ?_
  refine lv_aload_n hx hb dL_law_339 rfl (lv_at hl 3 rfl) ?_
  refine lv_iload_n hx hb dL_law_340 rfl (lv_at hl 0 rfl) ?_
  refine lv_iconst (v := iv 1) hx hb dL_law_341 rfl ?_
  refine xb_iadd hx hb dL_law_342 ?_
  refine va_sld (s := s.setDrawn d0) hx hb hX hbl hbA G.2.2.2.1 (iv_in (x := i + 1) (n := (L : Int)) (by omega) (by omega)) dL_law_343 ?_
  refine xb_topi (fun y_1 hr_y_1 he_y_1 => ?_)
  have hr_y_1 : -2147483648 ≤ y_1 ∧ y_1 ≤ 2147483647 := hr_y_1
  refine lv_aload_n hx hb dL_law_344 rfl (lv_at hl 3 rfl) ?_
  refine lv_iload_n hx hb dL_law_345 rfl (lv_at hl 0 rfl) ?_
  refine lv_iconst (v := iv 2) hx hb dL_law_346 rfl ?_
  refine xb_iadd hx hb dL_law_347 ?_
  refine va_sld (s := s.setDrawn d0) hx hb hX hbl hbA G.2.2.2.1 (iv_in (x := i + 2) (n := (L : Int)) (by omega) (by omega)) dL_law_348 ?_
  refine xb_topi (fun y_2 hr_y_2 he_y_2 => ?_)
  have hr_y_2 : -2147483648 ≤ y_2 ∧ y_2 ≤ 2147483647 := hr_y_2
  refine lv_aload_n hx hb dL_law_349 rfl (lv_at hl 3 rfl) ?_
  refine lv_iload_n hx hb dL_law_350 rfl (lv_at hl 0 rfl) ?_
  refine lv_iconst (v := iv 3) hx hb dL_law_351 rfl ?_
  refine xb_iadd hx hb dL_law_352 ?_
  refine va_sld (s := s.setDrawn d0) hx hb hX hbl hbA G.2.2.2.1 (iv_in (x := i + 3) (n := (L : Int)) (by omega) (by omega)) dL_law_353 ?_
  refine xb_topi (fun y_3 hr_y_3 he_y_3 => ?_)
  have hr_y_3 : -2147483648 ≤ y_3 ∧ y_3 ≤ 2147483647 := hr_y_3
  refine xb_i2l hx hb (by unfold ir; omega) dL_law_354 ?_
  refine lv_bipush (v := iv 32) hx hb dL_law_355 rfl ?_
  refine lv_lshl hx hb dL_law_357 rfl ?_
  refine xb_topl (fun z_4 hr_z_4 he_z_4 => ?_)
  refine lv_aload_n hx hb dL_law_358 rfl (lv_at hl 3 rfl) ?_
  refine lv_iload_n hx hb dL_law_359 rfl (lv_at hl 0 rfl) ?_
  refine lv_iconst (v := iv 4) hx hb dL_law_360 rfl ?_
  refine xb_iadd hx hb dL_law_361 ?_
  refine va_sld (s := s.setDrawn d0) hx hb hX hbl hbA G.2.2.2.1 (iv_in (x := i + 4) (n := (L : Int)) (by omega) (by omega)) dL_law_362 ?_
  refine xb_topi (fun y_5 hr_y_5 he_y_5 => ?_)
  have hr_y_5 : -2147483648 ≤ y_5 ∧ y_5 ≤ 2147483647 := hr_y_5
  refine xb_i2l hx hb (by unfold ir; omega) dL_law_363 ?_
  refine lv_ldc2 (s := s.setDrawn d0) hx hb G.1.2.2.2.1 (dr_words G.1.2.2.2.2 d0 _ (wm 11 88 rfl rfl)) dL_law_364 ?_
  refine xb_litl (x := 4294967295) (by decide) ?_
  refine lv_land hx hb dL_law_367 ?_
  refine xb_topl (fun z_6 hr_z_6 he_z_6 => ?_)
  refine lv_lor hx hb dL_law_368 ?_
  refine xb_topl (fun z_7 hr_z_7 he_z_7 => ?_)
  refine xc_iV G (b := 0) (rest := []) (As := [.int (iv y_1), .int (iv y_2), .long (jv z_7)]) (c_X11_call ω l μ y_1 y_2 z_7 (by unfold ir; omega) (by unfold ir; omega) hr_z_7 hI hCI) (wm 5 29 rfl rfl) (wm 5 30 rfl rfl) (wm 5 31 rfl rfl) rfl rfl (by decide) rfl (wm 1 1 rfl rfl) (wm 5 32 rfl rfl) (by decide) hR (by decide) (n := 3) rfl rfl (Nat.le_of_ble_eq_true rfl) hl.1 dL_law_369 (fun r_9 μ8 ρ d0 H locs hr_r_9 hp G => ?_)
  obtain ⟨hp_10, hp_11, hp_12⟩ := hp
  have hI_13 : IC μ8 := hp_11
  have hCI_14 : CI μ8 := hp_12
  have hCr_15 : CIr μ8 := CIr.cl hCr hp_10 (by decide)
  have tx_16 : μ8.1 0 1 = μ.1 0 1 := hp_10.1 0 (by decide) 1
  have tm_17 : μ8.1 111 2 = μ.1 111 2 := hp_10.1 111 (by decide) 2
  have hr_r_9 : -2147483648 ≤ r_9 ∧ r_9 ≤ 2147483647 := hr_r_9
  refine lv_pop hx hb dL_law_372 rfl ?_
  refine lv_aload_n hx hb dL_law_373 rfl (lv_at hl 1 rfl) ?_
  refine lv_aload_n hx hb dL_law_374 rfl (lv_at hl 3 rfl) ?_
  refine lv_iload_n hx hb dL_law_375 rfl (lv_at hl 0 rfl) ?_
  refine lv_iconst (v := iv 1) hx hb dL_law_376 rfl ?_
  refine xb_iadd hx hb dL_law_377 ?_
  refine va_sld (s := s.setDrawn d0) hx hb hX hbl hbA G.2.2.2.1 (iv_in (x := i + 1) (n := (L : Int)) (by omega) (by omega)) dL_law_378 ?_
  refine my_ti (v := iv y_1) he_y_1.symm ?_
  refine lv_aload_n hx hb dL_law_379 rfl (lv_at hl 3 rfl) ?_
  refine lv_iload_n hx hb dL_law_380 rfl (lv_at hl 0 rfl) ?_
  refine lv_iconst (v := iv 2) hx hb dL_law_381 rfl ?_
  refine xb_iadd hx hb dL_law_382 ?_
  refine va_sld (s := s.setDrawn d0) hx hb hX hbl hbA G.2.2.2.1 (iv_in (x := i + 2) (n := (L : Int)) (by omega) (by omega)) dL_law_383 ?_
  refine my_ti (v := iv y_2) he_y_2.symm ?_
  refine lv_aload_n hx hb dL_law_384 rfl (lv_at hl 3 rfl) ?_
  refine lv_iload_n hx hb dL_law_385 rfl (lv_at hl 0 rfl) ?_
  refine lv_iconst (v := iv 3) hx hb dL_law_386 rfl ?_
  refine xb_iadd hx hb dL_law_387 ?_
  refine va_sld (s := s.setDrawn d0) hx hb hX hbl hbA G.2.2.2.1 (iv_in (x := i + 3) (n := (L : Int)) (by omega) (by omega)) dL_law_388 ?_
  refine my_ti (v := iv y_3) he_y_3.symm ?_
  refine xb_i2l hx hb (by unfold ir; omega) dL_law_389 ?_
  refine lv_bipush (v := iv 32) hx hb dL_law_390 rfl ?_
  refine lv_lshl hx hb dL_law_392 rfl ?_
  refine xb_topl (fun z_18 hr_z_18 he_z_18 => ?_)
  refine lv_aload_n hx hb dL_law_393 rfl (lv_at hl 3 rfl) ?_
  refine lv_iload_n hx hb dL_law_394 rfl (lv_at hl 0 rfl) ?_
  refine lv_iconst (v := iv 4) hx hb dL_law_395 rfl ?_
  refine xb_iadd hx hb dL_law_396 ?_
  refine va_sld (s := s.setDrawn d0) hx hb hX hbl hbA G.2.2.2.1 (iv_in (x := i + 4) (n := (L : Int)) (by omega) (by omega)) dL_law_397 ?_
  refine my_ti (v := iv y_5) he_y_5.symm ?_
  refine xb_i2l hx hb (by unfold ir; omega) dL_law_398 ?_
  refine lv_ldc2 (s := s.setDrawn d0) hx hb G.1.2.2.2.1 (dr_words G.1.2.2.2.2 d0 _ (wm 11 88 rfl rfl)) dL_law_399 ?_
  refine xb_litl (x := 4294967295) (by decide) ?_
  refine lv_land hx hb dL_law_402 ?_
  refine xb_topl (fun z_19 hr_z_19 he_z_19 => ?_)
  refine lv_lor hx hb dL_law_403 ?_
  refine xb_topl (fun z_20 hr_z_20 he_z_20 => ?_)
  refine xc_iV G (b := 111) (rest := []) (As := [.int (iv y_1), .int (iv y_2), .long (jv z_20)]) (c_X12_call_ ω l μ8 y_1 y_2 z_20 (by unfold ir; omega) (by unfold ir; omega) hr_z_20 hCr_15) (wm 10 79 rfl rfl) (wm 10 80 rfl rfl) (wm 10 81 rfl rfl) rfl rfl (by decide) rfl (wm 1 18 rfl rfl) (wm 10 82 rfl rfl) (by decide) hR (by decide) (n := 3) rfl rfl (Nat.le_of_ble_eq_true rfl) hl.1 dL_law_404 (fun r_22 μ21 ρ d0 H locs hr_r_22 hp G => ?_)
  obtain ⟨hp_23, hp_24, hp_25⟩ := hp
  have hI_26 : IC μ21 := IC.rf hI_13 hp_23 (by decide)
  have hCI_27 : CI μ21 := CI.rf hCI_14 hp_23 (by decide)
  have hCr_28 : CIr μ21 := hp_25
  have tx_29 : μ21.1 0 1 = μ8.1 0 1 := hp_23.1 0 (by decide) 1
  have tm_30 : μ21.1 111 2 = μ8.1 111 2 := hp_24 2 (by decide)
  have hr_r_22 : -2147483648 ≤ r_22 ∧ r_22 ≤ 2147483647 := hr_r_22
  refine lv_pop hx hb dL_law_407 rfl ?_
  refine lv_goto (tgt := 569) hx hb dL_law_408 (by decide) ?_
  have hT9 : μ21.1 0 1 = μ21.1 111 2 := by omega
  exact kk _ _ _ _ _ G hI_26 hCI_27 hCr_28 hT9
set_option maxHeartbeats 4000000 in
set_option maxRecDepth 100000 in
theorem law6_7 {p : Program} {l : Launch} {e : Env} {s : State} {m : MethodId} {below : List Frame} {meth : Method} {c : Code} {b L : Nat} {xs : Nat → Int32} {ω : Om} (C0 : lw_At p s m meth c b L xs) (hL : (L : Int) ≤ 3072) (hoB : oB ω = s.heap.size) {i : Int} (hi : 0 ≤ i ∧ i + 6 ≤ (L : Int)) {ρ : Int → Nat} {μ : M3} {d0 : Drawn} {H : Heap} {locs : List Loc} {ls : Array Slot} (G : Gd ω ρ μ p m c cL_law 4 s #[Value.ref b] RL d0 room_1 H locs) (hI : IC μ) (hCI : CI μ) (hCr : CIr μ) (hT : μ.1 0 1 = μ.1 111 2) (hl : lv_has ls 4 [(3, .int (iv i)), (2, .ref (oP ω 111)), (1, .ref (oP ω 0)), (0, .ref b)]) (kk : ∀ (ρ : Int → Nat) (μ : M3) (d0 : Drawn) (H : Heap) (locs : List Loc), Gd ω ρ μ p m c cL_law 4 s #[Value.ref b] RL d0 room_1 H locs → IC μ → CI μ → CIr μ → μ.1 0 1 = μ.1 111 2 → WT p l e room_1 s d0 m #[Value.ref b] below meth c H locs (lw_Z below #[Value.ref b] s) (F0 m 569 ls [])) : WT p l e room_1 s d0 m #[Value.ref b] below meth c H locs (lw_Z below #[Value.ref b] s) (F0 m 411 ls []) := by
  have hx := G.1.1
  have hb := G.1.2.1
  have hR : room_1.frames = 2048 ∧ room_1.locals = 84000 := ⟨rfl, rfl⟩
  obtain ⟨-, -, hr, hml, hown, hts, hX, hbl, hlocks, hgv⟩ := id C0
  have hbA : ¬ Aw ω b := by show ¬ oB ω ≤ b; omega
  refine lv_aload_n hx hb dL_law_411 rfl (lv_at hl 2 rfl) ?_
  refine lv_aload_n hx hb dL_law_412 rfl (lv_at hl 3 rfl) ?_
  refine lv_iload_n hx hb dL_law_413 rfl (lv_at hl 0 rfl) ?_
  refine lv_iconst (v := iv 1) hx hb dL_law_414 rfl ?_
  refine xb_iadd hx hb dL_law_415 ?_
  refine va_sld (s := s.setDrawn d0) hx hb hX hbl hbA G.2.2.2.1 (iv_in (x := i + 1) (n := (L : Int)) (by omega) (by omega)) dL_law_416 ?_
  refine xb_topi (fun y_1 hr_y_1 he_y_1 => ?_)
  have hr_y_1 : -2147483648 ≤ y_1 ∧ y_1 ≤ 2147483647 := hr_y_1
  refine xc_iV G (b := 0) (rest := []) (As := [.int (iv y_1)]) (c_X11_look ω l μ y_1 (by unfold ir; omega) hI) (wm 7 78 rfl rfl) (wm 7 79 rfl rfl) (wm 7 80 rfl rfl) rfl rfl (by decide) rfl (wm 1 1 rfl rfl) (wm 7 81 rfl rfl) (by decide) hR (by decide) (n := 1) rfl rfl (Nat.le_of_ble_eq_true rfl) hl.1 dL_law_417 (fun r_3 μ2 ρ d0 H locs hr_r_3 hp G => ?_)
  have hp_4 := hp
  have hI_5 : IC μ2 := by rw [hp_4]; exact hI
  have hCI_6 : CI μ2 := by rw [hp_4]; exact hCI
  have hCr_7 : CIr μ2 := by rw [hp_4]; exact hCr
  have tx_8 : μ2.1 0 1 = μ.1 0 1 := by rw [hp_4]
  have tm_9 : μ2.1 111 2 = μ.1 111 2 := by rw [hp_4]
  have hr_r_3 : -2147483648 ≤ r_3 ∧ r_3 ≤ 2147483647 := hr_r_3
  refine lv_pop hx hb dL_law_420 rfl ?_
  refine lv_aload_n hx hb dL_law_421 rfl (lv_at hl 1 rfl) ?_
  refine lv_aload_n hx hb dL_law_422 rfl (lv_at hl 3 rfl) ?_
  refine lv_iload_n hx hb dL_law_423 rfl (lv_at hl 0 rfl) ?_
  refine lv_iconst (v := iv 1) hx hb dL_law_424 rfl ?_
  refine xb_iadd hx hb dL_law_425 ?_
  refine va_sld (s := s.setDrawn d0) hx hb hX hbl hbA G.2.2.2.1 (iv_in (x := i + 1) (n := (L : Int)) (by omega) (by omega)) dL_law_426 ?_
  refine my_ti (v := iv y_1) he_y_1.symm ?_
  refine xc_iV G (b := 111) (rest := []) (As := [.int (iv y_1)]) (c_X12_look ω l μ2 y_1 (by unfold ir; omega) hCr_7) (wm 11 52 rfl rfl) (wm 11 53 rfl rfl) (wm 11 54 rfl rfl) rfl rfl (by decide) rfl (wm 1 18 rfl rfl) (wm 11 55 rfl rfl) (by decide) hR (by decide) (n := 1) rfl rfl (Nat.le_of_ble_eq_true rfl) hl.1 dL_law_427 (fun r_11 μ10 ρ d0 H locs hr_r_11 hp G => ?_)
  obtain ⟨hp_12, hp_13, hp_14⟩ := hp
  have hI_15 : IC μ10 := IC.rf hI_5 hp_12 (by decide)
  have hCI_16 : CI μ10 := CI.rf hCI_6 hp_12 (by decide)
  have hCr_17 : CIr μ10 := hp_14
  have tx_18 : μ10.1 0 1 = μ2.1 0 1 := hp_12.1 0 (by decide) 1
  have tm_19 : μ10.1 111 2 = μ2.1 111 2 := hp_13 2 (by decide)
  have hr_r_11 : -2147483648 ≤ r_11 ∧ r_11 ≤ 2147483647 := hr_r_11
  refine lv_pop hx hb dL_law_430 rfl ?_
  refine lv_goto (tgt := 569) hx hb dL_law_431 (by decide) ?_
  have hT9 : μ10.1 0 1 = μ10.1 111 2 := by omega
  exact kk _ _ _ _ _ G hI_15 hCI_16 hCr_17 hT9
set_option maxHeartbeats 4000000 in
set_option maxRecDepth 100000 in
theorem law6_8 {p : Program} {l : Launch} {e : Env} {s : State} {m : MethodId} {below : List Frame} {meth : Method} {c : Code} {b L : Nat} {xs : Nat → Int32} {ω : Om} (C0 : lw_At p s m meth c b L xs) (hL : (L : Int) ≤ 3072) (hoB : oB ω = s.heap.size) {i : Int} (hi : 0 ≤ i ∧ i + 6 ≤ (L : Int)) {ρ : Int → Nat} {μ : M3} {d0 : Drawn} {H : Heap} {locs : List Loc} {ls : Array Slot} (G : Gd ω ρ μ p m c cL_law 4 s #[Value.ref b] RL d0 room_1 H locs) (hI : IC μ) (hCI : CI μ) (hCr : CIr μ) (hT : μ.1 0 1 = μ.1 111 2) (hl : lv_has ls 4 [(3, .int (iv i)), (2, .ref (oP ω 111)), (1, .ref (oP ω 0)), (0, .ref b)]) (kk : ∀ (ρ : Int → Nat) (μ : M3) (d0 : Drawn) (H : Heap) (locs : List Loc), Gd ω ρ μ p m c cL_law 4 s #[Value.ref b] RL d0 room_1 H locs → IC μ → CI μ → CIr μ → μ.1 0 1 = μ.1 111 2 → WT p l e room_1 s d0 m #[Value.ref b] below meth c H locs (lw_Z below #[Value.ref b] s) (F0 m 569 ls [])) : WT p l e room_1 s d0 m #[Value.ref b] below meth c H locs (lw_Z below #[Value.ref b] s) (F0 m 434 ls []) := by
  have hx := G.1.1
  have hb := G.1.2.1
  have hR : room_1.frames = 2048 ∧ room_1.locals = 84000 := ⟨rfl, rfl⟩
  obtain ⟨-, -, hr, hml, hown, hts, hX, hbl, hlocks, hgv⟩ := id C0
  have hbA : ¬ Aw ω b := by show ¬ oB ω ≤ b; omega
  refine lv_aload_n hx hb dL_law_434 rfl (lv_at hl 2 rfl) ?_
  refine xc_lV G (b := 0) (rest := []) (As := []) (c_X11_answer ω l μ hI) (wm 7 86 rfl rfl) (wm 7 87 rfl rfl) (wm 7 88 rfl rfl) rfl rfl (by decide) rfl (wm 1 1 rfl rfl) (wm 7 89 rfl rfl) (by decide) hR (by decide) (n := 0) rfl rfl (Nat.le_of_ble_eq_true rfl) hl.1 dL_law_435 (fun r_2 μ1 ρ d0 H locs hr_r_2 hp G => ?_)
  have hp_3 := hp
  have hI_4 : IC μ1 := by rw [hp_3]; exact hI
  have hCI_5 : CI μ1 := by rw [hp_3]; exact hCI
  have hCr_6 : CIr μ1 := by rw [hp_3]; exact hCr
  have tx_7 : μ1.1 0 1 = μ.1 0 1 := by rw [hp_3]
  have tm_8 : μ1.1 111 2 = μ.1 111 2 := by rw [hp_3]
  refine lv_pop2_2 hx hb dL_law_438 rfl ?_
  refine lv_aload_n hx hb dL_law_439 rfl (lv_at hl 1 rfl) ?_
  refine xc_lV G (b := 111) (rest := []) (As := []) (c_X12_answer ω l μ1 hCr_6) (wm 11 56 rfl rfl) (wm 11 57 rfl rfl) (wm 11 58 rfl rfl) rfl rfl (by decide) rfl (wm 1 18 rfl rfl) (wm 11 59 rfl rfl) (by decide) hR (by decide) (n := 0) rfl rfl (Nat.le_of_ble_eq_true rfl) hl.1 dL_law_440 (fun r_10 μ9 ρ d0 H locs hr_r_10 hp G => ?_)
  obtain ⟨hp_11, hp_12, hp_13⟩ := hp
  have hI_14 : IC μ9 := IC.rf hI_4 hp_11 (by decide)
  have hCI_15 : CI μ9 := CI.rf hCI_5 hp_11 (by decide)
  have hCr_16 : CIr μ9 := hp_13
  have tx_17 : μ9.1 0 1 = μ1.1 0 1 := hp_11.1 0 (by decide) 1
  have tm_18 : μ9.1 111 2 = μ1.1 111 2 := hp_12 2 (by decide)
  refine lv_pop2_2 hx hb dL_law_443 rfl ?_
  refine lv_goto (tgt := 569) hx hb dL_law_444 (by decide) ?_
  have hT9 : μ9.1 0 1 = μ9.1 111 2 := by omega
  exact kk _ _ _ _ _ G hI_14 hCI_15 hCr_16 hT9
set_option maxHeartbeats 4000000 in
set_option maxRecDepth 100000 in
theorem law6_9 {p : Program} {l : Launch} {e : Env} {s : State} {m : MethodId} {below : List Frame} {meth : Method} {c : Code} {b L : Nat} {xs : Nat → Int32} {ω : Om} (C0 : lw_At p s m meth c b L xs) (hL : (L : Int) ≤ 3072) (hoB : oB ω = s.heap.size) {i : Int} (hi : 0 ≤ i ∧ i + 6 ≤ (L : Int)) {ρ : Int → Nat} {μ : M3} {d0 : Drawn} {H : Heap} {locs : List Loc} {ls : Array Slot} (G : Gd ω ρ μ p m c cL_law 4 s #[Value.ref b] RL d0 room_1 H locs) (hI : IC μ) (hCI : CI μ) (hCr : CIr μ) (hT : μ.1 0 1 = μ.1 111 2) (hl : lv_has ls 4 [(3, .int (iv i)), (2, .ref (oP ω 111)), (1, .ref (oP ω 0)), (0, .ref b)]) (kk : ∀ (ρ : Int → Nat) (μ : M3) (d0 : Drawn) (H : Heap) (locs : List Loc), Gd ω ρ μ p m c cL_law 4 s #[Value.ref b] RL d0 room_1 H locs → IC μ → CI μ → CIr μ → μ.1 0 1 = μ.1 111 2 → WT p l e room_1 s d0 m #[Value.ref b] below meth c H locs (lw_Z below #[Value.ref b] s) (F0 m 569 ls [])) : WT p l e room_1 s d0 m #[Value.ref b] below meth c H locs (lw_Z below #[Value.ref b] s) (F0 m 447 ls []) := by
  have hx := G.1.1
  have hb := G.1.2.1
  have hR : room_1.frames = 2048 ∧ room_1.locals = 84000 := ⟨rfl, rfl⟩
  obtain ⟨-, -, hr, hml, hown, hts, hX, hbl, hlocks, hgv⟩ := id C0
  have hbA : ¬ Aw ω b := by show ¬ oB ω ≤ b; omega
  refine lv_aload_n hx hb dL_law_447 rfl (lv_at hl 2 rfl) ?_
  refine lv_aload_n hx hb dL_law_448 rfl (lv_at hl 3 rfl) ?_
  refine lv_iload_n hx hb dL_law_449 rfl (lv_at hl 0 rfl) ?_
  refine lv_iconst (v := iv 1) hx hb dL_law_450 rfl ?_
  refine xb_iadd hx hb dL_law_451 ?_
  refine va_sld (s := s.setDrawn d0) hx hb hX hbl hbA G.2.2.2.1 (iv_in (x := i + 1) (n := (L : Int)) (by omega) (by omega)) dL_law_452 ?_
  refine xb_topi (fun y_1 hr_y_1 he_y_1 => ?_)
  have hr_y_1 : -2147483648 ≤ y_1 ∧ y_1 ≤ 2147483647 := hr_y_1
  refine xc_lV G (b := 0) (rest := []) (As := [.int (iv y_1)]) (c_X11_mark ω l μ y_1 (by unfold ir; omega) hI) (wm 7 94 rfl rfl) (wm 7 95 rfl rfl) (wm 7 96 rfl rfl) rfl rfl (by decide) rfl (wm 1 1 rfl rfl) (wm 7 97 rfl rfl) (by decide) hR (by decide) (n := 1) rfl rfl (Nat.le_of_ble_eq_true rfl) hl.1 dL_law_453 (fun r_3 μ2 ρ d0 H locs hr_r_3 hp G => ?_)
  have hp_4 := hp
  have hI_5 : IC μ2 := by rw [hp_4]; exact hI
  have hCI_6 : CI μ2 := by rw [hp_4]; exact hCI
  have hCr_7 : CIr μ2 := by rw [hp_4]; exact hCr
  have tx_8 : μ2.1 0 1 = μ.1 0 1 := by rw [hp_4]
  have tm_9 : μ2.1 111 2 = μ.1 111 2 := by rw [hp_4]
  refine lv_pop2_2 hx hb dL_law_456 rfl ?_
  refine lv_aload_n hx hb dL_law_457 rfl (lv_at hl 1 rfl) ?_
  refine lv_aload_n hx hb dL_law_458 rfl (lv_at hl 3 rfl) ?_
  refine lv_iload_n hx hb dL_law_459 rfl (lv_at hl 0 rfl) ?_
  refine lv_iconst (v := iv 1) hx hb dL_law_460 rfl ?_
  refine xb_iadd hx hb dL_law_461 ?_
  refine va_sld (s := s.setDrawn d0) hx hb hX hbl hbA G.2.2.2.1 (iv_in (x := i + 1) (n := (L : Int)) (by omega) (by omega)) dL_law_462 ?_
  refine my_ti (v := iv y_1) he_y_1.symm ?_
  refine xc_lV G (b := 111) (rest := []) (As := [.int (iv y_1)]) (c_X12_mark ω l μ2 y_1 (by unfold ir; omega) hCr_7) (wm 11 60 rfl rfl) (wm 11 61 rfl rfl) (wm 11 62 rfl rfl) rfl rfl (by decide) rfl (wm 1 18 rfl rfl) (wm 11 63 rfl rfl) (by decide) hR (by decide) (n := 1) rfl rfl (Nat.le_of_ble_eq_true rfl) hl.1 dL_law_463 (fun r_11 μ10 ρ d0 H locs hr_r_11 hp G => ?_)
  obtain ⟨hp_12, hp_13, hp_14⟩ := hp
  have hI_15 : IC μ10 := IC.rf hI_5 hp_12 (by decide)
  have hCI_16 : CI μ10 := CI.rf hCI_6 hp_12 (by decide)
  have hCr_17 : CIr μ10 := hp_14
  have tx_18 : μ10.1 0 1 = μ2.1 0 1 := hp_12.1 0 (by decide) 1
  have tm_19 : μ10.1 111 2 = μ2.1 111 2 := hp_13 2 (by decide)
  refine lv_pop2_2 hx hb dL_law_466 rfl ?_
  refine lv_goto (tgt := 569) hx hb dL_law_467 (by decide) ?_
  have hT9 : μ10.1 0 1 = μ10.1 111 2 := by omega
  exact kk _ _ _ _ _ G hI_15 hCI_16 hCr_17 hT9
set_option maxHeartbeats 4000000 in
set_option maxRecDepth 100000 in
theorem law6_10 {p : Program} {l : Launch} {e : Env} {s : State} {m : MethodId} {below : List Frame} {meth : Method} {c : Code} {b L : Nat} {xs : Nat → Int32} {ω : Om} (C0 : lw_At p s m meth c b L xs) (hL : (L : Int) ≤ 3072) (hoB : oB ω = s.heap.size) {i : Int} (hi : 0 ≤ i ∧ i + 6 ≤ (L : Int)) {ρ : Int → Nat} {μ : M3} {d0 : Drawn} {H : Heap} {locs : List Loc} {ls : Array Slot} (G : Gd ω ρ μ p m c cL_law 4 s #[Value.ref b] RL d0 room_1 H locs) (hI : IC μ) (hCI : CI μ) (hCr : CIr μ) (hT : μ.1 0 1 = μ.1 111 2) (hl : lv_has ls 4 [(3, .int (iv i)), (2, .ref (oP ω 111)), (1, .ref (oP ω 0)), (0, .ref b)]) (kk : ∀ (ρ : Int → Nat) (μ : M3) (d0 : Drawn) (H : Heap) (locs : List Loc), Gd ω ρ μ p m c cL_law 4 s #[Value.ref b] RL d0 room_1 H locs → IC μ → CI μ → CIr μ → μ.1 0 1 = μ.1 111 2 → WT p l e room_1 s d0 m #[Value.ref b] below meth c H locs (lw_Z below #[Value.ref b] s) (F0 m 569 ls [])) : WT p l e room_1 s d0 m #[Value.ref b] below meth c H locs (lw_Z below #[Value.ref b] s) (F0 m 470 ls []) := by
  have hx := G.1.1
  have hb := G.1.2.1
  have hR : room_1.frames = 2048 ∧ room_1.locals = 84000 := ⟨rfl, rfl⟩
  obtain ⟨-, -, hr, hml, hown, hts, hX, hbl, hlocks, hgv⟩ := id C0
  have hbA : ¬ Aw ω b := by show ¬ oB ω ≤ b; omega
  refine lv_aload_n hx hb dL_law_470 rfl (lv_at hl 2 rfl) ?_
  refine lv_aload_n hx hb dL_law_471 rfl (lv_at hl 3 rfl) ?_
  refine lv_iload_n hx hb dL_law_472 rfl (lv_at hl 0 rfl) ?_
  refine lv_iconst (v := iv 1) hx hb dL_law_473 rfl ?_
  refine xb_iadd hx hb dL_law_474 ?_
  refine va_sld (s := s.setDrawn d0) hx hb hX hbl hbA G.2.2.2.1 (iv_in (x := i + 1) (n := (L : Int)) (by omega) (by omega)) dL_law_475 ?_
  refine xb_topi (fun y_1 hr_y_1 he_y_1 => ?_)
  have hr_y_1 : -2147483648 ≤ y_1 ∧ y_1 ≤ 2147483647 := hr_y_1
  refine xc_iV G (b := 0) (rest := []) (As := [.int (iv y_1)]) (c_X11_markTongue ω l μ y_1 (by unfold ir; omega) hI) (wm 7 102 rfl rfl) (wm 7 103 rfl rfl) (wm 7 104 rfl rfl) rfl rfl (by decide) rfl (wm 1 1 rfl rfl) (wm 7 105 rfl rfl) (by decide) hR (by decide) (n := 1) rfl rfl (Nat.le_of_ble_eq_true rfl) hl.1 dL_law_476 (fun r_3 μ2 ρ d0 H locs hr_r_3 hp G => ?_)
  have hp_4 := hp
  have hI_5 : IC μ2 := by rw [hp_4]; exact hI
  have hCI_6 : CI μ2 := by rw [hp_4]; exact hCI
  have hCr_7 : CIr μ2 := by rw [hp_4]; exact hCr
  have tx_8 : μ2.1 0 1 = μ.1 0 1 := by rw [hp_4]
  have tm_9 : μ2.1 111 2 = μ.1 111 2 := by rw [hp_4]
  have hr_r_3 : -2147483648 ≤ r_3 ∧ r_3 ≤ 2147483647 := hr_r_3
  refine lv_pop hx hb dL_law_479 rfl ?_
  refine lv_aload_n hx hb dL_law_480 rfl (lv_at hl 1 rfl) ?_
  refine lv_aload_n hx hb dL_law_481 rfl (lv_at hl 3 rfl) ?_
  refine lv_iload_n hx hb dL_law_482 rfl (lv_at hl 0 rfl) ?_
  refine lv_iconst (v := iv 1) hx hb dL_law_483 rfl ?_
  refine xb_iadd hx hb dL_law_484 ?_
  refine va_sld (s := s.setDrawn d0) hx hb hX hbl hbA G.2.2.2.1 (iv_in (x := i + 1) (n := (L : Int)) (by omega) (by omega)) dL_law_485 ?_
  refine my_ti (v := iv y_1) he_y_1.symm ?_
  refine xc_iV G (b := 111) (rest := []) (As := [.int (iv y_1)]) (c_X12_markTongue ω l μ2 y_1 (by unfold ir; omega) hCr_7) (wm 11 64 rfl rfl) (wm 11 65 rfl rfl) (wm 11 66 rfl rfl) rfl rfl (by decide) rfl (wm 1 18 rfl rfl) (wm 11 67 rfl rfl) (by decide) hR (by decide) (n := 1) rfl rfl (Nat.le_of_ble_eq_true rfl) hl.1 dL_law_486 (fun r_11 μ10 ρ d0 H locs hr_r_11 hp G => ?_)
  obtain ⟨hp_12, hp_13, hp_14⟩ := hp
  have hI_15 : IC μ10 := IC.rf hI_5 hp_12 (by decide)
  have hCI_16 : CI μ10 := CI.rf hCI_6 hp_12 (by decide)
  have hCr_17 : CIr μ10 := hp_14
  have tx_18 : μ10.1 0 1 = μ2.1 0 1 := hp_12.1 0 (by decide) 1
  have tm_19 : μ10.1 111 2 = μ2.1 111 2 := hp_13 2 (by decide)
  have hr_r_11 : -2147483648 ≤ r_11 ∧ r_11 ≤ 2147483647 := hr_r_11
  refine lv_pop hx hb dL_law_489 rfl ?_
  refine lv_goto (tgt := 569) hx hb dL_law_490 (by decide) ?_
  have hT9 : μ10.1 0 1 = μ10.1 111 2 := by omega
  exact kk _ _ _ _ _ G hI_15 hCI_16 hCr_17 hT9
set_option maxHeartbeats 4000000 in
set_option maxRecDepth 100000 in
theorem law6_11 {p : Program} {l : Launch} {e : Env} {s : State} {m : MethodId} {below : List Frame} {meth : Method} {c : Code} {b L : Nat} {xs : Nat → Int32} {ω : Om} (C0 : lw_At p s m meth c b L xs) (hL : (L : Int) ≤ 3072) (hoB : oB ω = s.heap.size) {i : Int} (hi : 0 ≤ i ∧ i + 6 ≤ (L : Int)) {ρ : Int → Nat} {μ : M3} {d0 : Drawn} {H : Heap} {locs : List Loc} {ls : Array Slot} (G : Gd ω ρ μ p m c cL_law 4 s #[Value.ref b] RL d0 room_1 H locs) (hI : IC μ) (hCI : CI μ) (hCr : CIr μ) (hT : μ.1 0 1 = μ.1 111 2) (hl : lv_has ls 4 [(3, .int (iv i)), (2, .ref (oP ω 111)), (1, .ref (oP ω 0)), (0, .ref b)]) (kk : ∀ (ρ : Int → Nat) (μ : M3) (d0 : Drawn) (H : Heap) (locs : List Loc), Gd ω ρ μ p m c cL_law 4 s #[Value.ref b] RL d0 room_1 H locs → IC μ → CI μ → CIr μ → μ.1 0 1 = μ.1 111 2 → WT p l e room_1 s d0 m #[Value.ref b] below meth c H locs (lw_Z below #[Value.ref b] s) (F0 m 569 ls [])) : WT p l e room_1 s d0 m #[Value.ref b] below meth c H locs (lw_Z below #[Value.ref b] s) (F0 m 493 ls []) := by
  have hx := G.1.1
  have hb := G.1.2.1
  have hR : room_1.frames = 2048 ∧ room_1.locals = 84000 := ⟨rfl, rfl⟩
  obtain ⟨-, -, hr, hml, hown, hts, hX, hbl, hlocks, hgv⟩ := id C0
  have hbA : ¬ Aw ω b := by show ¬ oB ω ≤ b; omega
  refine lv_aload_n hx hb dL_law_493 rfl (lv_at hl 2 rfl) ?_
  refine lv_aload_n hx hb dL_law_494 rfl (lv_at hl 3 rfl) ?_
  refine lv_iload_n hx hb dL_law_495 rfl (lv_at hl 0 rfl) ?_
  refine lv_iconst (v := iv 1) hx hb dL_law_496 rfl ?_
  refine xb_iadd hx hb dL_law_497 ?_
  refine va_sld (s := s.setDrawn d0) hx hb hX hbl hbA G.2.2.2.1 (iv_in (x := i + 1) (n := (L : Int)) (by omega) (by omega)) dL_law_498 ?_
  refine xb_topi (fun y_1 hr_y_1 he_y_1 => ?_)
  have hr_y_1 : -2147483648 ≤ y_1 ∧ y_1 ≤ 2147483647 := hr_y_1
  refine lv_aload_n hx hb dL_law_499 rfl (lv_at hl 3 rfl) ?_
  refine lv_iload_n hx hb dL_law_500 rfl (lv_at hl 0 rfl) ?_
  refine lv_iconst (v := iv 2) hx hb dL_law_501 rfl ?_
  refine xb_iadd hx hb dL_law_502 ?_
  refine va_sld (s := s.setDrawn d0) hx hb hX hbl hbA G.2.2.2.1 (iv_in (x := i + 2) (n := (L : Int)) (by omega) (by omega)) dL_law_503 ?_
  refine xb_topi (fun y_2 hr_y_2 he_y_2 => ?_)
  have hr_y_2 : -2147483648 ≤ y_2 ∧ y_2 ≤ 2147483647 := hr_y_2
  refine xc_iV G (b := 0) (rest := []) (As := [.int (iv y_1), .int (iv y_2)]) (c_X11_failure ω l μ y_1 y_2 (by unfold ir; omega) (by unfold ir; omega) hI) (wm 7 110 rfl rfl) (wm 7 111 rfl rfl) (wm 7 112 rfl rfl) rfl rfl (by decide) rfl (wm 1 1 rfl rfl) (wm 7 113 rfl rfl) (by decide) hR (by decide) (n := 2) rfl rfl (Nat.le_of_ble_eq_true rfl) hl.1 dL_law_504 (fun r_4 μ3 ρ d0 H locs hr_r_4 hp G => ?_)
  have hp_5 := hp
  have hI_6 : IC μ3 := by rw [hp_5]; exact hI
  have hCI_7 : CI μ3 := by rw [hp_5]; exact hCI
  have hCr_8 : CIr μ3 := by rw [hp_5]; exact hCr
  have tx_9 : μ3.1 0 1 = μ.1 0 1 := by rw [hp_5]
  have tm_10 : μ3.1 111 2 = μ.1 111 2 := by rw [hp_5]
  have hr_r_4 : -2147483648 ≤ r_4 ∧ r_4 ≤ 2147483647 := hr_r_4
  refine lv_pop hx hb dL_law_507 rfl ?_
  refine lv_aload_n hx hb dL_law_508 rfl (lv_at hl 1 rfl) ?_
  refine lv_aload_n hx hb dL_law_509 rfl (lv_at hl 3 rfl) ?_
  refine lv_iload_n hx hb dL_law_510 rfl (lv_at hl 0 rfl) ?_
  refine lv_iconst (v := iv 1) hx hb dL_law_511 rfl ?_
  refine xb_iadd hx hb dL_law_512 ?_
  refine va_sld (s := s.setDrawn d0) hx hb hX hbl hbA G.2.2.2.1 (iv_in (x := i + 1) (n := (L : Int)) (by omega) (by omega)) dL_law_513 ?_
  refine my_ti (v := iv y_1) he_y_1.symm ?_
  refine lv_aload_n hx hb dL_law_514 rfl (lv_at hl 3 rfl) ?_
  refine lv_iload_n hx hb dL_law_515 rfl (lv_at hl 0 rfl) ?_
  refine lv_iconst (v := iv 2) hx hb dL_law_516 rfl ?_
  refine xb_iadd hx hb dL_law_517 ?_
  refine va_sld (s := s.setDrawn d0) hx hb hX hbl hbA G.2.2.2.1 (iv_in (x := i + 2) (n := (L : Int)) (by omega) (by omega)) dL_law_518 ?_
  refine my_ti (v := iv y_2) he_y_2.symm ?_
  refine xc_iV G (b := 111) (rest := []) (As := [.int (iv y_1), .int (iv y_2)]) (c_X12_failure ω l μ3 y_1 y_2 (by unfold ir; omega) (by unfold ir; omega) hCr_8) (wm 11 68 rfl rfl) (wm 11 69 rfl rfl) (wm 11 70 rfl rfl) rfl rfl (by decide) rfl (wm 1 18 rfl rfl) (wm 11 71 rfl rfl) (by decide) hR (by decide) (n := 2) rfl rfl (Nat.le_of_ble_eq_true rfl) hl.1 dL_law_519 (fun r_12 μ11 ρ d0 H locs hr_r_12 hp G => ?_)
  obtain ⟨hp_13, hp_14, hp_15⟩ := hp
  have hI_16 : IC μ11 := IC.rf hI_6 hp_13 (by decide)
  have hCI_17 : CI μ11 := CI.rf hCI_7 hp_13 (by decide)
  have hCr_18 : CIr μ11 := hp_15
  have tx_19 : μ11.1 0 1 = μ3.1 0 1 := hp_13.1 0 (by decide) 1
  have tm_20 : μ11.1 111 2 = μ3.1 111 2 := hp_14 2 (by decide)
  have hr_r_12 : -2147483648 ≤ r_12 ∧ r_12 ≤ 2147483647 := hr_r_12
  refine lv_pop hx hb dL_law_522 rfl ?_
  refine lv_goto (tgt := 569) hx hb dL_law_523 (by decide) ?_
  have hT9 : μ11.1 0 1 = μ11.1 111 2 := by omega
  exact kk _ _ _ _ _ G hI_16 hCI_17 hCr_18 hT9
set_option maxHeartbeats 4000000 in
set_option maxRecDepth 100000 in
theorem law6_12 {p : Program} {l : Launch} {e : Env} {s : State} {m : MethodId} {below : List Frame} {meth : Method} {c : Code} {b L : Nat} {xs : Nat → Int32} {ω : Om} (C0 : lw_At p s m meth c b L xs) (hL : (L : Int) ≤ 3072) (hoB : oB ω = s.heap.size) {i : Int} (hi : 0 ≤ i ∧ i + 6 ≤ (L : Int)) {ρ : Int → Nat} {μ : M3} {d0 : Drawn} {H : Heap} {locs : List Loc} {ls : Array Slot} (G : Gd ω ρ μ p m c cL_law 4 s #[Value.ref b] RL d0 room_1 H locs) (hI : IC μ) (hCI : CI μ) (hCr : CIr μ) (hT : μ.1 0 1 = μ.1 111 2) (hl : lv_has ls 4 [(3, .int (iv i)), (2, .ref (oP ω 111)), (1, .ref (oP ω 0)), (0, .ref b)]) (kk : ∀ (ρ : Int → Nat) (μ : M3) (d0 : Drawn) (H : Heap) (locs : List Loc), Gd ω ρ μ p m c cL_law 4 s #[Value.ref b] RL d0 room_1 H locs → IC μ → CI μ → CIr μ → μ.1 0 1 = μ.1 111 2 → WT p l e room_1 s d0 m #[Value.ref b] below meth c H locs (lw_Z below #[Value.ref b] s) (F0 m 569 ls [])) : WT p l e room_1 s d0 m #[Value.ref b] below meth c H locs (lw_Z below #[Value.ref b] s) (F0 m 526 ls []) := by
  have hx := G.1.1
  have hb := G.1.2.1
  have hR : room_1.frames = 2048 ∧ room_1.locals = 84000 := ⟨rfl, rfl⟩
  obtain ⟨-, -, hr, hml, hown, hts, hX, hbl, hlocks, hgv⟩ := id C0
  have hbA : ¬ Aw ω b := by show ¬ oB ω ≤ b; omega
  refine lv_aload_n hx hb dL_law_526 rfl (lv_at hl 2 rfl) ?_
  refine lv_aload_n hx hb dL_law_527 rfl (lv_at hl 3 rfl) ?_
  refine lv_iload_n hx hb dL_law_528 rfl (lv_at hl 0 rfl) ?_
  refine lv_iconst (v := iv 1) hx hb dL_law_529 rfl ?_
  refine xb_iadd hx hb dL_law_530 ?_
  refine va_sld (s := s.setDrawn d0) hx hb hX hbl hbA G.2.2.2.1 (iv_in (x := i + 1) (n := (L : Int)) (by omega) (by omega)) dL_law_531 ?_
  refine xb_topi (fun y_1 hr_y_1 he_y_1 => ?_)
  have hr_y_1 : -2147483648 ≤ y_1 ∧ y_1 ≤ 2147483647 := hr_y_1
  refine lv_aload_n hx hb dL_law_532 rfl (lv_at hl 3 rfl) ?_
  refine lv_iload_n hx hb dL_law_533 rfl (lv_at hl 0 rfl) ?_
  refine lv_iconst (v := iv 2) hx hb dL_law_534 rfl ?_
  refine xb_iadd hx hb dL_law_535 ?_
  refine va_sld (s := s.setDrawn d0) hx hb hX hbl hbA G.2.2.2.1 (iv_in (x := i + 2) (n := (L : Int)) (by omega) (by omega)) dL_law_536 ?_
  refine xb_topi (fun y_2 hr_y_2 he_y_2 => ?_)
  have hr_y_2 : -2147483648 ≤ y_2 ∧ y_2 ≤ 2147483647 := hr_y_2
  refine lv_aload_n hx hb dL_law_537 rfl (lv_at hl 3 rfl) ?_
  refine lv_iload_n hx hb dL_law_538 rfl (lv_at hl 0 rfl) ?_
  refine lv_iconst (v := iv 3) hx hb dL_law_539 rfl ?_
  refine xb_iadd hx hb dL_law_540 ?_
  refine va_sld (s := s.setDrawn d0) hx hb hX hbl hbA G.2.2.2.1 (iv_in (x := i + 3) (n := (L : Int)) (by omega) (by omega)) dL_law_541 ?_
  refine xb_topi (fun y_3 hr_y_3 he_y_3 => ?_)
  have hr_y_3 : -2147483648 ≤ y_3 ∧ y_3 ≤ 2147483647 := hr_y_3
  refine xc_iV G (b := 0) (rest := []) (As := [.int (iv y_1), .int (iv y_2), .int (iv y_3)]) (c_X11_under ω l μ y_1 y_2 y_3 (by unfold ir; omega) (by unfold ir; omega) (by unfold ir; omega) hI) (wm 7 123 rfl rfl) (wm 7 124 rfl rfl) (wm 7 125 rfl rfl) rfl rfl (by decide) rfl (wm 1 1 rfl rfl) (wm 7 126 rfl rfl) (by decide) hR (by decide) (n := 3) rfl rfl (Nat.le_of_ble_eq_true rfl) hl.1 dL_law_542 (fun r_5 μ4 ρ d0 H locs hr_r_5 hp G => ?_)
  have hp_6 := hp
  have hI_7 : IC μ4 := by rw [hp_6]; exact hI
  have hCI_8 : CI μ4 := by rw [hp_6]; exact hCI
  have hCr_9 : CIr μ4 := by rw [hp_6]; exact hCr
  have tx_10 : μ4.1 0 1 = μ.1 0 1 := by rw [hp_6]
  have tm_11 : μ4.1 111 2 = μ.1 111 2 := by rw [hp_6]
  have hr_r_5 : -2147483648 ≤ r_5 ∧ r_5 ≤ 2147483647 := hr_r_5
  refine lv_pop hx hb dL_law_545 rfl ?_
  refine lv_aload_n hx hb dL_law_546 rfl (lv_at hl 1 rfl) ?_
  refine lv_aload_n hx hb dL_law_547 rfl (lv_at hl 3 rfl) ?_
  refine lv_iload_n hx hb dL_law_548 rfl (lv_at hl 0 rfl) ?_
  refine lv_iconst (v := iv 1) hx hb dL_law_549 rfl ?_
  refine xb_iadd hx hb dL_law_550 ?_
  refine va_sld (s := s.setDrawn d0) hx hb hX hbl hbA G.2.2.2.1 (iv_in (x := i + 1) (n := (L : Int)) (by omega) (by omega)) dL_law_551 ?_
  refine my_ti (v := iv y_1) he_y_1.symm ?_
  refine lv_aload_n hx hb dL_law_552 rfl (lv_at hl 3 rfl) ?_
  refine lv_iload_n hx hb dL_law_553 rfl (lv_at hl 0 rfl) ?_
  refine lv_iconst (v := iv 2) hx hb dL_law_554 rfl ?_
  refine xb_iadd hx hb dL_law_555 ?_
  refine va_sld (s := s.setDrawn d0) hx hb hX hbl hbA G.2.2.2.1 (iv_in (x := i + 2) (n := (L : Int)) (by omega) (by omega)) dL_law_556 ?_
  refine my_ti (v := iv y_2) he_y_2.symm ?_
  refine lv_aload_n hx hb dL_law_557 rfl (lv_at hl 3 rfl) ?_
  refine lv_iload_n hx hb dL_law_558 rfl (lv_at hl 0 rfl) ?_
  refine lv_iconst (v := iv 3) hx hb dL_law_559 rfl ?_
  refine xb_iadd hx hb dL_law_560 ?_
  refine va_sld (s := s.setDrawn d0) hx hb hX hbl hbA G.2.2.2.1 (iv_in (x := i + 3) (n := (L : Int)) (by omega) (by omega)) dL_law_561 ?_
  refine my_ti (v := iv y_3) he_y_3.symm ?_
  refine xc_iV G (b := 111) (rest := []) (As := [.int (iv y_1), .int (iv y_2), .int (iv y_3)]) (c_X12_under ω l μ4 y_1 y_2 y_3 (by unfold ir; omega) (by unfold ir; omega) (by unfold ir; omega) hCr_9) (wm 11 84 rfl rfl) (wm 11 85 rfl rfl) (wm 11 86 rfl rfl) rfl rfl (by decide) rfl (wm 1 18 rfl rfl) (wm 11 87 rfl rfl) (by decide) hR (by decide) (n := 3) rfl rfl (Nat.le_of_ble_eq_true rfl) hl.1 dL_law_562 (fun r_13 μ12 ρ d0 H locs hr_r_13 hp G => ?_)
  obtain ⟨hp_14, hp_15, hp_16⟩ := hp
  have hI_17 : IC μ12 := IC.rf hI_7 hp_14 (by decide)
  have hCI_18 : CI μ12 := CI.rf hCI_8 hp_14 (by decide)
  have hCr_19 : CIr μ12 := hp_16
  have tx_20 : μ12.1 0 1 = μ4.1 0 1 := hp_14.1 0 (by decide) 1
  have tm_21 : μ12.1 111 2 = μ4.1 111 2 := hp_15 2 (by decide)
  have hr_r_13 : -2147483648 ≤ r_13 ∧ r_13 ≤ 2147483647 := hr_r_13
  refine lv_pop hx hb dL_law_565 rfl ?_
  refine lv_goto (tgt := 569) hx hb dL_law_566 (by decide) ?_
  have hT9 : μ12.1 0 1 = μ12.1 111 2 := by omega
  exact kk _ _ _ _ _ G hI_17 hCI_18 hCr_19 hT9
theorem law6_back {p : Program} {l : Launch} {e : Env} {s : State} {m : MethodId} {below : List Frame} {meth : Method} {c : Code} {b L : Nat} {xs : Nat → Int32} {ω : Om} (C0 : lw_At p s m meth c b L xs) {i : Int} (hi : 0 ≤ i ∧ i + 6 ≤ (L : Int)) (hL : (L : Int) ≤ 3072) {ρ : Int → Nat} {μ : M3} {d0 : Drawn} {H : Heap} {locs : List Loc} {ls : Array Slot} (G : Gd ω ρ μ p m c cL_law 4 s #[Value.ref b] RL d0 room_1 H locs) (hl : lv_has ls 4 [(3, .int (iv i)), (2, .ref (oP ω 111)), (1, .ref (oP ω 0)), (0, .ref b)]) (kk : ∀ ls : Array Slot, lv_has ls 4 [(3, .int (iv (i + 6))), (2, .ref (oP ω 111)), (1, .ref (oP ω 0)), (0, .ref b)] → WT p l e room_1 s d0 m #[Value.ref b] below meth c H locs (lw_Z below #[Value.ref b] s) (F0 m 18 ls [])) : WT p l e room_1 s d0 m #[Value.ref b] below meth c H locs (lw_Z below #[Value.ref b] s) (F0 m 569 ls []) := by
  have hx := G.1.1
  have hb := G.1.2.1
  refine lv_iinc (v := iv (i + 6)) (lv' := [(3, .int (iv (i + 6))), (2, .ref (oP ω 111)), (1, .ref (oP ω 0)), (0, .ref b)]) hx hb dL_law_569 hl (k := 0) rfl (by rw [show Int32.ofInt 6 = iv 6 from rfl, iv_add]) (by decide) rfl (fun ls hl => ?_)
  refine lv_goto (tgt := 18) hx hb dL_law_572 (by decide) ?_
  exact kk _ hl
set_option maxHeartbeats 4000000 in
set_option maxRecDepth 100000 in
theorem law6_loop {p : Program} {l : Launch} {e : Env} {s : State} {m : MethodId} {below : List Frame} {meth : Method} {c : Code} {b L : Nat} {xs : Nat → Int32} {ω : Om} (C0 : lw_At p s m meth c b L xs) (hL : (L : Int) ≤ 3072) (hoB : oB ω = s.heap.size) (hoT : oT ω = tot s.heap) : ∀ (n : Nat) (ρ : Int → Nat) (μ : M3) (d0 : Drawn) (H : Heap) (locs : List Loc) (ls : Array Slot), (∃ i : Int, 0 ≤ i ∧ i ≤ 4000 ∧ IC μ ∧ CI μ ∧ CIr μ ∧ μ.1 0 1 = μ.1 111 2 ∧ n = ((L : Int) + 6 - i).toNat ∧ lv_has ls 4 [(3, .int (iv i)), (2, .ref (oP ω 111)), (1, .ref (oP ω 0)), (0, .ref b)]) → Gd ω ρ μ p m c cL_law 4 s #[Value.ref b] RL d0 room_1 H locs → WT p l e room_1 s d0 m #[Value.ref b] below meth c H locs (lw_Z below #[Value.ref b] s) (F0 m 18 ls []) := by
  refine xl (fun n μ ls => ∃ i : Int, 0 ≤ i ∧ i ≤ 4000 ∧ IC μ ∧ CI μ ∧ CIr μ ∧ μ.1 0 1 = μ.1 111 2 ∧ n = ((L : Int) + 6 - i).toNat ∧ lv_has ls 4 [(3, .int (iv i)), (2, .ref (oP ω 111)), (1, .ref (oP ω 0)), (0, .ref b)]) (fun n ρ μ d0 H locs ls hJ G ih => ?_)
  obtain ⟨i, hi0, hi1, hI, hCI, hCr, hT, hn, hl⟩ := hJ
  have hx := G.1.1
  have hb := G.1.2.1
  have hR : room_1.frames = 2048 ∧ room_1.locals = 84000 := ⟨rfl, rfl⟩
  obtain ⟨-, -, hr, hml, hown, hts, hX, hbl, hlocks, hgv⟩ := id C0
  have hbA : ¬ Aw ω b := by show ¬ oB ω ≤ b; omega
  refine lv_iload_n hx hb dL_law_18 rfl (lv_at hl 0 rfl) ?_
  refine lv_aload_n hx hb dL_law_19 rfl (lv_at hl 3 rfl) ?_
  refine va_slen (s := s.setDrawn d0) hx hb hX hbl hbA G.2.2.2.1 dL_law_20 ?_
  refine my_ti (v := iv (L : Int)) (iv_nat L) ?_
  refine lv_bipush (v := iv 6) hx hb dL_law_21 rfl ?_
  refine xb_isub hx hb dL_law_23 ?_
  refine xb_icmp_gt (tgt := 575) hx hb (by unfold ir; omega) (by unfold ir; omega) dL_law_24 (by decide) (fun c_24 => ?_) (fun c_24 => ?_)
  · refine lv_iconst (v := iv 1) hx hb dL_law_575 rfl ?_
    refine va_forget (fun q hq => (show s.heap.size ≤ q.base by rw [← hoB]; exact G.2.2.2.1.2.2 q hq)) ?_
    have h9 := G.rm2
    refine W.widen (k := 600000) (n := 7302250) (by omega) (by omega) ?_
    exact lw_ret (d0 := d0) G.2.1 hx hb hr hlocks dL_law_576
  · refine lv_aload_n hx hb dL_law_27 rfl (lv_at hl 3 rfl) ?_
    refine lv_iload_n hx hb dL_law_28 rfl (lv_at hl 0 rfl) ?_
    refine va_sld (s := s.setDrawn d0) hx hb hX hbl hbA G.2.2.2.1 (iv_in (x := i) (n := (L : Int)) (by omega) (by omega)) dL_law_29 ?_
    refine xb_topi (fun y_1 hr_y_1 he_y_1 => ?_)
    have hr_y_1 : -2147483648 ≤ y_1 ∧ y_1 ≤ 2147483647 := hr_y_1
    refine lv_bipush (v := iv 15) hx hb dL_law_30 rfl ?_
    refine lv_iand hx hb dL_law_32 ?_
    refine xb_topi (fun y_2 hr_y_2 he_y_2 => ?_)
    have hr_y_2 : -2147483648 ≤ y_2 ∧ y_2 ≤ 2147483647 := hr_y_2
    have hm_y_2 := and_mask y_1 (k := 15) (by omega) he_y_2 hr_y_2
    obtain ⟨j, hj, ej⟩ := and15 (iv y_1)
    refine my_ti (v := nI j) (he_y_2.trans ej) ?_
    have hi : 0 ≤ i ∧ i + 6 ≤ (L : Int) := by omega
    have kk : ∀ (ρ : Int → Nat) (μ : M3) (d0 : Drawn) (H : Heap) (locs : List Loc), Gd ω ρ μ p m c cL_law 4 s #[Value.ref b] RL d0 room_1 H locs → IC μ → CI μ → CIr μ → μ.1 0 1 = μ.1 111 2 → WT p l e room_1 s d0 m #[Value.ref b] below meth c H locs (lw_Z below #[Value.ref b] s) (F0 m 569 ls []) := fun ρ μ d0 H locs G hI hCI hCr hT => law6_back C0 hi hL G hl (fun ls hl => ih _ ρ μ d0 H locs ls (by omega) ⟨i + 6, by omega, by omega, hI, hCI, hCr, hT, rfl, hl⟩ G)
    rcases (show j = 0 ∨ j = 1 ∨ j = 2 ∨ j = 3 ∨ j = 4 ∨ j = 5 ∨ j = 6 ∨ j = 7 ∨ j = 8 ∨ j = 9 ∨ j = 10 ∨ j = 11 ∨ j = 12 ∨ j = 13 ∨ j = 14 ∨ j = 15 by omega) with rfl | rfl | rfl | rfl | rfl | rfl | rfl | rfl | rfl | rfl | rfl | rfl | rfl | rfl | rfl | rfl
    · refine my_ti (v := 0) rfl ?_
      refine lv_tableIn (tgt := 100) hx hb dL_law_33 (by decide) (by decide) (off := 67) rfl (by decide) ?_
      exact law6_0 C0 hL hoB hi G hI hCI hCr hT hl kk
    · refine my_ti (v := 1) rfl ?_
      refine lv_tableIn (tgt := 163) hx hb dL_law_33 (by decide) (by decide) (off := 130) rfl (by decide) ?_
      exact law6_1 C0 hL hoB hi G hI hCI hCr hT hl kk
    · refine my_ti (v := 2) rfl ?_
      refine lv_tableIn (tgt := 196) hx hb dL_law_33 (by decide) (by decide) (off := 163) rfl (by decide) ?_
      exact law6_2 C0 hL hoB hi G hI hCI hCr hT hl kk
    · refine my_ti (v := 3) rfl ?_
      refine lv_tableIn (tgt := 209) hx hb dL_law_33 (by decide) (by decide) (off := 176) rfl (by decide) ?_
      exact law6_3 C0 hL hoB hi G hI hCI hCr hT hl kk
    · refine my_ti (v := 4) rfl ?_
      refine lv_tableIn (tgt := 242) hx hb dL_law_33 (by decide) (by decide) (off := 209) rfl (by decide) ?_
      exact law6_4 C0 hL hoB hi G hI hCI hCr hT hl kk
    · refine my_ti (v := 5) rfl ?_
      refine lv_tableIn (tgt := 285) hx hb dL_law_33 (by decide) (by decide) (off := 252) rfl (by decide) ?_
      exact law6_5 C0 hL hoB hi G hI hCI hCr hT hl kk
    · refine my_ti (v := 6) rfl ?_
      refine lv_tableIn (tgt := 338) hx hb dL_law_33 (by decide) (by decide) (off := 305) rfl (by decide) ?_
      exact law6_6 C0 hL hoB hi G hI hCI hCr hT hl kk
    · refine my_ti (v := 7) rfl ?_
      refine lv_tableIn (tgt := 411) hx hb dL_law_33 (by decide) (by decide) (off := 378) rfl (by decide) ?_
      exact law6_7 C0 hL hoB hi G hI hCI hCr hT hl kk
    · refine my_ti (v := 8) rfl ?_
      refine lv_tableIn (tgt := 434) hx hb dL_law_33 (by decide) (by decide) (off := 401) rfl (by decide) ?_
      exact law6_8 C0 hL hoB hi G hI hCI hCr hT hl kk
    · refine my_ti (v := 9) rfl ?_
      refine lv_tableIn (tgt := 447) hx hb dL_law_33 (by decide) (by decide) (off := 414) rfl (by decide) ?_
      exact law6_9 C0 hL hoB hi G hI hCI hCr hT hl kk
    · refine my_ti (v := 10) rfl ?_
      refine lv_tableIn (tgt := 470) hx hb dL_law_33 (by decide) (by decide) (off := 437) rfl (by decide) ?_
      exact law6_10 C0 hL hoB hi G hI hCI hCr hT hl kk
    · refine my_ti (v := 11) rfl ?_
      refine lv_tableIn (tgt := 493) hx hb dL_law_33 (by decide) (by decide) (off := 460) rfl (by decide) ?_
      exact law6_11 C0 hL hoB hi G hI hCI hCr hT hl kk
    · refine my_ti (v := 12) rfl ?_
      refine lv_tableIn (tgt := 526) hx hb dL_law_33 (by decide) (by decide) (off := 493) rfl (by decide) ?_
      exact law6_12 C0 hL hoB hi G hI hCI hCr hT hl kk
    · refine my_ti (v := 13) rfl ?_
      refine lv_tableOut (tgt := 569) hx hb dL_law_33 (Or.inr (by decide)) (by decide) ?_
      exact kk _ _ _ _ _ G hI hCI hCr hT
    · refine my_ti (v := 14) rfl ?_
      refine lv_tableOut (tgt := 569) hx hb dL_law_33 (Or.inr (by decide)) (by decide) ?_
      exact kk _ _ _ _ _ G hI hCI hCr hT
    · refine my_ti (v := 15) rfl ?_
      refine lv_tableOut (tgt := 569) hx hb dL_law_33 (Or.inr (by decide)) (by decide) ?_
      exact kk _ _ _ _ _ G hI hCI hCr hT
