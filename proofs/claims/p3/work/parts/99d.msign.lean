abbrev cX12_isEquality : ByteArray := prog_14_method_128_code
def yX12_isEquality : MethodName := ⟨RX12, "isEquality", "(I)Z"⟩
abbrev cX12_signs_ : ByteArray := prog_14_method_129_code
def yX12_signs_ : MethodName := ⟨RX12, "signs", "(II)V"⟩
abbrev cX12_reals : ByteArray := prog_14_method_130_code
def yX12_reals : MethodName := ⟨RX12, "reals", "(IDD)V"⟩
abbrev cX12_wholes : ByteArray := prog_14_method_131_code
def yX12_wholes : MethodName := ⟨RX12, "wholes", "(IIJJ)V"⟩
abbrev cX12_minus : ByteArray := prog_14_method_132_code
def yX12_minus : MethodName := ⟨RX12, "minus", "(I)V"⟩
theorem dX12_isEquality_0 : decode cX12_isEquality 0 = .ok (.iload_n 0, 1) := by decide +kernel
theorem dX12_isEquality_1 : decode cX12_isEquality 1 = .ok (.sipush 317, 3) := by decide +kernel
theorem dX12_isEquality_4 : decode cX12_isEquality 4 = .ok (.if_icmp .eq 10, 3) := by decide +kernel
theorem dX12_isEquality_7 : decode cX12_isEquality 7 = .ok (.iload_n 0, 1) := by decide +kernel
theorem dX12_isEquality_8 : decode cX12_isEquality 8 = .ok (.sipush 289, 3) := by decide +kernel
theorem dX12_isEquality_11 : decode cX12_isEquality 11 = .ok (.if_icmp .ne 7, 3) := by decide +kernel
theorem dX12_isEquality_14 : decode cX12_isEquality 14 = .ok (.iconst 1, 1) := by decide +kernel
theorem dX12_isEquality_15 : decode cX12_isEquality 15 = .ok (.goto 4, 3) := by decide +kernel
theorem dX12_isEquality_18 : decode cX12_isEquality 18 = .ok (.iconst 0, 1) := by decide +kernel
theorem dX12_isEquality_19 : decode cX12_isEquality 19 = .ok (.ireturn, 1) := by decide +kernel
theorem dX12_signs__0 : decode cX12_signs_ 0 = .ok (.aload_n 0, 1) := by decide +kernel
theorem dX12_signs__1 : decode cX12_signs_ 1 = .ok (.dup, 1) := by decide +kernel
theorem dX12_signs__2 : decode cX12_signs_ 2 = .ok (.getfield 574, 3) := by decide +kernel
theorem dX12_signs__5 : decode cX12_signs_ 5 = .ok (.iconst 2, 1) := by decide +kernel
theorem dX12_signs__6 : decode cX12_signs_ 6 = .ok (.isub, 1) := by decide +kernel
theorem dX12_signs__7 : decode cX12_signs_ 7 = .ok (.putfield 574, 3) := by decide +kernel
theorem dX12_signs__10 : decode cX12_signs_ 10 = .ok (.aload_n 0, 1) := by decide +kernel
theorem dX12_signs__11 : decode cX12_signs_ 11 = .ok (.getfield 82, 3) := by decide +kernel
theorem dX12_signs__14 : decode cX12_signs_ 14 = .ok (.aload_n 0, 1) := by decide +kernel
theorem dX12_signs__15 : decode cX12_signs_ 15 = .ok (.getfield 574, 3) := by decide +kernel
theorem dX12_signs__18 : decode cX12_signs_ 18 = .ok (.baload, 1) := by decide +kernel
theorem dX12_signs__19 : decode cX12_signs_ 19 = .ok (.istore_n 3, 1) := by decide +kernel
theorem dX12_signs__20 : decode cX12_signs_ 20 = .ok (.aload_n 0, 1) := by decide +kernel
theorem dX12_signs__21 : decode cX12_signs_ 21 = .ok (.getfield 82, 3) := by decide +kernel
theorem dX12_signs__24 : decode cX12_signs_ 24 = .ok (.aload_n 0, 1) := by decide +kernel
theorem dX12_signs__25 : decode cX12_signs_ 25 = .ok (.getfield 574, 3) := by decide +kernel
theorem dX12_signs__28 : decode cX12_signs_ 28 = .ok (.iconst 1, 1) := by decide +kernel
theorem dX12_signs__29 : decode cX12_signs_ 29 = .ok (.iadd, 1) := by decide +kernel
theorem dX12_signs__30 : decode cX12_signs_ 30 = .ok (.baload, 1) := by decide +kernel
theorem dX12_signs__31 : decode cX12_signs_ 31 = .ok (.istore 4, 2) := by decide +kernel
theorem dX12_signs__33 : decode cX12_signs_ 33 = .ok (.aload_n 0, 1) := by decide +kernel
theorem dX12_signs__34 : decode cX12_signs_ 34 = .ok (.getfield 85, 3) := by decide +kernel
theorem dX12_signs__37 : decode cX12_signs_ 37 = .ok (.aload_n 0, 1) := by decide +kernel
theorem dX12_signs__38 : decode cX12_signs_ 38 = .ok (.getfield 574, 3) := by decide +kernel
theorem dX12_signs__41 : decode cX12_signs_ 41 = .ok (.laload, 1) := by decide +kernel
theorem dX12_signs__42 : decode cX12_signs_ 42 = .ok (.lstore 5, 2) := by decide +kernel
theorem dX12_signs__44 : decode cX12_signs_ 44 = .ok (.aload_n 0, 1) := by decide +kernel
theorem dX12_signs__45 : decode cX12_signs_ 45 = .ok (.getfield 85, 3) := by decide +kernel
theorem dX12_signs__48 : decode cX12_signs_ 48 = .ok (.aload_n 0, 1) := by decide +kernel
theorem dX12_signs__49 : decode cX12_signs_ 49 = .ok (.getfield 574, 3) := by decide +kernel
theorem dX12_signs__52 : decode cX12_signs_ 52 = .ok (.iconst 1, 1) := by decide +kernel
theorem dX12_signs__53 : decode cX12_signs_ 53 = .ok (.iadd, 1) := by decide +kernel
theorem dX12_signs__54 : decode cX12_signs_ 54 = .ok (.laload, 1) := by decide +kernel
theorem dX12_signs__55 : decode cX12_signs_ 55 = .ok (.lstore 7, 2) := by decide +kernel
theorem dX12_signs__57 : decode cX12_signs_ 57 = .ok (.iload_n 2, 1) := by decide +kernel
theorem dX12_signs__58 : decode cX12_signs_ 58 = .ok (.invokestatic 771, 3) := by decide +kernel
theorem dX12_signs__61 : decode cX12_signs_ 61 = .ok (.ifCond .eq 83, 3) := by decide +kernel
theorem dX12_signs__64 : decode cX12_signs_ 64 = .ok (.iload_n 3, 1) := by decide +kernel
theorem dX12_signs__65 : decode cX12_signs_ 65 = .ok (.iload 4, 2) := by decide +kernel
theorem dX12_signs__67 : decode cX12_signs_ 67 = .ok (.if_icmp .ne 46, 3) := by decide +kernel
theorem dX12_signs__70 : decode cX12_signs_ 70 = .ok (.iload_n 3, 1) := by decide +kernel
theorem dX12_signs__71 : decode cX12_signs_ 71 = .ok (.ifCond .eq 38, 3) := by decide +kernel
theorem dX12_signs__74 : decode cX12_signs_ 74 = .ok (.iload_n 3, 1) := by decide +kernel
theorem dX12_signs__75 : decode cX12_signs_ 75 = .ok (.iconst 1, 1) := by decide +kernel
theorem dX12_signs__76 : decode cX12_signs_ 76 = .ok (.if_icmp .ne 25, 3) := by decide +kernel
theorem dX12_signs__79 : decode cX12_signs_ 79 = .ok (.iload_n 1, 1) := by decide +kernel
theorem dX12_signs__80 : decode cX12_signs_ 80 = .ok (.iconst 3, 1) := by decide +kernel
theorem dX12_signs__81 : decode cX12_signs_ 81 = .ok (.if_icmp .ne 20, 3) := by decide +kernel
theorem dX12_signs__84 : decode cX12_signs_ 84 = .ok (.lload 5, 2) := by decide +kernel
theorem dX12_signs__86 : decode cX12_signs_ 86 = .ok (.invokestatic 545, 3) := by decide +kernel
theorem dX12_signs__89 : decode cX12_signs_ 89 = .ok (.lload 7, 2) := by decide +kernel
theorem dX12_signs__91 : decode cX12_signs_ 91 = .ok (.invokestatic 545, 3) := by decide +kernel
theorem dX12_signs__94 : decode cX12_signs_ 94 = .ok (.dcmp .l, 1) := by decide +kernel
theorem dX12_signs__95 : decode cX12_signs_ 95 = .ok (.ifCond .ne 18, 3) := by decide +kernel
theorem dX12_signs__98 : decode cX12_signs_ 98 = .ok (.goto 11, 3) := by decide +kernel
theorem dX12_signs__101 : decode cX12_signs_ 101 = .ok (.lload 5, 2) := by decide +kernel
theorem dX12_signs__103 : decode cX12_signs_ 103 = .ok (.lload 7, 2) := by decide +kernel
theorem dX12_signs__105 : decode cX12_signs_ 105 = .ok (.lcmp, 1) := by decide +kernel
theorem dX12_signs__106 : decode cX12_signs_ 106 = .ok (.ifCond .ne 7, 3) := by decide +kernel
theorem dX12_signs__109 : decode cX12_signs_ 109 = .ok (.iconst 1, 1) := by decide +kernel
theorem dX12_signs__110 : decode cX12_signs_ 110 = .ok (.goto 4, 3) := by decide +kernel
theorem dX12_signs__113 : decode cX12_signs_ 113 = .ok (.iconst 0, 1) := by decide +kernel
theorem dX12_signs__114 : decode cX12_signs_ 114 = .ok (.istore 9, 2) := by decide +kernel
theorem dX12_signs__116 : decode cX12_signs_ 116 = .ok (.aload_n 0, 1) := by decide +kernel
theorem dX12_signs__117 : decode cX12_signs_ 117 = .ok (.iload_n 1, 1) := by decide +kernel
theorem dX12_signs__118 : decode cX12_signs_ 118 = .ok (.iload 9, 2) := by decide +kernel
theorem dX12_signs__120 : decode cX12_signs_ 120 = .ok (.iload_n 2, 1) := by decide +kernel
theorem dX12_signs__121 : decode cX12_signs_ 121 = .ok (.sipush 317, 3) := by decide +kernel
theorem dX12_signs__124 : decode cX12_signs_ 124 = .ok (.if_icmp .ne 7, 3) := by decide +kernel
theorem dX12_signs__127 : decode cX12_signs_ 127 = .ok (.iconst 1, 1) := by decide +kernel
theorem dX12_signs__128 : decode cX12_signs_ 128 = .ok (.goto 4, 3) := by decide +kernel
theorem dX12_signs__131 : decode cX12_signs_ 131 = .ok (.iconst 0, 1) := by decide +kernel
theorem dX12_signs__132 : decode cX12_signs_ 132 = .ok (.if_icmp .ne 7, 3) := by decide +kernel
theorem dX12_signs__135 : decode cX12_signs_ 135 = .ok (.lconst 1, 1) := by decide +kernel
theorem dX12_signs__136 : decode cX12_signs_ 136 = .ok (.goto 4, 3) := by decide +kernel
theorem dX12_signs__139 : decode cX12_signs_ 139 = .ok (.lconst 0, 1) := by decide +kernel
theorem dX12_signs__140 : decode cX12_signs_ 140 = .ok (.invokevirtual 726, 3) := by decide +kernel
theorem dX12_signs__143 : decode cX12_signs_ 143 = .ok (.return_, 1) := by decide +kernel
theorem dX12_signs__144 : decode cX12_signs_ 144 = .ok (.iload_n 3, 1) := by decide +kernel
theorem dX12_signs__145 : decode cX12_signs_ 145 = .ok (.iconst 1, 1) := by decide +kernel
theorem dX12_signs__146 : decode cX12_signs_ 146 = .ok (.if_icmp .ne 9, 3) := by decide +kernel
theorem dX12_signs__149 : decode cX12_signs_ 149 = .ok (.iload 4, 2) := by decide +kernel
theorem dX12_signs__151 : decode cX12_signs_ 151 = .ok (.iconst 1, 1) := by decide +kernel
theorem dX12_signs__152 : decode cX12_signs_ 152 = .ok (.if_icmp .eq 11, 3) := by decide +kernel
theorem dX12_signs__155 : decode cX12_signs_ 155 = .ok (.aload_n 0, 1) := by decide +kernel
theorem dX12_signs__156 : decode cX12_signs_ 156 = .ok (.iconst 4, 1) := by decide +kernel
theorem dX12_signs__157 : decode cX12_signs_ 157 = .ok (.invokevirtual 678, 3) := by decide +kernel
theorem dX12_signs__160 : decode cX12_signs_ 160 = .ok (.goto 233, 3) := by decide +kernel
theorem dX12_signs__163 : decode cX12_signs_ 163 = .ok (.iload_n 2, 1) := by decide +kernel
theorem dX12_signs__164 : decode cX12_signs_ 164 = .ok (.invokestatic 465, 3) := by decide +kernel
theorem dX12_signs__167 : decode cX12_signs_ 167 = .ok (.ifCond .eq 163, 3) := by decide +kernel
theorem dX12_signs__170 : decode cX12_signs_ 170 = .ok (.iload_n 1, 1) := by decide +kernel
theorem dX12_signs__171 : decode cX12_signs_ 171 = .ok (.iconst 3, 1) := by decide +kernel
theorem dX12_signs__172 : decode cX12_signs_ 172 = .ok (.if_icmp .ne 43, 3) := by decide +kernel
theorem dX12_signs__175 : decode cX12_signs_ 175 = .ok (.lload 5, 2) := by decide +kernel
theorem dX12_signs__177 : decode cX12_signs_ 177 = .ok (.invokestatic 545, 3) := by decide +kernel
theorem dX12_signs__180 : decode cX12_signs_ 180 = .ok (.lload 7, 2) := by decide +kernel
theorem dX12_signs__182 : decode cX12_signs_ 182 = .ok (.invokestatic 545, 3) := by decide +kernel
theorem dX12_signs__185 : decode cX12_signs_ 185 = .ok (.dcmp .g, 1) := by decide +kernel
theorem dX12_signs__186 : decode cX12_signs_ 186 = .ok (.ifCond .ge 7, 3) := by decide +kernel
theorem dX12_signs__189 : decode cX12_signs_ 189 = .ok (.iconst (-1), 1) := by decide +kernel
theorem dX12_signs__190 : decode cX12_signs_ 190 = .ok (.goto 50, 3) := by decide +kernel
theorem dX12_signs__193 : decode cX12_signs_ 193 = .ok (.lload 5, 2) := by decide +kernel
theorem dX12_signs__195 : decode cX12_signs_ 195 = .ok (.invokestatic 545, 3) := by decide +kernel
theorem dX12_signs__198 : decode cX12_signs_ 198 = .ok (.lload 7, 2) := by decide +kernel
theorem dX12_signs__200 : decode cX12_signs_ 200 = .ok (.invokestatic 545, 3) := by decide +kernel
theorem dX12_signs__203 : decode cX12_signs_ 203 = .ok (.dcmp .l, 1) := by decide +kernel
theorem dX12_signs__204 : decode cX12_signs_ 204 = .ok (.ifCond .le 7, 3) := by decide +kernel
theorem dX12_signs__207 : decode cX12_signs_ 207 = .ok (.iconst 1, 1) := by decide +kernel
theorem dX12_signs__208 : decode cX12_signs_ 208 = .ok (.goto 32, 3) := by decide +kernel
theorem dX12_signs__211 : decode cX12_signs_ 211 = .ok (.iconst 0, 1) := by decide +kernel
theorem dX12_signs__212 : decode cX12_signs_ 212 = .ok (.goto 28, 3) := by decide +kernel
theorem dX12_signs__215 : decode cX12_signs_ 215 = .ok (.lload 5, 2) := by decide +kernel
theorem dX12_signs__217 : decode cX12_signs_ 217 = .ok (.lload 7, 2) := by decide +kernel
theorem dX12_signs__219 : decode cX12_signs_ 219 = .ok (.lcmp, 1) := by decide +kernel
theorem dX12_signs__220 : decode cX12_signs_ 220 = .ok (.ifCond .ge 7, 3) := by decide +kernel
theorem dX12_signs__223 : decode cX12_signs_ 223 = .ok (.iconst (-1), 1) := by decide +kernel
theorem dX12_signs__224 : decode cX12_signs_ 224 = .ok (.goto 16, 3) := by decide +kernel
theorem dX12_signs__227 : decode cX12_signs_ 227 = .ok (.lload 5, 2) := by decide +kernel
theorem dX12_signs__229 : decode cX12_signs_ 229 = .ok (.lload 7, 2) := by decide +kernel
theorem dX12_signs__231 : decode cX12_signs_ 231 = .ok (.lcmp, 1) := by decide +kernel
theorem dX12_signs__232 : decode cX12_signs_ 232 = .ok (.ifCond .le 7, 3) := by decide +kernel
theorem dX12_signs__235 : decode cX12_signs_ 235 = .ok (.iconst 1, 1) := by decide +kernel
theorem dX12_signs__236 : decode cX12_signs_ 236 = .ok (.goto 4, 3) := by decide +kernel
theorem dX12_signs__239 : decode cX12_signs_ 239 = .ok (.iconst 0, 1) := by decide +kernel
theorem dX12_signs__240 : decode cX12_signs_ 240 = .ok (.istore 9, 2) := by decide +kernel
theorem dX12_signs__242 : decode cX12_signs_ 242 = .ok (.iload_n 2, 1) := by decide +kernel
theorem dX12_signs__243 : decode cX12_signs_ 243 = .ok (.bipush 60, 2) := by decide +kernel
theorem dX12_signs__245 : decode cX12_signs_ 245 = .ok (.if_icmp .ne 16, 3) := by decide +kernel
theorem dX12_signs__248 : decode cX12_signs_ 248 = .ok (.iload 9, 2) := by decide +kernel
theorem dX12_signs__250 : decode cX12_signs_ 250 = .ok (.ifCond .ge 7, 3) := by decide +kernel
theorem dX12_signs__253 : decode cX12_signs_ 253 = .ok (.iconst 1, 1) := by decide +kernel
theorem dX12_signs__254 : decode cX12_signs_ 254 = .ok (.goto 56, 3) := by decide +kernel
theorem dX12_signs__257 : decode cX12_signs_ 257 = .ok (.iconst 0, 1) := by decide +kernel
theorem dX12_signs__258 : decode cX12_signs_ 258 = .ok (.goto 52, 3) := by decide +kernel
theorem dX12_signs__261 : decode cX12_signs_ 261 = .ok (.iload_n 2, 1) := by decide +kernel
theorem dX12_signs__262 : decode cX12_signs_ 262 = .ok (.bipush 62, 2) := by decide +kernel
theorem dX12_signs__264 : decode cX12_signs_ 264 = .ok (.if_icmp .ne 16, 3) := by decide +kernel
theorem dX12_signs__267 : decode cX12_signs_ 267 = .ok (.iload 9, 2) := by decide +kernel
theorem dX12_signs__269 : decode cX12_signs_ 269 = .ok (.ifCond .le 7, 3) := by decide +kernel
theorem dX12_signs__272 : decode cX12_signs_ 272 = .ok (.iconst 1, 1) := by decide +kernel
theorem dX12_signs__273 : decode cX12_signs_ 273 = .ok (.goto 37, 3) := by decide +kernel
theorem dX12_signs__276 : decode cX12_signs_ 276 = .ok (.iconst 0, 1) := by decide +kernel
theorem dX12_signs__277 : decode cX12_signs_ 277 = .ok (.goto 33, 3) := by decide +kernel
theorem dX12_signs__280 : decode cX12_signs_ 280 = .ok (.iload_n 2, 1) := by decide +kernel
theorem dX12_signs__281 : decode cX12_signs_ 281 = .ok (.sipush 316, 3) := by decide +kernel
theorem dX12_signs__284 : decode cX12_signs_ 284 = .ok (.if_icmp .ne 16, 3) := by decide +kernel
theorem dX12_signs__287 : decode cX12_signs_ 287 = .ok (.iload 9, 2) := by decide +kernel
theorem dX12_signs__289 : decode cX12_signs_ 289 = .ok (.ifCond .gt 7, 3) := by decide +kernel
theorem dX12_signs__292 : decode cX12_signs_ 292 = .ok (.iconst 1, 1) := by decide +kernel
theorem dX12_signs__293 : decode cX12_signs_ 293 = .ok (.goto 17, 3) := by decide +kernel
theorem dX12_signs__296 : decode cX12_signs_ 296 = .ok (.iconst 0, 1) := by decide +kernel
theorem dX12_signs__297 : decode cX12_signs_ 297 = .ok (.goto 13, 3) := by decide +kernel
theorem dX12_signs__300 : decode cX12_signs_ 300 = .ok (.iload 9, 2) := by decide +kernel
theorem dX12_signs__302 : decode cX12_signs_ 302 = .ok (.ifCond .lt 7, 3) := by decide +kernel
theorem dX12_signs__305 : decode cX12_signs_ 305 = .ok (.iconst 1, 1) := by decide +kernel
theorem dX12_signs__306 : decode cX12_signs_ 306 = .ok (.goto 4, 3) := by decide +kernel
theorem dX12_signs__309 : decode cX12_signs_ 309 = .ok (.iconst 0, 1) := by decide +kernel
theorem dX12_signs__310 : decode cX12_signs_ 310 = .ok (.istore 10, 2) := by decide +kernel
theorem dX12_signs__312 : decode cX12_signs_ 312 = .ok (.aload_n 0, 1) := by decide +kernel
theorem dX12_signs__313 : decode cX12_signs_ 313 = .ok (.iload_n 1, 1) := by decide +kernel
theorem dX12_signs__314 : decode cX12_signs_ 314 = .ok (.iload 10, 2) := by decide +kernel
theorem dX12_signs__316 : decode cX12_signs_ 316 = .ok (.ifCond .eq 7, 3) := by decide +kernel
theorem dX12_signs__319 : decode cX12_signs_ 319 = .ok (.lconst 1, 1) := by decide +kernel
theorem dX12_signs__320 : decode cX12_signs_ 320 = .ok (.goto 4, 3) := by decide +kernel
theorem dX12_signs__323 : decode cX12_signs_ 323 = .ok (.lconst 0, 1) := by decide +kernel
theorem dX12_signs__324 : decode cX12_signs_ 324 = .ok (.invokevirtual 726, 3) := by decide +kernel
theorem dX12_signs__327 : decode cX12_signs_ 327 = .ok (.goto 66, 3) := by decide +kernel
theorem dX12_signs__330 : decode cX12_signs_ 330 = .ok (.iload_n 2, 1) := by decide +kernel
theorem dX12_signs__331 : decode cX12_signs_ 331 = .ok (.bipush 47, 2) := by decide +kernel
theorem dX12_signs__333 : decode cX12_signs_ 333 = .ok (.if_icmp .eq 9, 3) := by decide +kernel
theorem dX12_signs__336 : decode cX12_signs_ 336 = .ok (.iload_n 2, 1) := by decide +kernel
theorem dX12_signs__337 : decode cX12_signs_ 337 = .ok (.bipush 37, 2) := by decide +kernel
theorem dX12_signs__339 : decode cX12_signs_ 339 = .ok (.if_icmp .ne 21, 3) := by decide +kernel
theorem dX12_signs__342 : decode cX12_signs_ 342 = .ok (.aload_n 0, 1) := by decide +kernel
theorem dX12_signs__343 : decode cX12_signs_ 343 = .ok (.iload_n 1, 1) := by decide +kernel
theorem dX12_signs__344 : decode cX12_signs_ 344 = .ok (.lload 7, 2) := by decide +kernel
theorem dX12_signs__346 : decode cX12_signs_ 346 = .ok (.invokevirtual 705, 3) := by decide +kernel
theorem dX12_signs__349 : decode cX12_signs_ 349 = .ok (.ifCond .eq 11, 3) := by decide +kernel
theorem dX12_signs__352 : decode cX12_signs_ 352 = .ok (.aload_n 0, 1) := by decide +kernel
theorem dX12_signs__353 : decode cX12_signs_ 353 = .ok (.iconst 1, 1) := by decide +kernel
theorem dX12_signs__354 : decode cX12_signs_ 354 = .ok (.invokevirtual 678, 3) := by decide +kernel
theorem dX12_signs__357 : decode cX12_signs_ 357 = .ok (.goto 36, 3) := by decide +kernel
theorem dX12_signs__360 : decode cX12_signs_ 360 = .ok (.iload_n 1, 1) := by decide +kernel
theorem dX12_signs__361 : decode cX12_signs_ 361 = .ok (.iconst 3, 1) := by decide +kernel
theorem dX12_signs__362 : decode cX12_signs_ 362 = .ok (.if_icmp .ne 21, 3) := by decide +kernel
theorem dX12_signs__365 : decode cX12_signs_ 365 = .ok (.aload_n 0, 1) := by decide +kernel
theorem dX12_signs__366 : decode cX12_signs_ 366 = .ok (.iload_n 2, 1) := by decide +kernel
theorem dX12_signs__367 : decode cX12_signs_ 367 = .ok (.lload 5, 2) := by decide +kernel
theorem dX12_signs__369 : decode cX12_signs_ 369 = .ok (.invokestatic 545, 3) := by decide +kernel
theorem dX12_signs__372 : decode cX12_signs_ 372 = .ok (.lload 7, 2) := by decide +kernel
theorem dX12_signs__374 : decode cX12_signs_ 374 = .ok (.invokestatic 545, 3) := by decide +kernel
theorem dX12_signs__377 : decode cX12_signs_ 377 = .ok (.invokevirtual 774, 3) := by decide +kernel
theorem dX12_signs__380 : decode cX12_signs_ 380 = .ok (.goto 13, 3) := by decide +kernel
theorem dX12_signs__383 : decode cX12_signs_ 383 = .ok (.aload_n 0, 1) := by decide +kernel
theorem dX12_signs__384 : decode cX12_signs_ 384 = .ok (.iload_n 1, 1) := by decide +kernel
theorem dX12_signs__385 : decode cX12_signs_ 385 = .ok (.iload_n 2, 1) := by decide +kernel
theorem dX12_signs__386 : decode cX12_signs_ 386 = .ok (.lload 5, 2) := by decide +kernel
theorem dX12_signs__388 : decode cX12_signs_ 388 = .ok (.lload 7, 2) := by decide +kernel
theorem dX12_signs__390 : decode cX12_signs_ 390 = .ok (.invokevirtual 778, 3) := by decide +kernel
theorem dX12_signs__393 : decode cX12_signs_ 393 = .ok (.return_, 1) := by decide +kernel
theorem dX12_reals_0 : decode cX12_reals 0 = .ok (.iload_n 1, 1) := by decide +kernel
theorem dX12_reals_1 : decode cX12_reals 1 = .ok (.bipush 43, 2) := by decide +kernel
theorem dX12_reals_3 : decode cX12_reals 3 = .ok (.if_icmp .ne 10, 3) := by decide +kernel
theorem dX12_reals_6 : decode cX12_reals 6 = .ok (.dload_n 2, 1) := by decide +kernel
theorem dX12_reals_7 : decode cX12_reals 7 = .ok (.dload 4, 2) := by decide +kernel
theorem dX12_reals_9 : decode cX12_reals 9 = .ok (.dadd, 1) := by decide +kernel
theorem dX12_reals_10 : decode cX12_reals 10 = .ok (.goto 46, 3) := by decide +kernel
theorem dX12_reals_13 : decode cX12_reals 13 = .ok (.iload_n 1, 1) := by decide +kernel
theorem dX12_reals_14 : decode cX12_reals 14 = .ok (.bipush 45, 2) := by decide +kernel
theorem dX12_reals_16 : decode cX12_reals 16 = .ok (.if_icmp .ne 10, 3) := by decide +kernel
theorem dX12_reals_19 : decode cX12_reals 19 = .ok (.dload_n 2, 1) := by decide +kernel
theorem dX12_reals_20 : decode cX12_reals 20 = .ok (.dload 4, 2) := by decide +kernel
theorem dX12_reals_22 : decode cX12_reals 22 = .ok (.dsub, 1) := by decide +kernel
theorem dX12_reals_23 : decode cX12_reals 23 = .ok (.goto 33, 3) := by decide +kernel
theorem dX12_reals_26 : decode cX12_reals 26 = .ok (.iload_n 1, 1) := by decide +kernel
theorem dX12_reals_27 : decode cX12_reals 27 = .ok (.bipush 42, 2) := by decide +kernel
theorem dX12_reals_29 : decode cX12_reals 29 = .ok (.if_icmp .ne 10, 3) := by decide +kernel
theorem dX12_reals_32 : decode cX12_reals 32 = .ok (.dload_n 2, 1) := by decide +kernel
theorem dX12_reals_33 : decode cX12_reals 33 = .ok (.dload 4, 2) := by decide +kernel
theorem dX12_reals_35 : decode cX12_reals 35 = .ok (.dmul, 1) := by decide +kernel
theorem dX12_reals_36 : decode cX12_reals 36 = .ok (.goto 20, 3) := by decide +kernel
theorem dX12_reals_39 : decode cX12_reals 39 = .ok (.iload_n 1, 1) := by decide +kernel
theorem dX12_reals_40 : decode cX12_reals 40 = .ok (.bipush 47, 2) := by decide +kernel
theorem dX12_reals_42 : decode cX12_reals 42 = .ok (.if_icmp .ne 10, 3) := by decide +kernel
theorem dX12_reals_45 : decode cX12_reals 45 = .ok (.dload_n 2, 1) := by decide +kernel
theorem dX12_reals_46 : decode cX12_reals 46 = .ok (.dload 4, 2) := by decide +kernel
theorem dX12_reals_48 : decode cX12_reals 48 = .ok (.ddiv, 1) := by decide +kernel
theorem dX12_reals_49 : decode cX12_reals 49 = .ok (.goto 7, 3) := by decide +kernel
theorem dX12_reals_52 : decode cX12_reals 52 = .ok (.dload_n 2, 1) := by decide +kernel
theorem dX12_reals_53 : decode cX12_reals 53 = .ok (.dload 4, 2) := by decide +kernel
theorem dX12_reals_55 : decode cX12_reals 55 = .ok (.drem, 1) := by decide +kernel
theorem dX12_reals_56 : decode cX12_reals 56 = .ok (.dstore 6, 2) := by decide +kernel
theorem dX12_reals_58 : decode cX12_reals 58 = .ok (.dload 6, 2) := by decide +kernel
theorem dX12_reals_60 : decode cX12_reals 60 = .ok (.invokestatic 782, 3) := by decide +kernel
theorem dX12_reals_63 : decode cX12_reals 63 = .ok (.ifCond .eq 16, 3) := by decide +kernel
theorem dX12_reals_66 : decode cX12_reals 66 = .ok (.aload_n 0, 1) := by decide +kernel
theorem dX12_reals_67 : decode cX12_reals 67 = .ok (.iconst 1, 1) := by decide +kernel
theorem dX12_reals_68 : decode cX12_reals 68 = .ok (.dload 6, 2) := by decide +kernel
theorem dX12_reals_70 : decode cX12_reals 70 = .ok (.invokestatic 283, 3) := by decide +kernel
theorem dX12_reals_73 : decode cX12_reals 73 = .ok (.invokevirtual 577, 3) := by decide +kernel
theorem dX12_reals_76 : decode cX12_reals 76 = .ok (.goto 9, 3) := by decide +kernel
theorem dX12_reals_79 : decode cX12_reals 79 = .ok (.aload_n 0, 1) := by decide +kernel
theorem dX12_reals_80 : decode cX12_reals 80 = .ok (.bipush 7, 2) := by decide +kernel
theorem dX12_reals_82 : decode cX12_reals 82 = .ok (.invokevirtual 678, 3) := by decide +kernel
theorem dX12_reals_85 : decode cX12_reals 85 = .ok (.return_, 1) := by decide +kernel
theorem dX12_wholes_0 : decode cX12_wholes 0 = .ok (.iload_n 1, 1) := by decide +kernel
theorem dX12_wholes_1 : decode cX12_wholes 1 = .ok (.iconst 2, 1) := by decide +kernel
theorem dX12_wholes_2 : decode cX12_wholes 2 = .ok (.if_icmp .ne 64, 3) := by decide +kernel
theorem dX12_wholes_5 : decode cX12_wholes 5 = .ok (.iload_n 2, 1) := by decide +kernel
theorem dX12_wholes_6 : decode cX12_wholes 6 = .ok (.bipush 42, 2) := by decide +kernel
theorem dX12_wholes_8 : decode cX12_wholes 8 = .ok (.if_icmp .ne 58, 3) := by decide +kernel
theorem dX12_wholes_11 : decode cX12_wholes 11 = .ok (.lload_n 3, 1) := by decide +kernel
theorem dX12_wholes_12 : decode cX12_wholes 12 = .ok (.lconst 0, 1) := by decide +kernel
theorem dX12_wholes_13 : decode cX12_wholes 13 = .ok (.lcmp, 1) := by decide +kernel
theorem dX12_wholes_14 : decode cX12_wholes 14 = .ok (.ifCond .eq 52, 3) := by decide +kernel
theorem dX12_wholes_17 : decode cX12_wholes 17 = .ok (.lload 5, 2) := by decide +kernel
theorem dX12_wholes_19 : decode cX12_wholes 19 = .ok (.ldc2_w 273, 3) := by decide +kernel
theorem dX12_wholes_22 : decode cX12_wholes 22 = .ok (.lload_n 3, 1) := by decide +kernel
theorem dX12_wholes_23 : decode cX12_wholes 23 = .ok (.lconst 0, 1) := by decide +kernel
theorem dX12_wholes_24 : decode cX12_wholes 24 = .ok (.lcmp, 1) := by decide +kernel
theorem dX12_wholes_25 : decode cX12_wholes 25 = .ok (.ifCond .ge 8, 3) := by decide +kernel
theorem dX12_wholes_28 : decode cX12_wholes 28 = .ok (.lload_n 3, 1) := by decide +kernel
theorem dX12_wholes_29 : decode cX12_wholes 29 = .ok (.lneg, 1) := by decide +kernel
theorem dX12_wholes_30 : decode cX12_wholes 30 = .ok (.goto 4, 3) := by decide +kernel
theorem dX12_wholes_33 : decode cX12_wholes 33 = .ok (.lload_n 3, 1) := by decide +kernel
theorem dX12_wholes_34 : decode cX12_wholes 34 = .ok (.ldiv, 1) := by decide +kernel
theorem dX12_wholes_35 : decode cX12_wholes 35 = .ok (.lcmp, 1) := by decide +kernel
theorem dX12_wholes_36 : decode cX12_wholes 36 = .ok (.ifCond .gt 26, 3) := by decide +kernel
theorem dX12_wholes_39 : decode cX12_wholes 39 = .ok (.lload 5, 2) := by decide +kernel
theorem dX12_wholes_41 : decode cX12_wholes 41 = .ok (.ldc2_w 273, 3) := by decide +kernel
theorem dX12_wholes_44 : decode cX12_wholes 44 = .ok (.lload_n 3, 1) := by decide +kernel
theorem dX12_wholes_45 : decode cX12_wholes 45 = .ok (.lconst 0, 1) := by decide +kernel
theorem dX12_wholes_46 : decode cX12_wholes 46 = .ok (.lcmp, 1) := by decide +kernel
theorem dX12_wholes_47 : decode cX12_wholes 47 = .ok (.ifCond .ge 8, 3) := by decide +kernel
theorem dX12_wholes_50 : decode cX12_wholes 50 = .ok (.lload_n 3, 1) := by decide +kernel
theorem dX12_wholes_51 : decode cX12_wholes 51 = .ok (.lneg, 1) := by decide +kernel
theorem dX12_wholes_52 : decode cX12_wholes 52 = .ok (.goto 4, 3) := by decide +kernel
theorem dX12_wholes_55 : decode cX12_wholes 55 = .ok (.lload_n 3, 1) := by decide +kernel
theorem dX12_wholes_56 : decode cX12_wholes 56 = .ok (.ldiv, 1) := by decide +kernel
theorem dX12_wholes_57 : decode cX12_wholes 57 = .ok (.lneg, 1) := by decide +kernel
theorem dX12_wholes_58 : decode cX12_wholes 58 = .ok (.lcmp, 1) := by decide +kernel
theorem dX12_wholes_59 : decode cX12_wholes 59 = .ok (.ifCond .ge 7, 3) := by decide +kernel
theorem dX12_wholes_62 : decode cX12_wholes 62 = .ok (.iconst 1, 1) := by decide +kernel
theorem dX12_wholes_63 : decode cX12_wholes 63 = .ok (.goto 4, 3) := by decide +kernel
theorem dX12_wholes_66 : decode cX12_wholes 66 = .ok (.iconst 0, 1) := by decide +kernel
theorem dX12_wholes_67 : decode cX12_wholes 67 = .ok (.istore 7, 2) := by decide +kernel
theorem dX12_wholes_69 : decode cX12_wholes 69 = .ok (.iload_n 2, 1) := by decide +kernel
theorem dX12_wholes_70 : decode cX12_wholes 70 = .ok (.bipush 43, 2) := by decide +kernel
theorem dX12_wholes_72 : decode cX12_wholes 72 = .ok (.if_icmp .ne 10, 3) := by decide +kernel
theorem dX12_wholes_75 : decode cX12_wholes 75 = .ok (.lload_n 3, 1) := by decide +kernel
theorem dX12_wholes_76 : decode cX12_wholes 76 = .ok (.lload 5, 2) := by decide +kernel
theorem dX12_wholes_78 : decode cX12_wholes 78 = .ok (.ladd, 1) := by decide +kernel
theorem dX12_wholes_79 : decode cX12_wholes 79 = .ok (.goto 46, 3) := by decide +kernel
theorem dX12_wholes_82 : decode cX12_wholes 82 = .ok (.iload_n 2, 1) := by decide +kernel
theorem dX12_wholes_83 : decode cX12_wholes 83 = .ok (.bipush 45, 2) := by decide +kernel
theorem dX12_wholes_85 : decode cX12_wholes 85 = .ok (.if_icmp .ne 10, 3) := by decide +kernel
theorem dX12_wholes_88 : decode cX12_wholes 88 = .ok (.lload_n 3, 1) := by decide +kernel
theorem dX12_wholes_89 : decode cX12_wholes 89 = .ok (.lload 5, 2) := by decide +kernel
theorem dX12_wholes_91 : decode cX12_wholes 91 = .ok (.lsub, 1) := by decide +kernel
theorem dX12_wholes_92 : decode cX12_wholes 92 = .ok (.goto 33, 3) := by decide +kernel
theorem dX12_wholes_95 : decode cX12_wholes 95 = .ok (.iload_n 2, 1) := by decide +kernel
theorem dX12_wholes_96 : decode cX12_wholes 96 = .ok (.bipush 42, 2) := by decide +kernel
theorem dX12_wholes_98 : decode cX12_wholes 98 = .ok (.if_icmp .ne 10, 3) := by decide +kernel
theorem dX12_wholes_101 : decode cX12_wholes 101 = .ok (.lload_n 3, 1) := by decide +kernel
theorem dX12_wholes_102 : decode cX12_wholes 102 = .ok (.lload 5, 2) := by decide +kernel
theorem dX12_wholes_104 : decode cX12_wholes 104 = .ok (.lmul, 1) := by decide +kernel
theorem dX12_wholes_105 : decode cX12_wholes 105 = .ok (.goto 20, 3) := by decide +kernel
theorem dX12_wholes_108 : decode cX12_wholes 108 = .ok (.iload_n 2, 1) := by decide +kernel
theorem dX12_wholes_109 : decode cX12_wholes 109 = .ok (.bipush 47, 2) := by decide +kernel
theorem dX12_wholes_111 : decode cX12_wholes 111 = .ok (.if_icmp .ne 10, 3) := by decide +kernel
theorem dX12_wholes_114 : decode cX12_wholes 114 = .ok (.lload_n 3, 1) := by decide +kernel
theorem dX12_wholes_115 : decode cX12_wholes 115 = .ok (.lload 5, 2) := by decide +kernel
theorem dX12_wholes_117 : decode cX12_wholes 117 = .ok (.ldiv, 1) := by decide +kernel
theorem dX12_wholes_118 : decode cX12_wholes 118 = .ok (.goto 7, 3) := by decide +kernel
theorem dX12_wholes_121 : decode cX12_wholes 121 = .ok (.lload_n 3, 1) := by decide +kernel
theorem dX12_wholes_122 : decode cX12_wholes 122 = .ok (.lload 5, 2) := by decide +kernel
theorem dX12_wholes_124 : decode cX12_wholes 124 = .ok (.lrem, 1) := by decide +kernel
theorem dX12_wholes_125 : decode cX12_wholes 125 = .ok (.lstore 8, 2) := by decide +kernel
theorem dX12_wholes_127 : decode cX12_wholes 127 = .ok (.iload 7, 2) := by decide +kernel
theorem dX12_wholes_129 : decode cX12_wholes 129 = .ok (.ifCond .ne 12, 3) := by decide +kernel
theorem dX12_wholes_132 : decode cX12_wholes 132 = .ok (.iload_n 1, 1) := by decide +kernel
theorem dX12_wholes_133 : decode cX12_wholes 133 = .ok (.lload 8, 2) := by decide +kernel
theorem dX12_wholes_135 : decode cX12_wholes 135 = .ok (.invokestatic 552, 3) := by decide +kernel
theorem dX12_wholes_138 : decode cX12_wholes 138 = .ok (.ifCond .ne 12, 3) := by decide +kernel
theorem dX12_wholes_141 : decode cX12_wholes 141 = .ok (.aload_n 0, 1) := by decide +kernel
theorem dX12_wholes_142 : decode cX12_wholes 142 = .ok (.bipush 7, 2) := by decide +kernel
theorem dX12_wholes_144 : decode cX12_wholes 144 = .ok (.invokevirtual 678, 3) := by decide +kernel
theorem dX12_wholes_147 : decode cX12_wholes 147 = .ok (.goto 10, 3) := by decide +kernel
theorem dX12_wholes_150 : decode cX12_wholes 150 = .ok (.aload_n 0, 1) := by decide +kernel
theorem dX12_wholes_151 : decode cX12_wholes 151 = .ok (.iconst 1, 1) := by decide +kernel
theorem dX12_wholes_152 : decode cX12_wholes 152 = .ok (.lload 8, 2) := by decide +kernel
theorem dX12_wholes_154 : decode cX12_wholes 154 = .ok (.invokevirtual 577, 3) := by decide +kernel
theorem dX12_wholes_157 : decode cX12_wholes 157 = .ok (.return_, 1) := by decide +kernel
theorem dX12_minus_0 : decode cX12_minus 0 = .ok (.aload_n 0, 1) := by decide +kernel
theorem dX12_minus_1 : decode cX12_minus 1 = .ok (.dup, 1) := by decide +kernel
theorem dX12_minus_2 : decode cX12_minus 2 = .ok (.getfield 574, 3) := by decide +kernel
theorem dX12_minus_5 : decode cX12_minus 5 = .ok (.iconst 1, 1) := by decide +kernel
theorem dX12_minus_6 : decode cX12_minus 6 = .ok (.isub, 1) := by decide +kernel
theorem dX12_minus_7 : decode cX12_minus 7 = .ok (.putfield 574, 3) := by decide +kernel
theorem dX12_minus_10 : decode cX12_minus 10 = .ok (.aload_n 0, 1) := by decide +kernel
theorem dX12_minus_11 : decode cX12_minus 11 = .ok (.getfield 82, 3) := by decide +kernel
theorem dX12_minus_14 : decode cX12_minus 14 = .ok (.aload_n 0, 1) := by decide +kernel
theorem dX12_minus_15 : decode cX12_minus 15 = .ok (.getfield 574, 3) := by decide +kernel
theorem dX12_minus_18 : decode cX12_minus 18 = .ok (.baload, 1) := by decide +kernel
theorem dX12_minus_19 : decode cX12_minus 19 = .ok (.iconst 1, 1) := by decide +kernel
theorem dX12_minus_20 : decode cX12_minus 20 = .ok (.if_icmp .eq 9, 3) := by decide +kernel
theorem dX12_minus_23 : decode cX12_minus 23 = .ok (.aload_n 0, 1) := by decide +kernel
theorem dX12_minus_24 : decode cX12_minus 24 = .ok (.iconst 4, 1) := by decide +kernel
theorem dX12_minus_25 : decode cX12_minus 25 = .ok (.invokevirtual 678, 3) := by decide +kernel
theorem dX12_minus_28 : decode cX12_minus 28 = .ok (.return_, 1) := by decide +kernel
theorem dX12_minus_29 : decode cX12_minus 29 = .ok (.aload_n 0, 1) := by decide +kernel
theorem dX12_minus_30 : decode cX12_minus 30 = .ok (.getfield 85, 3) := by decide +kernel
theorem dX12_minus_33 : decode cX12_minus 33 = .ok (.aload_n 0, 1) := by decide +kernel
theorem dX12_minus_34 : decode cX12_minus 34 = .ok (.getfield 574, 3) := by decide +kernel
theorem dX12_minus_37 : decode cX12_minus 37 = .ok (.laload, 1) := by decide +kernel
theorem dX12_minus_38 : decode cX12_minus 38 = .ok (.lstore_n 2, 1) := by decide +kernel
theorem dX12_minus_39 : decode cX12_minus 39 = .ok (.iload_n 1, 1) := by decide +kernel
theorem dX12_minus_40 : decode cX12_minus 40 = .ok (.iconst 3, 1) := by decide +kernel
theorem dX12_minus_41 : decode cX12_minus 41 = .ok (.if_icmp .ne 19, 3) := by decide +kernel
theorem dX12_minus_44 : decode cX12_minus 44 = .ok (.aload_n 0, 1) := by decide +kernel
theorem dX12_minus_45 : decode cX12_minus 45 = .ok (.iconst 1, 1) := by decide +kernel
theorem dX12_minus_46 : decode cX12_minus 46 = .ok (.lload_n 2, 1) := by decide +kernel
theorem dX12_minus_47 : decode cX12_minus 47 = .ok (.invokestatic 545, 3) := by decide +kernel
theorem dX12_minus_50 : decode cX12_minus 50 = .ok (.dneg, 1) := by decide +kernel
theorem dX12_minus_51 : decode cX12_minus 51 = .ok (.invokestatic 283, 3) := by decide +kernel
theorem dX12_minus_54 : decode cX12_minus 54 = .ok (.invokevirtual 577, 3) := by decide +kernel
theorem dX12_minus_57 : decode cX12_minus 57 = .ok (.goto 28, 3) := by decide +kernel
theorem dX12_minus_60 : decode cX12_minus 60 = .ok (.iload_n 1, 1) := by decide +kernel
theorem dX12_minus_61 : decode cX12_minus 61 = .ok (.lload_n 2, 1) := by decide +kernel
theorem dX12_minus_62 : decode cX12_minus 62 = .ok (.lneg, 1) := by decide +kernel
theorem dX12_minus_63 : decode cX12_minus 63 = .ok (.invokestatic 552, 3) := by decide +kernel
theorem dX12_minus_66 : decode cX12_minus 66 = .ok (.ifCond .eq 13, 3) := by decide +kernel
theorem dX12_minus_69 : decode cX12_minus 69 = .ok (.aload_n 0, 1) := by decide +kernel
theorem dX12_minus_70 : decode cX12_minus 70 = .ok (.iconst 1, 1) := by decide +kernel
theorem dX12_minus_71 : decode cX12_minus 71 = .ok (.lload_n 2, 1) := by decide +kernel
theorem dX12_minus_72 : decode cX12_minus 72 = .ok (.lneg, 1) := by decide +kernel
theorem dX12_minus_73 : decode cX12_minus 73 = .ok (.invokevirtual 577, 3) := by decide +kernel
theorem dX12_minus_76 : decode cX12_minus 76 = .ok (.goto 9, 3) := by decide +kernel
theorem dX12_minus_79 : decode cX12_minus 79 = .ok (.aload_n 0, 1) := by decide +kernel
theorem dX12_minus_80 : decode cX12_minus 80 = .ok (.bipush 7, 2) := by decide +kernel
theorem dX12_minus_82 : decode cX12_minus 82 = .ok (.invokevirtual 678, 3) := by decide +kernel
theorem dX12_minus_85 : decode cX12_minus 85 = .ok (.return_, 1) := by decide +kernel
theorem jv_ne {x : Int} (hx : jr x) (h : x ≠ 0) : jv x ≠ 0 := fun e => h ((jv_eq hx (by unfold jr; omega)).mp (e.trans (show (0 : Int64) = jv 0 from rfl)))
theorem jn_ne {x z : Int} (hx : jv x ≠ 0) (e : jv z = jv (-x)) : jv z ≠ 0 := fun h => hx (by
  have e : jv z = -(jv x) := e.trans (by unfold jv; exact Int64.ofInt_neg x)
  have h2 : -(jv x) = 0 := e.symm.trans h
  have h3 := congrArg (fun q => -q) h2
  simpa using h3)
set_option maxHeartbeats 4000000 in
set_option maxRecDepth 100000 in
theorem c_X12_isEquality (ω : Om) (l : Launch) (μ : M3) (x1 : Int) (hx1 : ir x1) : CtI ω l yX12_isEquality cX12_isEquality 1 .boolean 0 0 [.int (iv x1)] μ (fun (r : Int) (μ' : M3) => (μ' = μ) ∧ (r = 0 ∨ r = 1) ∧ (r = 0 → x1 ≠ 317 ∧ x1 ≠ 289)) := by
  refine CtI.go (by decide) (Nat.le_of_ble_eq_true rfl) (fun ρ p e s m below meth c R ls G hR hret hlk hl => ?_)
  have hx := G.1.1
  have hb := G.1.2.1
  have hl : lv_has ls 1 [(0, .int (iv x1))] := hl
  generalize s.drawn = d0 at G ⊢
  have hr_x1 : -2147483648 ≤ x1 ∧ x1 ≤ 2147483647 := hx1
  refine lv_iload_n hx hb dX12_isEquality_0 rfl (lv_at hl 0 rfl) ?_
  refine lv_sipush (v := iv 317) hx hb dX12_isEquality_1 rfl ?_
  refine xb_icmp_eq (tgt := 14) hx hb (by unfold ir; omega) (by unfold ir; omega) dX12_isEquality_4 (by decide) (fun c_4 => ?_) (fun c_4 => ?_)
  · refine lv_iconst (v := iv 1) hx hb dX12_isEquality_14 rfl ?_
    refine lv_goto (tgt := 19) hx hb dX12_isEquality_15 (by decide) ?_
    exact xr_i G (x := 1) hret hlk (by unfold ir; omega) (zr (by omega)) dX12_isEquality_19 ⟨rfl, (Or.inr rfl), (fun h9 => absurd h9 (by decide))⟩
  · refine lv_iload_n hx hb dX12_isEquality_7 rfl (lv_at hl 0 rfl) ?_
    refine lv_sipush (v := iv 289) hx hb dX12_isEquality_8 rfl ?_
    refine xb_icmp_ne (tgt := 18) hx hb (by unfold ir; omega) (by unfold ir; omega) dX12_isEquality_11 (by decide) (fun c_11 => ?_) (fun c_11 => ?_)
    · refine lv_iconst (v := iv 0) hx hb dX12_isEquality_18 rfl ?_
      exact xr_i G (x := 0) hret hlk (by unfold ir; omega) (zr (by omega)) dX12_isEquality_19 ⟨rfl, (Or.inl rfl), (fun _ => ⟨by omega, by omega⟩)⟩
    · refine lv_iconst (v := iv 1) hx hb dX12_isEquality_14 rfl ?_
      refine lv_goto (tgt := 19) hx hb dX12_isEquality_15 (by decide) ?_
      exact xr_i G (x := 1) hret hlk (by unfold ir; omega) (zr (by omega)) dX12_isEquality_19 ⟨rfl, (Or.inr rfl), (fun h9 => absurd h9 (by decide))⟩

set_option maxHeartbeats 4000000 in
set_option maxRecDepth 100000 in
theorem c_X12_isZero_b (ω : Om) (l : Launch) (μ : M3) (x1 : Int) (x2 : Int) (hx1 : ir x1) (hx2 : jr x2) : CtI ω l yX12_isZero cX12_isZero 4 .boolean 2 61 [.ref (oP ω 111), .int (iv x1), .long (jv x2)] μ (fun (r : Int) (μ' : M3) => (μ' = μ) ∧ (x1 ≠ 3 → r = 0 → x2 ≠ 0)) := by
  refine CtI.go (by decide) (Nat.le_of_ble_eq_true rfl) (fun ρ p e s m below meth c R ls G hR hret hlk hl => ?_)
  have hx := G.1.1
  have hb := G.1.2.1
  have hl : lv_has ls 4 [(0, .ref (oP ω 111)), (1, .int (iv x1)), (2, .long (jv x2))] := hl
  generalize s.drawn = d0 at G ⊢
  have hr_x1 : -2147483648 ≤ x1 ∧ x1 ≤ 2147483647 := hx1
  refine lv_iload_n hx hb dX12_isZero_0 rfl (lv_at hl 1 rfl) ?_
  refine lv_iconst (v := iv 3) hx hb dX12_isZero_1 rfl ?_
  refine xb_icmp_ne (tgt := 22) hx hb (by unfold ir; omega) (by unfold ir; omega) dX12_isZero_2 (by decide) (fun c_2 => ?_) (fun c_2 => ?_)
  · refine lv_lload_n hx hb dX12_isZero_22 rfl (lv_at hl 2 rfl) ?_
    refine lv_lconst (v := jv 0) hx hb dX12_isZero_23 rfl ?_
    refine xb_lcmp hx hb hx2 (by unfold jr; omega) dX12_isZero_24 ?_
    have hr_1 : -2147483648 ≤ lcm x2 0 ∧ lcm x2 0 ≤ 2147483647 := lcm_ir _ _
    have hlc_2 := lcm_f x2 0
    refine xb_if_ne (tgt := 32) hx hb (by unfold ir; omega) dX12_isZero_25 (by decide) (fun c_25 => ?_) (fun c_25 => ?_)
    · refine lv_iconst (v := iv 0) hx hb dX12_isZero_32 rfl ?_
      exact xr_i G (x := 0) hret hlk (by unfold ir; omega) (zr (by omega)) dX12_isZero_33 ⟨rfl, (fun h9 h8 => by omega)⟩
    · refine lv_iconst (v := iv 1) hx hb dX12_isZero_28 rfl ?_
      refine lv_goto (tgt := 33) hx hb dX12_isZero_29 (by decide) ?_
      exact xr_i G (x := 1) hret hlk (by unfold ir; omega) (zr (by omega)) dX12_isZero_33 ⟨rfl, (fun h9 h8 => by omega)⟩
  · refine lv_lload_n hx hb dX12_isZero_5 rfl (lv_at hl 2 rfl) ?_
    refine xc_dS G (rest := []) (As := [.long (jv x2)]) (c_X12_real ω l μ x2 hx2) (wm 10 91 rfl rfl) (wm 10 92 rfl rfl) (wm 1 18 rfl rfl) (wm 10 93 rfl rfl) (by decide) hR (by decide) (n := 1) rfl rfl (Nat.le_of_ble_eq_true rfl) hl.1 dX12_isZero_6 (fun r_4 μ3 ρ d0 H locs hp G => ?_)
    have hsm_5 := hp
    have hsm_5 := Eq.symm hsm_5
    subst hsm_5
    refine lv_dconst0 hx hb dX12_isZero_9 ?_
    refine xb_topd (fun dd_6 he_dd_6 => ?_)
    refine lv_dcmp hx hb dX12_isZero_10 ?_
    refine xb_topi (fun y_7 hr_y_7 he_y_7 => ?_)
    have hr_y_7 : -2147483648 ≤ y_7 ∧ y_7 ≤ 2147483647 := hr_y_7
    refine xb_if_ne (tgt := 18) hx hb (by unfold ir; omega) dX12_isZero_11 (by decide) (fun c_11 => ?_) (fun c_11 => ?_)
    · refine lv_iconst (v := iv 0) hx hb dX12_isZero_18 rfl ?_
      refine lv_goto (tgt := 33) hx hb dX12_isZero_19 (by decide) ?_
      exact xr_i G (x := 0) hret hlk (by unfold ir; omega) (zr (by omega)) dX12_isZero_33 ⟨rfl, (fun h9 h8 => by omega)⟩
    · refine lv_iconst (v := iv 1) hx hb dX12_isZero_14 rfl ?_
      refine lv_goto (tgt := 33) hx hb dX12_isZero_15 (by decide) ?_
      exact xr_i G (x := 1) hret hlk (by unfold ir; omega) (zr (by omega)) dX12_isZero_33 ⟨rfl, (fun h9 h8 => by omega)⟩

set_option maxHeartbeats 4000000 in
set_option maxRecDepth 100000 in
theorem c_X12_minus (ω : Om) (l : Launch) (μ : M3) (x1 : Int) (n : Int) (hx1 : ir x1) (hn : n = μ.1 111 47) (hMZ : MZ μ) (h1 : 1 ≤ n ∧ n ≤ 24) (h94 : μ.1 111 94 = 0) (ht : x1 = μ.1 127 (n - 1)) (hTQ : TQ μ 0) (hlo : μ.1 131 (n - 1) + 1 ≤ μ.1 111 53) : CtV ω l yX12_minus cX12_minus 4 183 4972 [.ref (oP ω 111), .int (iv x1)] μ (fun (μ' : M3) => (FrM [111, 129, 133, 134, 135, 136, 137, 138, 139, 140, 141, 142, 143, 149, 150, 151, 152, 153, 154, 155, 156, 157, 158, 159] μ μ') ∧ (∀ j, j ∉ ([47, 53, 61, 81, 82, 83, 84, 90, 91, 93, 94, 95, 96, 97, 98, 99] : List Int) → μ'.1 111 j = μ.1 111 j) ∧ (RES μ' (RX μ + 9000))) := by
  refine CtV.go (by decide) (Nat.le_of_ble_eq_true rfl) (fun ρ p e s m below meth c R ls G hR hret hlk hl => ?_)
  have hx := G.1.1
  have hb := G.1.2.1
  have hl : lv_has ls 4 [(0, .ref (oP ω 111)), (1, .int (iv x1))] := hl
  generalize s.drawn = d0 at G ⊢
  have hr_x1 : -2147483648 ≤ x1 ∧ x1 ≤ 2147483647 := hx1
  have hzn_ := hMZ.n
  rw [← hn] at hzn_
  obtain ⟨hz47, hzFB, hzFL, hz81, hz82, hz84, hz65, hz4, hz104⟩ := hzn_
  have htq_ := hTQ.n hMZ (by omega)
  rw [← hn] at htq_
  have hfr_ := (hMZ.2.2.1 (n - 1) (by omega) (by omega)).1.1
  have hzB := FB_1 (μ := μ) (n := n) (by omega)
  have hzL := FL_1 (μ := μ) (n := n) (by omega)
  refine lv_aload_n hx hb dX12_minus_0 rfl (lv_at hl 0 rfl) ?_
  refine lv_dup hx hb dX12_minus_1 rfl ?_
  refine xa_geti G fd_X12 (a := 111) (x := μ.1 111 53) 53 rfl (by decide) rfl (wm 7 202 rfl rfl) ⟨rfl, rfl, rfl⟩ dX12_minus_2 rfl rfl ?_
  have hr_1 : -2147483648 ≤ μ.1 111 53 ∧ μ.1 111 53 ≤ 2147483647 := by have h9 := G.hr (a := 111) (k := 53) rfl; exact h9
  refine lv_iconst (v := iv 1) hx hb dX12_minus_5 rfl ?_
  refine xb_isub hx hb dX12_minus_6 ?_
  refine xa_puti G fd_X12 (a := 111) (x := (μ.1 111 53) - 1) 53 (kz := 53) rfl rfl (by decide) rfl (by unfold ir; omega) (wm 7 202 rfl rfl) ⟨rfl, rfl, rfl, rfl⟩ rfl dX12_minus_7 rfl (fun H locs G => ?_)
  refine lv_aload_n hx hb dX12_minus_10 rfl (lv_at hl 0 rfl) ?_
  refine xa_getr G fd_X12 (a := 111) (x := 135) 51 rfl (by decide) rfl (wm 7 200 rfl rfl) ⟨rfl, rfl, rfl⟩ dX12_minus_11 rfl (G.sk 133 rfl) (by decide) rfl ?_
  refine lv_aload_n hx hb dX12_minus_14 rfl (lv_at hl 0 rfl) ?_
  refine xa_geti G fd_X12 (a := 111) (x := (μ.1 111 53) - 1) 53 rfl (by decide) rfl (wm 7 202 rfl rfl) ⟨rfl, rfl, rfl⟩ dX12_minus_15 rfl (sv_s _ _ _ _) ?_
  have hr_2 : -2147483648 ≤ (μ.1 111 53) - 1 ∧ (μ.1 111 53) - 1 ≤ 2147483647 := by have h9 := G.hr (a := 111) (k := 53) rfl; rw [show (sv μ 111 53 ((μ.1 111 53) - 1)).1 111 53 = (μ.1 111 53) - 1 from (sv_s _ _ _ _)] at h9; exact h9
  refine xa_bald G (a := 135) (i := (μ.1 111 53) - 1) rfl (by have h9 := G.lc (a := 135) (n := 9000) 73 rfl; omega) dX12_minus_18 rfl ?_
  refine xb_ti (y := μ.1 135 (μ.1 111 53 - 1)) (sv_n _ (fun h9 => absurd h9.1 (by decide))) ?_
  have hr_3 : -2147483648 ≤ μ.1 135 (μ.1 111 53 - 1) ∧ μ.1 135 (μ.1 111 53 - 1) ≤ 2147483647 := by have h9 := G.hr3 (a := 135) (k := (μ.1 111 53) - 1) rfl; rw [(sv_n _ (fun h9 => absurd h9.1 (by decide)))] at h9; exact h9
  refine lv_iconst (v := iv 1) hx hb dX12_minus_19 rfl ?_
  refine xb_icmp_eq (tgt := 29) hx hb (by unfold ir; omega) (by unfold ir; omega) dX12_minus_20 (by decide) (fun c_20 => ?_) (fun c_20 => ?_)
  · refine lv_aload_n hx hb dX12_minus_29 rfl (lv_at hl 0 rfl) ?_
    refine xa_getr G fd_X12 (a := 111) (x := 136) 52 rfl (by decide) rfl (wm 7 201 rfl rfl) ⟨rfl, rfl, rfl⟩ dX12_minus_30 rfl (G.sk 134 rfl) (by decide) rfl ?_
    refine lv_aload_n hx hb dX12_minus_33 rfl (lv_at hl 0 rfl) ?_
    refine xa_geti G fd_X12 (a := 111) (x := (μ.1 111 53) - 1) 53 rfl (by decide) rfl (wm 7 202 rfl rfl) ⟨rfl, rfl, rfl⟩ dX12_minus_34 rfl (sv_s _ _ _ _) ?_
    refine xa_lald G (a := 136) (i := (μ.1 111 53) - 1) rfl (by have h9 := G.lc (a := 136) (n := 9000) 74 rfl; omega) dX12_minus_37 rfl ?_
    refine xb_tl (y := μ.1 136 (μ.1 111 53 - 1)) (sv_n _ (fun h9 => absurd h9.1 (by decide))) ?_
    have hj_4 : jr (μ.1 136 (μ.1 111 53 - 1)) := (by have h9 := G.hj (a := 136) (k := (μ.1 111 53) - 1) rfl; rw [(sv_n _ (fun h9 => absurd h9.1 (by decide)))] at h9; exact h9)
    refine lv_lstore_n (lv' := [(2, .long (jv (μ.1 136 (μ.1 111 53 - 1)))), (0, .ref (oP ω 111)), (1, .int (iv x1))]) hx hb dX12_minus_38 rfl hl (by decide) rfl (fun ls hl => ?_)
    refine lv_iload_n hx hb dX12_minus_39 rfl (lv_at hl 2 rfl) ?_
    refine lv_iconst (v := iv 3) hx hb dX12_minus_40 rfl ?_
    refine xb_icmp_ne (tgt := 60) hx hb (by unfold ir; omega) (by unfold ir; omega) dX12_minus_41 (by decide) (fun c_41 => ?_) (fun c_41 => ?_)
    · refine lv_iload_n hx hb dX12_minus_60 rfl (lv_at hl 2 rfl) ?_
      refine lv_lload_n hx hb dX12_minus_61 rfl (lv_at hl 0 rfl) ?_
      refine xb_lneg hx hb dX12_minus_62 ?_
      refine xb_topl (fun z_5 hr_z_5 he_z_5 => ?_)
      refine xc_iS G (rest := []) (As := [.int (iv x1), .long (jv z_5)]) (c_X12_has ω l (sv μ 111 53 ((μ.1 111 53) - 1)) x1 z_5 (by unfold ir; omega) hr_z_5) (wm 10 99 rfl rfl) (wm 10 100 rfl rfl) (wm 1 18 rfl rfl) (wm 10 101 rfl rfl) (by decide) hR (by decide) (n := 2) rfl rfl (Nat.le_of_ble_eq_true rfl) hl.1 dX12_minus_63 (fun r_7 μ6 ρ d0 H locs hr_r_7 hp G => ?_)
      have hr_r_7 : -2147483648 ≤ r_7 ∧ r_7 ≤ 2147483647 := hr_r_7
      have hsm_8 := hp
      have hsm_8 := Eq.symm hsm_8
      subst hsm_8
      refine xb_if_eq (tgt := 79) hx hb (by unfold ir; omega) dX12_minus_66 (by decide) (fun c_66 => ?_) (fun c_66 => ?_)
      · refine lv_aload_n hx hb dX12_minus_79 rfl (lv_at hl 1 rfl) ?_
        refine lv_bipush (v := iv 7) hx hb dX12_minus_80 rfl ?_
        have e_9 : (sv μ 111 53 ((μ.1 111 53) - 1)).1 111 4 = μ.1 111 4 := (sv_n _ (by decide))
        have e_10 : (sv μ 111 53 ((μ.1 111 53) - 1)).1 111 83 = μ.1 111 83 := (sv_n _ (by decide))
        have hrx_11 := RX.eq (μ := μ) (ν := (sv μ 111 53 ((μ.1 111 53) - 1))) (Eqa.fr (L := [111]) (FrM.put FrM.rf (by decide)) (by decide)) (Eqf.fd (L := [53]) (fun j hj => (sv_n _ (fun h9 => hj (by rw [h9.2]; decide)))) (by decide))
        have e_12 : (sv μ 111 53 ((μ.1 111 53) - 1)).1 111 94 = μ.1 111 94 := (sv_n _ (by decide))
        have e_13 : (sv μ 111 53 ((μ.1 111 53) - 1)).1 111 47 = n := ((sv_n _ (by decide)).trans hn.symm)
        have hMZ_14 : MZ (sv μ 111 53 ((μ.1 111 53) - 1)) := MZ.mn1 hMZ (n := n) (s := μ.1 131 (n - 1)) (hn.symm) (by have h9 : μ.1 131 (n - 1) = μ.1 131 (n - 1) := rfl; exact h9) (by omega) (by have h9 : μ.1 111 53 = μ.1 111 53 := rfl; omega)
        have e_15 : (sv μ 111 53 ((μ.1 111 53) - 1)).1 111 94 = μ.1 111 94 := (sv_n _ (by decide))
        have hA1_16 : A1 (sv μ 111 53 ((μ.1 111 53) - 1)) := TQ.a1 hTQ (Eqa.fr (L := [111]) (FrM.put FrM.rf (by decide)) (by decide)) (Eqf.fd (L := [53]) (fun j hj => (sv_n _ (fun h9 => hj (by rw [h9.2]; decide)))) (by decide)) (by have h9 : (sv μ 111 53 ((μ.1 111 53) - 1)).1 111 53 = (μ.1 111 53) - 1 := (sv_s _ _ _ _); omega)
        refine xc_vV G (b := 111) (rest := []) (As := [.int (iv 7)]) (c_X12_arises_a ω l (sv μ 111 53 ((μ.1 111 53) - 1)) 7 n (by unfold ir; omega) (by omega) hMZ_14 (by omega) (by omega) (fun _ => by omega) (fun _ => hA1_16)) (wm 10 199 rfl rfl) (wm 10 201 rfl rfl) (wm 0 213 rfl rfl) rfl rfl (by decide) rfl (wm 1 18 rfl rfl) (wm 10 202 rfl rfl) (by decide) hR (by decide) (n := 1) rfl rfl (Nat.le_of_ble_eq_true rfl) hl.1 dX12_minus_82 (fun μ17 ρ d0 H locs hp G => ?_)
        obtain ⟨F_18, hp_19, hp_20⟩ := hp
        exact xr_v G hret hlk dX12_minus_85 ⟨(FrM.tr (FrM.put FrM.rf (by decide)) F_18 (by decide)), (fun j hj => ((hp_19 j (fun h9 => hj ((by decide : ∀ x ∈ ([47, 53, 61, 81, 82, 83, 84, 90, 91, 93, 94, 95, 96, 97, 98, 99] : List Int), x ∈ ([47, 53, 61, 81, 82, 83, 84, 90, 91, 93, 94, 95, 96, 97, 98, 99] : List Int)) j h9))).trans (sv_n _ (fun h9 => hj (by rw [h9.2]; decide))))), (hp_20.le (by omega))⟩
      · refine lv_aload_n hx hb dX12_minus_69 rfl (lv_at hl 1 rfl) ?_
        refine lv_iconst (v := iv 1) hx hb dX12_minus_70 rfl ?_
        refine lv_lload_n hx hb dX12_minus_71 rfl (lv_at hl 0 rfl) ?_
        refine xb_lneg hx hb dX12_minus_72 ?_
        refine xb_topl (fun z_21 hr_z_21 he_z_21 => ?_)
        have e_22 : (sv μ 111 53 ((μ.1 111 53) - 1)).1 111 83 = μ.1 111 83 := (sv_n _ (by decide))
        have hrx_23 := RX.eq (μ := μ) (ν := (sv μ 111 53 ((μ.1 111 53) - 1))) (Eqa.fr (L := [111]) (FrM.put FrM.rf (by decide)) (by decide)) (Eqf.fd (L := [53]) (fun j hj => (sv_n _ (fun h9 => hj (by rw [h9.2]; decide)))) (by decide))
        have e_24 : (sv μ 111 53 ((μ.1 111 53) - 1)).1 111 94 = μ.1 111 94 := (sv_n _ (by decide))
        have hA1_25 : A1 (sv μ 111 53 ((μ.1 111 53) - 1)) := TQ.a1 hTQ (Eqa.fr (L := [111]) (FrM.put FrM.rf (by decide)) (by decide)) (Eqf.fd (L := [53]) (fun j hj => (sv_n _ (fun h9 => hj (by rw [h9.2]; decide)))) (by decide)) (by have h9 : (sv μ 111 53 ((μ.1 111 53) - 1)).1 111 53 = (μ.1 111 53) - 1 := (sv_s _ _ _ _); omega)
        have e_26 : (sv μ 111 53 ((μ.1 111 53) - 1)).1 111 47 = n := ((sv_n _ (by decide)).trans hn.symm)
        have e_27 : (sv μ 111 53 ((μ.1 111 53) - 1)).1 111 53 = (μ.1 111 53) - 1 := (sv_s _ _ _ _)
        have e_28 : (sv μ 111 53 ((μ.1 111 53) - 1)).1 111 53 = (μ.1 111 53) - 1 := (sv_s _ _ _ _)
        have hMZ_29 : MZ (sv μ 111 53 ((μ.1 111 53) - 1)) := MZ.mn1 hMZ (n := n) (s := μ.1 131 (n - 1)) (hn.symm) (by have h9 : μ.1 131 (n - 1) = μ.1 131 (n - 1) := rfl; exact h9) (by omega) (by have h9 : μ.1 111 53 = μ.1 111 53 := rfl; omega)
        have e_30 : (sv μ 111 53 ((μ.1 111 53) - 1)).1 111 53 = (μ.1 111 53) - 1 := (sv_s _ _ _ _)
        have e_31 : (sv μ 111 53 ((μ.1 111 53) - 1)).1 111 53 = (μ.1 111 53) - 1 := (sv_s _ _ _ _)
        have e_32 : (sv μ 111 53 ((μ.1 111 53) - 1)).1 111 53 = (μ.1 111 53) - 1 := (sv_s _ _ _ _)
        have e_33 : (sv μ 111 53 ((μ.1 111 53) - 1)).1 111 53 = (μ.1 111 53) - 1 := (sv_s _ _ _ _)
        refine xc_vV G (b := 111) (rest := []) (As := [.int (iv 1), .long (jv z_21)]) (c_X12_push ω l (sv μ 111 53 ((μ.1 111 53) - 1)) 1 z_21 ((μ.1 111 53) - 1) (by unfold ir; omega) hr_z_21 (by omega) hMZ_29 VV.n1 (by omega)) (wm 10 127 rfl rfl) (wm 10 129 rfl rfl) (wm 0 195 rfl rfl) rfl rfl (by decide) rfl (wm 1 18 rfl rfl) (wm 10 130 rfl rfl) (by decide) hR (by decide) (n := 2) rfl rfl (Nat.le_of_ble_eq_true rfl) hl.1 dX12_minus_73 (fun μ34 ρ d0 H locs hp G => ?_)
        obtain ⟨F_35, hp_36, hp_37, hs_38, hs_39, hs_40, ha_41, ha_42⟩ := hp
        refine lv_goto (tgt := 85) hx hb dX12_minus_76 (by decide) ?_
        have e_43 : μ34.1 111 94 = μ.1 111 94 := ((hp_36 94 (by decide)).trans (sv_n _ (by decide)))
        have e_44 : μ34.1 111 53 = ((μ.1 111 53) - 1) + 1 := hs_38
        have e_45 : (sv μ 111 53 ((μ.1 111 53) - 1)).1 111 53 = (μ.1 111 53) - 1 := (sv_s _ _ _ _)
        exact xr_v G hret hlk dX12_minus_85 ⟨(FrM.tr (FrM.put FrM.rf (by decide)) F_35 (by decide)), (fun j hj => ((hp_36 j (fun h9 => hj ((by decide : ∀ x ∈ ([53] : List Int), x ∈ ([47, 53, 61, 81, 82, 83, 84, 90, 91, 93, 94, 95, 96, 97, 98, 99] : List Int)) j h9))).trans (sv_n _ (fun h9 => hj (by rw [h9.2]; decide))))), ((A1.res hA1_25 hp_37 (by have h9 : (sv μ 111 53 ((μ.1 111 53) - 1)).1 111 47 = n := ((sv_n _ (by decide)).trans hn.symm); omega) (Eqa.fr (L := [111, 135, 136]) (FrM.tr FrM.rf F_35 (by decide)) (by decide)) (Eqf.fd (L := [53]) (fun j hj => (hp_36 j (fun h9 => hj ((by decide : ∀ x ∈ ([53] : List Int), x ∈ ([53] : List Int)) j h9)))) (by decide)) (by have h9 : μ34.1 111 94 = μ.1 111 94 := ((hp_36 94 (by decide)).trans (sv_n _ (by decide))); omega) (by have h9 : μ34.1 111 83 = μ.1 111 83 := ((hp_36 83 (by decide)).trans (sv_n _ (by decide))); have h8 : (sv μ 111 53 ((μ.1 111 53) - 1)).1 111 83 = μ.1 111 83 := (sv_n _ (by decide)); omega) (by omega)).le (by omega))⟩
    · refine lv_aload_n hx hb dX12_minus_44 rfl (lv_at hl 1 rfl) ?_
      refine lv_iconst (v := iv 1) hx hb dX12_minus_45 rfl ?_
      refine lv_lload_n hx hb dX12_minus_46 rfl (lv_at hl 0 rfl) ?_
      refine xc_dS G (rest := [.int (iv 1), .ref (oP ω 111)]) (As := [.long (jv (μ.1 136 (μ.1 111 53 - 1)))]) (c_X12_real ω l (sv μ 111 53 ((μ.1 111 53) - 1)) (μ.1 136 (μ.1 111 53 - 1)) hj_4) (wm 10 91 rfl rfl) (wm 10 92 rfl rfl) (wm 1 18 rfl rfl) (wm 10 93 rfl rfl) (by decide) hR (by decide) (n := 1) rfl rfl (Nat.le_of_ble_eq_true rfl) hl.1 dX12_minus_47 (fun r_47 μ46 ρ d0 H locs hp G => ?_)
      have hsm_48 := hp
      have hsm_48 := Eq.symm hsm_48
      subst hsm_48
      refine lv_dneg hx hb dX12_minus_50 ?_
      refine xb_topd (fun dd_49 he_dd_49 => ?_)
      refine xc_lS G (rest := [.int (iv 1), .ref (oP ω 111)]) (As := [.double (dv dd_49)]) (c_Jxe99ae_doubleToLongBits_ccdee ω l (sv μ 111 53 ((μ.1 111 53) - 1)) dd_49 ) (wm 9 44 rfl rfl) (wm 9 45 rfl rfl) (wm 1 23 rfl rfl) (wm 9 46 rfl rfl) (by decide) hR (by decide) (n := 1) rfl rfl (Nat.le_of_ble_eq_true rfl) hl.1 dX12_minus_51 (fun r_51 μ50 ρ d0 H locs hr_r_51 hp G => ?_)
      obtain ⟨hsm_52, hp_53⟩ := hp
      have hsm_52 := Eq.symm hsm_52
      subst hsm_52
      have e_54 : (sv μ 111 53 ((μ.1 111 53) - 1)).1 111 83 = μ.1 111 83 := (sv_n _ (by decide))
      have hrx_55 := RX.eq (μ := μ) (ν := (sv μ 111 53 ((μ.1 111 53) - 1))) (Eqa.fr (L := [111]) (FrM.put FrM.rf (by decide)) (by decide)) (Eqf.fd (L := [53]) (fun j hj => (sv_n _ (fun h9 => hj (by rw [h9.2]; decide)))) (by decide))
      have e_56 : (sv μ 111 53 ((μ.1 111 53) - 1)).1 111 94 = μ.1 111 94 := (sv_n _ (by decide))
      have hA1_57 : A1 (sv μ 111 53 ((μ.1 111 53) - 1)) := TQ.a1 hTQ (Eqa.fr (L := [111]) (FrM.put FrM.rf (by decide)) (by decide)) (Eqf.fd (L := [53]) (fun j hj => (sv_n _ (fun h9 => hj (by rw [h9.2]; decide)))) (by decide)) (by have h9 : (sv μ 111 53 ((μ.1 111 53) - 1)).1 111 53 = (μ.1 111 53) - 1 := (sv_s _ _ _ _); omega)
      have e_58 : (sv μ 111 53 ((μ.1 111 53) - 1)).1 111 47 = n := ((sv_n _ (by decide)).trans hn.symm)
      have e_59 : (sv μ 111 53 ((μ.1 111 53) - 1)).1 111 53 = (μ.1 111 53) - 1 := (sv_s _ _ _ _)
      have e_60 : (sv μ 111 53 ((μ.1 111 53) - 1)).1 111 53 = (μ.1 111 53) - 1 := (sv_s _ _ _ _)
      have hMZ_61 : MZ (sv μ 111 53 ((μ.1 111 53) - 1)) := MZ.mn1 hMZ (n := n) (s := μ.1 131 (n - 1)) (hn.symm) (by have h9 : μ.1 131 (n - 1) = μ.1 131 (n - 1) := rfl; exact h9) (by omega) (by have h9 : μ.1 111 53 = μ.1 111 53 := rfl; omega)
      have e_62 : (sv μ 111 53 ((μ.1 111 53) - 1)).1 111 53 = (μ.1 111 53) - 1 := (sv_s _ _ _ _)
      have e_63 : (sv μ 111 53 ((μ.1 111 53) - 1)).1 111 53 = (μ.1 111 53) - 1 := (sv_s _ _ _ _)
      have e_64 : (sv μ 111 53 ((μ.1 111 53) - 1)).1 111 53 = (μ.1 111 53) - 1 := (sv_s _ _ _ _)
      have e_65 : (sv μ 111 53 ((μ.1 111 53) - 1)).1 111 53 = (μ.1 111 53) - 1 := (sv_s _ _ _ _)
      refine xc_vV G (b := 111) (rest := []) (As := [.int (iv 1), .long (jv r_51)]) (c_X12_push ω l (sv μ 111 53 ((μ.1 111 53) - 1)) 1 r_51 ((μ.1 111 53) - 1) (by unfold ir; omega) hr_r_51 (by omega) hMZ_61 VV.n1 (by omega)) (wm 10 127 rfl rfl) (wm 10 129 rfl rfl) (wm 0 195 rfl rfl) rfl rfl (by decide) rfl (wm 1 18 rfl rfl) (wm 10 130 rfl rfl) (by decide) hR (by decide) (n := 2) rfl rfl (Nat.le_of_ble_eq_true rfl) hl.1 dX12_minus_54 (fun μ66 ρ d0 H locs hp G => ?_)
      obtain ⟨F_67, hp_68, hp_69, hs_70, hs_71, hs_72, ha_73, ha_74⟩ := hp
      refine lv_goto (tgt := 85) hx hb dX12_minus_57 (by decide) ?_
      have e_75 : μ66.1 111 94 = μ.1 111 94 := ((hp_68 94 (by decide)).trans (sv_n _ (by decide)))
      have e_76 : μ66.1 111 53 = ((μ.1 111 53) - 1) + 1 := hs_70
      have e_77 : (sv μ 111 53 ((μ.1 111 53) - 1)).1 111 53 = (μ.1 111 53) - 1 := (sv_s _ _ _ _)
      exact xr_v G hret hlk dX12_minus_85 ⟨(FrM.tr (FrM.put FrM.rf (by decide)) F_67 (by decide)), (fun j hj => ((hp_68 j (fun h9 => hj ((by decide : ∀ x ∈ ([53] : List Int), x ∈ ([47, 53, 61, 81, 82, 83, 84, 90, 91, 93, 94, 95, 96, 97, 98, 99] : List Int)) j h9))).trans (sv_n _ (fun h9 => hj (by rw [h9.2]; decide))))), ((A1.res hA1_57 hp_69 (by have h9 : (sv μ 111 53 ((μ.1 111 53) - 1)).1 111 47 = n := ((sv_n _ (by decide)).trans hn.symm); omega) (Eqa.fr (L := [111, 135, 136]) (FrM.tr FrM.rf F_67 (by decide)) (by decide)) (Eqf.fd (L := [53]) (fun j hj => (hp_68 j (fun h9 => hj ((by decide : ∀ x ∈ ([53] : List Int), x ∈ ([53] : List Int)) j h9)))) (by decide)) (by have h9 : μ66.1 111 94 = μ.1 111 94 := ((hp_68 94 (by decide)).trans (sv_n _ (by decide))); omega) (by have h9 : μ66.1 111 83 = μ.1 111 83 := ((hp_68 83 (by decide)).trans (sv_n _ (by decide))); have h8 : (sv μ 111 53 ((μ.1 111 53) - 1)).1 111 83 = μ.1 111 83 := (sv_n _ (by decide)); omega) (by omega)).le (by omega))⟩
  · refine lv_aload_n hx hb dX12_minus_23 rfl (lv_at hl 0 rfl) ?_
    refine lv_iconst (v := iv 4) hx hb dX12_minus_24 rfl ?_
    have e_78 : (sv μ 111 53 ((μ.1 111 53) - 1)).1 111 4 = μ.1 111 4 := (sv_n _ (by decide))
    have e_79 : (sv μ 111 53 ((μ.1 111 53) - 1)).1 111 83 = μ.1 111 83 := (sv_n _ (by decide))
    have hrx_80 := RX.eq (μ := μ) (ν := (sv μ 111 53 ((μ.1 111 53) - 1))) (Eqa.fr (L := [111]) (FrM.put FrM.rf (by decide)) (by decide)) (Eqf.fd (L := [53]) (fun j hj => (sv_n _ (fun h9 => hj (by rw [h9.2]; decide)))) (by decide))
    have e_81 : (sv μ 111 53 ((μ.1 111 53) - 1)).1 111 94 = μ.1 111 94 := (sv_n _ (by decide))
    have e_82 : (sv μ 111 53 ((μ.1 111 53) - 1)).1 111 47 = n := ((sv_n _ (by decide)).trans hn.symm)
    have hMZ_83 : MZ (sv μ 111 53 ((μ.1 111 53) - 1)) := MZ.mn1 hMZ (n := n) (s := μ.1 131 (n - 1)) (hn.symm) (by have h9 : μ.1 131 (n - 1) = μ.1 131 (n - 1) := rfl; exact h9) (by omega) (by have h9 : μ.1 111 53 = μ.1 111 53 := rfl; omega)
    have e_84 : (sv μ 111 53 ((μ.1 111 53) - 1)).1 111 94 = μ.1 111 94 := (sv_n _ (by decide))
    have hA1_85 : A1 (sv μ 111 53 ((μ.1 111 53) - 1)) := TQ.a1 hTQ (Eqa.fr (L := [111]) (FrM.put FrM.rf (by decide)) (by decide)) (Eqf.fd (L := [53]) (fun j hj => (sv_n _ (fun h9 => hj (by rw [h9.2]; decide)))) (by decide)) (by have h9 : (sv μ 111 53 ((μ.1 111 53) - 1)).1 111 53 = (μ.1 111 53) - 1 := (sv_s _ _ _ _); omega)
    refine xc_vV G (b := 111) (rest := []) (As := [.int (iv 4)]) (c_X12_arises_a ω l (sv μ 111 53 ((μ.1 111 53) - 1)) 4 n (by unfold ir; omega) (by omega) hMZ_83 (by omega) (by omega) (fun _ => by omega) (fun _ => hA1_85)) (wm 10 199 rfl rfl) (wm 10 201 rfl rfl) (wm 0 213 rfl rfl) rfl rfl (by decide) rfl (wm 1 18 rfl rfl) (wm 10 202 rfl rfl) (by decide) hR (by decide) (n := 1) rfl rfl (Nat.le_of_ble_eq_true rfl) hl.1 dX12_minus_25 (fun μ86 ρ d0 H locs hp G => ?_)
    obtain ⟨F_87, hp_88, hp_89⟩ := hp
    exact xr_v G hret hlk dX12_minus_28 ⟨(FrM.tr (FrM.put FrM.rf (by decide)) F_87 (by decide)), (fun j hj => ((hp_88 j (fun h9 => hj ((by decide : ∀ x ∈ ([47, 53, 61, 81, 82, 83, 84, 90, 91, 93, 94, 95, 96, 97, 98, 99] : List Int), x ∈ ([47, 53, 61, 81, 82, 83, 84, 90, 91, 93, 94, 95, 96, 97, 98, 99] : List Int)) j h9))).trans (sv_n _ (fun h9 => hj (by rw [h9.2]; decide))))), (hp_89.le (by omega))⟩

set_option maxHeartbeats 4000000 in
set_option maxRecDepth 100000 in
theorem c_X12_reals (ω : Om) (l : Launch) (μ : M3) (x1 : Int) (x2 : Int) (x3 : Int) (n : Int) (hx1 : ir x1) (hn : n = μ.1 111 47) (hMZ : MZ μ) (h1 : 1 ≤ n ∧ n ≤ 24) (h94 : μ.1 111 94 = 0) (hA1 : A1 μ) : CtV ω l yX12_reals cX12_reals 8 183 4972 [.ref (oP ω 111), .int (iv x1), .double (dv x2), .double (dv x3)] μ (fun (μ' : M3) => (FrM [111, 129, 133, 134, 135, 136, 137, 138, 139, 140, 141, 142, 143, 149, 150, 151, 152, 153, 154, 155, 156, 157, 158, 159] μ μ') ∧ (∀ j, j ∉ ([47, 53, 61, 81, 82, 83, 84, 90, 91, 93, 94, 95, 96, 97, 98, 99] : List Int) → μ'.1 111 j = μ.1 111 j) ∧ (RES μ' (RX μ + 9000))) := by
  refine CtV.go (by decide) (Nat.le_of_ble_eq_true rfl) (fun ρ p e s m below meth c R ls G hR hret hlk hl => ?_)
  have hx := G.1.1
  have hb := G.1.2.1
  have hl : lv_has ls 8 [(0, .ref (oP ω 111)), (1, .int (iv x1)), (2, .double (dv x2)), (4, .double (dv x3))] := hl
  generalize s.drawn = d0 at G ⊢
  have hr_x1 : -2147483648 ≤ x1 ∧ x1 ≤ 2147483647 := hx1
  have hzn_ := hMZ.n
  rw [← hn] at hzn_
  obtain ⟨hz47, hzFB, hzFL, hz81, hz82, hz84, hz65, hz4, hz104⟩ := hzn_
  have ha1_ := A1.n hA1 hMZ (by omega)
  have hfr_ := (hMZ.2.2.1 (n - 1) (by omega) (by omega)).1.1
  have hzB := FB_1 (μ := μ) (n := n) (by omega)
  have hzL := FL_1 (μ := μ) (n := n) (by omega)
  refine lv_iload_n hx hb dX12_reals_0 rfl (lv_at hl 1 rfl) ?_
  refine lv_bipush (v := iv 43) hx hb dX12_reals_1 rfl ?_
  refine xb_icmp_ne (tgt := 13) hx hb (by unfold ir; omega) (by unfold ir; omega) dX12_reals_3 (by decide) (fun c_3 => ?_) (fun c_3 => ?_)
  · refine lv_iload_n hx hb dX12_reals_13 rfl (lv_at hl 1 rfl) ?_
    refine lv_bipush (v := iv 45) hx hb dX12_reals_14 rfl ?_
    refine xb_icmp_ne (tgt := 26) hx hb (by unfold ir; omega) (by unfold ir; omega) dX12_reals_16 (by decide) (fun c_16 => ?_) (fun c_16 => ?_)
    · refine lv_iload_n hx hb dX12_reals_26 rfl (lv_at hl 1 rfl) ?_
      refine lv_bipush (v := iv 42) hx hb dX12_reals_27 rfl ?_
      refine xb_icmp_ne (tgt := 39) hx hb (by unfold ir; omega) (by unfold ir; omega) dX12_reals_29 (by decide) (fun c_29 => ?_) (fun c_29 => ?_)
      · refine lv_iload_n hx hb dX12_reals_39 rfl (lv_at hl 1 rfl) ?_
        refine lv_bipush (v := iv 47) hx hb dX12_reals_40 rfl ?_
        refine xb_icmp_ne (tgt := 52) hx hb (by unfold ir; omega) (by unfold ir; omega) dX12_reals_42 (by decide) (fun c_42 => ?_) (fun c_42 => ?_)
        · refine lv_dload_n hx hb dX12_reals_52 rfl (lv_at hl 2 rfl) ?_
          refine lv_dload hx hb dX12_reals_53 (lv_at hl 3 rfl) ?_
          refine xd_drem G dX12_reals_55 (fun dd_1 d0 G => ?_)
          refine lv_dstore (lv' := [(6, .double (dv dd_1)), (0, .ref (oP ω 111)), (1, .int (iv x1)), (2, .double (dv x2)), (4, .double (dv x3))]) hx hb dX12_reals_56 hl (by decide) rfl (fun ls hl => ?_)
          refine lv_dload hx hb dX12_reals_58 (lv_at hl 0 rfl) ?_
          refine xc_iS G (rest := []) (As := [.double (dv dd_1)]) (c_X12_isFinite ω l μ dd_1 ) (wm 11 39 rfl rfl) (wm 11 40 rfl rfl) (wm 1 18 rfl rfl) (wm 11 41 rfl rfl) (by decide) hR (by decide) (n := 1) rfl rfl (Nat.le_of_ble_eq_true rfl) hl.1 dX12_reals_60 (fun r_3 μ2 ρ d0 H locs hr_r_3 hp G => ?_)
          have hr_r_3 : -2147483648 ≤ r_3 ∧ r_3 ≤ 2147483647 := hr_r_3
          have hsm_4 := hp
          have hsm_4 := Eq.symm hsm_4
          subst hsm_4
          refine xb_if_eq (tgt := 79) hx hb (by unfold ir; omega) dX12_reals_63 (by decide) (fun c_63 => ?_) (fun c_63 => ?_)
          · refine lv_aload_n hx hb dX12_reals_79 rfl (lv_at hl 1 rfl) ?_
            refine lv_bipush (v := iv 7) hx hb dX12_reals_80 rfl ?_
            have e_5 : μ.1 111 47 = n := hn.symm
            refine xc_vV G (b := 111) (rest := []) (As := [.int (iv 7)]) (c_X12_arises_a ω l μ 7 n (by unfold ir; omega) (by omega) hMZ (by omega) (by omega) (fun _ => by omega) (fun _ => hA1)) (wm 10 199 rfl rfl) (wm 10 201 rfl rfl) (wm 0 213 rfl rfl) rfl rfl (by decide) rfl (wm 1 18 rfl rfl) (wm 10 202 rfl rfl) (by decide) hR (by decide) (n := 1) rfl rfl (Nat.le_of_ble_eq_true rfl) hl.1 dX12_reals_82 (fun μ6 ρ d0 H locs hp G => ?_)
            obtain ⟨F_7, hp_8, hp_9⟩ := hp
            exact xr_v G hret hlk dX12_reals_85 ⟨(FrM.tr FrM.rf F_7 (by decide)), (fun j hj => (hp_8 j (fun h9 => hj ((by decide : ∀ x ∈ ([47, 53, 61, 81, 82, 83, 84, 90, 91, 93, 94, 95, 96, 97, 98, 99] : List Int), x ∈ ([47, 53, 61, 81, 82, 83, 84, 90, 91, 93, 94, 95, 96, 97, 98, 99] : List Int)) j h9)))), (hp_9.le (by omega))⟩
          · refine lv_aload_n hx hb dX12_reals_66 rfl (lv_at hl 1 rfl) ?_
            refine lv_iconst (v := iv 1) hx hb dX12_reals_67 rfl ?_
            refine lv_dload hx hb dX12_reals_68 (lv_at hl 0 rfl) ?_
            refine xc_lS G (rest := [.int (iv 1), .ref (oP ω 111)]) (As := [.double (dv dd_1)]) (c_Jxe99ae_doubleToLongBits_ccdee ω l μ dd_1 ) (wm 9 44 rfl rfl) (wm 9 45 rfl rfl) (wm 1 23 rfl rfl) (wm 9 46 rfl rfl) (by decide) hR (by decide) (n := 1) rfl rfl (Nat.le_of_ble_eq_true rfl) hl.1 dX12_reals_70 (fun r_11 μ10 ρ d0 H locs hr_r_11 hp G => ?_)
            obtain ⟨hsm_12, hp_13⟩ := hp
            have hsm_12 := Eq.symm hsm_12
            subst hsm_12
            have e_14 : μ.1 111 47 = n := hn.symm
            refine xc_vV G (b := 111) (rest := []) (As := [.int (iv 1), .long (jv r_11)]) (c_X12_push ω l μ 1 r_11 (μ.1 111 53) (by unfold ir; omega) hr_r_11 (by omega) hMZ VV.n1 (by omega)) (wm 10 127 rfl rfl) (wm 10 129 rfl rfl) (wm 0 195 rfl rfl) rfl rfl (by decide) rfl (wm 1 18 rfl rfl) (wm 10 130 rfl rfl) (by decide) hR (by decide) (n := 2) rfl rfl (Nat.le_of_ble_eq_true rfl) hl.1 dX12_reals_73 (fun μ15 ρ d0 H locs hp G => ?_)
            obtain ⟨F_16, hp_17, hp_18, hs_19, hs_20, hs_21, ha_22, ha_23⟩ := hp
            refine lv_goto (tgt := 85) hx hb dX12_reals_76 (by decide) ?_
            have e_24 : μ15.1 111 94 = μ.1 111 94 := (hp_17 94 (by decide))
            have e_25 : μ15.1 111 53 = (μ.1 111 53) + 1 := hs_19
            exact xr_v G hret hlk dX12_reals_85 ⟨(FrM.tr FrM.rf F_16 (by decide)), (fun j hj => (hp_17 j (fun h9 => hj ((by decide : ∀ x ∈ ([53] : List Int), x ∈ ([47, 53, 61, 81, 82, 83, 84, 90, 91, 93, 94, 95, 96, 97, 98, 99] : List Int)) j h9)))), ((A1.res hA1 hp_18 (by have h9 : μ.1 111 47 = n := hn.symm; omega) (Eqa.fr (L := [111, 135, 136]) (FrM.tr FrM.rf F_16 (by decide)) (by decide)) (Eqf.fd (L := [53]) (fun j hj => (hp_17 j (fun h9 => hj ((by decide : ∀ x ∈ ([53] : List Int), x ∈ ([53] : List Int)) j h9)))) (by decide)) (by have h9 : μ15.1 111 94 = μ.1 111 94 := (hp_17 94 (by decide)); omega) (hp_17 83 (by decide)) (by omega)).le (by omega))⟩
        · refine lv_dload_n hx hb dX12_reals_45 rfl (lv_at hl 2 rfl) ?_
          refine lv_dload hx hb dX12_reals_46 (lv_at hl 3 rfl) ?_
          refine xd_ddiv G dX12_reals_48 (fun dd_26 d0 G => ?_)
          refine lv_goto (tgt := 56) hx hb dX12_reals_49 (by decide) ?_
          refine lv_dstore (lv' := [(6, .double (dv dd_26)), (0, .ref (oP ω 111)), (1, .int (iv x1)), (2, .double (dv x2)), (4, .double (dv x3))]) hx hb dX12_reals_56 hl (by decide) rfl (fun ls hl => ?_)
          refine lv_dload hx hb dX12_reals_58 (lv_at hl 0 rfl) ?_
          refine xc_iS G (rest := []) (As := [.double (dv dd_26)]) (c_X12_isFinite ω l μ dd_26 ) (wm 11 39 rfl rfl) (wm 11 40 rfl rfl) (wm 1 18 rfl rfl) (wm 11 41 rfl rfl) (by decide) hR (by decide) (n := 1) rfl rfl (Nat.le_of_ble_eq_true rfl) hl.1 dX12_reals_60 (fun r_28 μ27 ρ d0 H locs hr_r_28 hp G => ?_)
          have hr_r_28 : -2147483648 ≤ r_28 ∧ r_28 ≤ 2147483647 := hr_r_28
          have hsm_29 := hp
          have hsm_29 := Eq.symm hsm_29
          subst hsm_29
          refine xb_if_eq (tgt := 79) hx hb (by unfold ir; omega) dX12_reals_63 (by decide) (fun c_63 => ?_) (fun c_63 => ?_)
          · refine lv_aload_n hx hb dX12_reals_79 rfl (lv_at hl 1 rfl) ?_
            refine lv_bipush (v := iv 7) hx hb dX12_reals_80 rfl ?_
            have e_30 : μ.1 111 47 = n := hn.symm
            refine xc_vV G (b := 111) (rest := []) (As := [.int (iv 7)]) (c_X12_arises_a ω l μ 7 n (by unfold ir; omega) (by omega) hMZ (by omega) (by omega) (fun _ => by omega) (fun _ => hA1)) (wm 10 199 rfl rfl) (wm 10 201 rfl rfl) (wm 0 213 rfl rfl) rfl rfl (by decide) rfl (wm 1 18 rfl rfl) (wm 10 202 rfl rfl) (by decide) hR (by decide) (n := 1) rfl rfl (Nat.le_of_ble_eq_true rfl) hl.1 dX12_reals_82 (fun μ31 ρ d0 H locs hp G => ?_)
            obtain ⟨F_32, hp_33, hp_34⟩ := hp
            exact xr_v G hret hlk dX12_reals_85 ⟨(FrM.tr FrM.rf F_32 (by decide)), (fun j hj => (hp_33 j (fun h9 => hj ((by decide : ∀ x ∈ ([47, 53, 61, 81, 82, 83, 84, 90, 91, 93, 94, 95, 96, 97, 98, 99] : List Int), x ∈ ([47, 53, 61, 81, 82, 83, 84, 90, 91, 93, 94, 95, 96, 97, 98, 99] : List Int)) j h9)))), (hp_34.le (by omega))⟩
          · refine lv_aload_n hx hb dX12_reals_66 rfl (lv_at hl 1 rfl) ?_
            refine lv_iconst (v := iv 1) hx hb dX12_reals_67 rfl ?_
            refine lv_dload hx hb dX12_reals_68 (lv_at hl 0 rfl) ?_
            refine xc_lS G (rest := [.int (iv 1), .ref (oP ω 111)]) (As := [.double (dv dd_26)]) (c_Jxe99ae_doubleToLongBits_ccdee ω l μ dd_26 ) (wm 9 44 rfl rfl) (wm 9 45 rfl rfl) (wm 1 23 rfl rfl) (wm 9 46 rfl rfl) (by decide) hR (by decide) (n := 1) rfl rfl (Nat.le_of_ble_eq_true rfl) hl.1 dX12_reals_70 (fun r_36 μ35 ρ d0 H locs hr_r_36 hp G => ?_)
            obtain ⟨hsm_37, hp_38⟩ := hp
            have hsm_37 := Eq.symm hsm_37
            subst hsm_37
            have e_39 : μ.1 111 47 = n := hn.symm
            refine xc_vV G (b := 111) (rest := []) (As := [.int (iv 1), .long (jv r_36)]) (c_X12_push ω l μ 1 r_36 (μ.1 111 53) (by unfold ir; omega) hr_r_36 (by omega) hMZ VV.n1 (by omega)) (wm 10 127 rfl rfl) (wm 10 129 rfl rfl) (wm 0 195 rfl rfl) rfl rfl (by decide) rfl (wm 1 18 rfl rfl) (wm 10 130 rfl rfl) (by decide) hR (by decide) (n := 2) rfl rfl (Nat.le_of_ble_eq_true rfl) hl.1 dX12_reals_73 (fun μ40 ρ d0 H locs hp G => ?_)
            obtain ⟨F_41, hp_42, hp_43, hs_44, hs_45, hs_46, ha_47, ha_48⟩ := hp
            refine lv_goto (tgt := 85) hx hb dX12_reals_76 (by decide) ?_
            have e_49 : μ40.1 111 94 = μ.1 111 94 := (hp_42 94 (by decide))
            have e_50 : μ40.1 111 53 = (μ.1 111 53) + 1 := hs_44
            exact xr_v G hret hlk dX12_reals_85 ⟨(FrM.tr FrM.rf F_41 (by decide)), (fun j hj => (hp_42 j (fun h9 => hj ((by decide : ∀ x ∈ ([53] : List Int), x ∈ ([47, 53, 61, 81, 82, 83, 84, 90, 91, 93, 94, 95, 96, 97, 98, 99] : List Int)) j h9)))), ((A1.res hA1 hp_43 (by have h9 : μ.1 111 47 = n := hn.symm; omega) (Eqa.fr (L := [111, 135, 136]) (FrM.tr FrM.rf F_41 (by decide)) (by decide)) (Eqf.fd (L := [53]) (fun j hj => (hp_42 j (fun h9 => hj ((by decide : ∀ x ∈ ([53] : List Int), x ∈ ([53] : List Int)) j h9)))) (by decide)) (by have h9 : μ40.1 111 94 = μ.1 111 94 := (hp_42 94 (by decide)); omega) (hp_42 83 (by decide)) (by omega)).le (by omega))⟩
      · refine lv_dload_n hx hb dX12_reals_32 rfl (lv_at hl 2 rfl) ?_
        refine lv_dload hx hb dX12_reals_33 (lv_at hl 3 rfl) ?_
        refine xd_dmul G dX12_reals_35 (fun dd_51 d0 G => ?_)
        refine lv_goto (tgt := 56) hx hb dX12_reals_36 (by decide) ?_
        refine lv_dstore (lv' := [(6, .double (dv dd_51)), (0, .ref (oP ω 111)), (1, .int (iv x1)), (2, .double (dv x2)), (4, .double (dv x3))]) hx hb dX12_reals_56 hl (by decide) rfl (fun ls hl => ?_)
        refine lv_dload hx hb dX12_reals_58 (lv_at hl 0 rfl) ?_
        refine xc_iS G (rest := []) (As := [.double (dv dd_51)]) (c_X12_isFinite ω l μ dd_51 ) (wm 11 39 rfl rfl) (wm 11 40 rfl rfl) (wm 1 18 rfl rfl) (wm 11 41 rfl rfl) (by decide) hR (by decide) (n := 1) rfl rfl (Nat.le_of_ble_eq_true rfl) hl.1 dX12_reals_60 (fun r_53 μ52 ρ d0 H locs hr_r_53 hp G => ?_)
        have hr_r_53 : -2147483648 ≤ r_53 ∧ r_53 ≤ 2147483647 := hr_r_53
        have hsm_54 := hp
        have hsm_54 := Eq.symm hsm_54
        subst hsm_54
        refine xb_if_eq (tgt := 79) hx hb (by unfold ir; omega) dX12_reals_63 (by decide) (fun c_63 => ?_) (fun c_63 => ?_)
        · refine lv_aload_n hx hb dX12_reals_79 rfl (lv_at hl 1 rfl) ?_
          refine lv_bipush (v := iv 7) hx hb dX12_reals_80 rfl ?_
          have e_55 : μ.1 111 47 = n := hn.symm
          refine xc_vV G (b := 111) (rest := []) (As := [.int (iv 7)]) (c_X12_arises_a ω l μ 7 n (by unfold ir; omega) (by omega) hMZ (by omega) (by omega) (fun _ => by omega) (fun _ => hA1)) (wm 10 199 rfl rfl) (wm 10 201 rfl rfl) (wm 0 213 rfl rfl) rfl rfl (by decide) rfl (wm 1 18 rfl rfl) (wm 10 202 rfl rfl) (by decide) hR (by decide) (n := 1) rfl rfl (Nat.le_of_ble_eq_true rfl) hl.1 dX12_reals_82 (fun μ56 ρ d0 H locs hp G => ?_)
          obtain ⟨F_57, hp_58, hp_59⟩ := hp
          exact xr_v G hret hlk dX12_reals_85 ⟨(FrM.tr FrM.rf F_57 (by decide)), (fun j hj => (hp_58 j (fun h9 => hj ((by decide : ∀ x ∈ ([47, 53, 61, 81, 82, 83, 84, 90, 91, 93, 94, 95, 96, 97, 98, 99] : List Int), x ∈ ([47, 53, 61, 81, 82, 83, 84, 90, 91, 93, 94, 95, 96, 97, 98, 99] : List Int)) j h9)))), (hp_59.le (by omega))⟩
        · refine lv_aload_n hx hb dX12_reals_66 rfl (lv_at hl 1 rfl) ?_
          refine lv_iconst (v := iv 1) hx hb dX12_reals_67 rfl ?_
          refine lv_dload hx hb dX12_reals_68 (lv_at hl 0 rfl) ?_
          refine xc_lS G (rest := [.int (iv 1), .ref (oP ω 111)]) (As := [.double (dv dd_51)]) (c_Jxe99ae_doubleToLongBits_ccdee ω l μ dd_51 ) (wm 9 44 rfl rfl) (wm 9 45 rfl rfl) (wm 1 23 rfl rfl) (wm 9 46 rfl rfl) (by decide) hR (by decide) (n := 1) rfl rfl (Nat.le_of_ble_eq_true rfl) hl.1 dX12_reals_70 (fun r_61 μ60 ρ d0 H locs hr_r_61 hp G => ?_)
          obtain ⟨hsm_62, hp_63⟩ := hp
          have hsm_62 := Eq.symm hsm_62
          subst hsm_62
          have e_64 : μ.1 111 47 = n := hn.symm
          refine xc_vV G (b := 111) (rest := []) (As := [.int (iv 1), .long (jv r_61)]) (c_X12_push ω l μ 1 r_61 (μ.1 111 53) (by unfold ir; omega) hr_r_61 (by omega) hMZ VV.n1 (by omega)) (wm 10 127 rfl rfl) (wm 10 129 rfl rfl) (wm 0 195 rfl rfl) rfl rfl (by decide) rfl (wm 1 18 rfl rfl) (wm 10 130 rfl rfl) (by decide) hR (by decide) (n := 2) rfl rfl (Nat.le_of_ble_eq_true rfl) hl.1 dX12_reals_73 (fun μ65 ρ d0 H locs hp G => ?_)
          obtain ⟨F_66, hp_67, hp_68, hs_69, hs_70, hs_71, ha_72, ha_73⟩ := hp
          refine lv_goto (tgt := 85) hx hb dX12_reals_76 (by decide) ?_
          have e_74 : μ65.1 111 94 = μ.1 111 94 := (hp_67 94 (by decide))
          have e_75 : μ65.1 111 53 = (μ.1 111 53) + 1 := hs_69
          exact xr_v G hret hlk dX12_reals_85 ⟨(FrM.tr FrM.rf F_66 (by decide)), (fun j hj => (hp_67 j (fun h9 => hj ((by decide : ∀ x ∈ ([53] : List Int), x ∈ ([47, 53, 61, 81, 82, 83, 84, 90, 91, 93, 94, 95, 96, 97, 98, 99] : List Int)) j h9)))), ((A1.res hA1 hp_68 (by have h9 : μ.1 111 47 = n := hn.symm; omega) (Eqa.fr (L := [111, 135, 136]) (FrM.tr FrM.rf F_66 (by decide)) (by decide)) (Eqf.fd (L := [53]) (fun j hj => (hp_67 j (fun h9 => hj ((by decide : ∀ x ∈ ([53] : List Int), x ∈ ([53] : List Int)) j h9)))) (by decide)) (by have h9 : μ65.1 111 94 = μ.1 111 94 := (hp_67 94 (by decide)); omega) (hp_67 83 (by decide)) (by omega)).le (by omega))⟩
    · refine lv_dload_n hx hb dX12_reals_19 rfl (lv_at hl 2 rfl) ?_
      refine lv_dload hx hb dX12_reals_20 (lv_at hl 3 rfl) ?_
      refine xd_dsub G dX12_reals_22 (fun dd_76 d0 G => ?_)
      refine lv_goto (tgt := 56) hx hb dX12_reals_23 (by decide) ?_
      refine lv_dstore (lv' := [(6, .double (dv dd_76)), (0, .ref (oP ω 111)), (1, .int (iv x1)), (2, .double (dv x2)), (4, .double (dv x3))]) hx hb dX12_reals_56 hl (by decide) rfl (fun ls hl => ?_)
      refine lv_dload hx hb dX12_reals_58 (lv_at hl 0 rfl) ?_
      refine xc_iS G (rest := []) (As := [.double (dv dd_76)]) (c_X12_isFinite ω l μ dd_76 ) (wm 11 39 rfl rfl) (wm 11 40 rfl rfl) (wm 1 18 rfl rfl) (wm 11 41 rfl rfl) (by decide) hR (by decide) (n := 1) rfl rfl (Nat.le_of_ble_eq_true rfl) hl.1 dX12_reals_60 (fun r_78 μ77 ρ d0 H locs hr_r_78 hp G => ?_)
      have hr_r_78 : -2147483648 ≤ r_78 ∧ r_78 ≤ 2147483647 := hr_r_78
      have hsm_79 := hp
      have hsm_79 := Eq.symm hsm_79
      subst hsm_79
      refine xb_if_eq (tgt := 79) hx hb (by unfold ir; omega) dX12_reals_63 (by decide) (fun c_63 => ?_) (fun c_63 => ?_)
      · refine lv_aload_n hx hb dX12_reals_79 rfl (lv_at hl 1 rfl) ?_
        refine lv_bipush (v := iv 7) hx hb dX12_reals_80 rfl ?_
        have e_80 : μ.1 111 47 = n := hn.symm
        refine xc_vV G (b := 111) (rest := []) (As := [.int (iv 7)]) (c_X12_arises_a ω l μ 7 n (by unfold ir; omega) (by omega) hMZ (by omega) (by omega) (fun _ => by omega) (fun _ => hA1)) (wm 10 199 rfl rfl) (wm 10 201 rfl rfl) (wm 0 213 rfl rfl) rfl rfl (by decide) rfl (wm 1 18 rfl rfl) (wm 10 202 rfl rfl) (by decide) hR (by decide) (n := 1) rfl rfl (Nat.le_of_ble_eq_true rfl) hl.1 dX12_reals_82 (fun μ81 ρ d0 H locs hp G => ?_)
        obtain ⟨F_82, hp_83, hp_84⟩ := hp
        exact xr_v G hret hlk dX12_reals_85 ⟨(FrM.tr FrM.rf F_82 (by decide)), (fun j hj => (hp_83 j (fun h9 => hj ((by decide : ∀ x ∈ ([47, 53, 61, 81, 82, 83, 84, 90, 91, 93, 94, 95, 96, 97, 98, 99] : List Int), x ∈ ([47, 53, 61, 81, 82, 83, 84, 90, 91, 93, 94, 95, 96, 97, 98, 99] : List Int)) j h9)))), (hp_84.le (by omega))⟩
      · refine lv_aload_n hx hb dX12_reals_66 rfl (lv_at hl 1 rfl) ?_
        refine lv_iconst (v := iv 1) hx hb dX12_reals_67 rfl ?_
        refine lv_dload hx hb dX12_reals_68 (lv_at hl 0 rfl) ?_
        refine xc_lS G (rest := [.int (iv 1), .ref (oP ω 111)]) (As := [.double (dv dd_76)]) (c_Jxe99ae_doubleToLongBits_ccdee ω l μ dd_76 ) (wm 9 44 rfl rfl) (wm 9 45 rfl rfl) (wm 1 23 rfl rfl) (wm 9 46 rfl rfl) (by decide) hR (by decide) (n := 1) rfl rfl (Nat.le_of_ble_eq_true rfl) hl.1 dX12_reals_70 (fun r_86 μ85 ρ d0 H locs hr_r_86 hp G => ?_)
        obtain ⟨hsm_87, hp_88⟩ := hp
        have hsm_87 := Eq.symm hsm_87
        subst hsm_87
        have e_89 : μ.1 111 47 = n := hn.symm
        refine xc_vV G (b := 111) (rest := []) (As := [.int (iv 1), .long (jv r_86)]) (c_X12_push ω l μ 1 r_86 (μ.1 111 53) (by unfold ir; omega) hr_r_86 (by omega) hMZ VV.n1 (by omega)) (wm 10 127 rfl rfl) (wm 10 129 rfl rfl) (wm 0 195 rfl rfl) rfl rfl (by decide) rfl (wm 1 18 rfl rfl) (wm 10 130 rfl rfl) (by decide) hR (by decide) (n := 2) rfl rfl (Nat.le_of_ble_eq_true rfl) hl.1 dX12_reals_73 (fun μ90 ρ d0 H locs hp G => ?_)
        obtain ⟨F_91, hp_92, hp_93, hs_94, hs_95, hs_96, ha_97, ha_98⟩ := hp
        refine lv_goto (tgt := 85) hx hb dX12_reals_76 (by decide) ?_
        have e_99 : μ90.1 111 94 = μ.1 111 94 := (hp_92 94 (by decide))
        have e_100 : μ90.1 111 53 = (μ.1 111 53) + 1 := hs_94
        exact xr_v G hret hlk dX12_reals_85 ⟨(FrM.tr FrM.rf F_91 (by decide)), (fun j hj => (hp_92 j (fun h9 => hj ((by decide : ∀ x ∈ ([53] : List Int), x ∈ ([47, 53, 61, 81, 82, 83, 84, 90, 91, 93, 94, 95, 96, 97, 98, 99] : List Int)) j h9)))), ((A1.res hA1 hp_93 (by have h9 : μ.1 111 47 = n := hn.symm; omega) (Eqa.fr (L := [111, 135, 136]) (FrM.tr FrM.rf F_91 (by decide)) (by decide)) (Eqf.fd (L := [53]) (fun j hj => (hp_92 j (fun h9 => hj ((by decide : ∀ x ∈ ([53] : List Int), x ∈ ([53] : List Int)) j h9)))) (by decide)) (by have h9 : μ90.1 111 94 = μ.1 111 94 := (hp_92 94 (by decide)); omega) (hp_92 83 (by decide)) (by omega)).le (by omega))⟩
  · refine lv_dload_n hx hb dX12_reals_6 rfl (lv_at hl 2 rfl) ?_
    refine lv_dload hx hb dX12_reals_7 (lv_at hl 3 rfl) ?_
    refine xd_dadd G dX12_reals_9 (fun dd_101 d0 G => ?_)
    refine lv_goto (tgt := 56) hx hb dX12_reals_10 (by decide) ?_
    refine lv_dstore (lv' := [(6, .double (dv dd_101)), (0, .ref (oP ω 111)), (1, .int (iv x1)), (2, .double (dv x2)), (4, .double (dv x3))]) hx hb dX12_reals_56 hl (by decide) rfl (fun ls hl => ?_)
    refine lv_dload hx hb dX12_reals_58 (lv_at hl 0 rfl) ?_
    refine xc_iS G (rest := []) (As := [.double (dv dd_101)]) (c_X12_isFinite ω l μ dd_101 ) (wm 11 39 rfl rfl) (wm 11 40 rfl rfl) (wm 1 18 rfl rfl) (wm 11 41 rfl rfl) (by decide) hR (by decide) (n := 1) rfl rfl (Nat.le_of_ble_eq_true rfl) hl.1 dX12_reals_60 (fun r_103 μ102 ρ d0 H locs hr_r_103 hp G => ?_)
    have hr_r_103 : -2147483648 ≤ r_103 ∧ r_103 ≤ 2147483647 := hr_r_103
    have hsm_104 := hp
    have hsm_104 := Eq.symm hsm_104
    subst hsm_104
    refine xb_if_eq (tgt := 79) hx hb (by unfold ir; omega) dX12_reals_63 (by decide) (fun c_63 => ?_) (fun c_63 => ?_)
    · refine lv_aload_n hx hb dX12_reals_79 rfl (lv_at hl 1 rfl) ?_
      refine lv_bipush (v := iv 7) hx hb dX12_reals_80 rfl ?_
      have e_105 : μ.1 111 47 = n := hn.symm
      refine xc_vV G (b := 111) (rest := []) (As := [.int (iv 7)]) (c_X12_arises_a ω l μ 7 n (by unfold ir; omega) (by omega) hMZ (by omega) (by omega) (fun _ => by omega) (fun _ => hA1)) (wm 10 199 rfl rfl) (wm 10 201 rfl rfl) (wm 0 213 rfl rfl) rfl rfl (by decide) rfl (wm 1 18 rfl rfl) (wm 10 202 rfl rfl) (by decide) hR (by decide) (n := 1) rfl rfl (Nat.le_of_ble_eq_true rfl) hl.1 dX12_reals_82 (fun μ106 ρ d0 H locs hp G => ?_)
      obtain ⟨F_107, hp_108, hp_109⟩ := hp
      exact xr_v G hret hlk dX12_reals_85 ⟨(FrM.tr FrM.rf F_107 (by decide)), (fun j hj => (hp_108 j (fun h9 => hj ((by decide : ∀ x ∈ ([47, 53, 61, 81, 82, 83, 84, 90, 91, 93, 94, 95, 96, 97, 98, 99] : List Int), x ∈ ([47, 53, 61, 81, 82, 83, 84, 90, 91, 93, 94, 95, 96, 97, 98, 99] : List Int)) j h9)))), (hp_109.le (by omega))⟩
    · refine lv_aload_n hx hb dX12_reals_66 rfl (lv_at hl 1 rfl) ?_
      refine lv_iconst (v := iv 1) hx hb dX12_reals_67 rfl ?_
      refine lv_dload hx hb dX12_reals_68 (lv_at hl 0 rfl) ?_
      refine xc_lS G (rest := [.int (iv 1), .ref (oP ω 111)]) (As := [.double (dv dd_101)]) (c_Jxe99ae_doubleToLongBits_ccdee ω l μ dd_101 ) (wm 9 44 rfl rfl) (wm 9 45 rfl rfl) (wm 1 23 rfl rfl) (wm 9 46 rfl rfl) (by decide) hR (by decide) (n := 1) rfl rfl (Nat.le_of_ble_eq_true rfl) hl.1 dX12_reals_70 (fun r_111 μ110 ρ d0 H locs hr_r_111 hp G => ?_)
      obtain ⟨hsm_112, hp_113⟩ := hp
      have hsm_112 := Eq.symm hsm_112
      subst hsm_112
      have e_114 : μ.1 111 47 = n := hn.symm
      refine xc_vV G (b := 111) (rest := []) (As := [.int (iv 1), .long (jv r_111)]) (c_X12_push ω l μ 1 r_111 (μ.1 111 53) (by unfold ir; omega) hr_r_111 (by omega) hMZ VV.n1 (by omega)) (wm 10 127 rfl rfl) (wm 10 129 rfl rfl) (wm 0 195 rfl rfl) rfl rfl (by decide) rfl (wm 1 18 rfl rfl) (wm 10 130 rfl rfl) (by decide) hR (by decide) (n := 2) rfl rfl (Nat.le_of_ble_eq_true rfl) hl.1 dX12_reals_73 (fun μ115 ρ d0 H locs hp G => ?_)
      obtain ⟨F_116, hp_117, hp_118, hs_119, hs_120, hs_121, ha_122, ha_123⟩ := hp
      refine lv_goto (tgt := 85) hx hb dX12_reals_76 (by decide) ?_
      have e_124 : μ115.1 111 94 = μ.1 111 94 := (hp_117 94 (by decide))
      have e_125 : μ115.1 111 53 = (μ.1 111 53) + 1 := hs_119
      exact xr_v G hret hlk dX12_reals_85 ⟨(FrM.tr FrM.rf F_116 (by decide)), (fun j hj => (hp_117 j (fun h9 => hj ((by decide : ∀ x ∈ ([53] : List Int), x ∈ ([47, 53, 61, 81, 82, 83, 84, 90, 91, 93, 94, 95, 96, 97, 98, 99] : List Int)) j h9)))), ((A1.res hA1 hp_118 (by have h9 : μ.1 111 47 = n := hn.symm; omega) (Eqa.fr (L := [111, 135, 136]) (FrM.tr FrM.rf F_116 (by decide)) (by decide)) (Eqf.fd (L := [53]) (fun j hj => (hp_117 j (fun h9 => hj ((by decide : ∀ x ∈ ([53] : List Int), x ∈ ([53] : List Int)) j h9)))) (by decide)) (by have h9 : μ115.1 111 94 = μ.1 111 94 := (hp_117 94 (by decide)); omega) (hp_117 83 (by decide)) (by omega)).le (by omega))⟩

set_option maxHeartbeats 4000000 in
set_option maxRecDepth 100000 in
theorem c_X12_wholes (ω : Om) (l : Launch) (μ : M3) (x1 : Int) (x2 : Int) (x3 : Int) (x4 : Int) (n : Int) (hx1 : ir x1) (hx2 : ir x2) (hx3 : jr x3) (hx4 : jr x4) (hn : n = μ.1 111 47) (hMZ : MZ μ) (h1 : 1 ≤ n ∧ n ≤ 24) (h94 : μ.1 111 94 = 0) (hA1 : A1 μ) (hc5 : x2 = 43 ∨ x2 = 45 ∨ x2 = 42 ∨ x2 = 47 ∨ x2 = 37) (hb0 : x2 = 47 ∨ x2 = 37 → x4 ≠ 0) : CtV ω l yX12_wholes cX12_wholes 10 183 4972 [.ref (oP ω 111), .int (iv x1), .int (iv x2), .long (jv x3), .long (jv x4)] μ (fun (μ' : M3) => (FrM [111, 129, 133, 134, 135, 136, 137, 138, 139, 140, 141, 142, 143, 149, 150, 151, 152, 153, 154, 155, 156, 157, 158, 159] μ μ') ∧ (∀ j, j ∉ ([47, 53, 61, 81, 82, 83, 84, 90, 91, 93, 94, 95, 96, 97, 98, 99] : List Int) → μ'.1 111 j = μ.1 111 j) ∧ (RES μ' (RX μ + 9000))) := by
  refine CtV.go (by decide) (Nat.le_of_ble_eq_true rfl) (fun ρ p e s m below meth c R ls G hR hret hlk hl => ?_)
  have hx := G.1.1
  have hb := G.1.2.1
  have hl : lv_has ls 10 [(0, .ref (oP ω 111)), (1, .int (iv x1)), (2, .int (iv x2)), (3, .long (jv x3)), (5, .long (jv x4))] := hl
  generalize s.drawn = d0 at G ⊢
  have hr_x1 : -2147483648 ≤ x1 ∧ x1 ≤ 2147483647 := hx1
  have hr_x2 : -2147483648 ≤ x2 ∧ x2 ≤ 2147483647 := hx2
  have hzn_ := hMZ.n
  rw [← hn] at hzn_
  obtain ⟨hz47, hzFB, hzFL, hz81, hz82, hz84, hz65, hz4, hz104⟩ := hzn_
  have ha1_ := A1.n hA1 hMZ (by omega)
  have hfr_ := (hMZ.2.2.1 (n - 1) (by omega) (by omega)).1.1
  have hzB := FB_1 (μ := μ) (n := n) (by omega)
  have hzL := FL_1 (μ := μ) (n := n) (by omega)
  refine xj (pc2 := 67) (st2 := fun v_1 => [.int (iv v_1)]) (C := fun v_1 => (-2147483648 ≤ v_1 ∧ v_1 ≤ 2147483647) ∧ (True)) (fun v_1 hv_2 => ?_) (fun kont_67 => ?_)
  · skip
    obtain ⟨hr_v_1, hv_2⟩ := hv_2
    refine lv_istore (lv' := [(7, .int (iv v_1)), (0, .ref (oP ω 111)), (1, .int (iv x1)), (2, .int (iv x2)), (3, .long (jv x3)), (5, .long (jv x4))]) hx hb dX12_wholes_67 hl (by decide) rfl (fun ls hl => ?_)
    refine xj (pc2 := 125) (st2 := fun v_3 => [.long (jv v_3)]) (C := fun v_3 => (jr v_3) ∧ (True)) (fun v_3 hv_4 => ?_) (fun kont_125 => ?_)
    · skip
      obtain ⟨hr_v_3, hv_4⟩ := hv_4
      refine lv_lstore (lv' := [(8, .long (jv v_3)), (7, .int (iv v_1)), (0, .ref (oP ω 111)), (1, .int (iv x1)), (2, .int (iv x2)), (3, .long (jv x3)), (5, .long (jv x4))]) hx hb dX12_wholes_125 hl (by decide) rfl (fun ls hl => ?_)
      refine lv_iload hx hb dX12_wholes_127 (lv_at hl 1 rfl) ?_
      refine xb_if_ne (tgt := 141) hx hb (by unfold ir; omega) dX12_wholes_129 (by decide) (fun c_129 => ?_) (fun c_129 => ?_)
      · refine lv_aload_n hx hb dX12_wholes_141 rfl (lv_at hl 2 rfl) ?_
        refine lv_bipush (v := iv 7) hx hb dX12_wholes_142 rfl ?_
        have e_5 : μ.1 111 47 = n := hn.symm
        refine xc_vV G (b := 111) (rest := []) (As := [.int (iv 7)]) (c_X12_arises_a ω l μ 7 n (by unfold ir; omega) (by omega) hMZ (by omega) (by omega) (fun _ => by omega) (fun _ => hA1)) (wm 10 199 rfl rfl) (wm 10 201 rfl rfl) (wm 0 213 rfl rfl) rfl rfl (by decide) rfl (wm 1 18 rfl rfl) (wm 10 202 rfl rfl) (by decide) hR (by decide) (n := 1) rfl rfl (Nat.le_of_ble_eq_true rfl) hl.1 dX12_wholes_144 (fun μ6 ρ d0 H locs hp G => ?_)
        obtain ⟨F_7, hp_8, hp_9⟩ := hp
        refine lv_goto (tgt := 157) hx hb dX12_wholes_147 (by decide) ?_
        exact xr_v G hret hlk dX12_wholes_157 ⟨(FrM.tr FrM.rf F_7 (by decide)), (fun j hj => (hp_8 j (fun h9 => hj ((by decide : ∀ x ∈ ([47, 53, 61, 81, 82, 83, 84, 90, 91, 93, 94, 95, 96, 97, 98, 99] : List Int), x ∈ ([47, 53, 61, 81, 82, 83, 84, 90, 91, 93, 94, 95, 96, 97, 98, 99] : List Int)) j h9)))), (hp_9.le (by omega))⟩
      · refine lv_iload_n hx hb dX12_wholes_132 rfl (lv_at hl 3 rfl) ?_
        refine lv_lload hx hb dX12_wholes_133 (lv_at hl 0 rfl) ?_
        refine xc_iS G (rest := []) (As := [.int (iv x1), .long (jv v_3)]) (c_X12_has ω l μ x1 v_3 (by unfold ir; omega) hr_v_3) (wm 10 99 rfl rfl) (wm 10 100 rfl rfl) (wm 1 18 rfl rfl) (wm 10 101 rfl rfl) (by decide) hR (by decide) (n := 2) rfl rfl (Nat.le_of_ble_eq_true rfl) hl.1 dX12_wholes_135 (fun r_11 μ10 ρ d0 H locs hr_r_11 hp G => ?_)
        have hr_r_11 : -2147483648 ≤ r_11 ∧ r_11 ≤ 2147483647 := hr_r_11
        have hsm_12 := hp
        have hsm_12 := Eq.symm hsm_12
        subst hsm_12
        refine xb_if_ne (tgt := 150) hx hb (by unfold ir; omega) dX12_wholes_138 (by decide) (fun c_138 => ?_) (fun c_138 => ?_)
        · refine lv_aload_n hx hb dX12_wholes_150 rfl (lv_at hl 2 rfl) ?_
          refine lv_iconst (v := iv 1) hx hb dX12_wholes_151 rfl ?_
          refine lv_lload hx hb dX12_wholes_152 (lv_at hl 0 rfl) ?_
          have e_13 : μ.1 111 47 = n := hn.symm
          refine xc_vV G (b := 111) (rest := []) (As := [.int (iv 1), .long (jv v_3)]) (c_X12_push ω l μ 1 v_3 (μ.1 111 53) (by unfold ir; omega) hr_v_3 (by omega) hMZ VV.n1 (by omega)) (wm 10 127 rfl rfl) (wm 10 129 rfl rfl) (wm 0 195 rfl rfl) rfl rfl (by decide) rfl (wm 1 18 rfl rfl) (wm 10 130 rfl rfl) (by decide) hR (by decide) (n := 2) rfl rfl (Nat.le_of_ble_eq_true rfl) hl.1 dX12_wholes_154 (fun μ14 ρ d0 H locs hp G => ?_)
          obtain ⟨F_15, hp_16, hp_17, hs_18, hs_19, hs_20, ha_21, ha_22⟩ := hp
          have e_23 : μ14.1 111 94 = μ.1 111 94 := (hp_16 94 (by decide))
          have e_24 : μ14.1 111 53 = (μ.1 111 53) + 1 := hs_18
          exact xr_v G hret hlk dX12_wholes_157 ⟨(FrM.tr FrM.rf F_15 (by decide)), (fun j hj => (hp_16 j (fun h9 => hj ((by decide : ∀ x ∈ ([53] : List Int), x ∈ ([47, 53, 61, 81, 82, 83, 84, 90, 91, 93, 94, 95, 96, 97, 98, 99] : List Int)) j h9)))), ((A1.res hA1 hp_17 (by have h9 : μ.1 111 47 = n := hn.symm; omega) (Eqa.fr (L := [111, 135, 136]) (FrM.tr FrM.rf F_15 (by decide)) (by decide)) (Eqf.fd (L := [53]) (fun j hj => (hp_16 j (fun h9 => hj ((by decide : ∀ x ∈ ([53] : List Int), x ∈ ([53] : List Int)) j h9)))) (by decide)) (by have h9 : μ14.1 111 94 = μ.1 111 94 := (hp_16 94 (by decide)); omega) (hp_16 83 (by decide)) (by omega)).le (by omega))⟩
        · refine lv_aload_n hx hb dX12_wholes_141 rfl (lv_at hl 2 rfl) ?_
          refine lv_bipush (v := iv 7) hx hb dX12_wholes_142 rfl ?_
          have e_25 : μ.1 111 47 = n := hn.symm
          refine xc_vV G (b := 111) (rest := []) (As := [.int (iv 7)]) (c_X12_arises_a ω l μ 7 n (by unfold ir; omega) (by omega) hMZ (by omega) (by omega) (fun _ => by omega) (fun _ => hA1)) (wm 10 199 rfl rfl) (wm 10 201 rfl rfl) (wm 0 213 rfl rfl) rfl rfl (by decide) rfl (wm 1 18 rfl rfl) (wm 10 202 rfl rfl) (by decide) hR (by decide) (n := 1) rfl rfl (Nat.le_of_ble_eq_true rfl) hl.1 dX12_wholes_144 (fun μ26 ρ d0 H locs hp G => ?_)
          obtain ⟨F_27, hp_28, hp_29⟩ := hp
          refine lv_goto (tgt := 157) hx hb dX12_wholes_147 (by decide) ?_
          exact xr_v G hret hlk dX12_wholes_157 ⟨(FrM.tr FrM.rf F_27 (by decide)), (fun j hj => (hp_28 j (fun h9 => hj ((by decide : ∀ x ∈ ([47, 53, 61, 81, 82, 83, 84, 90, 91, 93, 94, 95, 96, 97, 98, 99] : List Int), x ∈ ([47, 53, 61, 81, 82, 83, 84, 90, 91, 93, 94, 95, 96, 97, 98, 99] : List Int)) j h9)))), (hp_29.le (by omega))⟩
    · skip
      refine lv_iload_n hx hb dX12_wholes_69 rfl (lv_at hl 3 rfl) ?_
      refine lv_bipush (v := iv 43) hx hb dX12_wholes_70 rfl ?_
      refine xb_icmp_ne (tgt := 82) hx hb (by unfold ir; omega) (by unfold ir; omega) dX12_wholes_72 (by decide) (fun c_72 => ?_) (fun c_72 => ?_)
      · refine lv_iload_n hx hb dX12_wholes_82 rfl (lv_at hl 3 rfl) ?_
        refine lv_bipush (v := iv 45) hx hb dX12_wholes_83 rfl ?_
        refine xb_icmp_ne (tgt := 95) hx hb (by unfold ir; omega) (by unfold ir; omega) dX12_wholes_85 (by decide) (fun c_85 => ?_) (fun c_85 => ?_)
        · refine lv_iload_n hx hb dX12_wholes_95 rfl (lv_at hl 3 rfl) ?_
          refine lv_bipush (v := iv 42) hx hb dX12_wholes_96 rfl ?_
          refine xb_icmp_ne (tgt := 108) hx hb (by unfold ir; omega) (by unfold ir; omega) dX12_wholes_98 (by decide) (fun c_98 => ?_) (fun c_98 => ?_)
          · refine lv_iload_n hx hb dX12_wholes_108 rfl (lv_at hl 3 rfl) ?_
            refine lv_bipush (v := iv 47) hx hb dX12_wholes_109 rfl ?_
            refine xb_icmp_ne (tgt := 121) hx hb (by unfold ir; omega) (by unfold ir; omega) dX12_wholes_111 (by decide) (fun c_111 => ?_) (fun c_111 => ?_)
            · refine lv_lload_n hx hb dX12_wholes_121 rfl (lv_at hl 4 rfl) ?_
              refine lv_lload hx hb dX12_wholes_122 (lv_at hl 5 rfl) ?_
              refine lv_lrem hx hb dX12_wholes_124 (jv_ne hx4 (hb0 (by omega))) ?_
              refine xb_topl (fun z_30 hr_z_30 he_z_30 => ?_)
              exact kont_125 z_30 ⟨hr_z_30, trivial⟩
            · refine lv_lload_n hx hb dX12_wholes_114 rfl (lv_at hl 4 rfl) ?_
              refine lv_lload hx hb dX12_wholes_115 (lv_at hl 5 rfl) ?_
              refine lv_ldiv hx hb dX12_wholes_117 (jv_ne hx4 (hb0 (by omega))) ?_
              refine xb_topl (fun z_31 hr_z_31 he_z_31 => ?_)
              refine lv_goto (tgt := 125) hx hb dX12_wholes_118 (by decide) ?_
              exact kont_125 z_31 ⟨hr_z_31, trivial⟩
          · refine lv_lload_n hx hb dX12_wholes_101 rfl (lv_at hl 4 rfl) ?_
            refine lv_lload hx hb dX12_wholes_102 (lv_at hl 5 rfl) ?_
            refine xb_lmul hx hb dX12_wholes_104 ?_
            refine xb_topl (fun z_32 hr_z_32 he_z_32 => ?_)
            refine lv_goto (tgt := 125) hx hb dX12_wholes_105 (by decide) ?_
            exact kont_125 z_32 ⟨hr_z_32, trivial⟩
        · refine lv_lload_n hx hb dX12_wholes_88 rfl (lv_at hl 4 rfl) ?_
          refine lv_lload hx hb dX12_wholes_89 (lv_at hl 5 rfl) ?_
          refine xb_lsub hx hb dX12_wholes_91 ?_
          refine xb_topl (fun z_33 hr_z_33 he_z_33 => ?_)
          refine lv_goto (tgt := 125) hx hb dX12_wholes_92 (by decide) ?_
          exact kont_125 z_33 ⟨hr_z_33, trivial⟩
      · refine lv_lload_n hx hb dX12_wholes_75 rfl (lv_at hl 4 rfl) ?_
        refine lv_lload hx hb dX12_wholes_76 (lv_at hl 5 rfl) ?_
        refine xb_ladd hx hb dX12_wholes_78 ?_
        refine xb_topl (fun z_34 hr_z_34 he_z_34 => ?_)
        refine lv_goto (tgt := 125) hx hb dX12_wholes_79 (by decide) ?_
        exact kont_125 z_34 ⟨hr_z_34, trivial⟩
  · skip
    refine lv_iload_n hx hb dX12_wholes_0 rfl (lv_at hl 1 rfl) ?_
    refine lv_iconst (v := iv 2) hx hb dX12_wholes_1 rfl ?_
    refine xb_icmp_ne (tgt := 66) hx hb (by unfold ir; omega) (by unfold ir; omega) dX12_wholes_2 (by decide) (fun c_2 => ?_) (fun c_2 => ?_)
    · refine lv_iconst (v := iv 0) hx hb dX12_wholes_66 rfl ?_
      exact kont_67 0 ⟨by omega, trivial⟩
    · refine lv_iload_n hx hb dX12_wholes_5 rfl (lv_at hl 2 rfl) ?_
      refine lv_bipush (v := iv 42) hx hb dX12_wholes_6 rfl ?_
      refine xb_icmp_ne (tgt := 66) hx hb (by unfold ir; omega) (by unfold ir; omega) dX12_wholes_8 (by decide) (fun c_8 => ?_) (fun c_8 => ?_)
      · refine lv_iconst (v := iv 0) hx hb dX12_wholes_66 rfl ?_
        exact kont_67 0 ⟨by omega, trivial⟩
      · refine lv_lload_n hx hb dX12_wholes_11 rfl (lv_at hl 3 rfl) ?_
        refine lv_lconst (v := jv 0) hx hb dX12_wholes_12 rfl ?_
        refine xb_lcmp hx hb hx3 (by unfold jr; omega) dX12_wholes_13 ?_
        have hr_35 : -2147483648 ≤ lcm x3 0 ∧ lcm x3 0 ≤ 2147483647 := lcm_ir _ _
        have hlc_36 := lcm_f x3 0
        refine xb_if_eq (tgt := 66) hx hb (by unfold ir; omega) dX12_wholes_14 (by decide) (fun c_14 => ?_) (fun c_14 => ?_)
        · refine lv_iconst (v := iv 0) hx hb dX12_wholes_66 rfl ?_
          exact kont_67 0 ⟨by omega, trivial⟩
        · refine lv_lload hx hb dX12_wholes_17 (lv_at hl 4 rfl) ?_
          refine lv_ldc2 (s := s.setDrawn d0) hx hb G.1.2.2.2.1 (dr_words G.1.2.2.2.2 d0 _ (wm 9 36 rfl rfl)) dX12_wholes_19 ?_
          refine xb_litl (x := 100000000000000000) (by decide) ?_
          have hz3_ : x3 ≠ 0 := by omega
          refine xj (pc2 := 34) (st2 := fun v_37 => [.long (jv v_37), .long (jv 100000000000000000), .long (jv x4)]) (C := fun v_37 => (jr v_37) ∧ (jv v_37 ≠ 0)) (fun v_37 hv_38 => ?_) (fun kont_34 => ?_)
          · skip
            obtain ⟨hr_v_37, hv_38⟩ := hv_38
            refine lv_ldiv hx hb dX12_wholes_34 hv_38 ?_
            refine xb_topl (fun z_39 hr_z_39 he_z_39 => ?_)
            refine xb_lcmp hx hb hx4 hr_z_39 dX12_wholes_35 ?_
            have hr_40 : -2147483648 ≤ lcm x4 z_39 ∧ lcm x4 z_39 ≤ 2147483647 := lcm_ir _ _
            have hlc_41 := lcm_f x4 z_39
            refine xb_if_gt (tgt := 62) hx hb (by unfold ir; omega) dX12_wholes_36 (by decide) (fun c_36 => ?_) (fun c_36 => ?_)
            · refine lv_iconst (v := iv 1) hx hb dX12_wholes_62 rfl ?_
              refine lv_goto (tgt := 67) hx hb dX12_wholes_63 (by decide) ?_
              exact kont_67 1 ⟨by omega, trivial⟩
            · refine lv_lload hx hb dX12_wholes_39 (lv_at hl 4 rfl) ?_
              refine lv_ldc2 (s := s.setDrawn d0) hx hb G.1.2.2.2.1 (dr_words G.1.2.2.2.2 d0 _ (wm 9 36 rfl rfl)) dX12_wholes_41 ?_
              refine xb_litl (x := 100000000000000000) (by decide) ?_
              refine xj (pc2 := 56) (st2 := fun v_42 => [.long (jv v_42), .long (jv 100000000000000000), .long (jv x4)]) (C := fun v_42 => (jr v_42) ∧ (jv v_42 ≠ 0)) (fun v_42 hv_43 => ?_) (fun kont_56 => ?_)
              · skip
                obtain ⟨hr_v_42, hv_43⟩ := hv_43
                refine lv_ldiv hx hb dX12_wholes_56 hv_43 ?_
                refine xb_topl (fun z_44 hr_z_44 he_z_44 => ?_)
                refine xb_lneg hx hb dX12_wholes_57 ?_
                refine xb_topl (fun z_45 hr_z_45 he_z_45 => ?_)
                refine xb_lcmp hx hb hx4 hr_z_45 dX12_wholes_58 ?_
                have hr_46 : -2147483648 ≤ lcm x4 z_45 ∧ lcm x4 z_45 ≤ 2147483647 := lcm_ir _ _
                have hlc_47 := lcm_f x4 z_45
                refine xb_if_ge (tgt := 66) hx hb (by unfold ir; omega) dX12_wholes_59 (by decide) (fun c_59 => ?_) (fun c_59 => ?_)
                · refine lv_iconst (v := iv 0) hx hb dX12_wholes_66 rfl ?_
                  exact kont_67 0 ⟨by omega, trivial⟩
                · refine lv_iconst (v := iv 1) hx hb dX12_wholes_62 rfl ?_
                  refine lv_goto (tgt := 67) hx hb dX12_wholes_63 (by decide) ?_
                  exact kont_67 1 ⟨by omega, trivial⟩
              · skip
                refine lv_lload_n hx hb dX12_wholes_44 rfl (lv_at hl 3 rfl) ?_
                refine lv_lconst (v := jv 0) hx hb dX12_wholes_45 rfl ?_
                refine xb_lcmp hx hb hx3 (by unfold jr; omega) dX12_wholes_46 ?_
                have hlc_48 := lcm_f x3 0
                refine xb_if_ge (tgt := 55) hx hb (by unfold ir; omega) dX12_wholes_47 (by decide) (fun c_47 => ?_) (fun c_47 => ?_)
                · refine lv_lload_n hx hb dX12_wholes_55 rfl (lv_at hl 3 rfl) ?_
                  exact kont_56 x3 ⟨hx3, (jv_ne hx3 hz3_)⟩
                · refine lv_lload_n hx hb dX12_wholes_50 rfl (lv_at hl 3 rfl) ?_
                  refine xb_lneg hx hb dX12_wholes_51 ?_
                  refine xb_topl (fun z_49 hr_z_49 he_z_49 => ?_)
                  refine lv_goto (tgt := 56) hx hb dX12_wholes_52 (by decide) ?_
                  exact kont_56 z_49 ⟨hr_z_49, (jn_ne (jv_ne hx3 hz3_) he_z_49)⟩
          · skip
            refine lv_lload_n hx hb dX12_wholes_22 rfl (lv_at hl 3 rfl) ?_
            refine lv_lconst (v := jv 0) hx hb dX12_wholes_23 rfl ?_
            refine xb_lcmp hx hb hx3 (by unfold jr; omega) dX12_wholes_24 ?_
            have hlc_50 := lcm_f x3 0
            refine xb_if_ge (tgt := 33) hx hb (by unfold ir; omega) dX12_wholes_25 (by decide) (fun c_25 => ?_) (fun c_25 => ?_)
            · refine lv_lload_n hx hb dX12_wholes_33 rfl (lv_at hl 3 rfl) ?_
              exact kont_34 x3 ⟨hx3, (jv_ne hx3 hz3_)⟩
            · refine lv_lload_n hx hb dX12_wholes_28 rfl (lv_at hl 3 rfl) ?_
              refine xb_lneg hx hb dX12_wholes_29 ?_
              refine xb_topl (fun z_51 hr_z_51 he_z_51 => ?_)
              refine lv_goto (tgt := 34) hx hb dX12_wholes_30 (by decide) ?_
              exact kont_34 z_51 ⟨hr_z_51, (jn_ne (jv_ne hx3 hz3_) he_z_51)⟩

set_option maxHeartbeats 4000000 in
set_option maxRecDepth 100000 in
theorem c_X12_signs_ (ω : Om) (l : Launch) (μ : M3) (x1 : Int) (x2 : Int) (n : Int) (hx1 : ir x1) (hx2 : ir x2) (hn : n = μ.1 111 47) (hMZ : MZ μ) (h1 : 1 ≤ n ∧ n ≤ 24) (h94 : μ.1 111 94 = 0) (ht : x1 = μ.1 127 (n - 1)) (hTQ : TQ μ (-1)) (hlo : μ.1 131 (n - 1) + 2 ≤ μ.1 111 53) (hsg0 : ∀ _ : Unit, sgn x2) : CtV ω l yX12_signs_ cX12_signs_ 11 184 5001 [.ref (oP ω 111), .int (iv x1), .int (iv x2)] μ (fun (μ' : M3) => (FrM [111, 129, 133, 134, 135, 136, 137, 138, 139, 140, 141, 142, 143, 149, 150, 151, 152, 153, 154, 155, 156, 157, 158, 159] μ μ') ∧ (∀ j, j ∉ ([47, 53, 61, 81, 82, 83, 84, 90, 91, 93, 94, 95, 96, 97, 98, 99] : List Int) → μ'.1 111 j = μ.1 111 j) ∧ (RES μ' (RX μ + 9000))) := by
  refine CtV.go (by decide) (Nat.le_of_ble_eq_true rfl) (fun ρ p e s m below meth c R ls G hR hret hlk hl => ?_)
  have hx := G.1.1
  have hb := G.1.2.1
  have hl : lv_has ls 11 [(0, .ref (oP ω 111)), (1, .int (iv x1)), (2, .int (iv x2))] := hl
  generalize s.drawn = d0 at G ⊢
  have hr_x1 : -2147483648 ≤ x1 ∧ x1 ≤ 2147483647 := hx1
  have hr_x2 : -2147483648 ≤ x2 ∧ x2 ≤ 2147483647 := hx2
  have hzn_ := hMZ.n
  rw [← hn] at hzn_
  obtain ⟨hz47, hzFB, hzFL, hz81, hz82, hz84, hz65, hz4, hz104⟩ := hzn_
  have htq_ := hTQ.n hMZ (by omega)
  rw [← hn] at htq_
  have hfr_ := (hMZ.2.2.1 (n - 1) (by omega) (by omega)).1.1
  have hzB := FB_1 (μ := μ) (n := n) (by omega)
  have hzL := FL_1 (μ := μ) (n := n) (by omega)
  refine lv_aload_n hx hb dX12_signs__0 rfl (lv_at hl 0 rfl) ?_
  refine lv_dup hx hb dX12_signs__1 rfl ?_
  refine xa_geti G fd_X12 (a := 111) (x := μ.1 111 53) 53 rfl (by decide) rfl (wm 7 202 rfl rfl) ⟨rfl, rfl, rfl⟩ dX12_signs__2 rfl rfl ?_
  have hr_1 : -2147483648 ≤ μ.1 111 53 ∧ μ.1 111 53 ≤ 2147483647 := by have h9 := G.hr (a := 111) (k := 53) rfl; exact h9
  refine lv_iconst (v := iv 2) hx hb dX12_signs__5 rfl ?_
  refine xb_isub hx hb dX12_signs__6 ?_
  refine xa_puti G fd_X12 (a := 111) (x := (μ.1 111 53) - 2) 53 (kz := 53) rfl rfl (by decide) rfl (by unfold ir; omega) (wm 7 202 rfl rfl) ⟨rfl, rfl, rfl, rfl⟩ rfl dX12_signs__7 rfl (fun H locs G => ?_)
  refine lv_aload_n hx hb dX12_signs__10 rfl (lv_at hl 0 rfl) ?_
  refine xa_getr G fd_X12 (a := 111) (x := 135) 51 rfl (by decide) rfl (wm 7 200 rfl rfl) ⟨rfl, rfl, rfl⟩ dX12_signs__11 rfl (G.sk 133 rfl) (by decide) rfl ?_
  refine lv_aload_n hx hb dX12_signs__14 rfl (lv_at hl 0 rfl) ?_
  refine xa_geti G fd_X12 (a := 111) (x := (μ.1 111 53) - 2) 53 rfl (by decide) rfl (wm 7 202 rfl rfl) ⟨rfl, rfl, rfl⟩ dX12_signs__15 rfl (sv_s _ _ _ _) ?_
  have hr_2 : -2147483648 ≤ (μ.1 111 53) - 2 ∧ (μ.1 111 53) - 2 ≤ 2147483647 := by have h9 := G.hr (a := 111) (k := 53) rfl; rw [show (sv μ 111 53 ((μ.1 111 53) - 2)).1 111 53 = (μ.1 111 53) - 2 from (sv_s _ _ _ _)] at h9; exact h9
  refine xa_bald G (a := 135) (i := (μ.1 111 53) - 2) rfl (by have h9 := G.lc (a := 135) (n := 9000) 73 rfl; omega) dX12_signs__18 rfl ?_
  refine xb_ti (y := μ.1 135 (μ.1 111 53 - 2)) (sv_n _ (fun h9 => absurd h9.1 (by decide))) ?_
  have hr_3 : -2147483648 ≤ μ.1 135 (μ.1 111 53 - 2) ∧ μ.1 135 (μ.1 111 53 - 2) ≤ 2147483647 := by have h9 := G.hr3 (a := 135) (k := (μ.1 111 53) - 2) rfl; rw [(sv_n _ (fun h9 => absurd h9.1 (by decide)))] at h9; exact h9
  refine lv_istore_n (lv' := [(3, .int (iv (μ.1 135 (μ.1 111 53 - 2)))), (0, .ref (oP ω 111)), (1, .int (iv x1)), (2, .int (iv x2))]) hx hb dX12_signs__19 rfl hl (by decide) rfl (fun ls hl => ?_)
  refine lv_aload_n hx hb dX12_signs__20 rfl (lv_at hl 1 rfl) ?_
  refine xa_getr G fd_X12 (a := 111) (x := 135) 51 rfl (by decide) rfl (wm 7 200 rfl rfl) ⟨rfl, rfl, rfl⟩ dX12_signs__21 rfl (G.sk 133 rfl) (by decide) rfl ?_
  refine lv_aload_n hx hb dX12_signs__24 rfl (lv_at hl 1 rfl) ?_
  refine xa_geti G fd_X12 (a := 111) (x := (μ.1 111 53) - 2) 53 rfl (by decide) rfl (wm 7 202 rfl rfl) ⟨rfl, rfl, rfl⟩ dX12_signs__25 rfl (sv_s _ _ _ _) ?_
  refine lv_iconst (v := iv 1) hx hb dX12_signs__28 rfl ?_
  refine xb_iadd hx hb dX12_signs__29 ?_
  refine xb_ti (y := (μ.1 111 53) - 1) (by omega) ?_
  refine xa_bald G (a := 135) (i := (μ.1 111 53) - 1) rfl (by have h9 := G.lc (a := 135) (n := 9000) 73 rfl; omega) dX12_signs__30 rfl ?_
  refine xb_ti (y := μ.1 135 (μ.1 111 53 - 1)) (sv_n _ (fun h9 => absurd h9.1 (by decide))) ?_
  have hr_4 : -2147483648 ≤ μ.1 135 (μ.1 111 53 - 1) ∧ μ.1 135 (μ.1 111 53 - 1) ≤ 2147483647 := by have h9 := G.hr3 (a := 135) (k := (μ.1 111 53) - 1) rfl; rw [(sv_n _ (fun h9 => absurd h9.1 (by decide)))] at h9; exact h9
  refine lv_istore (lv' := [(4, .int (iv (μ.1 135 (μ.1 111 53 - 1)))), (3, .int (iv (μ.1 135 (μ.1 111 53 - 2)))), (0, .ref (oP ω 111)), (1, .int (iv x1)), (2, .int (iv x2))]) hx hb dX12_signs__31 hl (by decide) rfl (fun ls hl => ?_)
  refine lv_aload_n hx hb dX12_signs__33 rfl (lv_at hl 2 rfl) ?_
  refine xa_getr G fd_X12 (a := 111) (x := 136) 52 rfl (by decide) rfl (wm 7 201 rfl rfl) ⟨rfl, rfl, rfl⟩ dX12_signs__34 rfl (G.sk 134 rfl) (by decide) rfl ?_
  refine lv_aload_n hx hb dX12_signs__37 rfl (lv_at hl 2 rfl) ?_
  refine xa_geti G fd_X12 (a := 111) (x := (μ.1 111 53) - 2) 53 rfl (by decide) rfl (wm 7 202 rfl rfl) ⟨rfl, rfl, rfl⟩ dX12_signs__38 rfl (sv_s _ _ _ _) ?_
  refine xa_lald G (a := 136) (i := (μ.1 111 53) - 2) rfl (by have h9 := G.lc (a := 136) (n := 9000) 74 rfl; omega) dX12_signs__41 rfl ?_
  refine xb_tl (y := μ.1 136 (μ.1 111 53 - 2)) (sv_n _ (fun h9 => absurd h9.1 (by decide))) ?_
  have hj_5 : jr (μ.1 136 (μ.1 111 53 - 2)) := (by have h9 := G.hj (a := 136) (k := (μ.1 111 53) - 2) rfl; rw [(sv_n _ (fun h9 => absurd h9.1 (by decide)))] at h9; exact h9)
  refine lv_lstore (lv' := [(5, .long (jv (μ.1 136 (μ.1 111 53 - 2)))), (4, .int (iv (μ.1 135 (μ.1 111 53 - 1)))), (3, .int (iv (μ.1 135 (μ.1 111 53 - 2)))), (0, .ref (oP ω 111)), (1, .int (iv x1)), (2, .int (iv x2))]) hx hb dX12_signs__42 hl (by decide) rfl (fun ls hl => ?_)
  refine lv_aload_n hx hb dX12_signs__44 rfl (lv_at hl 3 rfl) ?_
  refine xa_getr G fd_X12 (a := 111) (x := 136) 52 rfl (by decide) rfl (wm 7 201 rfl rfl) ⟨rfl, rfl, rfl⟩ dX12_signs__45 rfl (G.sk 134 rfl) (by decide) rfl ?_
  refine lv_aload_n hx hb dX12_signs__48 rfl (lv_at hl 3 rfl) ?_
  refine xa_geti G fd_X12 (a := 111) (x := (μ.1 111 53) - 2) 53 rfl (by decide) rfl (wm 7 202 rfl rfl) ⟨rfl, rfl, rfl⟩ dX12_signs__49 rfl (sv_s _ _ _ _) ?_
  refine lv_iconst (v := iv 1) hx hb dX12_signs__52 rfl ?_
  refine xb_iadd hx hb dX12_signs__53 ?_
  refine xb_ti (y := (μ.1 111 53) - 1) (by omega) ?_
  refine xa_lald G (a := 136) (i := (μ.1 111 53) - 1) rfl (by have h9 := G.lc (a := 136) (n := 9000) 74 rfl; omega) dX12_signs__54 rfl ?_
  refine xb_tl (y := μ.1 136 (μ.1 111 53 - 1)) (sv_n _ (fun h9 => absurd h9.1 (by decide))) ?_
  have hj_6 : jr (μ.1 136 (μ.1 111 53 - 1)) := (by have h9 := G.hj (a := 136) (k := (μ.1 111 53) - 1) rfl; rw [(sv_n _ (fun h9 => absurd h9.1 (by decide)))] at h9; exact h9)
  refine lv_lstore (lv' := [(7, .long (jv (μ.1 136 (μ.1 111 53 - 1)))), (5, .long (jv (μ.1 136 (μ.1 111 53 - 2)))), (4, .int (iv (μ.1 135 (μ.1 111 53 - 1)))), (3, .int (iv (μ.1 135 (μ.1 111 53 - 2)))), (0, .ref (oP ω 111)), (1, .int (iv x1)), (2, .int (iv x2))]) hx hb dX12_signs__55 hl (by decide) rfl (fun ls hl => ?_)
  refine lv_iload_n hx hb dX12_signs__57 rfl (lv_at hl 6 rfl) ?_
  refine xc_iS G (rest := []) (As := [.int (iv x2)]) (c_X12_isEquality ω l (sv μ 111 53 ((μ.1 111 53) - 2)) x2 (by unfold ir; omega)) (wm 11 32 rfl rfl) (wm 11 33 rfl rfl) (wm 1 18 rfl rfl) (wm 11 34 rfl rfl) (by decide) hR (by decide) (n := 1) rfl rfl (Nat.le_of_ble_eq_true rfl) hl.1 dX12_signs__58 (fun r_8 μ7 ρ d0 H locs hr_r_8 hp G => ?_)
  have hr_r_8 : -2147483648 ≤ r_8 ∧ r_8 ≤ 2147483647 := hr_r_8
  obtain ⟨hsm_9, hp_10, hp_11⟩ := hp
  have hsm_9 := Eq.symm hsm_9
  subst hsm_9
  replace hp_11 := fun _ : Unit => hp_11
  refine xb_if_eq (tgt := 144) hx hb (by unfold ir; omega) dX12_signs__61 (by decide) (fun c_61 => ?_) (fun c_61 => ?_)
  · refine lv_iload_n hx hb dX12_signs__144 rfl (lv_at hl 3 rfl) ?_
    refine lv_iconst (v := iv 1) hx hb dX12_signs__145 rfl ?_
    refine xb_icmp_ne (tgt := 155) hx hb (by unfold ir; omega) (by unfold ir; omega) dX12_signs__146 (by decide) (fun c_146 => ?_) (fun c_146 => ?_)
    · refine lv_aload_n hx hb dX12_signs__155 rfl (lv_at hl 4 rfl) ?_
      refine lv_iconst (v := iv 4) hx hb dX12_signs__156 rfl ?_
      have e_12 : (sv μ 111 53 ((μ.1 111 53) - 2)).1 111 4 = μ.1 111 4 := (sv_n _ (by decide))
      have e_13 : (sv μ 111 53 ((μ.1 111 53) - 2)).1 111 83 = μ.1 111 83 := (sv_n _ (by decide))
      have hrx_14 := RX.eq (μ := μ) (ν := (sv μ 111 53 ((μ.1 111 53) - 2))) (Eqa.fr (L := [111]) (FrM.put FrM.rf (by decide)) (by decide)) (Eqf.fd (L := [53]) (fun j hj => (sv_n _ (fun h9 => hj (by rw [h9.2]; decide)))) (by decide))
      have e_15 : (sv μ 111 53 ((μ.1 111 53) - 2)).1 111 94 = μ.1 111 94 := (sv_n _ (by decide))
      have e_16 : (sv μ 111 53 ((μ.1 111 53) - 2)).1 111 47 = n := ((sv_n _ (by decide)).trans hn.symm)
      have hMZ_17 : MZ (sv μ 111 53 ((μ.1 111 53) - 2)) := MZ.mn1 hMZ (n := n) (s := μ.1 131 (n - 1)) (hn.symm) (by have h9 : μ.1 131 (n - 1) = μ.1 131 (n - 1) := rfl; exact h9) (by omega) (by have h9 : μ.1 111 53 = μ.1 111 53 := rfl; omega)
      have e_18 : (sv μ 111 53 ((μ.1 111 53) - 2)).1 111 94 = μ.1 111 94 := (sv_n _ (by decide))
      have hA1_19 : A1 (sv μ 111 53 ((μ.1 111 53) - 2)) := TQ.a1 hTQ (Eqa.fr (L := [111]) (FrM.put FrM.rf (by decide)) (by decide)) (Eqf.fd (L := [53]) (fun j hj => (sv_n _ (fun h9 => hj (by rw [h9.2]; decide)))) (by decide)) (by have h9 : (sv μ 111 53 ((μ.1 111 53) - 2)).1 111 53 = (μ.1 111 53) - 2 := (sv_s _ _ _ _); omega)
      refine xc_vV G (b := 111) (rest := []) (As := [.int (iv 4)]) (c_X12_arises_a ω l (sv μ 111 53 ((μ.1 111 53) - 2)) 4 n (by unfold ir; omega) (by omega) hMZ_17 (by omega) (by omega) (fun _ => by omega) (fun _ => hA1_19)) (wm 10 199 rfl rfl) (wm 10 201 rfl rfl) (wm 0 213 rfl rfl) rfl rfl (by decide) rfl (wm 1 18 rfl rfl) (wm 10 202 rfl rfl) (by decide) hR (by decide) (n := 1) rfl rfl (Nat.le_of_ble_eq_true rfl) hl.1 dX12_signs__157 (fun μ20 ρ d0 H locs hp G => ?_)
      obtain ⟨F_21, hp_22, hp_23⟩ := hp
      refine lv_goto (tgt := 393) hx hb dX12_signs__160 (by decide) ?_
      exact xr_v G hret hlk dX12_signs__393 ⟨(FrM.tr (FrM.put FrM.rf (by decide)) F_21 (by decide)), (fun j hj => ((hp_22 j (fun h9 => hj ((by decide : ∀ x ∈ ([47, 53, 61, 81, 82, 83, 84, 90, 91, 93, 94, 95, 96, 97, 98, 99] : List Int), x ∈ ([47, 53, 61, 81, 82, 83, 84, 90, 91, 93, 94, 95, 96, 97, 98, 99] : List Int)) j h9))).trans (sv_n _ (fun h9 => hj (by rw [h9.2]; decide))))), (hp_23.le (by omega))⟩
    · refine lv_iload hx hb dX12_signs__149 (lv_at hl 2 rfl) ?_
      refine lv_iconst (v := iv 1) hx hb dX12_signs__151 rfl ?_
      refine xb_icmp_eq (tgt := 163) hx hb (by unfold ir; omega) (by unfold ir; omega) dX12_signs__152 (by decide) (fun c_152 => ?_) (fun c_152 => ?_)
      · refine lv_iload_n hx hb dX12_signs__163 rfl (lv_at hl 6 rfl) ?_
        refine xc_iS G (rest := []) (As := [.int (iv x2)]) (c_X12_isCompare ω l (sv μ 111 53 ((μ.1 111 53) - 2)) x2 (by unfold ir; omega)) (wm 9 235 rfl rfl) (wm 9 236 rfl rfl) (wm 1 18 rfl rfl) (wm 9 237 rfl rfl) (by decide) hR (by decide) (n := 1) rfl rfl (Nat.le_of_ble_eq_true rfl) hl.1 dX12_signs__164 (fun r_25 μ24 ρ d0 H locs hr_r_25 hp G => ?_)
        have hr_r_25 : -2147483648 ≤ r_25 ∧ r_25 ≤ 2147483647 := hr_r_25
        obtain ⟨hsm_26, hp_27, hp_28, hp_29⟩ := hp
        have hsm_26 := Eq.symm hsm_26
        subst hsm_26
        replace hp_28 := fun _ : Unit => hp_28
        replace hp_29 := fun _ : Unit => hp_29
        refine xb_if_eq (tgt := 330) hx hb (by unfold ir; omega) dX12_signs__167 (by decide) (fun c_167 => ?_) (fun c_167 => ?_)
        · have hc5_ : x2 = 43 ∨ x2 = 45 ∨ x2 = 42 ∨ x2 = 47 ∨ x2 = 37 := by have h9 := hp_29 () (by omega); have h8 := hsg0 (); unfold sgn at h8; omega
          replace hc5_ := fun _ : Unit => hc5_
          refine lv_iload_n hx hb dX12_signs__330 rfl (lv_at hl 6 rfl) ?_
          refine lv_bipush (v := iv 47) hx hb dX12_signs__331 rfl ?_
          refine xb_icmp_eq (tgt := 342) hx hb (by unfold ir; omega) (by unfold ir; omega) dX12_signs__333 (by decide) (fun c_333 => ?_) (fun c_333 => ?_)
          · refine lv_aload_n hx hb dX12_signs__342 rfl (lv_at hl 4 rfl) ?_
            refine lv_iload_n hx hb dX12_signs__343 rfl (lv_at hl 5 rfl) ?_
            refine lv_lload hx hb dX12_signs__344 (lv_at hl 0 rfl) ?_
            refine xc_iV G (b := 111) (rest := []) (As := [.int (iv x1), .long (jv (μ.1 136 (μ.1 111 53 - 1)))]) (c_X12_isZero_b ω l (sv μ 111 53 ((μ.1 111 53) - 2)) x1 (μ.1 136 (μ.1 111 53 - 1)) (by unfold ir; omega) hj_6) (wm 10 223 rfl rfl) (wm 10 225 rfl rfl) (wm 0 219 rfl rfl) rfl rfl (by decide) rfl (wm 1 18 rfl rfl) (wm 10 226 rfl rfl) (by decide) hR (by decide) (n := 2) rfl rfl (Nat.le_of_ble_eq_true rfl) hl.1 dX12_signs__346 (fun r_31 μ30 ρ d0 H locs hr_r_31 hp G => ?_)
            have hr_r_31 : -2147483648 ≤ r_31 ∧ r_31 ≤ 2147483647 := hr_r_31
            obtain ⟨hsm_32, hp_33⟩ := hp
            have hsm_32 := Eq.symm hsm_32
            subst hsm_32
            replace hp_33 := fun _ : Unit => hp_33
            refine xb_if_eq (tgt := 360) hx hb (by unfold ir; omega) dX12_signs__349 (by decide) (fun c_349 => ?_) (fun c_349 => ?_)
            · refine lv_iload_n hx hb dX12_signs__360 rfl (lv_at hl 5 rfl) ?_
              refine lv_iconst (v := iv 3) hx hb dX12_signs__361 rfl ?_
              refine xb_icmp_ne (tgt := 383) hx hb (by unfold ir; omega) (by unfold ir; omega) dX12_signs__362 (by decide) (fun c_362 => ?_) (fun c_362 => ?_)
              · refine lv_aload_n hx hb dX12_signs__383 rfl (lv_at hl 4 rfl) ?_
                refine lv_iload_n hx hb dX12_signs__384 rfl (lv_at hl 5 rfl) ?_
                refine lv_iload_n hx hb dX12_signs__385 rfl (lv_at hl 6 rfl) ?_
                refine lv_lload hx hb dX12_signs__386 (lv_at hl 1 rfl) ?_
                refine lv_lload hx hb dX12_signs__388 (lv_at hl 0 rfl) ?_
                have e_34 : (sv μ 111 53 ((μ.1 111 53) - 2)).1 111 83 = μ.1 111 83 := (sv_n _ (by decide))
                have hrx_35 := RX.eq (μ := μ) (ν := (sv μ 111 53 ((μ.1 111 53) - 2))) (Eqa.fr (L := [111]) (FrM.put FrM.rf (by decide)) (by decide)) (Eqf.fd (L := [53]) (fun j hj => (sv_n _ (fun h9 => hj (by rw [h9.2]; decide)))) (by decide))
                have e_36 : (sv μ 111 53 ((μ.1 111 53) - 2)).1 111 94 = μ.1 111 94 := (sv_n _ (by decide))
                have e_37 : (sv μ 111 53 ((μ.1 111 53) - 2)).1 111 47 = n := ((sv_n _ (by decide)).trans hn.symm)
                have hMZ_38 : MZ (sv μ 111 53 ((μ.1 111 53) - 2)) := MZ.mn1 hMZ (n := n) (s := μ.1 131 (n - 1)) (hn.symm) (by have h9 : μ.1 131 (n - 1) = μ.1 131 (n - 1) := rfl; exact h9) (by omega) (by have h9 : μ.1 111 53 = μ.1 111 53 := rfl; omega)
                have e_39 : (sv μ 111 53 ((μ.1 111 53) - 2)).1 111 94 = μ.1 111 94 := (sv_n _ (by decide))
                have hA1_40 : A1 (sv μ 111 53 ((μ.1 111 53) - 2)) := TQ.a1 hTQ (Eqa.fr (L := [111]) (FrM.put FrM.rf (by decide)) (by decide)) (Eqf.fd (L := [53]) (fun j hj => (sv_n _ (fun h9 => hj (by rw [h9.2]; decide)))) (by decide)) (by have h9 : (sv μ 111 53 ((μ.1 111 53) - 2)).1 111 53 = (μ.1 111 53) - 2 := (sv_s _ _ _ _); omega)
                refine xc_vV G (b := 111) (rest := []) (As := [.int (iv x1), .int (iv x2), .long (jv (μ.1 136 (μ.1 111 53 - 2))), .long (jv (μ.1 136 (μ.1 111 53 - 1)))]) (c_X12_wholes ω l (sv μ 111 53 ((μ.1 111 53) - 2)) x1 x2 (μ.1 136 (μ.1 111 53 - 2)) (μ.1 136 (μ.1 111 53 - 1)) n (by unfold ir; omega) (by unfold ir; omega) hj_5 hj_6 (by omega) hMZ_38 (by omega) (by omega) hA1_40 (hc5_ ()) (fun _ => hp_33 () (by omega) (by omega))) (wm 11 44 rfl rfl) (wm 11 46 rfl rfl) (wm 0 232 rfl rfl) rfl rfl (by decide) rfl (wm 1 18 rfl rfl) (wm 11 47 rfl rfl) (by decide) hR (by decide) (n := 4) rfl rfl (Nat.le_of_ble_eq_true rfl) hl.1 dX12_signs__390 (fun μ41 ρ d0 H locs hp G => ?_)
                obtain ⟨F_42, hp_43, hp_44⟩ := hp
                exact xr_v G hret hlk dX12_signs__393 ⟨(FrM.tr (FrM.put FrM.rf (by decide)) F_42 (by decide)), (fun j hj => ((hp_43 j (fun h9 => hj ((by decide : ∀ x ∈ ([47, 53, 61, 81, 82, 83, 84, 90, 91, 93, 94, 95, 96, 97, 98, 99] : List Int), x ∈ ([47, 53, 61, 81, 82, 83, 84, 90, 91, 93, 94, 95, 96, 97, 98, 99] : List Int)) j h9))).trans (sv_n _ (fun h9 => hj (by rw [h9.2]; decide))))), (hp_44.le (by omega))⟩
              · refine lv_aload_n hx hb dX12_signs__365 rfl (lv_at hl 4 rfl) ?_
                refine lv_iload_n hx hb dX12_signs__366 rfl (lv_at hl 6 rfl) ?_
                refine lv_lload hx hb dX12_signs__367 (lv_at hl 1 rfl) ?_
                refine xc_dS G (rest := [.int (iv x2), .ref (oP ω 111)]) (As := [.long (jv (μ.1 136 (μ.1 111 53 - 2)))]) (c_X12_real ω l (sv μ 111 53 ((μ.1 111 53) - 2)) (μ.1 136 (μ.1 111 53 - 2)) hj_5) (wm 10 91 rfl rfl) (wm 10 92 rfl rfl) (wm 1 18 rfl rfl) (wm 10 93 rfl rfl) (by decide) hR (by decide) (n := 1) rfl rfl (Nat.le_of_ble_eq_true rfl) hl.1 dX12_signs__369 (fun r_46 μ45 ρ d0 H locs hp G => ?_)
                have hsm_47 := hp
                have hsm_47 := Eq.symm hsm_47
                subst hsm_47
                refine lv_lload hx hb dX12_signs__372 (lv_at hl 0 rfl) ?_
                refine xc_dS G (rest := [.double (dv r_46), .int (iv x2), .ref (oP ω 111)]) (As := [.long (jv (μ.1 136 (μ.1 111 53 - 1)))]) (c_X12_real ω l (sv μ 111 53 ((μ.1 111 53) - 2)) (μ.1 136 (μ.1 111 53 - 1)) hj_6) (wm 10 91 rfl rfl) (wm 10 92 rfl rfl) (wm 1 18 rfl rfl) (wm 10 93 rfl rfl) (by decide) hR (by decide) (n := 1) rfl rfl (Nat.le_of_ble_eq_true rfl) hl.1 dX12_signs__374 (fun r_49 μ48 ρ d0 H locs hp G => ?_)
                have hsm_50 := hp
                have hsm_50 := Eq.symm hsm_50
                subst hsm_50
                have e_51 : (sv μ 111 53 ((μ.1 111 53) - 2)).1 111 83 = μ.1 111 83 := (sv_n _ (by decide))
                have hrx_52 := RX.eq (μ := μ) (ν := (sv μ 111 53 ((μ.1 111 53) - 2))) (Eqa.fr (L := [111]) (FrM.put FrM.rf (by decide)) (by decide)) (Eqf.fd (L := [53]) (fun j hj => (sv_n _ (fun h9 => hj (by rw [h9.2]; decide)))) (by decide))
                have e_53 : (sv μ 111 53 ((μ.1 111 53) - 2)).1 111 94 = μ.1 111 94 := (sv_n _ (by decide))
                have e_54 : (sv μ 111 53 ((μ.1 111 53) - 2)).1 111 47 = n := ((sv_n _ (by decide)).trans hn.symm)
                have hMZ_55 : MZ (sv μ 111 53 ((μ.1 111 53) - 2)) := MZ.mn1 hMZ (n := n) (s := μ.1 131 (n - 1)) (hn.symm) (by have h9 : μ.1 131 (n - 1) = μ.1 131 (n - 1) := rfl; exact h9) (by omega) (by have h9 : μ.1 111 53 = μ.1 111 53 := rfl; omega)
                have e_56 : (sv μ 111 53 ((μ.1 111 53) - 2)).1 111 94 = μ.1 111 94 := (sv_n _ (by decide))
                have hA1_57 : A1 (sv μ 111 53 ((μ.1 111 53) - 2)) := TQ.a1 hTQ (Eqa.fr (L := [111]) (FrM.put FrM.rf (by decide)) (by decide)) (Eqf.fd (L := [53]) (fun j hj => (sv_n _ (fun h9 => hj (by rw [h9.2]; decide)))) (by decide)) (by have h9 : (sv μ 111 53 ((μ.1 111 53) - 2)).1 111 53 = (μ.1 111 53) - 2 := (sv_s _ _ _ _); omega)
                refine xc_vV G (b := 111) (rest := []) (As := [.int (iv x2), .double (dv r_46), .double (dv r_49)]) (c_X12_reals ω l (sv μ 111 53 ((μ.1 111 53) - 2)) x2 r_46 r_49 n (by unfold ir; omega) (by omega) hMZ_55 (by omega) (by omega) hA1_57) (wm 11 35 rfl rfl) (wm 11 37 rfl rfl) (wm 0 231 rfl rfl) rfl rfl (by decide) rfl (wm 1 18 rfl rfl) (wm 11 38 rfl rfl) (by decide) hR (by decide) (n := 3) rfl rfl (Nat.le_of_ble_eq_true rfl) hl.1 dX12_signs__377 (fun μ58 ρ d0 H locs hp G => ?_)
                obtain ⟨F_59, hp_60, hp_61⟩ := hp
                refine lv_goto (tgt := 393) hx hb dX12_signs__380 (by decide) ?_
                exact xr_v G hret hlk dX12_signs__393 ⟨(FrM.tr (FrM.put FrM.rf (by decide)) F_59 (by decide)), (fun j hj => ((hp_60 j (fun h9 => hj ((by decide : ∀ x ∈ ([47, 53, 61, 81, 82, 83, 84, 90, 91, 93, 94, 95, 96, 97, 98, 99] : List Int), x ∈ ([47, 53, 61, 81, 82, 83, 84, 90, 91, 93, 94, 95, 96, 97, 98, 99] : List Int)) j h9))).trans (sv_n _ (fun h9 => hj (by rw [h9.2]; decide))))), (hp_61.le (by omega))⟩
            · refine lv_aload_n hx hb dX12_signs__352 rfl (lv_at hl 4 rfl) ?_
              refine lv_iconst (v := iv 1) hx hb dX12_signs__353 rfl ?_
              have e_62 : (sv μ 111 53 ((μ.1 111 53) - 2)).1 111 4 = μ.1 111 4 := (sv_n _ (by decide))
              have e_63 : (sv μ 111 53 ((μ.1 111 53) - 2)).1 111 83 = μ.1 111 83 := (sv_n _ (by decide))
              have hrx_64 := RX.eq (μ := μ) (ν := (sv μ 111 53 ((μ.1 111 53) - 2))) (Eqa.fr (L := [111]) (FrM.put FrM.rf (by decide)) (by decide)) (Eqf.fd (L := [53]) (fun j hj => (sv_n _ (fun h9 => hj (by rw [h9.2]; decide)))) (by decide))
              have e_65 : (sv μ 111 53 ((μ.1 111 53) - 2)).1 111 94 = μ.1 111 94 := (sv_n _ (by decide))
              have e_66 : (sv μ 111 53 ((μ.1 111 53) - 2)).1 111 47 = n := ((sv_n _ (by decide)).trans hn.symm)
              have hMZ_67 : MZ (sv μ 111 53 ((μ.1 111 53) - 2)) := MZ.mn1 hMZ (n := n) (s := μ.1 131 (n - 1)) (hn.symm) (by have h9 : μ.1 131 (n - 1) = μ.1 131 (n - 1) := rfl; exact h9) (by omega) (by have h9 : μ.1 111 53 = μ.1 111 53 := rfl; omega)
              have e_68 : (sv μ 111 53 ((μ.1 111 53) - 2)).1 111 94 = μ.1 111 94 := (sv_n _ (by decide))
              have hA1_69 : A1 (sv μ 111 53 ((μ.1 111 53) - 2)) := TQ.a1 hTQ (Eqa.fr (L := [111]) (FrM.put FrM.rf (by decide)) (by decide)) (Eqf.fd (L := [53]) (fun j hj => (sv_n _ (fun h9 => hj (by rw [h9.2]; decide)))) (by decide)) (by have h9 : (sv μ 111 53 ((μ.1 111 53) - 2)).1 111 53 = (μ.1 111 53) - 2 := (sv_s _ _ _ _); omega)
              refine xc_vV G (b := 111) (rest := []) (As := [.int (iv 1)]) (c_X12_arises_a ω l (sv μ 111 53 ((μ.1 111 53) - 2)) 1 n (by unfold ir; omega) (by omega) hMZ_67 (by omega) (by omega) (fun _ => by omega) (fun _ => hA1_69)) (wm 10 199 rfl rfl) (wm 10 201 rfl rfl) (wm 0 213 rfl rfl) rfl rfl (by decide) rfl (wm 1 18 rfl rfl) (wm 10 202 rfl rfl) (by decide) hR (by decide) (n := 1) rfl rfl (Nat.le_of_ble_eq_true rfl) hl.1 dX12_signs__354 (fun μ70 ρ d0 H locs hp G => ?_)
              obtain ⟨F_71, hp_72, hp_73⟩ := hp
              refine lv_goto (tgt := 393) hx hb dX12_signs__357 (by decide) ?_
              exact xr_v G hret hlk dX12_signs__393 ⟨(FrM.tr (FrM.put FrM.rf (by decide)) F_71 (by decide)), (fun j hj => ((hp_72 j (fun h9 => hj ((by decide : ∀ x ∈ ([47, 53, 61, 81, 82, 83, 84, 90, 91, 93, 94, 95, 96, 97, 98, 99] : List Int), x ∈ ([47, 53, 61, 81, 82, 83, 84, 90, 91, 93, 94, 95, 96, 97, 98, 99] : List Int)) j h9))).trans (sv_n _ (fun h9 => hj (by rw [h9.2]; decide))))), (hp_73.le (by omega))⟩
          · refine lv_iload_n hx hb dX12_signs__336 rfl (lv_at hl 6 rfl) ?_
            refine lv_bipush (v := iv 37) hx hb dX12_signs__337 rfl ?_
            refine xb_icmp_ne (tgt := 360) hx hb (by unfold ir; omega) (by unfold ir; omega) dX12_signs__339 (by decide) (fun c_339 => ?_) (fun c_339 => ?_)
            · refine lv_iload_n hx hb dX12_signs__360 rfl (lv_at hl 5 rfl) ?_
              refine lv_iconst (v := iv 3) hx hb dX12_signs__361 rfl ?_
              refine xb_icmp_ne (tgt := 383) hx hb (by unfold ir; omega) (by unfold ir; omega) dX12_signs__362 (by decide) (fun c_362 => ?_) (fun c_362 => ?_)
              · refine lv_aload_n hx hb dX12_signs__383 rfl (lv_at hl 4 rfl) ?_
                refine lv_iload_n hx hb dX12_signs__384 rfl (lv_at hl 5 rfl) ?_
                refine lv_iload_n hx hb dX12_signs__385 rfl (lv_at hl 6 rfl) ?_
                refine lv_lload hx hb dX12_signs__386 (lv_at hl 1 rfl) ?_
                refine lv_lload hx hb dX12_signs__388 (lv_at hl 0 rfl) ?_
                have e_74 : (sv μ 111 53 ((μ.1 111 53) - 2)).1 111 83 = μ.1 111 83 := (sv_n _ (by decide))
                have hrx_75 := RX.eq (μ := μ) (ν := (sv μ 111 53 ((μ.1 111 53) - 2))) (Eqa.fr (L := [111]) (FrM.put FrM.rf (by decide)) (by decide)) (Eqf.fd (L := [53]) (fun j hj => (sv_n _ (fun h9 => hj (by rw [h9.2]; decide)))) (by decide))
                have e_76 : (sv μ 111 53 ((μ.1 111 53) - 2)).1 111 94 = μ.1 111 94 := (sv_n _ (by decide))
                have e_77 : (sv μ 111 53 ((μ.1 111 53) - 2)).1 111 47 = n := ((sv_n _ (by decide)).trans hn.symm)
                have hMZ_78 : MZ (sv μ 111 53 ((μ.1 111 53) - 2)) := MZ.mn1 hMZ (n := n) (s := μ.1 131 (n - 1)) (hn.symm) (by have h9 : μ.1 131 (n - 1) = μ.1 131 (n - 1) := rfl; exact h9) (by omega) (by have h9 : μ.1 111 53 = μ.1 111 53 := rfl; omega)
                have e_79 : (sv μ 111 53 ((μ.1 111 53) - 2)).1 111 94 = μ.1 111 94 := (sv_n _ (by decide))
                have hA1_80 : A1 (sv μ 111 53 ((μ.1 111 53) - 2)) := TQ.a1 hTQ (Eqa.fr (L := [111]) (FrM.put FrM.rf (by decide)) (by decide)) (Eqf.fd (L := [53]) (fun j hj => (sv_n _ (fun h9 => hj (by rw [h9.2]; decide)))) (by decide)) (by have h9 : (sv μ 111 53 ((μ.1 111 53) - 2)).1 111 53 = (μ.1 111 53) - 2 := (sv_s _ _ _ _); omega)
                refine xc_vV G (b := 111) (rest := []) (As := [.int (iv x1), .int (iv x2), .long (jv (μ.1 136 (μ.1 111 53 - 2))), .long (jv (μ.1 136 (μ.1 111 53 - 1)))]) (c_X12_wholes ω l (sv μ 111 53 ((μ.1 111 53) - 2)) x1 x2 (μ.1 136 (μ.1 111 53 - 2)) (μ.1 136 (μ.1 111 53 - 1)) n (by unfold ir; omega) (by unfold ir; omega) hj_5 hj_6 (by omega) hMZ_78 (by omega) (by omega) hA1_80 (hc5_ ()) (fun h9 => absurd h9 (by omega))) (wm 11 44 rfl rfl) (wm 11 46 rfl rfl) (wm 0 232 rfl rfl) rfl rfl (by decide) rfl (wm 1 18 rfl rfl) (wm 11 47 rfl rfl) (by decide) hR (by decide) (n := 4) rfl rfl (Nat.le_of_ble_eq_true rfl) hl.1 dX12_signs__390 (fun μ81 ρ d0 H locs hp G => ?_)
                obtain ⟨F_82, hp_83, hp_84⟩ := hp
                exact xr_v G hret hlk dX12_signs__393 ⟨(FrM.tr (FrM.put FrM.rf (by decide)) F_82 (by decide)), (fun j hj => ((hp_83 j (fun h9 => hj ((by decide : ∀ x ∈ ([47, 53, 61, 81, 82, 83, 84, 90, 91, 93, 94, 95, 96, 97, 98, 99] : List Int), x ∈ ([47, 53, 61, 81, 82, 83, 84, 90, 91, 93, 94, 95, 96, 97, 98, 99] : List Int)) j h9))).trans (sv_n _ (fun h9 => hj (by rw [h9.2]; decide))))), (hp_84.le (by omega))⟩
              · refine lv_aload_n hx hb dX12_signs__365 rfl (lv_at hl 4 rfl) ?_
                refine lv_iload_n hx hb dX12_signs__366 rfl (lv_at hl 6 rfl) ?_
                refine lv_lload hx hb dX12_signs__367 (lv_at hl 1 rfl) ?_
                refine xc_dS G (rest := [.int (iv x2), .ref (oP ω 111)]) (As := [.long (jv (μ.1 136 (μ.1 111 53 - 2)))]) (c_X12_real ω l (sv μ 111 53 ((μ.1 111 53) - 2)) (μ.1 136 (μ.1 111 53 - 2)) hj_5) (wm 10 91 rfl rfl) (wm 10 92 rfl rfl) (wm 1 18 rfl rfl) (wm 10 93 rfl rfl) (by decide) hR (by decide) (n := 1) rfl rfl (Nat.le_of_ble_eq_true rfl) hl.1 dX12_signs__369 (fun r_86 μ85 ρ d0 H locs hp G => ?_)
                have hsm_87 := hp
                have hsm_87 := Eq.symm hsm_87
                subst hsm_87
                refine lv_lload hx hb dX12_signs__372 (lv_at hl 0 rfl) ?_
                refine xc_dS G (rest := [.double (dv r_86), .int (iv x2), .ref (oP ω 111)]) (As := [.long (jv (μ.1 136 (μ.1 111 53 - 1)))]) (c_X12_real ω l (sv μ 111 53 ((μ.1 111 53) - 2)) (μ.1 136 (μ.1 111 53 - 1)) hj_6) (wm 10 91 rfl rfl) (wm 10 92 rfl rfl) (wm 1 18 rfl rfl) (wm 10 93 rfl rfl) (by decide) hR (by decide) (n := 1) rfl rfl (Nat.le_of_ble_eq_true rfl) hl.1 dX12_signs__374 (fun r_89 μ88 ρ d0 H locs hp G => ?_)
                have hsm_90 := hp
                have hsm_90 := Eq.symm hsm_90
                subst hsm_90
                have e_91 : (sv μ 111 53 ((μ.1 111 53) - 2)).1 111 83 = μ.1 111 83 := (sv_n _ (by decide))
                have hrx_92 := RX.eq (μ := μ) (ν := (sv μ 111 53 ((μ.1 111 53) - 2))) (Eqa.fr (L := [111]) (FrM.put FrM.rf (by decide)) (by decide)) (Eqf.fd (L := [53]) (fun j hj => (sv_n _ (fun h9 => hj (by rw [h9.2]; decide)))) (by decide))
                have e_93 : (sv μ 111 53 ((μ.1 111 53) - 2)).1 111 94 = μ.1 111 94 := (sv_n _ (by decide))
                have e_94 : (sv μ 111 53 ((μ.1 111 53) - 2)).1 111 47 = n := ((sv_n _ (by decide)).trans hn.symm)
                have hMZ_95 : MZ (sv μ 111 53 ((μ.1 111 53) - 2)) := MZ.mn1 hMZ (n := n) (s := μ.1 131 (n - 1)) (hn.symm) (by have h9 : μ.1 131 (n - 1) = μ.1 131 (n - 1) := rfl; exact h9) (by omega) (by have h9 : μ.1 111 53 = μ.1 111 53 := rfl; omega)
                have e_96 : (sv μ 111 53 ((μ.1 111 53) - 2)).1 111 94 = μ.1 111 94 := (sv_n _ (by decide))
                have hA1_97 : A1 (sv μ 111 53 ((μ.1 111 53) - 2)) := TQ.a1 hTQ (Eqa.fr (L := [111]) (FrM.put FrM.rf (by decide)) (by decide)) (Eqf.fd (L := [53]) (fun j hj => (sv_n _ (fun h9 => hj (by rw [h9.2]; decide)))) (by decide)) (by have h9 : (sv μ 111 53 ((μ.1 111 53) - 2)).1 111 53 = (μ.1 111 53) - 2 := (sv_s _ _ _ _); omega)
                refine xc_vV G (b := 111) (rest := []) (As := [.int (iv x2), .double (dv r_86), .double (dv r_89)]) (c_X12_reals ω l (sv μ 111 53 ((μ.1 111 53) - 2)) x2 r_86 r_89 n (by unfold ir; omega) (by omega) hMZ_95 (by omega) (by omega) hA1_97) (wm 11 35 rfl rfl) (wm 11 37 rfl rfl) (wm 0 231 rfl rfl) rfl rfl (by decide) rfl (wm 1 18 rfl rfl) (wm 11 38 rfl rfl) (by decide) hR (by decide) (n := 3) rfl rfl (Nat.le_of_ble_eq_true rfl) hl.1 dX12_signs__377 (fun μ98 ρ d0 H locs hp G => ?_)
                obtain ⟨F_99, hp_100, hp_101⟩ := hp
                refine lv_goto (tgt := 393) hx hb dX12_signs__380 (by decide) ?_
                exact xr_v G hret hlk dX12_signs__393 ⟨(FrM.tr (FrM.put FrM.rf (by decide)) F_99 (by decide)), (fun j hj => ((hp_100 j (fun h9 => hj ((by decide : ∀ x ∈ ([47, 53, 61, 81, 82, 83, 84, 90, 91, 93, 94, 95, 96, 97, 98, 99] : List Int), x ∈ ([47, 53, 61, 81, 82, 83, 84, 90, 91, 93, 94, 95, 96, 97, 98, 99] : List Int)) j h9))).trans (sv_n _ (fun h9 => hj (by rw [h9.2]; decide))))), (hp_101.le (by omega))⟩
            · refine lv_aload_n hx hb dX12_signs__342 rfl (lv_at hl 4 rfl) ?_
              refine lv_iload_n hx hb dX12_signs__343 rfl (lv_at hl 5 rfl) ?_
              refine lv_lload hx hb dX12_signs__344 (lv_at hl 0 rfl) ?_
              refine xc_iV G (b := 111) (rest := []) (As := [.int (iv x1), .long (jv (μ.1 136 (μ.1 111 53 - 1)))]) (c_X12_isZero_b ω l (sv μ 111 53 ((μ.1 111 53) - 2)) x1 (μ.1 136 (μ.1 111 53 - 1)) (by unfold ir; omega) hj_6) (wm 10 223 rfl rfl) (wm 10 225 rfl rfl) (wm 0 219 rfl rfl) rfl rfl (by decide) rfl (wm 1 18 rfl rfl) (wm 10 226 rfl rfl) (by decide) hR (by decide) (n := 2) rfl rfl (Nat.le_of_ble_eq_true rfl) hl.1 dX12_signs__346 (fun r_103 μ102 ρ d0 H locs hr_r_103 hp G => ?_)
              have hr_r_103 : -2147483648 ≤ r_103 ∧ r_103 ≤ 2147483647 := hr_r_103
              obtain ⟨hsm_104, hp_105⟩ := hp
              have hsm_104 := Eq.symm hsm_104
              subst hsm_104
              replace hp_105 := fun _ : Unit => hp_105
              refine xb_if_eq (tgt := 360) hx hb (by unfold ir; omega) dX12_signs__349 (by decide) (fun c_349 => ?_) (fun c_349 => ?_)
              · refine lv_iload_n hx hb dX12_signs__360 rfl (lv_at hl 5 rfl) ?_
                refine lv_iconst (v := iv 3) hx hb dX12_signs__361 rfl ?_
                refine xb_icmp_ne (tgt := 383) hx hb (by unfold ir; omega) (by unfold ir; omega) dX12_signs__362 (by decide) (fun c_362 => ?_) (fun c_362 => ?_)
                · refine lv_aload_n hx hb dX12_signs__383 rfl (lv_at hl 4 rfl) ?_
                  refine lv_iload_n hx hb dX12_signs__384 rfl (lv_at hl 5 rfl) ?_
                  refine lv_iload_n hx hb dX12_signs__385 rfl (lv_at hl 6 rfl) ?_
                  refine lv_lload hx hb dX12_signs__386 (lv_at hl 1 rfl) ?_
                  refine lv_lload hx hb dX12_signs__388 (lv_at hl 0 rfl) ?_
                  have e_106 : (sv μ 111 53 ((μ.1 111 53) - 2)).1 111 83 = μ.1 111 83 := (sv_n _ (by decide))
                  have hrx_107 := RX.eq (μ := μ) (ν := (sv μ 111 53 ((μ.1 111 53) - 2))) (Eqa.fr (L := [111]) (FrM.put FrM.rf (by decide)) (by decide)) (Eqf.fd (L := [53]) (fun j hj => (sv_n _ (fun h9 => hj (by rw [h9.2]; decide)))) (by decide))
                  have e_108 : (sv μ 111 53 ((μ.1 111 53) - 2)).1 111 94 = μ.1 111 94 := (sv_n _ (by decide))
                  have e_109 : (sv μ 111 53 ((μ.1 111 53) - 2)).1 111 47 = n := ((sv_n _ (by decide)).trans hn.symm)
                  have hMZ_110 : MZ (sv μ 111 53 ((μ.1 111 53) - 2)) := MZ.mn1 hMZ (n := n) (s := μ.1 131 (n - 1)) (hn.symm) (by have h9 : μ.1 131 (n - 1) = μ.1 131 (n - 1) := rfl; exact h9) (by omega) (by have h9 : μ.1 111 53 = μ.1 111 53 := rfl; omega)
                  have e_111 : (sv μ 111 53 ((μ.1 111 53) - 2)).1 111 94 = μ.1 111 94 := (sv_n _ (by decide))
                  have hA1_112 : A1 (sv μ 111 53 ((μ.1 111 53) - 2)) := TQ.a1 hTQ (Eqa.fr (L := [111]) (FrM.put FrM.rf (by decide)) (by decide)) (Eqf.fd (L := [53]) (fun j hj => (sv_n _ (fun h9 => hj (by rw [h9.2]; decide)))) (by decide)) (by have h9 : (sv μ 111 53 ((μ.1 111 53) - 2)).1 111 53 = (μ.1 111 53) - 2 := (sv_s _ _ _ _); omega)
                  refine xc_vV G (b := 111) (rest := []) (As := [.int (iv x1), .int (iv x2), .long (jv (μ.1 136 (μ.1 111 53 - 2))), .long (jv (μ.1 136 (μ.1 111 53 - 1)))]) (c_X12_wholes ω l (sv μ 111 53 ((μ.1 111 53) - 2)) x1 x2 (μ.1 136 (μ.1 111 53 - 2)) (μ.1 136 (μ.1 111 53 - 1)) n (by unfold ir; omega) (by unfold ir; omega) hj_5 hj_6 (by omega) hMZ_110 (by omega) (by omega) hA1_112 (hc5_ ()) (fun _ => hp_105 () (by omega) (by omega))) (wm 11 44 rfl rfl) (wm 11 46 rfl rfl) (wm 0 232 rfl rfl) rfl rfl (by decide) rfl (wm 1 18 rfl rfl) (wm 11 47 rfl rfl) (by decide) hR (by decide) (n := 4) rfl rfl (Nat.le_of_ble_eq_true rfl) hl.1 dX12_signs__390 (fun μ113 ρ d0 H locs hp G => ?_)
                  obtain ⟨F_114, hp_115, hp_116⟩ := hp
                  exact xr_v G hret hlk dX12_signs__393 ⟨(FrM.tr (FrM.put FrM.rf (by decide)) F_114 (by decide)), (fun j hj => ((hp_115 j (fun h9 => hj ((by decide : ∀ x ∈ ([47, 53, 61, 81, 82, 83, 84, 90, 91, 93, 94, 95, 96, 97, 98, 99] : List Int), x ∈ ([47, 53, 61, 81, 82, 83, 84, 90, 91, 93, 94, 95, 96, 97, 98, 99] : List Int)) j h9))).trans (sv_n _ (fun h9 => hj (by rw [h9.2]; decide))))), (hp_116.le (by omega))⟩
                · refine lv_aload_n hx hb dX12_signs__365 rfl (lv_at hl 4 rfl) ?_
                  refine lv_iload_n hx hb dX12_signs__366 rfl (lv_at hl 6 rfl) ?_
                  refine lv_lload hx hb dX12_signs__367 (lv_at hl 1 rfl) ?_
                  refine xc_dS G (rest := [.int (iv x2), .ref (oP ω 111)]) (As := [.long (jv (μ.1 136 (μ.1 111 53 - 2)))]) (c_X12_real ω l (sv μ 111 53 ((μ.1 111 53) - 2)) (μ.1 136 (μ.1 111 53 - 2)) hj_5) (wm 10 91 rfl rfl) (wm 10 92 rfl rfl) (wm 1 18 rfl rfl) (wm 10 93 rfl rfl) (by decide) hR (by decide) (n := 1) rfl rfl (Nat.le_of_ble_eq_true rfl) hl.1 dX12_signs__369 (fun r_118 μ117 ρ d0 H locs hp G => ?_)
                  have hsm_119 := hp
                  have hsm_119 := Eq.symm hsm_119
                  subst hsm_119
                  refine lv_lload hx hb dX12_signs__372 (lv_at hl 0 rfl) ?_
                  refine xc_dS G (rest := [.double (dv r_118), .int (iv x2), .ref (oP ω 111)]) (As := [.long (jv (μ.1 136 (μ.1 111 53 - 1)))]) (c_X12_real ω l (sv μ 111 53 ((μ.1 111 53) - 2)) (μ.1 136 (μ.1 111 53 - 1)) hj_6) (wm 10 91 rfl rfl) (wm 10 92 rfl rfl) (wm 1 18 rfl rfl) (wm 10 93 rfl rfl) (by decide) hR (by decide) (n := 1) rfl rfl (Nat.le_of_ble_eq_true rfl) hl.1 dX12_signs__374 (fun r_121 μ120 ρ d0 H locs hp G => ?_)
                  have hsm_122 := hp
                  have hsm_122 := Eq.symm hsm_122
                  subst hsm_122
                  have e_123 : (sv μ 111 53 ((μ.1 111 53) - 2)).1 111 83 = μ.1 111 83 := (sv_n _ (by decide))
                  have hrx_124 := RX.eq (μ := μ) (ν := (sv μ 111 53 ((μ.1 111 53) - 2))) (Eqa.fr (L := [111]) (FrM.put FrM.rf (by decide)) (by decide)) (Eqf.fd (L := [53]) (fun j hj => (sv_n _ (fun h9 => hj (by rw [h9.2]; decide)))) (by decide))
                  have e_125 : (sv μ 111 53 ((μ.1 111 53) - 2)).1 111 94 = μ.1 111 94 := (sv_n _ (by decide))
                  have e_126 : (sv μ 111 53 ((μ.1 111 53) - 2)).1 111 47 = n := ((sv_n _ (by decide)).trans hn.symm)
                  have hMZ_127 : MZ (sv μ 111 53 ((μ.1 111 53) - 2)) := MZ.mn1 hMZ (n := n) (s := μ.1 131 (n - 1)) (hn.symm) (by have h9 : μ.1 131 (n - 1) = μ.1 131 (n - 1) := rfl; exact h9) (by omega) (by have h9 : μ.1 111 53 = μ.1 111 53 := rfl; omega)
                  have e_128 : (sv μ 111 53 ((μ.1 111 53) - 2)).1 111 94 = μ.1 111 94 := (sv_n _ (by decide))
                  have hA1_129 : A1 (sv μ 111 53 ((μ.1 111 53) - 2)) := TQ.a1 hTQ (Eqa.fr (L := [111]) (FrM.put FrM.rf (by decide)) (by decide)) (Eqf.fd (L := [53]) (fun j hj => (sv_n _ (fun h9 => hj (by rw [h9.2]; decide)))) (by decide)) (by have h9 : (sv μ 111 53 ((μ.1 111 53) - 2)).1 111 53 = (μ.1 111 53) - 2 := (sv_s _ _ _ _); omega)
                  refine xc_vV G (b := 111) (rest := []) (As := [.int (iv x2), .double (dv r_118), .double (dv r_121)]) (c_X12_reals ω l (sv μ 111 53 ((μ.1 111 53) - 2)) x2 r_118 r_121 n (by unfold ir; omega) (by omega) hMZ_127 (by omega) (by omega) hA1_129) (wm 11 35 rfl rfl) (wm 11 37 rfl rfl) (wm 0 231 rfl rfl) rfl rfl (by decide) rfl (wm 1 18 rfl rfl) (wm 11 38 rfl rfl) (by decide) hR (by decide) (n := 3) rfl rfl (Nat.le_of_ble_eq_true rfl) hl.1 dX12_signs__377 (fun μ130 ρ d0 H locs hp G => ?_)
                  obtain ⟨F_131, hp_132, hp_133⟩ := hp
                  refine lv_goto (tgt := 393) hx hb dX12_signs__380 (by decide) ?_
                  exact xr_v G hret hlk dX12_signs__393 ⟨(FrM.tr (FrM.put FrM.rf (by decide)) F_131 (by decide)), (fun j hj => ((hp_132 j (fun h9 => hj ((by decide : ∀ x ∈ ([47, 53, 61, 81, 82, 83, 84, 90, 91, 93, 94, 95, 96, 97, 98, 99] : List Int), x ∈ ([47, 53, 61, 81, 82, 83, 84, 90, 91, 93, 94, 95, 96, 97, 98, 99] : List Int)) j h9))).trans (sv_n _ (fun h9 => hj (by rw [h9.2]; decide))))), (hp_133.le (by omega))⟩
              · refine lv_aload_n hx hb dX12_signs__352 rfl (lv_at hl 4 rfl) ?_
                refine lv_iconst (v := iv 1) hx hb dX12_signs__353 rfl ?_
                have e_134 : (sv μ 111 53 ((μ.1 111 53) - 2)).1 111 4 = μ.1 111 4 := (sv_n _ (by decide))
                have e_135 : (sv μ 111 53 ((μ.1 111 53) - 2)).1 111 83 = μ.1 111 83 := (sv_n _ (by decide))
                have hrx_136 := RX.eq (μ := μ) (ν := (sv μ 111 53 ((μ.1 111 53) - 2))) (Eqa.fr (L := [111]) (FrM.put FrM.rf (by decide)) (by decide)) (Eqf.fd (L := [53]) (fun j hj => (sv_n _ (fun h9 => hj (by rw [h9.2]; decide)))) (by decide))
                have e_137 : (sv μ 111 53 ((μ.1 111 53) - 2)).1 111 94 = μ.1 111 94 := (sv_n _ (by decide))
                have e_138 : (sv μ 111 53 ((μ.1 111 53) - 2)).1 111 47 = n := ((sv_n _ (by decide)).trans hn.symm)
                have hMZ_139 : MZ (sv μ 111 53 ((μ.1 111 53) - 2)) := MZ.mn1 hMZ (n := n) (s := μ.1 131 (n - 1)) (hn.symm) (by have h9 : μ.1 131 (n - 1) = μ.1 131 (n - 1) := rfl; exact h9) (by omega) (by have h9 : μ.1 111 53 = μ.1 111 53 := rfl; omega)
                have e_140 : (sv μ 111 53 ((μ.1 111 53) - 2)).1 111 94 = μ.1 111 94 := (sv_n _ (by decide))
                have hA1_141 : A1 (sv μ 111 53 ((μ.1 111 53) - 2)) := TQ.a1 hTQ (Eqa.fr (L := [111]) (FrM.put FrM.rf (by decide)) (by decide)) (Eqf.fd (L := [53]) (fun j hj => (sv_n _ (fun h9 => hj (by rw [h9.2]; decide)))) (by decide)) (by have h9 : (sv μ 111 53 ((μ.1 111 53) - 2)).1 111 53 = (μ.1 111 53) - 2 := (sv_s _ _ _ _); omega)
                refine xc_vV G (b := 111) (rest := []) (As := [.int (iv 1)]) (c_X12_arises_a ω l (sv μ 111 53 ((μ.1 111 53) - 2)) 1 n (by unfold ir; omega) (by omega) hMZ_139 (by omega) (by omega) (fun _ => by omega) (fun _ => hA1_141)) (wm 10 199 rfl rfl) (wm 10 201 rfl rfl) (wm 0 213 rfl rfl) rfl rfl (by decide) rfl (wm 1 18 rfl rfl) (wm 10 202 rfl rfl) (by decide) hR (by decide) (n := 1) rfl rfl (Nat.le_of_ble_eq_true rfl) hl.1 dX12_signs__354 (fun μ142 ρ d0 H locs hp G => ?_)
                obtain ⟨F_143, hp_144, hp_145⟩ := hp
                refine lv_goto (tgt := 393) hx hb dX12_signs__357 (by decide) ?_
                exact xr_v G hret hlk dX12_signs__393 ⟨(FrM.tr (FrM.put FrM.rf (by decide)) F_143 (by decide)), (fun j hj => ((hp_144 j (fun h9 => hj ((by decide : ∀ x ∈ ([47, 53, 61, 81, 82, 83, 84, 90, 91, 93, 94, 95, 96, 97, 98, 99] : List Int), x ∈ ([47, 53, 61, 81, 82, 83, 84, 90, 91, 93, 94, 95, 96, 97, 98, 99] : List Int)) j h9))).trans (sv_n _ (fun h9 => hj (by rw [h9.2]; decide))))), (hp_145.le (by omega))⟩
        · refine xjg (ω := ω) (μ := (sv μ 111 53 ((μ.1 111 53) - 2))) (cc := cX12_signs_) (nL := 11) (own := yX12_signs_.cls) (pc2 := 240) (st2 := fun v_146 => [.int (iv v_146)]) (C := fun v_146 => (-2147483648 ≤ v_146 ∧ v_146 ≤ 2147483647) ∧ (True)) (fun v_146 ρ d0 H locs hv_147 G => ?_) (fun kont_240 => ?_)
          · skip
            obtain ⟨hr_v_146, hv_147⟩ := hv_147
            refine lv_istore (lv' := [(9, .int (iv v_146)), (7, .long (jv (μ.1 136 (μ.1 111 53 - 1)))), (5, .long (jv (μ.1 136 (μ.1 111 53 - 2)))), (4, .int (iv (μ.1 135 (μ.1 111 53 - 1)))), (3, .int (iv (μ.1 135 (μ.1 111 53 - 2)))), (0, .ref (oP ω 111)), (1, .int (iv x1)), (2, .int (iv x2))]) hx hb dX12_signs__240 hl (by decide) rfl (fun ls hl => ?_)
            refine xjg (ω := ω) (μ := (sv μ 111 53 ((μ.1 111 53) - 2))) (cc := cX12_signs_) (nL := 11) (own := yX12_signs_.cls) (pc2 := 310) (st2 := fun v_148 => [.int (iv v_148)]) (C := fun v_148 => (-2147483648 ≤ v_148 ∧ v_148 ≤ 2147483647) ∧ (True)) (fun v_148 ρ d0 H locs hv_149 G => ?_) (fun kont_310 => ?_)
            · skip
              obtain ⟨hr_v_148, hv_149⟩ := hv_149
              refine lv_istore (lv' := [(10, .int (iv v_148)), (9, .int (iv v_146)), (7, .long (jv (μ.1 136 (μ.1 111 53 - 1)))), (5, .long (jv (μ.1 136 (μ.1 111 53 - 2)))), (4, .int (iv (μ.1 135 (μ.1 111 53 - 1)))), (3, .int (iv (μ.1 135 (μ.1 111 53 - 2)))), (0, .ref (oP ω 111)), (1, .int (iv x1)), (2, .int (iv x2))]) hx hb dX12_signs__310 hl (by decide) rfl (fun ls hl => ?_)
              refine lv_aload_n hx hb dX12_signs__312 rfl (lv_at hl 6 rfl) ?_
              refine lv_iload_n hx hb dX12_signs__313 rfl (lv_at hl 7 rfl) ?_
              refine xj (pc2 := 324) (st2 := fun v_150 => [.long (jv v_150), .int (iv x1), .ref (oP ω 111)]) (C := fun v_150 => (jr v_150) ∧ (True)) (fun v_150 hv_151 => ?_) (fun kont_324 => ?_)
              · skip
                obtain ⟨hr_v_150, hv_151⟩ := hv_151
                have e_152 : (sv μ 111 53 ((μ.1 111 53) - 2)).1 111 83 = μ.1 111 83 := (sv_n _ (by decide))
                have hrx_153 := RX.eq (μ := μ) (ν := (sv μ 111 53 ((μ.1 111 53) - 2))) (Eqa.fr (L := [111]) (FrM.put FrM.rf (by decide)) (by decide)) (Eqf.fd (L := [53]) (fun j hj => (sv_n _ (fun h9 => hj (by rw [h9.2]; decide)))) (by decide))
                have e_154 : (sv μ 111 53 ((μ.1 111 53) - 2)).1 111 94 = μ.1 111 94 := (sv_n _ (by decide))
                have hA1_155 : A1 (sv μ 111 53 ((μ.1 111 53) - 2)) := TQ.a1 hTQ (Eqa.fr (L := [111]) (FrM.put FrM.rf (by decide)) (by decide)) (Eqf.fd (L := [53]) (fun j hj => (sv_n _ (fun h9 => hj (by rw [h9.2]; decide)))) (by decide)) (by have h9 : (sv μ 111 53 ((μ.1 111 53) - 2)).1 111 53 = (μ.1 111 53) - 2 := (sv_s _ _ _ _); omega)
                have e_156 : (sv μ 111 53 ((μ.1 111 53) - 2)).1 111 47 = n := ((sv_n _ (by decide)).trans hn.symm)
                have e_157 : (sv μ 111 53 ((μ.1 111 53) - 2)).1 111 53 = (μ.1 111 53) - 2 := (sv_s _ _ _ _)
                have e_158 : (sv μ 111 53 ((μ.1 111 53) - 2)).1 111 53 = (μ.1 111 53) - 2 := (sv_s _ _ _ _)
                have hMZ_159 : MZ (sv μ 111 53 ((μ.1 111 53) - 2)) := MZ.mn1 hMZ (n := n) (s := μ.1 131 (n - 1)) (hn.symm) (by have h9 : μ.1 131 (n - 1) = μ.1 131 (n - 1) := rfl; exact h9) (by omega) (by have h9 : μ.1 111 53 = μ.1 111 53 := rfl; omega)
                have e_160 : (sv μ 111 53 ((μ.1 111 53) - 2)).1 111 53 = (μ.1 111 53) - 2 := (sv_s _ _ _ _)
                have e_161 : (sv μ 111 53 ((μ.1 111 53) - 2)).1 111 53 = (μ.1 111 53) - 2 := (sv_s _ _ _ _)
                have e_162 : (sv μ 111 53 ((μ.1 111 53) - 2)).1 111 53 = (μ.1 111 53) - 2 := (sv_s _ _ _ _)
                refine xc_vV G (b := 111) (rest := []) (As := [.int (iv x1), .long (jv v_150)]) (c_X12_pushNumber ω l (sv μ 111 53 ((μ.1 111 53) - 2)) x1 v_150 ((μ.1 111 53) - 2) (by unfold ir; omega) hr_v_150 (by omega) hMZ_159 (by omega)) (wm 11 7 rfl rfl) (wm 11 9 rfl rfl) (wm 0 225 rfl rfl) rfl rfl (by decide) rfl (wm 1 18 rfl rfl) (wm 11 10 rfl rfl) (by decide) hR (by decide) (n := 2) rfl rfl (Nat.le_of_ble_eq_true rfl) hl.1 dX12_signs__324 (fun μ163 ρ d0 H locs hp G => ?_)
                obtain ⟨F_164, hp_165, hp_166, hs_167, hs_168, ha_169, ha_170⟩ := hp
                refine lv_goto (tgt := 393) hx hb dX12_signs__327 (by decide) ?_
                have e_171 : μ163.1 111 94 = μ.1 111 94 := ((hp_165 94 (by decide)).trans (sv_n _ (by decide)))
                have e_172 : μ163.1 111 53 = ((μ.1 111 53) - 2) + 1 := hs_167
                have e_173 : (sv μ 111 53 ((μ.1 111 53) - 2)).1 111 53 = (μ.1 111 53) - 2 := (sv_s _ _ _ _)
                exact xr_v G hret hlk dX12_signs__393 ⟨(FrM.tr (FrM.put FrM.rf (by decide)) F_164 (by decide)), (fun j hj => ((hp_165 j (fun h9 => hj ((by decide : ∀ x ∈ ([53] : List Int), x ∈ ([47, 53, 61, 81, 82, 83, 84, 90, 91, 93, 94, 95, 96, 97, 98, 99] : List Int)) j h9))).trans (sv_n _ (fun h9 => hj (by rw [h9.2]; decide))))), ((A1.res hA1_155 hp_166 (by have h9 : (sv μ 111 53 ((μ.1 111 53) - 2)).1 111 47 = n := ((sv_n _ (by decide)).trans hn.symm); omega) (Eqa.fr (L := [111, 135, 136]) (FrM.tr FrM.rf F_164 (by decide)) (by decide)) (Eqf.fd (L := [53]) (fun j hj => (hp_165 j (fun h9 => hj ((by decide : ∀ x ∈ ([53] : List Int), x ∈ ([53] : List Int)) j h9)))) (by decide)) (by have h9 : μ163.1 111 94 = μ.1 111 94 := ((hp_165 94 (by decide)).trans (sv_n _ (by decide))); omega) (by have h9 : μ163.1 111 83 = μ.1 111 83 := ((hp_165 83 (by decide)).trans (sv_n _ (by decide))); have h8 : (sv μ 111 53 ((μ.1 111 53) - 2)).1 111 83 = μ.1 111 83 := (sv_n _ (by decide)); omega) (by omega)).le (by omega))⟩
              · skip
                refine lv_iload hx hb dX12_signs__314 (lv_at hl 0 rfl) ?_
                refine xb_if_eq (tgt := 323) hx hb (by unfold ir; omega) dX12_signs__316 (by decide) (fun c_316 => ?_) (fun c_316 => ?_)
                · refine lv_lconst (v := jv 0) hx hb dX12_signs__323 rfl ?_
                  exact kont_324 0 ⟨(by unfold jr; omega), trivial⟩
                · refine lv_lconst (v := jv 1) hx hb dX12_signs__319 rfl ?_
                  refine lv_goto (tgt := 324) hx hb dX12_signs__320 (by decide) ?_
                  exact kont_324 1 ⟨(by unfold jr; omega), trivial⟩
            · skip
              refine lv_iload_n hx hb dX12_signs__242 rfl (lv_at hl 7 rfl) ?_
              refine lv_bipush (v := iv 60) hx hb dX12_signs__243 rfl ?_
              refine xb_icmp_ne (tgt := 261) hx hb (by unfold ir; omega) (by unfold ir; omega) dX12_signs__245 (by decide) (fun c_245 => ?_) (fun c_245 => ?_)
              · refine lv_iload_n hx hb dX12_signs__261 rfl (lv_at hl 7 rfl) ?_
                refine lv_bipush (v := iv 62) hx hb dX12_signs__262 rfl ?_
                refine xb_icmp_ne (tgt := 280) hx hb (by unfold ir; omega) (by unfold ir; omega) dX12_signs__264 (by decide) (fun c_264 => ?_) (fun c_264 => ?_)
                · refine lv_iload_n hx hb dX12_signs__280 rfl (lv_at hl 7 rfl) ?_
                  refine lv_sipush (v := iv 316) hx hb dX12_signs__281 rfl ?_
                  refine xb_icmp_ne (tgt := 300) hx hb (by unfold ir; omega) (by unfold ir; omega) dX12_signs__284 (by decide) (fun c_284 => ?_) (fun c_284 => ?_)
                  · refine lv_iload hx hb dX12_signs__300 (lv_at hl 0 rfl) ?_
                    refine xb_if_lt (tgt := 309) hx hb (by unfold ir; omega) dX12_signs__302 (by decide) (fun c_302 => ?_) (fun c_302 => ?_)
                    · refine lv_iconst (v := iv 0) hx hb dX12_signs__309 rfl ?_
                      exact kont_310 0 _ _ _ _ ⟨by omega, trivial⟩ G
                    · refine lv_iconst (v := iv 1) hx hb dX12_signs__305 rfl ?_
                      refine lv_goto (tgt := 310) hx hb dX12_signs__306 (by decide) ?_
                      exact kont_310 1 _ _ _ _ ⟨by omega, trivial⟩ G
                  · refine lv_iload hx hb dX12_signs__287 (lv_at hl 0 rfl) ?_
                    refine xb_if_gt (tgt := 296) hx hb (by unfold ir; omega) dX12_signs__289 (by decide) (fun c_289 => ?_) (fun c_289 => ?_)
                    · refine lv_iconst (v := iv 0) hx hb dX12_signs__296 rfl ?_
                      refine lv_goto (tgt := 310) hx hb dX12_signs__297 (by decide) ?_
                      exact kont_310 0 _ _ _ _ ⟨by omega, trivial⟩ G
                    · refine lv_iconst (v := iv 1) hx hb dX12_signs__292 rfl ?_
                      refine lv_goto (tgt := 310) hx hb dX12_signs__293 (by decide) ?_
                      exact kont_310 1 _ _ _ _ ⟨by omega, trivial⟩ G
                · refine lv_iload hx hb dX12_signs__267 (lv_at hl 0 rfl) ?_
                  refine xb_if_le (tgt := 276) hx hb (by unfold ir; omega) dX12_signs__269 (by decide) (fun c_269 => ?_) (fun c_269 => ?_)
                  · refine lv_iconst (v := iv 0) hx hb dX12_signs__276 rfl ?_
                    refine lv_goto (tgt := 310) hx hb dX12_signs__277 (by decide) ?_
                    exact kont_310 0 _ _ _ _ ⟨by omega, trivial⟩ G
                  · refine lv_iconst (v := iv 1) hx hb dX12_signs__272 rfl ?_
                    refine lv_goto (tgt := 310) hx hb dX12_signs__273 (by decide) ?_
                    exact kont_310 1 _ _ _ _ ⟨by omega, trivial⟩ G
              · refine lv_iload hx hb dX12_signs__248 (lv_at hl 0 rfl) ?_
                refine xb_if_ge (tgt := 257) hx hb (by unfold ir; omega) dX12_signs__250 (by decide) (fun c_250 => ?_) (fun c_250 => ?_)
                · refine lv_iconst (v := iv 0) hx hb dX12_signs__257 rfl ?_
                  refine lv_goto (tgt := 310) hx hb dX12_signs__258 (by decide) ?_
                  exact kont_310 0 _ _ _ _ ⟨by omega, trivial⟩ G
                · refine lv_iconst (v := iv 1) hx hb dX12_signs__253 rfl ?_
                  refine lv_goto (tgt := 310) hx hb dX12_signs__254 (by decide) ?_
                  exact kont_310 1 _ _ _ _ ⟨by omega, trivial⟩ G
          · skip
            refine lv_iload_n hx hb dX12_signs__170 rfl (lv_at hl 5 rfl) ?_
            refine lv_iconst (v := iv 3) hx hb dX12_signs__171 rfl ?_
            refine xb_icmp_ne (tgt := 215) hx hb (by unfold ir; omega) (by unfold ir; omega) dX12_signs__172 (by decide) (fun c_172 => ?_) (fun c_172 => ?_)
            · refine lv_lload hx hb dX12_signs__215 (lv_at hl 1 rfl) ?_
              refine lv_lload hx hb dX12_signs__217 (lv_at hl 0 rfl) ?_
              refine xb_lcmp hx hb hj_5 hj_6 dX12_signs__219 ?_
              have hr_174 : -2147483648 ≤ lcm (μ.1 136 (μ.1 111 53 - 2)) (μ.1 136 (μ.1 111 53 - 1)) ∧ lcm (μ.1 136 (μ.1 111 53 - 2)) (μ.1 136 (μ.1 111 53 - 1)) ≤ 2147483647 := lcm_ir _ _
              have hlc_175 := lcm_f (μ.1 136 (μ.1 111 53 - 2)) (μ.1 136 (μ.1 111 53 - 1))
              refine xb_if_ge (tgt := 227) hx hb (by unfold ir; omega) dX12_signs__220 (by decide) (fun c_220 => ?_) (fun c_220 => ?_)
              · refine lv_lload hx hb dX12_signs__227 (lv_at hl 1 rfl) ?_
                refine lv_lload hx hb dX12_signs__229 (lv_at hl 0 rfl) ?_
                refine xb_lcmp hx hb hj_5 hj_6 dX12_signs__231 ?_
                have hlc_176 := lcm_f (μ.1 136 (μ.1 111 53 - 2)) (μ.1 136 (μ.1 111 53 - 1))
                refine xb_if_le (tgt := 239) hx hb (by unfold ir; omega) dX12_signs__232 (by decide) (fun c_232 => ?_) (fun c_232 => ?_)
                · refine lv_iconst (v := iv 0) hx hb dX12_signs__239 rfl ?_
                  exact kont_240 0 _ _ _ _ ⟨by omega, trivial⟩ G
                · refine lv_iconst (v := iv 1) hx hb dX12_signs__235 rfl ?_
                  refine lv_goto (tgt := 240) hx hb dX12_signs__236 (by decide) ?_
                  exact kont_240 1 _ _ _ _ ⟨by omega, trivial⟩ G
              · refine lv_iconst (v := iv (-1)) hx hb dX12_signs__223 rfl ?_
                refine lv_goto (tgt := 240) hx hb dX12_signs__224 (by decide) ?_
                exact kont_240 (-1) _ _ _ _ ⟨by omega, trivial⟩ G
            · refine lv_lload hx hb dX12_signs__175 (lv_at hl 1 rfl) ?_
              refine xc_dS G (rest := []) (As := [.long (jv (μ.1 136 (μ.1 111 53 - 2)))]) (c_X12_real ω l (sv μ 111 53 ((μ.1 111 53) - 2)) (μ.1 136 (μ.1 111 53 - 2)) hj_5) (wm 10 91 rfl rfl) (wm 10 92 rfl rfl) (wm 1 18 rfl rfl) (wm 10 93 rfl rfl) (by decide) hR (by decide) (n := 1) rfl rfl (Nat.le_of_ble_eq_true rfl) hl.1 dX12_signs__177 (fun r_178 μ177 ρ d0 H locs hp G => ?_)
              have hsm_179 := hp
              have hsm_179 := Eq.symm hsm_179
              subst hsm_179
              refine lv_lload hx hb dX12_signs__180 (lv_at hl 0 rfl) ?_
              refine xc_dS G (rest := [.double (dv r_178)]) (As := [.long (jv (μ.1 136 (μ.1 111 53 - 1)))]) (c_X12_real ω l (sv μ 111 53 ((μ.1 111 53) - 2)) (μ.1 136 (μ.1 111 53 - 1)) hj_6) (wm 10 91 rfl rfl) (wm 10 92 rfl rfl) (wm 1 18 rfl rfl) (wm 10 93 rfl rfl) (by decide) hR (by decide) (n := 1) rfl rfl (Nat.le_of_ble_eq_true rfl) hl.1 dX12_signs__182 (fun r_181 μ180 ρ d0 H locs hp G => ?_)
              have hsm_182 := hp
              have hsm_182 := Eq.symm hsm_182
              subst hsm_182
              refine lv_dcmp hx hb dX12_signs__185 ?_
              refine xb_topi (fun y_183 hr_y_183 he_y_183 => ?_)
              have hr_y_183 : -2147483648 ≤ y_183 ∧ y_183 ≤ 2147483647 := hr_y_183
              refine xb_if_ge (tgt := 193) hx hb (by unfold ir; omega) dX12_signs__186 (by decide) (fun c_186 => ?_) (fun c_186 => ?_)
              · refine lv_lload hx hb dX12_signs__193 (lv_at hl 1 rfl) ?_
                refine xc_dS G (rest := []) (As := [.long (jv (μ.1 136 (μ.1 111 53 - 2)))]) (c_X12_real ω l (sv μ 111 53 ((μ.1 111 53) - 2)) (μ.1 136 (μ.1 111 53 - 2)) hj_5) (wm 10 91 rfl rfl) (wm 10 92 rfl rfl) (wm 1 18 rfl rfl) (wm 10 93 rfl rfl) (by decide) hR (by decide) (n := 1) rfl rfl (Nat.le_of_ble_eq_true rfl) hl.1 dX12_signs__195 (fun r_185 μ184 ρ d0 H locs hp G => ?_)
                have hsm_186 := hp
                have hsm_186 := Eq.symm hsm_186
                subst hsm_186
                refine lv_lload hx hb dX12_signs__198 (lv_at hl 0 rfl) ?_
                refine xc_dS G (rest := [.double (dv r_185)]) (As := [.long (jv (μ.1 136 (μ.1 111 53 - 1)))]) (c_X12_real ω l (sv μ 111 53 ((μ.1 111 53) - 2)) (μ.1 136 (μ.1 111 53 - 1)) hj_6) (wm 10 91 rfl rfl) (wm 10 92 rfl rfl) (wm 1 18 rfl rfl) (wm 10 93 rfl rfl) (by decide) hR (by decide) (n := 1) rfl rfl (Nat.le_of_ble_eq_true rfl) hl.1 dX12_signs__200 (fun r_188 μ187 ρ d0 H locs hp G => ?_)
                have hsm_189 := hp
                have hsm_189 := Eq.symm hsm_189
                subst hsm_189
                refine lv_dcmp hx hb dX12_signs__203 ?_
                refine xb_topi (fun y_190 hr_y_190 he_y_190 => ?_)
                have hr_y_190 : -2147483648 ≤ y_190 ∧ y_190 ≤ 2147483647 := hr_y_190
                refine xb_if_le (tgt := 211) hx hb (by unfold ir; omega) dX12_signs__204 (by decide) (fun c_204 => ?_) (fun c_204 => ?_)
                · refine lv_iconst (v := iv 0) hx hb dX12_signs__211 rfl ?_
                  refine lv_goto (tgt := 240) hx hb dX12_signs__212 (by decide) ?_
                  exact kont_240 0 _ _ _ _ ⟨by omega, trivial⟩ G
                · refine lv_iconst (v := iv 1) hx hb dX12_signs__207 rfl ?_
                  refine lv_goto (tgt := 240) hx hb dX12_signs__208 (by decide) ?_
                  exact kont_240 1 _ _ _ _ ⟨by omega, trivial⟩ G
              · refine lv_iconst (v := iv (-1)) hx hb dX12_signs__189 rfl ?_
                refine lv_goto (tgt := 240) hx hb dX12_signs__190 (by decide) ?_
                exact kont_240 (-1) _ _ _ _ ⟨by omega, trivial⟩ G
      · refine lv_aload_n hx hb dX12_signs__155 rfl (lv_at hl 4 rfl) ?_
        refine lv_iconst (v := iv 4) hx hb dX12_signs__156 rfl ?_
        have e_191 : (sv μ 111 53 ((μ.1 111 53) - 2)).1 111 4 = μ.1 111 4 := (sv_n _ (by decide))
        have e_192 : (sv μ 111 53 ((μ.1 111 53) - 2)).1 111 83 = μ.1 111 83 := (sv_n _ (by decide))
        have hrx_193 := RX.eq (μ := μ) (ν := (sv μ 111 53 ((μ.1 111 53) - 2))) (Eqa.fr (L := [111]) (FrM.put FrM.rf (by decide)) (by decide)) (Eqf.fd (L := [53]) (fun j hj => (sv_n _ (fun h9 => hj (by rw [h9.2]; decide)))) (by decide))
        have e_194 : (sv μ 111 53 ((μ.1 111 53) - 2)).1 111 94 = μ.1 111 94 := (sv_n _ (by decide))
        have e_195 : (sv μ 111 53 ((μ.1 111 53) - 2)).1 111 47 = n := ((sv_n _ (by decide)).trans hn.symm)
        have hMZ_196 : MZ (sv μ 111 53 ((μ.1 111 53) - 2)) := MZ.mn1 hMZ (n := n) (s := μ.1 131 (n - 1)) (hn.symm) (by have h9 : μ.1 131 (n - 1) = μ.1 131 (n - 1) := rfl; exact h9) (by omega) (by have h9 : μ.1 111 53 = μ.1 111 53 := rfl; omega)
        have e_197 : (sv μ 111 53 ((μ.1 111 53) - 2)).1 111 94 = μ.1 111 94 := (sv_n _ (by decide))
        have hA1_198 : A1 (sv μ 111 53 ((μ.1 111 53) - 2)) := TQ.a1 hTQ (Eqa.fr (L := [111]) (FrM.put FrM.rf (by decide)) (by decide)) (Eqf.fd (L := [53]) (fun j hj => (sv_n _ (fun h9 => hj (by rw [h9.2]; decide)))) (by decide)) (by have h9 : (sv μ 111 53 ((μ.1 111 53) - 2)).1 111 53 = (μ.1 111 53) - 2 := (sv_s _ _ _ _); omega)
        refine xc_vV G (b := 111) (rest := []) (As := [.int (iv 4)]) (c_X12_arises_a ω l (sv μ 111 53 ((μ.1 111 53) - 2)) 4 n (by unfold ir; omega) (by omega) hMZ_196 (by omega) (by omega) (fun _ => by omega) (fun _ => hA1_198)) (wm 10 199 rfl rfl) (wm 10 201 rfl rfl) (wm 0 213 rfl rfl) rfl rfl (by decide) rfl (wm 1 18 rfl rfl) (wm 10 202 rfl rfl) (by decide) hR (by decide) (n := 1) rfl rfl (Nat.le_of_ble_eq_true rfl) hl.1 dX12_signs__157 (fun μ199 ρ d0 H locs hp G => ?_)
        obtain ⟨F_200, hp_201, hp_202⟩ := hp
        refine lv_goto (tgt := 393) hx hb dX12_signs__160 (by decide) ?_
        exact xr_v G hret hlk dX12_signs__393 ⟨(FrM.tr (FrM.put FrM.rf (by decide)) F_200 (by decide)), (fun j hj => ((hp_201 j (fun h9 => hj ((by decide : ∀ x ∈ ([47, 53, 61, 81, 82, 83, 84, 90, 91, 93, 94, 95, 96, 97, 98, 99] : List Int), x ∈ ([47, 53, 61, 81, 82, 83, 84, 90, 91, 93, 94, 95, 96, 97, 98, 99] : List Int)) j h9))).trans (sv_n _ (fun h9 => hj (by rw [h9.2]; decide))))), (hp_202.le (by omega))⟩
  · refine xjg (ω := ω) (μ := (sv μ 111 53 ((μ.1 111 53) - 2))) (cc := cX12_signs_) (nL := 11) (own := yX12_signs_.cls) (pc2 := 114) (st2 := fun v_203 => [.int (iv v_203)]) (C := fun v_203 => (-2147483648 ≤ v_203 ∧ v_203 ≤ 2147483647) ∧ (True)) (fun v_203 ρ d0 H locs hv_204 G => ?_) (fun kont_114 => ?_)
    · skip
      obtain ⟨hr_v_203, hv_204⟩ := hv_204
      refine lv_istore (lv' := [(9, .int (iv v_203)), (7, .long (jv (μ.1 136 (μ.1 111 53 - 1)))), (5, .long (jv (μ.1 136 (μ.1 111 53 - 2)))), (4, .int (iv (μ.1 135 (μ.1 111 53 - 1)))), (3, .int (iv (μ.1 135 (μ.1 111 53 - 2)))), (0, .ref (oP ω 111)), (1, .int (iv x1)), (2, .int (iv x2))]) hx hb dX12_signs__114 hl (by decide) rfl (fun ls hl => ?_)
      refine lv_aload_n hx hb dX12_signs__116 rfl (lv_at hl 5 rfl) ?_
      refine lv_iload_n hx hb dX12_signs__117 rfl (lv_at hl 6 rfl) ?_
      refine lv_iload hx hb dX12_signs__118 (lv_at hl 0 rfl) ?_
      refine xj (pc2 := 132) (st2 := fun v_205 => [.int (iv v_205), .int (iv v_203), .int (iv x1), .ref (oP ω 111)]) (C := fun v_205 => (-2147483648 ≤ v_205 ∧ v_205 ≤ 2147483647) ∧ (True)) (fun v_205 hv_206 => ?_) (fun kont_132 => ?_)
      · skip
        obtain ⟨hr_v_205, hv_206⟩ := hv_206
        refine xb_icmp_ne (tgt := 139) hx hb (by unfold ir; omega) (by unfold ir; omega) dX12_signs__132 (by decide) (fun c_132 => ?_) (fun c_132 => ?_)
        · refine lv_lconst (v := jv 0) hx hb dX12_signs__139 rfl ?_
          have e_207 : (sv μ 111 53 ((μ.1 111 53) - 2)).1 111 83 = μ.1 111 83 := (sv_n _ (by decide))
          have hrx_208 := RX.eq (μ := μ) (ν := (sv μ 111 53 ((μ.1 111 53) - 2))) (Eqa.fr (L := [111]) (FrM.put FrM.rf (by decide)) (by decide)) (Eqf.fd (L := [53]) (fun j hj => (sv_n _ (fun h9 => hj (by rw [h9.2]; decide)))) (by decide))
          have e_209 : (sv μ 111 53 ((μ.1 111 53) - 2)).1 111 94 = μ.1 111 94 := (sv_n _ (by decide))
          have hA1_210 : A1 (sv μ 111 53 ((μ.1 111 53) - 2)) := TQ.a1 hTQ (Eqa.fr (L := [111]) (FrM.put FrM.rf (by decide)) (by decide)) (Eqf.fd (L := [53]) (fun j hj => (sv_n _ (fun h9 => hj (by rw [h9.2]; decide)))) (by decide)) (by have h9 : (sv μ 111 53 ((μ.1 111 53) - 2)).1 111 53 = (μ.1 111 53) - 2 := (sv_s _ _ _ _); omega)
          have e_211 : (sv μ 111 53 ((μ.1 111 53) - 2)).1 111 47 = n := ((sv_n _ (by decide)).trans hn.symm)
          have e_212 : (sv μ 111 53 ((μ.1 111 53) - 2)).1 111 53 = (μ.1 111 53) - 2 := (sv_s _ _ _ _)
          have e_213 : (sv μ 111 53 ((μ.1 111 53) - 2)).1 111 53 = (μ.1 111 53) - 2 := (sv_s _ _ _ _)
          have hMZ_214 : MZ (sv μ 111 53 ((μ.1 111 53) - 2)) := MZ.mn1 hMZ (n := n) (s := μ.1 131 (n - 1)) (hn.symm) (by have h9 : μ.1 131 (n - 1) = μ.1 131 (n - 1) := rfl; exact h9) (by omega) (by have h9 : μ.1 111 53 = μ.1 111 53 := rfl; omega)
          have e_215 : (sv μ 111 53 ((μ.1 111 53) - 2)).1 111 53 = (μ.1 111 53) - 2 := (sv_s _ _ _ _)
          have e_216 : (sv μ 111 53 ((μ.1 111 53) - 2)).1 111 53 = (μ.1 111 53) - 2 := (sv_s _ _ _ _)
          have e_217 : (sv μ 111 53 ((μ.1 111 53) - 2)).1 111 53 = (μ.1 111 53) - 2 := (sv_s _ _ _ _)
          refine xc_vV G (b := 111) (rest := []) (As := [.int (iv x1), .long (jv 0)]) (c_X12_pushNumber ω l (sv μ 111 53 ((μ.1 111 53) - 2)) x1 0 ((μ.1 111 53) - 2) (by unfold ir; omega) (by unfold jr; omega) (by omega) hMZ_214 (by omega)) (wm 11 7 rfl rfl) (wm 11 9 rfl rfl) (wm 0 225 rfl rfl) rfl rfl (by decide) rfl (wm 1 18 rfl rfl) (wm 11 10 rfl rfl) (by decide) hR (by decide) (n := 2) rfl rfl (Nat.le_of_ble_eq_true rfl) hl.1 dX12_signs__140 (fun μ218 ρ d0 H locs hp G => ?_)
          obtain ⟨F_219, hp_220, hp_221, hs_222, hs_223, ha_224, ha_225⟩ := hp
          have e_226 : μ218.1 111 94 = μ.1 111 94 := ((hp_220 94 (by decide)).trans (sv_n _ (by decide)))
          have e_227 : μ218.1 111 53 = ((μ.1 111 53) - 2) + 1 := hs_222
          have e_228 : (sv μ 111 53 ((μ.1 111 53) - 2)).1 111 53 = (μ.1 111 53) - 2 := (sv_s _ _ _ _)
          exact xr_v G hret hlk dX12_signs__143 ⟨(FrM.tr (FrM.put FrM.rf (by decide)) F_219 (by decide)), (fun j hj => ((hp_220 j (fun h9 => hj ((by decide : ∀ x ∈ ([53] : List Int), x ∈ ([47, 53, 61, 81, 82, 83, 84, 90, 91, 93, 94, 95, 96, 97, 98, 99] : List Int)) j h9))).trans (sv_n _ (fun h9 => hj (by rw [h9.2]; decide))))), ((A1.res hA1_210 hp_221 (by have h9 : (sv μ 111 53 ((μ.1 111 53) - 2)).1 111 47 = n := ((sv_n _ (by decide)).trans hn.symm); omega) (Eqa.fr (L := [111, 135, 136]) (FrM.tr FrM.rf F_219 (by decide)) (by decide)) (Eqf.fd (L := [53]) (fun j hj => (hp_220 j (fun h9 => hj ((by decide : ∀ x ∈ ([53] : List Int), x ∈ ([53] : List Int)) j h9)))) (by decide)) (by have h9 : μ218.1 111 94 = μ.1 111 94 := ((hp_220 94 (by decide)).trans (sv_n _ (by decide))); omega) (by have h9 : μ218.1 111 83 = μ.1 111 83 := ((hp_220 83 (by decide)).trans (sv_n _ (by decide))); have h8 : (sv μ 111 53 ((μ.1 111 53) - 2)).1 111 83 = μ.1 111 83 := (sv_n _ (by decide)); omega) (by omega)).le (by omega))⟩
        · refine lv_lconst (v := jv 1) hx hb dX12_signs__135 rfl ?_
          refine lv_goto (tgt := 140) hx hb dX12_signs__136 (by decide) ?_
          have e_229 : (sv μ 111 53 ((μ.1 111 53) - 2)).1 111 83 = μ.1 111 83 := (sv_n _ (by decide))
          have hrx_230 := RX.eq (μ := μ) (ν := (sv μ 111 53 ((μ.1 111 53) - 2))) (Eqa.fr (L := [111]) (FrM.put FrM.rf (by decide)) (by decide)) (Eqf.fd (L := [53]) (fun j hj => (sv_n _ (fun h9 => hj (by rw [h9.2]; decide)))) (by decide))
          have e_231 : (sv μ 111 53 ((μ.1 111 53) - 2)).1 111 94 = μ.1 111 94 := (sv_n _ (by decide))
          have hA1_232 : A1 (sv μ 111 53 ((μ.1 111 53) - 2)) := TQ.a1 hTQ (Eqa.fr (L := [111]) (FrM.put FrM.rf (by decide)) (by decide)) (Eqf.fd (L := [53]) (fun j hj => (sv_n _ (fun h9 => hj (by rw [h9.2]; decide)))) (by decide)) (by have h9 : (sv μ 111 53 ((μ.1 111 53) - 2)).1 111 53 = (μ.1 111 53) - 2 := (sv_s _ _ _ _); omega)
          have e_233 : (sv μ 111 53 ((μ.1 111 53) - 2)).1 111 47 = n := ((sv_n _ (by decide)).trans hn.symm)
          have e_234 : (sv μ 111 53 ((μ.1 111 53) - 2)).1 111 53 = (μ.1 111 53) - 2 := (sv_s _ _ _ _)
          have e_235 : (sv μ 111 53 ((μ.1 111 53) - 2)).1 111 53 = (μ.1 111 53) - 2 := (sv_s _ _ _ _)
          have hMZ_236 : MZ (sv μ 111 53 ((μ.1 111 53) - 2)) := MZ.mn1 hMZ (n := n) (s := μ.1 131 (n - 1)) (hn.symm) (by have h9 : μ.1 131 (n - 1) = μ.1 131 (n - 1) := rfl; exact h9) (by omega) (by have h9 : μ.1 111 53 = μ.1 111 53 := rfl; omega)
          have e_237 : (sv μ 111 53 ((μ.1 111 53) - 2)).1 111 53 = (μ.1 111 53) - 2 := (sv_s _ _ _ _)
          have e_238 : (sv μ 111 53 ((μ.1 111 53) - 2)).1 111 53 = (μ.1 111 53) - 2 := (sv_s _ _ _ _)
          have e_239 : (sv μ 111 53 ((μ.1 111 53) - 2)).1 111 53 = (μ.1 111 53) - 2 := (sv_s _ _ _ _)
          refine xc_vV G (b := 111) (rest := []) (As := [.int (iv x1), .long (jv 1)]) (c_X12_pushNumber ω l (sv μ 111 53 ((μ.1 111 53) - 2)) x1 1 ((μ.1 111 53) - 2) (by unfold ir; omega) (by unfold jr; omega) (by omega) hMZ_236 (by omega)) (wm 11 7 rfl rfl) (wm 11 9 rfl rfl) (wm 0 225 rfl rfl) rfl rfl (by decide) rfl (wm 1 18 rfl rfl) (wm 11 10 rfl rfl) (by decide) hR (by decide) (n := 2) rfl rfl (Nat.le_of_ble_eq_true rfl) hl.1 dX12_signs__140 (fun μ240 ρ d0 H locs hp G => ?_)
          obtain ⟨F_241, hp_242, hp_243, hs_244, hs_245, ha_246, ha_247⟩ := hp
          have e_248 : μ240.1 111 94 = μ.1 111 94 := ((hp_242 94 (by decide)).trans (sv_n _ (by decide)))
          have e_249 : μ240.1 111 53 = ((μ.1 111 53) - 2) + 1 := hs_244
          have e_250 : (sv μ 111 53 ((μ.1 111 53) - 2)).1 111 53 = (μ.1 111 53) - 2 := (sv_s _ _ _ _)
          exact xr_v G hret hlk dX12_signs__143 ⟨(FrM.tr (FrM.put FrM.rf (by decide)) F_241 (by decide)), (fun j hj => ((hp_242 j (fun h9 => hj ((by decide : ∀ x ∈ ([53] : List Int), x ∈ ([47, 53, 61, 81, 82, 83, 84, 90, 91, 93, 94, 95, 96, 97, 98, 99] : List Int)) j h9))).trans (sv_n _ (fun h9 => hj (by rw [h9.2]; decide))))), ((A1.res hA1_232 hp_243 (by have h9 : (sv μ 111 53 ((μ.1 111 53) - 2)).1 111 47 = n := ((sv_n _ (by decide)).trans hn.symm); omega) (Eqa.fr (L := [111, 135, 136]) (FrM.tr FrM.rf F_241 (by decide)) (by decide)) (Eqf.fd (L := [53]) (fun j hj => (hp_242 j (fun h9 => hj ((by decide : ∀ x ∈ ([53] : List Int), x ∈ ([53] : List Int)) j h9)))) (by decide)) (by have h9 : μ240.1 111 94 = μ.1 111 94 := ((hp_242 94 (by decide)).trans (sv_n _ (by decide))); omega) (by have h9 : μ240.1 111 83 = μ.1 111 83 := ((hp_242 83 (by decide)).trans (sv_n _ (by decide))); have h8 : (sv μ 111 53 ((μ.1 111 53) - 2)).1 111 83 = μ.1 111 83 := (sv_n _ (by decide)); omega) (by omega)).le (by omega))⟩
      · skip
        refine lv_iload_n hx hb dX12_signs__120 rfl (lv_at hl 7 rfl) ?_
        refine lv_sipush (v := iv 317) hx hb dX12_signs__121 rfl ?_
        refine xb_icmp_ne (tgt := 131) hx hb (by unfold ir; omega) (by unfold ir; omega) dX12_signs__124 (by decide) (fun c_124 => ?_) (fun c_124 => ?_)
        · refine lv_iconst (v := iv 0) hx hb dX12_signs__131 rfl ?_
          exact kont_132 0 ⟨by omega, trivial⟩
        · refine lv_iconst (v := iv 1) hx hb dX12_signs__127 rfl ?_
          refine lv_goto (tgt := 132) hx hb dX12_signs__128 (by decide) ?_
          exact kont_132 1 ⟨by omega, trivial⟩
    · skip
      refine lv_iload_n hx hb dX12_signs__64 rfl (lv_at hl 3 rfl) ?_
      refine lv_iload hx hb dX12_signs__65 (lv_at hl 2 rfl) ?_
      refine xb_icmp_ne (tgt := 113) hx hb (by unfold ir; omega) (by unfold ir; omega) dX12_signs__67 (by decide) (fun c_67 => ?_) (fun c_67 => ?_)
      · refine lv_iconst (v := iv 0) hx hb dX12_signs__113 rfl ?_
        exact kont_114 0 _ _ _ _ ⟨by omega, trivial⟩ G
      · refine lv_iload_n hx hb dX12_signs__70 rfl (lv_at hl 3 rfl) ?_
        refine xb_if_eq (tgt := 109) hx hb (by unfold ir; omega) dX12_signs__71 (by decide) (fun c_71 => ?_) (fun c_71 => ?_)
        · refine lv_iconst (v := iv 1) hx hb dX12_signs__109 rfl ?_
          refine lv_goto (tgt := 114) hx hb dX12_signs__110 (by decide) ?_
          exact kont_114 1 _ _ _ _ ⟨by omega, trivial⟩ G
        · refine lv_iload_n hx hb dX12_signs__74 rfl (lv_at hl 3 rfl) ?_
          refine lv_iconst (v := iv 1) hx hb dX12_signs__75 rfl ?_
          refine xb_icmp_ne (tgt := 101) hx hb (by unfold ir; omega) (by unfold ir; omega) dX12_signs__76 (by decide) (fun c_76 => ?_) (fun c_76 => ?_)
          · refine lv_lload hx hb dX12_signs__101 (lv_at hl 1 rfl) ?_
            refine lv_lload hx hb dX12_signs__103 (lv_at hl 0 rfl) ?_
            refine xb_lcmp hx hb hj_5 hj_6 dX12_signs__105 ?_
            have hr_251 : -2147483648 ≤ lcm (μ.1 136 (μ.1 111 53 - 2)) (μ.1 136 (μ.1 111 53 - 1)) ∧ lcm (μ.1 136 (μ.1 111 53 - 2)) (μ.1 136 (μ.1 111 53 - 1)) ≤ 2147483647 := lcm_ir _ _
            have hlc_252 := lcm_f (μ.1 136 (μ.1 111 53 - 2)) (μ.1 136 (μ.1 111 53 - 1))
            refine xb_if_ne (tgt := 113) hx hb (by unfold ir; omega) dX12_signs__106 (by decide) (fun c_106 => ?_) (fun c_106 => ?_)
            · refine lv_iconst (v := iv 0) hx hb dX12_signs__113 rfl ?_
              exact kont_114 0 _ _ _ _ ⟨by omega, trivial⟩ G
            · refine lv_iconst (v := iv 1) hx hb dX12_signs__109 rfl ?_
              refine lv_goto (tgt := 114) hx hb dX12_signs__110 (by decide) ?_
              exact kont_114 1 _ _ _ _ ⟨by omega, trivial⟩ G
          · refine lv_iload_n hx hb dX12_signs__79 rfl (lv_at hl 5 rfl) ?_
            refine lv_iconst (v := iv 3) hx hb dX12_signs__80 rfl ?_
            refine xb_icmp_ne (tgt := 101) hx hb (by unfold ir; omega) (by unfold ir; omega) dX12_signs__81 (by decide) (fun c_81 => ?_) (fun c_81 => ?_)
            · refine lv_lload hx hb dX12_signs__101 (lv_at hl 1 rfl) ?_
              refine lv_lload hx hb dX12_signs__103 (lv_at hl 0 rfl) ?_
              refine xb_lcmp hx hb hj_5 hj_6 dX12_signs__105 ?_
              have hr_253 : -2147483648 ≤ lcm (μ.1 136 (μ.1 111 53 - 2)) (μ.1 136 (μ.1 111 53 - 1)) ∧ lcm (μ.1 136 (μ.1 111 53 - 2)) (μ.1 136 (μ.1 111 53 - 1)) ≤ 2147483647 := lcm_ir _ _
              have hlc_254 := lcm_f (μ.1 136 (μ.1 111 53 - 2)) (μ.1 136 (μ.1 111 53 - 1))
              refine xb_if_ne (tgt := 113) hx hb (by unfold ir; omega) dX12_signs__106 (by decide) (fun c_106 => ?_) (fun c_106 => ?_)
              · refine lv_iconst (v := iv 0) hx hb dX12_signs__113 rfl ?_
                exact kont_114 0 _ _ _ _ ⟨by omega, trivial⟩ G
              · refine lv_iconst (v := iv 1) hx hb dX12_signs__109 rfl ?_
                refine lv_goto (tgt := 114) hx hb dX12_signs__110 (by decide) ?_
                exact kont_114 1 _ _ _ _ ⟨by omega, trivial⟩ G
            · refine lv_lload hx hb dX12_signs__84 (lv_at hl 1 rfl) ?_
              refine xc_dS G (rest := []) (As := [.long (jv (μ.1 136 (μ.1 111 53 - 2)))]) (c_X12_real ω l (sv μ 111 53 ((μ.1 111 53) - 2)) (μ.1 136 (μ.1 111 53 - 2)) hj_5) (wm 10 91 rfl rfl) (wm 10 92 rfl rfl) (wm 1 18 rfl rfl) (wm 10 93 rfl rfl) (by decide) hR (by decide) (n := 1) rfl rfl (Nat.le_of_ble_eq_true rfl) hl.1 dX12_signs__86 (fun r_256 μ255 ρ d0 H locs hp G => ?_)
              have hsm_257 := hp
              have hsm_257 := Eq.symm hsm_257
              subst hsm_257
              refine lv_lload hx hb dX12_signs__89 (lv_at hl 0 rfl) ?_
              refine xc_dS G (rest := [.double (dv r_256)]) (As := [.long (jv (μ.1 136 (μ.1 111 53 - 1)))]) (c_X12_real ω l (sv μ 111 53 ((μ.1 111 53) - 2)) (μ.1 136 (μ.1 111 53 - 1)) hj_6) (wm 10 91 rfl rfl) (wm 10 92 rfl rfl) (wm 1 18 rfl rfl) (wm 10 93 rfl rfl) (by decide) hR (by decide) (n := 1) rfl rfl (Nat.le_of_ble_eq_true rfl) hl.1 dX12_signs__91 (fun r_259 μ258 ρ d0 H locs hp G => ?_)
              have hsm_260 := hp
              have hsm_260 := Eq.symm hsm_260
              subst hsm_260
              refine lv_dcmp hx hb dX12_signs__94 ?_
              refine xb_topi (fun y_261 hr_y_261 he_y_261 => ?_)
              have hr_y_261 : -2147483648 ≤ y_261 ∧ y_261 ≤ 2147483647 := hr_y_261
              refine xb_if_ne (tgt := 113) hx hb (by unfold ir; omega) dX12_signs__95 (by decide) (fun c_95 => ?_) (fun c_95 => ?_)
              · refine lv_iconst (v := iv 0) hx hb dX12_signs__113 rfl ?_
                exact kont_114 0 _ _ _ _ ⟨by omega, trivial⟩ G
              · refine lv_goto (tgt := 109) hx hb dX12_signs__98 (by decide) ?_
                refine lv_iconst (v := iv 1) hx hb dX12_signs__109 rfl ?_
                refine lv_goto (tgt := 114) hx hb dX12_signs__110 (by decide) ?_
                exact kont_114 1 _ _ _ _ ⟨by omega, trivial⟩ G
