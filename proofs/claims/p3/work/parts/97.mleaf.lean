abbrev cX12_isFinite : ByteArray := prog_14_method_79_code
def yX12_isFinite : MethodName := ⟨RX12, "isFinite", "(D)Z"⟩
abbrev cX12_real : ByteArray := prog_14_method_80_code
def yX12_real : MethodName := ⟨RX12, "real", "(J)D"⟩
abbrev cX12_has : ByteArray := prog_14_method_81_code
def yX12_has : MethodName := ⟨RX12, "has", "(IJ)Z"⟩
abbrev cX12_turnsTo : ByteArray := prog_14_method_82_code
def yX12_turnsTo : MethodName := ⟨RX12, "turnsTo", "(ZJ)V"⟩
abbrev cX12_turns : ByteArray := prog_14_method_83_code
def yX12_turns : MethodName := ⟨RX12, "turns", "(IIIJ)V"⟩
abbrev cX12_turnsValue : ByteArray := prog_14_method_85_code
def yX12_turnsValue : MethodName := ⟨RX12, "turnsValue", "(IIIJ)V"⟩
abbrev cX12_canFail : ByteArray := prog_14_method_86_code
def yX12_canFail : MethodName := ⟨RX12, "canFail", "(II)Z"⟩
abbrev cX12_entryOf : ByteArray := prog_14_method_87_code
def yX12_entryOf : MethodName := ⟨RX12, "entryOf", "(II)I"⟩
abbrev cX12_push : ByteArray := prog_14_method_89_code
def yX12_push : MethodName := ⟨RX12, "push", "(IJ)V"⟩
abbrev cX12_pushNumber : ByteArray := prog_14_method_90_code
def yX12_pushNumber : MethodName := ⟨RX12, "pushNumber", "(IJ)V"⟩
abbrev cX12_top : ByteArray := prog_14_method_91_code
def yX12_top : MethodName := ⟨RX12, "top", "()I"⟩
abbrev cX12_now : ByteArray := prog_14_method_92_code
def yX12_now : MethodName := ⟨RX12, "now", "()I"⟩
abbrev cX12_step : ByteArray := prog_14_method_93_code
def yX12_step : MethodName := ⟨RX12, "step", "()Z"⟩
abbrev cX12_block_ : ByteArray := prog_14_method_94_code
def yX12_block_ : MethodName := ⟨RX12, "block", "(III)V"⟩
abbrev cX12_newFailure : ByteArray := prog_14_method_95_code
def yX12_newFailure : MethodName := ⟨RX12, "newFailure", "(IIIJ)I"⟩
abbrev cX12_lies : ByteArray := prog_14_method_101_code
def yX12_lies : MethodName := ⟨RX12, "lies", "(IIJI)V"⟩
abbrev cX12_isUnder : ByteArray := prog_14_method_102_code
def yX12_isUnder : MethodName := ⟨RX12, "isUnder", "(II)Z"⟩
abbrev cX12_puts : ByteArray := prog_14_method_103_code
def yX12_puts : MethodName := ⟨RX12, "puts", "(IIJ)V"⟩
abbrev cX12_leavesFrame : ByteArray := prog_14_method_106_code
def yX12_leavesFrame : MethodName := ⟨RX12, "leavesFrame", "()V"⟩
abbrev cX12_isZero : ByteArray := prog_14_method_114_code
def yX12_isZero : MethodName := ⟨RX12, "isZero", "(IJ)Z"⟩
theorem dX12_isFinite_0 : decode cX12_isFinite 0 = .ok (.dload_n 0, 1) := by decide +kernel
theorem dX12_isFinite_1 : decode cX12_isFinite 1 = .ok (.ldc2_w 524, 3) := by decide +kernel
theorem dX12_isFinite_4 : decode cX12_isFinite 4 = .ok (.dcmp .l, 1) := by decide +kernel
theorem dX12_isFinite_5 : decode cX12_isFinite 5 = .ok (.ifCond .lt 15, 3) := by decide +kernel
theorem dX12_isFinite_8 : decode cX12_isFinite 8 = .ok (.dload_n 0, 1) := by decide +kernel
theorem dX12_isFinite_9 : decode cX12_isFinite 9 = .ok (.ldc2_w 526, 3) := by decide +kernel
theorem dX12_isFinite_12 : decode cX12_isFinite 12 = .ok (.dcmp .g, 1) := by decide +kernel
theorem dX12_isFinite_13 : decode cX12_isFinite 13 = .ok (.ifCond .gt 7, 3) := by decide +kernel
theorem dX12_isFinite_16 : decode cX12_isFinite 16 = .ok (.iconst 1, 1) := by decide +kernel
theorem dX12_isFinite_17 : decode cX12_isFinite 17 = .ok (.goto 4, 3) := by decide +kernel
theorem dX12_isFinite_20 : decode cX12_isFinite 20 = .ok (.iconst 0, 1) := by decide +kernel
theorem dX12_isFinite_21 : decode cX12_isFinite 21 = .ok (.ireturn, 1) := by decide +kernel
theorem dX12_real_0 : decode cX12_real 0 = .ok (.lload_n 0, 1) := by decide +kernel
theorem dX12_real_1 : decode cX12_real 1 = .ok (.invokestatic 528, 3) := by decide +kernel
theorem dX12_real_4 : decode cX12_real 4 = .ok (.dreturn, 1) := by decide +kernel
theorem dX12_has_0 : decode cX12_has 0 = .ok (.iload_n 0, 1) := by decide +kernel
theorem dX12_has_1 : decode cX12_has 1 = .ok (.ifCond .eq 37, 3) := by decide +kernel
theorem dX12_has_4 : decode cX12_has 4 = .ok (.iload_n 0, 1) := by decide +kernel
theorem dX12_has_5 : decode cX12_has 5 = .ok (.iconst 1, 1) := by decide +kernel
theorem dX12_has_6 : decode cX12_has 6 = .ok (.if_icmp .ne 11, 3) := by decide +kernel
theorem dX12_has_9 : decode cX12_has 9 = .ok (.lload_n 1, 1) := by decide +kernel
theorem dX12_has_10 : decode cX12_has 10 = .ok (.lload_n 1, 1) := by decide +kernel
theorem dX12_has_11 : decode cX12_has 11 = .ok (.l2i, 1) := by decide +kernel
theorem dX12_has_12 : decode cX12_has 12 = .ok (.i2l, 1) := by decide +kernel
theorem dX12_has_13 : decode cX12_has 13 = .ok (.lcmp, 1) := by decide +kernel
theorem dX12_has_14 : decode cX12_has 14 = .ok (.ifCond .eq 24, 3) := by decide +kernel
theorem dX12_has_17 : decode cX12_has 17 = .ok (.iload_n 0, 1) := by decide +kernel
theorem dX12_has_18 : decode cX12_has 18 = .ok (.iconst 2, 1) := by decide +kernel
theorem dX12_has_19 : decode cX12_has 19 = .ok (.if_icmp .ne 23, 3) := by decide +kernel
theorem dX12_has_22 : decode cX12_has 22 = .ok (.lload_n 1, 1) := by decide +kernel
theorem dX12_has_23 : decode cX12_has 23 = .ok (.ldc2_w 532, 3) := by decide +kernel
theorem dX12_has_26 : decode cX12_has 26 = .ok (.lcmp, 1) := by decide +kernel
theorem dX12_has_27 : decode cX12_has 27 = .ok (.ifCond .lt 15, 3) := by decide +kernel
theorem dX12_has_30 : decode cX12_has 30 = .ok (.lload_n 1, 1) := by decide +kernel
theorem dX12_has_31 : decode cX12_has 31 = .ok (.ldc2_w 273, 3) := by decide +kernel
theorem dX12_has_34 : decode cX12_has 34 = .ok (.lcmp, 1) := by decide +kernel
theorem dX12_has_35 : decode cX12_has 35 = .ok (.ifCond .gt 7, 3) := by decide +kernel
theorem dX12_has_38 : decode cX12_has 38 = .ok (.iconst 1, 1) := by decide +kernel
theorem dX12_has_39 : decode cX12_has 39 = .ok (.goto 4, 3) := by decide +kernel
theorem dX12_has_42 : decode cX12_has 42 = .ok (.iconst 0, 1) := by decide +kernel
theorem dX12_has_43 : decode cX12_has 43 = .ok (.ireturn, 1) := by decide +kernel
theorem dX12_turnsTo_0 : decode cX12_turnsTo 0 = .ok (.aload_n 0, 1) := by decide +kernel
theorem dX12_turnsTo_1 : decode cX12_turnsTo 1 = .ok (.iload_n 1, 1) := by decide +kernel
theorem dX12_turnsTo_2 : decode cX12_turnsTo 2 = .ok (.putfield 534, 3) := by decide +kernel
theorem dX12_turnsTo_5 : decode cX12_turnsTo 5 = .ok (.aload_n 0, 1) := by decide +kernel
theorem dX12_turnsTo_6 : decode cX12_turnsTo 6 = .ok (.lload_n 2, 1) := by decide +kernel
theorem dX12_turnsTo_7 : decode cX12_turnsTo 7 = .ok (.putfield 538, 3) := by decide +kernel
theorem dX12_turnsTo_10 : decode cX12_turnsTo 10 = .ok (.return_, 1) := by decide +kernel
theorem dX12_turns_0 : decode cX12_turns 0 = .ok (.iload_n 1, 1) := by decide +kernel
theorem dX12_turns_1 : decode cX12_turns 1 = .ok (.iload_n 2, 1) := by decide +kernel
theorem dX12_turns_2 : decode cX12_turns 2 = .ok (.if_icmp .ne 11, 3) := by decide +kernel
theorem dX12_turns_5 : decode cX12_turns 5 = .ok (.aload_n 0, 1) := by decide +kernel
theorem dX12_turns_6 : decode cX12_turns 6 = .ok (.iconst 1, 1) := by decide +kernel
theorem dX12_turns_7 : decode cX12_turns 7 = .ok (.lload 4, 2) := by decide +kernel
theorem dX12_turns_9 : decode cX12_turns 9 = .ok (.invokevirtual 541, 3) := by decide +kernel
theorem dX12_turns_12 : decode cX12_turns 12 = .ok (.return_, 1) := by decide +kernel
theorem dX12_turns_13 : decode cX12_turns 13 = .ok (.iload_n 1, 1) := by decide +kernel
theorem dX12_turns_14 : decode cX12_turns 14 = .ok (.iconst 3, 1) := by decide +kernel
theorem dX12_turns_15 : decode cX12_turns 15 = .ok (.if_icmp .ne 11, 3) := by decide +kernel
theorem dX12_turns_18 : decode cX12_turns 18 = .ok (.lload 4, 2) := by decide +kernel
theorem dX12_turns_20 : decode cX12_turns 20 = .ok (.invokestatic 545, 3) := by decide +kernel
theorem dX12_turns_23 : decode cX12_turns 23 = .ok (.goto 4, 3) := by decide +kernel
theorem dX12_turns_26 : decode cX12_turns 26 = .ok (.dconst 0, 1) := by decide +kernel
theorem dX12_turns_27 : decode cX12_turns 27 = .ok (.dstore 6, 2) := by decide +kernel
theorem dX12_turns_29 : decode cX12_turns 29 = .ok (.iload_n 1, 1) := by decide +kernel
theorem dX12_turns_30 : decode cX12_turns 30 = .ok (.iconst 3, 1) := by decide +kernel
theorem dX12_turns_31 : decode cX12_turns 31 = .ok (.if_icmp .ne 9, 3) := by decide +kernel
theorem dX12_turns_34 : decode cX12_turns 34 = .ok (.dload 6, 2) := by decide +kernel
theorem dX12_turns_36 : decode cX12_turns 36 = .ok (.d2l, 1) := by decide +kernel
theorem dX12_turns_37 : decode cX12_turns 37 = .ok (.goto 5, 3) := by decide +kernel
theorem dX12_turns_40 : decode cX12_turns 40 = .ok (.lload 4, 2) := by decide +kernel
theorem dX12_turns_42 : decode cX12_turns 42 = .ok (.lstore 8, 2) := by decide +kernel
theorem dX12_turns_44 : decode cX12_turns 44 = .ok (.iload_n 2, 1) := by decide +kernel
theorem dX12_turns_45 : decode cX12_turns 45 = .ok (.iconst 3, 1) := by decide +kernel
theorem dX12_turns_46 : decode cX12_turns 46 = .ok (.if_icmp .ne 59, 3) := by decide +kernel
theorem dX12_turns_49 : decode cX12_turns 49 = .ok (.lload 8, 2) := by decide +kernel
theorem dX12_turns_51 : decode cX12_turns 51 = .ok (.l2d, 1) := by decide +kernel
theorem dX12_turns_52 : decode cX12_turns 52 = .ok (.dstore 10, 2) := by decide +kernel
theorem dX12_turns_54 : decode cX12_turns 54 = .ok (.dload 10, 2) := by decide +kernel
theorem dX12_turns_56 : decode cX12_turns 56 = .ok (.d2l, 1) := by decide +kernel
theorem dX12_turns_57 : decode cX12_turns 57 = .ok (.lload 8, 2) := by decide +kernel
theorem dX12_turns_59 : decode cX12_turns 59 = .ok (.lcmp, 1) := by decide +kernel
theorem dX12_turns_60 : decode cX12_turns 60 = .ok (.ifCond .ne 16, 3) := by decide +kernel
theorem dX12_turns_63 : decode cX12_turns 63 = .ok (.lload 8, 2) := by decide +kernel
theorem dX12_turns_65 : decode cX12_turns 65 = .ok (.ldc2_w 269, 3) := by decide +kernel
theorem dX12_turns_68 : decode cX12_turns 68 = .ok (.lcmp, 1) := by decide +kernel
theorem dX12_turns_69 : decode cX12_turns 69 = .ok (.ifCond .eq 7, 3) := by decide +kernel
theorem dX12_turns_72 : decode cX12_turns 72 = .ok (.iconst 1, 1) := by decide +kernel
theorem dX12_turns_73 : decode cX12_turns 73 = .ok (.goto 4, 3) := by decide +kernel
theorem dX12_turns_76 : decode cX12_turns 76 = .ok (.iconst 0, 1) := by decide +kernel
theorem dX12_turns_77 : decode cX12_turns 77 = .ok (.istore 12, 2) := by decide +kernel
theorem dX12_turns_79 : decode cX12_turns 79 = .ok (.aload_n 0, 1) := by decide +kernel
theorem dX12_turns_80 : decode cX12_turns 80 = .ok (.iload_n 3, 1) := by decide +kernel
theorem dX12_turns_81 : decode cX12_turns 81 = .ok (.ifCond .gt 8, 3) := by decide +kernel
theorem dX12_turns_84 : decode cX12_turns 84 = .ok (.iload 12, 2) := by decide +kernel
theorem dX12_turns_86 : decode cX12_turns 86 = .ok (.ifCond .eq 7, 3) := by decide +kernel
theorem dX12_turns_89 : decode cX12_turns 89 = .ok (.iconst 1, 1) := by decide +kernel
theorem dX12_turns_90 : decode cX12_turns 90 = .ok (.goto 4, 3) := by decide +kernel
theorem dX12_turns_93 : decode cX12_turns 93 = .ok (.iconst 0, 1) := by decide +kernel
theorem dX12_turns_94 : decode cX12_turns 94 = .ok (.dload 10, 2) := by decide +kernel
theorem dX12_turns_96 : decode cX12_turns 96 = .ok (.invokestatic 283, 3) := by decide +kernel
theorem dX12_turns_99 : decode cX12_turns 99 = .ok (.invokevirtual 541, 3) := by decide +kernel
theorem dX12_turns_102 : decode cX12_turns 102 = .ok (.goto 199, 3) := by decide +kernel
theorem dX12_turns_105 : decode cX12_turns 105 = .ok (.iload_n 3, 1) := by decide +kernel
theorem dX12_turns_106 : decode cX12_turns 106 = .ok (.ifCond .ne 70, 3) := by decide +kernel
theorem dX12_turns_109 : decode cX12_turns 109 = .ok (.iload_n 1, 1) := by decide +kernel
theorem dX12_turns_110 : decode cX12_turns 110 = .ok (.iconst 3, 1) := by decide +kernel
theorem dX12_turns_111 : decode cX12_turns 111 = .ok (.if_icmp .ne 30, 3) := by decide +kernel
theorem dX12_turns_114 : decode cX12_turns 114 = .ok (.dload 6, 2) := by decide +kernel
theorem dX12_turns_116 : decode cX12_turns 116 = .ok (.ldc2_w 548, 3) := by decide +kernel
theorem dX12_turns_119 : decode cX12_turns 119 = .ok (.dcmp .l, 1) := by decide +kernel
theorem dX12_turns_120 : decode cX12_turns 120 = .ok (.ifCond .lt 25, 3) := by decide +kernel
theorem dX12_turns_123 : decode cX12_turns 123 = .ok (.dload 6, 2) := by decide +kernel
theorem dX12_turns_125 : decode cX12_turns 125 = .ok (.ldc2_w 550, 3) := by decide +kernel
theorem dX12_turns_128 : decode cX12_turns 128 = .ok (.dcmp .g, 1) := by decide +kernel
theorem dX12_turns_129 : decode cX12_turns 129 = .ok (.ifCond .ge 16, 3) := by decide +kernel
theorem dX12_turns_132 : decode cX12_turns 132 = .ok (.lload 8, 2) := by decide +kernel
theorem dX12_turns_134 : decode cX12_turns 134 = .ok (.l2d, 1) := by decide +kernel
theorem dX12_turns_135 : decode cX12_turns 135 = .ok (.dload 6, 2) := by decide +kernel
theorem dX12_turns_137 : decode cX12_turns 137 = .ok (.dcmp .l, 1) := by decide +kernel
theorem dX12_turns_138 : decode cX12_turns 138 = .ok (.ifCond .ne 7, 3) := by decide +kernel
theorem dX12_turns_141 : decode cX12_turns 141 = .ok (.iconst 1, 1) := by decide +kernel
theorem dX12_turns_142 : decode cX12_turns 142 = .ok (.goto 4, 3) := by decide +kernel
theorem dX12_turns_145 : decode cX12_turns 145 = .ok (.iconst 0, 1) := by decide +kernel
theorem dX12_turns_146 : decode cX12_turns 146 = .ok (.istore 10, 2) := by decide +kernel
theorem dX12_turns_148 : decode cX12_turns 148 = .ok (.aload_n 0, 1) := by decide +kernel
theorem dX12_turns_149 : decode cX12_turns 149 = .ok (.iload 10, 2) := by decide +kernel
theorem dX12_turns_151 : decode cX12_turns 151 = .ok (.ifCond .eq 16, 3) := by decide +kernel
theorem dX12_turns_154 : decode cX12_turns 154 = .ok (.iload_n 2, 1) := by decide +kernel
theorem dX12_turns_155 : decode cX12_turns 155 = .ok (.lload 8, 2) := by decide +kernel
theorem dX12_turns_157 : decode cX12_turns 157 = .ok (.invokestatic 552, 3) := by decide +kernel
theorem dX12_turns_160 : decode cX12_turns 160 = .ok (.ifCond .eq 7, 3) := by decide +kernel
theorem dX12_turns_163 : decode cX12_turns 163 = .ok (.iconst 1, 1) := by decide +kernel
theorem dX12_turns_164 : decode cX12_turns 164 = .ok (.goto 4, 3) := by decide +kernel
theorem dX12_turns_167 : decode cX12_turns 167 = .ok (.iconst 0, 1) := by decide +kernel
theorem dX12_turns_168 : decode cX12_turns 168 = .ok (.lload 8, 2) := by decide +kernel
theorem dX12_turns_170 : decode cX12_turns 170 = .ok (.invokevirtual 541, 3) := by decide +kernel
theorem dX12_turns_173 : decode cX12_turns 173 = .ok (.goto 128, 3) := by decide +kernel
theorem dX12_turns_176 : decode cX12_turns 176 = .ok (.iload_n 3, 1) := by decide +kernel
theorem dX12_turns_177 : decode cX12_turns 177 = .ok (.iconst 1, 1) := by decide +kernel
theorem dX12_turns_178 : decode cX12_turns 178 = .ok (.if_icmp .ne 38, 3) := by decide +kernel
theorem dX12_turns_181 : decode cX12_turns 181 = .ok (.aload_n 0, 1) := by decide +kernel
theorem dX12_turns_182 : decode cX12_turns 182 = .ok (.iconst 1, 1) := by decide +kernel
theorem dX12_turns_183 : decode cX12_turns 183 = .ok (.iload_n 2, 1) := by decide +kernel
theorem dX12_turns_184 : decode cX12_turns 184 = .ok (.ifCond .ne 8, 3) := by decide +kernel
theorem dX12_turns_187 : decode cX12_turns 187 = .ok (.lload 8, 2) := by decide +kernel
theorem dX12_turns_189 : decode cX12_turns 189 = .ok (.goto 21, 3) := by decide +kernel
theorem dX12_turns_192 : decode cX12_turns 192 = .ok (.iload_n 2, 1) := by decide +kernel
theorem dX12_turns_193 : decode cX12_turns 193 = .ok (.iconst 1, 1) := by decide +kernel
theorem dX12_turns_194 : decode cX12_turns 194 = .ok (.if_icmp .ne 10, 3) := by decide +kernel
theorem dX12_turns_197 : decode cX12_turns 197 = .ok (.lload 8, 2) := by decide +kernel
theorem dX12_turns_199 : decode cX12_turns 199 = .ok (.l2i, 1) := by decide +kernel
theorem dX12_turns_200 : decode cX12_turns 200 = .ok (.i2l, 1) := by decide +kernel
theorem dX12_turns_201 : decode cX12_turns 201 = .ok (.goto 9, 3) := by decide +kernel
theorem dX12_turns_204 : decode cX12_turns 204 = .ok (.lload 8, 2) := by decide +kernel
theorem dX12_turns_206 : decode cX12_turns 206 = .ok (.ldc2_w 273, 3) := by decide +kernel
theorem dX12_turns_209 : decode cX12_turns 209 = .ok (.lrem, 1) := by decide +kernel
theorem dX12_turns_210 : decode cX12_turns 210 = .ok (.invokevirtual 541, 3) := by decide +kernel
theorem dX12_turns_213 : decode cX12_turns 213 = .ok (.goto 88, 3) := by decide +kernel
theorem dX12_turns_216 : decode cX12_turns 216 = .ok (.iload_n 2, 1) := by decide +kernel
theorem dX12_turns_217 : decode cX12_turns 217 = .ok (.ifCond .ne 9, 3) := by decide +kernel
theorem dX12_turns_220 : decode cX12_turns 220 = .ok (.ldc2_w 556, 3) := by decide +kernel
theorem dX12_turns_223 : decode cX12_turns 223 = .ok (.goto 17, 3) := by decide +kernel
theorem dX12_turns_226 : decode cX12_turns 226 = .ok (.iload_n 2, 1) := by decide +kernel
theorem dX12_turns_227 : decode cX12_turns 227 = .ok (.iconst 1, 1) := by decide +kernel
theorem dX12_turns_228 : decode cX12_turns 228 = .ok (.if_icmp .ne 9, 3) := by decide +kernel
theorem dX12_turns_231 : decode cX12_turns 231 = .ok (.ldc2_w 558, 3) := by decide +kernel
theorem dX12_turns_234 : decode cX12_turns 234 = .ok (.goto 6, 3) := by decide +kernel
theorem dX12_turns_237 : decode cX12_turns 237 = .ok (.ldc2_w 532, 3) := by decide +kernel
theorem dX12_turns_240 : decode cX12_turns 240 = .ok (.lstore 10, 2) := by decide +kernel
theorem dX12_turns_242 : decode cX12_turns 242 = .ok (.iload_n 2, 1) := by decide +kernel
theorem dX12_turns_243 : decode cX12_turns 243 = .ok (.ifCond .ne 9, 3) := by decide +kernel
theorem dX12_turns_246 : decode cX12_turns 246 = .ok (.ldc2_w 269, 3) := by decide +kernel
theorem dX12_turns_249 : decode cX12_turns 249 = .ok (.goto 17, 3) := by decide +kernel
theorem dX12_turns_252 : decode cX12_turns 252 = .ok (.iload_n 2, 1) := by decide +kernel
theorem dX12_turns_253 : decode cX12_turns 253 = .ok (.iconst 1, 1) := by decide +kernel
theorem dX12_turns_254 : decode cX12_turns 254 = .ok (.if_icmp .ne 9, 3) := by decide +kernel
theorem dX12_turns_257 : decode cX12_turns 257 = .ok (.ldc2_w 271, 3) := by decide +kernel
theorem dX12_turns_260 : decode cX12_turns 260 = .ok (.goto 6, 3) := by decide +kernel
theorem dX12_turns_263 : decode cX12_turns 263 = .ok (.ldc2_w 273, 3) := by decide +kernel
theorem dX12_turns_266 : decode cX12_turns 266 = .ok (.lstore 12, 2) := by decide +kernel
theorem dX12_turns_268 : decode cX12_turns 268 = .ok (.aload_n 0, 1) := by decide +kernel
theorem dX12_turns_269 : decode cX12_turns 269 = .ok (.iconst 1, 1) := by decide +kernel
theorem dX12_turns_270 : decode cX12_turns 270 = .ok (.lload 8, 2) := by decide +kernel
theorem dX12_turns_272 : decode cX12_turns 272 = .ok (.lload 10, 2) := by decide +kernel
theorem dX12_turns_274 : decode cX12_turns 274 = .ok (.lcmp, 1) := by decide +kernel
theorem dX12_turns_275 : decode cX12_turns 275 = .ok (.ifCond .ge 8, 3) := by decide +kernel
theorem dX12_turns_278 : decode cX12_turns 278 = .ok (.lload 10, 2) := by decide +kernel
theorem dX12_turns_280 : decode cX12_turns 280 = .ok (.goto 18, 3) := by decide +kernel
theorem dX12_turns_283 : decode cX12_turns 283 = .ok (.lload 8, 2) := by decide +kernel
theorem dX12_turns_285 : decode cX12_turns 285 = .ok (.lload 12, 2) := by decide +kernel
theorem dX12_turns_287 : decode cX12_turns 287 = .ok (.lcmp, 1) := by decide +kernel
theorem dX12_turns_288 : decode cX12_turns 288 = .ok (.ifCond .le 8, 3) := by decide +kernel
theorem dX12_turns_291 : decode cX12_turns 291 = .ok (.lload 12, 2) := by decide +kernel
theorem dX12_turns_293 : decode cX12_turns 293 = .ok (.goto 5, 3) := by decide +kernel
theorem dX12_turns_296 : decode cX12_turns 296 = .ok (.lload 8, 2) := by decide +kernel
theorem dX12_turns_298 : decode cX12_turns 298 = .ok (.invokevirtual 541, 3) := by decide +kernel
theorem dX12_turns_301 : decode cX12_turns 301 = .ok (.return_, 1) := by decide +kernel
theorem dX12_turnsValue_0 : decode cX12_turnsValue 0 = .ok (.iload_n 3, 1) := by decide +kernel
theorem dX12_turnsValue_1 : decode cX12_turnsValue 1 = .ok (.iconst 1, 1) := by decide +kernel
theorem dX12_turnsValue_2 : decode cX12_turnsValue 2 = .ok (.if_icmp .ne 24, 3) := by decide +kernel
theorem dX12_turnsValue_5 : decode cX12_turnsValue 5 = .ok (.aload_n 0, 1) := by decide +kernel
theorem dX12_turnsValue_6 : decode cX12_turnsValue 6 = .ok (.iload_n 1, 1) := by decide +kernel
theorem dX12_turnsValue_7 : decode cX12_turnsValue 7 = .ok (.iload_n 2, 1) := by decide +kernel
theorem dX12_turnsValue_8 : decode cX12_turnsValue 8 = .ok (.aload_n 0, 1) := by decide +kernel
theorem dX12_turnsValue_9 : decode cX12_turnsValue 9 = .ok (.getfield 163, 3) := by decide +kernel
theorem dX12_turnsValue_12 : decode cX12_turnsValue 12 = .ok (.iconst 4, 1) := by decide +kernel
theorem dX12_turnsValue_13 : decode cX12_turnsValue 13 = .ok (.iload_n 1, 1) := by decide +kernel
theorem dX12_turnsValue_14 : decode cX12_turnsValue 14 = .ok (.imul, 1) := by decide +kernel
theorem dX12_turnsValue_15 : decode cX12_turnsValue 15 = .ok (.iload_n 2, 1) := by decide +kernel
theorem dX12_turnsValue_16 : decode cX12_turnsValue 16 = .ok (.iadd, 1) := by decide +kernel
theorem dX12_turnsValue_17 : decode cX12_turnsValue 17 = .ok (.iaload, 1) := by decide +kernel
theorem dX12_turnsValue_18 : decode cX12_turnsValue 18 = .ok (.lload 4, 2) := by decide +kernel
theorem dX12_turnsValue_20 : decode cX12_turnsValue 20 = .ok (.invokevirtual 560, 3) := by decide +kernel
theorem dX12_turnsValue_23 : decode cX12_turnsValue 23 = .ok (.goto 10, 3) := by decide +kernel
theorem dX12_turnsValue_26 : decode cX12_turnsValue 26 = .ok (.aload_n 0, 1) := by decide +kernel
theorem dX12_turnsValue_27 : decode cX12_turnsValue 27 = .ok (.iconst 1, 1) := by decide +kernel
theorem dX12_turnsValue_28 : decode cX12_turnsValue 28 = .ok (.lload 4, 2) := by decide +kernel
theorem dX12_turnsValue_30 : decode cX12_turnsValue 30 = .ok (.invokevirtual 541, 3) := by decide +kernel
theorem dX12_turnsValue_33 : decode cX12_turnsValue 33 = .ok (.return_, 1) := by decide +kernel
theorem dX12_canFail_0 : decode cX12_canFail 0 = .ok (.iload_n 1, 1) := by decide +kernel
theorem dX12_canFail_1 : decode cX12_canFail 1 = .ok (.iconst 1, 1) := by decide +kernel
theorem dX12_canFail_2 : decode cX12_canFail 2 = .ok (.if_icmp .ne 15, 3) := by decide +kernel
theorem dX12_canFail_5 : decode cX12_canFail 5 = .ok (.iload_n 2, 1) := by decide +kernel
theorem dX12_canFail_6 : decode cX12_canFail 6 = .ok (.ifCond .eq 7, 3) := by decide +kernel
theorem dX12_canFail_9 : decode cX12_canFail 9 = .ok (.iconst 1, 1) := by decide +kernel
theorem dX12_canFail_10 : decode cX12_canFail 10 = .ok (.goto 25, 3) := by decide +kernel
theorem dX12_canFail_13 : decode cX12_canFail 13 = .ok (.iconst 0, 1) := by decide +kernel
theorem dX12_canFail_14 : decode cX12_canFail 14 = .ok (.goto 21, 3) := by decide +kernel
theorem dX12_canFail_17 : decode cX12_canFail 17 = .ok (.iload_n 2, 1) := by decide +kernel
theorem dX12_canFail_18 : decode cX12_canFail 18 = .ok (.iconst 1, 1) := by decide +kernel
theorem dX12_canFail_19 : decode cX12_canFail 19 = .ok (.if_icmp .lt 15, 3) := by decide +kernel
theorem dX12_canFail_22 : decode cX12_canFail 22 = .ok (.iload_n 2, 1) := by decide +kernel
theorem dX12_canFail_23 : decode cX12_canFail 23 = .ok (.aload_n 0, 1) := by decide +kernel
theorem dX12_canFail_24 : decode cX12_canFail 24 = .ok (.getfield 178, 3) := by decide +kernel
theorem dX12_canFail_27 : decode cX12_canFail 27 = .ok (.if_icmp .ge 7, 3) := by decide +kernel
theorem dX12_canFail_30 : decode cX12_canFail 30 = .ok (.iconst 1, 1) := by decide +kernel
theorem dX12_canFail_31 : decode cX12_canFail 31 = .ok (.goto 4, 3) := by decide +kernel
theorem dX12_canFail_34 : decode cX12_canFail 34 = .ok (.iconst 0, 1) := by decide +kernel
theorem dX12_canFail_35 : decode cX12_canFail 35 = .ok (.ireturn, 1) := by decide +kernel
theorem dX12_entryOf_0 : decode cX12_entryOf 0 = .ok (.iconst 0, 1) := by decide +kernel
theorem dX12_entryOf_1 : decode cX12_entryOf 1 = .ok (.istore_n 3, 1) := by decide +kernel
theorem dX12_entryOf_2 : decode cX12_entryOf 2 = .ok (.iload_n 3, 1) := by decide +kernel
theorem dX12_entryOf_3 : decode cX12_entryOf 3 = .ok (.aload_n 0, 1) := by decide +kernel
theorem dX12_entryOf_4 : decode cX12_entryOf 4 = .ok (.getfield 564, 3) := by decide +kernel
theorem dX12_entryOf_7 : decode cX12_entryOf 7 = .ok (.if_icmp .ge 31, 3) := by decide +kernel
theorem dX12_entryOf_10 : decode cX12_entryOf 10 = .ok (.aload_n 0, 1) := by decide +kernel
theorem dX12_entryOf_11 : decode cX12_entryOf 11 = .ok (.getfield 166, 3) := by decide +kernel
theorem dX12_entryOf_14 : decode cX12_entryOf 14 = .ok (.iload_n 3, 1) := by decide +kernel
theorem dX12_entryOf_15 : decode cX12_entryOf 15 = .ok (.iaload, 1) := by decide +kernel
theorem dX12_entryOf_16 : decode cX12_entryOf 16 = .ok (.iload_n 1, 1) := by decide +kernel
theorem dX12_entryOf_17 : decode cX12_entryOf 17 = .ok (.if_icmp .ne 15, 3) := by decide +kernel
theorem dX12_entryOf_20 : decode cX12_entryOf 20 = .ok (.aload_n 0, 1) := by decide +kernel
theorem dX12_entryOf_21 : decode cX12_entryOf 21 = .ok (.getfield 169, 3) := by decide +kernel
theorem dX12_entryOf_24 : decode cX12_entryOf 24 = .ok (.iload_n 3, 1) := by decide +kernel
theorem dX12_entryOf_25 : decode cX12_entryOf 25 = .ok (.iaload, 1) := by decide +kernel
theorem dX12_entryOf_26 : decode cX12_entryOf 26 = .ok (.iload_n 2, 1) := by decide +kernel
theorem dX12_entryOf_27 : decode cX12_entryOf 27 = .ok (.if_icmp .ne 5, 3) := by decide +kernel
theorem dX12_entryOf_30 : decode cX12_entryOf 30 = .ok (.iload_n 3, 1) := by decide +kernel
theorem dX12_entryOf_31 : decode cX12_entryOf 31 = .ok (.ireturn, 1) := by decide +kernel
theorem dX12_entryOf_32 : decode cX12_entryOf 32 = .ok (.iinc 3 1, 3) := by decide +kernel
theorem dX12_entryOf_35 : decode cX12_entryOf 35 = .ok (.goto (-33), 3) := by decide +kernel
theorem dX12_entryOf_38 : decode cX12_entryOf 38 = .ok (.iconst (-1), 1) := by decide +kernel
theorem dX12_entryOf_39 : decode cX12_entryOf 39 = .ok (.ireturn, 1) := by decide +kernel
theorem dX12_push_0 : decode cX12_push 0 = .ok (.aload_n 0, 1) := by decide +kernel
theorem dX12_push_1 : decode cX12_push 1 = .ok (.getfield 82, 3) := by decide +kernel
theorem dX12_push_4 : decode cX12_push 4 = .ok (.aload_n 0, 1) := by decide +kernel
theorem dX12_push_5 : decode cX12_push 5 = .ok (.getfield 574, 3) := by decide +kernel
theorem dX12_push_8 : decode cX12_push 8 = .ok (.iload_n 1, 1) := by decide +kernel
theorem dX12_push_9 : decode cX12_push 9 = .ok (.i2b, 1) := by decide +kernel
theorem dX12_push_10 : decode cX12_push 10 = .ok (.bastore, 1) := by decide +kernel
theorem dX12_push_11 : decode cX12_push 11 = .ok (.aload_n 0, 1) := by decide +kernel
theorem dX12_push_12 : decode cX12_push 12 = .ok (.getfield 85, 3) := by decide +kernel
theorem dX12_push_15 : decode cX12_push 15 = .ok (.aload_n 0, 1) := by decide +kernel
theorem dX12_push_16 : decode cX12_push 16 = .ok (.getfield 574, 3) := by decide +kernel
theorem dX12_push_19 : decode cX12_push 19 = .ok (.lload_n 2, 1) := by decide +kernel
theorem dX12_push_20 : decode cX12_push 20 = .ok (.lastore, 1) := by decide +kernel
theorem dX12_push_21 : decode cX12_push 21 = .ok (.aload_n 0, 1) := by decide +kernel
theorem dX12_push_22 : decode cX12_push 22 = .ok (.dup, 1) := by decide +kernel
theorem dX12_push_23 : decode cX12_push 23 = .ok (.getfield 574, 3) := by decide +kernel
theorem dX12_push_26 : decode cX12_push 26 = .ok (.iconst 1, 1) := by decide +kernel
theorem dX12_push_27 : decode cX12_push 27 = .ok (.iadd, 1) := by decide +kernel
theorem dX12_push_28 : decode cX12_push 28 = .ok (.putfield 574, 3) := by decide +kernel
theorem dX12_push_31 : decode cX12_push 31 = .ok (.return_, 1) := by decide +kernel
theorem dX12_pushNumber_0 : decode cX12_pushNumber 0 = .ok (.aload_n 0, 1) := by decide +kernel
theorem dX12_pushNumber_1 : decode cX12_pushNumber 1 = .ok (.iconst 1, 1) := by decide +kernel
theorem dX12_pushNumber_2 : decode cX12_pushNumber 2 = .ok (.iload_n 1, 1) := by decide +kernel
theorem dX12_pushNumber_3 : decode cX12_pushNumber 3 = .ok (.iconst 3, 1) := by decide +kernel
theorem dX12_pushNumber_4 : decode cX12_pushNumber 4 = .ok (.if_icmp .ne 11, 3) := by decide +kernel
theorem dX12_pushNumber_7 : decode cX12_pushNumber 7 = .ok (.lload_n 2, 1) := by decide +kernel
theorem dX12_pushNumber_8 : decode cX12_pushNumber 8 = .ok (.l2d, 1) := by decide +kernel
theorem dX12_pushNumber_9 : decode cX12_pushNumber 9 = .ok (.invokestatic 283, 3) := by decide +kernel
theorem dX12_pushNumber_12 : decode cX12_pushNumber 12 = .ok (.goto 4, 3) := by decide +kernel
theorem dX12_pushNumber_15 : decode cX12_pushNumber 15 = .ok (.lload_n 2, 1) := by decide +kernel
theorem dX12_pushNumber_16 : decode cX12_pushNumber 16 = .ok (.invokevirtual 577, 3) := by decide +kernel
theorem dX12_pushNumber_19 : decode cX12_pushNumber 19 = .ok (.return_, 1) := by decide +kernel
theorem dX12_top_0 : decode cX12_top 0 = .ok (.aload_n 0, 1) := by decide +kernel
theorem dX12_top_1 : decode cX12_top 1 = .ok (.getfield 82, 3) := by decide +kernel
theorem dX12_top_4 : decode cX12_top 4 = .ok (.aload_n 0, 1) := by decide +kernel
theorem dX12_top_5 : decode cX12_top 5 = .ok (.getfield 574, 3) := by decide +kernel
theorem dX12_top_8 : decode cX12_top 8 = .ok (.iconst 1, 1) := by decide +kernel
theorem dX12_top_9 : decode cX12_top 9 = .ok (.isub, 1) := by decide +kernel
theorem dX12_top_10 : decode cX12_top 10 = .ok (.baload, 1) := by decide +kernel
theorem dX12_top_11 : decode cX12_top 11 = .ok (.ireturn, 1) := by decide +kernel
theorem dX12_now_0 : decode cX12_now 0 = .ok (.aload_n 0, 1) := by decide +kernel
theorem dX12_now_1 : decode cX12_now 1 = .ok (.getfield 57, 3) := by decide +kernel
theorem dX12_now_4 : decode cX12_now 4 = .ok (.aload_n 0, 1) := by decide +kernel
theorem dX12_now_5 : decode cX12_now 5 = .ok (.getfield 580, 3) := by decide +kernel
theorem dX12_now_8 : decode cX12_now 8 = .ok (.iconst 1, 1) := by decide +kernel
theorem dX12_now_9 : decode cX12_now 9 = .ok (.isub, 1) := by decide +kernel
theorem dX12_now_10 : decode cX12_now 10 = .ok (.iaload, 1) := by decide +kernel
theorem dX12_now_11 : decode cX12_now 11 = .ok (.ireturn, 1) := by decide +kernel
theorem dX12_step_0 : decode cX12_step 0 = .ok (.aload_n 0, 1) := by decide +kernel
theorem dX12_step_1 : decode cX12_step 1 = .ok (.getfield 583, 3) := by decide +kernel
theorem dX12_step_4 : decode cX12_step 4 = .ok (.sipush 5000, 3) := by decide +kernel
theorem dX12_step_7 : decode cX12_step 7 = .ok (.if_icmp .eq 13, 3) := by decide +kernel
theorem dX12_step_10 : decode cX12_step 10 = .ok (.aload_n 0, 1) := by decide +kernel
theorem dX12_step_11 : decode cX12_step 11 = .ok (.getfield 586, 3) := by decide +kernel
theorem dX12_step_14 : decode cX12_step 14 = .ok (.ldc_w 589, 3) := by decide +kernel
theorem dX12_step_17 : decode cX12_step 17 = .ok (.if_icmp .ne 15, 3) := by decide +kernel
theorem dX12_step_20 : decode cX12_step 20 = .ok (.aload_n 0, 1) := by decide +kernel
theorem dX12_step_21 : decode cX12_step 21 = .ok (.iconst 2, 1) := by decide +kernel
theorem dX12_step_22 : decode cX12_step 22 = .ok (.putfield 590, 3) := by decide +kernel
theorem dX12_step_25 : decode cX12_step 25 = .ok (.aload_n 0, 1) := by decide +kernel
theorem dX12_step_26 : decode cX12_step 26 = .ok (.iconst 1, 1) := by decide +kernel
theorem dX12_step_27 : decode cX12_step 27 = .ok (.putfield 593, 3) := by decide +kernel
theorem dX12_step_30 : decode cX12_step 30 = .ok (.iconst 0, 1) := by decide +kernel
theorem dX12_step_31 : decode cX12_step 31 = .ok (.ireturn, 1) := by decide +kernel
theorem dX12_step_32 : decode cX12_step 32 = .ok (.aload_n 0, 1) := by decide +kernel
theorem dX12_step_33 : decode cX12_step 33 = .ok (.dup, 1) := by decide +kernel
theorem dX12_step_34 : decode cX12_step 34 = .ok (.getfield 583, 3) := by decide +kernel
theorem dX12_step_37 : decode cX12_step 37 = .ok (.iconst 1, 1) := by decide +kernel
theorem dX12_step_38 : decode cX12_step 38 = .ok (.iadd, 1) := by decide +kernel
theorem dX12_step_39 : decode cX12_step 39 = .ok (.putfield 583, 3) := by decide +kernel
theorem dX12_step_42 : decode cX12_step 42 = .ok (.aload_n 0, 1) := by decide +kernel
theorem dX12_step_43 : decode cX12_step 43 = .ok (.dup, 1) := by decide +kernel
theorem dX12_step_44 : decode cX12_step 44 = .ok (.getfield 586, 3) := by decide +kernel
theorem dX12_step_47 : decode cX12_step 47 = .ok (.iconst 1, 1) := by decide +kernel
theorem dX12_step_48 : decode cX12_step 48 = .ok (.iadd, 1) := by decide +kernel
theorem dX12_step_49 : decode cX12_step 49 = .ok (.putfield 586, 3) := by decide +kernel
theorem dX12_step_52 : decode cX12_step 52 = .ok (.iconst 1, 1) := by decide +kernel
theorem dX12_step_53 : decode cX12_step 53 = .ok (.ireturn, 1) := by decide +kernel
theorem dX12_block__0 : decode cX12_block_ 0 = .ok (.aload_n 0, 1) := by decide +kernel
theorem dX12_block__1 : decode cX12_block_ 1 = .ok (.getfield 88, 3) := by decide +kernel
theorem dX12_block__4 : decode cX12_block_ 4 = .ok (.aload_n 0, 1) := by decide +kernel
theorem dX12_block__5 : decode cX12_block_ 5 = .ok (.getfield 596, 3) := by decide +kernel
theorem dX12_block__8 : decode cX12_block_ 8 = .ok (.iload_n 1, 1) := by decide +kernel
theorem dX12_block__9 : decode cX12_block_ 9 = .ok (.iastore, 1) := by decide +kernel
theorem dX12_block__10 : decode cX12_block_ 10 = .ok (.aload_n 0, 1) := by decide +kernel
theorem dX12_block__11 : decode cX12_block_ 11 = .ok (.getfield 91, 3) := by decide +kernel
theorem dX12_block__14 : decode cX12_block_ 14 = .ok (.aload_n 0, 1) := by decide +kernel
theorem dX12_block__15 : decode cX12_block_ 15 = .ok (.getfield 596, 3) := by decide +kernel
theorem dX12_block__18 : decode cX12_block_ 18 = .ok (.iload_n 2, 1) := by decide +kernel
theorem dX12_block__19 : decode cX12_block_ 19 = .ok (.iastore, 1) := by decide +kernel
theorem dX12_block__20 : decode cX12_block_ 20 = .ok (.aload_n 0, 1) := by decide +kernel
theorem dX12_block__21 : decode cX12_block_ 21 = .ok (.getfield 94, 3) := by decide +kernel
theorem dX12_block__24 : decode cX12_block_ 24 = .ok (.aload_n 0, 1) := by decide +kernel
theorem dX12_block__25 : decode cX12_block_ 25 = .ok (.getfield 596, 3) := by decide +kernel
theorem dX12_block__28 : decode cX12_block_ 28 = .ok (.iload_n 3, 1) := by decide +kernel
theorem dX12_block__29 : decode cX12_block_ 29 = .ok (.iastore, 1) := by decide +kernel
theorem dX12_block__30 : decode cX12_block_ 30 = .ok (.aload_n 0, 1) := by decide +kernel
theorem dX12_block__31 : decode cX12_block_ 31 = .ok (.getfield 97, 3) := by decide +kernel
theorem dX12_block__34 : decode cX12_block_ 34 = .ok (.aload_n 0, 1) := by decide +kernel
theorem dX12_block__35 : decode cX12_block_ 35 = .ok (.getfield 596, 3) := by decide +kernel
theorem dX12_block__38 : decode cX12_block_ 38 = .ok (.aload_n 0, 1) := by decide +kernel
theorem dX12_block__39 : decode cX12_block_ 39 = .ok (.getfield 574, 3) := by decide +kernel
theorem dX12_block__42 : decode cX12_block_ 42 = .ok (.iastore, 1) := by decide +kernel
theorem dX12_block__43 : decode cX12_block_ 43 = .ok (.aload_n 0, 1) := by decide +kernel
theorem dX12_block__44 : decode cX12_block_ 44 = .ok (.getfield 100, 3) := by decide +kernel
theorem dX12_block__47 : decode cX12_block_ 47 = .ok (.aload_n 0, 1) := by decide +kernel
theorem dX12_block__48 : decode cX12_block_ 48 = .ok (.getfield 596, 3) := by decide +kernel
theorem dX12_block__51 : decode cX12_block_ 51 = .ok (.iconst 0, 1) := by decide +kernel
theorem dX12_block__52 : decode cX12_block_ 52 = .ok (.iastore, 1) := by decide +kernel
theorem dX12_block__53 : decode cX12_block_ 53 = .ok (.aload_n 0, 1) := by decide +kernel
theorem dX12_block__54 : decode cX12_block_ 54 = .ok (.dup, 1) := by decide +kernel
theorem dX12_block__55 : decode cX12_block_ 55 = .ok (.getfield 596, 3) := by decide +kernel
theorem dX12_block__58 : decode cX12_block_ 58 = .ok (.iconst 1, 1) := by decide +kernel
theorem dX12_block__59 : decode cX12_block_ 59 = .ok (.iadd, 1) := by decide +kernel
theorem dX12_block__60 : decode cX12_block_ 60 = .ok (.putfield 596, 3) := by decide +kernel
theorem dX12_block__63 : decode cX12_block_ 63 = .ok (.return_, 1) := by decide +kernel
theorem dX12_newFailure_0 : decode cX12_newFailure 0 = .ok (.aload_n 0, 1) := by decide +kernel
theorem dX12_newFailure_1 : decode cX12_newFailure 1 = .ok (.getfield 599, 3) := by decide +kernel
theorem dX12_newFailure_4 : decode cX12_newFailure 4 = .ok (.istore 6, 2) := by decide +kernel
theorem dX12_newFailure_6 : decode cX12_newFailure 6 = .ok (.aload_n 0, 1) := by decide +kernel
theorem dX12_newFailure_7 : decode cX12_newFailure 7 = .ok (.dup, 1) := by decide +kernel
theorem dX12_newFailure_8 : decode cX12_newFailure 8 = .ok (.getfield 599, 3) := by decide +kernel
theorem dX12_newFailure_11 : decode cX12_newFailure 11 = .ok (.iconst 1, 1) := by decide +kernel
theorem dX12_newFailure_12 : decode cX12_newFailure 12 = .ok (.iadd, 1) := by decide +kernel
theorem dX12_newFailure_13 : decode cX12_newFailure 13 = .ok (.putfield 599, 3) := by decide +kernel
theorem dX12_newFailure_16 : decode cX12_newFailure 16 = .ok (.aload_n 0, 1) := by decide +kernel
theorem dX12_newFailure_17 : decode cX12_newFailure 17 = .ok (.getfield 124, 3) := by decide +kernel
theorem dX12_newFailure_20 : decode cX12_newFailure 20 = .ok (.iload 6, 2) := by decide +kernel
theorem dX12_newFailure_22 : decode cX12_newFailure 22 = .ok (.iload_n 1, 1) := by decide +kernel
theorem dX12_newFailure_23 : decode cX12_newFailure 23 = .ok (.iastore, 1) := by decide +kernel
theorem dX12_newFailure_24 : decode cX12_newFailure 24 = .ok (.aload_n 0, 1) := by decide +kernel
theorem dX12_newFailure_25 : decode cX12_newFailure 25 = .ok (.getfield 127, 3) := by decide +kernel
theorem dX12_newFailure_28 : decode cX12_newFailure 28 = .ok (.iload 6, 2) := by decide +kernel
theorem dX12_newFailure_30 : decode cX12_newFailure 30 = .ok (.iload_n 2, 1) := by decide +kernel
theorem dX12_newFailure_31 : decode cX12_newFailure 31 = .ok (.iastore, 1) := by decide +kernel
theorem dX12_newFailure_32 : decode cX12_newFailure 32 = .ok (.aload_n 0, 1) := by decide +kernel
theorem dX12_newFailure_33 : decode cX12_newFailure 33 = .ok (.getfield 130, 3) := by decide +kernel
theorem dX12_newFailure_36 : decode cX12_newFailure 36 = .ok (.iload 6, 2) := by decide +kernel
theorem dX12_newFailure_38 : decode cX12_newFailure 38 = .ok (.iload_n 3, 1) := by decide +kernel
theorem dX12_newFailure_39 : decode cX12_newFailure 39 = .ok (.i2b, 1) := by decide +kernel
theorem dX12_newFailure_40 : decode cX12_newFailure 40 = .ok (.bastore, 1) := by decide +kernel
theorem dX12_newFailure_41 : decode cX12_newFailure 41 = .ok (.aload_n 0, 1) := by decide +kernel
theorem dX12_newFailure_42 : decode cX12_newFailure 42 = .ok (.getfield 133, 3) := by decide +kernel
theorem dX12_newFailure_45 : decode cX12_newFailure 45 = .ok (.iload 6, 2) := by decide +kernel
theorem dX12_newFailure_47 : decode cX12_newFailure 47 = .ok (.lload 4, 2) := by decide +kernel
theorem dX12_newFailure_49 : decode cX12_newFailure 49 = .ok (.lastore, 1) := by decide +kernel
theorem dX12_newFailure_50 : decode cX12_newFailure 50 = .ok (.aload_n 0, 1) := by decide +kernel
theorem dX12_newFailure_51 : decode cX12_newFailure 51 = .ok (.getfield 136, 3) := by decide +kernel
theorem dX12_newFailure_54 : decode cX12_newFailure 54 = .ok (.iload 6, 2) := by decide +kernel
theorem dX12_newFailure_56 : decode cX12_newFailure 56 = .ok (.aload_n 0, 1) := by decide +kernel
theorem dX12_newFailure_57 : decode cX12_newFailure 57 = .ok (.getfield 66, 3) := by decide +kernel
theorem dX12_newFailure_60 : decode cX12_newFailure 60 = .ok (.aload_n 0, 1) := by decide +kernel
theorem dX12_newFailure_61 : decode cX12_newFailure 61 = .ok (.getfield 580, 3) := by decide +kernel
theorem dX12_newFailure_64 : decode cX12_newFailure 64 = .ok (.iconst 1, 1) := by decide +kernel
theorem dX12_newFailure_65 : decode cX12_newFailure 65 = .ok (.isub, 1) := by decide +kernel
theorem dX12_newFailure_66 : decode cX12_newFailure 66 = .ok (.iaload, 1) := by decide +kernel
theorem dX12_newFailure_67 : decode cX12_newFailure 67 = .ok (.iastore, 1) := by decide +kernel
theorem dX12_newFailure_68 : decode cX12_newFailure 68 = .ok (.aload_n 0, 1) := by decide +kernel
theorem dX12_newFailure_69 : decode cX12_newFailure 69 = .ok (.getfield 139, 3) := by decide +kernel
theorem dX12_newFailure_72 : decode cX12_newFailure 72 = .ok (.iload 6, 2) := by decide +kernel
theorem dX12_newFailure_74 : decode cX12_newFailure 74 = .ok (.aload_n 0, 1) := by decide +kernel
theorem dX12_newFailure_75 : decode cX12_newFailure 75 = .ok (.getfield 60, 3) := by decide +kernel
theorem dX12_newFailure_78 : decode cX12_newFailure 78 = .ok (.aload_n 0, 1) := by decide +kernel
theorem dX12_newFailure_79 : decode cX12_newFailure 79 = .ok (.getfield 580, 3) := by decide +kernel
theorem dX12_newFailure_82 : decode cX12_newFailure 82 = .ok (.iconst 1, 1) := by decide +kernel
theorem dX12_newFailure_83 : decode cX12_newFailure 83 = .ok (.isub, 1) := by decide +kernel
theorem dX12_newFailure_84 : decode cX12_newFailure 84 = .ok (.iaload, 1) := by decide +kernel
theorem dX12_newFailure_85 : decode cX12_newFailure 85 = .ok (.iastore, 1) := by decide +kernel
theorem dX12_newFailure_86 : decode cX12_newFailure 86 = .ok (.aload_n 0, 1) := by decide +kernel
theorem dX12_newFailure_87 : decode cX12_newFailure 87 = .ok (.getfield 142, 3) := by decide +kernel
theorem dX12_newFailure_90 : decode cX12_newFailure 90 = .ok (.iload 6, 2) := by decide +kernel
theorem dX12_newFailure_92 : decode cX12_newFailure 92 = .ok (.iconst 0, 1) := by decide +kernel
theorem dX12_newFailure_93 : decode cX12_newFailure 93 = .ok (.iastore, 1) := by decide +kernel
theorem dX12_newFailure_94 : decode cX12_newFailure 94 = .ok (.aload_n 0, 1) := by decide +kernel
theorem dX12_newFailure_95 : decode cX12_newFailure 95 = .ok (.getfield 145, 3) := by decide +kernel
theorem dX12_newFailure_98 : decode cX12_newFailure 98 = .ok (.iload 6, 2) := by decide +kernel
theorem dX12_newFailure_100 : decode cX12_newFailure 100 = .ok (.iconst (-1), 1) := by decide +kernel
theorem dX12_newFailure_101 : decode cX12_newFailure 101 = .ok (.iastore, 1) := by decide +kernel
theorem dX12_newFailure_102 : decode cX12_newFailure 102 = .ok (.aload_n 0, 1) := by decide +kernel
theorem dX12_newFailure_103 : decode cX12_newFailure 103 = .ok (.getfield 148, 3) := by decide +kernel
theorem dX12_newFailure_106 : decode cX12_newFailure 106 = .ok (.iload 6, 2) := by decide +kernel
theorem dX12_newFailure_108 : decode cX12_newFailure 108 = .ok (.iconst (-1), 1) := by decide +kernel
theorem dX12_newFailure_109 : decode cX12_newFailure 109 = .ok (.iastore, 1) := by decide +kernel
theorem dX12_newFailure_110 : decode cX12_newFailure 110 = .ok (.iload 6, 2) := by decide +kernel
theorem dX12_newFailure_112 : decode cX12_newFailure 112 = .ok (.ireturn, 1) := by decide +kernel
theorem dX12_lies_0 : decode cX12_lies 0 = .ok (.iload_n 1, 1) := by decide +kernel
theorem dX12_lies_1 : decode cX12_lies 1 = .ok (.iconst 2, 1) := by decide +kernel
theorem dX12_lies_2 : decode cX12_lies 2 = .ok (.if_icmp .eq 8, 3) := by decide +kernel
theorem dX12_lies_5 : decode cX12_lies 5 = .ok (.iload_n 2, 1) := by decide +kernel
theorem dX12_lies_6 : decode cX12_lies 6 = .ok (.iconst 4, 1) := by decide +kernel
theorem dX12_lies_7 : decode cX12_lies 7 = .ok (.if_icmp .ne 8, 3) := by decide +kernel
theorem dX12_lies_10 : decode cX12_lies 10 = .ok (.lload_n 3, 1) := by decide +kernel
theorem dX12_lies_11 : decode cX12_lies 11 = .ok (.l2i, 1) := by decide +kernel
theorem dX12_lies_12 : decode cX12_lies 12 = .ok (.goto 4, 3) := by decide +kernel
theorem dX12_lies_15 : decode cX12_lies 15 = .ok (.iconst (-1), 1) := by decide +kernel
theorem dX12_lies_16 : decode cX12_lies 16 = .ok (.istore 6, 2) := by decide +kernel
theorem dX12_lies_18 : decode cX12_lies 18 = .ok (.aload_n 0, 1) := by decide +kernel
theorem dX12_lies_19 : decode cX12_lies 19 = .ok (.getfield 100, 3) := by decide +kernel
theorem dX12_lies_22 : decode cX12_lies 22 = .ok (.iload 5, 2) := by decide +kernel
theorem dX12_lies_24 : decode cX12_lies 24 = .ok (.iaload, 1) := by decide +kernel
theorem dX12_lies_25 : decode cX12_lies 25 = .ok (.iconst 2, 1) := by decide +kernel
theorem dX12_lies_26 : decode cX12_lies 26 = .ok (.if_icmp .eq 25, 3) := by decide +kernel
theorem dX12_lies_29 : decode cX12_lies 29 = .ok (.aload_n 0, 1) := by decide +kernel
theorem dX12_lies_30 : decode cX12_lies 30 = .ok (.getfield 100, 3) := by decide +kernel
theorem dX12_lies_33 : decode cX12_lies 33 = .ok (.iload 5, 2) := by decide +kernel
theorem dX12_lies_35 : decode cX12_lies 35 = .ok (.iaload, 1) := by decide +kernel
theorem dX12_lies_36 : decode cX12_lies 36 = .ok (.iconst 1, 1) := by decide +kernel
theorem dX12_lies_37 : decode cX12_lies 37 = .ok (.if_icmp .ne 25, 3) := by decide +kernel
theorem dX12_lies_40 : decode cX12_lies 40 = .ok (.aload_n 0, 1) := by decide +kernel
theorem dX12_lies_41 : decode cX12_lies 41 = .ok (.getfield 103, 3) := by decide +kernel
theorem dX12_lies_44 : decode cX12_lies 44 = .ok (.iload 5, 2) := by decide +kernel
theorem dX12_lies_46 : decode cX12_lies 46 = .ok (.iaload, 1) := by decide +kernel
theorem dX12_lies_47 : decode cX12_lies 47 = .ok (.iconst 4, 1) := by decide +kernel
theorem dX12_lies_48 : decode cX12_lies 48 = .ok (.if_icmp .ne 14, 3) := by decide +kernel
theorem dX12_lies_51 : decode cX12_lies 51 = .ok (.aload_n 0, 1) := by decide +kernel
theorem dX12_lies_52 : decode cX12_lies 52 = .ok (.getfield 106, 3) := by decide +kernel
theorem dX12_lies_55 : decode cX12_lies 55 = .ok (.iload 5, 2) := by decide +kernel
theorem dX12_lies_57 : decode cX12_lies 57 = .ok (.laload, 1) := by decide +kernel
theorem dX12_lies_58 : decode cX12_lies 58 = .ok (.l2i, 1) := by decide +kernel
theorem dX12_lies_59 : decode cX12_lies 59 = .ok (.goto 4, 3) := by decide +kernel
theorem dX12_lies_62 : decode cX12_lies 62 = .ok (.iconst (-1), 1) := by decide +kernel
theorem dX12_lies_63 : decode cX12_lies 63 = .ok (.istore 7, 2) := by decide +kernel
theorem dX12_lies_65 : decode cX12_lies 65 = .ok (.iload 6, 2) := by decide +kernel
theorem dX12_lies_67 : decode cX12_lies 67 = .ok (.iconst (-1), 1) := by decide +kernel
theorem dX12_lies_68 : decode cX12_lies 68 = .ok (.if_icmp .eq 16, 3) := by decide +kernel
theorem dX12_lies_71 : decode cX12_lies 71 = .ok (.iload 7, 2) := by decide +kernel
theorem dX12_lies_73 : decode cX12_lies 73 = .ok (.iconst (-1), 1) := by decide +kernel
theorem dX12_lies_74 : decode cX12_lies 74 = .ok (.if_icmp .eq 10, 3) := by decide +kernel
theorem dX12_lies_77 : decode cX12_lies 77 = .ok (.iload 6, 2) := by decide +kernel
theorem dX12_lies_79 : decode cX12_lies 79 = .ok (.iload 7, 2) := by decide +kernel
theorem dX12_lies_81 : decode cX12_lies 81 = .ok (.if_icmp .ne 4, 3) := by decide +kernel
theorem dX12_lies_84 : decode cX12_lies 84 = .ok (.return_, 1) := by decide +kernel
theorem dX12_lies_85 : decode cX12_lies 85 = .ok (.aload_n 0, 1) := by decide +kernel
theorem dX12_lies_86 : decode cX12_lies 86 = .ok (.getfield 151, 3) := by decide +kernel
theorem dX12_lies_89 : decode cX12_lies 89 = .ok (.aload_n 0, 1) := by decide +kernel
theorem dX12_lies_90 : decode cX12_lies 90 = .ok (.getfield 648, 3) := by decide +kernel
theorem dX12_lies_93 : decode cX12_lies 93 = .ok (.iload 7, 2) := by decide +kernel
theorem dX12_lies_95 : decode cX12_lies 95 = .ok (.iastore, 1) := by decide +kernel
theorem dX12_lies_96 : decode cX12_lies 96 = .ok (.aload_n 0, 1) := by decide +kernel
theorem dX12_lies_97 : decode cX12_lies 97 = .ok (.getfield 154, 3) := by decide +kernel
theorem dX12_lies_100 : decode cX12_lies 100 = .ok (.aload_n 0, 1) := by decide +kernel
theorem dX12_lies_101 : decode cX12_lies 101 = .ok (.getfield 648, 3) := by decide +kernel
theorem dX12_lies_104 : decode cX12_lies 104 = .ok (.aload_n 0, 1) := by decide +kernel
theorem dX12_lies_105 : decode cX12_lies 105 = .ok (.getfield 148, 3) := by decide +kernel
theorem dX12_lies_108 : decode cX12_lies 108 = .ok (.iload 6, 2) := by decide +kernel
theorem dX12_lies_110 : decode cX12_lies 110 = .ok (.iaload, 1) := by decide +kernel
theorem dX12_lies_111 : decode cX12_lies 111 = .ok (.iastore, 1) := by decide +kernel
theorem dX12_lies_112 : decode cX12_lies 112 = .ok (.aload_n 0, 1) := by decide +kernel
theorem dX12_lies_113 : decode cX12_lies 113 = .ok (.getfield 148, 3) := by decide +kernel
theorem dX12_lies_116 : decode cX12_lies 116 = .ok (.iload 6, 2) := by decide +kernel
theorem dX12_lies_118 : decode cX12_lies 118 = .ok (.aload_n 0, 1) := by decide +kernel
theorem dX12_lies_119 : decode cX12_lies 119 = .ok (.getfield 648, 3) := by decide +kernel
theorem dX12_lies_122 : decode cX12_lies 122 = .ok (.iastore, 1) := by decide +kernel
theorem dX12_lies_123 : decode cX12_lies 123 = .ok (.aload_n 0, 1) := by decide +kernel
theorem dX12_lies_124 : decode cX12_lies 124 = .ok (.dup, 1) := by decide +kernel
theorem dX12_lies_125 : decode cX12_lies 125 = .ok (.getfield 648, 3) := by decide +kernel
theorem dX12_lies_128 : decode cX12_lies 128 = .ok (.iconst 1, 1) := by decide +kernel
theorem dX12_lies_129 : decode cX12_lies 129 = .ok (.iadd, 1) := by decide +kernel
theorem dX12_lies_130 : decode cX12_lies 130 = .ok (.putfield 648, 3) := by decide +kernel
theorem dX12_lies_133 : decode cX12_lies 133 = .ok (.return_, 1) := by decide +kernel
theorem dX12_isUnder_0 : decode cX12_isUnder 0 = .ok (.iload_n 1, 1) := by decide +kernel
theorem dX12_isUnder_1 : decode cX12_isUnder 1 = .ok (.istore_n 3, 1) := by decide +kernel
theorem dX12_isUnder_2 : decode cX12_isUnder 2 = .ok (.iload_n 3, 1) := by decide +kernel
theorem dX12_isUnder_3 : decode cX12_isUnder 3 = .ok (.iconst (-1), 1) := by decide +kernel
theorem dX12_isUnder_4 : decode cX12_isUnder 4 = .ok (.if_icmp .eq 18, 3) := by decide +kernel
theorem dX12_isUnder_7 : decode cX12_isUnder 7 = .ok (.iload_n 3, 1) := by decide +kernel
theorem dX12_isUnder_8 : decode cX12_isUnder 8 = .ok (.iload_n 2, 1) := by decide +kernel
theorem dX12_isUnder_9 : decode cX12_isUnder 9 = .ok (.if_icmp .eq 13, 3) := by decide +kernel
theorem dX12_isUnder_12 : decode cX12_isUnder 12 = .ok (.aload_n 0, 1) := by decide +kernel
theorem dX12_isUnder_13 : decode cX12_isUnder 13 = .ok (.getfield 17, 3) := by decide +kernel
theorem dX12_isUnder_16 : decode cX12_isUnder 16 = .ok (.iload_n 3, 1) := by decide +kernel
theorem dX12_isUnder_17 : decode cX12_isUnder 17 = .ok (.iaload, 1) := by decide +kernel
theorem dX12_isUnder_18 : decode cX12_isUnder 18 = .ok (.istore_n 3, 1) := by decide +kernel
theorem dX12_isUnder_19 : decode cX12_isUnder 19 = .ok (.goto (-17), 3) := by decide +kernel
theorem dX12_isUnder_22 : decode cX12_isUnder 22 = .ok (.iload_n 3, 1) := by decide +kernel
theorem dX12_isUnder_23 : decode cX12_isUnder 23 = .ok (.iload_n 2, 1) := by decide +kernel
theorem dX12_isUnder_24 : decode cX12_isUnder 24 = .ok (.if_icmp .ne 7, 3) := by decide +kernel
theorem dX12_isUnder_27 : decode cX12_isUnder 27 = .ok (.iconst 1, 1) := by decide +kernel
theorem dX12_isUnder_28 : decode cX12_isUnder 28 = .ok (.goto 4, 3) := by decide +kernel
theorem dX12_isUnder_31 : decode cX12_isUnder 31 = .ok (.iconst 0, 1) := by decide +kernel
theorem dX12_isUnder_32 : decode cX12_isUnder 32 = .ok (.ireturn, 1) := by decide +kernel
theorem dX12_puts_0 : decode cX12_puts 0 = .ok (.aload_n 0, 1) := by decide +kernel
theorem dX12_puts_1 : decode cX12_puts 1 = .ok (.getfield 75, 3) := by decide +kernel
theorem dX12_puts_4 : decode cX12_puts 4 = .ok (.sipush 320, 3) := by decide +kernel
theorem dX12_puts_7 : decode cX12_puts 7 = .ok (.aload_n 0, 1) := by decide +kernel
theorem dX12_puts_8 : decode cX12_puts 8 = .ok (.getfield 580, 3) := by decide +kernel
theorem dX12_puts_11 : decode cX12_puts 11 = .ok (.iconst 1, 1) := by decide +kernel
theorem dX12_puts_12 : decode cX12_puts 12 = .ok (.isub, 1) := by decide +kernel
theorem dX12_puts_13 : decode cX12_puts 13 = .ok (.imul, 1) := by decide +kernel
theorem dX12_puts_14 : decode cX12_puts 14 = .ok (.iload_n 1, 1) := by decide +kernel
theorem dX12_puts_15 : decode cX12_puts 15 = .ok (.iadd, 1) := by decide +kernel
theorem dX12_puts_16 : decode cX12_puts 16 = .ok (.iload_n 2, 1) := by decide +kernel
theorem dX12_puts_17 : decode cX12_puts 17 = .ok (.i2b, 1) := by decide +kernel
theorem dX12_puts_18 : decode cX12_puts 18 = .ok (.bastore, 1) := by decide +kernel
theorem dX12_puts_19 : decode cX12_puts 19 = .ok (.aload_n 0, 1) := by decide +kernel
theorem dX12_puts_20 : decode cX12_puts 20 = .ok (.getfield 79, 3) := by decide +kernel
theorem dX12_puts_23 : decode cX12_puts 23 = .ok (.sipush 320, 3) := by decide +kernel
theorem dX12_puts_26 : decode cX12_puts 26 = .ok (.aload_n 0, 1) := by decide +kernel
theorem dX12_puts_27 : decode cX12_puts 27 = .ok (.getfield 580, 3) := by decide +kernel
theorem dX12_puts_30 : decode cX12_puts 30 = .ok (.iconst 1, 1) := by decide +kernel
theorem dX12_puts_31 : decode cX12_puts 31 = .ok (.isub, 1) := by decide +kernel
theorem dX12_puts_32 : decode cX12_puts 32 = .ok (.imul, 1) := by decide +kernel
theorem dX12_puts_33 : decode cX12_puts 33 = .ok (.iload_n 1, 1) := by decide +kernel
theorem dX12_puts_34 : decode cX12_puts 34 = .ok (.iadd, 1) := by decide +kernel
theorem dX12_puts_35 : decode cX12_puts 35 = .ok (.lload_n 3, 1) := by decide +kernel
theorem dX12_puts_36 : decode cX12_puts 36 = .ok (.lastore, 1) := by decide +kernel
theorem dX12_puts_37 : decode cX12_puts 37 = .ok (.return_, 1) := by decide +kernel
theorem dX12_leavesFrame_0 : decode cX12_leavesFrame 0 = .ok (.aload_n 0, 1) := by decide +kernel
theorem dX12_leavesFrame_1 : decode cX12_leavesFrame 1 = .ok (.dup, 1) := by decide +kernel
theorem dX12_leavesFrame_2 : decode cX12_leavesFrame 2 = .ok (.getfield 580, 3) := by decide +kernel
theorem dX12_leavesFrame_5 : decode cX12_leavesFrame 5 = .ok (.iconst 1, 1) := by decide +kernel
theorem dX12_leavesFrame_6 : decode cX12_leavesFrame 6 = .ok (.isub, 1) := by decide +kernel
theorem dX12_leavesFrame_7 : decode cX12_leavesFrame 7 = .ok (.putfield 580, 3) := by decide +kernel
theorem dX12_leavesFrame_10 : decode cX12_leavesFrame 10 = .ok (.aload_n 0, 1) := by decide +kernel
theorem dX12_leavesFrame_11 : decode cX12_leavesFrame 11 = .ok (.aload_n 0, 1) := by decide +kernel
theorem dX12_leavesFrame_12 : decode cX12_leavesFrame 12 = .ok (.getfield 69, 3) := by decide +kernel
theorem dX12_leavesFrame_15 : decode cX12_leavesFrame 15 = .ok (.aload_n 0, 1) := by decide +kernel
theorem dX12_leavesFrame_16 : decode cX12_leavesFrame 16 = .ok (.getfield 580, 3) := by decide +kernel
theorem dX12_leavesFrame_19 : decode cX12_leavesFrame 19 = .ok (.iaload, 1) := by decide +kernel
theorem dX12_leavesFrame_20 : decode cX12_leavesFrame 20 = .ok (.putfield 574, 3) := by decide +kernel
theorem dX12_leavesFrame_23 : decode cX12_leavesFrame 23 = .ok (.aload_n 0, 1) := by decide +kernel
theorem dX12_leavesFrame_24 : decode cX12_leavesFrame 24 = .ok (.aload_n 0, 1) := by decide +kernel
theorem dX12_leavesFrame_25 : decode cX12_leavesFrame 25 = .ok (.getfield 72, 3) := by decide +kernel
theorem dX12_leavesFrame_28 : decode cX12_leavesFrame 28 = .ok (.aload_n 0, 1) := by decide +kernel
theorem dX12_leavesFrame_29 : decode cX12_leavesFrame 29 = .ok (.getfield 580, 3) := by decide +kernel
theorem dX12_leavesFrame_32 : decode cX12_leavesFrame 32 = .ok (.iaload, 1) := by decide +kernel
theorem dX12_leavesFrame_33 : decode cX12_leavesFrame 33 = .ok (.putfield 596, 3) := by decide +kernel
theorem dX12_leavesFrame_36 : decode cX12_leavesFrame 36 = .ok (.return_, 1) := by decide +kernel
theorem dX12_isZero_0 : decode cX12_isZero 0 = .ok (.iload_n 1, 1) := by decide +kernel
theorem dX12_isZero_1 : decode cX12_isZero 1 = .ok (.iconst 3, 1) := by decide +kernel
theorem dX12_isZero_2 : decode cX12_isZero 2 = .ok (.if_icmp .ne 20, 3) := by decide +kernel
theorem dX12_isZero_5 : decode cX12_isZero 5 = .ok (.lload_n 2, 1) := by decide +kernel
theorem dX12_isZero_6 : decode cX12_isZero 6 = .ok (.invokestatic 545, 3) := by decide +kernel
theorem dX12_isZero_9 : decode cX12_isZero 9 = .ok (.dconst 0, 1) := by decide +kernel
theorem dX12_isZero_10 : decode cX12_isZero 10 = .ok (.dcmp .l, 1) := by decide +kernel
theorem dX12_isZero_11 : decode cX12_isZero 11 = .ok (.ifCond .ne 7, 3) := by decide +kernel
theorem dX12_isZero_14 : decode cX12_isZero 14 = .ok (.iconst 1, 1) := by decide +kernel
theorem dX12_isZero_15 : decode cX12_isZero 15 = .ok (.goto 18, 3) := by decide +kernel
theorem dX12_isZero_18 : decode cX12_isZero 18 = .ok (.iconst 0, 1) := by decide +kernel
theorem dX12_isZero_19 : decode cX12_isZero 19 = .ok (.goto 14, 3) := by decide +kernel
theorem dX12_isZero_22 : decode cX12_isZero 22 = .ok (.lload_n 2, 1) := by decide +kernel
theorem dX12_isZero_23 : decode cX12_isZero 23 = .ok (.lconst 0, 1) := by decide +kernel
theorem dX12_isZero_24 : decode cX12_isZero 24 = .ok (.lcmp, 1) := by decide +kernel
theorem dX12_isZero_25 : decode cX12_isZero 25 = .ok (.ifCond .ne 7, 3) := by decide +kernel
theorem dX12_isZero_28 : decode cX12_isZero 28 = .ok (.iconst 1, 1) := by decide +kernel
theorem dX12_isZero_29 : decode cX12_isZero 29 = .ok (.goto 4, 3) := by decide +kernel
theorem dX12_isZero_32 : decode cX12_isZero 32 = .ok (.iconst 0, 1) := by decide +kernel
theorem dX12_isZero_33 : decode cX12_isZero 33 = .ok (.ireturn, 1) := by decide +kernel
set_option maxHeartbeats 4000000 in
set_option maxRecDepth 100000 in
theorem c_X12_real (ω : Om) (l : Launch) (μ : M3) (x1 : Int) (hx1 : jr x1) : CtD ω l yX12_real cX12_real 2 1 40 [.long (jv x1)] μ (fun (r : Int) (μ' : M3) => (μ' = μ)) := by
  refine CtD.go (by decide) (Nat.le_of_ble_eq_true rfl) (fun ρ p e s m below meth c R ls G hR hret hlk hl => ?_)
  have hx := G.1.1
  have hb := G.1.2.1
  have hl : lv_has ls 2 [(0, .long (jv x1))] := hl
  generalize s.drawn = d0 at G ⊢
  refine lv_lload_n hx hb dX12_real_0 rfl (lv_at hl 0 rfl) ?_
  refine xd_any G (x := x1) (wm 10 94 rfl rfl) (wm 10 96 rfl rfl) (wm 10 95 rfl rfl) (wm 1 23 rfl rfl) hR (by decide) (by decide) hl.1 dX12_real_1 (fun dd_1 d0 G => ?_)
  exact xr_d G (x := (dv dd_1)) hret hlk dX12_real_4 rfl

set_option maxHeartbeats 4000000 in
set_option maxRecDepth 100000 in
theorem c_X12_isFinite (ω : Om) (l : Launch) (μ : M3) (x1 : Int) : CtI ω l yX12_isFinite cX12_isFinite 2 .boolean 0 0 [.double (dv x1)] μ (fun (r : Int) (μ' : M3) => (μ' = μ)) := by
  refine CtI.go (by decide) (Nat.le_of_ble_eq_true rfl) (fun ρ p e s m below meth c R ls G hR hret hlk hl => ?_)
  have hx := G.1.1
  have hb := G.1.2.1
  have hl : lv_has ls 2 [(0, .double (dv x1))] := hl
  generalize s.drawn = d0 at G ⊢
  refine lv_dload_n hx hb dX12_isFinite_0 rfl (lv_at hl 0 rfl) ?_
  refine lv_ldc2d (s := s.setDrawn d0) hx hb G.1.2.2.2.1 (dr_words G.1.2.2.2.2 d0 _ (wm 11 42 rfl rfl)) dX12_isFinite_1 ?_
  refine xb_topd (fun dd_1 he_dd_1 => ?_)
  refine lv_dcmp hx hb dX12_isFinite_4 ?_
  refine xb_topi (fun y_2 hr_y_2 he_y_2 => ?_)
  have hr_y_2 : -2147483648 ≤ y_2 ∧ y_2 ≤ 2147483647 := hr_y_2
  refine xb_if_lt (tgt := 20) hx hb (by unfold ir; omega) dX12_isFinite_5 (by decide) (fun c_5 => ?_) (fun c_5 => ?_)
  · refine lv_iconst (v := iv 0) hx hb dX12_isFinite_20 rfl ?_
    exact xr_i G (x := 0) hret hlk (by unfold ir; omega) (zr (by omega)) dX12_isFinite_21 rfl
  · refine lv_dload_n hx hb dX12_isFinite_8 rfl (lv_at hl 0 rfl) ?_
    refine lv_ldc2d (s := s.setDrawn d0) hx hb G.1.2.2.2.1 (dr_words G.1.2.2.2.2 d0 _ (wm 11 43 rfl rfl)) dX12_isFinite_9 ?_
    refine xb_topd (fun dd_3 he_dd_3 => ?_)
    refine lv_dcmp hx hb dX12_isFinite_12 ?_
    refine xb_topi (fun y_4 hr_y_4 he_y_4 => ?_)
    have hr_y_4 : -2147483648 ≤ y_4 ∧ y_4 ≤ 2147483647 := hr_y_4
    refine xb_if_gt (tgt := 20) hx hb (by unfold ir; omega) dX12_isFinite_13 (by decide) (fun c_13 => ?_) (fun c_13 => ?_)
    · refine lv_iconst (v := iv 0) hx hb dX12_isFinite_20 rfl ?_
      exact xr_i G (x := 0) hret hlk (by unfold ir; omega) (zr (by omega)) dX12_isFinite_21 rfl
    · refine lv_iconst (v := iv 1) hx hb dX12_isFinite_16 rfl ?_
      refine lv_goto (tgt := 21) hx hb dX12_isFinite_17 (by decide) ?_
      exact xr_i G (x := 1) hret hlk (by unfold ir; omega) (zr (by omega)) dX12_isFinite_21 rfl

set_option maxHeartbeats 4000000 in
set_option maxRecDepth 100000 in
theorem c_X12_has (ω : Om) (l : Launch) (μ : M3) (x1 : Int) (x2 : Int) (hx1 : ir x1) (hx2 : jr x2) : CtI ω l yX12_has cX12_has 3 .boolean 0 0 [.int (iv x1), .long (jv x2)] μ (fun (r : Int) (μ' : M3) => (μ' = μ)) := by
  refine CtI.go (by decide) (Nat.le_of_ble_eq_true rfl) (fun ρ p e s m below meth c R ls G hR hret hlk hl => ?_)
  have hx := G.1.1
  have hb := G.1.2.1
  have hl : lv_has ls 3 [(0, .int (iv x1)), (1, .long (jv x2))] := hl
  generalize s.drawn = d0 at G ⊢
  have hr_x1 : -2147483648 ≤ x1 ∧ x1 ≤ 2147483647 := hx1
  refine lv_iload_n hx hb dX12_has_0 rfl (lv_at hl 0 rfl) ?_
  refine xb_if_eq (tgt := 38) hx hb (by unfold ir; omega) dX12_has_1 (by decide) (fun c_1 => ?_) (fun c_1 => ?_)
  · refine lv_iconst (v := iv 1) hx hb dX12_has_38 rfl ?_
    refine lv_goto (tgt := 43) hx hb dX12_has_39 (by decide) ?_
    exact xr_i G (x := 1) hret hlk (by unfold ir; omega) (zr (by omega)) dX12_has_43 rfl
  · refine lv_iload_n hx hb dX12_has_4 rfl (lv_at hl 0 rfl) ?_
    refine lv_iconst (v := iv 1) hx hb dX12_has_5 rfl ?_
    refine xb_icmp_ne (tgt := 17) hx hb (by unfold ir; omega) (by unfold ir; omega) dX12_has_6 (by decide) (fun c_6 => ?_) (fun c_6 => ?_)
    · refine lv_iload_n hx hb dX12_has_17 rfl (lv_at hl 0 rfl) ?_
      refine lv_iconst (v := iv 2) hx hb dX12_has_18 rfl ?_
      refine xb_icmp_ne (tgt := 42) hx hb (by unfold ir; omega) (by unfold ir; omega) dX12_has_19 (by decide) (fun c_19 => ?_) (fun c_19 => ?_)
      · refine lv_iconst (v := iv 0) hx hb dX12_has_42 rfl ?_
        exact xr_i G (x := 0) hret hlk (by unfold ir; omega) (zr (by omega)) dX12_has_43 rfl
      · refine lv_lload_n hx hb dX12_has_22 rfl (lv_at hl 1 rfl) ?_
        refine lv_ldc2 (s := s.setDrawn d0) hx hb G.1.2.2.2.1 (dr_words G.1.2.2.2.2 d0 _ (wm 10 102 rfl rfl)) dX12_has_23 ?_
        refine xb_litl (x := (-100000000000000000)) (by decide) ?_
        refine xb_lcmp hx hb hx2 (by unfold jr; omega) dX12_has_26 ?_
        have hr_1 : -2147483648 ≤ lcm x2 (-100000000000000000) ∧ lcm x2 (-100000000000000000) ≤ 2147483647 := lcm_ir _ _
        refine xb_if_lt (tgt := 42) hx hb (by unfold ir; omega) dX12_has_27 (by decide) (fun c_27 => ?_) (fun c_27 => ?_)
        · refine lv_iconst (v := iv 0) hx hb dX12_has_42 rfl ?_
          exact xr_i G (x := 0) hret hlk (by unfold ir; omega) (zr (by omega)) dX12_has_43 rfl
        · refine lv_lload_n hx hb dX12_has_30 rfl (lv_at hl 1 rfl) ?_
          refine lv_ldc2 (s := s.setDrawn d0) hx hb G.1.2.2.2.1 (dr_words G.1.2.2.2.2 d0 _ (wm 9 36 rfl rfl)) dX12_has_31 ?_
          refine xb_litl (x := 100000000000000000) (by decide) ?_
          refine xb_lcmp hx hb hx2 (by unfold jr; omega) dX12_has_34 ?_
          have hr_2 : -2147483648 ≤ lcm x2 100000000000000000 ∧ lcm x2 100000000000000000 ≤ 2147483647 := lcm_ir _ _
          refine xb_if_gt (tgt := 42) hx hb (by unfold ir; omega) dX12_has_35 (by decide) (fun c_35 => ?_) (fun c_35 => ?_)
          · refine lv_iconst (v := iv 0) hx hb dX12_has_42 rfl ?_
            exact xr_i G (x := 0) hret hlk (by unfold ir; omega) (zr (by omega)) dX12_has_43 rfl
          · refine lv_iconst (v := iv 1) hx hb dX12_has_38 rfl ?_
            refine lv_goto (tgt := 43) hx hb dX12_has_39 (by decide) ?_
            exact xr_i G (x := 1) hret hlk (by unfold ir; omega) (zr (by omega)) dX12_has_43 rfl
    · refine lv_lload_n hx hb dX12_has_9 rfl (lv_at hl 1 rfl) ?_
      refine lv_lload_n hx hb dX12_has_10 rfl (lv_at hl 1 rfl) ?_
      refine xb_l2i hx hb dX12_has_11 ?_
      refine xb_topi (fun y_3 hr_y_3 he_y_3 => ?_)
      have hr_y_3 : -2147483648 ≤ y_3 ∧ y_3 ≤ 2147483647 := hr_y_3
      refine xb_i2l hx hb (by unfold ir; omega) dX12_has_12 ?_
      refine xb_lcmp hx hb hx2 (by unfold jr; omega) dX12_has_13 ?_
      have hr_4 : -2147483648 ≤ lcm x2 y_3 ∧ lcm x2 y_3 ≤ 2147483647 := lcm_ir _ _
      refine xb_if_eq (tgt := 38) hx hb (by unfold ir; omega) dX12_has_14 (by decide) (fun c_14 => ?_) (fun c_14 => ?_)
      · refine lv_iconst (v := iv 1) hx hb dX12_has_38 rfl ?_
        refine lv_goto (tgt := 43) hx hb dX12_has_39 (by decide) ?_
        exact xr_i G (x := 1) hret hlk (by unfold ir; omega) (zr (by omega)) dX12_has_43 rfl
      · refine lv_iload_n hx hb dX12_has_17 rfl (lv_at hl 0 rfl) ?_
        refine lv_iconst (v := iv 2) hx hb dX12_has_18 rfl ?_
        refine xb_icmp_ne (tgt := 42) hx hb (by unfold ir; omega) (by unfold ir; omega) dX12_has_19 (by decide) (fun c_19 => ?_) (fun c_19 => ?_)
        · refine lv_iconst (v := iv 0) hx hb dX12_has_42 rfl ?_
          exact xr_i G (x := 0) hret hlk (by unfold ir; omega) (zr (by omega)) dX12_has_43 rfl
        · refine lv_lload_n hx hb dX12_has_22 rfl (lv_at hl 1 rfl) ?_
          refine lv_ldc2 (s := s.setDrawn d0) hx hb G.1.2.2.2.1 (dr_words G.1.2.2.2.2 d0 _ (wm 10 102 rfl rfl)) dX12_has_23 ?_
          refine xb_litl (x := (-100000000000000000)) (by decide) ?_
          refine xb_lcmp hx hb hx2 (by unfold jr; omega) dX12_has_26 ?_
          have hr_5 : -2147483648 ≤ lcm x2 (-100000000000000000) ∧ lcm x2 (-100000000000000000) ≤ 2147483647 := lcm_ir _ _
          refine xb_if_lt (tgt := 42) hx hb (by unfold ir; omega) dX12_has_27 (by decide) (fun c_27 => ?_) (fun c_27 => ?_)
          · refine lv_iconst (v := iv 0) hx hb dX12_has_42 rfl ?_
            exact xr_i G (x := 0) hret hlk (by unfold ir; omega) (zr (by omega)) dX12_has_43 rfl
          · refine lv_lload_n hx hb dX12_has_30 rfl (lv_at hl 1 rfl) ?_
            refine lv_ldc2 (s := s.setDrawn d0) hx hb G.1.2.2.2.1 (dr_words G.1.2.2.2.2 d0 _ (wm 9 36 rfl rfl)) dX12_has_31 ?_
            refine xb_litl (x := 100000000000000000) (by decide) ?_
            refine xb_lcmp hx hb hx2 (by unfold jr; omega) dX12_has_34 ?_
            have hr_6 : -2147483648 ≤ lcm x2 100000000000000000 ∧ lcm x2 100000000000000000 ≤ 2147483647 := lcm_ir _ _
            refine xb_if_gt (tgt := 42) hx hb (by unfold ir; omega) dX12_has_35 (by decide) (fun c_35 => ?_) (fun c_35 => ?_)
            · refine lv_iconst (v := iv 0) hx hb dX12_has_42 rfl ?_
              exact xr_i G (x := 0) hret hlk (by unfold ir; omega) (zr (by omega)) dX12_has_43 rfl
            · refine lv_iconst (v := iv 1) hx hb dX12_has_38 rfl ?_
              refine lv_goto (tgt := 43) hx hb dX12_has_39 (by decide) ?_
              exact xr_i G (x := 1) hret hlk (by unfold ir; omega) (zr (by omega)) dX12_has_43 rfl

set_option maxHeartbeats 4000000 in
set_option maxRecDepth 100000 in
theorem c_X12_turnsTo (ω : Om) (l : Launch) (μ : M3) (x1 : Int) (x2 : Int) (hx1 : x1 = 0 ∨ x1 = 1) (hx2 : jr x2) : CtV ω l yX12_turnsTo cX12_turnsTo 4 0 0 [.ref (oP ω 111), .int (iv x1), .long (jv x2)] μ (fun (μ' : M3) => (FrM [111] μ μ') ∧ (∀ j, j ∉ ([98, 99] : List Int) → μ'.1 111 j = μ.1 111 j) ∧ (μ'.1 111 98 = x1) ∧ (μ'.1 111 99 = x2)) := by
  refine CtV.go (by decide) (Nat.le_of_ble_eq_true rfl) (fun ρ p e s m below meth c R ls G hR hret hlk hl => ?_)
  have hx := G.1.1
  have hb := G.1.2.1
  have hl : lv_has ls 4 [(0, .ref (oP ω 111)), (1, .int (iv x1)), (2, .long (jv x2))] := hl
  generalize s.drawn = d0 at G ⊢
  refine lv_aload_n hx hb dX12_turnsTo_0 rfl (lv_at hl 0 rfl) ?_
  refine lv_iload_n hx hb dX12_turnsTo_1 rfl (lv_at hl 1 rfl) ?_
  refine xa_putz G fd_X12 (a := 111) (x := x1) 98 (kz := 98) rfl rfl (by decide) rfl (by omega) (wm 8 7 rfl rfl) ⟨rfl, rfl, rfl, rfl⟩ rfl dX12_turnsTo_2 rfl (fun H locs G => ?_)
  refine lv_aload_n hx hb dX12_turnsTo_5 rfl (lv_at hl 0 rfl) ?_
  refine lv_lload_n hx hb dX12_turnsTo_6 rfl (lv_at hl 2 rfl) ?_
  refine xa_putl G fd_X12 (a := 111) (x := x2) 99 (kz := 99) rfl rfl (by decide) rfl hx2 (wm 8 8 rfl rfl) ⟨rfl, rfl, rfl, rfl⟩ rfl dX12_turnsTo_7 rfl (fun H locs G => ?_)
  have e_1 : (sv (sv μ 111 98 x1) 111 99 x2).1 111 98 = x1 := ((sv_n _ (by decide)).trans (sv_s _ _ _ _))
  have e_2 : (sv (sv μ 111 98 x1) 111 99 x2).1 111 99 = x2 := (sv_s _ _ _ _)
  exact xr_v G hret hlk dX12_turnsTo_10 ⟨(FrM.put (FrM.put FrM.rf (by decide)) (by decide)), (fun j hj => ((sv_n _ (fun h9 => hj (by rw [h9.2]; decide))).trans (sv_n _ (fun h9 => hj (by rw [h9.2]; decide))))), (by omega), (by omega)⟩

set_option maxHeartbeats 4000000 in
set_option maxRecDepth 100000 in
theorem c_X12_turns (ω : Om) (l : Launch) (μ : M3) (x1 : Int) (x2 : Int) (x3 : Int) (x4 : Int) (hx1 : ir x1) (hx2 : ir x2) (hx3 : ir x3) (hx4 : jr x4) : CtV ω l yX12_turns cX12_turns 14 2 61 [.ref (oP ω 111), .int (iv x1), .int (iv x2), .int (iv x3), .long (jv x4)] μ (fun (μ' : M3) => (FrM [111] μ μ') ∧ (∀ j, j ∉ ([98, 99] : List Int) → μ'.1 111 j = μ.1 111 j)) := by
  refine CtV.go (by decide) (Nat.le_of_ble_eq_true rfl) (fun ρ p e s m below meth c R ls G hR hret hlk hl => ?_)
  have hx := G.1.1
  have hb := G.1.2.1
  have hl : lv_has ls 14 [(0, .ref (oP ω 111)), (1, .int (iv x1)), (2, .int (iv x2)), (3, .int (iv x3)), (4, .long (jv x4))] := hl
  generalize s.drawn = d0 at G ⊢
  have hr_x1 : -2147483648 ≤ x1 ∧ x1 ≤ 2147483647 := hx1
  have hr_x2 : -2147483648 ≤ x2 ∧ x2 ≤ 2147483647 := hx2
  have hr_x3 : -2147483648 ≤ x3 ∧ x3 ≤ 2147483647 := hx3
  refine lv_iload_n hx hb dX12_turns_0 rfl (lv_at hl 1 rfl) ?_
  refine lv_iload_n hx hb dX12_turns_1 rfl (lv_at hl 2 rfl) ?_
  refine xb_icmp_ne (tgt := 13) hx hb (by unfold ir; omega) (by unfold ir; omega) dX12_turns_2 (by decide) (fun c_2 => ?_) (fun c_2 => ?_)
  · refine lv_iload_n hx hb dX12_turns_13 rfl (lv_at hl 1 rfl) ?_
    refine lv_iconst (v := iv 3) hx hb dX12_turns_14 rfl ?_
    refine xb_icmp_ne (tgt := 26) hx hb (by unfold ir; omega) (by unfold ir; omega) dX12_turns_15 (by decide) (fun c_15 => ?_) (fun c_15 => ?_)
    · refine lv_dconst0 hx hb dX12_turns_26 ?_
      refine xb_topd (fun dd_1 he_dd_1 => ?_)
      refine lv_dstore (lv' := [(6, .double (dv dd_1)), (0, .ref (oP ω 111)), (1, .int (iv x1)), (2, .int (iv x2)), (3, .int (iv x3)), (4, .long (jv x4))]) hx hb dX12_turns_27 hl (by decide) rfl (fun ls hl => ?_)
      refine lv_iload_n hx hb dX12_turns_29 rfl (lv_at hl 2 rfl) ?_
      refine lv_iconst (v := iv 3) hx hb dX12_turns_30 rfl ?_
      refine xb_icmp_ne (tgt := 40) hx hb (by unfold ir; omega) (by unfold ir; omega) dX12_turns_31 (by decide) (fun c_31 => ?_) (fun c_31 => ?_)
      · refine lv_lload hx hb dX12_turns_40 (lv_at hl 5 rfl) ?_
        refine lv_lstore (lv' := [(8, .long (jv x4)), (6, .double (dv dd_1)), (0, .ref (oP ω 111)), (1, .int (iv x1)), (2, .int (iv x2)), (3, .int (iv x3)), (4, .long (jv x4))]) hx hb dX12_turns_42 hl (by decide) rfl (fun ls hl => ?_)
        refine lv_iload_n hx hb dX12_turns_44 rfl (lv_at hl 4 rfl) ?_
        refine lv_iconst (v := iv 3) hx hb dX12_turns_45 rfl ?_
        refine xb_icmp_ne (tgt := 105) hx hb (by unfold ir; omega) (by unfold ir; omega) dX12_turns_46 (by decide) (fun c_46 => ?_) (fun c_46 => ?_)
        · refine lv_iload_n hx hb dX12_turns_105 rfl (lv_at hl 5 rfl) ?_
          refine xb_if_ne (tgt := 176) hx hb (by unfold ir; omega) dX12_turns_106 (by decide) (fun c_106 => ?_) (fun c_106 => ?_)
          · refine lv_iload_n hx hb dX12_turns_176 rfl (lv_at hl 5 rfl) ?_
            refine lv_iconst (v := iv 1) hx hb dX12_turns_177 rfl ?_
            refine xb_icmp_ne (tgt := 216) hx hb (by unfold ir; omega) (by unfold ir; omega) dX12_turns_178 (by decide) (fun c_178 => ?_) (fun c_178 => ?_)
            · refine lv_iload_n hx hb dX12_turns_216 rfl (lv_at hl 4 rfl) ?_
              refine xb_if_ne (tgt := 226) hx hb (by unfold ir; omega) dX12_turns_217 (by decide) (fun c_217 => ?_) (fun c_217 => ?_)
              · refine lv_iload_n hx hb dX12_turns_226 rfl (lv_at hl 4 rfl) ?_
                refine lv_iconst (v := iv 1) hx hb dX12_turns_227 rfl ?_
                refine xb_icmp_ne (tgt := 237) hx hb (by unfold ir; omega) (by unfold ir; omega) dX12_turns_228 (by decide) (fun c_228 => ?_) (fun c_228 => ?_)
                · refine lv_ldc2 (s := s.setDrawn d0) hx hb G.1.2.2.2.1 (dr_words G.1.2.2.2.2 d0 _ (wm 10 102 rfl rfl)) dX12_turns_237 ?_
                  refine xb_litl (x := (-100000000000000000)) (by decide) ?_
                  refine lv_lstore (lv' := [(10, .long (jv (-100000000000000000))), (8, .long (jv x4)), (6, .double (dv dd_1)), (0, .ref (oP ω 111)), (1, .int (iv x1)), (2, .int (iv x2)), (3, .int (iv x3)), (4, .long (jv x4))]) hx hb dX12_turns_240 hl (by decide) rfl (fun ls hl => ?_)
                  refine lv_iload_n hx hb dX12_turns_242 rfl (lv_at hl 5 rfl) ?_
                  refine xb_if_ne (tgt := 252) hx hb (by unfold ir; omega) dX12_turns_243 (by decide) (fun c_243 => ?_) (fun c_243 => ?_)
                  · refine lv_iload_n hx hb dX12_turns_252 rfl (lv_at hl 5 rfl) ?_
                    refine lv_iconst (v := iv 1) hx hb dX12_turns_253 rfl ?_
                    refine xb_icmp_ne (tgt := 263) hx hb (by unfold ir; omega) (by unfold ir; omega) dX12_turns_254 (by decide) (fun c_254 => ?_) (fun c_254 => ?_)
                    · refine lv_ldc2 (s := s.setDrawn d0) hx hb G.1.2.2.2.1 (dr_words G.1.2.2.2.2 d0 _ (wm 9 36 rfl rfl)) dX12_turns_263 ?_
                      refine xb_litl (x := 100000000000000000) (by decide) ?_
                      refine lv_lstore (lv' := [(12, .long (jv 100000000000000000)), (10, .long (jv (-100000000000000000))), (8, .long (jv x4)), (6, .double (dv dd_1)), (0, .ref (oP ω 111)), (1, .int (iv x1)), (2, .int (iv x2)), (3, .int (iv x3)), (4, .long (jv x4))]) hx hb dX12_turns_266 hl (by decide) rfl (fun ls hl => ?_)
                      refine lv_aload_n hx hb dX12_turns_268 rfl (lv_at hl 4 rfl) ?_
                      refine lv_iconst (v := iv 1) hx hb dX12_turns_269 rfl ?_
                      refine lv_lload hx hb dX12_turns_270 (lv_at hl 2 rfl) ?_
                      refine lv_lload hx hb dX12_turns_272 (lv_at hl 1 rfl) ?_
                      refine xb_lcmp hx hb hx4 (by unfold jr; omega) dX12_turns_274 ?_
                      have hr_2 : -2147483648 ≤ lcm x4 (-100000000000000000) ∧ lcm x4 (-100000000000000000) ≤ 2147483647 := lcm_ir _ _
                      refine xb_if_ge (tgt := 283) hx hb (by unfold ir; omega) dX12_turns_275 (by decide) (fun c_275 => ?_) (fun c_275 => ?_)
                      · refine lv_lload hx hb dX12_turns_283 (lv_at hl 2 rfl) ?_
                        refine lv_lload hx hb dX12_turns_285 (lv_at hl 0 rfl) ?_
                        refine xb_lcmp hx hb hx4 (by unfold jr; omega) dX12_turns_287 ?_
                        have hr_3 : -2147483648 ≤ lcm x4 100000000000000000 ∧ lcm x4 100000000000000000 ≤ 2147483647 := lcm_ir _ _
                        refine xb_if_le (tgt := 296) hx hb (by unfold ir; omega) dX12_turns_288 (by decide) (fun c_288 => ?_) (fun c_288 => ?_)
                        · refine lv_lload hx hb dX12_turns_296 (lv_at hl 2 rfl) ?_
                          refine xc_vV G (b := 111) (rest := []) (As := [.int (iv 1), .long (jv x4)]) (c_X12_turnsTo ω l μ 1 x4 (by omega) hx4) (wm 10 87 rfl rfl) (wm 10 89 rfl rfl) (wm 0 189 rfl rfl) rfl rfl (by decide) rfl (wm 1 18 rfl rfl) (wm 10 90 rfl rfl) (by decide) hR (by decide) (n := 2) rfl rfl (Nat.le_of_ble_eq_true rfl) hl.1 dX12_turns_298 (fun μ4 ρ d0 H locs hp G => ?_)
                          obtain ⟨F_5, hp_6, hs_7, hs_8⟩ := hp
                          exact xr_v G hret hlk dX12_turns_301 ⟨(FrM.tr FrM.rf F_5 (by decide)), (fun j hj => (hp_6 j (fun h9 => hj ((by decide : ∀ x ∈ ([98, 99] : List Int), x ∈ ([98, 99] : List Int)) j h9))))⟩
                        · refine lv_lload hx hb dX12_turns_291 (lv_at hl 0 rfl) ?_
                          refine lv_goto (tgt := 298) hx hb dX12_turns_293 (by decide) ?_
                          refine xc_vV G (b := 111) (rest := []) (As := [.int (iv 1), .long (jv 100000000000000000)]) (c_X12_turnsTo ω l μ 1 100000000000000000 (by omega) (by unfold jr; omega)) (wm 10 87 rfl rfl) (wm 10 89 rfl rfl) (wm 0 189 rfl rfl) rfl rfl (by decide) rfl (wm 1 18 rfl rfl) (wm 10 90 rfl rfl) (by decide) hR (by decide) (n := 2) rfl rfl (Nat.le_of_ble_eq_true rfl) hl.1 dX12_turns_298 (fun μ9 ρ d0 H locs hp G => ?_)
                          obtain ⟨F_10, hp_11, hs_12, hs_13⟩ := hp
                          exact xr_v G hret hlk dX12_turns_301 ⟨(FrM.tr FrM.rf F_10 (by decide)), (fun j hj => (hp_11 j (fun h9 => hj ((by decide : ∀ x ∈ ([98, 99] : List Int), x ∈ ([98, 99] : List Int)) j h9))))⟩
                      · refine lv_lload hx hb dX12_turns_278 (lv_at hl 1 rfl) ?_
                        refine lv_goto (tgt := 298) hx hb dX12_turns_280 (by decide) ?_
                        refine xc_vV G (b := 111) (rest := []) (As := [.int (iv 1), .long (jv (-100000000000000000))]) (c_X12_turnsTo ω l μ 1 (-100000000000000000) (by omega) (by unfold jr; omega)) (wm 10 87 rfl rfl) (wm 10 89 rfl rfl) (wm 0 189 rfl rfl) rfl rfl (by decide) rfl (wm 1 18 rfl rfl) (wm 10 90 rfl rfl) (by decide) hR (by decide) (n := 2) rfl rfl (Nat.le_of_ble_eq_true rfl) hl.1 dX12_turns_298 (fun μ14 ρ d0 H locs hp G => ?_)
                        obtain ⟨F_15, hp_16, hs_17, hs_18⟩ := hp
                        exact xr_v G hret hlk dX12_turns_301 ⟨(FrM.tr FrM.rf F_15 (by decide)), (fun j hj => (hp_16 j (fun h9 => hj ((by decide : ∀ x ∈ ([98, 99] : List Int), x ∈ ([98, 99] : List Int)) j h9))))⟩
                    · refine lv_ldc2 (s := s.setDrawn d0) hx hb G.1.2.2.2.1 (dr_words G.1.2.2.2.2 d0 _ (wm 9 35 rfl rfl)) dX12_turns_257 ?_
                      refine xb_litl (x := 2147483647) (by decide) ?_
                      refine lv_goto (tgt := 266) hx hb dX12_turns_260 (by decide) ?_
                      refine lv_lstore (lv' := [(12, .long (jv 2147483647)), (10, .long (jv (-100000000000000000))), (8, .long (jv x4)), (6, .double (dv dd_1)), (0, .ref (oP ω 111)), (1, .int (iv x1)), (2, .int (iv x2)), (3, .int (iv x3)), (4, .long (jv x4))]) hx hb dX12_turns_266 hl (by decide) rfl (fun ls hl => ?_)
                      refine lv_aload_n hx hb dX12_turns_268 rfl (lv_at hl 4 rfl) ?_
                      refine lv_iconst (v := iv 1) hx hb dX12_turns_269 rfl ?_
                      refine lv_lload hx hb dX12_turns_270 (lv_at hl 2 rfl) ?_
                      refine lv_lload hx hb dX12_turns_272 (lv_at hl 1 rfl) ?_
                      refine xb_lcmp hx hb hx4 (by unfold jr; omega) dX12_turns_274 ?_
                      have hr_19 : -2147483648 ≤ lcm x4 (-100000000000000000) ∧ lcm x4 (-100000000000000000) ≤ 2147483647 := lcm_ir _ _
                      refine xb_if_ge (tgt := 283) hx hb (by unfold ir; omega) dX12_turns_275 (by decide) (fun c_275 => ?_) (fun c_275 => ?_)
                      · refine lv_lload hx hb dX12_turns_283 (lv_at hl 2 rfl) ?_
                        refine lv_lload hx hb dX12_turns_285 (lv_at hl 0 rfl) ?_
                        refine xb_lcmp hx hb hx4 (by unfold jr; omega) dX12_turns_287 ?_
                        have hr_20 : -2147483648 ≤ lcm x4 2147483647 ∧ lcm x4 2147483647 ≤ 2147483647 := lcm_ir _ _
                        refine xb_if_le (tgt := 296) hx hb (by unfold ir; omega) dX12_turns_288 (by decide) (fun c_288 => ?_) (fun c_288 => ?_)
                        · refine lv_lload hx hb dX12_turns_296 (lv_at hl 2 rfl) ?_
                          refine xc_vV G (b := 111) (rest := []) (As := [.int (iv 1), .long (jv x4)]) (c_X12_turnsTo ω l μ 1 x4 (by omega) hx4) (wm 10 87 rfl rfl) (wm 10 89 rfl rfl) (wm 0 189 rfl rfl) rfl rfl (by decide) rfl (wm 1 18 rfl rfl) (wm 10 90 rfl rfl) (by decide) hR (by decide) (n := 2) rfl rfl (Nat.le_of_ble_eq_true rfl) hl.1 dX12_turns_298 (fun μ21 ρ d0 H locs hp G => ?_)
                          obtain ⟨F_22, hp_23, hs_24, hs_25⟩ := hp
                          exact xr_v G hret hlk dX12_turns_301 ⟨(FrM.tr FrM.rf F_22 (by decide)), (fun j hj => (hp_23 j (fun h9 => hj ((by decide : ∀ x ∈ ([98, 99] : List Int), x ∈ ([98, 99] : List Int)) j h9))))⟩
                        · refine lv_lload hx hb dX12_turns_291 (lv_at hl 0 rfl) ?_
                          refine lv_goto (tgt := 298) hx hb dX12_turns_293 (by decide) ?_
                          refine xc_vV G (b := 111) (rest := []) (As := [.int (iv 1), .long (jv 2147483647)]) (c_X12_turnsTo ω l μ 1 2147483647 (by omega) (by unfold jr; omega)) (wm 10 87 rfl rfl) (wm 10 89 rfl rfl) (wm 0 189 rfl rfl) rfl rfl (by decide) rfl (wm 1 18 rfl rfl) (wm 10 90 rfl rfl) (by decide) hR (by decide) (n := 2) rfl rfl (Nat.le_of_ble_eq_true rfl) hl.1 dX12_turns_298 (fun μ26 ρ d0 H locs hp G => ?_)
                          obtain ⟨F_27, hp_28, hs_29, hs_30⟩ := hp
                          exact xr_v G hret hlk dX12_turns_301 ⟨(FrM.tr FrM.rf F_27 (by decide)), (fun j hj => (hp_28 j (fun h9 => hj ((by decide : ∀ x ∈ ([98, 99] : List Int), x ∈ ([98, 99] : List Int)) j h9))))⟩
                      · refine lv_lload hx hb dX12_turns_278 (lv_at hl 1 rfl) ?_
                        refine lv_goto (tgt := 298) hx hb dX12_turns_280 (by decide) ?_
                        refine xc_vV G (b := 111) (rest := []) (As := [.int (iv 1), .long (jv (-100000000000000000))]) (c_X12_turnsTo ω l μ 1 (-100000000000000000) (by omega) (by unfold jr; omega)) (wm 10 87 rfl rfl) (wm 10 89 rfl rfl) (wm 0 189 rfl rfl) rfl rfl (by decide) rfl (wm 1 18 rfl rfl) (wm 10 90 rfl rfl) (by decide) hR (by decide) (n := 2) rfl rfl (Nat.le_of_ble_eq_true rfl) hl.1 dX12_turns_298 (fun μ31 ρ d0 H locs hp G => ?_)
                        obtain ⟨F_32, hp_33, hs_34, hs_35⟩ := hp
                        exact xr_v G hret hlk dX12_turns_301 ⟨(FrM.tr FrM.rf F_32 (by decide)), (fun j hj => (hp_33 j (fun h9 => hj ((by decide : ∀ x ∈ ([98, 99] : List Int), x ∈ ([98, 99] : List Int)) j h9))))⟩
                  · refine lv_ldc2 (s := s.setDrawn d0) hx hb G.1.2.2.2.1 (dr_words G.1.2.2.2.2 d0 _ (wm 9 34 rfl rfl)) dX12_turns_246 ?_
                    refine xb_litl (x := 9223372036854775807) (by decide) ?_
                    refine lv_goto (tgt := 266) hx hb dX12_turns_249 (by decide) ?_
                    refine lv_lstore (lv' := [(12, .long (jv 9223372036854775807)), (10, .long (jv (-100000000000000000))), (8, .long (jv x4)), (6, .double (dv dd_1)), (0, .ref (oP ω 111)), (1, .int (iv x1)), (2, .int (iv x2)), (3, .int (iv x3)), (4, .long (jv x4))]) hx hb dX12_turns_266 hl (by decide) rfl (fun ls hl => ?_)
                    refine lv_aload_n hx hb dX12_turns_268 rfl (lv_at hl 4 rfl) ?_
                    refine lv_iconst (v := iv 1) hx hb dX12_turns_269 rfl ?_
                    refine lv_lload hx hb dX12_turns_270 (lv_at hl 2 rfl) ?_
                    refine lv_lload hx hb dX12_turns_272 (lv_at hl 1 rfl) ?_
                    refine xb_lcmp hx hb hx4 (by unfold jr; omega) dX12_turns_274 ?_
                    have hr_36 : -2147483648 ≤ lcm x4 (-100000000000000000) ∧ lcm x4 (-100000000000000000) ≤ 2147483647 := lcm_ir _ _
                    refine xb_if_ge (tgt := 283) hx hb (by unfold ir; omega) dX12_turns_275 (by decide) (fun c_275 => ?_) (fun c_275 => ?_)
                    · refine lv_lload hx hb dX12_turns_283 (lv_at hl 2 rfl) ?_
                      refine lv_lload hx hb dX12_turns_285 (lv_at hl 0 rfl) ?_
                      refine xb_lcmp hx hb hx4 (by unfold jr; omega) dX12_turns_287 ?_
                      have hr_37 : -2147483648 ≤ lcm x4 9223372036854775807 ∧ lcm x4 9223372036854775807 ≤ 2147483647 := lcm_ir _ _
                      refine xb_if_le (tgt := 296) hx hb (by unfold ir; omega) dX12_turns_288 (by decide) (fun c_288 => ?_) (fun c_288 => ?_)
                      · refine lv_lload hx hb dX12_turns_296 (lv_at hl 2 rfl) ?_
                        refine xc_vV G (b := 111) (rest := []) (As := [.int (iv 1), .long (jv x4)]) (c_X12_turnsTo ω l μ 1 x4 (by omega) hx4) (wm 10 87 rfl rfl) (wm 10 89 rfl rfl) (wm 0 189 rfl rfl) rfl rfl (by decide) rfl (wm 1 18 rfl rfl) (wm 10 90 rfl rfl) (by decide) hR (by decide) (n := 2) rfl rfl (Nat.le_of_ble_eq_true rfl) hl.1 dX12_turns_298 (fun μ38 ρ d0 H locs hp G => ?_)
                        obtain ⟨F_39, hp_40, hs_41, hs_42⟩ := hp
                        exact xr_v G hret hlk dX12_turns_301 ⟨(FrM.tr FrM.rf F_39 (by decide)), (fun j hj => (hp_40 j (fun h9 => hj ((by decide : ∀ x ∈ ([98, 99] : List Int), x ∈ ([98, 99] : List Int)) j h9))))⟩
                      · refine lv_lload hx hb dX12_turns_291 (lv_at hl 0 rfl) ?_
                        refine lv_goto (tgt := 298) hx hb dX12_turns_293 (by decide) ?_
                        refine xc_vV G (b := 111) (rest := []) (As := [.int (iv 1), .long (jv 9223372036854775807)]) (c_X12_turnsTo ω l μ 1 9223372036854775807 (by omega) (by unfold jr; omega)) (wm 10 87 rfl rfl) (wm 10 89 rfl rfl) (wm 0 189 rfl rfl) rfl rfl (by decide) rfl (wm 1 18 rfl rfl) (wm 10 90 rfl rfl) (by decide) hR (by decide) (n := 2) rfl rfl (Nat.le_of_ble_eq_true rfl) hl.1 dX12_turns_298 (fun μ43 ρ d0 H locs hp G => ?_)
                        obtain ⟨F_44, hp_45, hs_46, hs_47⟩ := hp
                        exact xr_v G hret hlk dX12_turns_301 ⟨(FrM.tr FrM.rf F_44 (by decide)), (fun j hj => (hp_45 j (fun h9 => hj ((by decide : ∀ x ∈ ([98, 99] : List Int), x ∈ ([98, 99] : List Int)) j h9))))⟩
                    · refine lv_lload hx hb dX12_turns_278 (lv_at hl 1 rfl) ?_
                      refine lv_goto (tgt := 298) hx hb dX12_turns_280 (by decide) ?_
                      refine xc_vV G (b := 111) (rest := []) (As := [.int (iv 1), .long (jv (-100000000000000000))]) (c_X12_turnsTo ω l μ 1 (-100000000000000000) (by omega) (by unfold jr; omega)) (wm 10 87 rfl rfl) (wm 10 89 rfl rfl) (wm 0 189 rfl rfl) rfl rfl (by decide) rfl (wm 1 18 rfl rfl) (wm 10 90 rfl rfl) (by decide) hR (by decide) (n := 2) rfl rfl (Nat.le_of_ble_eq_true rfl) hl.1 dX12_turns_298 (fun μ48 ρ d0 H locs hp G => ?_)
                      obtain ⟨F_49, hp_50, hs_51, hs_52⟩ := hp
                      exact xr_v G hret hlk dX12_turns_301 ⟨(FrM.tr FrM.rf F_49 (by decide)), (fun j hj => (hp_50 j (fun h9 => hj ((by decide : ∀ x ∈ ([98, 99] : List Int), x ∈ ([98, 99] : List Int)) j h9))))⟩
                · refine lv_ldc2 (s := s.setDrawn d0) hx hb G.1.2.2.2.1 (dr_words G.1.2.2.2.2 d0 _ (wm 10 104 rfl rfl)) dX12_turns_231 ?_
                  refine xb_litl (x := (-2147483648)) (by decide) ?_
                  refine lv_goto (tgt := 240) hx hb dX12_turns_234 (by decide) ?_
                  refine lv_lstore (lv' := [(10, .long (jv (-2147483648))), (8, .long (jv x4)), (6, .double (dv dd_1)), (0, .ref (oP ω 111)), (1, .int (iv x1)), (2, .int (iv x2)), (3, .int (iv x3)), (4, .long (jv x4))]) hx hb dX12_turns_240 hl (by decide) rfl (fun ls hl => ?_)
                  refine lv_iload_n hx hb dX12_turns_242 rfl (lv_at hl 5 rfl) ?_
                  refine xb_if_ne (tgt := 252) hx hb (by unfold ir; omega) dX12_turns_243 (by decide) (fun c_243 => ?_) (fun c_243 => ?_)
                  · refine lv_iload_n hx hb dX12_turns_252 rfl (lv_at hl 5 rfl) ?_
                    refine lv_iconst (v := iv 1) hx hb dX12_turns_253 rfl ?_
                    refine xb_icmp_ne (tgt := 263) hx hb (by unfold ir; omega) (by unfold ir; omega) dX12_turns_254 (by decide) (fun c_254 => ?_) (fun c_254 => ?_)
                    · refine lv_ldc2 (s := s.setDrawn d0) hx hb G.1.2.2.2.1 (dr_words G.1.2.2.2.2 d0 _ (wm 9 36 rfl rfl)) dX12_turns_263 ?_
                      refine xb_litl (x := 100000000000000000) (by decide) ?_
                      refine lv_lstore (lv' := [(12, .long (jv 100000000000000000)), (10, .long (jv (-2147483648))), (8, .long (jv x4)), (6, .double (dv dd_1)), (0, .ref (oP ω 111)), (1, .int (iv x1)), (2, .int (iv x2)), (3, .int (iv x3)), (4, .long (jv x4))]) hx hb dX12_turns_266 hl (by decide) rfl (fun ls hl => ?_)
                      refine lv_aload_n hx hb dX12_turns_268 rfl (lv_at hl 4 rfl) ?_
                      refine lv_iconst (v := iv 1) hx hb dX12_turns_269 rfl ?_
                      refine lv_lload hx hb dX12_turns_270 (lv_at hl 2 rfl) ?_
                      refine lv_lload hx hb dX12_turns_272 (lv_at hl 1 rfl) ?_
                      refine xb_lcmp hx hb hx4 (by unfold jr; omega) dX12_turns_274 ?_
                      have hr_53 : -2147483648 ≤ lcm x4 (-2147483648) ∧ lcm x4 (-2147483648) ≤ 2147483647 := lcm_ir _ _
                      refine xb_if_ge (tgt := 283) hx hb (by unfold ir; omega) dX12_turns_275 (by decide) (fun c_275 => ?_) (fun c_275 => ?_)
                      · refine lv_lload hx hb dX12_turns_283 (lv_at hl 2 rfl) ?_
                        refine lv_lload hx hb dX12_turns_285 (lv_at hl 0 rfl) ?_
                        refine xb_lcmp hx hb hx4 (by unfold jr; omega) dX12_turns_287 ?_
                        have hr_54 : -2147483648 ≤ lcm x4 100000000000000000 ∧ lcm x4 100000000000000000 ≤ 2147483647 := lcm_ir _ _
                        refine xb_if_le (tgt := 296) hx hb (by unfold ir; omega) dX12_turns_288 (by decide) (fun c_288 => ?_) (fun c_288 => ?_)
                        · refine lv_lload hx hb dX12_turns_296 (lv_at hl 2 rfl) ?_
                          refine xc_vV G (b := 111) (rest := []) (As := [.int (iv 1), .long (jv x4)]) (c_X12_turnsTo ω l μ 1 x4 (by omega) hx4) (wm 10 87 rfl rfl) (wm 10 89 rfl rfl) (wm 0 189 rfl rfl) rfl rfl (by decide) rfl (wm 1 18 rfl rfl) (wm 10 90 rfl rfl) (by decide) hR (by decide) (n := 2) rfl rfl (Nat.le_of_ble_eq_true rfl) hl.1 dX12_turns_298 (fun μ55 ρ d0 H locs hp G => ?_)
                          obtain ⟨F_56, hp_57, hs_58, hs_59⟩ := hp
                          exact xr_v G hret hlk dX12_turns_301 ⟨(FrM.tr FrM.rf F_56 (by decide)), (fun j hj => (hp_57 j (fun h9 => hj ((by decide : ∀ x ∈ ([98, 99] : List Int), x ∈ ([98, 99] : List Int)) j h9))))⟩
                        · refine lv_lload hx hb dX12_turns_291 (lv_at hl 0 rfl) ?_
                          refine lv_goto (tgt := 298) hx hb dX12_turns_293 (by decide) ?_
                          refine xc_vV G (b := 111) (rest := []) (As := [.int (iv 1), .long (jv 100000000000000000)]) (c_X12_turnsTo ω l μ 1 100000000000000000 (by omega) (by unfold jr; omega)) (wm 10 87 rfl rfl) (wm 10 89 rfl rfl) (wm 0 189 rfl rfl) rfl rfl (by decide) rfl (wm 1 18 rfl rfl) (wm 10 90 rfl rfl) (by decide) hR (by decide) (n := 2) rfl rfl (Nat.le_of_ble_eq_true rfl) hl.1 dX12_turns_298 (fun μ60 ρ d0 H locs hp G => ?_)
                          obtain ⟨F_61, hp_62, hs_63, hs_64⟩ := hp
                          exact xr_v G hret hlk dX12_turns_301 ⟨(FrM.tr FrM.rf F_61 (by decide)), (fun j hj => (hp_62 j (fun h9 => hj ((by decide : ∀ x ∈ ([98, 99] : List Int), x ∈ ([98, 99] : List Int)) j h9))))⟩
                      · refine lv_lload hx hb dX12_turns_278 (lv_at hl 1 rfl) ?_
                        refine lv_goto (tgt := 298) hx hb dX12_turns_280 (by decide) ?_
                        refine xc_vV G (b := 111) (rest := []) (As := [.int (iv 1), .long (jv (-2147483648))]) (c_X12_turnsTo ω l μ 1 (-2147483648) (by omega) (by unfold jr; omega)) (wm 10 87 rfl rfl) (wm 10 89 rfl rfl) (wm 0 189 rfl rfl) rfl rfl (by decide) rfl (wm 1 18 rfl rfl) (wm 10 90 rfl rfl) (by decide) hR (by decide) (n := 2) rfl rfl (Nat.le_of_ble_eq_true rfl) hl.1 dX12_turns_298 (fun μ65 ρ d0 H locs hp G => ?_)
                        obtain ⟨F_66, hp_67, hs_68, hs_69⟩ := hp
                        exact xr_v G hret hlk dX12_turns_301 ⟨(FrM.tr FrM.rf F_66 (by decide)), (fun j hj => (hp_67 j (fun h9 => hj ((by decide : ∀ x ∈ ([98, 99] : List Int), x ∈ ([98, 99] : List Int)) j h9))))⟩
                    · refine lv_ldc2 (s := s.setDrawn d0) hx hb G.1.2.2.2.1 (dr_words G.1.2.2.2.2 d0 _ (wm 9 35 rfl rfl)) dX12_turns_257 ?_
                      refine xb_litl (x := 2147483647) (by decide) ?_
                      refine lv_goto (tgt := 266) hx hb dX12_turns_260 (by decide) ?_
                      refine lv_lstore (lv' := [(12, .long (jv 2147483647)), (10, .long (jv (-2147483648))), (8, .long (jv x4)), (6, .double (dv dd_1)), (0, .ref (oP ω 111)), (1, .int (iv x1)), (2, .int (iv x2)), (3, .int (iv x3)), (4, .long (jv x4))]) hx hb dX12_turns_266 hl (by decide) rfl (fun ls hl => ?_)
                      refine lv_aload_n hx hb dX12_turns_268 rfl (lv_at hl 4 rfl) ?_
                      refine lv_iconst (v := iv 1) hx hb dX12_turns_269 rfl ?_
                      refine lv_lload hx hb dX12_turns_270 (lv_at hl 2 rfl) ?_
                      refine lv_lload hx hb dX12_turns_272 (lv_at hl 1 rfl) ?_
                      refine xb_lcmp hx hb hx4 (by unfold jr; omega) dX12_turns_274 ?_
                      have hr_70 : -2147483648 ≤ lcm x4 (-2147483648) ∧ lcm x4 (-2147483648) ≤ 2147483647 := lcm_ir _ _
                      refine xb_if_ge (tgt := 283) hx hb (by unfold ir; omega) dX12_turns_275 (by decide) (fun c_275 => ?_) (fun c_275 => ?_)
                      · refine lv_lload hx hb dX12_turns_283 (lv_at hl 2 rfl) ?_
                        refine lv_lload hx hb dX12_turns_285 (lv_at hl 0 rfl) ?_
                        refine xb_lcmp hx hb hx4 (by unfold jr; omega) dX12_turns_287 ?_
                        have hr_71 : -2147483648 ≤ lcm x4 2147483647 ∧ lcm x4 2147483647 ≤ 2147483647 := lcm_ir _ _
                        refine xb_if_le (tgt := 296) hx hb (by unfold ir; omega) dX12_turns_288 (by decide) (fun c_288 => ?_) (fun c_288 => ?_)
                        · refine lv_lload hx hb dX12_turns_296 (lv_at hl 2 rfl) ?_
                          refine xc_vV G (b := 111) (rest := []) (As := [.int (iv 1), .long (jv x4)]) (c_X12_turnsTo ω l μ 1 x4 (by omega) hx4) (wm 10 87 rfl rfl) (wm 10 89 rfl rfl) (wm 0 189 rfl rfl) rfl rfl (by decide) rfl (wm 1 18 rfl rfl) (wm 10 90 rfl rfl) (by decide) hR (by decide) (n := 2) rfl rfl (Nat.le_of_ble_eq_true rfl) hl.1 dX12_turns_298 (fun μ72 ρ d0 H locs hp G => ?_)
                          obtain ⟨F_73, hp_74, hs_75, hs_76⟩ := hp
                          exact xr_v G hret hlk dX12_turns_301 ⟨(FrM.tr FrM.rf F_73 (by decide)), (fun j hj => (hp_74 j (fun h9 => hj ((by decide : ∀ x ∈ ([98, 99] : List Int), x ∈ ([98, 99] : List Int)) j h9))))⟩
                        · refine lv_lload hx hb dX12_turns_291 (lv_at hl 0 rfl) ?_
                          refine lv_goto (tgt := 298) hx hb dX12_turns_293 (by decide) ?_
                          refine xc_vV G (b := 111) (rest := []) (As := [.int (iv 1), .long (jv 2147483647)]) (c_X12_turnsTo ω l μ 1 2147483647 (by omega) (by unfold jr; omega)) (wm 10 87 rfl rfl) (wm 10 89 rfl rfl) (wm 0 189 rfl rfl) rfl rfl (by decide) rfl (wm 1 18 rfl rfl) (wm 10 90 rfl rfl) (by decide) hR (by decide) (n := 2) rfl rfl (Nat.le_of_ble_eq_true rfl) hl.1 dX12_turns_298 (fun μ77 ρ d0 H locs hp G => ?_)
                          obtain ⟨F_78, hp_79, hs_80, hs_81⟩ := hp
                          exact xr_v G hret hlk dX12_turns_301 ⟨(FrM.tr FrM.rf F_78 (by decide)), (fun j hj => (hp_79 j (fun h9 => hj ((by decide : ∀ x ∈ ([98, 99] : List Int), x ∈ ([98, 99] : List Int)) j h9))))⟩
                      · refine lv_lload hx hb dX12_turns_278 (lv_at hl 1 rfl) ?_
                        refine lv_goto (tgt := 298) hx hb dX12_turns_280 (by decide) ?_
                        refine xc_vV G (b := 111) (rest := []) (As := [.int (iv 1), .long (jv (-2147483648))]) (c_X12_turnsTo ω l μ 1 (-2147483648) (by omega) (by unfold jr; omega)) (wm 10 87 rfl rfl) (wm 10 89 rfl rfl) (wm 0 189 rfl rfl) rfl rfl (by decide) rfl (wm 1 18 rfl rfl) (wm 10 90 rfl rfl) (by decide) hR (by decide) (n := 2) rfl rfl (Nat.le_of_ble_eq_true rfl) hl.1 dX12_turns_298 (fun μ82 ρ d0 H locs hp G => ?_)
                        obtain ⟨F_83, hp_84, hs_85, hs_86⟩ := hp
                        exact xr_v G hret hlk dX12_turns_301 ⟨(FrM.tr FrM.rf F_83 (by decide)), (fun j hj => (hp_84 j (fun h9 => hj ((by decide : ∀ x ∈ ([98, 99] : List Int), x ∈ ([98, 99] : List Int)) j h9))))⟩
                  · refine lv_ldc2 (s := s.setDrawn d0) hx hb G.1.2.2.2.1 (dr_words G.1.2.2.2.2 d0 _ (wm 9 34 rfl rfl)) dX12_turns_246 ?_
                    refine xb_litl (x := 9223372036854775807) (by decide) ?_
                    refine lv_goto (tgt := 266) hx hb dX12_turns_249 (by decide) ?_
                    refine lv_lstore (lv' := [(12, .long (jv 9223372036854775807)), (10, .long (jv (-2147483648))), (8, .long (jv x4)), (6, .double (dv dd_1)), (0, .ref (oP ω 111)), (1, .int (iv x1)), (2, .int (iv x2)), (3, .int (iv x3)), (4, .long (jv x4))]) hx hb dX12_turns_266 hl (by decide) rfl (fun ls hl => ?_)
                    refine lv_aload_n hx hb dX12_turns_268 rfl (lv_at hl 4 rfl) ?_
                    refine lv_iconst (v := iv 1) hx hb dX12_turns_269 rfl ?_
                    refine lv_lload hx hb dX12_turns_270 (lv_at hl 2 rfl) ?_
                    refine lv_lload hx hb dX12_turns_272 (lv_at hl 1 rfl) ?_
                    refine xb_lcmp hx hb hx4 (by unfold jr; omega) dX12_turns_274 ?_
                    have hr_87 : -2147483648 ≤ lcm x4 (-2147483648) ∧ lcm x4 (-2147483648) ≤ 2147483647 := lcm_ir _ _
                    refine xb_if_ge (tgt := 283) hx hb (by unfold ir; omega) dX12_turns_275 (by decide) (fun c_275 => ?_) (fun c_275 => ?_)
                    · refine lv_lload hx hb dX12_turns_283 (lv_at hl 2 rfl) ?_
                      refine lv_lload hx hb dX12_turns_285 (lv_at hl 0 rfl) ?_
                      refine xb_lcmp hx hb hx4 (by unfold jr; omega) dX12_turns_287 ?_
                      have hr_88 : -2147483648 ≤ lcm x4 9223372036854775807 ∧ lcm x4 9223372036854775807 ≤ 2147483647 := lcm_ir _ _
                      refine xb_if_le (tgt := 296) hx hb (by unfold ir; omega) dX12_turns_288 (by decide) (fun c_288 => ?_) (fun c_288 => ?_)
                      · refine lv_lload hx hb dX12_turns_296 (lv_at hl 2 rfl) ?_
                        refine xc_vV G (b := 111) (rest := []) (As := [.int (iv 1), .long (jv x4)]) (c_X12_turnsTo ω l μ 1 x4 (by omega) hx4) (wm 10 87 rfl rfl) (wm 10 89 rfl rfl) (wm 0 189 rfl rfl) rfl rfl (by decide) rfl (wm 1 18 rfl rfl) (wm 10 90 rfl rfl) (by decide) hR (by decide) (n := 2) rfl rfl (Nat.le_of_ble_eq_true rfl) hl.1 dX12_turns_298 (fun μ89 ρ d0 H locs hp G => ?_)
                        obtain ⟨F_90, hp_91, hs_92, hs_93⟩ := hp
                        exact xr_v G hret hlk dX12_turns_301 ⟨(FrM.tr FrM.rf F_90 (by decide)), (fun j hj => (hp_91 j (fun h9 => hj ((by decide : ∀ x ∈ ([98, 99] : List Int), x ∈ ([98, 99] : List Int)) j h9))))⟩
                      · refine lv_lload hx hb dX12_turns_291 (lv_at hl 0 rfl) ?_
                        refine lv_goto (tgt := 298) hx hb dX12_turns_293 (by decide) ?_
                        refine xc_vV G (b := 111) (rest := []) (As := [.int (iv 1), .long (jv 9223372036854775807)]) (c_X12_turnsTo ω l μ 1 9223372036854775807 (by omega) (by unfold jr; omega)) (wm 10 87 rfl rfl) (wm 10 89 rfl rfl) (wm 0 189 rfl rfl) rfl rfl (by decide) rfl (wm 1 18 rfl rfl) (wm 10 90 rfl rfl) (by decide) hR (by decide) (n := 2) rfl rfl (Nat.le_of_ble_eq_true rfl) hl.1 dX12_turns_298 (fun μ94 ρ d0 H locs hp G => ?_)
                        obtain ⟨F_95, hp_96, hs_97, hs_98⟩ := hp
                        exact xr_v G hret hlk dX12_turns_301 ⟨(FrM.tr FrM.rf F_95 (by decide)), (fun j hj => (hp_96 j (fun h9 => hj ((by decide : ∀ x ∈ ([98, 99] : List Int), x ∈ ([98, 99] : List Int)) j h9))))⟩
                    · refine lv_lload hx hb dX12_turns_278 (lv_at hl 1 rfl) ?_
                      refine lv_goto (tgt := 298) hx hb dX12_turns_280 (by decide) ?_
                      refine xc_vV G (b := 111) (rest := []) (As := [.int (iv 1), .long (jv (-2147483648))]) (c_X12_turnsTo ω l μ 1 (-2147483648) (by omega) (by unfold jr; omega)) (wm 10 87 rfl rfl) (wm 10 89 rfl rfl) (wm 0 189 rfl rfl) rfl rfl (by decide) rfl (wm 1 18 rfl rfl) (wm 10 90 rfl rfl) (by decide) hR (by decide) (n := 2) rfl rfl (Nat.le_of_ble_eq_true rfl) hl.1 dX12_turns_298 (fun μ99 ρ d0 H locs hp G => ?_)
                      obtain ⟨F_100, hp_101, hs_102, hs_103⟩ := hp
                      exact xr_v G hret hlk dX12_turns_301 ⟨(FrM.tr FrM.rf F_100 (by decide)), (fun j hj => (hp_101 j (fun h9 => hj ((by decide : ∀ x ∈ ([98, 99] : List Int), x ∈ ([98, 99] : List Int)) j h9))))⟩
              · refine lv_ldc2 (s := s.setDrawn d0) hx hb G.1.2.2.2.1 (dr_words G.1.2.2.2.2 d0 _ (wm 10 103 rfl rfl)) dX12_turns_220 ?_
                refine xb_litl (x := (-9223372036854775808)) (by decide) ?_
                refine lv_goto (tgt := 240) hx hb dX12_turns_223 (by decide) ?_
                refine lv_lstore (lv' := [(10, .long (jv (-9223372036854775808))), (8, .long (jv x4)), (6, .double (dv dd_1)), (0, .ref (oP ω 111)), (1, .int (iv x1)), (2, .int (iv x2)), (3, .int (iv x3)), (4, .long (jv x4))]) hx hb dX12_turns_240 hl (by decide) rfl (fun ls hl => ?_)
                refine lv_iload_n hx hb dX12_turns_242 rfl (lv_at hl 5 rfl) ?_
                refine xb_if_ne (tgt := 252) hx hb (by unfold ir; omega) dX12_turns_243 (by decide) (fun c_243 => ?_) (fun c_243 => ?_)
                · refine lv_iload_n hx hb dX12_turns_252 rfl (lv_at hl 5 rfl) ?_
                  refine lv_iconst (v := iv 1) hx hb dX12_turns_253 rfl ?_
                  refine xb_icmp_ne (tgt := 263) hx hb (by unfold ir; omega) (by unfold ir; omega) dX12_turns_254 (by decide) (fun c_254 => ?_) (fun c_254 => ?_)
                  · refine lv_ldc2 (s := s.setDrawn d0) hx hb G.1.2.2.2.1 (dr_words G.1.2.2.2.2 d0 _ (wm 9 36 rfl rfl)) dX12_turns_263 ?_
                    refine xb_litl (x := 100000000000000000) (by decide) ?_
                    refine lv_lstore (lv' := [(12, .long (jv 100000000000000000)), (10, .long (jv (-9223372036854775808))), (8, .long (jv x4)), (6, .double (dv dd_1)), (0, .ref (oP ω 111)), (1, .int (iv x1)), (2, .int (iv x2)), (3, .int (iv x3)), (4, .long (jv x4))]) hx hb dX12_turns_266 hl (by decide) rfl (fun ls hl => ?_)
                    refine lv_aload_n hx hb dX12_turns_268 rfl (lv_at hl 4 rfl) ?_
                    refine lv_iconst (v := iv 1) hx hb dX12_turns_269 rfl ?_
                    refine lv_lload hx hb dX12_turns_270 (lv_at hl 2 rfl) ?_
                    refine lv_lload hx hb dX12_turns_272 (lv_at hl 1 rfl) ?_
                    refine xb_lcmp hx hb hx4 (by unfold jr; omega) dX12_turns_274 ?_
                    have hr_104 : -2147483648 ≤ lcm x4 (-9223372036854775808) ∧ lcm x4 (-9223372036854775808) ≤ 2147483647 := lcm_ir _ _
                    refine xb_if_ge (tgt := 283) hx hb (by unfold ir; omega) dX12_turns_275 (by decide) (fun c_275 => ?_) (fun c_275 => ?_)
                    · refine lv_lload hx hb dX12_turns_283 (lv_at hl 2 rfl) ?_
                      refine lv_lload hx hb dX12_turns_285 (lv_at hl 0 rfl) ?_
                      refine xb_lcmp hx hb hx4 (by unfold jr; omega) dX12_turns_287 ?_
                      have hr_105 : -2147483648 ≤ lcm x4 100000000000000000 ∧ lcm x4 100000000000000000 ≤ 2147483647 := lcm_ir _ _
                      refine xb_if_le (tgt := 296) hx hb (by unfold ir; omega) dX12_turns_288 (by decide) (fun c_288 => ?_) (fun c_288 => ?_)
                      · refine lv_lload hx hb dX12_turns_296 (lv_at hl 2 rfl) ?_
                        refine xc_vV G (b := 111) (rest := []) (As := [.int (iv 1), .long (jv x4)]) (c_X12_turnsTo ω l μ 1 x4 (by omega) hx4) (wm 10 87 rfl rfl) (wm 10 89 rfl rfl) (wm 0 189 rfl rfl) rfl rfl (by decide) rfl (wm 1 18 rfl rfl) (wm 10 90 rfl rfl) (by decide) hR (by decide) (n := 2) rfl rfl (Nat.le_of_ble_eq_true rfl) hl.1 dX12_turns_298 (fun μ106 ρ d0 H locs hp G => ?_)
                        obtain ⟨F_107, hp_108, hs_109, hs_110⟩ := hp
                        exact xr_v G hret hlk dX12_turns_301 ⟨(FrM.tr FrM.rf F_107 (by decide)), (fun j hj => (hp_108 j (fun h9 => hj ((by decide : ∀ x ∈ ([98, 99] : List Int), x ∈ ([98, 99] : List Int)) j h9))))⟩
                      · refine lv_lload hx hb dX12_turns_291 (lv_at hl 0 rfl) ?_
                        refine lv_goto (tgt := 298) hx hb dX12_turns_293 (by decide) ?_
                        refine xc_vV G (b := 111) (rest := []) (As := [.int (iv 1), .long (jv 100000000000000000)]) (c_X12_turnsTo ω l μ 1 100000000000000000 (by omega) (by unfold jr; omega)) (wm 10 87 rfl rfl) (wm 10 89 rfl rfl) (wm 0 189 rfl rfl) rfl rfl (by decide) rfl (wm 1 18 rfl rfl) (wm 10 90 rfl rfl) (by decide) hR (by decide) (n := 2) rfl rfl (Nat.le_of_ble_eq_true rfl) hl.1 dX12_turns_298 (fun μ111 ρ d0 H locs hp G => ?_)
                        obtain ⟨F_112, hp_113, hs_114, hs_115⟩ := hp
                        exact xr_v G hret hlk dX12_turns_301 ⟨(FrM.tr FrM.rf F_112 (by decide)), (fun j hj => (hp_113 j (fun h9 => hj ((by decide : ∀ x ∈ ([98, 99] : List Int), x ∈ ([98, 99] : List Int)) j h9))))⟩
                    · refine lv_lload hx hb dX12_turns_278 (lv_at hl 1 rfl) ?_
                      refine lv_goto (tgt := 298) hx hb dX12_turns_280 (by decide) ?_
                      refine xc_vV G (b := 111) (rest := []) (As := [.int (iv 1), .long (jv (-9223372036854775808))]) (c_X12_turnsTo ω l μ 1 (-9223372036854775808) (by omega) (by unfold jr; omega)) (wm 10 87 rfl rfl) (wm 10 89 rfl rfl) (wm 0 189 rfl rfl) rfl rfl (by decide) rfl (wm 1 18 rfl rfl) (wm 10 90 rfl rfl) (by decide) hR (by decide) (n := 2) rfl rfl (Nat.le_of_ble_eq_true rfl) hl.1 dX12_turns_298 (fun μ116 ρ d0 H locs hp G => ?_)
                      obtain ⟨F_117, hp_118, hs_119, hs_120⟩ := hp
                      exact xr_v G hret hlk dX12_turns_301 ⟨(FrM.tr FrM.rf F_117 (by decide)), (fun j hj => (hp_118 j (fun h9 => hj ((by decide : ∀ x ∈ ([98, 99] : List Int), x ∈ ([98, 99] : List Int)) j h9))))⟩
                  · refine lv_ldc2 (s := s.setDrawn d0) hx hb G.1.2.2.2.1 (dr_words G.1.2.2.2.2 d0 _ (wm 9 35 rfl rfl)) dX12_turns_257 ?_
                    refine xb_litl (x := 2147483647) (by decide) ?_
                    refine lv_goto (tgt := 266) hx hb dX12_turns_260 (by decide) ?_
                    refine lv_lstore (lv' := [(12, .long (jv 2147483647)), (10, .long (jv (-9223372036854775808))), (8, .long (jv x4)), (6, .double (dv dd_1)), (0, .ref (oP ω 111)), (1, .int (iv x1)), (2, .int (iv x2)), (3, .int (iv x3)), (4, .long (jv x4))]) hx hb dX12_turns_266 hl (by decide) rfl (fun ls hl => ?_)
                    refine lv_aload_n hx hb dX12_turns_268 rfl (lv_at hl 4 rfl) ?_
                    refine lv_iconst (v := iv 1) hx hb dX12_turns_269 rfl ?_
                    refine lv_lload hx hb dX12_turns_270 (lv_at hl 2 rfl) ?_
                    refine lv_lload hx hb dX12_turns_272 (lv_at hl 1 rfl) ?_
                    refine xb_lcmp hx hb hx4 (by unfold jr; omega) dX12_turns_274 ?_
                    have hr_121 : -2147483648 ≤ lcm x4 (-9223372036854775808) ∧ lcm x4 (-9223372036854775808) ≤ 2147483647 := lcm_ir _ _
                    refine xb_if_ge (tgt := 283) hx hb (by unfold ir; omega) dX12_turns_275 (by decide) (fun c_275 => ?_) (fun c_275 => ?_)
                    · refine lv_lload hx hb dX12_turns_283 (lv_at hl 2 rfl) ?_
                      refine lv_lload hx hb dX12_turns_285 (lv_at hl 0 rfl) ?_
                      refine xb_lcmp hx hb hx4 (by unfold jr; omega) dX12_turns_287 ?_
                      have hr_122 : -2147483648 ≤ lcm x4 2147483647 ∧ lcm x4 2147483647 ≤ 2147483647 := lcm_ir _ _
                      refine xb_if_le (tgt := 296) hx hb (by unfold ir; omega) dX12_turns_288 (by decide) (fun c_288 => ?_) (fun c_288 => ?_)
                      · refine lv_lload hx hb dX12_turns_296 (lv_at hl 2 rfl) ?_
                        refine xc_vV G (b := 111) (rest := []) (As := [.int (iv 1), .long (jv x4)]) (c_X12_turnsTo ω l μ 1 x4 (by omega) hx4) (wm 10 87 rfl rfl) (wm 10 89 rfl rfl) (wm 0 189 rfl rfl) rfl rfl (by decide) rfl (wm 1 18 rfl rfl) (wm 10 90 rfl rfl) (by decide) hR (by decide) (n := 2) rfl rfl (Nat.le_of_ble_eq_true rfl) hl.1 dX12_turns_298 (fun μ123 ρ d0 H locs hp G => ?_)
                        obtain ⟨F_124, hp_125, hs_126, hs_127⟩ := hp
                        exact xr_v G hret hlk dX12_turns_301 ⟨(FrM.tr FrM.rf F_124 (by decide)), (fun j hj => (hp_125 j (fun h9 => hj ((by decide : ∀ x ∈ ([98, 99] : List Int), x ∈ ([98, 99] : List Int)) j h9))))⟩
                      · refine lv_lload hx hb dX12_turns_291 (lv_at hl 0 rfl) ?_
                        refine lv_goto (tgt := 298) hx hb dX12_turns_293 (by decide) ?_
                        refine xc_vV G (b := 111) (rest := []) (As := [.int (iv 1), .long (jv 2147483647)]) (c_X12_turnsTo ω l μ 1 2147483647 (by omega) (by unfold jr; omega)) (wm 10 87 rfl rfl) (wm 10 89 rfl rfl) (wm 0 189 rfl rfl) rfl rfl (by decide) rfl (wm 1 18 rfl rfl) (wm 10 90 rfl rfl) (by decide) hR (by decide) (n := 2) rfl rfl (Nat.le_of_ble_eq_true rfl) hl.1 dX12_turns_298 (fun μ128 ρ d0 H locs hp G => ?_)
                        obtain ⟨F_129, hp_130, hs_131, hs_132⟩ := hp
                        exact xr_v G hret hlk dX12_turns_301 ⟨(FrM.tr FrM.rf F_129 (by decide)), (fun j hj => (hp_130 j (fun h9 => hj ((by decide : ∀ x ∈ ([98, 99] : List Int), x ∈ ([98, 99] : List Int)) j h9))))⟩
                    · refine lv_lload hx hb dX12_turns_278 (lv_at hl 1 rfl) ?_
                      refine lv_goto (tgt := 298) hx hb dX12_turns_280 (by decide) ?_
                      refine xc_vV G (b := 111) (rest := []) (As := [.int (iv 1), .long (jv (-9223372036854775808))]) (c_X12_turnsTo ω l μ 1 (-9223372036854775808) (by omega) (by unfold jr; omega)) (wm 10 87 rfl rfl) (wm 10 89 rfl rfl) (wm 0 189 rfl rfl) rfl rfl (by decide) rfl (wm 1 18 rfl rfl) (wm 10 90 rfl rfl) (by decide) hR (by decide) (n := 2) rfl rfl (Nat.le_of_ble_eq_true rfl) hl.1 dX12_turns_298 (fun μ133 ρ d0 H locs hp G => ?_)
                      obtain ⟨F_134, hp_135, hs_136, hs_137⟩ := hp
                      exact xr_v G hret hlk dX12_turns_301 ⟨(FrM.tr FrM.rf F_134 (by decide)), (fun j hj => (hp_135 j (fun h9 => hj ((by decide : ∀ x ∈ ([98, 99] : List Int), x ∈ ([98, 99] : List Int)) j h9))))⟩
                · refine lv_ldc2 (s := s.setDrawn d0) hx hb G.1.2.2.2.1 (dr_words G.1.2.2.2.2 d0 _ (wm 9 34 rfl rfl)) dX12_turns_246 ?_
                  refine xb_litl (x := 9223372036854775807) (by decide) ?_
                  refine lv_goto (tgt := 266) hx hb dX12_turns_249 (by decide) ?_
                  refine lv_lstore (lv' := [(12, .long (jv 9223372036854775807)), (10, .long (jv (-9223372036854775808))), (8, .long (jv x4)), (6, .double (dv dd_1)), (0, .ref (oP ω 111)), (1, .int (iv x1)), (2, .int (iv x2)), (3, .int (iv x3)), (4, .long (jv x4))]) hx hb dX12_turns_266 hl (by decide) rfl (fun ls hl => ?_)
                  refine lv_aload_n hx hb dX12_turns_268 rfl (lv_at hl 4 rfl) ?_
                  refine lv_iconst (v := iv 1) hx hb dX12_turns_269 rfl ?_
                  refine lv_lload hx hb dX12_turns_270 (lv_at hl 2 rfl) ?_
                  refine lv_lload hx hb dX12_turns_272 (lv_at hl 1 rfl) ?_
                  refine xb_lcmp hx hb hx4 (by unfold jr; omega) dX12_turns_274 ?_
                  have hr_138 : -2147483648 ≤ lcm x4 (-9223372036854775808) ∧ lcm x4 (-9223372036854775808) ≤ 2147483647 := lcm_ir _ _
                  refine xb_if_ge (tgt := 283) hx hb (by unfold ir; omega) dX12_turns_275 (by decide) (fun c_275 => ?_) (fun c_275 => ?_)
                  · refine lv_lload hx hb dX12_turns_283 (lv_at hl 2 rfl) ?_
                    refine lv_lload hx hb dX12_turns_285 (lv_at hl 0 rfl) ?_
                    refine xb_lcmp hx hb hx4 (by unfold jr; omega) dX12_turns_287 ?_
                    have hr_139 : -2147483648 ≤ lcm x4 9223372036854775807 ∧ lcm x4 9223372036854775807 ≤ 2147483647 := lcm_ir _ _
                    refine xb_if_le (tgt := 296) hx hb (by unfold ir; omega) dX12_turns_288 (by decide) (fun c_288 => ?_) (fun c_288 => ?_)
                    · refine lv_lload hx hb dX12_turns_296 (lv_at hl 2 rfl) ?_
                      refine xc_vV G (b := 111) (rest := []) (As := [.int (iv 1), .long (jv x4)]) (c_X12_turnsTo ω l μ 1 x4 (by omega) hx4) (wm 10 87 rfl rfl) (wm 10 89 rfl rfl) (wm 0 189 rfl rfl) rfl rfl (by decide) rfl (wm 1 18 rfl rfl) (wm 10 90 rfl rfl) (by decide) hR (by decide) (n := 2) rfl rfl (Nat.le_of_ble_eq_true rfl) hl.1 dX12_turns_298 (fun μ140 ρ d0 H locs hp G => ?_)
                      obtain ⟨F_141, hp_142, hs_143, hs_144⟩ := hp
                      exact xr_v G hret hlk dX12_turns_301 ⟨(FrM.tr FrM.rf F_141 (by decide)), (fun j hj => (hp_142 j (fun h9 => hj ((by decide : ∀ x ∈ ([98, 99] : List Int), x ∈ ([98, 99] : List Int)) j h9))))⟩
                    · refine lv_lload hx hb dX12_turns_291 (lv_at hl 0 rfl) ?_
                      refine lv_goto (tgt := 298) hx hb dX12_turns_293 (by decide) ?_
                      refine xc_vV G (b := 111) (rest := []) (As := [.int (iv 1), .long (jv 9223372036854775807)]) (c_X12_turnsTo ω l μ 1 9223372036854775807 (by omega) (by unfold jr; omega)) (wm 10 87 rfl rfl) (wm 10 89 rfl rfl) (wm 0 189 rfl rfl) rfl rfl (by decide) rfl (wm 1 18 rfl rfl) (wm 10 90 rfl rfl) (by decide) hR (by decide) (n := 2) rfl rfl (Nat.le_of_ble_eq_true rfl) hl.1 dX12_turns_298 (fun μ145 ρ d0 H locs hp G => ?_)
                      obtain ⟨F_146, hp_147, hs_148, hs_149⟩ := hp
                      exact xr_v G hret hlk dX12_turns_301 ⟨(FrM.tr FrM.rf F_146 (by decide)), (fun j hj => (hp_147 j (fun h9 => hj ((by decide : ∀ x ∈ ([98, 99] : List Int), x ∈ ([98, 99] : List Int)) j h9))))⟩
                  · refine lv_lload hx hb dX12_turns_278 (lv_at hl 1 rfl) ?_
                    refine lv_goto (tgt := 298) hx hb dX12_turns_280 (by decide) ?_
                    refine xc_vV G (b := 111) (rest := []) (As := [.int (iv 1), .long (jv (-9223372036854775808))]) (c_X12_turnsTo ω l μ 1 (-9223372036854775808) (by omega) (by unfold jr; omega)) (wm 10 87 rfl rfl) (wm 10 89 rfl rfl) (wm 0 189 rfl rfl) rfl rfl (by decide) rfl (wm 1 18 rfl rfl) (wm 10 90 rfl rfl) (by decide) hR (by decide) (n := 2) rfl rfl (Nat.le_of_ble_eq_true rfl) hl.1 dX12_turns_298 (fun μ150 ρ d0 H locs hp G => ?_)
                    obtain ⟨F_151, hp_152, hs_153, hs_154⟩ := hp
                    exact xr_v G hret hlk dX12_turns_301 ⟨(FrM.tr FrM.rf F_151 (by decide)), (fun j hj => (hp_152 j (fun h9 => hj ((by decide : ∀ x ∈ ([98, 99] : List Int), x ∈ ([98, 99] : List Int)) j h9))))⟩
            · refine lv_aload_n hx hb dX12_turns_181 rfl (lv_at hl 2 rfl) ?_
              refine lv_iconst (v := iv 1) hx hb dX12_turns_182 rfl ?_
              refine lv_iload_n hx hb dX12_turns_183 rfl (lv_at hl 4 rfl) ?_
              refine xb_if_ne (tgt := 192) hx hb (by unfold ir; omega) dX12_turns_184 (by decide) (fun c_184 => ?_) (fun c_184 => ?_)
              · refine lv_iload_n hx hb dX12_turns_192 rfl (lv_at hl 4 rfl) ?_
                refine lv_iconst (v := iv 1) hx hb dX12_turns_193 rfl ?_
                refine xb_icmp_ne (tgt := 204) hx hb (by unfold ir; omega) (by unfold ir; omega) dX12_turns_194 (by decide) (fun c_194 => ?_) (fun c_194 => ?_)
                · refine lv_lload hx hb dX12_turns_204 (lv_at hl 0 rfl) ?_
                  refine lv_ldc2 (s := s.setDrawn d0) hx hb G.1.2.2.2.1 (dr_words G.1.2.2.2.2 d0 _ (wm 9 36 rfl rfl)) dX12_turns_206 ?_
                  refine xb_litl (x := 100000000000000000) (by decide) ?_
                  refine lv_lrem hx hb dX12_turns_209 (by decide) ?_
                  refine xb_topl (fun z_155 hr_z_155 he_z_155 => ?_)
                  refine xc_vV G (b := 111) (rest := []) (As := [.int (iv 1), .long (jv z_155)]) (c_X12_turnsTo ω l μ 1 z_155 (by omega) hr_z_155) (wm 10 87 rfl rfl) (wm 10 89 rfl rfl) (wm 0 189 rfl rfl) rfl rfl (by decide) rfl (wm 1 18 rfl rfl) (wm 10 90 rfl rfl) (by decide) hR (by decide) (n := 2) rfl rfl (Nat.le_of_ble_eq_true rfl) hl.1 dX12_turns_210 (fun μ156 ρ d0 H locs hp G => ?_)
                  obtain ⟨F_157, hp_158, hs_159, hs_160⟩ := hp
                  refine lv_goto (tgt := 301) hx hb dX12_turns_213 (by decide) ?_
                  exact xr_v G hret hlk dX12_turns_301 ⟨(FrM.tr FrM.rf F_157 (by decide)), (fun j hj => (hp_158 j (fun h9 => hj ((by decide : ∀ x ∈ ([98, 99] : List Int), x ∈ ([98, 99] : List Int)) j h9))))⟩
                · refine lv_lload hx hb dX12_turns_197 (lv_at hl 0 rfl) ?_
                  refine xb_l2i hx hb dX12_turns_199 ?_
                  refine xb_topi (fun y_161 hr_y_161 he_y_161 => ?_)
                  have hr_y_161 : -2147483648 ≤ y_161 ∧ y_161 ≤ 2147483647 := hr_y_161
                  refine xb_i2l hx hb (by unfold ir; omega) dX12_turns_200 ?_
                  refine lv_goto (tgt := 210) hx hb dX12_turns_201 (by decide) ?_
                  refine xc_vV G (b := 111) (rest := []) (As := [.int (iv 1), .long (jv y_161)]) (c_X12_turnsTo ω l μ 1 y_161 (by omega) (by unfold jr; omega)) (wm 10 87 rfl rfl) (wm 10 89 rfl rfl) (wm 0 189 rfl rfl) rfl rfl (by decide) rfl (wm 1 18 rfl rfl) (wm 10 90 rfl rfl) (by decide) hR (by decide) (n := 2) rfl rfl (Nat.le_of_ble_eq_true rfl) hl.1 dX12_turns_210 (fun μ162 ρ d0 H locs hp G => ?_)
                  obtain ⟨F_163, hp_164, hs_165, hs_166⟩ := hp
                  refine lv_goto (tgt := 301) hx hb dX12_turns_213 (by decide) ?_
                  exact xr_v G hret hlk dX12_turns_301 ⟨(FrM.tr FrM.rf F_163 (by decide)), (fun j hj => (hp_164 j (fun h9 => hj ((by decide : ∀ x ∈ ([98, 99] : List Int), x ∈ ([98, 99] : List Int)) j h9))))⟩
              · refine lv_lload hx hb dX12_turns_187 (lv_at hl 0 rfl) ?_
                refine lv_goto (tgt := 210) hx hb dX12_turns_189 (by decide) ?_
                refine xc_vV G (b := 111) (rest := []) (As := [.int (iv 1), .long (jv x4)]) (c_X12_turnsTo ω l μ 1 x4 (by omega) hx4) (wm 10 87 rfl rfl) (wm 10 89 rfl rfl) (wm 0 189 rfl rfl) rfl rfl (by decide) rfl (wm 1 18 rfl rfl) (wm 10 90 rfl rfl) (by decide) hR (by decide) (n := 2) rfl rfl (Nat.le_of_ble_eq_true rfl) hl.1 dX12_turns_210 (fun μ167 ρ d0 H locs hp G => ?_)
                obtain ⟨F_168, hp_169, hs_170, hs_171⟩ := hp
                refine lv_goto (tgt := 301) hx hb dX12_turns_213 (by decide) ?_
                exact xr_v G hret hlk dX12_turns_301 ⟨(FrM.tr FrM.rf F_168 (by decide)), (fun j hj => (hp_169 j (fun h9 => hj ((by decide : ∀ x ∈ ([98, 99] : List Int), x ∈ ([98, 99] : List Int)) j h9))))⟩
          · refine lv_iload_n hx hb dX12_turns_109 rfl (lv_at hl 3 rfl) ?_
            refine lv_iconst (v := iv 3) hx hb dX12_turns_110 rfl ?_
            refine xb_icmp_ne (tgt := 141) hx hb (by unfold ir; omega) (by unfold ir; omega) dX12_turns_111 (by decide) (fun c_111 => ?_) (fun c_111 => ?_)
            · refine lv_iconst (v := iv 1) hx hb dX12_turns_141 rfl ?_
              refine lv_goto (tgt := 146) hx hb dX12_turns_142 (by decide) ?_
              refine lv_istore (lv' := [(10, .int (iv 1)), (8, .long (jv x4)), (6, .double (dv dd_1)), (0, .ref (oP ω 111)), (1, .int (iv x1)), (2, .int (iv x2)), (3, .int (iv x3)), (4, .long (jv x4))]) hx hb dX12_turns_146 hl (by decide) rfl (fun ls hl => ?_)
              refine lv_aload_n hx hb dX12_turns_148 rfl (lv_at hl 3 rfl) ?_
              refine lv_iload hx hb dX12_turns_149 (lv_at hl 0 rfl) ?_
              refine xb_if_eq (tgt := 167) hx hb (x := 1) (by unfold ir; omega) dX12_turns_151 (by decide) (fun c_151 => absurd c_151 (by decide)) (fun c_151 => ?_)
              refine lv_iload_n hx hb dX12_turns_154 rfl (lv_at hl 5 rfl) ?_
              refine lv_lload hx hb dX12_turns_155 (lv_at hl 1 rfl) ?_
              refine xc_iS G (rest := [.ref (oP ω 111)]) (As := [.int (iv x2), .long (jv x4)]) (c_X12_has ω l μ x2 x4 (by unfold ir; omega) hx4) (wm 10 99 rfl rfl) (wm 10 100 rfl rfl) (wm 1 18 rfl rfl) (wm 10 101 rfl rfl) (by decide) hR (by decide) (n := 2) rfl rfl (Nat.le_of_ble_eq_true rfl) hl.1 dX12_turns_157 (fun r_173 μ172 ρ d0 H locs hr_r_173 hp G => ?_)
              have hr_r_173 : -2147483648 ≤ r_173 ∧ r_173 ≤ 2147483647 := hr_r_173
              have hsm_174 := hp
              have hsm_174 := Eq.symm hsm_174
              subst hsm_174
              refine xb_if_eq (tgt := 167) hx hb (by unfold ir; omega) dX12_turns_160 (by decide) (fun c_160 => ?_) (fun c_160 => ?_)
              · refine lv_iconst (v := iv 0) hx hb dX12_turns_167 rfl ?_
                refine lv_lload hx hb dX12_turns_168 (lv_at hl 1 rfl) ?_
                refine xc_vV G (b := 111) (rest := []) (As := [.int (iv 0), .long (jv x4)]) (c_X12_turnsTo ω l μ 0 x4 (by omega) hx4) (wm 10 87 rfl rfl) (wm 10 89 rfl rfl) (wm 0 189 rfl rfl) rfl rfl (by decide) rfl (wm 1 18 rfl rfl) (wm 10 90 rfl rfl) (by decide) hR (by decide) (n := 2) rfl rfl (Nat.le_of_ble_eq_true rfl) hl.1 dX12_turns_170 (fun μ175 ρ d0 H locs hp G => ?_)
                obtain ⟨F_176, hp_177, hs_178, hs_179⟩ := hp
                refine lv_goto (tgt := 301) hx hb dX12_turns_173 (by decide) ?_
                exact xr_v G hret hlk dX12_turns_301 ⟨(FrM.tr FrM.rf F_176 (by decide)), (fun j hj => (hp_177 j (fun h9 => hj ((by decide : ∀ x ∈ ([98, 99] : List Int), x ∈ ([98, 99] : List Int)) j h9))))⟩
              · refine lv_iconst (v := iv 1) hx hb dX12_turns_163 rfl ?_
                refine lv_goto (tgt := 168) hx hb dX12_turns_164 (by decide) ?_
                refine lv_lload hx hb dX12_turns_168 (lv_at hl 1 rfl) ?_
                refine xc_vV G (b := 111) (rest := []) (As := [.int (iv 1), .long (jv x4)]) (c_X12_turnsTo ω l μ 1 x4 (by omega) hx4) (wm 10 87 rfl rfl) (wm 10 89 rfl rfl) (wm 0 189 rfl rfl) rfl rfl (by decide) rfl (wm 1 18 rfl rfl) (wm 10 90 rfl rfl) (by decide) hR (by decide) (n := 2) rfl rfl (Nat.le_of_ble_eq_true rfl) hl.1 dX12_turns_170 (fun μ180 ρ d0 H locs hp G => ?_)
                obtain ⟨F_181, hp_182, hs_183, hs_184⟩ := hp
                refine lv_goto (tgt := 301) hx hb dX12_turns_173 (by decide) ?_
                exact xr_v G hret hlk dX12_turns_301 ⟨(FrM.tr FrM.rf F_181 (by decide)), (fun j hj => (hp_182 j (fun h9 => hj ((by decide : ∀ x ∈ ([98, 99] : List Int), x ∈ ([98, 99] : List Int)) j h9))))⟩
            · refine lv_dload hx hb dX12_turns_114 (lv_at hl 1 rfl) ?_
              refine lv_ldc2d (s := s.setDrawn d0) hx hb G.1.2.2.2.1 (dr_words G.1.2.2.2.2 d0 _ (wm 10 97 rfl rfl)) dX12_turns_116 ?_
              refine xb_topd (fun dd_185 he_dd_185 => ?_)
              refine lv_dcmp hx hb dX12_turns_119 ?_
              refine xb_topi (fun y_186 hr_y_186 he_y_186 => ?_)
              have hr_y_186 : -2147483648 ≤ y_186 ∧ y_186 ≤ 2147483647 := hr_y_186
              refine xb_if_lt (tgt := 145) hx hb (by unfold ir; omega) dX12_turns_120 (by decide) (fun c_120 => ?_) (fun c_120 => ?_)
              · refine lv_iconst (v := iv 0) hx hb dX12_turns_145 rfl ?_
                refine lv_istore (lv' := [(10, .int (iv 0)), (8, .long (jv x4)), (6, .double (dv dd_1)), (0, .ref (oP ω 111)), (1, .int (iv x1)), (2, .int (iv x2)), (3, .int (iv x3)), (4, .long (jv x4))]) hx hb dX12_turns_146 hl (by decide) rfl (fun ls hl => ?_)
                refine lv_aload_n hx hb dX12_turns_148 rfl (lv_at hl 3 rfl) ?_
                refine lv_iload hx hb dX12_turns_149 (lv_at hl 0 rfl) ?_
                refine xb_if_eq (tgt := 167) hx hb (x := 0) (by unfold ir; omega) dX12_turns_151 (by decide) (fun c_151 => ?_) (fun c_151 => absurd (by decide) c_151)
                refine lv_iconst (v := iv 0) hx hb dX12_turns_167 rfl ?_
                refine lv_lload hx hb dX12_turns_168 (lv_at hl 1 rfl) ?_
                refine xc_vV G (b := 111) (rest := []) (As := [.int (iv 0), .long (jv x4)]) (c_X12_turnsTo ω l μ 0 x4 (by omega) hx4) (wm 10 87 rfl rfl) (wm 10 89 rfl rfl) (wm 0 189 rfl rfl) rfl rfl (by decide) rfl (wm 1 18 rfl rfl) (wm 10 90 rfl rfl) (by decide) hR (by decide) (n := 2) rfl rfl (Nat.le_of_ble_eq_true rfl) hl.1 dX12_turns_170 (fun μ187 ρ d0 H locs hp G => ?_)
                obtain ⟨F_188, hp_189, hs_190, hs_191⟩ := hp
                refine lv_goto (tgt := 301) hx hb dX12_turns_173 (by decide) ?_
                exact xr_v G hret hlk dX12_turns_301 ⟨(FrM.tr FrM.rf F_188 (by decide)), (fun j hj => (hp_189 j (fun h9 => hj ((by decide : ∀ x ∈ ([98, 99] : List Int), x ∈ ([98, 99] : List Int)) j h9))))⟩
              · refine lv_dload hx hb dX12_turns_123 (lv_at hl 1 rfl) ?_
                refine lv_ldc2d (s := s.setDrawn d0) hx hb G.1.2.2.2.1 (dr_words G.1.2.2.2.2 d0 _ (wm 10 98 rfl rfl)) dX12_turns_125 ?_
                refine xb_topd (fun dd_192 he_dd_192 => ?_)
                refine lv_dcmp hx hb dX12_turns_128 ?_
                refine xb_topi (fun y_193 hr_y_193 he_y_193 => ?_)
                have hr_y_193 : -2147483648 ≤ y_193 ∧ y_193 ≤ 2147483647 := hr_y_193
                refine xb_if_ge (tgt := 145) hx hb (by unfold ir; omega) dX12_turns_129 (by decide) (fun c_129 => ?_) (fun c_129 => ?_)
                · refine lv_iconst (v := iv 0) hx hb dX12_turns_145 rfl ?_
                  refine lv_istore (lv' := [(10, .int (iv 0)), (8, .long (jv x4)), (6, .double (dv dd_1)), (0, .ref (oP ω 111)), (1, .int (iv x1)), (2, .int (iv x2)), (3, .int (iv x3)), (4, .long (jv x4))]) hx hb dX12_turns_146 hl (by decide) rfl (fun ls hl => ?_)
                  refine lv_aload_n hx hb dX12_turns_148 rfl (lv_at hl 3 rfl) ?_
                  refine lv_iload hx hb dX12_turns_149 (lv_at hl 0 rfl) ?_
                  refine xb_if_eq (tgt := 167) hx hb (x := 0) (by unfold ir; omega) dX12_turns_151 (by decide) (fun c_151 => ?_) (fun c_151 => absurd (by decide) c_151)
                  refine lv_iconst (v := iv 0) hx hb dX12_turns_167 rfl ?_
                  refine lv_lload hx hb dX12_turns_168 (lv_at hl 1 rfl) ?_
                  refine xc_vV G (b := 111) (rest := []) (As := [.int (iv 0), .long (jv x4)]) (c_X12_turnsTo ω l μ 0 x4 (by omega) hx4) (wm 10 87 rfl rfl) (wm 10 89 rfl rfl) (wm 0 189 rfl rfl) rfl rfl (by decide) rfl (wm 1 18 rfl rfl) (wm 10 90 rfl rfl) (by decide) hR (by decide) (n := 2) rfl rfl (Nat.le_of_ble_eq_true rfl) hl.1 dX12_turns_170 (fun μ194 ρ d0 H locs hp G => ?_)
                  obtain ⟨F_195, hp_196, hs_197, hs_198⟩ := hp
                  refine lv_goto (tgt := 301) hx hb dX12_turns_173 (by decide) ?_
                  exact xr_v G hret hlk dX12_turns_301 ⟨(FrM.tr FrM.rf F_195 (by decide)), (fun j hj => (hp_196 j (fun h9 => hj ((by decide : ∀ x ∈ ([98, 99] : List Int), x ∈ ([98, 99] : List Int)) j h9))))⟩
                · refine lv_lload hx hb dX12_turns_132 (lv_at hl 0 rfl) ?_
                  refine lv_l2d hx hb dX12_turns_134 ?_
                  refine xb_topd (fun dd_199 he_dd_199 => ?_)
                  refine lv_dload hx hb dX12_turns_135 (lv_at hl 1 rfl) ?_
                  refine lv_dcmp hx hb dX12_turns_137 ?_
                  refine xb_topi (fun y_200 hr_y_200 he_y_200 => ?_)
                  have hr_y_200 : -2147483648 ≤ y_200 ∧ y_200 ≤ 2147483647 := hr_y_200
                  refine xb_if_ne (tgt := 145) hx hb (by unfold ir; omega) dX12_turns_138 (by decide) (fun c_138 => ?_) (fun c_138 => ?_)
                  · refine lv_iconst (v := iv 0) hx hb dX12_turns_145 rfl ?_
                    refine lv_istore (lv' := [(10, .int (iv 0)), (8, .long (jv x4)), (6, .double (dv dd_1)), (0, .ref (oP ω 111)), (1, .int (iv x1)), (2, .int (iv x2)), (3, .int (iv x3)), (4, .long (jv x4))]) hx hb dX12_turns_146 hl (by decide) rfl (fun ls hl => ?_)
                    refine lv_aload_n hx hb dX12_turns_148 rfl (lv_at hl 3 rfl) ?_
                    refine lv_iload hx hb dX12_turns_149 (lv_at hl 0 rfl) ?_
                    refine xb_if_eq (tgt := 167) hx hb (x := 0) (by unfold ir; omega) dX12_turns_151 (by decide) (fun c_151 => ?_) (fun c_151 => absurd (by decide) c_151)
                    refine lv_iconst (v := iv 0) hx hb dX12_turns_167 rfl ?_
                    refine lv_lload hx hb dX12_turns_168 (lv_at hl 1 rfl) ?_
                    refine xc_vV G (b := 111) (rest := []) (As := [.int (iv 0), .long (jv x4)]) (c_X12_turnsTo ω l μ 0 x4 (by omega) hx4) (wm 10 87 rfl rfl) (wm 10 89 rfl rfl) (wm 0 189 rfl rfl) rfl rfl (by decide) rfl (wm 1 18 rfl rfl) (wm 10 90 rfl rfl) (by decide) hR (by decide) (n := 2) rfl rfl (Nat.le_of_ble_eq_true rfl) hl.1 dX12_turns_170 (fun μ201 ρ d0 H locs hp G => ?_)
                    obtain ⟨F_202, hp_203, hs_204, hs_205⟩ := hp
                    refine lv_goto (tgt := 301) hx hb dX12_turns_173 (by decide) ?_
                    exact xr_v G hret hlk dX12_turns_301 ⟨(FrM.tr FrM.rf F_202 (by decide)), (fun j hj => (hp_203 j (fun h9 => hj ((by decide : ∀ x ∈ ([98, 99] : List Int), x ∈ ([98, 99] : List Int)) j h9))))⟩
                  · refine lv_iconst (v := iv 1) hx hb dX12_turns_141 rfl ?_
                    refine lv_goto (tgt := 146) hx hb dX12_turns_142 (by decide) ?_
                    refine lv_istore (lv' := [(10, .int (iv 1)), (8, .long (jv x4)), (6, .double (dv dd_1)), (0, .ref (oP ω 111)), (1, .int (iv x1)), (2, .int (iv x2)), (3, .int (iv x3)), (4, .long (jv x4))]) hx hb dX12_turns_146 hl (by decide) rfl (fun ls hl => ?_)
                    refine lv_aload_n hx hb dX12_turns_148 rfl (lv_at hl 3 rfl) ?_
                    refine lv_iload hx hb dX12_turns_149 (lv_at hl 0 rfl) ?_
                    refine xb_if_eq (tgt := 167) hx hb (x := 1) (by unfold ir; omega) dX12_turns_151 (by decide) (fun c_151 => absurd c_151 (by decide)) (fun c_151 => ?_)
                    refine lv_iload_n hx hb dX12_turns_154 rfl (lv_at hl 5 rfl) ?_
                    refine lv_lload hx hb dX12_turns_155 (lv_at hl 1 rfl) ?_
                    refine xc_iS G (rest := [.ref (oP ω 111)]) (As := [.int (iv x2), .long (jv x4)]) (c_X12_has ω l μ x2 x4 (by unfold ir; omega) hx4) (wm 10 99 rfl rfl) (wm 10 100 rfl rfl) (wm 1 18 rfl rfl) (wm 10 101 rfl rfl) (by decide) hR (by decide) (n := 2) rfl rfl (Nat.le_of_ble_eq_true rfl) hl.1 dX12_turns_157 (fun r_207 μ206 ρ d0 H locs hr_r_207 hp G => ?_)
                    have hr_r_207 : -2147483648 ≤ r_207 ∧ r_207 ≤ 2147483647 := hr_r_207
                    have hsm_208 := hp
                    have hsm_208 := Eq.symm hsm_208
                    subst hsm_208
                    refine xb_if_eq (tgt := 167) hx hb (by unfold ir; omega) dX12_turns_160 (by decide) (fun c_160 => ?_) (fun c_160 => ?_)
                    · refine lv_iconst (v := iv 0) hx hb dX12_turns_167 rfl ?_
                      refine lv_lload hx hb dX12_turns_168 (lv_at hl 1 rfl) ?_
                      refine xc_vV G (b := 111) (rest := []) (As := [.int (iv 0), .long (jv x4)]) (c_X12_turnsTo ω l μ 0 x4 (by omega) hx4) (wm 10 87 rfl rfl) (wm 10 89 rfl rfl) (wm 0 189 rfl rfl) rfl rfl (by decide) rfl (wm 1 18 rfl rfl) (wm 10 90 rfl rfl) (by decide) hR (by decide) (n := 2) rfl rfl (Nat.le_of_ble_eq_true rfl) hl.1 dX12_turns_170 (fun μ209 ρ d0 H locs hp G => ?_)
                      obtain ⟨F_210, hp_211, hs_212, hs_213⟩ := hp
                      refine lv_goto (tgt := 301) hx hb dX12_turns_173 (by decide) ?_
                      exact xr_v G hret hlk dX12_turns_301 ⟨(FrM.tr FrM.rf F_210 (by decide)), (fun j hj => (hp_211 j (fun h9 => hj ((by decide : ∀ x ∈ ([98, 99] : List Int), x ∈ ([98, 99] : List Int)) j h9))))⟩
                    · refine lv_iconst (v := iv 1) hx hb dX12_turns_163 rfl ?_
                      refine lv_goto (tgt := 168) hx hb dX12_turns_164 (by decide) ?_
                      refine lv_lload hx hb dX12_turns_168 (lv_at hl 1 rfl) ?_
                      refine xc_vV G (b := 111) (rest := []) (As := [.int (iv 1), .long (jv x4)]) (c_X12_turnsTo ω l μ 1 x4 (by omega) hx4) (wm 10 87 rfl rfl) (wm 10 89 rfl rfl) (wm 0 189 rfl rfl) rfl rfl (by decide) rfl (wm 1 18 rfl rfl) (wm 10 90 rfl rfl) (by decide) hR (by decide) (n := 2) rfl rfl (Nat.le_of_ble_eq_true rfl) hl.1 dX12_turns_170 (fun μ214 ρ d0 H locs hp G => ?_)
                      obtain ⟨F_215, hp_216, hs_217, hs_218⟩ := hp
                      refine lv_goto (tgt := 301) hx hb dX12_turns_173 (by decide) ?_
                      exact xr_v G hret hlk dX12_turns_301 ⟨(FrM.tr FrM.rf F_215 (by decide)), (fun j hj => (hp_216 j (fun h9 => hj ((by decide : ∀ x ∈ ([98, 99] : List Int), x ∈ ([98, 99] : List Int)) j h9))))⟩
        · refine lv_lload hx hb dX12_turns_49 (lv_at hl 0 rfl) ?_
          refine lv_l2d hx hb dX12_turns_51 ?_
          refine xb_topd (fun dd_219 he_dd_219 => ?_)
          refine lv_dstore (lv' := [(10, .double (dv dd_219)), (8, .long (jv x4)), (6, .double (dv dd_1)), (0, .ref (oP ω 111)), (1, .int (iv x1)), (2, .int (iv x2)), (3, .int (iv x3)), (4, .long (jv x4))]) hx hb dX12_turns_52 hl (by decide) rfl (fun ls hl => ?_)
          refine lv_dload hx hb dX12_turns_54 (lv_at hl 0 rfl) ?_
          refine lv_d2l hx hb dX12_turns_56 ?_
          refine xb_topl (fun z_220 hr_z_220 he_z_220 => ?_)
          refine lv_lload hx hb dX12_turns_57 (lv_at hl 1 rfl) ?_
          refine xb_lcmp hx hb hr_z_220 hx4 dX12_turns_59 ?_
          have hr_221 : -2147483648 ≤ lcm z_220 x4 ∧ lcm z_220 x4 ≤ 2147483647 := lcm_ir _ _
          refine xb_if_ne (tgt := 76) hx hb (by unfold ir; omega) dX12_turns_60 (by decide) (fun c_60 => ?_) (fun c_60 => ?_)
          · refine lv_iconst (v := iv 0) hx hb dX12_turns_76 rfl ?_
            refine lv_istore (lv' := [(12, .int (iv 0)), (10, .double (dv dd_219)), (8, .long (jv x4)), (6, .double (dv dd_1)), (0, .ref (oP ω 111)), (1, .int (iv x1)), (2, .int (iv x2)), (3, .int (iv x3)), (4, .long (jv x4))]) hx hb dX12_turns_77 hl (by decide) rfl (fun ls hl => ?_)
            refine lv_aload_n hx hb dX12_turns_79 rfl (lv_at hl 4 rfl) ?_
            refine lv_iload_n hx hb dX12_turns_80 rfl (lv_at hl 7 rfl) ?_
            refine xb_if_gt (tgt := 89) hx hb (by unfold ir; omega) dX12_turns_81 (by decide) (fun c_81 => ?_) (fun c_81 => ?_)
            · refine lv_iconst (v := iv 1) hx hb dX12_turns_89 rfl ?_
              refine lv_goto (tgt := 94) hx hb dX12_turns_90 (by decide) ?_
              refine lv_dload hx hb dX12_turns_94 (lv_at hl 1 rfl) ?_
              refine xc_lS G (rest := [.int (iv 1), .ref (oP ω 111)]) (As := [.double (dv dd_219)]) (c_Jxe99ae_doubleToLongBits_ccdee ω l μ dd_219 ) (wm 9 44 rfl rfl) (wm 9 45 rfl rfl) (wm 1 23 rfl rfl) (wm 9 46 rfl rfl) (by decide) hR (by decide) (n := 1) rfl rfl (Nat.le_of_ble_eq_true rfl) hl.1 dX12_turns_96 (fun r_223 μ222 ρ d0 H locs hr_r_223 hp G => ?_)
              obtain ⟨hsm_224, hp_225⟩ := hp
              have hsm_224 := Eq.symm hsm_224
              subst hsm_224
              refine xc_vV G (b := 111) (rest := []) (As := [.int (iv 1), .long (jv r_223)]) (c_X12_turnsTo ω l μ 1 r_223 (by omega) hr_r_223) (wm 10 87 rfl rfl) (wm 10 89 rfl rfl) (wm 0 189 rfl rfl) rfl rfl (by decide) rfl (wm 1 18 rfl rfl) (wm 10 90 rfl rfl) (by decide) hR (by decide) (n := 2) rfl rfl (Nat.le_of_ble_eq_true rfl) hl.1 dX12_turns_99 (fun μ226 ρ d0 H locs hp G => ?_)
              obtain ⟨F_227, hp_228, hs_229, hs_230⟩ := hp
              refine lv_goto (tgt := 301) hx hb dX12_turns_102 (by decide) ?_
              exact xr_v G hret hlk dX12_turns_301 ⟨(FrM.tr FrM.rf F_227 (by decide)), (fun j hj => (hp_228 j (fun h9 => hj ((by decide : ∀ x ∈ ([98, 99] : List Int), x ∈ ([98, 99] : List Int)) j h9))))⟩
            · refine lv_iload hx hb dX12_turns_84 (lv_at hl 0 rfl) ?_
              refine xb_if_eq (tgt := 93) hx hb (x := 0) (by unfold ir; omega) dX12_turns_86 (by decide) (fun c_86 => ?_) (fun c_86 => absurd (by decide) c_86)
              refine lv_iconst (v := iv 0) hx hb dX12_turns_93 rfl ?_
              refine lv_dload hx hb dX12_turns_94 (lv_at hl 1 rfl) ?_
              refine xc_lS G (rest := [.int (iv 0), .ref (oP ω 111)]) (As := [.double (dv dd_219)]) (c_Jxe99ae_doubleToLongBits_ccdee ω l μ dd_219 ) (wm 9 44 rfl rfl) (wm 9 45 rfl rfl) (wm 1 23 rfl rfl) (wm 9 46 rfl rfl) (by decide) hR (by decide) (n := 1) rfl rfl (Nat.le_of_ble_eq_true rfl) hl.1 dX12_turns_96 (fun r_232 μ231 ρ d0 H locs hr_r_232 hp G => ?_)
              obtain ⟨hsm_233, hp_234⟩ := hp
              have hsm_233 := Eq.symm hsm_233
              subst hsm_233
              refine xc_vV G (b := 111) (rest := []) (As := [.int (iv 0), .long (jv r_232)]) (c_X12_turnsTo ω l μ 0 r_232 (by omega) hr_r_232) (wm 10 87 rfl rfl) (wm 10 89 rfl rfl) (wm 0 189 rfl rfl) rfl rfl (by decide) rfl (wm 1 18 rfl rfl) (wm 10 90 rfl rfl) (by decide) hR (by decide) (n := 2) rfl rfl (Nat.le_of_ble_eq_true rfl) hl.1 dX12_turns_99 (fun μ235 ρ d0 H locs hp G => ?_)
              obtain ⟨F_236, hp_237, hs_238, hs_239⟩ := hp
              refine lv_goto (tgt := 301) hx hb dX12_turns_102 (by decide) ?_
              exact xr_v G hret hlk dX12_turns_301 ⟨(FrM.tr FrM.rf F_236 (by decide)), (fun j hj => (hp_237 j (fun h9 => hj ((by decide : ∀ x ∈ ([98, 99] : List Int), x ∈ ([98, 99] : List Int)) j h9))))⟩
          · refine lv_lload hx hb dX12_turns_63 (lv_at hl 1 rfl) ?_
            refine lv_ldc2 (s := s.setDrawn d0) hx hb G.1.2.2.2.1 (dr_words G.1.2.2.2.2 d0 _ (wm 9 34 rfl rfl)) dX12_turns_65 ?_
            refine xb_litl (x := 9223372036854775807) (by decide) ?_
            refine xb_lcmp hx hb hx4 (by unfold jr; omega) dX12_turns_68 ?_
            have hr_240 : -2147483648 ≤ lcm x4 9223372036854775807 ∧ lcm x4 9223372036854775807 ≤ 2147483647 := lcm_ir _ _
            refine xb_if_eq (tgt := 76) hx hb (by unfold ir; omega) dX12_turns_69 (by decide) (fun c_69 => ?_) (fun c_69 => ?_)
            · refine lv_iconst (v := iv 0) hx hb dX12_turns_76 rfl ?_
              refine lv_istore (lv' := [(12, .int (iv 0)), (10, .double (dv dd_219)), (8, .long (jv x4)), (6, .double (dv dd_1)), (0, .ref (oP ω 111)), (1, .int (iv x1)), (2, .int (iv x2)), (3, .int (iv x3)), (4, .long (jv x4))]) hx hb dX12_turns_77 hl (by decide) rfl (fun ls hl => ?_)
              refine lv_aload_n hx hb dX12_turns_79 rfl (lv_at hl 4 rfl) ?_
              refine lv_iload_n hx hb dX12_turns_80 rfl (lv_at hl 7 rfl) ?_
              refine xb_if_gt (tgt := 89) hx hb (by unfold ir; omega) dX12_turns_81 (by decide) (fun c_81 => ?_) (fun c_81 => ?_)
              · refine lv_iconst (v := iv 1) hx hb dX12_turns_89 rfl ?_
                refine lv_goto (tgt := 94) hx hb dX12_turns_90 (by decide) ?_
                refine lv_dload hx hb dX12_turns_94 (lv_at hl 1 rfl) ?_
                refine xc_lS G (rest := [.int (iv 1), .ref (oP ω 111)]) (As := [.double (dv dd_219)]) (c_Jxe99ae_doubleToLongBits_ccdee ω l μ dd_219 ) (wm 9 44 rfl rfl) (wm 9 45 rfl rfl) (wm 1 23 rfl rfl) (wm 9 46 rfl rfl) (by decide) hR (by decide) (n := 1) rfl rfl (Nat.le_of_ble_eq_true rfl) hl.1 dX12_turns_96 (fun r_242 μ241 ρ d0 H locs hr_r_242 hp G => ?_)
                obtain ⟨hsm_243, hp_244⟩ := hp
                have hsm_243 := Eq.symm hsm_243
                subst hsm_243
                refine xc_vV G (b := 111) (rest := []) (As := [.int (iv 1), .long (jv r_242)]) (c_X12_turnsTo ω l μ 1 r_242 (by omega) hr_r_242) (wm 10 87 rfl rfl) (wm 10 89 rfl rfl) (wm 0 189 rfl rfl) rfl rfl (by decide) rfl (wm 1 18 rfl rfl) (wm 10 90 rfl rfl) (by decide) hR (by decide) (n := 2) rfl rfl (Nat.le_of_ble_eq_true rfl) hl.1 dX12_turns_99 (fun μ245 ρ d0 H locs hp G => ?_)
                obtain ⟨F_246, hp_247, hs_248, hs_249⟩ := hp
                refine lv_goto (tgt := 301) hx hb dX12_turns_102 (by decide) ?_
                exact xr_v G hret hlk dX12_turns_301 ⟨(FrM.tr FrM.rf F_246 (by decide)), (fun j hj => (hp_247 j (fun h9 => hj ((by decide : ∀ x ∈ ([98, 99] : List Int), x ∈ ([98, 99] : List Int)) j h9))))⟩
              · refine lv_iload hx hb dX12_turns_84 (lv_at hl 0 rfl) ?_
                refine xb_if_eq (tgt := 93) hx hb (x := 0) (by unfold ir; omega) dX12_turns_86 (by decide) (fun c_86 => ?_) (fun c_86 => absurd (by decide) c_86)
                refine lv_iconst (v := iv 0) hx hb dX12_turns_93 rfl ?_
                refine lv_dload hx hb dX12_turns_94 (lv_at hl 1 rfl) ?_
                refine xc_lS G (rest := [.int (iv 0), .ref (oP ω 111)]) (As := [.double (dv dd_219)]) (c_Jxe99ae_doubleToLongBits_ccdee ω l μ dd_219 ) (wm 9 44 rfl rfl) (wm 9 45 rfl rfl) (wm 1 23 rfl rfl) (wm 9 46 rfl rfl) (by decide) hR (by decide) (n := 1) rfl rfl (Nat.le_of_ble_eq_true rfl) hl.1 dX12_turns_96 (fun r_251 μ250 ρ d0 H locs hr_r_251 hp G => ?_)
                obtain ⟨hsm_252, hp_253⟩ := hp
                have hsm_252 := Eq.symm hsm_252
                subst hsm_252
                refine xc_vV G (b := 111) (rest := []) (As := [.int (iv 0), .long (jv r_251)]) (c_X12_turnsTo ω l μ 0 r_251 (by omega) hr_r_251) (wm 10 87 rfl rfl) (wm 10 89 rfl rfl) (wm 0 189 rfl rfl) rfl rfl (by decide) rfl (wm 1 18 rfl rfl) (wm 10 90 rfl rfl) (by decide) hR (by decide) (n := 2) rfl rfl (Nat.le_of_ble_eq_true rfl) hl.1 dX12_turns_99 (fun μ254 ρ d0 H locs hp G => ?_)
                obtain ⟨F_255, hp_256, hs_257, hs_258⟩ := hp
                refine lv_goto (tgt := 301) hx hb dX12_turns_102 (by decide) ?_
                exact xr_v G hret hlk dX12_turns_301 ⟨(FrM.tr FrM.rf F_255 (by decide)), (fun j hj => (hp_256 j (fun h9 => hj ((by decide : ∀ x ∈ ([98, 99] : List Int), x ∈ ([98, 99] : List Int)) j h9))))⟩
            · refine lv_iconst (v := iv 1) hx hb dX12_turns_72 rfl ?_
              refine lv_goto (tgt := 77) hx hb dX12_turns_73 (by decide) ?_
              refine lv_istore (lv' := [(12, .int (iv 1)), (10, .double (dv dd_219)), (8, .long (jv x4)), (6, .double (dv dd_1)), (0, .ref (oP ω 111)), (1, .int (iv x1)), (2, .int (iv x2)), (3, .int (iv x3)), (4, .long (jv x4))]) hx hb dX12_turns_77 hl (by decide) rfl (fun ls hl => ?_)
              refine lv_aload_n hx hb dX12_turns_79 rfl (lv_at hl 4 rfl) ?_
              refine lv_iload_n hx hb dX12_turns_80 rfl (lv_at hl 7 rfl) ?_
              refine xb_if_gt (tgt := 89) hx hb (by unfold ir; omega) dX12_turns_81 (by decide) (fun c_81 => ?_) (fun c_81 => ?_)
              · refine lv_iconst (v := iv 1) hx hb dX12_turns_89 rfl ?_
                refine lv_goto (tgt := 94) hx hb dX12_turns_90 (by decide) ?_
                refine lv_dload hx hb dX12_turns_94 (lv_at hl 1 rfl) ?_
                refine xc_lS G (rest := [.int (iv 1), .ref (oP ω 111)]) (As := [.double (dv dd_219)]) (c_Jxe99ae_doubleToLongBits_ccdee ω l μ dd_219 ) (wm 9 44 rfl rfl) (wm 9 45 rfl rfl) (wm 1 23 rfl rfl) (wm 9 46 rfl rfl) (by decide) hR (by decide) (n := 1) rfl rfl (Nat.le_of_ble_eq_true rfl) hl.1 dX12_turns_96 (fun r_260 μ259 ρ d0 H locs hr_r_260 hp G => ?_)
                obtain ⟨hsm_261, hp_262⟩ := hp
                have hsm_261 := Eq.symm hsm_261
                subst hsm_261
                refine xc_vV G (b := 111) (rest := []) (As := [.int (iv 1), .long (jv r_260)]) (c_X12_turnsTo ω l μ 1 r_260 (by omega) hr_r_260) (wm 10 87 rfl rfl) (wm 10 89 rfl rfl) (wm 0 189 rfl rfl) rfl rfl (by decide) rfl (wm 1 18 rfl rfl) (wm 10 90 rfl rfl) (by decide) hR (by decide) (n := 2) rfl rfl (Nat.le_of_ble_eq_true rfl) hl.1 dX12_turns_99 (fun μ263 ρ d0 H locs hp G => ?_)
                obtain ⟨F_264, hp_265, hs_266, hs_267⟩ := hp
                refine lv_goto (tgt := 301) hx hb dX12_turns_102 (by decide) ?_
                exact xr_v G hret hlk dX12_turns_301 ⟨(FrM.tr FrM.rf F_264 (by decide)), (fun j hj => (hp_265 j (fun h9 => hj ((by decide : ∀ x ∈ ([98, 99] : List Int), x ∈ ([98, 99] : List Int)) j h9))))⟩
              · refine lv_iload hx hb dX12_turns_84 (lv_at hl 0 rfl) ?_
                refine xb_if_eq (tgt := 93) hx hb (x := 1) (by unfold ir; omega) dX12_turns_86 (by decide) (fun c_86 => absurd c_86 (by decide)) (fun c_86 => ?_)
                refine lv_iconst (v := iv 1) hx hb dX12_turns_89 rfl ?_
                refine lv_goto (tgt := 94) hx hb dX12_turns_90 (by decide) ?_
                refine lv_dload hx hb dX12_turns_94 (lv_at hl 1 rfl) ?_
                refine xc_lS G (rest := [.int (iv 1), .ref (oP ω 111)]) (As := [.double (dv dd_219)]) (c_Jxe99ae_doubleToLongBits_ccdee ω l μ dd_219 ) (wm 9 44 rfl rfl) (wm 9 45 rfl rfl) (wm 1 23 rfl rfl) (wm 9 46 rfl rfl) (by decide) hR (by decide) (n := 1) rfl rfl (Nat.le_of_ble_eq_true rfl) hl.1 dX12_turns_96 (fun r_269 μ268 ρ d0 H locs hr_r_269 hp G => ?_)
                obtain ⟨hsm_270, hp_271⟩ := hp
                have hsm_270 := Eq.symm hsm_270
                subst hsm_270
                refine xc_vV G (b := 111) (rest := []) (As := [.int (iv 1), .long (jv r_269)]) (c_X12_turnsTo ω l μ 1 r_269 (by omega) hr_r_269) (wm 10 87 rfl rfl) (wm 10 89 rfl rfl) (wm 0 189 rfl rfl) rfl rfl (by decide) rfl (wm 1 18 rfl rfl) (wm 10 90 rfl rfl) (by decide) hR (by decide) (n := 2) rfl rfl (Nat.le_of_ble_eq_true rfl) hl.1 dX12_turns_99 (fun μ272 ρ d0 H locs hp G => ?_)
                obtain ⟨F_273, hp_274, hs_275, hs_276⟩ := hp
                refine lv_goto (tgt := 301) hx hb dX12_turns_102 (by decide) ?_
                exact xr_v G hret hlk dX12_turns_301 ⟨(FrM.tr FrM.rf F_273 (by decide)), (fun j hj => (hp_274 j (fun h9 => hj ((by decide : ∀ x ∈ ([98, 99] : List Int), x ∈ ([98, 99] : List Int)) j h9))))⟩
      · refine lv_dload hx hb dX12_turns_34 (lv_at hl 0 rfl) ?_
        refine lv_d2l hx hb dX12_turns_36 ?_
        refine xb_topl (fun z_277 hr_z_277 he_z_277 => ?_)
        refine lv_goto (tgt := 42) hx hb dX12_turns_37 (by decide) ?_
        refine lv_lstore (lv' := [(8, .long (jv z_277)), (6, .double (dv dd_1)), (0, .ref (oP ω 111)), (1, .int (iv x1)), (2, .int (iv x2)), (3, .int (iv x3)), (4, .long (jv x4))]) hx hb dX12_turns_42 hl (by decide) rfl (fun ls hl => ?_)
        refine lv_iload_n hx hb dX12_turns_44 rfl (lv_at hl 4 rfl) ?_
        refine lv_iconst (v := iv 3) hx hb dX12_turns_45 rfl ?_
        refine xb_icmp_ne (tgt := 105) hx hb (by unfold ir; omega) (by unfold ir; omega) dX12_turns_46 (by decide) (fun c_46 => ?_) (fun c_46 => ?_)
        · refine lv_iload_n hx hb dX12_turns_105 rfl (lv_at hl 5 rfl) ?_
          refine xb_if_ne (tgt := 176) hx hb (by unfold ir; omega) dX12_turns_106 (by decide) (fun c_106 => ?_) (fun c_106 => ?_)
          · refine lv_iload_n hx hb dX12_turns_176 rfl (lv_at hl 5 rfl) ?_
            refine lv_iconst (v := iv 1) hx hb dX12_turns_177 rfl ?_
            refine xb_icmp_ne (tgt := 216) hx hb (by unfold ir; omega) (by unfold ir; omega) dX12_turns_178 (by decide) (fun c_178 => ?_) (fun c_178 => ?_)
            · refine lv_iload_n hx hb dX12_turns_216 rfl (lv_at hl 4 rfl) ?_
              refine xb_if_ne (tgt := 226) hx hb (by unfold ir; omega) dX12_turns_217 (by decide) (fun c_217 => ?_) (fun c_217 => ?_)
              · refine lv_iload_n hx hb dX12_turns_226 rfl (lv_at hl 4 rfl) ?_
                refine lv_iconst (v := iv 1) hx hb dX12_turns_227 rfl ?_
                refine xb_icmp_ne (tgt := 237) hx hb (by unfold ir; omega) (by unfold ir; omega) dX12_turns_228 (by decide) (fun c_228 => ?_) (fun c_228 => ?_)
                · refine lv_ldc2 (s := s.setDrawn d0) hx hb G.1.2.2.2.1 (dr_words G.1.2.2.2.2 d0 _ (wm 10 102 rfl rfl)) dX12_turns_237 ?_
                  refine xb_litl (x := (-100000000000000000)) (by decide) ?_
                  refine lv_lstore (lv' := [(10, .long (jv (-100000000000000000))), (8, .long (jv z_277)), (6, .double (dv dd_1)), (0, .ref (oP ω 111)), (1, .int (iv x1)), (2, .int (iv x2)), (3, .int (iv x3)), (4, .long (jv x4))]) hx hb dX12_turns_240 hl (by decide) rfl (fun ls hl => ?_)
                  refine lv_iload_n hx hb dX12_turns_242 rfl (lv_at hl 5 rfl) ?_
                  refine xb_if_ne (tgt := 252) hx hb (by unfold ir; omega) dX12_turns_243 (by decide) (fun c_243 => ?_) (fun c_243 => ?_)
                  · refine lv_iload_n hx hb dX12_turns_252 rfl (lv_at hl 5 rfl) ?_
                    refine lv_iconst (v := iv 1) hx hb dX12_turns_253 rfl ?_
                    refine xb_icmp_ne (tgt := 263) hx hb (by unfold ir; omega) (by unfold ir; omega) dX12_turns_254 (by decide) (fun c_254 => ?_) (fun c_254 => ?_)
                    · refine lv_ldc2 (s := s.setDrawn d0) hx hb G.1.2.2.2.1 (dr_words G.1.2.2.2.2 d0 _ (wm 9 36 rfl rfl)) dX12_turns_263 ?_
                      refine xb_litl (x := 100000000000000000) (by decide) ?_
                      refine lv_lstore (lv' := [(12, .long (jv 100000000000000000)), (10, .long (jv (-100000000000000000))), (8, .long (jv z_277)), (6, .double (dv dd_1)), (0, .ref (oP ω 111)), (1, .int (iv x1)), (2, .int (iv x2)), (3, .int (iv x3)), (4, .long (jv x4))]) hx hb dX12_turns_266 hl (by decide) rfl (fun ls hl => ?_)
                      refine lv_aload_n hx hb dX12_turns_268 rfl (lv_at hl 4 rfl) ?_
                      refine lv_iconst (v := iv 1) hx hb dX12_turns_269 rfl ?_
                      refine lv_lload hx hb dX12_turns_270 (lv_at hl 2 rfl) ?_
                      refine lv_lload hx hb dX12_turns_272 (lv_at hl 1 rfl) ?_
                      refine xb_lcmp hx hb hr_z_277 (by unfold jr; omega) dX12_turns_274 ?_
                      have hr_278 : -2147483648 ≤ lcm z_277 (-100000000000000000) ∧ lcm z_277 (-100000000000000000) ≤ 2147483647 := lcm_ir _ _
                      refine xb_if_ge (tgt := 283) hx hb (by unfold ir; omega) dX12_turns_275 (by decide) (fun c_275 => ?_) (fun c_275 => ?_)
                      · refine lv_lload hx hb dX12_turns_283 (lv_at hl 2 rfl) ?_
                        refine lv_lload hx hb dX12_turns_285 (lv_at hl 0 rfl) ?_
                        refine xb_lcmp hx hb hr_z_277 (by unfold jr; omega) dX12_turns_287 ?_
                        have hr_279 : -2147483648 ≤ lcm z_277 100000000000000000 ∧ lcm z_277 100000000000000000 ≤ 2147483647 := lcm_ir _ _
                        refine xb_if_le (tgt := 296) hx hb (by unfold ir; omega) dX12_turns_288 (by decide) (fun c_288 => ?_) (fun c_288 => ?_)
                        · refine lv_lload hx hb dX12_turns_296 (lv_at hl 2 rfl) ?_
                          refine xc_vV G (b := 111) (rest := []) (As := [.int (iv 1), .long (jv z_277)]) (c_X12_turnsTo ω l μ 1 z_277 (by omega) hr_z_277) (wm 10 87 rfl rfl) (wm 10 89 rfl rfl) (wm 0 189 rfl rfl) rfl rfl (by decide) rfl (wm 1 18 rfl rfl) (wm 10 90 rfl rfl) (by decide) hR (by decide) (n := 2) rfl rfl (Nat.le_of_ble_eq_true rfl) hl.1 dX12_turns_298 (fun μ280 ρ d0 H locs hp G => ?_)
                          obtain ⟨F_281, hp_282, hs_283, hs_284⟩ := hp
                          exact xr_v G hret hlk dX12_turns_301 ⟨(FrM.tr FrM.rf F_281 (by decide)), (fun j hj => (hp_282 j (fun h9 => hj ((by decide : ∀ x ∈ ([98, 99] : List Int), x ∈ ([98, 99] : List Int)) j h9))))⟩
                        · refine lv_lload hx hb dX12_turns_291 (lv_at hl 0 rfl) ?_
                          refine lv_goto (tgt := 298) hx hb dX12_turns_293 (by decide) ?_
                          refine xc_vV G (b := 111) (rest := []) (As := [.int (iv 1), .long (jv 100000000000000000)]) (c_X12_turnsTo ω l μ 1 100000000000000000 (by omega) (by unfold jr; omega)) (wm 10 87 rfl rfl) (wm 10 89 rfl rfl) (wm 0 189 rfl rfl) rfl rfl (by decide) rfl (wm 1 18 rfl rfl) (wm 10 90 rfl rfl) (by decide) hR (by decide) (n := 2) rfl rfl (Nat.le_of_ble_eq_true rfl) hl.1 dX12_turns_298 (fun μ285 ρ d0 H locs hp G => ?_)
                          obtain ⟨F_286, hp_287, hs_288, hs_289⟩ := hp
                          exact xr_v G hret hlk dX12_turns_301 ⟨(FrM.tr FrM.rf F_286 (by decide)), (fun j hj => (hp_287 j (fun h9 => hj ((by decide : ∀ x ∈ ([98, 99] : List Int), x ∈ ([98, 99] : List Int)) j h9))))⟩
                      · refine lv_lload hx hb dX12_turns_278 (lv_at hl 1 rfl) ?_
                        refine lv_goto (tgt := 298) hx hb dX12_turns_280 (by decide) ?_
                        refine xc_vV G (b := 111) (rest := []) (As := [.int (iv 1), .long (jv (-100000000000000000))]) (c_X12_turnsTo ω l μ 1 (-100000000000000000) (by omega) (by unfold jr; omega)) (wm 10 87 rfl rfl) (wm 10 89 rfl rfl) (wm 0 189 rfl rfl) rfl rfl (by decide) rfl (wm 1 18 rfl rfl) (wm 10 90 rfl rfl) (by decide) hR (by decide) (n := 2) rfl rfl (Nat.le_of_ble_eq_true rfl) hl.1 dX12_turns_298 (fun μ290 ρ d0 H locs hp G => ?_)
                        obtain ⟨F_291, hp_292, hs_293, hs_294⟩ := hp
                        exact xr_v G hret hlk dX12_turns_301 ⟨(FrM.tr FrM.rf F_291 (by decide)), (fun j hj => (hp_292 j (fun h9 => hj ((by decide : ∀ x ∈ ([98, 99] : List Int), x ∈ ([98, 99] : List Int)) j h9))))⟩
                    · refine lv_ldc2 (s := s.setDrawn d0) hx hb G.1.2.2.2.1 (dr_words G.1.2.2.2.2 d0 _ (wm 9 35 rfl rfl)) dX12_turns_257 ?_
                      refine xb_litl (x := 2147483647) (by decide) ?_
                      refine lv_goto (tgt := 266) hx hb dX12_turns_260 (by decide) ?_
                      refine lv_lstore (lv' := [(12, .long (jv 2147483647)), (10, .long (jv (-100000000000000000))), (8, .long (jv z_277)), (6, .double (dv dd_1)), (0, .ref (oP ω 111)), (1, .int (iv x1)), (2, .int (iv x2)), (3, .int (iv x3)), (4, .long (jv x4))]) hx hb dX12_turns_266 hl (by decide) rfl (fun ls hl => ?_)
                      refine lv_aload_n hx hb dX12_turns_268 rfl (lv_at hl 4 rfl) ?_
                      refine lv_iconst (v := iv 1) hx hb dX12_turns_269 rfl ?_
                      refine lv_lload hx hb dX12_turns_270 (lv_at hl 2 rfl) ?_
                      refine lv_lload hx hb dX12_turns_272 (lv_at hl 1 rfl) ?_
                      refine xb_lcmp hx hb hr_z_277 (by unfold jr; omega) dX12_turns_274 ?_
                      have hr_295 : -2147483648 ≤ lcm z_277 (-100000000000000000) ∧ lcm z_277 (-100000000000000000) ≤ 2147483647 := lcm_ir _ _
                      refine xb_if_ge (tgt := 283) hx hb (by unfold ir; omega) dX12_turns_275 (by decide) (fun c_275 => ?_) (fun c_275 => ?_)
                      · refine lv_lload hx hb dX12_turns_283 (lv_at hl 2 rfl) ?_
                        refine lv_lload hx hb dX12_turns_285 (lv_at hl 0 rfl) ?_
                        refine xb_lcmp hx hb hr_z_277 (by unfold jr; omega) dX12_turns_287 ?_
                        have hr_296 : -2147483648 ≤ lcm z_277 2147483647 ∧ lcm z_277 2147483647 ≤ 2147483647 := lcm_ir _ _
                        refine xb_if_le (tgt := 296) hx hb (by unfold ir; omega) dX12_turns_288 (by decide) (fun c_288 => ?_) (fun c_288 => ?_)
                        · refine lv_lload hx hb dX12_turns_296 (lv_at hl 2 rfl) ?_
                          refine xc_vV G (b := 111) (rest := []) (As := [.int (iv 1), .long (jv z_277)]) (c_X12_turnsTo ω l μ 1 z_277 (by omega) hr_z_277) (wm 10 87 rfl rfl) (wm 10 89 rfl rfl) (wm 0 189 rfl rfl) rfl rfl (by decide) rfl (wm 1 18 rfl rfl) (wm 10 90 rfl rfl) (by decide) hR (by decide) (n := 2) rfl rfl (Nat.le_of_ble_eq_true rfl) hl.1 dX12_turns_298 (fun μ297 ρ d0 H locs hp G => ?_)
                          obtain ⟨F_298, hp_299, hs_300, hs_301⟩ := hp
                          exact xr_v G hret hlk dX12_turns_301 ⟨(FrM.tr FrM.rf F_298 (by decide)), (fun j hj => (hp_299 j (fun h9 => hj ((by decide : ∀ x ∈ ([98, 99] : List Int), x ∈ ([98, 99] : List Int)) j h9))))⟩
                        · refine lv_lload hx hb dX12_turns_291 (lv_at hl 0 rfl) ?_
                          refine lv_goto (tgt := 298) hx hb dX12_turns_293 (by decide) ?_
                          refine xc_vV G (b := 111) (rest := []) (As := [.int (iv 1), .long (jv 2147483647)]) (c_X12_turnsTo ω l μ 1 2147483647 (by omega) (by unfold jr; omega)) (wm 10 87 rfl rfl) (wm 10 89 rfl rfl) (wm 0 189 rfl rfl) rfl rfl (by decide) rfl (wm 1 18 rfl rfl) (wm 10 90 rfl rfl) (by decide) hR (by decide) (n := 2) rfl rfl (Nat.le_of_ble_eq_true rfl) hl.1 dX12_turns_298 (fun μ302 ρ d0 H locs hp G => ?_)
                          obtain ⟨F_303, hp_304, hs_305, hs_306⟩ := hp
                          exact xr_v G hret hlk dX12_turns_301 ⟨(FrM.tr FrM.rf F_303 (by decide)), (fun j hj => (hp_304 j (fun h9 => hj ((by decide : ∀ x ∈ ([98, 99] : List Int), x ∈ ([98, 99] : List Int)) j h9))))⟩
                      · refine lv_lload hx hb dX12_turns_278 (lv_at hl 1 rfl) ?_
                        refine lv_goto (tgt := 298) hx hb dX12_turns_280 (by decide) ?_
                        refine xc_vV G (b := 111) (rest := []) (As := [.int (iv 1), .long (jv (-100000000000000000))]) (c_X12_turnsTo ω l μ 1 (-100000000000000000) (by omega) (by unfold jr; omega)) (wm 10 87 rfl rfl) (wm 10 89 rfl rfl) (wm 0 189 rfl rfl) rfl rfl (by decide) rfl (wm 1 18 rfl rfl) (wm 10 90 rfl rfl) (by decide) hR (by decide) (n := 2) rfl rfl (Nat.le_of_ble_eq_true rfl) hl.1 dX12_turns_298 (fun μ307 ρ d0 H locs hp G => ?_)
                        obtain ⟨F_308, hp_309, hs_310, hs_311⟩ := hp
                        exact xr_v G hret hlk dX12_turns_301 ⟨(FrM.tr FrM.rf F_308 (by decide)), (fun j hj => (hp_309 j (fun h9 => hj ((by decide : ∀ x ∈ ([98, 99] : List Int), x ∈ ([98, 99] : List Int)) j h9))))⟩
                  · refine lv_ldc2 (s := s.setDrawn d0) hx hb G.1.2.2.2.1 (dr_words G.1.2.2.2.2 d0 _ (wm 9 34 rfl rfl)) dX12_turns_246 ?_
                    refine xb_litl (x := 9223372036854775807) (by decide) ?_
                    refine lv_goto (tgt := 266) hx hb dX12_turns_249 (by decide) ?_
                    refine lv_lstore (lv' := [(12, .long (jv 9223372036854775807)), (10, .long (jv (-100000000000000000))), (8, .long (jv z_277)), (6, .double (dv dd_1)), (0, .ref (oP ω 111)), (1, .int (iv x1)), (2, .int (iv x2)), (3, .int (iv x3)), (4, .long (jv x4))]) hx hb dX12_turns_266 hl (by decide) rfl (fun ls hl => ?_)
                    refine lv_aload_n hx hb dX12_turns_268 rfl (lv_at hl 4 rfl) ?_
                    refine lv_iconst (v := iv 1) hx hb dX12_turns_269 rfl ?_
                    refine lv_lload hx hb dX12_turns_270 (lv_at hl 2 rfl) ?_
                    refine lv_lload hx hb dX12_turns_272 (lv_at hl 1 rfl) ?_
                    refine xb_lcmp hx hb hr_z_277 (by unfold jr; omega) dX12_turns_274 ?_
                    have hr_312 : -2147483648 ≤ lcm z_277 (-100000000000000000) ∧ lcm z_277 (-100000000000000000) ≤ 2147483647 := lcm_ir _ _
                    refine xb_if_ge (tgt := 283) hx hb (by unfold ir; omega) dX12_turns_275 (by decide) (fun c_275 => ?_) (fun c_275 => ?_)
                    · refine lv_lload hx hb dX12_turns_283 (lv_at hl 2 rfl) ?_
                      refine lv_lload hx hb dX12_turns_285 (lv_at hl 0 rfl) ?_
                      refine xb_lcmp hx hb hr_z_277 (by unfold jr; omega) dX12_turns_287 ?_
                      have hr_313 : -2147483648 ≤ lcm z_277 9223372036854775807 ∧ lcm z_277 9223372036854775807 ≤ 2147483647 := lcm_ir _ _
                      refine xb_if_le (tgt := 296) hx hb (by unfold ir; omega) dX12_turns_288 (by decide) (fun c_288 => ?_) (fun c_288 => ?_)
                      · refine lv_lload hx hb dX12_turns_296 (lv_at hl 2 rfl) ?_
                        refine xc_vV G (b := 111) (rest := []) (As := [.int (iv 1), .long (jv z_277)]) (c_X12_turnsTo ω l μ 1 z_277 (by omega) hr_z_277) (wm 10 87 rfl rfl) (wm 10 89 rfl rfl) (wm 0 189 rfl rfl) rfl rfl (by decide) rfl (wm 1 18 rfl rfl) (wm 10 90 rfl rfl) (by decide) hR (by decide) (n := 2) rfl rfl (Nat.le_of_ble_eq_true rfl) hl.1 dX12_turns_298 (fun μ314 ρ d0 H locs hp G => ?_)
                        obtain ⟨F_315, hp_316, hs_317, hs_318⟩ := hp
                        exact xr_v G hret hlk dX12_turns_301 ⟨(FrM.tr FrM.rf F_315 (by decide)), (fun j hj => (hp_316 j (fun h9 => hj ((by decide : ∀ x ∈ ([98, 99] : List Int), x ∈ ([98, 99] : List Int)) j h9))))⟩
                      · refine lv_lload hx hb dX12_turns_291 (lv_at hl 0 rfl) ?_
                        refine lv_goto (tgt := 298) hx hb dX12_turns_293 (by decide) ?_
                        refine xc_vV G (b := 111) (rest := []) (As := [.int (iv 1), .long (jv 9223372036854775807)]) (c_X12_turnsTo ω l μ 1 9223372036854775807 (by omega) (by unfold jr; omega)) (wm 10 87 rfl rfl) (wm 10 89 rfl rfl) (wm 0 189 rfl rfl) rfl rfl (by decide) rfl (wm 1 18 rfl rfl) (wm 10 90 rfl rfl) (by decide) hR (by decide) (n := 2) rfl rfl (Nat.le_of_ble_eq_true rfl) hl.1 dX12_turns_298 (fun μ319 ρ d0 H locs hp G => ?_)
                        obtain ⟨F_320, hp_321, hs_322, hs_323⟩ := hp
                        exact xr_v G hret hlk dX12_turns_301 ⟨(FrM.tr FrM.rf F_320 (by decide)), (fun j hj => (hp_321 j (fun h9 => hj ((by decide : ∀ x ∈ ([98, 99] : List Int), x ∈ ([98, 99] : List Int)) j h9))))⟩
                    · refine lv_lload hx hb dX12_turns_278 (lv_at hl 1 rfl) ?_
                      refine lv_goto (tgt := 298) hx hb dX12_turns_280 (by decide) ?_
                      refine xc_vV G (b := 111) (rest := []) (As := [.int (iv 1), .long (jv (-100000000000000000))]) (c_X12_turnsTo ω l μ 1 (-100000000000000000) (by omega) (by unfold jr; omega)) (wm 10 87 rfl rfl) (wm 10 89 rfl rfl) (wm 0 189 rfl rfl) rfl rfl (by decide) rfl (wm 1 18 rfl rfl) (wm 10 90 rfl rfl) (by decide) hR (by decide) (n := 2) rfl rfl (Nat.le_of_ble_eq_true rfl) hl.1 dX12_turns_298 (fun μ324 ρ d0 H locs hp G => ?_)
                      obtain ⟨F_325, hp_326, hs_327, hs_328⟩ := hp
                      exact xr_v G hret hlk dX12_turns_301 ⟨(FrM.tr FrM.rf F_325 (by decide)), (fun j hj => (hp_326 j (fun h9 => hj ((by decide : ∀ x ∈ ([98, 99] : List Int), x ∈ ([98, 99] : List Int)) j h9))))⟩
                · refine lv_ldc2 (s := s.setDrawn d0) hx hb G.1.2.2.2.1 (dr_words G.1.2.2.2.2 d0 _ (wm 10 104 rfl rfl)) dX12_turns_231 ?_
                  refine xb_litl (x := (-2147483648)) (by decide) ?_
                  refine lv_goto (tgt := 240) hx hb dX12_turns_234 (by decide) ?_
                  refine lv_lstore (lv' := [(10, .long (jv (-2147483648))), (8, .long (jv z_277)), (6, .double (dv dd_1)), (0, .ref (oP ω 111)), (1, .int (iv x1)), (2, .int (iv x2)), (3, .int (iv x3)), (4, .long (jv x4))]) hx hb dX12_turns_240 hl (by decide) rfl (fun ls hl => ?_)
                  refine lv_iload_n hx hb dX12_turns_242 rfl (lv_at hl 5 rfl) ?_
                  refine xb_if_ne (tgt := 252) hx hb (by unfold ir; omega) dX12_turns_243 (by decide) (fun c_243 => ?_) (fun c_243 => ?_)
                  · refine lv_iload_n hx hb dX12_turns_252 rfl (lv_at hl 5 rfl) ?_
                    refine lv_iconst (v := iv 1) hx hb dX12_turns_253 rfl ?_
                    refine xb_icmp_ne (tgt := 263) hx hb (by unfold ir; omega) (by unfold ir; omega) dX12_turns_254 (by decide) (fun c_254 => ?_) (fun c_254 => ?_)
                    · refine lv_ldc2 (s := s.setDrawn d0) hx hb G.1.2.2.2.1 (dr_words G.1.2.2.2.2 d0 _ (wm 9 36 rfl rfl)) dX12_turns_263 ?_
                      refine xb_litl (x := 100000000000000000) (by decide) ?_
                      refine lv_lstore (lv' := [(12, .long (jv 100000000000000000)), (10, .long (jv (-2147483648))), (8, .long (jv z_277)), (6, .double (dv dd_1)), (0, .ref (oP ω 111)), (1, .int (iv x1)), (2, .int (iv x2)), (3, .int (iv x3)), (4, .long (jv x4))]) hx hb dX12_turns_266 hl (by decide) rfl (fun ls hl => ?_)
                      refine lv_aload_n hx hb dX12_turns_268 rfl (lv_at hl 4 rfl) ?_
                      refine lv_iconst (v := iv 1) hx hb dX12_turns_269 rfl ?_
                      refine lv_lload hx hb dX12_turns_270 (lv_at hl 2 rfl) ?_
                      refine lv_lload hx hb dX12_turns_272 (lv_at hl 1 rfl) ?_
                      refine xb_lcmp hx hb hr_z_277 (by unfold jr; omega) dX12_turns_274 ?_
                      have hr_329 : -2147483648 ≤ lcm z_277 (-2147483648) ∧ lcm z_277 (-2147483648) ≤ 2147483647 := lcm_ir _ _
                      refine xb_if_ge (tgt := 283) hx hb (by unfold ir; omega) dX12_turns_275 (by decide) (fun c_275 => ?_) (fun c_275 => ?_)
                      · refine lv_lload hx hb dX12_turns_283 (lv_at hl 2 rfl) ?_
                        refine lv_lload hx hb dX12_turns_285 (lv_at hl 0 rfl) ?_
                        refine xb_lcmp hx hb hr_z_277 (by unfold jr; omega) dX12_turns_287 ?_
                        have hr_330 : -2147483648 ≤ lcm z_277 100000000000000000 ∧ lcm z_277 100000000000000000 ≤ 2147483647 := lcm_ir _ _
                        refine xb_if_le (tgt := 296) hx hb (by unfold ir; omega) dX12_turns_288 (by decide) (fun c_288 => ?_) (fun c_288 => ?_)
                        · refine lv_lload hx hb dX12_turns_296 (lv_at hl 2 rfl) ?_
                          refine xc_vV G (b := 111) (rest := []) (As := [.int (iv 1), .long (jv z_277)]) (c_X12_turnsTo ω l μ 1 z_277 (by omega) hr_z_277) (wm 10 87 rfl rfl) (wm 10 89 rfl rfl) (wm 0 189 rfl rfl) rfl rfl (by decide) rfl (wm 1 18 rfl rfl) (wm 10 90 rfl rfl) (by decide) hR (by decide) (n := 2) rfl rfl (Nat.le_of_ble_eq_true rfl) hl.1 dX12_turns_298 (fun μ331 ρ d0 H locs hp G => ?_)
                          obtain ⟨F_332, hp_333, hs_334, hs_335⟩ := hp
                          exact xr_v G hret hlk dX12_turns_301 ⟨(FrM.tr FrM.rf F_332 (by decide)), (fun j hj => (hp_333 j (fun h9 => hj ((by decide : ∀ x ∈ ([98, 99] : List Int), x ∈ ([98, 99] : List Int)) j h9))))⟩
                        · refine lv_lload hx hb dX12_turns_291 (lv_at hl 0 rfl) ?_
                          refine lv_goto (tgt := 298) hx hb dX12_turns_293 (by decide) ?_
                          refine xc_vV G (b := 111) (rest := []) (As := [.int (iv 1), .long (jv 100000000000000000)]) (c_X12_turnsTo ω l μ 1 100000000000000000 (by omega) (by unfold jr; omega)) (wm 10 87 rfl rfl) (wm 10 89 rfl rfl) (wm 0 189 rfl rfl) rfl rfl (by decide) rfl (wm 1 18 rfl rfl) (wm 10 90 rfl rfl) (by decide) hR (by decide) (n := 2) rfl rfl (Nat.le_of_ble_eq_true rfl) hl.1 dX12_turns_298 (fun μ336 ρ d0 H locs hp G => ?_)
                          obtain ⟨F_337, hp_338, hs_339, hs_340⟩ := hp
                          exact xr_v G hret hlk dX12_turns_301 ⟨(FrM.tr FrM.rf F_337 (by decide)), (fun j hj => (hp_338 j (fun h9 => hj ((by decide : ∀ x ∈ ([98, 99] : List Int), x ∈ ([98, 99] : List Int)) j h9))))⟩
                      · refine lv_lload hx hb dX12_turns_278 (lv_at hl 1 rfl) ?_
                        refine lv_goto (tgt := 298) hx hb dX12_turns_280 (by decide) ?_
                        refine xc_vV G (b := 111) (rest := []) (As := [.int (iv 1), .long (jv (-2147483648))]) (c_X12_turnsTo ω l μ 1 (-2147483648) (by omega) (by unfold jr; omega)) (wm 10 87 rfl rfl) (wm 10 89 rfl rfl) (wm 0 189 rfl rfl) rfl rfl (by decide) rfl (wm 1 18 rfl rfl) (wm 10 90 rfl rfl) (by decide) hR (by decide) (n := 2) rfl rfl (Nat.le_of_ble_eq_true rfl) hl.1 dX12_turns_298 (fun μ341 ρ d0 H locs hp G => ?_)
                        obtain ⟨F_342, hp_343, hs_344, hs_345⟩ := hp
                        exact xr_v G hret hlk dX12_turns_301 ⟨(FrM.tr FrM.rf F_342 (by decide)), (fun j hj => (hp_343 j (fun h9 => hj ((by decide : ∀ x ∈ ([98, 99] : List Int), x ∈ ([98, 99] : List Int)) j h9))))⟩
                    · refine lv_ldc2 (s := s.setDrawn d0) hx hb G.1.2.2.2.1 (dr_words G.1.2.2.2.2 d0 _ (wm 9 35 rfl rfl)) dX12_turns_257 ?_
                      refine xb_litl (x := 2147483647) (by decide) ?_
                      refine lv_goto (tgt := 266) hx hb dX12_turns_260 (by decide) ?_
                      refine lv_lstore (lv' := [(12, .long (jv 2147483647)), (10, .long (jv (-2147483648))), (8, .long (jv z_277)), (6, .double (dv dd_1)), (0, .ref (oP ω 111)), (1, .int (iv x1)), (2, .int (iv x2)), (3, .int (iv x3)), (4, .long (jv x4))]) hx hb dX12_turns_266 hl (by decide) rfl (fun ls hl => ?_)
                      refine lv_aload_n hx hb dX12_turns_268 rfl (lv_at hl 4 rfl) ?_
                      refine lv_iconst (v := iv 1) hx hb dX12_turns_269 rfl ?_
                      refine lv_lload hx hb dX12_turns_270 (lv_at hl 2 rfl) ?_
                      refine lv_lload hx hb dX12_turns_272 (lv_at hl 1 rfl) ?_
                      refine xb_lcmp hx hb hr_z_277 (by unfold jr; omega) dX12_turns_274 ?_
                      have hr_346 : -2147483648 ≤ lcm z_277 (-2147483648) ∧ lcm z_277 (-2147483648) ≤ 2147483647 := lcm_ir _ _
                      refine xb_if_ge (tgt := 283) hx hb (by unfold ir; omega) dX12_turns_275 (by decide) (fun c_275 => ?_) (fun c_275 => ?_)
                      · refine lv_lload hx hb dX12_turns_283 (lv_at hl 2 rfl) ?_
                        refine lv_lload hx hb dX12_turns_285 (lv_at hl 0 rfl) ?_
                        refine xb_lcmp hx hb hr_z_277 (by unfold jr; omega) dX12_turns_287 ?_
                        have hr_347 : -2147483648 ≤ lcm z_277 2147483647 ∧ lcm z_277 2147483647 ≤ 2147483647 := lcm_ir _ _
                        refine xb_if_le (tgt := 296) hx hb (by unfold ir; omega) dX12_turns_288 (by decide) (fun c_288 => ?_) (fun c_288 => ?_)
                        · refine lv_lload hx hb dX12_turns_296 (lv_at hl 2 rfl) ?_
                          refine xc_vV G (b := 111) (rest := []) (As := [.int (iv 1), .long (jv z_277)]) (c_X12_turnsTo ω l μ 1 z_277 (by omega) hr_z_277) (wm 10 87 rfl rfl) (wm 10 89 rfl rfl) (wm 0 189 rfl rfl) rfl rfl (by decide) rfl (wm 1 18 rfl rfl) (wm 10 90 rfl rfl) (by decide) hR (by decide) (n := 2) rfl rfl (Nat.le_of_ble_eq_true rfl) hl.1 dX12_turns_298 (fun μ348 ρ d0 H locs hp G => ?_)
                          obtain ⟨F_349, hp_350, hs_351, hs_352⟩ := hp
                          exact xr_v G hret hlk dX12_turns_301 ⟨(FrM.tr FrM.rf F_349 (by decide)), (fun j hj => (hp_350 j (fun h9 => hj ((by decide : ∀ x ∈ ([98, 99] : List Int), x ∈ ([98, 99] : List Int)) j h9))))⟩
                        · refine lv_lload hx hb dX12_turns_291 (lv_at hl 0 rfl) ?_
                          refine lv_goto (tgt := 298) hx hb dX12_turns_293 (by decide) ?_
                          refine xc_vV G (b := 111) (rest := []) (As := [.int (iv 1), .long (jv 2147483647)]) (c_X12_turnsTo ω l μ 1 2147483647 (by omega) (by unfold jr; omega)) (wm 10 87 rfl rfl) (wm 10 89 rfl rfl) (wm 0 189 rfl rfl) rfl rfl (by decide) rfl (wm 1 18 rfl rfl) (wm 10 90 rfl rfl) (by decide) hR (by decide) (n := 2) rfl rfl (Nat.le_of_ble_eq_true rfl) hl.1 dX12_turns_298 (fun μ353 ρ d0 H locs hp G => ?_)
                          obtain ⟨F_354, hp_355, hs_356, hs_357⟩ := hp
                          exact xr_v G hret hlk dX12_turns_301 ⟨(FrM.tr FrM.rf F_354 (by decide)), (fun j hj => (hp_355 j (fun h9 => hj ((by decide : ∀ x ∈ ([98, 99] : List Int), x ∈ ([98, 99] : List Int)) j h9))))⟩
                      · refine lv_lload hx hb dX12_turns_278 (lv_at hl 1 rfl) ?_
                        refine lv_goto (tgt := 298) hx hb dX12_turns_280 (by decide) ?_
                        refine xc_vV G (b := 111) (rest := []) (As := [.int (iv 1), .long (jv (-2147483648))]) (c_X12_turnsTo ω l μ 1 (-2147483648) (by omega) (by unfold jr; omega)) (wm 10 87 rfl rfl) (wm 10 89 rfl rfl) (wm 0 189 rfl rfl) rfl rfl (by decide) rfl (wm 1 18 rfl rfl) (wm 10 90 rfl rfl) (by decide) hR (by decide) (n := 2) rfl rfl (Nat.le_of_ble_eq_true rfl) hl.1 dX12_turns_298 (fun μ358 ρ d0 H locs hp G => ?_)
                        obtain ⟨F_359, hp_360, hs_361, hs_362⟩ := hp
                        exact xr_v G hret hlk dX12_turns_301 ⟨(FrM.tr FrM.rf F_359 (by decide)), (fun j hj => (hp_360 j (fun h9 => hj ((by decide : ∀ x ∈ ([98, 99] : List Int), x ∈ ([98, 99] : List Int)) j h9))))⟩
                  · refine lv_ldc2 (s := s.setDrawn d0) hx hb G.1.2.2.2.1 (dr_words G.1.2.2.2.2 d0 _ (wm 9 34 rfl rfl)) dX12_turns_246 ?_
                    refine xb_litl (x := 9223372036854775807) (by decide) ?_
                    refine lv_goto (tgt := 266) hx hb dX12_turns_249 (by decide) ?_
                    refine lv_lstore (lv' := [(12, .long (jv 9223372036854775807)), (10, .long (jv (-2147483648))), (8, .long (jv z_277)), (6, .double (dv dd_1)), (0, .ref (oP ω 111)), (1, .int (iv x1)), (2, .int (iv x2)), (3, .int (iv x3)), (4, .long (jv x4))]) hx hb dX12_turns_266 hl (by decide) rfl (fun ls hl => ?_)
                    refine lv_aload_n hx hb dX12_turns_268 rfl (lv_at hl 4 rfl) ?_
                    refine lv_iconst (v := iv 1) hx hb dX12_turns_269 rfl ?_
                    refine lv_lload hx hb dX12_turns_270 (lv_at hl 2 rfl) ?_
                    refine lv_lload hx hb dX12_turns_272 (lv_at hl 1 rfl) ?_
                    refine xb_lcmp hx hb hr_z_277 (by unfold jr; omega) dX12_turns_274 ?_
                    have hr_363 : -2147483648 ≤ lcm z_277 (-2147483648) ∧ lcm z_277 (-2147483648) ≤ 2147483647 := lcm_ir _ _
                    refine xb_if_ge (tgt := 283) hx hb (by unfold ir; omega) dX12_turns_275 (by decide) (fun c_275 => ?_) (fun c_275 => ?_)
                    · refine lv_lload hx hb dX12_turns_283 (lv_at hl 2 rfl) ?_
                      refine lv_lload hx hb dX12_turns_285 (lv_at hl 0 rfl) ?_
                      refine xb_lcmp hx hb hr_z_277 (by unfold jr; omega) dX12_turns_287 ?_
                      have hr_364 : -2147483648 ≤ lcm z_277 9223372036854775807 ∧ lcm z_277 9223372036854775807 ≤ 2147483647 := lcm_ir _ _
                      refine xb_if_le (tgt := 296) hx hb (by unfold ir; omega) dX12_turns_288 (by decide) (fun c_288 => ?_) (fun c_288 => ?_)
                      · refine lv_lload hx hb dX12_turns_296 (lv_at hl 2 rfl) ?_
                        refine xc_vV G (b := 111) (rest := []) (As := [.int (iv 1), .long (jv z_277)]) (c_X12_turnsTo ω l μ 1 z_277 (by omega) hr_z_277) (wm 10 87 rfl rfl) (wm 10 89 rfl rfl) (wm 0 189 rfl rfl) rfl rfl (by decide) rfl (wm 1 18 rfl rfl) (wm 10 90 rfl rfl) (by decide) hR (by decide) (n := 2) rfl rfl (Nat.le_of_ble_eq_true rfl) hl.1 dX12_turns_298 (fun μ365 ρ d0 H locs hp G => ?_)
                        obtain ⟨F_366, hp_367, hs_368, hs_369⟩ := hp
                        exact xr_v G hret hlk dX12_turns_301 ⟨(FrM.tr FrM.rf F_366 (by decide)), (fun j hj => (hp_367 j (fun h9 => hj ((by decide : ∀ x ∈ ([98, 99] : List Int), x ∈ ([98, 99] : List Int)) j h9))))⟩
                      · refine lv_lload hx hb dX12_turns_291 (lv_at hl 0 rfl) ?_
                        refine lv_goto (tgt := 298) hx hb dX12_turns_293 (by decide) ?_
                        refine xc_vV G (b := 111) (rest := []) (As := [.int (iv 1), .long (jv 9223372036854775807)]) (c_X12_turnsTo ω l μ 1 9223372036854775807 (by omega) (by unfold jr; omega)) (wm 10 87 rfl rfl) (wm 10 89 rfl rfl) (wm 0 189 rfl rfl) rfl rfl (by decide) rfl (wm 1 18 rfl rfl) (wm 10 90 rfl rfl) (by decide) hR (by decide) (n := 2) rfl rfl (Nat.le_of_ble_eq_true rfl) hl.1 dX12_turns_298 (fun μ370 ρ d0 H locs hp G => ?_)
                        obtain ⟨F_371, hp_372, hs_373, hs_374⟩ := hp
                        exact xr_v G hret hlk dX12_turns_301 ⟨(FrM.tr FrM.rf F_371 (by decide)), (fun j hj => (hp_372 j (fun h9 => hj ((by decide : ∀ x ∈ ([98, 99] : List Int), x ∈ ([98, 99] : List Int)) j h9))))⟩
                    · refine lv_lload hx hb dX12_turns_278 (lv_at hl 1 rfl) ?_
                      refine lv_goto (tgt := 298) hx hb dX12_turns_280 (by decide) ?_
                      refine xc_vV G (b := 111) (rest := []) (As := [.int (iv 1), .long (jv (-2147483648))]) (c_X12_turnsTo ω l μ 1 (-2147483648) (by omega) (by unfold jr; omega)) (wm 10 87 rfl rfl) (wm 10 89 rfl rfl) (wm 0 189 rfl rfl) rfl rfl (by decide) rfl (wm 1 18 rfl rfl) (wm 10 90 rfl rfl) (by decide) hR (by decide) (n := 2) rfl rfl (Nat.le_of_ble_eq_true rfl) hl.1 dX12_turns_298 (fun μ375 ρ d0 H locs hp G => ?_)
                      obtain ⟨F_376, hp_377, hs_378, hs_379⟩ := hp
                      exact xr_v G hret hlk dX12_turns_301 ⟨(FrM.tr FrM.rf F_376 (by decide)), (fun j hj => (hp_377 j (fun h9 => hj ((by decide : ∀ x ∈ ([98, 99] : List Int), x ∈ ([98, 99] : List Int)) j h9))))⟩
              · refine lv_ldc2 (s := s.setDrawn d0) hx hb G.1.2.2.2.1 (dr_words G.1.2.2.2.2 d0 _ (wm 10 103 rfl rfl)) dX12_turns_220 ?_
                refine xb_litl (x := (-9223372036854775808)) (by decide) ?_
                refine lv_goto (tgt := 240) hx hb dX12_turns_223 (by decide) ?_
                refine lv_lstore (lv' := [(10, .long (jv (-9223372036854775808))), (8, .long (jv z_277)), (6, .double (dv dd_1)), (0, .ref (oP ω 111)), (1, .int (iv x1)), (2, .int (iv x2)), (3, .int (iv x3)), (4, .long (jv x4))]) hx hb dX12_turns_240 hl (by decide) rfl (fun ls hl => ?_)
                refine lv_iload_n hx hb dX12_turns_242 rfl (lv_at hl 5 rfl) ?_
                refine xb_if_ne (tgt := 252) hx hb (by unfold ir; omega) dX12_turns_243 (by decide) (fun c_243 => ?_) (fun c_243 => ?_)
                · refine lv_iload_n hx hb dX12_turns_252 rfl (lv_at hl 5 rfl) ?_
                  refine lv_iconst (v := iv 1) hx hb dX12_turns_253 rfl ?_
                  refine xb_icmp_ne (tgt := 263) hx hb (by unfold ir; omega) (by unfold ir; omega) dX12_turns_254 (by decide) (fun c_254 => ?_) (fun c_254 => ?_)
                  · refine lv_ldc2 (s := s.setDrawn d0) hx hb G.1.2.2.2.1 (dr_words G.1.2.2.2.2 d0 _ (wm 9 36 rfl rfl)) dX12_turns_263 ?_
                    refine xb_litl (x := 100000000000000000) (by decide) ?_
                    refine lv_lstore (lv' := [(12, .long (jv 100000000000000000)), (10, .long (jv (-9223372036854775808))), (8, .long (jv z_277)), (6, .double (dv dd_1)), (0, .ref (oP ω 111)), (1, .int (iv x1)), (2, .int (iv x2)), (3, .int (iv x3)), (4, .long (jv x4))]) hx hb dX12_turns_266 hl (by decide) rfl (fun ls hl => ?_)
                    refine lv_aload_n hx hb dX12_turns_268 rfl (lv_at hl 4 rfl) ?_
                    refine lv_iconst (v := iv 1) hx hb dX12_turns_269 rfl ?_
                    refine lv_lload hx hb dX12_turns_270 (lv_at hl 2 rfl) ?_
                    refine lv_lload hx hb dX12_turns_272 (lv_at hl 1 rfl) ?_
                    refine xb_lcmp hx hb hr_z_277 (by unfold jr; omega) dX12_turns_274 ?_
                    have hr_380 : -2147483648 ≤ lcm z_277 (-9223372036854775808) ∧ lcm z_277 (-9223372036854775808) ≤ 2147483647 := lcm_ir _ _
                    refine xb_if_ge (tgt := 283) hx hb (by unfold ir; omega) dX12_turns_275 (by decide) (fun c_275 => ?_) (fun c_275 => ?_)
                    · refine lv_lload hx hb dX12_turns_283 (lv_at hl 2 rfl) ?_
                      refine lv_lload hx hb dX12_turns_285 (lv_at hl 0 rfl) ?_
                      refine xb_lcmp hx hb hr_z_277 (by unfold jr; omega) dX12_turns_287 ?_
                      have hr_381 : -2147483648 ≤ lcm z_277 100000000000000000 ∧ lcm z_277 100000000000000000 ≤ 2147483647 := lcm_ir _ _
                      refine xb_if_le (tgt := 296) hx hb (by unfold ir; omega) dX12_turns_288 (by decide) (fun c_288 => ?_) (fun c_288 => ?_)
                      · refine lv_lload hx hb dX12_turns_296 (lv_at hl 2 rfl) ?_
                        refine xc_vV G (b := 111) (rest := []) (As := [.int (iv 1), .long (jv z_277)]) (c_X12_turnsTo ω l μ 1 z_277 (by omega) hr_z_277) (wm 10 87 rfl rfl) (wm 10 89 rfl rfl) (wm 0 189 rfl rfl) rfl rfl (by decide) rfl (wm 1 18 rfl rfl) (wm 10 90 rfl rfl) (by decide) hR (by decide) (n := 2) rfl rfl (Nat.le_of_ble_eq_true rfl) hl.1 dX12_turns_298 (fun μ382 ρ d0 H locs hp G => ?_)
                        obtain ⟨F_383, hp_384, hs_385, hs_386⟩ := hp
                        exact xr_v G hret hlk dX12_turns_301 ⟨(FrM.tr FrM.rf F_383 (by decide)), (fun j hj => (hp_384 j (fun h9 => hj ((by decide : ∀ x ∈ ([98, 99] : List Int), x ∈ ([98, 99] : List Int)) j h9))))⟩
                      · refine lv_lload hx hb dX12_turns_291 (lv_at hl 0 rfl) ?_
                        refine lv_goto (tgt := 298) hx hb dX12_turns_293 (by decide) ?_
                        refine xc_vV G (b := 111) (rest := []) (As := [.int (iv 1), .long (jv 100000000000000000)]) (c_X12_turnsTo ω l μ 1 100000000000000000 (by omega) (by unfold jr; omega)) (wm 10 87 rfl rfl) (wm 10 89 rfl rfl) (wm 0 189 rfl rfl) rfl rfl (by decide) rfl (wm 1 18 rfl rfl) (wm 10 90 rfl rfl) (by decide) hR (by decide) (n := 2) rfl rfl (Nat.le_of_ble_eq_true rfl) hl.1 dX12_turns_298 (fun μ387 ρ d0 H locs hp G => ?_)
                        obtain ⟨F_388, hp_389, hs_390, hs_391⟩ := hp
                        exact xr_v G hret hlk dX12_turns_301 ⟨(FrM.tr FrM.rf F_388 (by decide)), (fun j hj => (hp_389 j (fun h9 => hj ((by decide : ∀ x ∈ ([98, 99] : List Int), x ∈ ([98, 99] : List Int)) j h9))))⟩
                    · refine lv_lload hx hb dX12_turns_278 (lv_at hl 1 rfl) ?_
                      refine lv_goto (tgt := 298) hx hb dX12_turns_280 (by decide) ?_
                      refine xc_vV G (b := 111) (rest := []) (As := [.int (iv 1), .long (jv (-9223372036854775808))]) (c_X12_turnsTo ω l μ 1 (-9223372036854775808) (by omega) (by unfold jr; omega)) (wm 10 87 rfl rfl) (wm 10 89 rfl rfl) (wm 0 189 rfl rfl) rfl rfl (by decide) rfl (wm 1 18 rfl rfl) (wm 10 90 rfl rfl) (by decide) hR (by decide) (n := 2) rfl rfl (Nat.le_of_ble_eq_true rfl) hl.1 dX12_turns_298 (fun μ392 ρ d0 H locs hp G => ?_)
                      obtain ⟨F_393, hp_394, hs_395, hs_396⟩ := hp
                      exact xr_v G hret hlk dX12_turns_301 ⟨(FrM.tr FrM.rf F_393 (by decide)), (fun j hj => (hp_394 j (fun h9 => hj ((by decide : ∀ x ∈ ([98, 99] : List Int), x ∈ ([98, 99] : List Int)) j h9))))⟩
                  · refine lv_ldc2 (s := s.setDrawn d0) hx hb G.1.2.2.2.1 (dr_words G.1.2.2.2.2 d0 _ (wm 9 35 rfl rfl)) dX12_turns_257 ?_
                    refine xb_litl (x := 2147483647) (by decide) ?_
                    refine lv_goto (tgt := 266) hx hb dX12_turns_260 (by decide) ?_
                    refine lv_lstore (lv' := [(12, .long (jv 2147483647)), (10, .long (jv (-9223372036854775808))), (8, .long (jv z_277)), (6, .double (dv dd_1)), (0, .ref (oP ω 111)), (1, .int (iv x1)), (2, .int (iv x2)), (3, .int (iv x3)), (4, .long (jv x4))]) hx hb dX12_turns_266 hl (by decide) rfl (fun ls hl => ?_)
                    refine lv_aload_n hx hb dX12_turns_268 rfl (lv_at hl 4 rfl) ?_
                    refine lv_iconst (v := iv 1) hx hb dX12_turns_269 rfl ?_
                    refine lv_lload hx hb dX12_turns_270 (lv_at hl 2 rfl) ?_
                    refine lv_lload hx hb dX12_turns_272 (lv_at hl 1 rfl) ?_
                    refine xb_lcmp hx hb hr_z_277 (by unfold jr; omega) dX12_turns_274 ?_
                    have hr_397 : -2147483648 ≤ lcm z_277 (-9223372036854775808) ∧ lcm z_277 (-9223372036854775808) ≤ 2147483647 := lcm_ir _ _
                    refine xb_if_ge (tgt := 283) hx hb (by unfold ir; omega) dX12_turns_275 (by decide) (fun c_275 => ?_) (fun c_275 => ?_)
                    · refine lv_lload hx hb dX12_turns_283 (lv_at hl 2 rfl) ?_
                      refine lv_lload hx hb dX12_turns_285 (lv_at hl 0 rfl) ?_
                      refine xb_lcmp hx hb hr_z_277 (by unfold jr; omega) dX12_turns_287 ?_
                      have hr_398 : -2147483648 ≤ lcm z_277 2147483647 ∧ lcm z_277 2147483647 ≤ 2147483647 := lcm_ir _ _
                      refine xb_if_le (tgt := 296) hx hb (by unfold ir; omega) dX12_turns_288 (by decide) (fun c_288 => ?_) (fun c_288 => ?_)
                      · refine lv_lload hx hb dX12_turns_296 (lv_at hl 2 rfl) ?_
                        refine xc_vV G (b := 111) (rest := []) (As := [.int (iv 1), .long (jv z_277)]) (c_X12_turnsTo ω l μ 1 z_277 (by omega) hr_z_277) (wm 10 87 rfl rfl) (wm 10 89 rfl rfl) (wm 0 189 rfl rfl) rfl rfl (by decide) rfl (wm 1 18 rfl rfl) (wm 10 90 rfl rfl) (by decide) hR (by decide) (n := 2) rfl rfl (Nat.le_of_ble_eq_true rfl) hl.1 dX12_turns_298 (fun μ399 ρ d0 H locs hp G => ?_)
                        obtain ⟨F_400, hp_401, hs_402, hs_403⟩ := hp
                        exact xr_v G hret hlk dX12_turns_301 ⟨(FrM.tr FrM.rf F_400 (by decide)), (fun j hj => (hp_401 j (fun h9 => hj ((by decide : ∀ x ∈ ([98, 99] : List Int), x ∈ ([98, 99] : List Int)) j h9))))⟩
                      · refine lv_lload hx hb dX12_turns_291 (lv_at hl 0 rfl) ?_
                        refine lv_goto (tgt := 298) hx hb dX12_turns_293 (by decide) ?_
                        refine xc_vV G (b := 111) (rest := []) (As := [.int (iv 1), .long (jv 2147483647)]) (c_X12_turnsTo ω l μ 1 2147483647 (by omega) (by unfold jr; omega)) (wm 10 87 rfl rfl) (wm 10 89 rfl rfl) (wm 0 189 rfl rfl) rfl rfl (by decide) rfl (wm 1 18 rfl rfl) (wm 10 90 rfl rfl) (by decide) hR (by decide) (n := 2) rfl rfl (Nat.le_of_ble_eq_true rfl) hl.1 dX12_turns_298 (fun μ404 ρ d0 H locs hp G => ?_)
                        obtain ⟨F_405, hp_406, hs_407, hs_408⟩ := hp
                        exact xr_v G hret hlk dX12_turns_301 ⟨(FrM.tr FrM.rf F_405 (by decide)), (fun j hj => (hp_406 j (fun h9 => hj ((by decide : ∀ x ∈ ([98, 99] : List Int), x ∈ ([98, 99] : List Int)) j h9))))⟩
                    · refine lv_lload hx hb dX12_turns_278 (lv_at hl 1 rfl) ?_
                      refine lv_goto (tgt := 298) hx hb dX12_turns_280 (by decide) ?_
                      refine xc_vV G (b := 111) (rest := []) (As := [.int (iv 1), .long (jv (-9223372036854775808))]) (c_X12_turnsTo ω l μ 1 (-9223372036854775808) (by omega) (by unfold jr; omega)) (wm 10 87 rfl rfl) (wm 10 89 rfl rfl) (wm 0 189 rfl rfl) rfl rfl (by decide) rfl (wm 1 18 rfl rfl) (wm 10 90 rfl rfl) (by decide) hR (by decide) (n := 2) rfl rfl (Nat.le_of_ble_eq_true rfl) hl.1 dX12_turns_298 (fun μ409 ρ d0 H locs hp G => ?_)
                      obtain ⟨F_410, hp_411, hs_412, hs_413⟩ := hp
                      exact xr_v G hret hlk dX12_turns_301 ⟨(FrM.tr FrM.rf F_410 (by decide)), (fun j hj => (hp_411 j (fun h9 => hj ((by decide : ∀ x ∈ ([98, 99] : List Int), x ∈ ([98, 99] : List Int)) j h9))))⟩
                · refine lv_ldc2 (s := s.setDrawn d0) hx hb G.1.2.2.2.1 (dr_words G.1.2.2.2.2 d0 _ (wm 9 34 rfl rfl)) dX12_turns_246 ?_
                  refine xb_litl (x := 9223372036854775807) (by decide) ?_
                  refine lv_goto (tgt := 266) hx hb dX12_turns_249 (by decide) ?_
                  refine lv_lstore (lv' := [(12, .long (jv 9223372036854775807)), (10, .long (jv (-9223372036854775808))), (8, .long (jv z_277)), (6, .double (dv dd_1)), (0, .ref (oP ω 111)), (1, .int (iv x1)), (2, .int (iv x2)), (3, .int (iv x3)), (4, .long (jv x4))]) hx hb dX12_turns_266 hl (by decide) rfl (fun ls hl => ?_)
                  refine lv_aload_n hx hb dX12_turns_268 rfl (lv_at hl 4 rfl) ?_
                  refine lv_iconst (v := iv 1) hx hb dX12_turns_269 rfl ?_
                  refine lv_lload hx hb dX12_turns_270 (lv_at hl 2 rfl) ?_
                  refine lv_lload hx hb dX12_turns_272 (lv_at hl 1 rfl) ?_
                  refine xb_lcmp hx hb hr_z_277 (by unfold jr; omega) dX12_turns_274 ?_
                  have hr_414 : -2147483648 ≤ lcm z_277 (-9223372036854775808) ∧ lcm z_277 (-9223372036854775808) ≤ 2147483647 := lcm_ir _ _
                  refine xb_if_ge (tgt := 283) hx hb (by unfold ir; omega) dX12_turns_275 (by decide) (fun c_275 => ?_) (fun c_275 => ?_)
                  · refine lv_lload hx hb dX12_turns_283 (lv_at hl 2 rfl) ?_
                    refine lv_lload hx hb dX12_turns_285 (lv_at hl 0 rfl) ?_
                    refine xb_lcmp hx hb hr_z_277 (by unfold jr; omega) dX12_turns_287 ?_
                    have hr_415 : -2147483648 ≤ lcm z_277 9223372036854775807 ∧ lcm z_277 9223372036854775807 ≤ 2147483647 := lcm_ir _ _
                    refine xb_if_le (tgt := 296) hx hb (by unfold ir; omega) dX12_turns_288 (by decide) (fun c_288 => ?_) (fun c_288 => ?_)
                    · refine lv_lload hx hb dX12_turns_296 (lv_at hl 2 rfl) ?_
                      refine xc_vV G (b := 111) (rest := []) (As := [.int (iv 1), .long (jv z_277)]) (c_X12_turnsTo ω l μ 1 z_277 (by omega) hr_z_277) (wm 10 87 rfl rfl) (wm 10 89 rfl rfl) (wm 0 189 rfl rfl) rfl rfl (by decide) rfl (wm 1 18 rfl rfl) (wm 10 90 rfl rfl) (by decide) hR (by decide) (n := 2) rfl rfl (Nat.le_of_ble_eq_true rfl) hl.1 dX12_turns_298 (fun μ416 ρ d0 H locs hp G => ?_)
                      obtain ⟨F_417, hp_418, hs_419, hs_420⟩ := hp
                      exact xr_v G hret hlk dX12_turns_301 ⟨(FrM.tr FrM.rf F_417 (by decide)), (fun j hj => (hp_418 j (fun h9 => hj ((by decide : ∀ x ∈ ([98, 99] : List Int), x ∈ ([98, 99] : List Int)) j h9))))⟩
                    · refine lv_lload hx hb dX12_turns_291 (lv_at hl 0 rfl) ?_
                      refine lv_goto (tgt := 298) hx hb dX12_turns_293 (by decide) ?_
                      refine xc_vV G (b := 111) (rest := []) (As := [.int (iv 1), .long (jv 9223372036854775807)]) (c_X12_turnsTo ω l μ 1 9223372036854775807 (by omega) (by unfold jr; omega)) (wm 10 87 rfl rfl) (wm 10 89 rfl rfl) (wm 0 189 rfl rfl) rfl rfl (by decide) rfl (wm 1 18 rfl rfl) (wm 10 90 rfl rfl) (by decide) hR (by decide) (n := 2) rfl rfl (Nat.le_of_ble_eq_true rfl) hl.1 dX12_turns_298 (fun μ421 ρ d0 H locs hp G => ?_)
                      obtain ⟨F_422, hp_423, hs_424, hs_425⟩ := hp
                      exact xr_v G hret hlk dX12_turns_301 ⟨(FrM.tr FrM.rf F_422 (by decide)), (fun j hj => (hp_423 j (fun h9 => hj ((by decide : ∀ x ∈ ([98, 99] : List Int), x ∈ ([98, 99] : List Int)) j h9))))⟩
                  · refine lv_lload hx hb dX12_turns_278 (lv_at hl 1 rfl) ?_
                    refine lv_goto (tgt := 298) hx hb dX12_turns_280 (by decide) ?_
                    refine xc_vV G (b := 111) (rest := []) (As := [.int (iv 1), .long (jv (-9223372036854775808))]) (c_X12_turnsTo ω l μ 1 (-9223372036854775808) (by omega) (by unfold jr; omega)) (wm 10 87 rfl rfl) (wm 10 89 rfl rfl) (wm 0 189 rfl rfl) rfl rfl (by decide) rfl (wm 1 18 rfl rfl) (wm 10 90 rfl rfl) (by decide) hR (by decide) (n := 2) rfl rfl (Nat.le_of_ble_eq_true rfl) hl.1 dX12_turns_298 (fun μ426 ρ d0 H locs hp G => ?_)
                    obtain ⟨F_427, hp_428, hs_429, hs_430⟩ := hp
                    exact xr_v G hret hlk dX12_turns_301 ⟨(FrM.tr FrM.rf F_427 (by decide)), (fun j hj => (hp_428 j (fun h9 => hj ((by decide : ∀ x ∈ ([98, 99] : List Int), x ∈ ([98, 99] : List Int)) j h9))))⟩
            · refine lv_aload_n hx hb dX12_turns_181 rfl (lv_at hl 2 rfl) ?_
              refine lv_iconst (v := iv 1) hx hb dX12_turns_182 rfl ?_
              refine lv_iload_n hx hb dX12_turns_183 rfl (lv_at hl 4 rfl) ?_
              refine xb_if_ne (tgt := 192) hx hb (by unfold ir; omega) dX12_turns_184 (by decide) (fun c_184 => ?_) (fun c_184 => ?_)
              · refine lv_iload_n hx hb dX12_turns_192 rfl (lv_at hl 4 rfl) ?_
                refine lv_iconst (v := iv 1) hx hb dX12_turns_193 rfl ?_
                refine xb_icmp_ne (tgt := 204) hx hb (by unfold ir; omega) (by unfold ir; omega) dX12_turns_194 (by decide) (fun c_194 => ?_) (fun c_194 => ?_)
                · refine lv_lload hx hb dX12_turns_204 (lv_at hl 0 rfl) ?_
                  refine lv_ldc2 (s := s.setDrawn d0) hx hb G.1.2.2.2.1 (dr_words G.1.2.2.2.2 d0 _ (wm 9 36 rfl rfl)) dX12_turns_206 ?_
                  refine xb_litl (x := 100000000000000000) (by decide) ?_
                  refine lv_lrem hx hb dX12_turns_209 (by decide) ?_
                  refine xb_topl (fun z_431 hr_z_431 he_z_431 => ?_)
                  refine xc_vV G (b := 111) (rest := []) (As := [.int (iv 1), .long (jv z_431)]) (c_X12_turnsTo ω l μ 1 z_431 (by omega) hr_z_431) (wm 10 87 rfl rfl) (wm 10 89 rfl rfl) (wm 0 189 rfl rfl) rfl rfl (by decide) rfl (wm 1 18 rfl rfl) (wm 10 90 rfl rfl) (by decide) hR (by decide) (n := 2) rfl rfl (Nat.le_of_ble_eq_true rfl) hl.1 dX12_turns_210 (fun μ432 ρ d0 H locs hp G => ?_)
                  obtain ⟨F_433, hp_434, hs_435, hs_436⟩ := hp
                  refine lv_goto (tgt := 301) hx hb dX12_turns_213 (by decide) ?_
                  exact xr_v G hret hlk dX12_turns_301 ⟨(FrM.tr FrM.rf F_433 (by decide)), (fun j hj => (hp_434 j (fun h9 => hj ((by decide : ∀ x ∈ ([98, 99] : List Int), x ∈ ([98, 99] : List Int)) j h9))))⟩
                · refine lv_lload hx hb dX12_turns_197 (lv_at hl 0 rfl) ?_
                  refine xb_l2i hx hb dX12_turns_199 ?_
                  refine xb_topi (fun y_437 hr_y_437 he_y_437 => ?_)
                  have hr_y_437 : -2147483648 ≤ y_437 ∧ y_437 ≤ 2147483647 := hr_y_437
                  refine xb_i2l hx hb (by unfold ir; omega) dX12_turns_200 ?_
                  refine lv_goto (tgt := 210) hx hb dX12_turns_201 (by decide) ?_
                  refine xc_vV G (b := 111) (rest := []) (As := [.int (iv 1), .long (jv y_437)]) (c_X12_turnsTo ω l μ 1 y_437 (by omega) (by unfold jr; omega)) (wm 10 87 rfl rfl) (wm 10 89 rfl rfl) (wm 0 189 rfl rfl) rfl rfl (by decide) rfl (wm 1 18 rfl rfl) (wm 10 90 rfl rfl) (by decide) hR (by decide) (n := 2) rfl rfl (Nat.le_of_ble_eq_true rfl) hl.1 dX12_turns_210 (fun μ438 ρ d0 H locs hp G => ?_)
                  obtain ⟨F_439, hp_440, hs_441, hs_442⟩ := hp
                  refine lv_goto (tgt := 301) hx hb dX12_turns_213 (by decide) ?_
                  exact xr_v G hret hlk dX12_turns_301 ⟨(FrM.tr FrM.rf F_439 (by decide)), (fun j hj => (hp_440 j (fun h9 => hj ((by decide : ∀ x ∈ ([98, 99] : List Int), x ∈ ([98, 99] : List Int)) j h9))))⟩
              · refine lv_lload hx hb dX12_turns_187 (lv_at hl 0 rfl) ?_
                refine lv_goto (tgt := 210) hx hb dX12_turns_189 (by decide) ?_
                refine xc_vV G (b := 111) (rest := []) (As := [.int (iv 1), .long (jv z_277)]) (c_X12_turnsTo ω l μ 1 z_277 (by omega) hr_z_277) (wm 10 87 rfl rfl) (wm 10 89 rfl rfl) (wm 0 189 rfl rfl) rfl rfl (by decide) rfl (wm 1 18 rfl rfl) (wm 10 90 rfl rfl) (by decide) hR (by decide) (n := 2) rfl rfl (Nat.le_of_ble_eq_true rfl) hl.1 dX12_turns_210 (fun μ443 ρ d0 H locs hp G => ?_)
                obtain ⟨F_444, hp_445, hs_446, hs_447⟩ := hp
                refine lv_goto (tgt := 301) hx hb dX12_turns_213 (by decide) ?_
                exact xr_v G hret hlk dX12_turns_301 ⟨(FrM.tr FrM.rf F_444 (by decide)), (fun j hj => (hp_445 j (fun h9 => hj ((by decide : ∀ x ∈ ([98, 99] : List Int), x ∈ ([98, 99] : List Int)) j h9))))⟩
          · refine lv_iload_n hx hb dX12_turns_109 rfl (lv_at hl 3 rfl) ?_
            refine lv_iconst (v := iv 3) hx hb dX12_turns_110 rfl ?_
            refine xb_icmp_ne (tgt := 141) hx hb (by unfold ir; omega) (by unfold ir; omega) dX12_turns_111 (by decide) (fun c_111 => ?_) (fun c_111 => ?_)
            · refine lv_iconst (v := iv 1) hx hb dX12_turns_141 rfl ?_
              refine lv_goto (tgt := 146) hx hb dX12_turns_142 (by decide) ?_
              refine lv_istore (lv' := [(10, .int (iv 1)), (8, .long (jv z_277)), (6, .double (dv dd_1)), (0, .ref (oP ω 111)), (1, .int (iv x1)), (2, .int (iv x2)), (3, .int (iv x3)), (4, .long (jv x4))]) hx hb dX12_turns_146 hl (by decide) rfl (fun ls hl => ?_)
              refine lv_aload_n hx hb dX12_turns_148 rfl (lv_at hl 3 rfl) ?_
              refine lv_iload hx hb dX12_turns_149 (lv_at hl 0 rfl) ?_
              refine xb_if_eq (tgt := 167) hx hb (x := 1) (by unfold ir; omega) dX12_turns_151 (by decide) (fun c_151 => absurd c_151 (by decide)) (fun c_151 => ?_)
              refine lv_iload_n hx hb dX12_turns_154 rfl (lv_at hl 5 rfl) ?_
              refine lv_lload hx hb dX12_turns_155 (lv_at hl 1 rfl) ?_
              refine xc_iS G (rest := [.ref (oP ω 111)]) (As := [.int (iv x2), .long (jv z_277)]) (c_X12_has ω l μ x2 z_277 (by unfold ir; omega) hr_z_277) (wm 10 99 rfl rfl) (wm 10 100 rfl rfl) (wm 1 18 rfl rfl) (wm 10 101 rfl rfl) (by decide) hR (by decide) (n := 2) rfl rfl (Nat.le_of_ble_eq_true rfl) hl.1 dX12_turns_157 (fun r_449 μ448 ρ d0 H locs hr_r_449 hp G => ?_)
              have hr_r_449 : -2147483648 ≤ r_449 ∧ r_449 ≤ 2147483647 := hr_r_449
              have hsm_450 := hp
              have hsm_450 := Eq.symm hsm_450
              subst hsm_450
              refine xb_if_eq (tgt := 167) hx hb (by unfold ir; omega) dX12_turns_160 (by decide) (fun c_160 => ?_) (fun c_160 => ?_)
              · refine lv_iconst (v := iv 0) hx hb dX12_turns_167 rfl ?_
                refine lv_lload hx hb dX12_turns_168 (lv_at hl 1 rfl) ?_
                refine xc_vV G (b := 111) (rest := []) (As := [.int (iv 0), .long (jv z_277)]) (c_X12_turnsTo ω l μ 0 z_277 (by omega) hr_z_277) (wm 10 87 rfl rfl) (wm 10 89 rfl rfl) (wm 0 189 rfl rfl) rfl rfl (by decide) rfl (wm 1 18 rfl rfl) (wm 10 90 rfl rfl) (by decide) hR (by decide) (n := 2) rfl rfl (Nat.le_of_ble_eq_true rfl) hl.1 dX12_turns_170 (fun μ451 ρ d0 H locs hp G => ?_)
                obtain ⟨F_452, hp_453, hs_454, hs_455⟩ := hp
                refine lv_goto (tgt := 301) hx hb dX12_turns_173 (by decide) ?_
                exact xr_v G hret hlk dX12_turns_301 ⟨(FrM.tr FrM.rf F_452 (by decide)), (fun j hj => (hp_453 j (fun h9 => hj ((by decide : ∀ x ∈ ([98, 99] : List Int), x ∈ ([98, 99] : List Int)) j h9))))⟩
              · refine lv_iconst (v := iv 1) hx hb dX12_turns_163 rfl ?_
                refine lv_goto (tgt := 168) hx hb dX12_turns_164 (by decide) ?_
                refine lv_lload hx hb dX12_turns_168 (lv_at hl 1 rfl) ?_
                refine xc_vV G (b := 111) (rest := []) (As := [.int (iv 1), .long (jv z_277)]) (c_X12_turnsTo ω l μ 1 z_277 (by omega) hr_z_277) (wm 10 87 rfl rfl) (wm 10 89 rfl rfl) (wm 0 189 rfl rfl) rfl rfl (by decide) rfl (wm 1 18 rfl rfl) (wm 10 90 rfl rfl) (by decide) hR (by decide) (n := 2) rfl rfl (Nat.le_of_ble_eq_true rfl) hl.1 dX12_turns_170 (fun μ456 ρ d0 H locs hp G => ?_)
                obtain ⟨F_457, hp_458, hs_459, hs_460⟩ := hp
                refine lv_goto (tgt := 301) hx hb dX12_turns_173 (by decide) ?_
                exact xr_v G hret hlk dX12_turns_301 ⟨(FrM.tr FrM.rf F_457 (by decide)), (fun j hj => (hp_458 j (fun h9 => hj ((by decide : ∀ x ∈ ([98, 99] : List Int), x ∈ ([98, 99] : List Int)) j h9))))⟩
            · refine lv_dload hx hb dX12_turns_114 (lv_at hl 1 rfl) ?_
              refine lv_ldc2d (s := s.setDrawn d0) hx hb G.1.2.2.2.1 (dr_words G.1.2.2.2.2 d0 _ (wm 10 97 rfl rfl)) dX12_turns_116 ?_
              refine xb_topd (fun dd_461 he_dd_461 => ?_)
              refine lv_dcmp hx hb dX12_turns_119 ?_
              refine xb_topi (fun y_462 hr_y_462 he_y_462 => ?_)
              have hr_y_462 : -2147483648 ≤ y_462 ∧ y_462 ≤ 2147483647 := hr_y_462
              refine xb_if_lt (tgt := 145) hx hb (by unfold ir; omega) dX12_turns_120 (by decide) (fun c_120 => ?_) (fun c_120 => ?_)
              · refine lv_iconst (v := iv 0) hx hb dX12_turns_145 rfl ?_
                refine lv_istore (lv' := [(10, .int (iv 0)), (8, .long (jv z_277)), (6, .double (dv dd_1)), (0, .ref (oP ω 111)), (1, .int (iv x1)), (2, .int (iv x2)), (3, .int (iv x3)), (4, .long (jv x4))]) hx hb dX12_turns_146 hl (by decide) rfl (fun ls hl => ?_)
                refine lv_aload_n hx hb dX12_turns_148 rfl (lv_at hl 3 rfl) ?_
                refine lv_iload hx hb dX12_turns_149 (lv_at hl 0 rfl) ?_
                refine xb_if_eq (tgt := 167) hx hb (x := 0) (by unfold ir; omega) dX12_turns_151 (by decide) (fun c_151 => ?_) (fun c_151 => absurd (by decide) c_151)
                refine lv_iconst (v := iv 0) hx hb dX12_turns_167 rfl ?_
                refine lv_lload hx hb dX12_turns_168 (lv_at hl 1 rfl) ?_
                refine xc_vV G (b := 111) (rest := []) (As := [.int (iv 0), .long (jv z_277)]) (c_X12_turnsTo ω l μ 0 z_277 (by omega) hr_z_277) (wm 10 87 rfl rfl) (wm 10 89 rfl rfl) (wm 0 189 rfl rfl) rfl rfl (by decide) rfl (wm 1 18 rfl rfl) (wm 10 90 rfl rfl) (by decide) hR (by decide) (n := 2) rfl rfl (Nat.le_of_ble_eq_true rfl) hl.1 dX12_turns_170 (fun μ463 ρ d0 H locs hp G => ?_)
                obtain ⟨F_464, hp_465, hs_466, hs_467⟩ := hp
                refine lv_goto (tgt := 301) hx hb dX12_turns_173 (by decide) ?_
                exact xr_v G hret hlk dX12_turns_301 ⟨(FrM.tr FrM.rf F_464 (by decide)), (fun j hj => (hp_465 j (fun h9 => hj ((by decide : ∀ x ∈ ([98, 99] : List Int), x ∈ ([98, 99] : List Int)) j h9))))⟩
              · refine lv_dload hx hb dX12_turns_123 (lv_at hl 1 rfl) ?_
                refine lv_ldc2d (s := s.setDrawn d0) hx hb G.1.2.2.2.1 (dr_words G.1.2.2.2.2 d0 _ (wm 10 98 rfl rfl)) dX12_turns_125 ?_
                refine xb_topd (fun dd_468 he_dd_468 => ?_)
                refine lv_dcmp hx hb dX12_turns_128 ?_
                refine xb_topi (fun y_469 hr_y_469 he_y_469 => ?_)
                have hr_y_469 : -2147483648 ≤ y_469 ∧ y_469 ≤ 2147483647 := hr_y_469
                refine xb_if_ge (tgt := 145) hx hb (by unfold ir; omega) dX12_turns_129 (by decide) (fun c_129 => ?_) (fun c_129 => ?_)
                · refine lv_iconst (v := iv 0) hx hb dX12_turns_145 rfl ?_
                  refine lv_istore (lv' := [(10, .int (iv 0)), (8, .long (jv z_277)), (6, .double (dv dd_1)), (0, .ref (oP ω 111)), (1, .int (iv x1)), (2, .int (iv x2)), (3, .int (iv x3)), (4, .long (jv x4))]) hx hb dX12_turns_146 hl (by decide) rfl (fun ls hl => ?_)
                  refine lv_aload_n hx hb dX12_turns_148 rfl (lv_at hl 3 rfl) ?_
                  refine lv_iload hx hb dX12_turns_149 (lv_at hl 0 rfl) ?_
                  refine xb_if_eq (tgt := 167) hx hb (x := 0) (by unfold ir; omega) dX12_turns_151 (by decide) (fun c_151 => ?_) (fun c_151 => absurd (by decide) c_151)
                  refine lv_iconst (v := iv 0) hx hb dX12_turns_167 rfl ?_
                  refine lv_lload hx hb dX12_turns_168 (lv_at hl 1 rfl) ?_
                  refine xc_vV G (b := 111) (rest := []) (As := [.int (iv 0), .long (jv z_277)]) (c_X12_turnsTo ω l μ 0 z_277 (by omega) hr_z_277) (wm 10 87 rfl rfl) (wm 10 89 rfl rfl) (wm 0 189 rfl rfl) rfl rfl (by decide) rfl (wm 1 18 rfl rfl) (wm 10 90 rfl rfl) (by decide) hR (by decide) (n := 2) rfl rfl (Nat.le_of_ble_eq_true rfl) hl.1 dX12_turns_170 (fun μ470 ρ d0 H locs hp G => ?_)
                  obtain ⟨F_471, hp_472, hs_473, hs_474⟩ := hp
                  refine lv_goto (tgt := 301) hx hb dX12_turns_173 (by decide) ?_
                  exact xr_v G hret hlk dX12_turns_301 ⟨(FrM.tr FrM.rf F_471 (by decide)), (fun j hj => (hp_472 j (fun h9 => hj ((by decide : ∀ x ∈ ([98, 99] : List Int), x ∈ ([98, 99] : List Int)) j h9))))⟩
                · refine lv_lload hx hb dX12_turns_132 (lv_at hl 0 rfl) ?_
                  refine lv_l2d hx hb dX12_turns_134 ?_
                  refine xb_topd (fun dd_475 he_dd_475 => ?_)
                  refine lv_dload hx hb dX12_turns_135 (lv_at hl 1 rfl) ?_
                  refine lv_dcmp hx hb dX12_turns_137 ?_
                  refine xb_topi (fun y_476 hr_y_476 he_y_476 => ?_)
                  have hr_y_476 : -2147483648 ≤ y_476 ∧ y_476 ≤ 2147483647 := hr_y_476
                  refine xb_if_ne (tgt := 145) hx hb (by unfold ir; omega) dX12_turns_138 (by decide) (fun c_138 => ?_) (fun c_138 => ?_)
                  · refine lv_iconst (v := iv 0) hx hb dX12_turns_145 rfl ?_
                    refine lv_istore (lv' := [(10, .int (iv 0)), (8, .long (jv z_277)), (6, .double (dv dd_1)), (0, .ref (oP ω 111)), (1, .int (iv x1)), (2, .int (iv x2)), (3, .int (iv x3)), (4, .long (jv x4))]) hx hb dX12_turns_146 hl (by decide) rfl (fun ls hl => ?_)
                    refine lv_aload_n hx hb dX12_turns_148 rfl (lv_at hl 3 rfl) ?_
                    refine lv_iload hx hb dX12_turns_149 (lv_at hl 0 rfl) ?_
                    refine xb_if_eq (tgt := 167) hx hb (x := 0) (by unfold ir; omega) dX12_turns_151 (by decide) (fun c_151 => ?_) (fun c_151 => absurd (by decide) c_151)
                    refine lv_iconst (v := iv 0) hx hb dX12_turns_167 rfl ?_
                    refine lv_lload hx hb dX12_turns_168 (lv_at hl 1 rfl) ?_
                    refine xc_vV G (b := 111) (rest := []) (As := [.int (iv 0), .long (jv z_277)]) (c_X12_turnsTo ω l μ 0 z_277 (by omega) hr_z_277) (wm 10 87 rfl rfl) (wm 10 89 rfl rfl) (wm 0 189 rfl rfl) rfl rfl (by decide) rfl (wm 1 18 rfl rfl) (wm 10 90 rfl rfl) (by decide) hR (by decide) (n := 2) rfl rfl (Nat.le_of_ble_eq_true rfl) hl.1 dX12_turns_170 (fun μ477 ρ d0 H locs hp G => ?_)
                    obtain ⟨F_478, hp_479, hs_480, hs_481⟩ := hp
                    refine lv_goto (tgt := 301) hx hb dX12_turns_173 (by decide) ?_
                    exact xr_v G hret hlk dX12_turns_301 ⟨(FrM.tr FrM.rf F_478 (by decide)), (fun j hj => (hp_479 j (fun h9 => hj ((by decide : ∀ x ∈ ([98, 99] : List Int), x ∈ ([98, 99] : List Int)) j h9))))⟩
                  · refine lv_iconst (v := iv 1) hx hb dX12_turns_141 rfl ?_
                    refine lv_goto (tgt := 146) hx hb dX12_turns_142 (by decide) ?_
                    refine lv_istore (lv' := [(10, .int (iv 1)), (8, .long (jv z_277)), (6, .double (dv dd_1)), (0, .ref (oP ω 111)), (1, .int (iv x1)), (2, .int (iv x2)), (3, .int (iv x3)), (4, .long (jv x4))]) hx hb dX12_turns_146 hl (by decide) rfl (fun ls hl => ?_)
                    refine lv_aload_n hx hb dX12_turns_148 rfl (lv_at hl 3 rfl) ?_
                    refine lv_iload hx hb dX12_turns_149 (lv_at hl 0 rfl) ?_
                    refine xb_if_eq (tgt := 167) hx hb (x := 1) (by unfold ir; omega) dX12_turns_151 (by decide) (fun c_151 => absurd c_151 (by decide)) (fun c_151 => ?_)
                    refine lv_iload_n hx hb dX12_turns_154 rfl (lv_at hl 5 rfl) ?_
                    refine lv_lload hx hb dX12_turns_155 (lv_at hl 1 rfl) ?_
                    refine xc_iS G (rest := [.ref (oP ω 111)]) (As := [.int (iv x2), .long (jv z_277)]) (c_X12_has ω l μ x2 z_277 (by unfold ir; omega) hr_z_277) (wm 10 99 rfl rfl) (wm 10 100 rfl rfl) (wm 1 18 rfl rfl) (wm 10 101 rfl rfl) (by decide) hR (by decide) (n := 2) rfl rfl (Nat.le_of_ble_eq_true rfl) hl.1 dX12_turns_157 (fun r_483 μ482 ρ d0 H locs hr_r_483 hp G => ?_)
                    have hr_r_483 : -2147483648 ≤ r_483 ∧ r_483 ≤ 2147483647 := hr_r_483
                    have hsm_484 := hp
                    have hsm_484 := Eq.symm hsm_484
                    subst hsm_484
                    refine xb_if_eq (tgt := 167) hx hb (by unfold ir; omega) dX12_turns_160 (by decide) (fun c_160 => ?_) (fun c_160 => ?_)
                    · refine lv_iconst (v := iv 0) hx hb dX12_turns_167 rfl ?_
                      refine lv_lload hx hb dX12_turns_168 (lv_at hl 1 rfl) ?_
                      refine xc_vV G (b := 111) (rest := []) (As := [.int (iv 0), .long (jv z_277)]) (c_X12_turnsTo ω l μ 0 z_277 (by omega) hr_z_277) (wm 10 87 rfl rfl) (wm 10 89 rfl rfl) (wm 0 189 rfl rfl) rfl rfl (by decide) rfl (wm 1 18 rfl rfl) (wm 10 90 rfl rfl) (by decide) hR (by decide) (n := 2) rfl rfl (Nat.le_of_ble_eq_true rfl) hl.1 dX12_turns_170 (fun μ485 ρ d0 H locs hp G => ?_)
                      obtain ⟨F_486, hp_487, hs_488, hs_489⟩ := hp
                      refine lv_goto (tgt := 301) hx hb dX12_turns_173 (by decide) ?_
                      exact xr_v G hret hlk dX12_turns_301 ⟨(FrM.tr FrM.rf F_486 (by decide)), (fun j hj => (hp_487 j (fun h9 => hj ((by decide : ∀ x ∈ ([98, 99] : List Int), x ∈ ([98, 99] : List Int)) j h9))))⟩
                    · refine lv_iconst (v := iv 1) hx hb dX12_turns_163 rfl ?_
                      refine lv_goto (tgt := 168) hx hb dX12_turns_164 (by decide) ?_
                      refine lv_lload hx hb dX12_turns_168 (lv_at hl 1 rfl) ?_
                      refine xc_vV G (b := 111) (rest := []) (As := [.int (iv 1), .long (jv z_277)]) (c_X12_turnsTo ω l μ 1 z_277 (by omega) hr_z_277) (wm 10 87 rfl rfl) (wm 10 89 rfl rfl) (wm 0 189 rfl rfl) rfl rfl (by decide) rfl (wm 1 18 rfl rfl) (wm 10 90 rfl rfl) (by decide) hR (by decide) (n := 2) rfl rfl (Nat.le_of_ble_eq_true rfl) hl.1 dX12_turns_170 (fun μ490 ρ d0 H locs hp G => ?_)
                      obtain ⟨F_491, hp_492, hs_493, hs_494⟩ := hp
                      refine lv_goto (tgt := 301) hx hb dX12_turns_173 (by decide) ?_
                      exact xr_v G hret hlk dX12_turns_301 ⟨(FrM.tr FrM.rf F_491 (by decide)), (fun j hj => (hp_492 j (fun h9 => hj ((by decide : ∀ x ∈ ([98, 99] : List Int), x ∈ ([98, 99] : List Int)) j h9))))⟩
        · refine lv_lload hx hb dX12_turns_49 (lv_at hl 0 rfl) ?_
          refine lv_l2d hx hb dX12_turns_51 ?_
          refine xb_topd (fun dd_495 he_dd_495 => ?_)
          refine lv_dstore (lv' := [(10, .double (dv dd_495)), (8, .long (jv z_277)), (6, .double (dv dd_1)), (0, .ref (oP ω 111)), (1, .int (iv x1)), (2, .int (iv x2)), (3, .int (iv x3)), (4, .long (jv x4))]) hx hb dX12_turns_52 hl (by decide) rfl (fun ls hl => ?_)
          refine lv_dload hx hb dX12_turns_54 (lv_at hl 0 rfl) ?_
          refine lv_d2l hx hb dX12_turns_56 ?_
          refine xb_topl (fun z_496 hr_z_496 he_z_496 => ?_)
          refine lv_lload hx hb dX12_turns_57 (lv_at hl 1 rfl) ?_
          refine xb_lcmp hx hb hr_z_496 hr_z_277 dX12_turns_59 ?_
          have hr_497 : -2147483648 ≤ lcm z_496 z_277 ∧ lcm z_496 z_277 ≤ 2147483647 := lcm_ir _ _
          refine xb_if_ne (tgt := 76) hx hb (by unfold ir; omega) dX12_turns_60 (by decide) (fun c_60 => ?_) (fun c_60 => ?_)
          · refine lv_iconst (v := iv 0) hx hb dX12_turns_76 rfl ?_
            refine lv_istore (lv' := [(12, .int (iv 0)), (10, .double (dv dd_495)), (8, .long (jv z_277)), (6, .double (dv dd_1)), (0, .ref (oP ω 111)), (1, .int (iv x1)), (2, .int (iv x2)), (3, .int (iv x3)), (4, .long (jv x4))]) hx hb dX12_turns_77 hl (by decide) rfl (fun ls hl => ?_)
            refine lv_aload_n hx hb dX12_turns_79 rfl (lv_at hl 4 rfl) ?_
            refine lv_iload_n hx hb dX12_turns_80 rfl (lv_at hl 7 rfl) ?_
            refine xb_if_gt (tgt := 89) hx hb (by unfold ir; omega) dX12_turns_81 (by decide) (fun c_81 => ?_) (fun c_81 => ?_)
            · refine lv_iconst (v := iv 1) hx hb dX12_turns_89 rfl ?_
              refine lv_goto (tgt := 94) hx hb dX12_turns_90 (by decide) ?_
              refine lv_dload hx hb dX12_turns_94 (lv_at hl 1 rfl) ?_
              refine xc_lS G (rest := [.int (iv 1), .ref (oP ω 111)]) (As := [.double (dv dd_495)]) (c_Jxe99ae_doubleToLongBits_ccdee ω l μ dd_495 ) (wm 9 44 rfl rfl) (wm 9 45 rfl rfl) (wm 1 23 rfl rfl) (wm 9 46 rfl rfl) (by decide) hR (by decide) (n := 1) rfl rfl (Nat.le_of_ble_eq_true rfl) hl.1 dX12_turns_96 (fun r_499 μ498 ρ d0 H locs hr_r_499 hp G => ?_)
              obtain ⟨hsm_500, hp_501⟩ := hp
              have hsm_500 := Eq.symm hsm_500
              subst hsm_500
              refine xc_vV G (b := 111) (rest := []) (As := [.int (iv 1), .long (jv r_499)]) (c_X12_turnsTo ω l μ 1 r_499 (by omega) hr_r_499) (wm 10 87 rfl rfl) (wm 10 89 rfl rfl) (wm 0 189 rfl rfl) rfl rfl (by decide) rfl (wm 1 18 rfl rfl) (wm 10 90 rfl rfl) (by decide) hR (by decide) (n := 2) rfl rfl (Nat.le_of_ble_eq_true rfl) hl.1 dX12_turns_99 (fun μ502 ρ d0 H locs hp G => ?_)
              obtain ⟨F_503, hp_504, hs_505, hs_506⟩ := hp
              refine lv_goto (tgt := 301) hx hb dX12_turns_102 (by decide) ?_
              exact xr_v G hret hlk dX12_turns_301 ⟨(FrM.tr FrM.rf F_503 (by decide)), (fun j hj => (hp_504 j (fun h9 => hj ((by decide : ∀ x ∈ ([98, 99] : List Int), x ∈ ([98, 99] : List Int)) j h9))))⟩
            · refine lv_iload hx hb dX12_turns_84 (lv_at hl 0 rfl) ?_
              refine xb_if_eq (tgt := 93) hx hb (x := 0) (by unfold ir; omega) dX12_turns_86 (by decide) (fun c_86 => ?_) (fun c_86 => absurd (by decide) c_86)
              refine lv_iconst (v := iv 0) hx hb dX12_turns_93 rfl ?_
              refine lv_dload hx hb dX12_turns_94 (lv_at hl 1 rfl) ?_
              refine xc_lS G (rest := [.int (iv 0), .ref (oP ω 111)]) (As := [.double (dv dd_495)]) (c_Jxe99ae_doubleToLongBits_ccdee ω l μ dd_495 ) (wm 9 44 rfl rfl) (wm 9 45 rfl rfl) (wm 1 23 rfl rfl) (wm 9 46 rfl rfl) (by decide) hR (by decide) (n := 1) rfl rfl (Nat.le_of_ble_eq_true rfl) hl.1 dX12_turns_96 (fun r_508 μ507 ρ d0 H locs hr_r_508 hp G => ?_)
              obtain ⟨hsm_509, hp_510⟩ := hp
              have hsm_509 := Eq.symm hsm_509
              subst hsm_509
              refine xc_vV G (b := 111) (rest := []) (As := [.int (iv 0), .long (jv r_508)]) (c_X12_turnsTo ω l μ 0 r_508 (by omega) hr_r_508) (wm 10 87 rfl rfl) (wm 10 89 rfl rfl) (wm 0 189 rfl rfl) rfl rfl (by decide) rfl (wm 1 18 rfl rfl) (wm 10 90 rfl rfl) (by decide) hR (by decide) (n := 2) rfl rfl (Nat.le_of_ble_eq_true rfl) hl.1 dX12_turns_99 (fun μ511 ρ d0 H locs hp G => ?_)
              obtain ⟨F_512, hp_513, hs_514, hs_515⟩ := hp
              refine lv_goto (tgt := 301) hx hb dX12_turns_102 (by decide) ?_
              exact xr_v G hret hlk dX12_turns_301 ⟨(FrM.tr FrM.rf F_512 (by decide)), (fun j hj => (hp_513 j (fun h9 => hj ((by decide : ∀ x ∈ ([98, 99] : List Int), x ∈ ([98, 99] : List Int)) j h9))))⟩
          · refine lv_lload hx hb dX12_turns_63 (lv_at hl 1 rfl) ?_
            refine lv_ldc2 (s := s.setDrawn d0) hx hb G.1.2.2.2.1 (dr_words G.1.2.2.2.2 d0 _ (wm 9 34 rfl rfl)) dX12_turns_65 ?_
            refine xb_litl (x := 9223372036854775807) (by decide) ?_
            refine xb_lcmp hx hb hr_z_277 (by unfold jr; omega) dX12_turns_68 ?_
            have hr_516 : -2147483648 ≤ lcm z_277 9223372036854775807 ∧ lcm z_277 9223372036854775807 ≤ 2147483647 := lcm_ir _ _
            refine xb_if_eq (tgt := 76) hx hb (by unfold ir; omega) dX12_turns_69 (by decide) (fun c_69 => ?_) (fun c_69 => ?_)
            · refine lv_iconst (v := iv 0) hx hb dX12_turns_76 rfl ?_
              refine lv_istore (lv' := [(12, .int (iv 0)), (10, .double (dv dd_495)), (8, .long (jv z_277)), (6, .double (dv dd_1)), (0, .ref (oP ω 111)), (1, .int (iv x1)), (2, .int (iv x2)), (3, .int (iv x3)), (4, .long (jv x4))]) hx hb dX12_turns_77 hl (by decide) rfl (fun ls hl => ?_)
              refine lv_aload_n hx hb dX12_turns_79 rfl (lv_at hl 4 rfl) ?_
              refine lv_iload_n hx hb dX12_turns_80 rfl (lv_at hl 7 rfl) ?_
              refine xb_if_gt (tgt := 89) hx hb (by unfold ir; omega) dX12_turns_81 (by decide) (fun c_81 => ?_) (fun c_81 => ?_)
              · refine lv_iconst (v := iv 1) hx hb dX12_turns_89 rfl ?_
                refine lv_goto (tgt := 94) hx hb dX12_turns_90 (by decide) ?_
                refine lv_dload hx hb dX12_turns_94 (lv_at hl 1 rfl) ?_
                refine xc_lS G (rest := [.int (iv 1), .ref (oP ω 111)]) (As := [.double (dv dd_495)]) (c_Jxe99ae_doubleToLongBits_ccdee ω l μ dd_495 ) (wm 9 44 rfl rfl) (wm 9 45 rfl rfl) (wm 1 23 rfl rfl) (wm 9 46 rfl rfl) (by decide) hR (by decide) (n := 1) rfl rfl (Nat.le_of_ble_eq_true rfl) hl.1 dX12_turns_96 (fun r_518 μ517 ρ d0 H locs hr_r_518 hp G => ?_)
                obtain ⟨hsm_519, hp_520⟩ := hp
                have hsm_519 := Eq.symm hsm_519
                subst hsm_519
                refine xc_vV G (b := 111) (rest := []) (As := [.int (iv 1), .long (jv r_518)]) (c_X12_turnsTo ω l μ 1 r_518 (by omega) hr_r_518) (wm 10 87 rfl rfl) (wm 10 89 rfl rfl) (wm 0 189 rfl rfl) rfl rfl (by decide) rfl (wm 1 18 rfl rfl) (wm 10 90 rfl rfl) (by decide) hR (by decide) (n := 2) rfl rfl (Nat.le_of_ble_eq_true rfl) hl.1 dX12_turns_99 (fun μ521 ρ d0 H locs hp G => ?_)
                obtain ⟨F_522, hp_523, hs_524, hs_525⟩ := hp
                refine lv_goto (tgt := 301) hx hb dX12_turns_102 (by decide) ?_
                exact xr_v G hret hlk dX12_turns_301 ⟨(FrM.tr FrM.rf F_522 (by decide)), (fun j hj => (hp_523 j (fun h9 => hj ((by decide : ∀ x ∈ ([98, 99] : List Int), x ∈ ([98, 99] : List Int)) j h9))))⟩
              · refine lv_iload hx hb dX12_turns_84 (lv_at hl 0 rfl) ?_
                refine xb_if_eq (tgt := 93) hx hb (x := 0) (by unfold ir; omega) dX12_turns_86 (by decide) (fun c_86 => ?_) (fun c_86 => absurd (by decide) c_86)
                refine lv_iconst (v := iv 0) hx hb dX12_turns_93 rfl ?_
                refine lv_dload hx hb dX12_turns_94 (lv_at hl 1 rfl) ?_
                refine xc_lS G (rest := [.int (iv 0), .ref (oP ω 111)]) (As := [.double (dv dd_495)]) (c_Jxe99ae_doubleToLongBits_ccdee ω l μ dd_495 ) (wm 9 44 rfl rfl) (wm 9 45 rfl rfl) (wm 1 23 rfl rfl) (wm 9 46 rfl rfl) (by decide) hR (by decide) (n := 1) rfl rfl (Nat.le_of_ble_eq_true rfl) hl.1 dX12_turns_96 (fun r_527 μ526 ρ d0 H locs hr_r_527 hp G => ?_)
                obtain ⟨hsm_528, hp_529⟩ := hp
                have hsm_528 := Eq.symm hsm_528
                subst hsm_528
                refine xc_vV G (b := 111) (rest := []) (As := [.int (iv 0), .long (jv r_527)]) (c_X12_turnsTo ω l μ 0 r_527 (by omega) hr_r_527) (wm 10 87 rfl rfl) (wm 10 89 rfl rfl) (wm 0 189 rfl rfl) rfl rfl (by decide) rfl (wm 1 18 rfl rfl) (wm 10 90 rfl rfl) (by decide) hR (by decide) (n := 2) rfl rfl (Nat.le_of_ble_eq_true rfl) hl.1 dX12_turns_99 (fun μ530 ρ d0 H locs hp G => ?_)
                obtain ⟨F_531, hp_532, hs_533, hs_534⟩ := hp
                refine lv_goto (tgt := 301) hx hb dX12_turns_102 (by decide) ?_
                exact xr_v G hret hlk dX12_turns_301 ⟨(FrM.tr FrM.rf F_531 (by decide)), (fun j hj => (hp_532 j (fun h9 => hj ((by decide : ∀ x ∈ ([98, 99] : List Int), x ∈ ([98, 99] : List Int)) j h9))))⟩
            · refine lv_iconst (v := iv 1) hx hb dX12_turns_72 rfl ?_
              refine lv_goto (tgt := 77) hx hb dX12_turns_73 (by decide) ?_
              refine lv_istore (lv' := [(12, .int (iv 1)), (10, .double (dv dd_495)), (8, .long (jv z_277)), (6, .double (dv dd_1)), (0, .ref (oP ω 111)), (1, .int (iv x1)), (2, .int (iv x2)), (3, .int (iv x3)), (4, .long (jv x4))]) hx hb dX12_turns_77 hl (by decide) rfl (fun ls hl => ?_)
              refine lv_aload_n hx hb dX12_turns_79 rfl (lv_at hl 4 rfl) ?_
              refine lv_iload_n hx hb dX12_turns_80 rfl (lv_at hl 7 rfl) ?_
              refine xb_if_gt (tgt := 89) hx hb (by unfold ir; omega) dX12_turns_81 (by decide) (fun c_81 => ?_) (fun c_81 => ?_)
              · refine lv_iconst (v := iv 1) hx hb dX12_turns_89 rfl ?_
                refine lv_goto (tgt := 94) hx hb dX12_turns_90 (by decide) ?_
                refine lv_dload hx hb dX12_turns_94 (lv_at hl 1 rfl) ?_
                refine xc_lS G (rest := [.int (iv 1), .ref (oP ω 111)]) (As := [.double (dv dd_495)]) (c_Jxe99ae_doubleToLongBits_ccdee ω l μ dd_495 ) (wm 9 44 rfl rfl) (wm 9 45 rfl rfl) (wm 1 23 rfl rfl) (wm 9 46 rfl rfl) (by decide) hR (by decide) (n := 1) rfl rfl (Nat.le_of_ble_eq_true rfl) hl.1 dX12_turns_96 (fun r_536 μ535 ρ d0 H locs hr_r_536 hp G => ?_)
                obtain ⟨hsm_537, hp_538⟩ := hp
                have hsm_537 := Eq.symm hsm_537
                subst hsm_537
                refine xc_vV G (b := 111) (rest := []) (As := [.int (iv 1), .long (jv r_536)]) (c_X12_turnsTo ω l μ 1 r_536 (by omega) hr_r_536) (wm 10 87 rfl rfl) (wm 10 89 rfl rfl) (wm 0 189 rfl rfl) rfl rfl (by decide) rfl (wm 1 18 rfl rfl) (wm 10 90 rfl rfl) (by decide) hR (by decide) (n := 2) rfl rfl (Nat.le_of_ble_eq_true rfl) hl.1 dX12_turns_99 (fun μ539 ρ d0 H locs hp G => ?_)
                obtain ⟨F_540, hp_541, hs_542, hs_543⟩ := hp
                refine lv_goto (tgt := 301) hx hb dX12_turns_102 (by decide) ?_
                exact xr_v G hret hlk dX12_turns_301 ⟨(FrM.tr FrM.rf F_540 (by decide)), (fun j hj => (hp_541 j (fun h9 => hj ((by decide : ∀ x ∈ ([98, 99] : List Int), x ∈ ([98, 99] : List Int)) j h9))))⟩
              · refine lv_iload hx hb dX12_turns_84 (lv_at hl 0 rfl) ?_
                refine xb_if_eq (tgt := 93) hx hb (x := 1) (by unfold ir; omega) dX12_turns_86 (by decide) (fun c_86 => absurd c_86 (by decide)) (fun c_86 => ?_)
                refine lv_iconst (v := iv 1) hx hb dX12_turns_89 rfl ?_
                refine lv_goto (tgt := 94) hx hb dX12_turns_90 (by decide) ?_
                refine lv_dload hx hb dX12_turns_94 (lv_at hl 1 rfl) ?_
                refine xc_lS G (rest := [.int (iv 1), .ref (oP ω 111)]) (As := [.double (dv dd_495)]) (c_Jxe99ae_doubleToLongBits_ccdee ω l μ dd_495 ) (wm 9 44 rfl rfl) (wm 9 45 rfl rfl) (wm 1 23 rfl rfl) (wm 9 46 rfl rfl) (by decide) hR (by decide) (n := 1) rfl rfl (Nat.le_of_ble_eq_true rfl) hl.1 dX12_turns_96 (fun r_545 μ544 ρ d0 H locs hr_r_545 hp G => ?_)
                obtain ⟨hsm_546, hp_547⟩ := hp
                have hsm_546 := Eq.symm hsm_546
                subst hsm_546
                refine xc_vV G (b := 111) (rest := []) (As := [.int (iv 1), .long (jv r_545)]) (c_X12_turnsTo ω l μ 1 r_545 (by omega) hr_r_545) (wm 10 87 rfl rfl) (wm 10 89 rfl rfl) (wm 0 189 rfl rfl) rfl rfl (by decide) rfl (wm 1 18 rfl rfl) (wm 10 90 rfl rfl) (by decide) hR (by decide) (n := 2) rfl rfl (Nat.le_of_ble_eq_true rfl) hl.1 dX12_turns_99 (fun μ548 ρ d0 H locs hp G => ?_)
                obtain ⟨F_549, hp_550, hs_551, hs_552⟩ := hp
                refine lv_goto (tgt := 301) hx hb dX12_turns_102 (by decide) ?_
                exact xr_v G hret hlk dX12_turns_301 ⟨(FrM.tr FrM.rf F_549 (by decide)), (fun j hj => (hp_550 j (fun h9 => hj ((by decide : ∀ x ∈ ([98, 99] : List Int), x ∈ ([98, 99] : List Int)) j h9))))⟩
    · refine lv_lload hx hb dX12_turns_18 (lv_at hl 4 rfl) ?_
      refine xc_dS G (rest := []) (As := [.long (jv x4)]) (c_X12_real ω l μ x4 hx4) (wm 10 91 rfl rfl) (wm 10 92 rfl rfl) (wm 1 18 rfl rfl) (wm 10 93 rfl rfl) (by decide) hR (by decide) (n := 1) rfl rfl (Nat.le_of_ble_eq_true rfl) hl.1 dX12_turns_20 (fun r_554 μ553 ρ d0 H locs hp G => ?_)
      have hsm_555 := hp
      have hsm_555 := Eq.symm hsm_555
      subst hsm_555
      refine lv_goto (tgt := 27) hx hb dX12_turns_23 (by decide) ?_
      refine lv_dstore (lv' := [(6, .double (dv r_554)), (0, .ref (oP ω 111)), (1, .int (iv x1)), (2, .int (iv x2)), (3, .int (iv x3)), (4, .long (jv x4))]) hx hb dX12_turns_27 hl (by decide) rfl (fun ls hl => ?_)
      refine lv_iload_n hx hb dX12_turns_29 rfl (lv_at hl 2 rfl) ?_
      refine lv_iconst (v := iv 3) hx hb dX12_turns_30 rfl ?_
      refine xb_icmp_ne (tgt := 40) hx hb (by unfold ir; omega) (by unfold ir; omega) dX12_turns_31 (by decide) (fun c_31 => ?_) (fun c_31 => ?_)
      · refine lv_lload hx hb dX12_turns_40 (lv_at hl 5 rfl) ?_
        refine lv_lstore (lv' := [(8, .long (jv x4)), (6, .double (dv r_554)), (0, .ref (oP ω 111)), (1, .int (iv x1)), (2, .int (iv x2)), (3, .int (iv x3)), (4, .long (jv x4))]) hx hb dX12_turns_42 hl (by decide) rfl (fun ls hl => ?_)
        refine lv_iload_n hx hb dX12_turns_44 rfl (lv_at hl 4 rfl) ?_
        refine lv_iconst (v := iv 3) hx hb dX12_turns_45 rfl ?_
        refine xb_icmp_ne (tgt := 105) hx hb (by unfold ir; omega) (by unfold ir; omega) dX12_turns_46 (by decide) (fun c_46 => ?_) (fun c_46 => ?_)
        · refine lv_iload_n hx hb dX12_turns_105 rfl (lv_at hl 5 rfl) ?_
          refine xb_if_ne (tgt := 176) hx hb (by unfold ir; omega) dX12_turns_106 (by decide) (fun c_106 => ?_) (fun c_106 => ?_)
          · refine lv_iload_n hx hb dX12_turns_176 rfl (lv_at hl 5 rfl) ?_
            refine lv_iconst (v := iv 1) hx hb dX12_turns_177 rfl ?_
            refine xb_icmp_ne (tgt := 216) hx hb (by unfold ir; omega) (by unfold ir; omega) dX12_turns_178 (by decide) (fun c_178 => ?_) (fun c_178 => ?_)
            · refine lv_iload_n hx hb dX12_turns_216 rfl (lv_at hl 4 rfl) ?_
              refine xb_if_ne (tgt := 226) hx hb (by unfold ir; omega) dX12_turns_217 (by decide) (fun c_217 => ?_) (fun c_217 => ?_)
              · refine lv_iload_n hx hb dX12_turns_226 rfl (lv_at hl 4 rfl) ?_
                refine lv_iconst (v := iv 1) hx hb dX12_turns_227 rfl ?_
                refine xb_icmp_ne (tgt := 237) hx hb (by unfold ir; omega) (by unfold ir; omega) dX12_turns_228 (by decide) (fun c_228 => ?_) (fun c_228 => ?_)
                · refine lv_ldc2 (s := s.setDrawn d0) hx hb G.1.2.2.2.1 (dr_words G.1.2.2.2.2 d0 _ (wm 10 102 rfl rfl)) dX12_turns_237 ?_
                  refine xb_litl (x := (-100000000000000000)) (by decide) ?_
                  refine lv_lstore (lv' := [(10, .long (jv (-100000000000000000))), (8, .long (jv x4)), (6, .double (dv r_554)), (0, .ref (oP ω 111)), (1, .int (iv x1)), (2, .int (iv x2)), (3, .int (iv x3)), (4, .long (jv x4))]) hx hb dX12_turns_240 hl (by decide) rfl (fun ls hl => ?_)
                  refine lv_iload_n hx hb dX12_turns_242 rfl (lv_at hl 5 rfl) ?_
                  refine xb_if_ne (tgt := 252) hx hb (by unfold ir; omega) dX12_turns_243 (by decide) (fun c_243 => ?_) (fun c_243 => ?_)
                  · refine lv_iload_n hx hb dX12_turns_252 rfl (lv_at hl 5 rfl) ?_
                    refine lv_iconst (v := iv 1) hx hb dX12_turns_253 rfl ?_
                    refine xb_icmp_ne (tgt := 263) hx hb (by unfold ir; omega) (by unfold ir; omega) dX12_turns_254 (by decide) (fun c_254 => ?_) (fun c_254 => ?_)
                    · refine lv_ldc2 (s := s.setDrawn d0) hx hb G.1.2.2.2.1 (dr_words G.1.2.2.2.2 d0 _ (wm 9 36 rfl rfl)) dX12_turns_263 ?_
                      refine xb_litl (x := 100000000000000000) (by decide) ?_
                      refine lv_lstore (lv' := [(12, .long (jv 100000000000000000)), (10, .long (jv (-100000000000000000))), (8, .long (jv x4)), (6, .double (dv r_554)), (0, .ref (oP ω 111)), (1, .int (iv x1)), (2, .int (iv x2)), (3, .int (iv x3)), (4, .long (jv x4))]) hx hb dX12_turns_266 hl (by decide) rfl (fun ls hl => ?_)
                      refine lv_aload_n hx hb dX12_turns_268 rfl (lv_at hl 4 rfl) ?_
                      refine lv_iconst (v := iv 1) hx hb dX12_turns_269 rfl ?_
                      refine lv_lload hx hb dX12_turns_270 (lv_at hl 2 rfl) ?_
                      refine lv_lload hx hb dX12_turns_272 (lv_at hl 1 rfl) ?_
                      refine xb_lcmp hx hb hx4 (by unfold jr; omega) dX12_turns_274 ?_
                      have hr_556 : -2147483648 ≤ lcm x4 (-100000000000000000) ∧ lcm x4 (-100000000000000000) ≤ 2147483647 := lcm_ir _ _
                      refine xb_if_ge (tgt := 283) hx hb (by unfold ir; omega) dX12_turns_275 (by decide) (fun c_275 => ?_) (fun c_275 => ?_)
                      · refine lv_lload hx hb dX12_turns_283 (lv_at hl 2 rfl) ?_
                        refine lv_lload hx hb dX12_turns_285 (lv_at hl 0 rfl) ?_
                        refine xb_lcmp hx hb hx4 (by unfold jr; omega) dX12_turns_287 ?_
                        have hr_557 : -2147483648 ≤ lcm x4 100000000000000000 ∧ lcm x4 100000000000000000 ≤ 2147483647 := lcm_ir _ _
                        refine xb_if_le (tgt := 296) hx hb (by unfold ir; omega) dX12_turns_288 (by decide) (fun c_288 => ?_) (fun c_288 => ?_)
                        · refine lv_lload hx hb dX12_turns_296 (lv_at hl 2 rfl) ?_
                          refine xc_vV G (b := 111) (rest := []) (As := [.int (iv 1), .long (jv x4)]) (c_X12_turnsTo ω l μ 1 x4 (by omega) hx4) (wm 10 87 rfl rfl) (wm 10 89 rfl rfl) (wm 0 189 rfl rfl) rfl rfl (by decide) rfl (wm 1 18 rfl rfl) (wm 10 90 rfl rfl) (by decide) hR (by decide) (n := 2) rfl rfl (Nat.le_of_ble_eq_true rfl) hl.1 dX12_turns_298 (fun μ558 ρ d0 H locs hp G => ?_)
                          obtain ⟨F_559, hp_560, hs_561, hs_562⟩ := hp
                          exact xr_v G hret hlk dX12_turns_301 ⟨(FrM.tr FrM.rf F_559 (by decide)), (fun j hj => (hp_560 j (fun h9 => hj ((by decide : ∀ x ∈ ([98, 99] : List Int), x ∈ ([98, 99] : List Int)) j h9))))⟩
                        · refine lv_lload hx hb dX12_turns_291 (lv_at hl 0 rfl) ?_
                          refine lv_goto (tgt := 298) hx hb dX12_turns_293 (by decide) ?_
                          refine xc_vV G (b := 111) (rest := []) (As := [.int (iv 1), .long (jv 100000000000000000)]) (c_X12_turnsTo ω l μ 1 100000000000000000 (by omega) (by unfold jr; omega)) (wm 10 87 rfl rfl) (wm 10 89 rfl rfl) (wm 0 189 rfl rfl) rfl rfl (by decide) rfl (wm 1 18 rfl rfl) (wm 10 90 rfl rfl) (by decide) hR (by decide) (n := 2) rfl rfl (Nat.le_of_ble_eq_true rfl) hl.1 dX12_turns_298 (fun μ563 ρ d0 H locs hp G => ?_)
                          obtain ⟨F_564, hp_565, hs_566, hs_567⟩ := hp
                          exact xr_v G hret hlk dX12_turns_301 ⟨(FrM.tr FrM.rf F_564 (by decide)), (fun j hj => (hp_565 j (fun h9 => hj ((by decide : ∀ x ∈ ([98, 99] : List Int), x ∈ ([98, 99] : List Int)) j h9))))⟩
                      · refine lv_lload hx hb dX12_turns_278 (lv_at hl 1 rfl) ?_
                        refine lv_goto (tgt := 298) hx hb dX12_turns_280 (by decide) ?_
                        refine xc_vV G (b := 111) (rest := []) (As := [.int (iv 1), .long (jv (-100000000000000000))]) (c_X12_turnsTo ω l μ 1 (-100000000000000000) (by omega) (by unfold jr; omega)) (wm 10 87 rfl rfl) (wm 10 89 rfl rfl) (wm 0 189 rfl rfl) rfl rfl (by decide) rfl (wm 1 18 rfl rfl) (wm 10 90 rfl rfl) (by decide) hR (by decide) (n := 2) rfl rfl (Nat.le_of_ble_eq_true rfl) hl.1 dX12_turns_298 (fun μ568 ρ d0 H locs hp G => ?_)
                        obtain ⟨F_569, hp_570, hs_571, hs_572⟩ := hp
                        exact xr_v G hret hlk dX12_turns_301 ⟨(FrM.tr FrM.rf F_569 (by decide)), (fun j hj => (hp_570 j (fun h9 => hj ((by decide : ∀ x ∈ ([98, 99] : List Int), x ∈ ([98, 99] : List Int)) j h9))))⟩
                    · refine lv_ldc2 (s := s.setDrawn d0) hx hb G.1.2.2.2.1 (dr_words G.1.2.2.2.2 d0 _ (wm 9 35 rfl rfl)) dX12_turns_257 ?_
                      refine xb_litl (x := 2147483647) (by decide) ?_
                      refine lv_goto (tgt := 266) hx hb dX12_turns_260 (by decide) ?_
                      refine lv_lstore (lv' := [(12, .long (jv 2147483647)), (10, .long (jv (-100000000000000000))), (8, .long (jv x4)), (6, .double (dv r_554)), (0, .ref (oP ω 111)), (1, .int (iv x1)), (2, .int (iv x2)), (3, .int (iv x3)), (4, .long (jv x4))]) hx hb dX12_turns_266 hl (by decide) rfl (fun ls hl => ?_)
                      refine lv_aload_n hx hb dX12_turns_268 rfl (lv_at hl 4 rfl) ?_
                      refine lv_iconst (v := iv 1) hx hb dX12_turns_269 rfl ?_
                      refine lv_lload hx hb dX12_turns_270 (lv_at hl 2 rfl) ?_
                      refine lv_lload hx hb dX12_turns_272 (lv_at hl 1 rfl) ?_
                      refine xb_lcmp hx hb hx4 (by unfold jr; omega) dX12_turns_274 ?_
                      have hr_573 : -2147483648 ≤ lcm x4 (-100000000000000000) ∧ lcm x4 (-100000000000000000) ≤ 2147483647 := lcm_ir _ _
                      refine xb_if_ge (tgt := 283) hx hb (by unfold ir; omega) dX12_turns_275 (by decide) (fun c_275 => ?_) (fun c_275 => ?_)
                      · refine lv_lload hx hb dX12_turns_283 (lv_at hl 2 rfl) ?_
                        refine lv_lload hx hb dX12_turns_285 (lv_at hl 0 rfl) ?_
                        refine xb_lcmp hx hb hx4 (by unfold jr; omega) dX12_turns_287 ?_
                        have hr_574 : -2147483648 ≤ lcm x4 2147483647 ∧ lcm x4 2147483647 ≤ 2147483647 := lcm_ir _ _
                        refine xb_if_le (tgt := 296) hx hb (by unfold ir; omega) dX12_turns_288 (by decide) (fun c_288 => ?_) (fun c_288 => ?_)
                        · refine lv_lload hx hb dX12_turns_296 (lv_at hl 2 rfl) ?_
                          refine xc_vV G (b := 111) (rest := []) (As := [.int (iv 1), .long (jv x4)]) (c_X12_turnsTo ω l μ 1 x4 (by omega) hx4) (wm 10 87 rfl rfl) (wm 10 89 rfl rfl) (wm 0 189 rfl rfl) rfl rfl (by decide) rfl (wm 1 18 rfl rfl) (wm 10 90 rfl rfl) (by decide) hR (by decide) (n := 2) rfl rfl (Nat.le_of_ble_eq_true rfl) hl.1 dX12_turns_298 (fun μ575 ρ d0 H locs hp G => ?_)
                          obtain ⟨F_576, hp_577, hs_578, hs_579⟩ := hp
                          exact xr_v G hret hlk dX12_turns_301 ⟨(FrM.tr FrM.rf F_576 (by decide)), (fun j hj => (hp_577 j (fun h9 => hj ((by decide : ∀ x ∈ ([98, 99] : List Int), x ∈ ([98, 99] : List Int)) j h9))))⟩
                        · refine lv_lload hx hb dX12_turns_291 (lv_at hl 0 rfl) ?_
                          refine lv_goto (tgt := 298) hx hb dX12_turns_293 (by decide) ?_
                          refine xc_vV G (b := 111) (rest := []) (As := [.int (iv 1), .long (jv 2147483647)]) (c_X12_turnsTo ω l μ 1 2147483647 (by omega) (by unfold jr; omega)) (wm 10 87 rfl rfl) (wm 10 89 rfl rfl) (wm 0 189 rfl rfl) rfl rfl (by decide) rfl (wm 1 18 rfl rfl) (wm 10 90 rfl rfl) (by decide) hR (by decide) (n := 2) rfl rfl (Nat.le_of_ble_eq_true rfl) hl.1 dX12_turns_298 (fun μ580 ρ d0 H locs hp G => ?_)
                          obtain ⟨F_581, hp_582, hs_583, hs_584⟩ := hp
                          exact xr_v G hret hlk dX12_turns_301 ⟨(FrM.tr FrM.rf F_581 (by decide)), (fun j hj => (hp_582 j (fun h9 => hj ((by decide : ∀ x ∈ ([98, 99] : List Int), x ∈ ([98, 99] : List Int)) j h9))))⟩
                      · refine lv_lload hx hb dX12_turns_278 (lv_at hl 1 rfl) ?_
                        refine lv_goto (tgt := 298) hx hb dX12_turns_280 (by decide) ?_
                        refine xc_vV G (b := 111) (rest := []) (As := [.int (iv 1), .long (jv (-100000000000000000))]) (c_X12_turnsTo ω l μ 1 (-100000000000000000) (by omega) (by unfold jr; omega)) (wm 10 87 rfl rfl) (wm 10 89 rfl rfl) (wm 0 189 rfl rfl) rfl rfl (by decide) rfl (wm 1 18 rfl rfl) (wm 10 90 rfl rfl) (by decide) hR (by decide) (n := 2) rfl rfl (Nat.le_of_ble_eq_true rfl) hl.1 dX12_turns_298 (fun μ585 ρ d0 H locs hp G => ?_)
                        obtain ⟨F_586, hp_587, hs_588, hs_589⟩ := hp
                        exact xr_v G hret hlk dX12_turns_301 ⟨(FrM.tr FrM.rf F_586 (by decide)), (fun j hj => (hp_587 j (fun h9 => hj ((by decide : ∀ x ∈ ([98, 99] : List Int), x ∈ ([98, 99] : List Int)) j h9))))⟩
                  · refine lv_ldc2 (s := s.setDrawn d0) hx hb G.1.2.2.2.1 (dr_words G.1.2.2.2.2 d0 _ (wm 9 34 rfl rfl)) dX12_turns_246 ?_
                    refine xb_litl (x := 9223372036854775807) (by decide) ?_
                    refine lv_goto (tgt := 266) hx hb dX12_turns_249 (by decide) ?_
                    refine lv_lstore (lv' := [(12, .long (jv 9223372036854775807)), (10, .long (jv (-100000000000000000))), (8, .long (jv x4)), (6, .double (dv r_554)), (0, .ref (oP ω 111)), (1, .int (iv x1)), (2, .int (iv x2)), (3, .int (iv x3)), (4, .long (jv x4))]) hx hb dX12_turns_266 hl (by decide) rfl (fun ls hl => ?_)
                    refine lv_aload_n hx hb dX12_turns_268 rfl (lv_at hl 4 rfl) ?_
                    refine lv_iconst (v := iv 1) hx hb dX12_turns_269 rfl ?_
                    refine lv_lload hx hb dX12_turns_270 (lv_at hl 2 rfl) ?_
                    refine lv_lload hx hb dX12_turns_272 (lv_at hl 1 rfl) ?_
                    refine xb_lcmp hx hb hx4 (by unfold jr; omega) dX12_turns_274 ?_
                    have hr_590 : -2147483648 ≤ lcm x4 (-100000000000000000) ∧ lcm x4 (-100000000000000000) ≤ 2147483647 := lcm_ir _ _
                    refine xb_if_ge (tgt := 283) hx hb (by unfold ir; omega) dX12_turns_275 (by decide) (fun c_275 => ?_) (fun c_275 => ?_)
                    · refine lv_lload hx hb dX12_turns_283 (lv_at hl 2 rfl) ?_
                      refine lv_lload hx hb dX12_turns_285 (lv_at hl 0 rfl) ?_
                      refine xb_lcmp hx hb hx4 (by unfold jr; omega) dX12_turns_287 ?_
                      have hr_591 : -2147483648 ≤ lcm x4 9223372036854775807 ∧ lcm x4 9223372036854775807 ≤ 2147483647 := lcm_ir _ _
                      refine xb_if_le (tgt := 296) hx hb (by unfold ir; omega) dX12_turns_288 (by decide) (fun c_288 => ?_) (fun c_288 => ?_)
                      · refine lv_lload hx hb dX12_turns_296 (lv_at hl 2 rfl) ?_
                        refine xc_vV G (b := 111) (rest := []) (As := [.int (iv 1), .long (jv x4)]) (c_X12_turnsTo ω l μ 1 x4 (by omega) hx4) (wm 10 87 rfl rfl) (wm 10 89 rfl rfl) (wm 0 189 rfl rfl) rfl rfl (by decide) rfl (wm 1 18 rfl rfl) (wm 10 90 rfl rfl) (by decide) hR (by decide) (n := 2) rfl rfl (Nat.le_of_ble_eq_true rfl) hl.1 dX12_turns_298 (fun μ592 ρ d0 H locs hp G => ?_)
                        obtain ⟨F_593, hp_594, hs_595, hs_596⟩ := hp
                        exact xr_v G hret hlk dX12_turns_301 ⟨(FrM.tr FrM.rf F_593 (by decide)), (fun j hj => (hp_594 j (fun h9 => hj ((by decide : ∀ x ∈ ([98, 99] : List Int), x ∈ ([98, 99] : List Int)) j h9))))⟩
                      · refine lv_lload hx hb dX12_turns_291 (lv_at hl 0 rfl) ?_
                        refine lv_goto (tgt := 298) hx hb dX12_turns_293 (by decide) ?_
                        refine xc_vV G (b := 111) (rest := []) (As := [.int (iv 1), .long (jv 9223372036854775807)]) (c_X12_turnsTo ω l μ 1 9223372036854775807 (by omega) (by unfold jr; omega)) (wm 10 87 rfl rfl) (wm 10 89 rfl rfl) (wm 0 189 rfl rfl) rfl rfl (by decide) rfl (wm 1 18 rfl rfl) (wm 10 90 rfl rfl) (by decide) hR (by decide) (n := 2) rfl rfl (Nat.le_of_ble_eq_true rfl) hl.1 dX12_turns_298 (fun μ597 ρ d0 H locs hp G => ?_)
                        obtain ⟨F_598, hp_599, hs_600, hs_601⟩ := hp
                        exact xr_v G hret hlk dX12_turns_301 ⟨(FrM.tr FrM.rf F_598 (by decide)), (fun j hj => (hp_599 j (fun h9 => hj ((by decide : ∀ x ∈ ([98, 99] : List Int), x ∈ ([98, 99] : List Int)) j h9))))⟩
                    · refine lv_lload hx hb dX12_turns_278 (lv_at hl 1 rfl) ?_
                      refine lv_goto (tgt := 298) hx hb dX12_turns_280 (by decide) ?_
                      refine xc_vV G (b := 111) (rest := []) (As := [.int (iv 1), .long (jv (-100000000000000000))]) (c_X12_turnsTo ω l μ 1 (-100000000000000000) (by omega) (by unfold jr; omega)) (wm 10 87 rfl rfl) (wm 10 89 rfl rfl) (wm 0 189 rfl rfl) rfl rfl (by decide) rfl (wm 1 18 rfl rfl) (wm 10 90 rfl rfl) (by decide) hR (by decide) (n := 2) rfl rfl (Nat.le_of_ble_eq_true rfl) hl.1 dX12_turns_298 (fun μ602 ρ d0 H locs hp G => ?_)
                      obtain ⟨F_603, hp_604, hs_605, hs_606⟩ := hp
                      exact xr_v G hret hlk dX12_turns_301 ⟨(FrM.tr FrM.rf F_603 (by decide)), (fun j hj => (hp_604 j (fun h9 => hj ((by decide : ∀ x ∈ ([98, 99] : List Int), x ∈ ([98, 99] : List Int)) j h9))))⟩
                · refine lv_ldc2 (s := s.setDrawn d0) hx hb G.1.2.2.2.1 (dr_words G.1.2.2.2.2 d0 _ (wm 10 104 rfl rfl)) dX12_turns_231 ?_
                  refine xb_litl (x := (-2147483648)) (by decide) ?_
                  refine lv_goto (tgt := 240) hx hb dX12_turns_234 (by decide) ?_
                  refine lv_lstore (lv' := [(10, .long (jv (-2147483648))), (8, .long (jv x4)), (6, .double (dv r_554)), (0, .ref (oP ω 111)), (1, .int (iv x1)), (2, .int (iv x2)), (3, .int (iv x3)), (4, .long (jv x4))]) hx hb dX12_turns_240 hl (by decide) rfl (fun ls hl => ?_)
                  refine lv_iload_n hx hb dX12_turns_242 rfl (lv_at hl 5 rfl) ?_
                  refine xb_if_ne (tgt := 252) hx hb (by unfold ir; omega) dX12_turns_243 (by decide) (fun c_243 => ?_) (fun c_243 => ?_)
                  · refine lv_iload_n hx hb dX12_turns_252 rfl (lv_at hl 5 rfl) ?_
                    refine lv_iconst (v := iv 1) hx hb dX12_turns_253 rfl ?_
                    refine xb_icmp_ne (tgt := 263) hx hb (by unfold ir; omega) (by unfold ir; omega) dX12_turns_254 (by decide) (fun c_254 => ?_) (fun c_254 => ?_)
                    · refine lv_ldc2 (s := s.setDrawn d0) hx hb G.1.2.2.2.1 (dr_words G.1.2.2.2.2 d0 _ (wm 9 36 rfl rfl)) dX12_turns_263 ?_
                      refine xb_litl (x := 100000000000000000) (by decide) ?_
                      refine lv_lstore (lv' := [(12, .long (jv 100000000000000000)), (10, .long (jv (-2147483648))), (8, .long (jv x4)), (6, .double (dv r_554)), (0, .ref (oP ω 111)), (1, .int (iv x1)), (2, .int (iv x2)), (3, .int (iv x3)), (4, .long (jv x4))]) hx hb dX12_turns_266 hl (by decide) rfl (fun ls hl => ?_)
                      refine lv_aload_n hx hb dX12_turns_268 rfl (lv_at hl 4 rfl) ?_
                      refine lv_iconst (v := iv 1) hx hb dX12_turns_269 rfl ?_
                      refine lv_lload hx hb dX12_turns_270 (lv_at hl 2 rfl) ?_
                      refine lv_lload hx hb dX12_turns_272 (lv_at hl 1 rfl) ?_
                      refine xb_lcmp hx hb hx4 (by unfold jr; omega) dX12_turns_274 ?_
                      have hr_607 : -2147483648 ≤ lcm x4 (-2147483648) ∧ lcm x4 (-2147483648) ≤ 2147483647 := lcm_ir _ _
                      refine xb_if_ge (tgt := 283) hx hb (by unfold ir; omega) dX12_turns_275 (by decide) (fun c_275 => ?_) (fun c_275 => ?_)
                      · refine lv_lload hx hb dX12_turns_283 (lv_at hl 2 rfl) ?_
                        refine lv_lload hx hb dX12_turns_285 (lv_at hl 0 rfl) ?_
                        refine xb_lcmp hx hb hx4 (by unfold jr; omega) dX12_turns_287 ?_
                        have hr_608 : -2147483648 ≤ lcm x4 100000000000000000 ∧ lcm x4 100000000000000000 ≤ 2147483647 := lcm_ir _ _
                        refine xb_if_le (tgt := 296) hx hb (by unfold ir; omega) dX12_turns_288 (by decide) (fun c_288 => ?_) (fun c_288 => ?_)
                        · refine lv_lload hx hb dX12_turns_296 (lv_at hl 2 rfl) ?_
                          refine xc_vV G (b := 111) (rest := []) (As := [.int (iv 1), .long (jv x4)]) (c_X12_turnsTo ω l μ 1 x4 (by omega) hx4) (wm 10 87 rfl rfl) (wm 10 89 rfl rfl) (wm 0 189 rfl rfl) rfl rfl (by decide) rfl (wm 1 18 rfl rfl) (wm 10 90 rfl rfl) (by decide) hR (by decide) (n := 2) rfl rfl (Nat.le_of_ble_eq_true rfl) hl.1 dX12_turns_298 (fun μ609 ρ d0 H locs hp G => ?_)
                          obtain ⟨F_610, hp_611, hs_612, hs_613⟩ := hp
                          exact xr_v G hret hlk dX12_turns_301 ⟨(FrM.tr FrM.rf F_610 (by decide)), (fun j hj => (hp_611 j (fun h9 => hj ((by decide : ∀ x ∈ ([98, 99] : List Int), x ∈ ([98, 99] : List Int)) j h9))))⟩
                        · refine lv_lload hx hb dX12_turns_291 (lv_at hl 0 rfl) ?_
                          refine lv_goto (tgt := 298) hx hb dX12_turns_293 (by decide) ?_
                          refine xc_vV G (b := 111) (rest := []) (As := [.int (iv 1), .long (jv 100000000000000000)]) (c_X12_turnsTo ω l μ 1 100000000000000000 (by omega) (by unfold jr; omega)) (wm 10 87 rfl rfl) (wm 10 89 rfl rfl) (wm 0 189 rfl rfl) rfl rfl (by decide) rfl (wm 1 18 rfl rfl) (wm 10 90 rfl rfl) (by decide) hR (by decide) (n := 2) rfl rfl (Nat.le_of_ble_eq_true rfl) hl.1 dX12_turns_298 (fun μ614 ρ d0 H locs hp G => ?_)
                          obtain ⟨F_615, hp_616, hs_617, hs_618⟩ := hp
                          exact xr_v G hret hlk dX12_turns_301 ⟨(FrM.tr FrM.rf F_615 (by decide)), (fun j hj => (hp_616 j (fun h9 => hj ((by decide : ∀ x ∈ ([98, 99] : List Int), x ∈ ([98, 99] : List Int)) j h9))))⟩
                      · refine lv_lload hx hb dX12_turns_278 (lv_at hl 1 rfl) ?_
                        refine lv_goto (tgt := 298) hx hb dX12_turns_280 (by decide) ?_
                        refine xc_vV G (b := 111) (rest := []) (As := [.int (iv 1), .long (jv (-2147483648))]) (c_X12_turnsTo ω l μ 1 (-2147483648) (by omega) (by unfold jr; omega)) (wm 10 87 rfl rfl) (wm 10 89 rfl rfl) (wm 0 189 rfl rfl) rfl rfl (by decide) rfl (wm 1 18 rfl rfl) (wm 10 90 rfl rfl) (by decide) hR (by decide) (n := 2) rfl rfl (Nat.le_of_ble_eq_true rfl) hl.1 dX12_turns_298 (fun μ619 ρ d0 H locs hp G => ?_)
                        obtain ⟨F_620, hp_621, hs_622, hs_623⟩ := hp
                        exact xr_v G hret hlk dX12_turns_301 ⟨(FrM.tr FrM.rf F_620 (by decide)), (fun j hj => (hp_621 j (fun h9 => hj ((by decide : ∀ x ∈ ([98, 99] : List Int), x ∈ ([98, 99] : List Int)) j h9))))⟩
                    · refine lv_ldc2 (s := s.setDrawn d0) hx hb G.1.2.2.2.1 (dr_words G.1.2.2.2.2 d0 _ (wm 9 35 rfl rfl)) dX12_turns_257 ?_
                      refine xb_litl (x := 2147483647) (by decide) ?_
                      refine lv_goto (tgt := 266) hx hb dX12_turns_260 (by decide) ?_
                      refine lv_lstore (lv' := [(12, .long (jv 2147483647)), (10, .long (jv (-2147483648))), (8, .long (jv x4)), (6, .double (dv r_554)), (0, .ref (oP ω 111)), (1, .int (iv x1)), (2, .int (iv x2)), (3, .int (iv x3)), (4, .long (jv x4))]) hx hb dX12_turns_266 hl (by decide) rfl (fun ls hl => ?_)
                      refine lv_aload_n hx hb dX12_turns_268 rfl (lv_at hl 4 rfl) ?_
                      refine lv_iconst (v := iv 1) hx hb dX12_turns_269 rfl ?_
                      refine lv_lload hx hb dX12_turns_270 (lv_at hl 2 rfl) ?_
                      refine lv_lload hx hb dX12_turns_272 (lv_at hl 1 rfl) ?_
                      refine xb_lcmp hx hb hx4 (by unfold jr; omega) dX12_turns_274 ?_
                      have hr_624 : -2147483648 ≤ lcm x4 (-2147483648) ∧ lcm x4 (-2147483648) ≤ 2147483647 := lcm_ir _ _
                      refine xb_if_ge (tgt := 283) hx hb (by unfold ir; omega) dX12_turns_275 (by decide) (fun c_275 => ?_) (fun c_275 => ?_)
                      · refine lv_lload hx hb dX12_turns_283 (lv_at hl 2 rfl) ?_
                        refine lv_lload hx hb dX12_turns_285 (lv_at hl 0 rfl) ?_
                        refine xb_lcmp hx hb hx4 (by unfold jr; omega) dX12_turns_287 ?_
                        have hr_625 : -2147483648 ≤ lcm x4 2147483647 ∧ lcm x4 2147483647 ≤ 2147483647 := lcm_ir _ _
                        refine xb_if_le (tgt := 296) hx hb (by unfold ir; omega) dX12_turns_288 (by decide) (fun c_288 => ?_) (fun c_288 => ?_)
                        · refine lv_lload hx hb dX12_turns_296 (lv_at hl 2 rfl) ?_
                          refine xc_vV G (b := 111) (rest := []) (As := [.int (iv 1), .long (jv x4)]) (c_X12_turnsTo ω l μ 1 x4 (by omega) hx4) (wm 10 87 rfl rfl) (wm 10 89 rfl rfl) (wm 0 189 rfl rfl) rfl rfl (by decide) rfl (wm 1 18 rfl rfl) (wm 10 90 rfl rfl) (by decide) hR (by decide) (n := 2) rfl rfl (Nat.le_of_ble_eq_true rfl) hl.1 dX12_turns_298 (fun μ626 ρ d0 H locs hp G => ?_)
                          obtain ⟨F_627, hp_628, hs_629, hs_630⟩ := hp
                          exact xr_v G hret hlk dX12_turns_301 ⟨(FrM.tr FrM.rf F_627 (by decide)), (fun j hj => (hp_628 j (fun h9 => hj ((by decide : ∀ x ∈ ([98, 99] : List Int), x ∈ ([98, 99] : List Int)) j h9))))⟩
                        · refine lv_lload hx hb dX12_turns_291 (lv_at hl 0 rfl) ?_
                          refine lv_goto (tgt := 298) hx hb dX12_turns_293 (by decide) ?_
                          refine xc_vV G (b := 111) (rest := []) (As := [.int (iv 1), .long (jv 2147483647)]) (c_X12_turnsTo ω l μ 1 2147483647 (by omega) (by unfold jr; omega)) (wm 10 87 rfl rfl) (wm 10 89 rfl rfl) (wm 0 189 rfl rfl) rfl rfl (by decide) rfl (wm 1 18 rfl rfl) (wm 10 90 rfl rfl) (by decide) hR (by decide) (n := 2) rfl rfl (Nat.le_of_ble_eq_true rfl) hl.1 dX12_turns_298 (fun μ631 ρ d0 H locs hp G => ?_)
                          obtain ⟨F_632, hp_633, hs_634, hs_635⟩ := hp
                          exact xr_v G hret hlk dX12_turns_301 ⟨(FrM.tr FrM.rf F_632 (by decide)), (fun j hj => (hp_633 j (fun h9 => hj ((by decide : ∀ x ∈ ([98, 99] : List Int), x ∈ ([98, 99] : List Int)) j h9))))⟩
                      · refine lv_lload hx hb dX12_turns_278 (lv_at hl 1 rfl) ?_
                        refine lv_goto (tgt := 298) hx hb dX12_turns_280 (by decide) ?_
                        refine xc_vV G (b := 111) (rest := []) (As := [.int (iv 1), .long (jv (-2147483648))]) (c_X12_turnsTo ω l μ 1 (-2147483648) (by omega) (by unfold jr; omega)) (wm 10 87 rfl rfl) (wm 10 89 rfl rfl) (wm 0 189 rfl rfl) rfl rfl (by decide) rfl (wm 1 18 rfl rfl) (wm 10 90 rfl rfl) (by decide) hR (by decide) (n := 2) rfl rfl (Nat.le_of_ble_eq_true rfl) hl.1 dX12_turns_298 (fun μ636 ρ d0 H locs hp G => ?_)
                        obtain ⟨F_637, hp_638, hs_639, hs_640⟩ := hp
                        exact xr_v G hret hlk dX12_turns_301 ⟨(FrM.tr FrM.rf F_637 (by decide)), (fun j hj => (hp_638 j (fun h9 => hj ((by decide : ∀ x ∈ ([98, 99] : List Int), x ∈ ([98, 99] : List Int)) j h9))))⟩
                  · refine lv_ldc2 (s := s.setDrawn d0) hx hb G.1.2.2.2.1 (dr_words G.1.2.2.2.2 d0 _ (wm 9 34 rfl rfl)) dX12_turns_246 ?_
                    refine xb_litl (x := 9223372036854775807) (by decide) ?_
                    refine lv_goto (tgt := 266) hx hb dX12_turns_249 (by decide) ?_
                    refine lv_lstore (lv' := [(12, .long (jv 9223372036854775807)), (10, .long (jv (-2147483648))), (8, .long (jv x4)), (6, .double (dv r_554)), (0, .ref (oP ω 111)), (1, .int (iv x1)), (2, .int (iv x2)), (3, .int (iv x3)), (4, .long (jv x4))]) hx hb dX12_turns_266 hl (by decide) rfl (fun ls hl => ?_)
                    refine lv_aload_n hx hb dX12_turns_268 rfl (lv_at hl 4 rfl) ?_
                    refine lv_iconst (v := iv 1) hx hb dX12_turns_269 rfl ?_
                    refine lv_lload hx hb dX12_turns_270 (lv_at hl 2 rfl) ?_
                    refine lv_lload hx hb dX12_turns_272 (lv_at hl 1 rfl) ?_
                    refine xb_lcmp hx hb hx4 (by unfold jr; omega) dX12_turns_274 ?_
                    have hr_641 : -2147483648 ≤ lcm x4 (-2147483648) ∧ lcm x4 (-2147483648) ≤ 2147483647 := lcm_ir _ _
                    refine xb_if_ge (tgt := 283) hx hb (by unfold ir; omega) dX12_turns_275 (by decide) (fun c_275 => ?_) (fun c_275 => ?_)
                    · refine lv_lload hx hb dX12_turns_283 (lv_at hl 2 rfl) ?_
                      refine lv_lload hx hb dX12_turns_285 (lv_at hl 0 rfl) ?_
                      refine xb_lcmp hx hb hx4 (by unfold jr; omega) dX12_turns_287 ?_
                      have hr_642 : -2147483648 ≤ lcm x4 9223372036854775807 ∧ lcm x4 9223372036854775807 ≤ 2147483647 := lcm_ir _ _
                      refine xb_if_le (tgt := 296) hx hb (by unfold ir; omega) dX12_turns_288 (by decide) (fun c_288 => ?_) (fun c_288 => ?_)
                      · refine lv_lload hx hb dX12_turns_296 (lv_at hl 2 rfl) ?_
                        refine xc_vV G (b := 111) (rest := []) (As := [.int (iv 1), .long (jv x4)]) (c_X12_turnsTo ω l μ 1 x4 (by omega) hx4) (wm 10 87 rfl rfl) (wm 10 89 rfl rfl) (wm 0 189 rfl rfl) rfl rfl (by decide) rfl (wm 1 18 rfl rfl) (wm 10 90 rfl rfl) (by decide) hR (by decide) (n := 2) rfl rfl (Nat.le_of_ble_eq_true rfl) hl.1 dX12_turns_298 (fun μ643 ρ d0 H locs hp G => ?_)
                        obtain ⟨F_644, hp_645, hs_646, hs_647⟩ := hp
                        exact xr_v G hret hlk dX12_turns_301 ⟨(FrM.tr FrM.rf F_644 (by decide)), (fun j hj => (hp_645 j (fun h9 => hj ((by decide : ∀ x ∈ ([98, 99] : List Int), x ∈ ([98, 99] : List Int)) j h9))))⟩
                      · refine lv_lload hx hb dX12_turns_291 (lv_at hl 0 rfl) ?_
                        refine lv_goto (tgt := 298) hx hb dX12_turns_293 (by decide) ?_
                        refine xc_vV G (b := 111) (rest := []) (As := [.int (iv 1), .long (jv 9223372036854775807)]) (c_X12_turnsTo ω l μ 1 9223372036854775807 (by omega) (by unfold jr; omega)) (wm 10 87 rfl rfl) (wm 10 89 rfl rfl) (wm 0 189 rfl rfl) rfl rfl (by decide) rfl (wm 1 18 rfl rfl) (wm 10 90 rfl rfl) (by decide) hR (by decide) (n := 2) rfl rfl (Nat.le_of_ble_eq_true rfl) hl.1 dX12_turns_298 (fun μ648 ρ d0 H locs hp G => ?_)
                        obtain ⟨F_649, hp_650, hs_651, hs_652⟩ := hp
                        exact xr_v G hret hlk dX12_turns_301 ⟨(FrM.tr FrM.rf F_649 (by decide)), (fun j hj => (hp_650 j (fun h9 => hj ((by decide : ∀ x ∈ ([98, 99] : List Int), x ∈ ([98, 99] : List Int)) j h9))))⟩
                    · refine lv_lload hx hb dX12_turns_278 (lv_at hl 1 rfl) ?_
                      refine lv_goto (tgt := 298) hx hb dX12_turns_280 (by decide) ?_
                      refine xc_vV G (b := 111) (rest := []) (As := [.int (iv 1), .long (jv (-2147483648))]) (c_X12_turnsTo ω l μ 1 (-2147483648) (by omega) (by unfold jr; omega)) (wm 10 87 rfl rfl) (wm 10 89 rfl rfl) (wm 0 189 rfl rfl) rfl rfl (by decide) rfl (wm 1 18 rfl rfl) (wm 10 90 rfl rfl) (by decide) hR (by decide) (n := 2) rfl rfl (Nat.le_of_ble_eq_true rfl) hl.1 dX12_turns_298 (fun μ653 ρ d0 H locs hp G => ?_)
                      obtain ⟨F_654, hp_655, hs_656, hs_657⟩ := hp
                      exact xr_v G hret hlk dX12_turns_301 ⟨(FrM.tr FrM.rf F_654 (by decide)), (fun j hj => (hp_655 j (fun h9 => hj ((by decide : ∀ x ∈ ([98, 99] : List Int), x ∈ ([98, 99] : List Int)) j h9))))⟩
              · refine lv_ldc2 (s := s.setDrawn d0) hx hb G.1.2.2.2.1 (dr_words G.1.2.2.2.2 d0 _ (wm 10 103 rfl rfl)) dX12_turns_220 ?_
                refine xb_litl (x := (-9223372036854775808)) (by decide) ?_
                refine lv_goto (tgt := 240) hx hb dX12_turns_223 (by decide) ?_
                refine lv_lstore (lv' := [(10, .long (jv (-9223372036854775808))), (8, .long (jv x4)), (6, .double (dv r_554)), (0, .ref (oP ω 111)), (1, .int (iv x1)), (2, .int (iv x2)), (3, .int (iv x3)), (4, .long (jv x4))]) hx hb dX12_turns_240 hl (by decide) rfl (fun ls hl => ?_)
                refine lv_iload_n hx hb dX12_turns_242 rfl (lv_at hl 5 rfl) ?_
                refine xb_if_ne (tgt := 252) hx hb (by unfold ir; omega) dX12_turns_243 (by decide) (fun c_243 => ?_) (fun c_243 => ?_)
                · refine lv_iload_n hx hb dX12_turns_252 rfl (lv_at hl 5 rfl) ?_
                  refine lv_iconst (v := iv 1) hx hb dX12_turns_253 rfl ?_
                  refine xb_icmp_ne (tgt := 263) hx hb (by unfold ir; omega) (by unfold ir; omega) dX12_turns_254 (by decide) (fun c_254 => ?_) (fun c_254 => ?_)
                  · refine lv_ldc2 (s := s.setDrawn d0) hx hb G.1.2.2.2.1 (dr_words G.1.2.2.2.2 d0 _ (wm 9 36 rfl rfl)) dX12_turns_263 ?_
                    refine xb_litl (x := 100000000000000000) (by decide) ?_
                    refine lv_lstore (lv' := [(12, .long (jv 100000000000000000)), (10, .long (jv (-9223372036854775808))), (8, .long (jv x4)), (6, .double (dv r_554)), (0, .ref (oP ω 111)), (1, .int (iv x1)), (2, .int (iv x2)), (3, .int (iv x3)), (4, .long (jv x4))]) hx hb dX12_turns_266 hl (by decide) rfl (fun ls hl => ?_)
                    refine lv_aload_n hx hb dX12_turns_268 rfl (lv_at hl 4 rfl) ?_
                    refine lv_iconst (v := iv 1) hx hb dX12_turns_269 rfl ?_
                    refine lv_lload hx hb dX12_turns_270 (lv_at hl 2 rfl) ?_
                    refine lv_lload hx hb dX12_turns_272 (lv_at hl 1 rfl) ?_
                    refine xb_lcmp hx hb hx4 (by unfold jr; omega) dX12_turns_274 ?_
                    have hr_658 : -2147483648 ≤ lcm x4 (-9223372036854775808) ∧ lcm x4 (-9223372036854775808) ≤ 2147483647 := lcm_ir _ _
                    refine xb_if_ge (tgt := 283) hx hb (by unfold ir; omega) dX12_turns_275 (by decide) (fun c_275 => ?_) (fun c_275 => ?_)
                    · refine lv_lload hx hb dX12_turns_283 (lv_at hl 2 rfl) ?_
                      refine lv_lload hx hb dX12_turns_285 (lv_at hl 0 rfl) ?_
                      refine xb_lcmp hx hb hx4 (by unfold jr; omega) dX12_turns_287 ?_
                      have hr_659 : -2147483648 ≤ lcm x4 100000000000000000 ∧ lcm x4 100000000000000000 ≤ 2147483647 := lcm_ir _ _
                      refine xb_if_le (tgt := 296) hx hb (by unfold ir; omega) dX12_turns_288 (by decide) (fun c_288 => ?_) (fun c_288 => ?_)
                      · refine lv_lload hx hb dX12_turns_296 (lv_at hl 2 rfl) ?_
                        refine xc_vV G (b := 111) (rest := []) (As := [.int (iv 1), .long (jv x4)]) (c_X12_turnsTo ω l μ 1 x4 (by omega) hx4) (wm 10 87 rfl rfl) (wm 10 89 rfl rfl) (wm 0 189 rfl rfl) rfl rfl (by decide) rfl (wm 1 18 rfl rfl) (wm 10 90 rfl rfl) (by decide) hR (by decide) (n := 2) rfl rfl (Nat.le_of_ble_eq_true rfl) hl.1 dX12_turns_298 (fun μ660 ρ d0 H locs hp G => ?_)
                        obtain ⟨F_661, hp_662, hs_663, hs_664⟩ := hp
                        exact xr_v G hret hlk dX12_turns_301 ⟨(FrM.tr FrM.rf F_661 (by decide)), (fun j hj => (hp_662 j (fun h9 => hj ((by decide : ∀ x ∈ ([98, 99] : List Int), x ∈ ([98, 99] : List Int)) j h9))))⟩
                      · refine lv_lload hx hb dX12_turns_291 (lv_at hl 0 rfl) ?_
                        refine lv_goto (tgt := 298) hx hb dX12_turns_293 (by decide) ?_
                        refine xc_vV G (b := 111) (rest := []) (As := [.int (iv 1), .long (jv 100000000000000000)]) (c_X12_turnsTo ω l μ 1 100000000000000000 (by omega) (by unfold jr; omega)) (wm 10 87 rfl rfl) (wm 10 89 rfl rfl) (wm 0 189 rfl rfl) rfl rfl (by decide) rfl (wm 1 18 rfl rfl) (wm 10 90 rfl rfl) (by decide) hR (by decide) (n := 2) rfl rfl (Nat.le_of_ble_eq_true rfl) hl.1 dX12_turns_298 (fun μ665 ρ d0 H locs hp G => ?_)
                        obtain ⟨F_666, hp_667, hs_668, hs_669⟩ := hp
                        exact xr_v G hret hlk dX12_turns_301 ⟨(FrM.tr FrM.rf F_666 (by decide)), (fun j hj => (hp_667 j (fun h9 => hj ((by decide : ∀ x ∈ ([98, 99] : List Int), x ∈ ([98, 99] : List Int)) j h9))))⟩
                    · refine lv_lload hx hb dX12_turns_278 (lv_at hl 1 rfl) ?_
                      refine lv_goto (tgt := 298) hx hb dX12_turns_280 (by decide) ?_
                      refine xc_vV G (b := 111) (rest := []) (As := [.int (iv 1), .long (jv (-9223372036854775808))]) (c_X12_turnsTo ω l μ 1 (-9223372036854775808) (by omega) (by unfold jr; omega)) (wm 10 87 rfl rfl) (wm 10 89 rfl rfl) (wm 0 189 rfl rfl) rfl rfl (by decide) rfl (wm 1 18 rfl rfl) (wm 10 90 rfl rfl) (by decide) hR (by decide) (n := 2) rfl rfl (Nat.le_of_ble_eq_true rfl) hl.1 dX12_turns_298 (fun μ670 ρ d0 H locs hp G => ?_)
                      obtain ⟨F_671, hp_672, hs_673, hs_674⟩ := hp
                      exact xr_v G hret hlk dX12_turns_301 ⟨(FrM.tr FrM.rf F_671 (by decide)), (fun j hj => (hp_672 j (fun h9 => hj ((by decide : ∀ x ∈ ([98, 99] : List Int), x ∈ ([98, 99] : List Int)) j h9))))⟩
                  · refine lv_ldc2 (s := s.setDrawn d0) hx hb G.1.2.2.2.1 (dr_words G.1.2.2.2.2 d0 _ (wm 9 35 rfl rfl)) dX12_turns_257 ?_
                    refine xb_litl (x := 2147483647) (by decide) ?_
                    refine lv_goto (tgt := 266) hx hb dX12_turns_260 (by decide) ?_
                    refine lv_lstore (lv' := [(12, .long (jv 2147483647)), (10, .long (jv (-9223372036854775808))), (8, .long (jv x4)), (6, .double (dv r_554)), (0, .ref (oP ω 111)), (1, .int (iv x1)), (2, .int (iv x2)), (3, .int (iv x3)), (4, .long (jv x4))]) hx hb dX12_turns_266 hl (by decide) rfl (fun ls hl => ?_)
                    refine lv_aload_n hx hb dX12_turns_268 rfl (lv_at hl 4 rfl) ?_
                    refine lv_iconst (v := iv 1) hx hb dX12_turns_269 rfl ?_
                    refine lv_lload hx hb dX12_turns_270 (lv_at hl 2 rfl) ?_
                    refine lv_lload hx hb dX12_turns_272 (lv_at hl 1 rfl) ?_
                    refine xb_lcmp hx hb hx4 (by unfold jr; omega) dX12_turns_274 ?_
                    have hr_675 : -2147483648 ≤ lcm x4 (-9223372036854775808) ∧ lcm x4 (-9223372036854775808) ≤ 2147483647 := lcm_ir _ _
                    refine xb_if_ge (tgt := 283) hx hb (by unfold ir; omega) dX12_turns_275 (by decide) (fun c_275 => ?_) (fun c_275 => ?_)
                    · refine lv_lload hx hb dX12_turns_283 (lv_at hl 2 rfl) ?_
                      refine lv_lload hx hb dX12_turns_285 (lv_at hl 0 rfl) ?_
                      refine xb_lcmp hx hb hx4 (by unfold jr; omega) dX12_turns_287 ?_
                      have hr_676 : -2147483648 ≤ lcm x4 2147483647 ∧ lcm x4 2147483647 ≤ 2147483647 := lcm_ir _ _
                      refine xb_if_le (tgt := 296) hx hb (by unfold ir; omega) dX12_turns_288 (by decide) (fun c_288 => ?_) (fun c_288 => ?_)
                      · refine lv_lload hx hb dX12_turns_296 (lv_at hl 2 rfl) ?_
                        refine xc_vV G (b := 111) (rest := []) (As := [.int (iv 1), .long (jv x4)]) (c_X12_turnsTo ω l μ 1 x4 (by omega) hx4) (wm 10 87 rfl rfl) (wm 10 89 rfl rfl) (wm 0 189 rfl rfl) rfl rfl (by decide) rfl (wm 1 18 rfl rfl) (wm 10 90 rfl rfl) (by decide) hR (by decide) (n := 2) rfl rfl (Nat.le_of_ble_eq_true rfl) hl.1 dX12_turns_298 (fun μ677 ρ d0 H locs hp G => ?_)
                        obtain ⟨F_678, hp_679, hs_680, hs_681⟩ := hp
                        exact xr_v G hret hlk dX12_turns_301 ⟨(FrM.tr FrM.rf F_678 (by decide)), (fun j hj => (hp_679 j (fun h9 => hj ((by decide : ∀ x ∈ ([98, 99] : List Int), x ∈ ([98, 99] : List Int)) j h9))))⟩
                      · refine lv_lload hx hb dX12_turns_291 (lv_at hl 0 rfl) ?_
                        refine lv_goto (tgt := 298) hx hb dX12_turns_293 (by decide) ?_
                        refine xc_vV G (b := 111) (rest := []) (As := [.int (iv 1), .long (jv 2147483647)]) (c_X12_turnsTo ω l μ 1 2147483647 (by omega) (by unfold jr; omega)) (wm 10 87 rfl rfl) (wm 10 89 rfl rfl) (wm 0 189 rfl rfl) rfl rfl (by decide) rfl (wm 1 18 rfl rfl) (wm 10 90 rfl rfl) (by decide) hR (by decide) (n := 2) rfl rfl (Nat.le_of_ble_eq_true rfl) hl.1 dX12_turns_298 (fun μ682 ρ d0 H locs hp G => ?_)
                        obtain ⟨F_683, hp_684, hs_685, hs_686⟩ := hp
                        exact xr_v G hret hlk dX12_turns_301 ⟨(FrM.tr FrM.rf F_683 (by decide)), (fun j hj => (hp_684 j (fun h9 => hj ((by decide : ∀ x ∈ ([98, 99] : List Int), x ∈ ([98, 99] : List Int)) j h9))))⟩
                    · refine lv_lload hx hb dX12_turns_278 (lv_at hl 1 rfl) ?_
                      refine lv_goto (tgt := 298) hx hb dX12_turns_280 (by decide) ?_
                      refine xc_vV G (b := 111) (rest := []) (As := [.int (iv 1), .long (jv (-9223372036854775808))]) (c_X12_turnsTo ω l μ 1 (-9223372036854775808) (by omega) (by unfold jr; omega)) (wm 10 87 rfl rfl) (wm 10 89 rfl rfl) (wm 0 189 rfl rfl) rfl rfl (by decide) rfl (wm 1 18 rfl rfl) (wm 10 90 rfl rfl) (by decide) hR (by decide) (n := 2) rfl rfl (Nat.le_of_ble_eq_true rfl) hl.1 dX12_turns_298 (fun μ687 ρ d0 H locs hp G => ?_)
                      obtain ⟨F_688, hp_689, hs_690, hs_691⟩ := hp
                      exact xr_v G hret hlk dX12_turns_301 ⟨(FrM.tr FrM.rf F_688 (by decide)), (fun j hj => (hp_689 j (fun h9 => hj ((by decide : ∀ x ∈ ([98, 99] : List Int), x ∈ ([98, 99] : List Int)) j h9))))⟩
                · refine lv_ldc2 (s := s.setDrawn d0) hx hb G.1.2.2.2.1 (dr_words G.1.2.2.2.2 d0 _ (wm 9 34 rfl rfl)) dX12_turns_246 ?_
                  refine xb_litl (x := 9223372036854775807) (by decide) ?_
                  refine lv_goto (tgt := 266) hx hb dX12_turns_249 (by decide) ?_
                  refine lv_lstore (lv' := [(12, .long (jv 9223372036854775807)), (10, .long (jv (-9223372036854775808))), (8, .long (jv x4)), (6, .double (dv r_554)), (0, .ref (oP ω 111)), (1, .int (iv x1)), (2, .int (iv x2)), (3, .int (iv x3)), (4, .long (jv x4))]) hx hb dX12_turns_266 hl (by decide) rfl (fun ls hl => ?_)
                  refine lv_aload_n hx hb dX12_turns_268 rfl (lv_at hl 4 rfl) ?_
                  refine lv_iconst (v := iv 1) hx hb dX12_turns_269 rfl ?_
                  refine lv_lload hx hb dX12_turns_270 (lv_at hl 2 rfl) ?_
                  refine lv_lload hx hb dX12_turns_272 (lv_at hl 1 rfl) ?_
                  refine xb_lcmp hx hb hx4 (by unfold jr; omega) dX12_turns_274 ?_
                  have hr_692 : -2147483648 ≤ lcm x4 (-9223372036854775808) ∧ lcm x4 (-9223372036854775808) ≤ 2147483647 := lcm_ir _ _
                  refine xb_if_ge (tgt := 283) hx hb (by unfold ir; omega) dX12_turns_275 (by decide) (fun c_275 => ?_) (fun c_275 => ?_)
                  · refine lv_lload hx hb dX12_turns_283 (lv_at hl 2 rfl) ?_
                    refine lv_lload hx hb dX12_turns_285 (lv_at hl 0 rfl) ?_
                    refine xb_lcmp hx hb hx4 (by unfold jr; omega) dX12_turns_287 ?_
                    have hr_693 : -2147483648 ≤ lcm x4 9223372036854775807 ∧ lcm x4 9223372036854775807 ≤ 2147483647 := lcm_ir _ _
                    refine xb_if_le (tgt := 296) hx hb (by unfold ir; omega) dX12_turns_288 (by decide) (fun c_288 => ?_) (fun c_288 => ?_)
                    · refine lv_lload hx hb dX12_turns_296 (lv_at hl 2 rfl) ?_
                      refine xc_vV G (b := 111) (rest := []) (As := [.int (iv 1), .long (jv x4)]) (c_X12_turnsTo ω l μ 1 x4 (by omega) hx4) (wm 10 87 rfl rfl) (wm 10 89 rfl rfl) (wm 0 189 rfl rfl) rfl rfl (by decide) rfl (wm 1 18 rfl rfl) (wm 10 90 rfl rfl) (by decide) hR (by decide) (n := 2) rfl rfl (Nat.le_of_ble_eq_true rfl) hl.1 dX12_turns_298 (fun μ694 ρ d0 H locs hp G => ?_)
                      obtain ⟨F_695, hp_696, hs_697, hs_698⟩ := hp
                      exact xr_v G hret hlk dX12_turns_301 ⟨(FrM.tr FrM.rf F_695 (by decide)), (fun j hj => (hp_696 j (fun h9 => hj ((by decide : ∀ x ∈ ([98, 99] : List Int), x ∈ ([98, 99] : List Int)) j h9))))⟩
                    · refine lv_lload hx hb dX12_turns_291 (lv_at hl 0 rfl) ?_
                      refine lv_goto (tgt := 298) hx hb dX12_turns_293 (by decide) ?_
                      refine xc_vV G (b := 111) (rest := []) (As := [.int (iv 1), .long (jv 9223372036854775807)]) (c_X12_turnsTo ω l μ 1 9223372036854775807 (by omega) (by unfold jr; omega)) (wm 10 87 rfl rfl) (wm 10 89 rfl rfl) (wm 0 189 rfl rfl) rfl rfl (by decide) rfl (wm 1 18 rfl rfl) (wm 10 90 rfl rfl) (by decide) hR (by decide) (n := 2) rfl rfl (Nat.le_of_ble_eq_true rfl) hl.1 dX12_turns_298 (fun μ699 ρ d0 H locs hp G => ?_)
                      obtain ⟨F_700, hp_701, hs_702, hs_703⟩ := hp
                      exact xr_v G hret hlk dX12_turns_301 ⟨(FrM.tr FrM.rf F_700 (by decide)), (fun j hj => (hp_701 j (fun h9 => hj ((by decide : ∀ x ∈ ([98, 99] : List Int), x ∈ ([98, 99] : List Int)) j h9))))⟩
                  · refine lv_lload hx hb dX12_turns_278 (lv_at hl 1 rfl) ?_
                    refine lv_goto (tgt := 298) hx hb dX12_turns_280 (by decide) ?_
                    refine xc_vV G (b := 111) (rest := []) (As := [.int (iv 1), .long (jv (-9223372036854775808))]) (c_X12_turnsTo ω l μ 1 (-9223372036854775808) (by omega) (by unfold jr; omega)) (wm 10 87 rfl rfl) (wm 10 89 rfl rfl) (wm 0 189 rfl rfl) rfl rfl (by decide) rfl (wm 1 18 rfl rfl) (wm 10 90 rfl rfl) (by decide) hR (by decide) (n := 2) rfl rfl (Nat.le_of_ble_eq_true rfl) hl.1 dX12_turns_298 (fun μ704 ρ d0 H locs hp G => ?_)
                    obtain ⟨F_705, hp_706, hs_707, hs_708⟩ := hp
                    exact xr_v G hret hlk dX12_turns_301 ⟨(FrM.tr FrM.rf F_705 (by decide)), (fun j hj => (hp_706 j (fun h9 => hj ((by decide : ∀ x ∈ ([98, 99] : List Int), x ∈ ([98, 99] : List Int)) j h9))))⟩
            · refine lv_aload_n hx hb dX12_turns_181 rfl (lv_at hl 2 rfl) ?_
              refine lv_iconst (v := iv 1) hx hb dX12_turns_182 rfl ?_
              refine lv_iload_n hx hb dX12_turns_183 rfl (lv_at hl 4 rfl) ?_
              refine xb_if_ne (tgt := 192) hx hb (by unfold ir; omega) dX12_turns_184 (by decide) (fun c_184 => ?_) (fun c_184 => ?_)
              · refine lv_iload_n hx hb dX12_turns_192 rfl (lv_at hl 4 rfl) ?_
                refine lv_iconst (v := iv 1) hx hb dX12_turns_193 rfl ?_
                refine xb_icmp_ne (tgt := 204) hx hb (by unfold ir; omega) (by unfold ir; omega) dX12_turns_194 (by decide) (fun c_194 => ?_) (fun c_194 => ?_)
                · refine lv_lload hx hb dX12_turns_204 (lv_at hl 0 rfl) ?_
                  refine lv_ldc2 (s := s.setDrawn d0) hx hb G.1.2.2.2.1 (dr_words G.1.2.2.2.2 d0 _ (wm 9 36 rfl rfl)) dX12_turns_206 ?_
                  refine xb_litl (x := 100000000000000000) (by decide) ?_
                  refine lv_lrem hx hb dX12_turns_209 (by decide) ?_
                  refine xb_topl (fun z_709 hr_z_709 he_z_709 => ?_)
                  refine xc_vV G (b := 111) (rest := []) (As := [.int (iv 1), .long (jv z_709)]) (c_X12_turnsTo ω l μ 1 z_709 (by omega) hr_z_709) (wm 10 87 rfl rfl) (wm 10 89 rfl rfl) (wm 0 189 rfl rfl) rfl rfl (by decide) rfl (wm 1 18 rfl rfl) (wm 10 90 rfl rfl) (by decide) hR (by decide) (n := 2) rfl rfl (Nat.le_of_ble_eq_true rfl) hl.1 dX12_turns_210 (fun μ710 ρ d0 H locs hp G => ?_)
                  obtain ⟨F_711, hp_712, hs_713, hs_714⟩ := hp
                  refine lv_goto (tgt := 301) hx hb dX12_turns_213 (by decide) ?_
                  exact xr_v G hret hlk dX12_turns_301 ⟨(FrM.tr FrM.rf F_711 (by decide)), (fun j hj => (hp_712 j (fun h9 => hj ((by decide : ∀ x ∈ ([98, 99] : List Int), x ∈ ([98, 99] : List Int)) j h9))))⟩
                · refine lv_lload hx hb dX12_turns_197 (lv_at hl 0 rfl) ?_
                  refine xb_l2i hx hb dX12_turns_199 ?_
                  refine xb_topi (fun y_715 hr_y_715 he_y_715 => ?_)
                  have hr_y_715 : -2147483648 ≤ y_715 ∧ y_715 ≤ 2147483647 := hr_y_715
                  refine xb_i2l hx hb (by unfold ir; omega) dX12_turns_200 ?_
                  refine lv_goto (tgt := 210) hx hb dX12_turns_201 (by decide) ?_
                  refine xc_vV G (b := 111) (rest := []) (As := [.int (iv 1), .long (jv y_715)]) (c_X12_turnsTo ω l μ 1 y_715 (by omega) (by unfold jr; omega)) (wm 10 87 rfl rfl) (wm 10 89 rfl rfl) (wm 0 189 rfl rfl) rfl rfl (by decide) rfl (wm 1 18 rfl rfl) (wm 10 90 rfl rfl) (by decide) hR (by decide) (n := 2) rfl rfl (Nat.le_of_ble_eq_true rfl) hl.1 dX12_turns_210 (fun μ716 ρ d0 H locs hp G => ?_)
                  obtain ⟨F_717, hp_718, hs_719, hs_720⟩ := hp
                  refine lv_goto (tgt := 301) hx hb dX12_turns_213 (by decide) ?_
                  exact xr_v G hret hlk dX12_turns_301 ⟨(FrM.tr FrM.rf F_717 (by decide)), (fun j hj => (hp_718 j (fun h9 => hj ((by decide : ∀ x ∈ ([98, 99] : List Int), x ∈ ([98, 99] : List Int)) j h9))))⟩
              · refine lv_lload hx hb dX12_turns_187 (lv_at hl 0 rfl) ?_
                refine lv_goto (tgt := 210) hx hb dX12_turns_189 (by decide) ?_
                refine xc_vV G (b := 111) (rest := []) (As := [.int (iv 1), .long (jv x4)]) (c_X12_turnsTo ω l μ 1 x4 (by omega) hx4) (wm 10 87 rfl rfl) (wm 10 89 rfl rfl) (wm 0 189 rfl rfl) rfl rfl (by decide) rfl (wm 1 18 rfl rfl) (wm 10 90 rfl rfl) (by decide) hR (by decide) (n := 2) rfl rfl (Nat.le_of_ble_eq_true rfl) hl.1 dX12_turns_210 (fun μ721 ρ d0 H locs hp G => ?_)
                obtain ⟨F_722, hp_723, hs_724, hs_725⟩ := hp
                refine lv_goto (tgt := 301) hx hb dX12_turns_213 (by decide) ?_
                exact xr_v G hret hlk dX12_turns_301 ⟨(FrM.tr FrM.rf F_722 (by decide)), (fun j hj => (hp_723 j (fun h9 => hj ((by decide : ∀ x ∈ ([98, 99] : List Int), x ∈ ([98, 99] : List Int)) j h9))))⟩
          · refine lv_iload_n hx hb dX12_turns_109 rfl (lv_at hl 3 rfl) ?_
            refine lv_iconst (v := iv 3) hx hb dX12_turns_110 rfl ?_
            refine xb_icmp_ne (tgt := 141) hx hb (by unfold ir; omega) (by unfold ir; omega) dX12_turns_111 (by decide) (fun c_111 => ?_) (fun c_111 => ?_)
            · refine lv_iconst (v := iv 1) hx hb dX12_turns_141 rfl ?_
              refine lv_goto (tgt := 146) hx hb dX12_turns_142 (by decide) ?_
              refine lv_istore (lv' := [(10, .int (iv 1)), (8, .long (jv x4)), (6, .double (dv r_554)), (0, .ref (oP ω 111)), (1, .int (iv x1)), (2, .int (iv x2)), (3, .int (iv x3)), (4, .long (jv x4))]) hx hb dX12_turns_146 hl (by decide) rfl (fun ls hl => ?_)
              refine lv_aload_n hx hb dX12_turns_148 rfl (lv_at hl 3 rfl) ?_
              refine lv_iload hx hb dX12_turns_149 (lv_at hl 0 rfl) ?_
              refine xb_if_eq (tgt := 167) hx hb (x := 1) (by unfold ir; omega) dX12_turns_151 (by decide) (fun c_151 => absurd c_151 (by decide)) (fun c_151 => ?_)
              refine lv_iload_n hx hb dX12_turns_154 rfl (lv_at hl 5 rfl) ?_
              refine lv_lload hx hb dX12_turns_155 (lv_at hl 1 rfl) ?_
              refine xc_iS G (rest := [.ref (oP ω 111)]) (As := [.int (iv x2), .long (jv x4)]) (c_X12_has ω l μ x2 x4 (by unfold ir; omega) hx4) (wm 10 99 rfl rfl) (wm 10 100 rfl rfl) (wm 1 18 rfl rfl) (wm 10 101 rfl rfl) (by decide) hR (by decide) (n := 2) rfl rfl (Nat.le_of_ble_eq_true rfl) hl.1 dX12_turns_157 (fun r_727 μ726 ρ d0 H locs hr_r_727 hp G => ?_)
              have hr_r_727 : -2147483648 ≤ r_727 ∧ r_727 ≤ 2147483647 := hr_r_727
              have hsm_728 := hp
              have hsm_728 := Eq.symm hsm_728
              subst hsm_728
              refine xb_if_eq (tgt := 167) hx hb (by unfold ir; omega) dX12_turns_160 (by decide) (fun c_160 => ?_) (fun c_160 => ?_)
              · refine lv_iconst (v := iv 0) hx hb dX12_turns_167 rfl ?_
                refine lv_lload hx hb dX12_turns_168 (lv_at hl 1 rfl) ?_
                refine xc_vV G (b := 111) (rest := []) (As := [.int (iv 0), .long (jv x4)]) (c_X12_turnsTo ω l μ 0 x4 (by omega) hx4) (wm 10 87 rfl rfl) (wm 10 89 rfl rfl) (wm 0 189 rfl rfl) rfl rfl (by decide) rfl (wm 1 18 rfl rfl) (wm 10 90 rfl rfl) (by decide) hR (by decide) (n := 2) rfl rfl (Nat.le_of_ble_eq_true rfl) hl.1 dX12_turns_170 (fun μ729 ρ d0 H locs hp G => ?_)
                obtain ⟨F_730, hp_731, hs_732, hs_733⟩ := hp
                refine lv_goto (tgt := 301) hx hb dX12_turns_173 (by decide) ?_
                exact xr_v G hret hlk dX12_turns_301 ⟨(FrM.tr FrM.rf F_730 (by decide)), (fun j hj => (hp_731 j (fun h9 => hj ((by decide : ∀ x ∈ ([98, 99] : List Int), x ∈ ([98, 99] : List Int)) j h9))))⟩
              · refine lv_iconst (v := iv 1) hx hb dX12_turns_163 rfl ?_
                refine lv_goto (tgt := 168) hx hb dX12_turns_164 (by decide) ?_
                refine lv_lload hx hb dX12_turns_168 (lv_at hl 1 rfl) ?_
                refine xc_vV G (b := 111) (rest := []) (As := [.int (iv 1), .long (jv x4)]) (c_X12_turnsTo ω l μ 1 x4 (by omega) hx4) (wm 10 87 rfl rfl) (wm 10 89 rfl rfl) (wm 0 189 rfl rfl) rfl rfl (by decide) rfl (wm 1 18 rfl rfl) (wm 10 90 rfl rfl) (by decide) hR (by decide) (n := 2) rfl rfl (Nat.le_of_ble_eq_true rfl) hl.1 dX12_turns_170 (fun μ734 ρ d0 H locs hp G => ?_)
                obtain ⟨F_735, hp_736, hs_737, hs_738⟩ := hp
                refine lv_goto (tgt := 301) hx hb dX12_turns_173 (by decide) ?_
                exact xr_v G hret hlk dX12_turns_301 ⟨(FrM.tr FrM.rf F_735 (by decide)), (fun j hj => (hp_736 j (fun h9 => hj ((by decide : ∀ x ∈ ([98, 99] : List Int), x ∈ ([98, 99] : List Int)) j h9))))⟩
            · refine lv_dload hx hb dX12_turns_114 (lv_at hl 1 rfl) ?_
              refine lv_ldc2d (s := s.setDrawn d0) hx hb G.1.2.2.2.1 (dr_words G.1.2.2.2.2 d0 _ (wm 10 97 rfl rfl)) dX12_turns_116 ?_
              refine xb_topd (fun dd_739 he_dd_739 => ?_)
              refine lv_dcmp hx hb dX12_turns_119 ?_
              refine xb_topi (fun y_740 hr_y_740 he_y_740 => ?_)
              have hr_y_740 : -2147483648 ≤ y_740 ∧ y_740 ≤ 2147483647 := hr_y_740
              refine xb_if_lt (tgt := 145) hx hb (by unfold ir; omega) dX12_turns_120 (by decide) (fun c_120 => ?_) (fun c_120 => ?_)
              · refine lv_iconst (v := iv 0) hx hb dX12_turns_145 rfl ?_
                refine lv_istore (lv' := [(10, .int (iv 0)), (8, .long (jv x4)), (6, .double (dv r_554)), (0, .ref (oP ω 111)), (1, .int (iv x1)), (2, .int (iv x2)), (3, .int (iv x3)), (4, .long (jv x4))]) hx hb dX12_turns_146 hl (by decide) rfl (fun ls hl => ?_)
                refine lv_aload_n hx hb dX12_turns_148 rfl (lv_at hl 3 rfl) ?_
                refine lv_iload hx hb dX12_turns_149 (lv_at hl 0 rfl) ?_
                refine xb_if_eq (tgt := 167) hx hb (x := 0) (by unfold ir; omega) dX12_turns_151 (by decide) (fun c_151 => ?_) (fun c_151 => absurd (by decide) c_151)
                refine lv_iconst (v := iv 0) hx hb dX12_turns_167 rfl ?_
                refine lv_lload hx hb dX12_turns_168 (lv_at hl 1 rfl) ?_
                refine xc_vV G (b := 111) (rest := []) (As := [.int (iv 0), .long (jv x4)]) (c_X12_turnsTo ω l μ 0 x4 (by omega) hx4) (wm 10 87 rfl rfl) (wm 10 89 rfl rfl) (wm 0 189 rfl rfl) rfl rfl (by decide) rfl (wm 1 18 rfl rfl) (wm 10 90 rfl rfl) (by decide) hR (by decide) (n := 2) rfl rfl (Nat.le_of_ble_eq_true rfl) hl.1 dX12_turns_170 (fun μ741 ρ d0 H locs hp G => ?_)
                obtain ⟨F_742, hp_743, hs_744, hs_745⟩ := hp
                refine lv_goto (tgt := 301) hx hb dX12_turns_173 (by decide) ?_
                exact xr_v G hret hlk dX12_turns_301 ⟨(FrM.tr FrM.rf F_742 (by decide)), (fun j hj => (hp_743 j (fun h9 => hj ((by decide : ∀ x ∈ ([98, 99] : List Int), x ∈ ([98, 99] : List Int)) j h9))))⟩
              · refine lv_dload hx hb dX12_turns_123 (lv_at hl 1 rfl) ?_
                refine lv_ldc2d (s := s.setDrawn d0) hx hb G.1.2.2.2.1 (dr_words G.1.2.2.2.2 d0 _ (wm 10 98 rfl rfl)) dX12_turns_125 ?_
                refine xb_topd (fun dd_746 he_dd_746 => ?_)
                refine lv_dcmp hx hb dX12_turns_128 ?_
                refine xb_topi (fun y_747 hr_y_747 he_y_747 => ?_)
                have hr_y_747 : -2147483648 ≤ y_747 ∧ y_747 ≤ 2147483647 := hr_y_747
                refine xb_if_ge (tgt := 145) hx hb (by unfold ir; omega) dX12_turns_129 (by decide) (fun c_129 => ?_) (fun c_129 => ?_)
                · refine lv_iconst (v := iv 0) hx hb dX12_turns_145 rfl ?_
                  refine lv_istore (lv' := [(10, .int (iv 0)), (8, .long (jv x4)), (6, .double (dv r_554)), (0, .ref (oP ω 111)), (1, .int (iv x1)), (2, .int (iv x2)), (3, .int (iv x3)), (4, .long (jv x4))]) hx hb dX12_turns_146 hl (by decide) rfl (fun ls hl => ?_)
                  refine lv_aload_n hx hb dX12_turns_148 rfl (lv_at hl 3 rfl) ?_
                  refine lv_iload hx hb dX12_turns_149 (lv_at hl 0 rfl) ?_
                  refine xb_if_eq (tgt := 167) hx hb (x := 0) (by unfold ir; omega) dX12_turns_151 (by decide) (fun c_151 => ?_) (fun c_151 => absurd (by decide) c_151)
                  refine lv_iconst (v := iv 0) hx hb dX12_turns_167 rfl ?_
                  refine lv_lload hx hb dX12_turns_168 (lv_at hl 1 rfl) ?_
                  refine xc_vV G (b := 111) (rest := []) (As := [.int (iv 0), .long (jv x4)]) (c_X12_turnsTo ω l μ 0 x4 (by omega) hx4) (wm 10 87 rfl rfl) (wm 10 89 rfl rfl) (wm 0 189 rfl rfl) rfl rfl (by decide) rfl (wm 1 18 rfl rfl) (wm 10 90 rfl rfl) (by decide) hR (by decide) (n := 2) rfl rfl (Nat.le_of_ble_eq_true rfl) hl.1 dX12_turns_170 (fun μ748 ρ d0 H locs hp G => ?_)
                  obtain ⟨F_749, hp_750, hs_751, hs_752⟩ := hp
                  refine lv_goto (tgt := 301) hx hb dX12_turns_173 (by decide) ?_
                  exact xr_v G hret hlk dX12_turns_301 ⟨(FrM.tr FrM.rf F_749 (by decide)), (fun j hj => (hp_750 j (fun h9 => hj ((by decide : ∀ x ∈ ([98, 99] : List Int), x ∈ ([98, 99] : List Int)) j h9))))⟩
                · refine lv_lload hx hb dX12_turns_132 (lv_at hl 0 rfl) ?_
                  refine lv_l2d hx hb dX12_turns_134 ?_
                  refine xb_topd (fun dd_753 he_dd_753 => ?_)
                  refine lv_dload hx hb dX12_turns_135 (lv_at hl 1 rfl) ?_
                  refine lv_dcmp hx hb dX12_turns_137 ?_
                  refine xb_topi (fun y_754 hr_y_754 he_y_754 => ?_)
                  have hr_y_754 : -2147483648 ≤ y_754 ∧ y_754 ≤ 2147483647 := hr_y_754
                  refine xb_if_ne (tgt := 145) hx hb (by unfold ir; omega) dX12_turns_138 (by decide) (fun c_138 => ?_) (fun c_138 => ?_)
                  · refine lv_iconst (v := iv 0) hx hb dX12_turns_145 rfl ?_
                    refine lv_istore (lv' := [(10, .int (iv 0)), (8, .long (jv x4)), (6, .double (dv r_554)), (0, .ref (oP ω 111)), (1, .int (iv x1)), (2, .int (iv x2)), (3, .int (iv x3)), (4, .long (jv x4))]) hx hb dX12_turns_146 hl (by decide) rfl (fun ls hl => ?_)
                    refine lv_aload_n hx hb dX12_turns_148 rfl (lv_at hl 3 rfl) ?_
                    refine lv_iload hx hb dX12_turns_149 (lv_at hl 0 rfl) ?_
                    refine xb_if_eq (tgt := 167) hx hb (x := 0) (by unfold ir; omega) dX12_turns_151 (by decide) (fun c_151 => ?_) (fun c_151 => absurd (by decide) c_151)
                    refine lv_iconst (v := iv 0) hx hb dX12_turns_167 rfl ?_
                    refine lv_lload hx hb dX12_turns_168 (lv_at hl 1 rfl) ?_
                    refine xc_vV G (b := 111) (rest := []) (As := [.int (iv 0), .long (jv x4)]) (c_X12_turnsTo ω l μ 0 x4 (by omega) hx4) (wm 10 87 rfl rfl) (wm 10 89 rfl rfl) (wm 0 189 rfl rfl) rfl rfl (by decide) rfl (wm 1 18 rfl rfl) (wm 10 90 rfl rfl) (by decide) hR (by decide) (n := 2) rfl rfl (Nat.le_of_ble_eq_true rfl) hl.1 dX12_turns_170 (fun μ755 ρ d0 H locs hp G => ?_)
                    obtain ⟨F_756, hp_757, hs_758, hs_759⟩ := hp
                    refine lv_goto (tgt := 301) hx hb dX12_turns_173 (by decide) ?_
                    exact xr_v G hret hlk dX12_turns_301 ⟨(FrM.tr FrM.rf F_756 (by decide)), (fun j hj => (hp_757 j (fun h9 => hj ((by decide : ∀ x ∈ ([98, 99] : List Int), x ∈ ([98, 99] : List Int)) j h9))))⟩
                  · refine lv_iconst (v := iv 1) hx hb dX12_turns_141 rfl ?_
                    refine lv_goto (tgt := 146) hx hb dX12_turns_142 (by decide) ?_
                    refine lv_istore (lv' := [(10, .int (iv 1)), (8, .long (jv x4)), (6, .double (dv r_554)), (0, .ref (oP ω 111)), (1, .int (iv x1)), (2, .int (iv x2)), (3, .int (iv x3)), (4, .long (jv x4))]) hx hb dX12_turns_146 hl (by decide) rfl (fun ls hl => ?_)
                    refine lv_aload_n hx hb dX12_turns_148 rfl (lv_at hl 3 rfl) ?_
                    refine lv_iload hx hb dX12_turns_149 (lv_at hl 0 rfl) ?_
                    refine xb_if_eq (tgt := 167) hx hb (x := 1) (by unfold ir; omega) dX12_turns_151 (by decide) (fun c_151 => absurd c_151 (by decide)) (fun c_151 => ?_)
                    refine lv_iload_n hx hb dX12_turns_154 rfl (lv_at hl 5 rfl) ?_
                    refine lv_lload hx hb dX12_turns_155 (lv_at hl 1 rfl) ?_
                    refine xc_iS G (rest := [.ref (oP ω 111)]) (As := [.int (iv x2), .long (jv x4)]) (c_X12_has ω l μ x2 x4 (by unfold ir; omega) hx4) (wm 10 99 rfl rfl) (wm 10 100 rfl rfl) (wm 1 18 rfl rfl) (wm 10 101 rfl rfl) (by decide) hR (by decide) (n := 2) rfl rfl (Nat.le_of_ble_eq_true rfl) hl.1 dX12_turns_157 (fun r_761 μ760 ρ d0 H locs hr_r_761 hp G => ?_)
                    have hr_r_761 : -2147483648 ≤ r_761 ∧ r_761 ≤ 2147483647 := hr_r_761
                    have hsm_762 := hp
                    have hsm_762 := Eq.symm hsm_762
                    subst hsm_762
                    refine xb_if_eq (tgt := 167) hx hb (by unfold ir; omega) dX12_turns_160 (by decide) (fun c_160 => ?_) (fun c_160 => ?_)
                    · refine lv_iconst (v := iv 0) hx hb dX12_turns_167 rfl ?_
                      refine lv_lload hx hb dX12_turns_168 (lv_at hl 1 rfl) ?_
                      refine xc_vV G (b := 111) (rest := []) (As := [.int (iv 0), .long (jv x4)]) (c_X12_turnsTo ω l μ 0 x4 (by omega) hx4) (wm 10 87 rfl rfl) (wm 10 89 rfl rfl) (wm 0 189 rfl rfl) rfl rfl (by decide) rfl (wm 1 18 rfl rfl) (wm 10 90 rfl rfl) (by decide) hR (by decide) (n := 2) rfl rfl (Nat.le_of_ble_eq_true rfl) hl.1 dX12_turns_170 (fun μ763 ρ d0 H locs hp G => ?_)
                      obtain ⟨F_764, hp_765, hs_766, hs_767⟩ := hp
                      refine lv_goto (tgt := 301) hx hb dX12_turns_173 (by decide) ?_
                      exact xr_v G hret hlk dX12_turns_301 ⟨(FrM.tr FrM.rf F_764 (by decide)), (fun j hj => (hp_765 j (fun h9 => hj ((by decide : ∀ x ∈ ([98, 99] : List Int), x ∈ ([98, 99] : List Int)) j h9))))⟩
                    · refine lv_iconst (v := iv 1) hx hb dX12_turns_163 rfl ?_
                      refine lv_goto (tgt := 168) hx hb dX12_turns_164 (by decide) ?_
                      refine lv_lload hx hb dX12_turns_168 (lv_at hl 1 rfl) ?_
                      refine xc_vV G (b := 111) (rest := []) (As := [.int (iv 1), .long (jv x4)]) (c_X12_turnsTo ω l μ 1 x4 (by omega) hx4) (wm 10 87 rfl rfl) (wm 10 89 rfl rfl) (wm 0 189 rfl rfl) rfl rfl (by decide) rfl (wm 1 18 rfl rfl) (wm 10 90 rfl rfl) (by decide) hR (by decide) (n := 2) rfl rfl (Nat.le_of_ble_eq_true rfl) hl.1 dX12_turns_170 (fun μ768 ρ d0 H locs hp G => ?_)
                      obtain ⟨F_769, hp_770, hs_771, hs_772⟩ := hp
                      refine lv_goto (tgt := 301) hx hb dX12_turns_173 (by decide) ?_
                      exact xr_v G hret hlk dX12_turns_301 ⟨(FrM.tr FrM.rf F_769 (by decide)), (fun j hj => (hp_770 j (fun h9 => hj ((by decide : ∀ x ∈ ([98, 99] : List Int), x ∈ ([98, 99] : List Int)) j h9))))⟩
        · refine lv_lload hx hb dX12_turns_49 (lv_at hl 0 rfl) ?_
          refine lv_l2d hx hb dX12_turns_51 ?_
          refine xb_topd (fun dd_773 he_dd_773 => ?_)
          refine lv_dstore (lv' := [(10, .double (dv dd_773)), (8, .long (jv x4)), (6, .double (dv r_554)), (0, .ref (oP ω 111)), (1, .int (iv x1)), (2, .int (iv x2)), (3, .int (iv x3)), (4, .long (jv x4))]) hx hb dX12_turns_52 hl (by decide) rfl (fun ls hl => ?_)
          refine lv_dload hx hb dX12_turns_54 (lv_at hl 0 rfl) ?_
          refine lv_d2l hx hb dX12_turns_56 ?_
          refine xb_topl (fun z_774 hr_z_774 he_z_774 => ?_)
          refine lv_lload hx hb dX12_turns_57 (lv_at hl 1 rfl) ?_
          refine xb_lcmp hx hb hr_z_774 hx4 dX12_turns_59 ?_
          have hr_775 : -2147483648 ≤ lcm z_774 x4 ∧ lcm z_774 x4 ≤ 2147483647 := lcm_ir _ _
          refine xb_if_ne (tgt := 76) hx hb (by unfold ir; omega) dX12_turns_60 (by decide) (fun c_60 => ?_) (fun c_60 => ?_)
          · refine lv_iconst (v := iv 0) hx hb dX12_turns_76 rfl ?_
            refine lv_istore (lv' := [(12, .int (iv 0)), (10, .double (dv dd_773)), (8, .long (jv x4)), (6, .double (dv r_554)), (0, .ref (oP ω 111)), (1, .int (iv x1)), (2, .int (iv x2)), (3, .int (iv x3)), (4, .long (jv x4))]) hx hb dX12_turns_77 hl (by decide) rfl (fun ls hl => ?_)
            refine lv_aload_n hx hb dX12_turns_79 rfl (lv_at hl 4 rfl) ?_
            refine lv_iload_n hx hb dX12_turns_80 rfl (lv_at hl 7 rfl) ?_
            refine xb_if_gt (tgt := 89) hx hb (by unfold ir; omega) dX12_turns_81 (by decide) (fun c_81 => ?_) (fun c_81 => ?_)
            · refine lv_iconst (v := iv 1) hx hb dX12_turns_89 rfl ?_
              refine lv_goto (tgt := 94) hx hb dX12_turns_90 (by decide) ?_
              refine lv_dload hx hb dX12_turns_94 (lv_at hl 1 rfl) ?_
              refine xc_lS G (rest := [.int (iv 1), .ref (oP ω 111)]) (As := [.double (dv dd_773)]) (c_Jxe99ae_doubleToLongBits_ccdee ω l μ dd_773 ) (wm 9 44 rfl rfl) (wm 9 45 rfl rfl) (wm 1 23 rfl rfl) (wm 9 46 rfl rfl) (by decide) hR (by decide) (n := 1) rfl rfl (Nat.le_of_ble_eq_true rfl) hl.1 dX12_turns_96 (fun r_777 μ776 ρ d0 H locs hr_r_777 hp G => ?_)
              obtain ⟨hsm_778, hp_779⟩ := hp
              have hsm_778 := Eq.symm hsm_778
              subst hsm_778
              refine xc_vV G (b := 111) (rest := []) (As := [.int (iv 1), .long (jv r_777)]) (c_X12_turnsTo ω l μ 1 r_777 (by omega) hr_r_777) (wm 10 87 rfl rfl) (wm 10 89 rfl rfl) (wm 0 189 rfl rfl) rfl rfl (by decide) rfl (wm 1 18 rfl rfl) (wm 10 90 rfl rfl) (by decide) hR (by decide) (n := 2) rfl rfl (Nat.le_of_ble_eq_true rfl) hl.1 dX12_turns_99 (fun μ780 ρ d0 H locs hp G => ?_)
              obtain ⟨F_781, hp_782, hs_783, hs_784⟩ := hp
              refine lv_goto (tgt := 301) hx hb dX12_turns_102 (by decide) ?_
              exact xr_v G hret hlk dX12_turns_301 ⟨(FrM.tr FrM.rf F_781 (by decide)), (fun j hj => (hp_782 j (fun h9 => hj ((by decide : ∀ x ∈ ([98, 99] : List Int), x ∈ ([98, 99] : List Int)) j h9))))⟩
            · refine lv_iload hx hb dX12_turns_84 (lv_at hl 0 rfl) ?_
              refine xb_if_eq (tgt := 93) hx hb (x := 0) (by unfold ir; omega) dX12_turns_86 (by decide) (fun c_86 => ?_) (fun c_86 => absurd (by decide) c_86)
              refine lv_iconst (v := iv 0) hx hb dX12_turns_93 rfl ?_
              refine lv_dload hx hb dX12_turns_94 (lv_at hl 1 rfl) ?_
              refine xc_lS G (rest := [.int (iv 0), .ref (oP ω 111)]) (As := [.double (dv dd_773)]) (c_Jxe99ae_doubleToLongBits_ccdee ω l μ dd_773 ) (wm 9 44 rfl rfl) (wm 9 45 rfl rfl) (wm 1 23 rfl rfl) (wm 9 46 rfl rfl) (by decide) hR (by decide) (n := 1) rfl rfl (Nat.le_of_ble_eq_true rfl) hl.1 dX12_turns_96 (fun r_786 μ785 ρ d0 H locs hr_r_786 hp G => ?_)
              obtain ⟨hsm_787, hp_788⟩ := hp
              have hsm_787 := Eq.symm hsm_787
              subst hsm_787
              refine xc_vV G (b := 111) (rest := []) (As := [.int (iv 0), .long (jv r_786)]) (c_X12_turnsTo ω l μ 0 r_786 (by omega) hr_r_786) (wm 10 87 rfl rfl) (wm 10 89 rfl rfl) (wm 0 189 rfl rfl) rfl rfl (by decide) rfl (wm 1 18 rfl rfl) (wm 10 90 rfl rfl) (by decide) hR (by decide) (n := 2) rfl rfl (Nat.le_of_ble_eq_true rfl) hl.1 dX12_turns_99 (fun μ789 ρ d0 H locs hp G => ?_)
              obtain ⟨F_790, hp_791, hs_792, hs_793⟩ := hp
              refine lv_goto (tgt := 301) hx hb dX12_turns_102 (by decide) ?_
              exact xr_v G hret hlk dX12_turns_301 ⟨(FrM.tr FrM.rf F_790 (by decide)), (fun j hj => (hp_791 j (fun h9 => hj ((by decide : ∀ x ∈ ([98, 99] : List Int), x ∈ ([98, 99] : List Int)) j h9))))⟩
          · refine lv_lload hx hb dX12_turns_63 (lv_at hl 1 rfl) ?_
            refine lv_ldc2 (s := s.setDrawn d0) hx hb G.1.2.2.2.1 (dr_words G.1.2.2.2.2 d0 _ (wm 9 34 rfl rfl)) dX12_turns_65 ?_
            refine xb_litl (x := 9223372036854775807) (by decide) ?_
            refine xb_lcmp hx hb hx4 (by unfold jr; omega) dX12_turns_68 ?_
            have hr_794 : -2147483648 ≤ lcm x4 9223372036854775807 ∧ lcm x4 9223372036854775807 ≤ 2147483647 := lcm_ir _ _
            refine xb_if_eq (tgt := 76) hx hb (by unfold ir; omega) dX12_turns_69 (by decide) (fun c_69 => ?_) (fun c_69 => ?_)
            · refine lv_iconst (v := iv 0) hx hb dX12_turns_76 rfl ?_
              refine lv_istore (lv' := [(12, .int (iv 0)), (10, .double (dv dd_773)), (8, .long (jv x4)), (6, .double (dv r_554)), (0, .ref (oP ω 111)), (1, .int (iv x1)), (2, .int (iv x2)), (3, .int (iv x3)), (4, .long (jv x4))]) hx hb dX12_turns_77 hl (by decide) rfl (fun ls hl => ?_)
              refine lv_aload_n hx hb dX12_turns_79 rfl (lv_at hl 4 rfl) ?_
              refine lv_iload_n hx hb dX12_turns_80 rfl (lv_at hl 7 rfl) ?_
              refine xb_if_gt (tgt := 89) hx hb (by unfold ir; omega) dX12_turns_81 (by decide) (fun c_81 => ?_) (fun c_81 => ?_)
              · refine lv_iconst (v := iv 1) hx hb dX12_turns_89 rfl ?_
                refine lv_goto (tgt := 94) hx hb dX12_turns_90 (by decide) ?_
                refine lv_dload hx hb dX12_turns_94 (lv_at hl 1 rfl) ?_
                refine xc_lS G (rest := [.int (iv 1), .ref (oP ω 111)]) (As := [.double (dv dd_773)]) (c_Jxe99ae_doubleToLongBits_ccdee ω l μ dd_773 ) (wm 9 44 rfl rfl) (wm 9 45 rfl rfl) (wm 1 23 rfl rfl) (wm 9 46 rfl rfl) (by decide) hR (by decide) (n := 1) rfl rfl (Nat.le_of_ble_eq_true rfl) hl.1 dX12_turns_96 (fun r_796 μ795 ρ d0 H locs hr_r_796 hp G => ?_)
                obtain ⟨hsm_797, hp_798⟩ := hp
                have hsm_797 := Eq.symm hsm_797
                subst hsm_797
                refine xc_vV G (b := 111) (rest := []) (As := [.int (iv 1), .long (jv r_796)]) (c_X12_turnsTo ω l μ 1 r_796 (by omega) hr_r_796) (wm 10 87 rfl rfl) (wm 10 89 rfl rfl) (wm 0 189 rfl rfl) rfl rfl (by decide) rfl (wm 1 18 rfl rfl) (wm 10 90 rfl rfl) (by decide) hR (by decide) (n := 2) rfl rfl (Nat.le_of_ble_eq_true rfl) hl.1 dX12_turns_99 (fun μ799 ρ d0 H locs hp G => ?_)
                obtain ⟨F_800, hp_801, hs_802, hs_803⟩ := hp
                refine lv_goto (tgt := 301) hx hb dX12_turns_102 (by decide) ?_
                exact xr_v G hret hlk dX12_turns_301 ⟨(FrM.tr FrM.rf F_800 (by decide)), (fun j hj => (hp_801 j (fun h9 => hj ((by decide : ∀ x ∈ ([98, 99] : List Int), x ∈ ([98, 99] : List Int)) j h9))))⟩
              · refine lv_iload hx hb dX12_turns_84 (lv_at hl 0 rfl) ?_
                refine xb_if_eq (tgt := 93) hx hb (x := 0) (by unfold ir; omega) dX12_turns_86 (by decide) (fun c_86 => ?_) (fun c_86 => absurd (by decide) c_86)
                refine lv_iconst (v := iv 0) hx hb dX12_turns_93 rfl ?_
                refine lv_dload hx hb dX12_turns_94 (lv_at hl 1 rfl) ?_
                refine xc_lS G (rest := [.int (iv 0), .ref (oP ω 111)]) (As := [.double (dv dd_773)]) (c_Jxe99ae_doubleToLongBits_ccdee ω l μ dd_773 ) (wm 9 44 rfl rfl) (wm 9 45 rfl rfl) (wm 1 23 rfl rfl) (wm 9 46 rfl rfl) (by decide) hR (by decide) (n := 1) rfl rfl (Nat.le_of_ble_eq_true rfl) hl.1 dX12_turns_96 (fun r_805 μ804 ρ d0 H locs hr_r_805 hp G => ?_)
                obtain ⟨hsm_806, hp_807⟩ := hp
                have hsm_806 := Eq.symm hsm_806
                subst hsm_806
                refine xc_vV G (b := 111) (rest := []) (As := [.int (iv 0), .long (jv r_805)]) (c_X12_turnsTo ω l μ 0 r_805 (by omega) hr_r_805) (wm 10 87 rfl rfl) (wm 10 89 rfl rfl) (wm 0 189 rfl rfl) rfl rfl (by decide) rfl (wm 1 18 rfl rfl) (wm 10 90 rfl rfl) (by decide) hR (by decide) (n := 2) rfl rfl (Nat.le_of_ble_eq_true rfl) hl.1 dX12_turns_99 (fun μ808 ρ d0 H locs hp G => ?_)
                obtain ⟨F_809, hp_810, hs_811, hs_812⟩ := hp
                refine lv_goto (tgt := 301) hx hb dX12_turns_102 (by decide) ?_
                exact xr_v G hret hlk dX12_turns_301 ⟨(FrM.tr FrM.rf F_809 (by decide)), (fun j hj => (hp_810 j (fun h9 => hj ((by decide : ∀ x ∈ ([98, 99] : List Int), x ∈ ([98, 99] : List Int)) j h9))))⟩
            · refine lv_iconst (v := iv 1) hx hb dX12_turns_72 rfl ?_
              refine lv_goto (tgt := 77) hx hb dX12_turns_73 (by decide) ?_
              refine lv_istore (lv' := [(12, .int (iv 1)), (10, .double (dv dd_773)), (8, .long (jv x4)), (6, .double (dv r_554)), (0, .ref (oP ω 111)), (1, .int (iv x1)), (2, .int (iv x2)), (3, .int (iv x3)), (4, .long (jv x4))]) hx hb dX12_turns_77 hl (by decide) rfl (fun ls hl => ?_)
              refine lv_aload_n hx hb dX12_turns_79 rfl (lv_at hl 4 rfl) ?_
              refine lv_iload_n hx hb dX12_turns_80 rfl (lv_at hl 7 rfl) ?_
              refine xb_if_gt (tgt := 89) hx hb (by unfold ir; omega) dX12_turns_81 (by decide) (fun c_81 => ?_) (fun c_81 => ?_)
              · refine lv_iconst (v := iv 1) hx hb dX12_turns_89 rfl ?_
                refine lv_goto (tgt := 94) hx hb dX12_turns_90 (by decide) ?_
                refine lv_dload hx hb dX12_turns_94 (lv_at hl 1 rfl) ?_
                refine xc_lS G (rest := [.int (iv 1), .ref (oP ω 111)]) (As := [.double (dv dd_773)]) (c_Jxe99ae_doubleToLongBits_ccdee ω l μ dd_773 ) (wm 9 44 rfl rfl) (wm 9 45 rfl rfl) (wm 1 23 rfl rfl) (wm 9 46 rfl rfl) (by decide) hR (by decide) (n := 1) rfl rfl (Nat.le_of_ble_eq_true rfl) hl.1 dX12_turns_96 (fun r_814 μ813 ρ d0 H locs hr_r_814 hp G => ?_)
                obtain ⟨hsm_815, hp_816⟩ := hp
                have hsm_815 := Eq.symm hsm_815
                subst hsm_815
                refine xc_vV G (b := 111) (rest := []) (As := [.int (iv 1), .long (jv r_814)]) (c_X12_turnsTo ω l μ 1 r_814 (by omega) hr_r_814) (wm 10 87 rfl rfl) (wm 10 89 rfl rfl) (wm 0 189 rfl rfl) rfl rfl (by decide) rfl (wm 1 18 rfl rfl) (wm 10 90 rfl rfl) (by decide) hR (by decide) (n := 2) rfl rfl (Nat.le_of_ble_eq_true rfl) hl.1 dX12_turns_99 (fun μ817 ρ d0 H locs hp G => ?_)
                obtain ⟨F_818, hp_819, hs_820, hs_821⟩ := hp
                refine lv_goto (tgt := 301) hx hb dX12_turns_102 (by decide) ?_
                exact xr_v G hret hlk dX12_turns_301 ⟨(FrM.tr FrM.rf F_818 (by decide)), (fun j hj => (hp_819 j (fun h9 => hj ((by decide : ∀ x ∈ ([98, 99] : List Int), x ∈ ([98, 99] : List Int)) j h9))))⟩
              · refine lv_iload hx hb dX12_turns_84 (lv_at hl 0 rfl) ?_
                refine xb_if_eq (tgt := 93) hx hb (x := 1) (by unfold ir; omega) dX12_turns_86 (by decide) (fun c_86 => absurd c_86 (by decide)) (fun c_86 => ?_)
                refine lv_iconst (v := iv 1) hx hb dX12_turns_89 rfl ?_
                refine lv_goto (tgt := 94) hx hb dX12_turns_90 (by decide) ?_
                refine lv_dload hx hb dX12_turns_94 (lv_at hl 1 rfl) ?_
                refine xc_lS G (rest := [.int (iv 1), .ref (oP ω 111)]) (As := [.double (dv dd_773)]) (c_Jxe99ae_doubleToLongBits_ccdee ω l μ dd_773 ) (wm 9 44 rfl rfl) (wm 9 45 rfl rfl) (wm 1 23 rfl rfl) (wm 9 46 rfl rfl) (by decide) hR (by decide) (n := 1) rfl rfl (Nat.le_of_ble_eq_true rfl) hl.1 dX12_turns_96 (fun r_823 μ822 ρ d0 H locs hr_r_823 hp G => ?_)
                obtain ⟨hsm_824, hp_825⟩ := hp
                have hsm_824 := Eq.symm hsm_824
                subst hsm_824
                refine xc_vV G (b := 111) (rest := []) (As := [.int (iv 1), .long (jv r_823)]) (c_X12_turnsTo ω l μ 1 r_823 (by omega) hr_r_823) (wm 10 87 rfl rfl) (wm 10 89 rfl rfl) (wm 0 189 rfl rfl) rfl rfl (by decide) rfl (wm 1 18 rfl rfl) (wm 10 90 rfl rfl) (by decide) hR (by decide) (n := 2) rfl rfl (Nat.le_of_ble_eq_true rfl) hl.1 dX12_turns_99 (fun μ826 ρ d0 H locs hp G => ?_)
                obtain ⟨F_827, hp_828, hs_829, hs_830⟩ := hp
                refine lv_goto (tgt := 301) hx hb dX12_turns_102 (by decide) ?_
                exact xr_v G hret hlk dX12_turns_301 ⟨(FrM.tr FrM.rf F_827 (by decide)), (fun j hj => (hp_828 j (fun h9 => hj ((by decide : ∀ x ∈ ([98, 99] : List Int), x ∈ ([98, 99] : List Int)) j h9))))⟩
      · refine lv_dload hx hb dX12_turns_34 (lv_at hl 0 rfl) ?_
        refine lv_d2l hx hb dX12_turns_36 ?_
        refine xb_topl (fun z_831 hr_z_831 he_z_831 => ?_)
        refine lv_goto (tgt := 42) hx hb dX12_turns_37 (by decide) ?_
        refine lv_lstore (lv' := [(8, .long (jv z_831)), (6, .double (dv r_554)), (0, .ref (oP ω 111)), (1, .int (iv x1)), (2, .int (iv x2)), (3, .int (iv x3)), (4, .long (jv x4))]) hx hb dX12_turns_42 hl (by decide) rfl (fun ls hl => ?_)
        refine lv_iload_n hx hb dX12_turns_44 rfl (lv_at hl 4 rfl) ?_
        refine lv_iconst (v := iv 3) hx hb dX12_turns_45 rfl ?_
        refine xb_icmp_ne (tgt := 105) hx hb (by unfold ir; omega) (by unfold ir; omega) dX12_turns_46 (by decide) (fun c_46 => ?_) (fun c_46 => ?_)
        · refine lv_iload_n hx hb dX12_turns_105 rfl (lv_at hl 5 rfl) ?_
          refine xb_if_ne (tgt := 176) hx hb (by unfold ir; omega) dX12_turns_106 (by decide) (fun c_106 => ?_) (fun c_106 => ?_)
          · refine lv_iload_n hx hb dX12_turns_176 rfl (lv_at hl 5 rfl) ?_
            refine lv_iconst (v := iv 1) hx hb dX12_turns_177 rfl ?_
            refine xb_icmp_ne (tgt := 216) hx hb (by unfold ir; omega) (by unfold ir; omega) dX12_turns_178 (by decide) (fun c_178 => ?_) (fun c_178 => ?_)
            · refine lv_iload_n hx hb dX12_turns_216 rfl (lv_at hl 4 rfl) ?_
              refine xb_if_ne (tgt := 226) hx hb (by unfold ir; omega) dX12_turns_217 (by decide) (fun c_217 => ?_) (fun c_217 => ?_)
              · refine lv_iload_n hx hb dX12_turns_226 rfl (lv_at hl 4 rfl) ?_
                refine lv_iconst (v := iv 1) hx hb dX12_turns_227 rfl ?_
                refine xb_icmp_ne (tgt := 237) hx hb (by unfold ir; omega) (by unfold ir; omega) dX12_turns_228 (by decide) (fun c_228 => ?_) (fun c_228 => ?_)
                · refine lv_ldc2 (s := s.setDrawn d0) hx hb G.1.2.2.2.1 (dr_words G.1.2.2.2.2 d0 _ (wm 10 102 rfl rfl)) dX12_turns_237 ?_
                  refine xb_litl (x := (-100000000000000000)) (by decide) ?_
                  refine lv_lstore (lv' := [(10, .long (jv (-100000000000000000))), (8, .long (jv z_831)), (6, .double (dv r_554)), (0, .ref (oP ω 111)), (1, .int (iv x1)), (2, .int (iv x2)), (3, .int (iv x3)), (4, .long (jv x4))]) hx hb dX12_turns_240 hl (by decide) rfl (fun ls hl => ?_)
                  refine lv_iload_n hx hb dX12_turns_242 rfl (lv_at hl 5 rfl) ?_
                  refine xb_if_ne (tgt := 252) hx hb (by unfold ir; omega) dX12_turns_243 (by decide) (fun c_243 => ?_) (fun c_243 => ?_)
                  · refine lv_iload_n hx hb dX12_turns_252 rfl (lv_at hl 5 rfl) ?_
                    refine lv_iconst (v := iv 1) hx hb dX12_turns_253 rfl ?_
                    refine xb_icmp_ne (tgt := 263) hx hb (by unfold ir; omega) (by unfold ir; omega) dX12_turns_254 (by decide) (fun c_254 => ?_) (fun c_254 => ?_)
                    · refine lv_ldc2 (s := s.setDrawn d0) hx hb G.1.2.2.2.1 (dr_words G.1.2.2.2.2 d0 _ (wm 9 36 rfl rfl)) dX12_turns_263 ?_
                      refine xb_litl (x := 100000000000000000) (by decide) ?_
                      refine lv_lstore (lv' := [(12, .long (jv 100000000000000000)), (10, .long (jv (-100000000000000000))), (8, .long (jv z_831)), (6, .double (dv r_554)), (0, .ref (oP ω 111)), (1, .int (iv x1)), (2, .int (iv x2)), (3, .int (iv x3)), (4, .long (jv x4))]) hx hb dX12_turns_266 hl (by decide) rfl (fun ls hl => ?_)
                      refine lv_aload_n hx hb dX12_turns_268 rfl (lv_at hl 4 rfl) ?_
                      refine lv_iconst (v := iv 1) hx hb dX12_turns_269 rfl ?_
                      refine lv_lload hx hb dX12_turns_270 (lv_at hl 2 rfl) ?_
                      refine lv_lload hx hb dX12_turns_272 (lv_at hl 1 rfl) ?_
                      refine xb_lcmp hx hb hr_z_831 (by unfold jr; omega) dX12_turns_274 ?_
                      have hr_832 : -2147483648 ≤ lcm z_831 (-100000000000000000) ∧ lcm z_831 (-100000000000000000) ≤ 2147483647 := lcm_ir _ _
                      refine xb_if_ge (tgt := 283) hx hb (by unfold ir; omega) dX12_turns_275 (by decide) (fun c_275 => ?_) (fun c_275 => ?_)
                      · refine lv_lload hx hb dX12_turns_283 (lv_at hl 2 rfl) ?_
                        refine lv_lload hx hb dX12_turns_285 (lv_at hl 0 rfl) ?_
                        refine xb_lcmp hx hb hr_z_831 (by unfold jr; omega) dX12_turns_287 ?_
                        have hr_833 : -2147483648 ≤ lcm z_831 100000000000000000 ∧ lcm z_831 100000000000000000 ≤ 2147483647 := lcm_ir _ _
                        refine xb_if_le (tgt := 296) hx hb (by unfold ir; omega) dX12_turns_288 (by decide) (fun c_288 => ?_) (fun c_288 => ?_)
                        · refine lv_lload hx hb dX12_turns_296 (lv_at hl 2 rfl) ?_
                          refine xc_vV G (b := 111) (rest := []) (As := [.int (iv 1), .long (jv z_831)]) (c_X12_turnsTo ω l μ 1 z_831 (by omega) hr_z_831) (wm 10 87 rfl rfl) (wm 10 89 rfl rfl) (wm 0 189 rfl rfl) rfl rfl (by decide) rfl (wm 1 18 rfl rfl) (wm 10 90 rfl rfl) (by decide) hR (by decide) (n := 2) rfl rfl (Nat.le_of_ble_eq_true rfl) hl.1 dX12_turns_298 (fun μ834 ρ d0 H locs hp G => ?_)
                          obtain ⟨F_835, hp_836, hs_837, hs_838⟩ := hp
                          exact xr_v G hret hlk dX12_turns_301 ⟨(FrM.tr FrM.rf F_835 (by decide)), (fun j hj => (hp_836 j (fun h9 => hj ((by decide : ∀ x ∈ ([98, 99] : List Int), x ∈ ([98, 99] : List Int)) j h9))))⟩
                        · refine lv_lload hx hb dX12_turns_291 (lv_at hl 0 rfl) ?_
                          refine lv_goto (tgt := 298) hx hb dX12_turns_293 (by decide) ?_
                          refine xc_vV G (b := 111) (rest := []) (As := [.int (iv 1), .long (jv 100000000000000000)]) (c_X12_turnsTo ω l μ 1 100000000000000000 (by omega) (by unfold jr; omega)) (wm 10 87 rfl rfl) (wm 10 89 rfl rfl) (wm 0 189 rfl rfl) rfl rfl (by decide) rfl (wm 1 18 rfl rfl) (wm 10 90 rfl rfl) (by decide) hR (by decide) (n := 2) rfl rfl (Nat.le_of_ble_eq_true rfl) hl.1 dX12_turns_298 (fun μ839 ρ d0 H locs hp G => ?_)
                          obtain ⟨F_840, hp_841, hs_842, hs_843⟩ := hp
                          exact xr_v G hret hlk dX12_turns_301 ⟨(FrM.tr FrM.rf F_840 (by decide)), (fun j hj => (hp_841 j (fun h9 => hj ((by decide : ∀ x ∈ ([98, 99] : List Int), x ∈ ([98, 99] : List Int)) j h9))))⟩
                      · refine lv_lload hx hb dX12_turns_278 (lv_at hl 1 rfl) ?_
                        refine lv_goto (tgt := 298) hx hb dX12_turns_280 (by decide) ?_
                        refine xc_vV G (b := 111) (rest := []) (As := [.int (iv 1), .long (jv (-100000000000000000))]) (c_X12_turnsTo ω l μ 1 (-100000000000000000) (by omega) (by unfold jr; omega)) (wm 10 87 rfl rfl) (wm 10 89 rfl rfl) (wm 0 189 rfl rfl) rfl rfl (by decide) rfl (wm 1 18 rfl rfl) (wm 10 90 rfl rfl) (by decide) hR (by decide) (n := 2) rfl rfl (Nat.le_of_ble_eq_true rfl) hl.1 dX12_turns_298 (fun μ844 ρ d0 H locs hp G => ?_)
                        obtain ⟨F_845, hp_846, hs_847, hs_848⟩ := hp
                        exact xr_v G hret hlk dX12_turns_301 ⟨(FrM.tr FrM.rf F_845 (by decide)), (fun j hj => (hp_846 j (fun h9 => hj ((by decide : ∀ x ∈ ([98, 99] : List Int), x ∈ ([98, 99] : List Int)) j h9))))⟩
                    · refine lv_ldc2 (s := s.setDrawn d0) hx hb G.1.2.2.2.1 (dr_words G.1.2.2.2.2 d0 _ (wm 9 35 rfl rfl)) dX12_turns_257 ?_
                      refine xb_litl (x := 2147483647) (by decide) ?_
                      refine lv_goto (tgt := 266) hx hb dX12_turns_260 (by decide) ?_
                      refine lv_lstore (lv' := [(12, .long (jv 2147483647)), (10, .long (jv (-100000000000000000))), (8, .long (jv z_831)), (6, .double (dv r_554)), (0, .ref (oP ω 111)), (1, .int (iv x1)), (2, .int (iv x2)), (3, .int (iv x3)), (4, .long (jv x4))]) hx hb dX12_turns_266 hl (by decide) rfl (fun ls hl => ?_)
                      refine lv_aload_n hx hb dX12_turns_268 rfl (lv_at hl 4 rfl) ?_
                      refine lv_iconst (v := iv 1) hx hb dX12_turns_269 rfl ?_
                      refine lv_lload hx hb dX12_turns_270 (lv_at hl 2 rfl) ?_
                      refine lv_lload hx hb dX12_turns_272 (lv_at hl 1 rfl) ?_
                      refine xb_lcmp hx hb hr_z_831 (by unfold jr; omega) dX12_turns_274 ?_
                      have hr_849 : -2147483648 ≤ lcm z_831 (-100000000000000000) ∧ lcm z_831 (-100000000000000000) ≤ 2147483647 := lcm_ir _ _
                      refine xb_if_ge (tgt := 283) hx hb (by unfold ir; omega) dX12_turns_275 (by decide) (fun c_275 => ?_) (fun c_275 => ?_)
                      · refine lv_lload hx hb dX12_turns_283 (lv_at hl 2 rfl) ?_
                        refine lv_lload hx hb dX12_turns_285 (lv_at hl 0 rfl) ?_
                        refine xb_lcmp hx hb hr_z_831 (by unfold jr; omega) dX12_turns_287 ?_
                        have hr_850 : -2147483648 ≤ lcm z_831 2147483647 ∧ lcm z_831 2147483647 ≤ 2147483647 := lcm_ir _ _
                        refine xb_if_le (tgt := 296) hx hb (by unfold ir; omega) dX12_turns_288 (by decide) (fun c_288 => ?_) (fun c_288 => ?_)
                        · refine lv_lload hx hb dX12_turns_296 (lv_at hl 2 rfl) ?_
                          refine xc_vV G (b := 111) (rest := []) (As := [.int (iv 1), .long (jv z_831)]) (c_X12_turnsTo ω l μ 1 z_831 (by omega) hr_z_831) (wm 10 87 rfl rfl) (wm 10 89 rfl rfl) (wm 0 189 rfl rfl) rfl rfl (by decide) rfl (wm 1 18 rfl rfl) (wm 10 90 rfl rfl) (by decide) hR (by decide) (n := 2) rfl rfl (Nat.le_of_ble_eq_true rfl) hl.1 dX12_turns_298 (fun μ851 ρ d0 H locs hp G => ?_)
                          obtain ⟨F_852, hp_853, hs_854, hs_855⟩ := hp
                          exact xr_v G hret hlk dX12_turns_301 ⟨(FrM.tr FrM.rf F_852 (by decide)), (fun j hj => (hp_853 j (fun h9 => hj ((by decide : ∀ x ∈ ([98, 99] : List Int), x ∈ ([98, 99] : List Int)) j h9))))⟩
                        · refine lv_lload hx hb dX12_turns_291 (lv_at hl 0 rfl) ?_
                          refine lv_goto (tgt := 298) hx hb dX12_turns_293 (by decide) ?_
                          refine xc_vV G (b := 111) (rest := []) (As := [.int (iv 1), .long (jv 2147483647)]) (c_X12_turnsTo ω l μ 1 2147483647 (by omega) (by unfold jr; omega)) (wm 10 87 rfl rfl) (wm 10 89 rfl rfl) (wm 0 189 rfl rfl) rfl rfl (by decide) rfl (wm 1 18 rfl rfl) (wm 10 90 rfl rfl) (by decide) hR (by decide) (n := 2) rfl rfl (Nat.le_of_ble_eq_true rfl) hl.1 dX12_turns_298 (fun μ856 ρ d0 H locs hp G => ?_)
                          obtain ⟨F_857, hp_858, hs_859, hs_860⟩ := hp
                          exact xr_v G hret hlk dX12_turns_301 ⟨(FrM.tr FrM.rf F_857 (by decide)), (fun j hj => (hp_858 j (fun h9 => hj ((by decide : ∀ x ∈ ([98, 99] : List Int), x ∈ ([98, 99] : List Int)) j h9))))⟩
                      · refine lv_lload hx hb dX12_turns_278 (lv_at hl 1 rfl) ?_
                        refine lv_goto (tgt := 298) hx hb dX12_turns_280 (by decide) ?_
                        refine xc_vV G (b := 111) (rest := []) (As := [.int (iv 1), .long (jv (-100000000000000000))]) (c_X12_turnsTo ω l μ 1 (-100000000000000000) (by omega) (by unfold jr; omega)) (wm 10 87 rfl rfl) (wm 10 89 rfl rfl) (wm 0 189 rfl rfl) rfl rfl (by decide) rfl (wm 1 18 rfl rfl) (wm 10 90 rfl rfl) (by decide) hR (by decide) (n := 2) rfl rfl (Nat.le_of_ble_eq_true rfl) hl.1 dX12_turns_298 (fun μ861 ρ d0 H locs hp G => ?_)
                        obtain ⟨F_862, hp_863, hs_864, hs_865⟩ := hp
                        exact xr_v G hret hlk dX12_turns_301 ⟨(FrM.tr FrM.rf F_862 (by decide)), (fun j hj => (hp_863 j (fun h9 => hj ((by decide : ∀ x ∈ ([98, 99] : List Int), x ∈ ([98, 99] : List Int)) j h9))))⟩
                  · refine lv_ldc2 (s := s.setDrawn d0) hx hb G.1.2.2.2.1 (dr_words G.1.2.2.2.2 d0 _ (wm 9 34 rfl rfl)) dX12_turns_246 ?_
                    refine xb_litl (x := 9223372036854775807) (by decide) ?_
                    refine lv_goto (tgt := 266) hx hb dX12_turns_249 (by decide) ?_
                    refine lv_lstore (lv' := [(12, .long (jv 9223372036854775807)), (10, .long (jv (-100000000000000000))), (8, .long (jv z_831)), (6, .double (dv r_554)), (0, .ref (oP ω 111)), (1, .int (iv x1)), (2, .int (iv x2)), (3, .int (iv x3)), (4, .long (jv x4))]) hx hb dX12_turns_266 hl (by decide) rfl (fun ls hl => ?_)
                    refine lv_aload_n hx hb dX12_turns_268 rfl (lv_at hl 4 rfl) ?_
                    refine lv_iconst (v := iv 1) hx hb dX12_turns_269 rfl ?_
                    refine lv_lload hx hb dX12_turns_270 (lv_at hl 2 rfl) ?_
                    refine lv_lload hx hb dX12_turns_272 (lv_at hl 1 rfl) ?_
                    refine xb_lcmp hx hb hr_z_831 (by unfold jr; omega) dX12_turns_274 ?_
                    have hr_866 : -2147483648 ≤ lcm z_831 (-100000000000000000) ∧ lcm z_831 (-100000000000000000) ≤ 2147483647 := lcm_ir _ _
                    refine xb_if_ge (tgt := 283) hx hb (by unfold ir; omega) dX12_turns_275 (by decide) (fun c_275 => ?_) (fun c_275 => ?_)
                    · refine lv_lload hx hb dX12_turns_283 (lv_at hl 2 rfl) ?_
                      refine lv_lload hx hb dX12_turns_285 (lv_at hl 0 rfl) ?_
                      refine xb_lcmp hx hb hr_z_831 (by unfold jr; omega) dX12_turns_287 ?_
                      have hr_867 : -2147483648 ≤ lcm z_831 9223372036854775807 ∧ lcm z_831 9223372036854775807 ≤ 2147483647 := lcm_ir _ _
                      refine xb_if_le (tgt := 296) hx hb (by unfold ir; omega) dX12_turns_288 (by decide) (fun c_288 => ?_) (fun c_288 => ?_)
                      · refine lv_lload hx hb dX12_turns_296 (lv_at hl 2 rfl) ?_
                        refine xc_vV G (b := 111) (rest := []) (As := [.int (iv 1), .long (jv z_831)]) (c_X12_turnsTo ω l μ 1 z_831 (by omega) hr_z_831) (wm 10 87 rfl rfl) (wm 10 89 rfl rfl) (wm 0 189 rfl rfl) rfl rfl (by decide) rfl (wm 1 18 rfl rfl) (wm 10 90 rfl rfl) (by decide) hR (by decide) (n := 2) rfl rfl (Nat.le_of_ble_eq_true rfl) hl.1 dX12_turns_298 (fun μ868 ρ d0 H locs hp G => ?_)
                        obtain ⟨F_869, hp_870, hs_871, hs_872⟩ := hp
                        exact xr_v G hret hlk dX12_turns_301 ⟨(FrM.tr FrM.rf F_869 (by decide)), (fun j hj => (hp_870 j (fun h9 => hj ((by decide : ∀ x ∈ ([98, 99] : List Int), x ∈ ([98, 99] : List Int)) j h9))))⟩
                      · refine lv_lload hx hb dX12_turns_291 (lv_at hl 0 rfl) ?_
                        refine lv_goto (tgt := 298) hx hb dX12_turns_293 (by decide) ?_
                        refine xc_vV G (b := 111) (rest := []) (As := [.int (iv 1), .long (jv 9223372036854775807)]) (c_X12_turnsTo ω l μ 1 9223372036854775807 (by omega) (by unfold jr; omega)) (wm 10 87 rfl rfl) (wm 10 89 rfl rfl) (wm 0 189 rfl rfl) rfl rfl (by decide) rfl (wm 1 18 rfl rfl) (wm 10 90 rfl rfl) (by decide) hR (by decide) (n := 2) rfl rfl (Nat.le_of_ble_eq_true rfl) hl.1 dX12_turns_298 (fun μ873 ρ d0 H locs hp G => ?_)
                        obtain ⟨F_874, hp_875, hs_876, hs_877⟩ := hp
                        exact xr_v G hret hlk dX12_turns_301 ⟨(FrM.tr FrM.rf F_874 (by decide)), (fun j hj => (hp_875 j (fun h9 => hj ((by decide : ∀ x ∈ ([98, 99] : List Int), x ∈ ([98, 99] : List Int)) j h9))))⟩
                    · refine lv_lload hx hb dX12_turns_278 (lv_at hl 1 rfl) ?_
                      refine lv_goto (tgt := 298) hx hb dX12_turns_280 (by decide) ?_
                      refine xc_vV G (b := 111) (rest := []) (As := [.int (iv 1), .long (jv (-100000000000000000))]) (c_X12_turnsTo ω l μ 1 (-100000000000000000) (by omega) (by unfold jr; omega)) (wm 10 87 rfl rfl) (wm 10 89 rfl rfl) (wm 0 189 rfl rfl) rfl rfl (by decide) rfl (wm 1 18 rfl rfl) (wm 10 90 rfl rfl) (by decide) hR (by decide) (n := 2) rfl rfl (Nat.le_of_ble_eq_true rfl) hl.1 dX12_turns_298 (fun μ878 ρ d0 H locs hp G => ?_)
                      obtain ⟨F_879, hp_880, hs_881, hs_882⟩ := hp
                      exact xr_v G hret hlk dX12_turns_301 ⟨(FrM.tr FrM.rf F_879 (by decide)), (fun j hj => (hp_880 j (fun h9 => hj ((by decide : ∀ x ∈ ([98, 99] : List Int), x ∈ ([98, 99] : List Int)) j h9))))⟩
                · refine lv_ldc2 (s := s.setDrawn d0) hx hb G.1.2.2.2.1 (dr_words G.1.2.2.2.2 d0 _ (wm 10 104 rfl rfl)) dX12_turns_231 ?_
                  refine xb_litl (x := (-2147483648)) (by decide) ?_
                  refine lv_goto (tgt := 240) hx hb dX12_turns_234 (by decide) ?_
                  refine lv_lstore (lv' := [(10, .long (jv (-2147483648))), (8, .long (jv z_831)), (6, .double (dv r_554)), (0, .ref (oP ω 111)), (1, .int (iv x1)), (2, .int (iv x2)), (3, .int (iv x3)), (4, .long (jv x4))]) hx hb dX12_turns_240 hl (by decide) rfl (fun ls hl => ?_)
                  refine lv_iload_n hx hb dX12_turns_242 rfl (lv_at hl 5 rfl) ?_
                  refine xb_if_ne (tgt := 252) hx hb (by unfold ir; omega) dX12_turns_243 (by decide) (fun c_243 => ?_) (fun c_243 => ?_)
                  · refine lv_iload_n hx hb dX12_turns_252 rfl (lv_at hl 5 rfl) ?_
                    refine lv_iconst (v := iv 1) hx hb dX12_turns_253 rfl ?_
                    refine xb_icmp_ne (tgt := 263) hx hb (by unfold ir; omega) (by unfold ir; omega) dX12_turns_254 (by decide) (fun c_254 => ?_) (fun c_254 => ?_)
                    · refine lv_ldc2 (s := s.setDrawn d0) hx hb G.1.2.2.2.1 (dr_words G.1.2.2.2.2 d0 _ (wm 9 36 rfl rfl)) dX12_turns_263 ?_
                      refine xb_litl (x := 100000000000000000) (by decide) ?_
                      refine lv_lstore (lv' := [(12, .long (jv 100000000000000000)), (10, .long (jv (-2147483648))), (8, .long (jv z_831)), (6, .double (dv r_554)), (0, .ref (oP ω 111)), (1, .int (iv x1)), (2, .int (iv x2)), (3, .int (iv x3)), (4, .long (jv x4))]) hx hb dX12_turns_266 hl (by decide) rfl (fun ls hl => ?_)
                      refine lv_aload_n hx hb dX12_turns_268 rfl (lv_at hl 4 rfl) ?_
                      refine lv_iconst (v := iv 1) hx hb dX12_turns_269 rfl ?_
                      refine lv_lload hx hb dX12_turns_270 (lv_at hl 2 rfl) ?_
                      refine lv_lload hx hb dX12_turns_272 (lv_at hl 1 rfl) ?_
                      refine xb_lcmp hx hb hr_z_831 (by unfold jr; omega) dX12_turns_274 ?_
                      have hr_883 : -2147483648 ≤ lcm z_831 (-2147483648) ∧ lcm z_831 (-2147483648) ≤ 2147483647 := lcm_ir _ _
                      refine xb_if_ge (tgt := 283) hx hb (by unfold ir; omega) dX12_turns_275 (by decide) (fun c_275 => ?_) (fun c_275 => ?_)
                      · refine lv_lload hx hb dX12_turns_283 (lv_at hl 2 rfl) ?_
                        refine lv_lload hx hb dX12_turns_285 (lv_at hl 0 rfl) ?_
                        refine xb_lcmp hx hb hr_z_831 (by unfold jr; omega) dX12_turns_287 ?_
                        have hr_884 : -2147483648 ≤ lcm z_831 100000000000000000 ∧ lcm z_831 100000000000000000 ≤ 2147483647 := lcm_ir _ _
                        refine xb_if_le (tgt := 296) hx hb (by unfold ir; omega) dX12_turns_288 (by decide) (fun c_288 => ?_) (fun c_288 => ?_)
                        · refine lv_lload hx hb dX12_turns_296 (lv_at hl 2 rfl) ?_
                          refine xc_vV G (b := 111) (rest := []) (As := [.int (iv 1), .long (jv z_831)]) (c_X12_turnsTo ω l μ 1 z_831 (by omega) hr_z_831) (wm 10 87 rfl rfl) (wm 10 89 rfl rfl) (wm 0 189 rfl rfl) rfl rfl (by decide) rfl (wm 1 18 rfl rfl) (wm 10 90 rfl rfl) (by decide) hR (by decide) (n := 2) rfl rfl (Nat.le_of_ble_eq_true rfl) hl.1 dX12_turns_298 (fun μ885 ρ d0 H locs hp G => ?_)
                          obtain ⟨F_886, hp_887, hs_888, hs_889⟩ := hp
                          exact xr_v G hret hlk dX12_turns_301 ⟨(FrM.tr FrM.rf F_886 (by decide)), (fun j hj => (hp_887 j (fun h9 => hj ((by decide : ∀ x ∈ ([98, 99] : List Int), x ∈ ([98, 99] : List Int)) j h9))))⟩
                        · refine lv_lload hx hb dX12_turns_291 (lv_at hl 0 rfl) ?_
                          refine lv_goto (tgt := 298) hx hb dX12_turns_293 (by decide) ?_
                          refine xc_vV G (b := 111) (rest := []) (As := [.int (iv 1), .long (jv 100000000000000000)]) (c_X12_turnsTo ω l μ 1 100000000000000000 (by omega) (by unfold jr; omega)) (wm 10 87 rfl rfl) (wm 10 89 rfl rfl) (wm 0 189 rfl rfl) rfl rfl (by decide) rfl (wm 1 18 rfl rfl) (wm 10 90 rfl rfl) (by decide) hR (by decide) (n := 2) rfl rfl (Nat.le_of_ble_eq_true rfl) hl.1 dX12_turns_298 (fun μ890 ρ d0 H locs hp G => ?_)
                          obtain ⟨F_891, hp_892, hs_893, hs_894⟩ := hp
                          exact xr_v G hret hlk dX12_turns_301 ⟨(FrM.tr FrM.rf F_891 (by decide)), (fun j hj => (hp_892 j (fun h9 => hj ((by decide : ∀ x ∈ ([98, 99] : List Int), x ∈ ([98, 99] : List Int)) j h9))))⟩
                      · refine lv_lload hx hb dX12_turns_278 (lv_at hl 1 rfl) ?_
                        refine lv_goto (tgt := 298) hx hb dX12_turns_280 (by decide) ?_
                        refine xc_vV G (b := 111) (rest := []) (As := [.int (iv 1), .long (jv (-2147483648))]) (c_X12_turnsTo ω l μ 1 (-2147483648) (by omega) (by unfold jr; omega)) (wm 10 87 rfl rfl) (wm 10 89 rfl rfl) (wm 0 189 rfl rfl) rfl rfl (by decide) rfl (wm 1 18 rfl rfl) (wm 10 90 rfl rfl) (by decide) hR (by decide) (n := 2) rfl rfl (Nat.le_of_ble_eq_true rfl) hl.1 dX12_turns_298 (fun μ895 ρ d0 H locs hp G => ?_)
                        obtain ⟨F_896, hp_897, hs_898, hs_899⟩ := hp
                        exact xr_v G hret hlk dX12_turns_301 ⟨(FrM.tr FrM.rf F_896 (by decide)), (fun j hj => (hp_897 j (fun h9 => hj ((by decide : ∀ x ∈ ([98, 99] : List Int), x ∈ ([98, 99] : List Int)) j h9))))⟩
                    · refine lv_ldc2 (s := s.setDrawn d0) hx hb G.1.2.2.2.1 (dr_words G.1.2.2.2.2 d0 _ (wm 9 35 rfl rfl)) dX12_turns_257 ?_
                      refine xb_litl (x := 2147483647) (by decide) ?_
                      refine lv_goto (tgt := 266) hx hb dX12_turns_260 (by decide) ?_
                      refine lv_lstore (lv' := [(12, .long (jv 2147483647)), (10, .long (jv (-2147483648))), (8, .long (jv z_831)), (6, .double (dv r_554)), (0, .ref (oP ω 111)), (1, .int (iv x1)), (2, .int (iv x2)), (3, .int (iv x3)), (4, .long (jv x4))]) hx hb dX12_turns_266 hl (by decide) rfl (fun ls hl => ?_)
                      refine lv_aload_n hx hb dX12_turns_268 rfl (lv_at hl 4 rfl) ?_
                      refine lv_iconst (v := iv 1) hx hb dX12_turns_269 rfl ?_
                      refine lv_lload hx hb dX12_turns_270 (lv_at hl 2 rfl) ?_
                      refine lv_lload hx hb dX12_turns_272 (lv_at hl 1 rfl) ?_
                      refine xb_lcmp hx hb hr_z_831 (by unfold jr; omega) dX12_turns_274 ?_
                      have hr_900 : -2147483648 ≤ lcm z_831 (-2147483648) ∧ lcm z_831 (-2147483648) ≤ 2147483647 := lcm_ir _ _
                      refine xb_if_ge (tgt := 283) hx hb (by unfold ir; omega) dX12_turns_275 (by decide) (fun c_275 => ?_) (fun c_275 => ?_)
                      · refine lv_lload hx hb dX12_turns_283 (lv_at hl 2 rfl) ?_
                        refine lv_lload hx hb dX12_turns_285 (lv_at hl 0 rfl) ?_
                        refine xb_lcmp hx hb hr_z_831 (by unfold jr; omega) dX12_turns_287 ?_
                        have hr_901 : -2147483648 ≤ lcm z_831 2147483647 ∧ lcm z_831 2147483647 ≤ 2147483647 := lcm_ir _ _
                        refine xb_if_le (tgt := 296) hx hb (by unfold ir; omega) dX12_turns_288 (by decide) (fun c_288 => ?_) (fun c_288 => ?_)
                        · refine lv_lload hx hb dX12_turns_296 (lv_at hl 2 rfl) ?_
                          refine xc_vV G (b := 111) (rest := []) (As := [.int (iv 1), .long (jv z_831)]) (c_X12_turnsTo ω l μ 1 z_831 (by omega) hr_z_831) (wm 10 87 rfl rfl) (wm 10 89 rfl rfl) (wm 0 189 rfl rfl) rfl rfl (by decide) rfl (wm 1 18 rfl rfl) (wm 10 90 rfl rfl) (by decide) hR (by decide) (n := 2) rfl rfl (Nat.le_of_ble_eq_true rfl) hl.1 dX12_turns_298 (fun μ902 ρ d0 H locs hp G => ?_)
                          obtain ⟨F_903, hp_904, hs_905, hs_906⟩ := hp
                          exact xr_v G hret hlk dX12_turns_301 ⟨(FrM.tr FrM.rf F_903 (by decide)), (fun j hj => (hp_904 j (fun h9 => hj ((by decide : ∀ x ∈ ([98, 99] : List Int), x ∈ ([98, 99] : List Int)) j h9))))⟩
                        · refine lv_lload hx hb dX12_turns_291 (lv_at hl 0 rfl) ?_
                          refine lv_goto (tgt := 298) hx hb dX12_turns_293 (by decide) ?_
                          refine xc_vV G (b := 111) (rest := []) (As := [.int (iv 1), .long (jv 2147483647)]) (c_X12_turnsTo ω l μ 1 2147483647 (by omega) (by unfold jr; omega)) (wm 10 87 rfl rfl) (wm 10 89 rfl rfl) (wm 0 189 rfl rfl) rfl rfl (by decide) rfl (wm 1 18 rfl rfl) (wm 10 90 rfl rfl) (by decide) hR (by decide) (n := 2) rfl rfl (Nat.le_of_ble_eq_true rfl) hl.1 dX12_turns_298 (fun μ907 ρ d0 H locs hp G => ?_)
                          obtain ⟨F_908, hp_909, hs_910, hs_911⟩ := hp
                          exact xr_v G hret hlk dX12_turns_301 ⟨(FrM.tr FrM.rf F_908 (by decide)), (fun j hj => (hp_909 j (fun h9 => hj ((by decide : ∀ x ∈ ([98, 99] : List Int), x ∈ ([98, 99] : List Int)) j h9))))⟩
                      · refine lv_lload hx hb dX12_turns_278 (lv_at hl 1 rfl) ?_
                        refine lv_goto (tgt := 298) hx hb dX12_turns_280 (by decide) ?_
                        refine xc_vV G (b := 111) (rest := []) (As := [.int (iv 1), .long (jv (-2147483648))]) (c_X12_turnsTo ω l μ 1 (-2147483648) (by omega) (by unfold jr; omega)) (wm 10 87 rfl rfl) (wm 10 89 rfl rfl) (wm 0 189 rfl rfl) rfl rfl (by decide) rfl (wm 1 18 rfl rfl) (wm 10 90 rfl rfl) (by decide) hR (by decide) (n := 2) rfl rfl (Nat.le_of_ble_eq_true rfl) hl.1 dX12_turns_298 (fun μ912 ρ d0 H locs hp G => ?_)
                        obtain ⟨F_913, hp_914, hs_915, hs_916⟩ := hp
                        exact xr_v G hret hlk dX12_turns_301 ⟨(FrM.tr FrM.rf F_913 (by decide)), (fun j hj => (hp_914 j (fun h9 => hj ((by decide : ∀ x ∈ ([98, 99] : List Int), x ∈ ([98, 99] : List Int)) j h9))))⟩
                  · refine lv_ldc2 (s := s.setDrawn d0) hx hb G.1.2.2.2.1 (dr_words G.1.2.2.2.2 d0 _ (wm 9 34 rfl rfl)) dX12_turns_246 ?_
                    refine xb_litl (x := 9223372036854775807) (by decide) ?_
                    refine lv_goto (tgt := 266) hx hb dX12_turns_249 (by decide) ?_
                    refine lv_lstore (lv' := [(12, .long (jv 9223372036854775807)), (10, .long (jv (-2147483648))), (8, .long (jv z_831)), (6, .double (dv r_554)), (0, .ref (oP ω 111)), (1, .int (iv x1)), (2, .int (iv x2)), (3, .int (iv x3)), (4, .long (jv x4))]) hx hb dX12_turns_266 hl (by decide) rfl (fun ls hl => ?_)
                    refine lv_aload_n hx hb dX12_turns_268 rfl (lv_at hl 4 rfl) ?_
                    refine lv_iconst (v := iv 1) hx hb dX12_turns_269 rfl ?_
                    refine lv_lload hx hb dX12_turns_270 (lv_at hl 2 rfl) ?_
                    refine lv_lload hx hb dX12_turns_272 (lv_at hl 1 rfl) ?_
                    refine xb_lcmp hx hb hr_z_831 (by unfold jr; omega) dX12_turns_274 ?_
                    have hr_917 : -2147483648 ≤ lcm z_831 (-2147483648) ∧ lcm z_831 (-2147483648) ≤ 2147483647 := lcm_ir _ _
                    refine xb_if_ge (tgt := 283) hx hb (by unfold ir; omega) dX12_turns_275 (by decide) (fun c_275 => ?_) (fun c_275 => ?_)
                    · refine lv_lload hx hb dX12_turns_283 (lv_at hl 2 rfl) ?_
                      refine lv_lload hx hb dX12_turns_285 (lv_at hl 0 rfl) ?_
                      refine xb_lcmp hx hb hr_z_831 (by unfold jr; omega) dX12_turns_287 ?_
                      have hr_918 : -2147483648 ≤ lcm z_831 9223372036854775807 ∧ lcm z_831 9223372036854775807 ≤ 2147483647 := lcm_ir _ _
                      refine xb_if_le (tgt := 296) hx hb (by unfold ir; omega) dX12_turns_288 (by decide) (fun c_288 => ?_) (fun c_288 => ?_)
                      · refine lv_lload hx hb dX12_turns_296 (lv_at hl 2 rfl) ?_
                        refine xc_vV G (b := 111) (rest := []) (As := [.int (iv 1), .long (jv z_831)]) (c_X12_turnsTo ω l μ 1 z_831 (by omega) hr_z_831) (wm 10 87 rfl rfl) (wm 10 89 rfl rfl) (wm 0 189 rfl rfl) rfl rfl (by decide) rfl (wm 1 18 rfl rfl) (wm 10 90 rfl rfl) (by decide) hR (by decide) (n := 2) rfl rfl (Nat.le_of_ble_eq_true rfl) hl.1 dX12_turns_298 (fun μ919 ρ d0 H locs hp G => ?_)
                        obtain ⟨F_920, hp_921, hs_922, hs_923⟩ := hp
                        exact xr_v G hret hlk dX12_turns_301 ⟨(FrM.tr FrM.rf F_920 (by decide)), (fun j hj => (hp_921 j (fun h9 => hj ((by decide : ∀ x ∈ ([98, 99] : List Int), x ∈ ([98, 99] : List Int)) j h9))))⟩
                      · refine lv_lload hx hb dX12_turns_291 (lv_at hl 0 rfl) ?_
                        refine lv_goto (tgt := 298) hx hb dX12_turns_293 (by decide) ?_
                        refine xc_vV G (b := 111) (rest := []) (As := [.int (iv 1), .long (jv 9223372036854775807)]) (c_X12_turnsTo ω l μ 1 9223372036854775807 (by omega) (by unfold jr; omega)) (wm 10 87 rfl rfl) (wm 10 89 rfl rfl) (wm 0 189 rfl rfl) rfl rfl (by decide) rfl (wm 1 18 rfl rfl) (wm 10 90 rfl rfl) (by decide) hR (by decide) (n := 2) rfl rfl (Nat.le_of_ble_eq_true rfl) hl.1 dX12_turns_298 (fun μ924 ρ d0 H locs hp G => ?_)
                        obtain ⟨F_925, hp_926, hs_927, hs_928⟩ := hp
                        exact xr_v G hret hlk dX12_turns_301 ⟨(FrM.tr FrM.rf F_925 (by decide)), (fun j hj => (hp_926 j (fun h9 => hj ((by decide : ∀ x ∈ ([98, 99] : List Int), x ∈ ([98, 99] : List Int)) j h9))))⟩
                    · refine lv_lload hx hb dX12_turns_278 (lv_at hl 1 rfl) ?_
                      refine lv_goto (tgt := 298) hx hb dX12_turns_280 (by decide) ?_
                      refine xc_vV G (b := 111) (rest := []) (As := [.int (iv 1), .long (jv (-2147483648))]) (c_X12_turnsTo ω l μ 1 (-2147483648) (by omega) (by unfold jr; omega)) (wm 10 87 rfl rfl) (wm 10 89 rfl rfl) (wm 0 189 rfl rfl) rfl rfl (by decide) rfl (wm 1 18 rfl rfl) (wm 10 90 rfl rfl) (by decide) hR (by decide) (n := 2) rfl rfl (Nat.le_of_ble_eq_true rfl) hl.1 dX12_turns_298 (fun μ929 ρ d0 H locs hp G => ?_)
                      obtain ⟨F_930, hp_931, hs_932, hs_933⟩ := hp
                      exact xr_v G hret hlk dX12_turns_301 ⟨(FrM.tr FrM.rf F_930 (by decide)), (fun j hj => (hp_931 j (fun h9 => hj ((by decide : ∀ x ∈ ([98, 99] : List Int), x ∈ ([98, 99] : List Int)) j h9))))⟩
              · refine lv_ldc2 (s := s.setDrawn d0) hx hb G.1.2.2.2.1 (dr_words G.1.2.2.2.2 d0 _ (wm 10 103 rfl rfl)) dX12_turns_220 ?_
                refine xb_litl (x := (-9223372036854775808)) (by decide) ?_
                refine lv_goto (tgt := 240) hx hb dX12_turns_223 (by decide) ?_
                refine lv_lstore (lv' := [(10, .long (jv (-9223372036854775808))), (8, .long (jv z_831)), (6, .double (dv r_554)), (0, .ref (oP ω 111)), (1, .int (iv x1)), (2, .int (iv x2)), (3, .int (iv x3)), (4, .long (jv x4))]) hx hb dX12_turns_240 hl (by decide) rfl (fun ls hl => ?_)
                refine lv_iload_n hx hb dX12_turns_242 rfl (lv_at hl 5 rfl) ?_
                refine xb_if_ne (tgt := 252) hx hb (by unfold ir; omega) dX12_turns_243 (by decide) (fun c_243 => ?_) (fun c_243 => ?_)
                · refine lv_iload_n hx hb dX12_turns_252 rfl (lv_at hl 5 rfl) ?_
                  refine lv_iconst (v := iv 1) hx hb dX12_turns_253 rfl ?_
                  refine xb_icmp_ne (tgt := 263) hx hb (by unfold ir; omega) (by unfold ir; omega) dX12_turns_254 (by decide) (fun c_254 => ?_) (fun c_254 => ?_)
                  · refine lv_ldc2 (s := s.setDrawn d0) hx hb G.1.2.2.2.1 (dr_words G.1.2.2.2.2 d0 _ (wm 9 36 rfl rfl)) dX12_turns_263 ?_
                    refine xb_litl (x := 100000000000000000) (by decide) ?_
                    refine lv_lstore (lv' := [(12, .long (jv 100000000000000000)), (10, .long (jv (-9223372036854775808))), (8, .long (jv z_831)), (6, .double (dv r_554)), (0, .ref (oP ω 111)), (1, .int (iv x1)), (2, .int (iv x2)), (3, .int (iv x3)), (4, .long (jv x4))]) hx hb dX12_turns_266 hl (by decide) rfl (fun ls hl => ?_)
                    refine lv_aload_n hx hb dX12_turns_268 rfl (lv_at hl 4 rfl) ?_
                    refine lv_iconst (v := iv 1) hx hb dX12_turns_269 rfl ?_
                    refine lv_lload hx hb dX12_turns_270 (lv_at hl 2 rfl) ?_
                    refine lv_lload hx hb dX12_turns_272 (lv_at hl 1 rfl) ?_
                    refine xb_lcmp hx hb hr_z_831 (by unfold jr; omega) dX12_turns_274 ?_
                    have hr_934 : -2147483648 ≤ lcm z_831 (-9223372036854775808) ∧ lcm z_831 (-9223372036854775808) ≤ 2147483647 := lcm_ir _ _
                    refine xb_if_ge (tgt := 283) hx hb (by unfold ir; omega) dX12_turns_275 (by decide) (fun c_275 => ?_) (fun c_275 => ?_)
                    · refine lv_lload hx hb dX12_turns_283 (lv_at hl 2 rfl) ?_
                      refine lv_lload hx hb dX12_turns_285 (lv_at hl 0 rfl) ?_
                      refine xb_lcmp hx hb hr_z_831 (by unfold jr; omega) dX12_turns_287 ?_
                      have hr_935 : -2147483648 ≤ lcm z_831 100000000000000000 ∧ lcm z_831 100000000000000000 ≤ 2147483647 := lcm_ir _ _
                      refine xb_if_le (tgt := 296) hx hb (by unfold ir; omega) dX12_turns_288 (by decide) (fun c_288 => ?_) (fun c_288 => ?_)
                      · refine lv_lload hx hb dX12_turns_296 (lv_at hl 2 rfl) ?_
                        refine xc_vV G (b := 111) (rest := []) (As := [.int (iv 1), .long (jv z_831)]) (c_X12_turnsTo ω l μ 1 z_831 (by omega) hr_z_831) (wm 10 87 rfl rfl) (wm 10 89 rfl rfl) (wm 0 189 rfl rfl) rfl rfl (by decide) rfl (wm 1 18 rfl rfl) (wm 10 90 rfl rfl) (by decide) hR (by decide) (n := 2) rfl rfl (Nat.le_of_ble_eq_true rfl) hl.1 dX12_turns_298 (fun μ936 ρ d0 H locs hp G => ?_)
                        obtain ⟨F_937, hp_938, hs_939, hs_940⟩ := hp
                        exact xr_v G hret hlk dX12_turns_301 ⟨(FrM.tr FrM.rf F_937 (by decide)), (fun j hj => (hp_938 j (fun h9 => hj ((by decide : ∀ x ∈ ([98, 99] : List Int), x ∈ ([98, 99] : List Int)) j h9))))⟩
                      · refine lv_lload hx hb dX12_turns_291 (lv_at hl 0 rfl) ?_
                        refine lv_goto (tgt := 298) hx hb dX12_turns_293 (by decide) ?_
                        refine xc_vV G (b := 111) (rest := []) (As := [.int (iv 1), .long (jv 100000000000000000)]) (c_X12_turnsTo ω l μ 1 100000000000000000 (by omega) (by unfold jr; omega)) (wm 10 87 rfl rfl) (wm 10 89 rfl rfl) (wm 0 189 rfl rfl) rfl rfl (by decide) rfl (wm 1 18 rfl rfl) (wm 10 90 rfl rfl) (by decide) hR (by decide) (n := 2) rfl rfl (Nat.le_of_ble_eq_true rfl) hl.1 dX12_turns_298 (fun μ941 ρ d0 H locs hp G => ?_)
                        obtain ⟨F_942, hp_943, hs_944, hs_945⟩ := hp
                        exact xr_v G hret hlk dX12_turns_301 ⟨(FrM.tr FrM.rf F_942 (by decide)), (fun j hj => (hp_943 j (fun h9 => hj ((by decide : ∀ x ∈ ([98, 99] : List Int), x ∈ ([98, 99] : List Int)) j h9))))⟩
                    · refine lv_lload hx hb dX12_turns_278 (lv_at hl 1 rfl) ?_
                      refine lv_goto (tgt := 298) hx hb dX12_turns_280 (by decide) ?_
                      refine xc_vV G (b := 111) (rest := []) (As := [.int (iv 1), .long (jv (-9223372036854775808))]) (c_X12_turnsTo ω l μ 1 (-9223372036854775808) (by omega) (by unfold jr; omega)) (wm 10 87 rfl rfl) (wm 10 89 rfl rfl) (wm 0 189 rfl rfl) rfl rfl (by decide) rfl (wm 1 18 rfl rfl) (wm 10 90 rfl rfl) (by decide) hR (by decide) (n := 2) rfl rfl (Nat.le_of_ble_eq_true rfl) hl.1 dX12_turns_298 (fun μ946 ρ d0 H locs hp G => ?_)
                      obtain ⟨F_947, hp_948, hs_949, hs_950⟩ := hp
                      exact xr_v G hret hlk dX12_turns_301 ⟨(FrM.tr FrM.rf F_947 (by decide)), (fun j hj => (hp_948 j (fun h9 => hj ((by decide : ∀ x ∈ ([98, 99] : List Int), x ∈ ([98, 99] : List Int)) j h9))))⟩
                  · refine lv_ldc2 (s := s.setDrawn d0) hx hb G.1.2.2.2.1 (dr_words G.1.2.2.2.2 d0 _ (wm 9 35 rfl rfl)) dX12_turns_257 ?_
                    refine xb_litl (x := 2147483647) (by decide) ?_
                    refine lv_goto (tgt := 266) hx hb dX12_turns_260 (by decide) ?_
                    refine lv_lstore (lv' := [(12, .long (jv 2147483647)), (10, .long (jv (-9223372036854775808))), (8, .long (jv z_831)), (6, .double (dv r_554)), (0, .ref (oP ω 111)), (1, .int (iv x1)), (2, .int (iv x2)), (3, .int (iv x3)), (4, .long (jv x4))]) hx hb dX12_turns_266 hl (by decide) rfl (fun ls hl => ?_)
                    refine lv_aload_n hx hb dX12_turns_268 rfl (lv_at hl 4 rfl) ?_
                    refine lv_iconst (v := iv 1) hx hb dX12_turns_269 rfl ?_
                    refine lv_lload hx hb dX12_turns_270 (lv_at hl 2 rfl) ?_
                    refine lv_lload hx hb dX12_turns_272 (lv_at hl 1 rfl) ?_
                    refine xb_lcmp hx hb hr_z_831 (by unfold jr; omega) dX12_turns_274 ?_
                    have hr_951 : -2147483648 ≤ lcm z_831 (-9223372036854775808) ∧ lcm z_831 (-9223372036854775808) ≤ 2147483647 := lcm_ir _ _
                    refine xb_if_ge (tgt := 283) hx hb (by unfold ir; omega) dX12_turns_275 (by decide) (fun c_275 => ?_) (fun c_275 => ?_)
                    · refine lv_lload hx hb dX12_turns_283 (lv_at hl 2 rfl) ?_
                      refine lv_lload hx hb dX12_turns_285 (lv_at hl 0 rfl) ?_
                      refine xb_lcmp hx hb hr_z_831 (by unfold jr; omega) dX12_turns_287 ?_
                      have hr_952 : -2147483648 ≤ lcm z_831 2147483647 ∧ lcm z_831 2147483647 ≤ 2147483647 := lcm_ir _ _
                      refine xb_if_le (tgt := 296) hx hb (by unfold ir; omega) dX12_turns_288 (by decide) (fun c_288 => ?_) (fun c_288 => ?_)
                      · refine lv_lload hx hb dX12_turns_296 (lv_at hl 2 rfl) ?_
                        refine xc_vV G (b := 111) (rest := []) (As := [.int (iv 1), .long (jv z_831)]) (c_X12_turnsTo ω l μ 1 z_831 (by omega) hr_z_831) (wm 10 87 rfl rfl) (wm 10 89 rfl rfl) (wm 0 189 rfl rfl) rfl rfl (by decide) rfl (wm 1 18 rfl rfl) (wm 10 90 rfl rfl) (by decide) hR (by decide) (n := 2) rfl rfl (Nat.le_of_ble_eq_true rfl) hl.1 dX12_turns_298 (fun μ953 ρ d0 H locs hp G => ?_)
                        obtain ⟨F_954, hp_955, hs_956, hs_957⟩ := hp
                        exact xr_v G hret hlk dX12_turns_301 ⟨(FrM.tr FrM.rf F_954 (by decide)), (fun j hj => (hp_955 j (fun h9 => hj ((by decide : ∀ x ∈ ([98, 99] : List Int), x ∈ ([98, 99] : List Int)) j h9))))⟩
                      · refine lv_lload hx hb dX12_turns_291 (lv_at hl 0 rfl) ?_
                        refine lv_goto (tgt := 298) hx hb dX12_turns_293 (by decide) ?_
                        refine xc_vV G (b := 111) (rest := []) (As := [.int (iv 1), .long (jv 2147483647)]) (c_X12_turnsTo ω l μ 1 2147483647 (by omega) (by unfold jr; omega)) (wm 10 87 rfl rfl) (wm 10 89 rfl rfl) (wm 0 189 rfl rfl) rfl rfl (by decide) rfl (wm 1 18 rfl rfl) (wm 10 90 rfl rfl) (by decide) hR (by decide) (n := 2) rfl rfl (Nat.le_of_ble_eq_true rfl) hl.1 dX12_turns_298 (fun μ958 ρ d0 H locs hp G => ?_)
                        obtain ⟨F_959, hp_960, hs_961, hs_962⟩ := hp
                        exact xr_v G hret hlk dX12_turns_301 ⟨(FrM.tr FrM.rf F_959 (by decide)), (fun j hj => (hp_960 j (fun h9 => hj ((by decide : ∀ x ∈ ([98, 99] : List Int), x ∈ ([98, 99] : List Int)) j h9))))⟩
                    · refine lv_lload hx hb dX12_turns_278 (lv_at hl 1 rfl) ?_
                      refine lv_goto (tgt := 298) hx hb dX12_turns_280 (by decide) ?_
                      refine xc_vV G (b := 111) (rest := []) (As := [.int (iv 1), .long (jv (-9223372036854775808))]) (c_X12_turnsTo ω l μ 1 (-9223372036854775808) (by omega) (by unfold jr; omega)) (wm 10 87 rfl rfl) (wm 10 89 rfl rfl) (wm 0 189 rfl rfl) rfl rfl (by decide) rfl (wm 1 18 rfl rfl) (wm 10 90 rfl rfl) (by decide) hR (by decide) (n := 2) rfl rfl (Nat.le_of_ble_eq_true rfl) hl.1 dX12_turns_298 (fun μ963 ρ d0 H locs hp G => ?_)
                      obtain ⟨F_964, hp_965, hs_966, hs_967⟩ := hp
                      exact xr_v G hret hlk dX12_turns_301 ⟨(FrM.tr FrM.rf F_964 (by decide)), (fun j hj => (hp_965 j (fun h9 => hj ((by decide : ∀ x ∈ ([98, 99] : List Int), x ∈ ([98, 99] : List Int)) j h9))))⟩
                · refine lv_ldc2 (s := s.setDrawn d0) hx hb G.1.2.2.2.1 (dr_words G.1.2.2.2.2 d0 _ (wm 9 34 rfl rfl)) dX12_turns_246 ?_
                  refine xb_litl (x := 9223372036854775807) (by decide) ?_
                  refine lv_goto (tgt := 266) hx hb dX12_turns_249 (by decide) ?_
                  refine lv_lstore (lv' := [(12, .long (jv 9223372036854775807)), (10, .long (jv (-9223372036854775808))), (8, .long (jv z_831)), (6, .double (dv r_554)), (0, .ref (oP ω 111)), (1, .int (iv x1)), (2, .int (iv x2)), (3, .int (iv x3)), (4, .long (jv x4))]) hx hb dX12_turns_266 hl (by decide) rfl (fun ls hl => ?_)
                  refine lv_aload_n hx hb dX12_turns_268 rfl (lv_at hl 4 rfl) ?_
                  refine lv_iconst (v := iv 1) hx hb dX12_turns_269 rfl ?_
                  refine lv_lload hx hb dX12_turns_270 (lv_at hl 2 rfl) ?_
                  refine lv_lload hx hb dX12_turns_272 (lv_at hl 1 rfl) ?_
                  refine xb_lcmp hx hb hr_z_831 (by unfold jr; omega) dX12_turns_274 ?_
                  have hr_968 : -2147483648 ≤ lcm z_831 (-9223372036854775808) ∧ lcm z_831 (-9223372036854775808) ≤ 2147483647 := lcm_ir _ _
                  refine xb_if_ge (tgt := 283) hx hb (by unfold ir; omega) dX12_turns_275 (by decide) (fun c_275 => ?_) (fun c_275 => ?_)
                  · refine lv_lload hx hb dX12_turns_283 (lv_at hl 2 rfl) ?_
                    refine lv_lload hx hb dX12_turns_285 (lv_at hl 0 rfl) ?_
                    refine xb_lcmp hx hb hr_z_831 (by unfold jr; omega) dX12_turns_287 ?_
                    have hr_969 : -2147483648 ≤ lcm z_831 9223372036854775807 ∧ lcm z_831 9223372036854775807 ≤ 2147483647 := lcm_ir _ _
                    refine xb_if_le (tgt := 296) hx hb (by unfold ir; omega) dX12_turns_288 (by decide) (fun c_288 => ?_) (fun c_288 => ?_)
                    · refine lv_lload hx hb dX12_turns_296 (lv_at hl 2 rfl) ?_
                      refine xc_vV G (b := 111) (rest := []) (As := [.int (iv 1), .long (jv z_831)]) (c_X12_turnsTo ω l μ 1 z_831 (by omega) hr_z_831) (wm 10 87 rfl rfl) (wm 10 89 rfl rfl) (wm 0 189 rfl rfl) rfl rfl (by decide) rfl (wm 1 18 rfl rfl) (wm 10 90 rfl rfl) (by decide) hR (by decide) (n := 2) rfl rfl (Nat.le_of_ble_eq_true rfl) hl.1 dX12_turns_298 (fun μ970 ρ d0 H locs hp G => ?_)
                      obtain ⟨F_971, hp_972, hs_973, hs_974⟩ := hp
                      exact xr_v G hret hlk dX12_turns_301 ⟨(FrM.tr FrM.rf F_971 (by decide)), (fun j hj => (hp_972 j (fun h9 => hj ((by decide : ∀ x ∈ ([98, 99] : List Int), x ∈ ([98, 99] : List Int)) j h9))))⟩
                    · refine lv_lload hx hb dX12_turns_291 (lv_at hl 0 rfl) ?_
                      refine lv_goto (tgt := 298) hx hb dX12_turns_293 (by decide) ?_
                      refine xc_vV G (b := 111) (rest := []) (As := [.int (iv 1), .long (jv 9223372036854775807)]) (c_X12_turnsTo ω l μ 1 9223372036854775807 (by omega) (by unfold jr; omega)) (wm 10 87 rfl rfl) (wm 10 89 rfl rfl) (wm 0 189 rfl rfl) rfl rfl (by decide) rfl (wm 1 18 rfl rfl) (wm 10 90 rfl rfl) (by decide) hR (by decide) (n := 2) rfl rfl (Nat.le_of_ble_eq_true rfl) hl.1 dX12_turns_298 (fun μ975 ρ d0 H locs hp G => ?_)
                      obtain ⟨F_976, hp_977, hs_978, hs_979⟩ := hp
                      exact xr_v G hret hlk dX12_turns_301 ⟨(FrM.tr FrM.rf F_976 (by decide)), (fun j hj => (hp_977 j (fun h9 => hj ((by decide : ∀ x ∈ ([98, 99] : List Int), x ∈ ([98, 99] : List Int)) j h9))))⟩
                  · refine lv_lload hx hb dX12_turns_278 (lv_at hl 1 rfl) ?_
                    refine lv_goto (tgt := 298) hx hb dX12_turns_280 (by decide) ?_
                    refine xc_vV G (b := 111) (rest := []) (As := [.int (iv 1), .long (jv (-9223372036854775808))]) (c_X12_turnsTo ω l μ 1 (-9223372036854775808) (by omega) (by unfold jr; omega)) (wm 10 87 rfl rfl) (wm 10 89 rfl rfl) (wm 0 189 rfl rfl) rfl rfl (by decide) rfl (wm 1 18 rfl rfl) (wm 10 90 rfl rfl) (by decide) hR (by decide) (n := 2) rfl rfl (Nat.le_of_ble_eq_true rfl) hl.1 dX12_turns_298 (fun μ980 ρ d0 H locs hp G => ?_)
                    obtain ⟨F_981, hp_982, hs_983, hs_984⟩ := hp
                    exact xr_v G hret hlk dX12_turns_301 ⟨(FrM.tr FrM.rf F_981 (by decide)), (fun j hj => (hp_982 j (fun h9 => hj ((by decide : ∀ x ∈ ([98, 99] : List Int), x ∈ ([98, 99] : List Int)) j h9))))⟩
            · refine lv_aload_n hx hb dX12_turns_181 rfl (lv_at hl 2 rfl) ?_
              refine lv_iconst (v := iv 1) hx hb dX12_turns_182 rfl ?_
              refine lv_iload_n hx hb dX12_turns_183 rfl (lv_at hl 4 rfl) ?_
              refine xb_if_ne (tgt := 192) hx hb (by unfold ir; omega) dX12_turns_184 (by decide) (fun c_184 => ?_) (fun c_184 => ?_)
              · refine lv_iload_n hx hb dX12_turns_192 rfl (lv_at hl 4 rfl) ?_
                refine lv_iconst (v := iv 1) hx hb dX12_turns_193 rfl ?_
                refine xb_icmp_ne (tgt := 204) hx hb (by unfold ir; omega) (by unfold ir; omega) dX12_turns_194 (by decide) (fun c_194 => ?_) (fun c_194 => ?_)
                · refine lv_lload hx hb dX12_turns_204 (lv_at hl 0 rfl) ?_
                  refine lv_ldc2 (s := s.setDrawn d0) hx hb G.1.2.2.2.1 (dr_words G.1.2.2.2.2 d0 _ (wm 9 36 rfl rfl)) dX12_turns_206 ?_
                  refine xb_litl (x := 100000000000000000) (by decide) ?_
                  refine lv_lrem hx hb dX12_turns_209 (by decide) ?_
                  refine xb_topl (fun z_985 hr_z_985 he_z_985 => ?_)
                  refine xc_vV G (b := 111) (rest := []) (As := [.int (iv 1), .long (jv z_985)]) (c_X12_turnsTo ω l μ 1 z_985 (by omega) hr_z_985) (wm 10 87 rfl rfl) (wm 10 89 rfl rfl) (wm 0 189 rfl rfl) rfl rfl (by decide) rfl (wm 1 18 rfl rfl) (wm 10 90 rfl rfl) (by decide) hR (by decide) (n := 2) rfl rfl (Nat.le_of_ble_eq_true rfl) hl.1 dX12_turns_210 (fun μ986 ρ d0 H locs hp G => ?_)
                  obtain ⟨F_987, hp_988, hs_989, hs_990⟩ := hp
                  refine lv_goto (tgt := 301) hx hb dX12_turns_213 (by decide) ?_
                  exact xr_v G hret hlk dX12_turns_301 ⟨(FrM.tr FrM.rf F_987 (by decide)), (fun j hj => (hp_988 j (fun h9 => hj ((by decide : ∀ x ∈ ([98, 99] : List Int), x ∈ ([98, 99] : List Int)) j h9))))⟩
                · refine lv_lload hx hb dX12_turns_197 (lv_at hl 0 rfl) ?_
                  refine xb_l2i hx hb dX12_turns_199 ?_
                  refine xb_topi (fun y_991 hr_y_991 he_y_991 => ?_)
                  have hr_y_991 : -2147483648 ≤ y_991 ∧ y_991 ≤ 2147483647 := hr_y_991
                  refine xb_i2l hx hb (by unfold ir; omega) dX12_turns_200 ?_
                  refine lv_goto (tgt := 210) hx hb dX12_turns_201 (by decide) ?_
                  refine xc_vV G (b := 111) (rest := []) (As := [.int (iv 1), .long (jv y_991)]) (c_X12_turnsTo ω l μ 1 y_991 (by omega) (by unfold jr; omega)) (wm 10 87 rfl rfl) (wm 10 89 rfl rfl) (wm 0 189 rfl rfl) rfl rfl (by decide) rfl (wm 1 18 rfl rfl) (wm 10 90 rfl rfl) (by decide) hR (by decide) (n := 2) rfl rfl (Nat.le_of_ble_eq_true rfl) hl.1 dX12_turns_210 (fun μ992 ρ d0 H locs hp G => ?_)
                  obtain ⟨F_993, hp_994, hs_995, hs_996⟩ := hp
                  refine lv_goto (tgt := 301) hx hb dX12_turns_213 (by decide) ?_
                  exact xr_v G hret hlk dX12_turns_301 ⟨(FrM.tr FrM.rf F_993 (by decide)), (fun j hj => (hp_994 j (fun h9 => hj ((by decide : ∀ x ∈ ([98, 99] : List Int), x ∈ ([98, 99] : List Int)) j h9))))⟩
              · refine lv_lload hx hb dX12_turns_187 (lv_at hl 0 rfl) ?_
                refine lv_goto (tgt := 210) hx hb dX12_turns_189 (by decide) ?_
                refine xc_vV G (b := 111) (rest := []) (As := [.int (iv 1), .long (jv z_831)]) (c_X12_turnsTo ω l μ 1 z_831 (by omega) hr_z_831) (wm 10 87 rfl rfl) (wm 10 89 rfl rfl) (wm 0 189 rfl rfl) rfl rfl (by decide) rfl (wm 1 18 rfl rfl) (wm 10 90 rfl rfl) (by decide) hR (by decide) (n := 2) rfl rfl (Nat.le_of_ble_eq_true rfl) hl.1 dX12_turns_210 (fun μ997 ρ d0 H locs hp G => ?_)
                obtain ⟨F_998, hp_999, hs_1000, hs_1001⟩ := hp
                refine lv_goto (tgt := 301) hx hb dX12_turns_213 (by decide) ?_
                exact xr_v G hret hlk dX12_turns_301 ⟨(FrM.tr FrM.rf F_998 (by decide)), (fun j hj => (hp_999 j (fun h9 => hj ((by decide : ∀ x ∈ ([98, 99] : List Int), x ∈ ([98, 99] : List Int)) j h9))))⟩
          · refine lv_iload_n hx hb dX12_turns_109 rfl (lv_at hl 3 rfl) ?_
            refine lv_iconst (v := iv 3) hx hb dX12_turns_110 rfl ?_
            refine xb_icmp_ne (tgt := 141) hx hb (by unfold ir; omega) (by unfold ir; omega) dX12_turns_111 (by decide) (fun c_111 => ?_) (fun c_111 => ?_)
            · refine lv_iconst (v := iv 1) hx hb dX12_turns_141 rfl ?_
              refine lv_goto (tgt := 146) hx hb dX12_turns_142 (by decide) ?_
              refine lv_istore (lv' := [(10, .int (iv 1)), (8, .long (jv z_831)), (6, .double (dv r_554)), (0, .ref (oP ω 111)), (1, .int (iv x1)), (2, .int (iv x2)), (3, .int (iv x3)), (4, .long (jv x4))]) hx hb dX12_turns_146 hl (by decide) rfl (fun ls hl => ?_)
              refine lv_aload_n hx hb dX12_turns_148 rfl (lv_at hl 3 rfl) ?_
              refine lv_iload hx hb dX12_turns_149 (lv_at hl 0 rfl) ?_
              refine xb_if_eq (tgt := 167) hx hb (x := 1) (by unfold ir; omega) dX12_turns_151 (by decide) (fun c_151 => absurd c_151 (by decide)) (fun c_151 => ?_)
              refine lv_iload_n hx hb dX12_turns_154 rfl (lv_at hl 5 rfl) ?_
              refine lv_lload hx hb dX12_turns_155 (lv_at hl 1 rfl) ?_
              refine xc_iS G (rest := [.ref (oP ω 111)]) (As := [.int (iv x2), .long (jv z_831)]) (c_X12_has ω l μ x2 z_831 (by unfold ir; omega) hr_z_831) (wm 10 99 rfl rfl) (wm 10 100 rfl rfl) (wm 1 18 rfl rfl) (wm 10 101 rfl rfl) (by decide) hR (by decide) (n := 2) rfl rfl (Nat.le_of_ble_eq_true rfl) hl.1 dX12_turns_157 (fun r_1003 μ1002 ρ d0 H locs hr_r_1003 hp G => ?_)
              have hr_r_1003 : -2147483648 ≤ r_1003 ∧ r_1003 ≤ 2147483647 := hr_r_1003
              have hsm_1004 := hp
              have hsm_1004 := Eq.symm hsm_1004
              subst hsm_1004
              refine xb_if_eq (tgt := 167) hx hb (by unfold ir; omega) dX12_turns_160 (by decide) (fun c_160 => ?_) (fun c_160 => ?_)
              · refine lv_iconst (v := iv 0) hx hb dX12_turns_167 rfl ?_
                refine lv_lload hx hb dX12_turns_168 (lv_at hl 1 rfl) ?_
                refine xc_vV G (b := 111) (rest := []) (As := [.int (iv 0), .long (jv z_831)]) (c_X12_turnsTo ω l μ 0 z_831 (by omega) hr_z_831) (wm 10 87 rfl rfl) (wm 10 89 rfl rfl) (wm 0 189 rfl rfl) rfl rfl (by decide) rfl (wm 1 18 rfl rfl) (wm 10 90 rfl rfl) (by decide) hR (by decide) (n := 2) rfl rfl (Nat.le_of_ble_eq_true rfl) hl.1 dX12_turns_170 (fun μ1005 ρ d0 H locs hp G => ?_)
                obtain ⟨F_1006, hp_1007, hs_1008, hs_1009⟩ := hp
                refine lv_goto (tgt := 301) hx hb dX12_turns_173 (by decide) ?_
                exact xr_v G hret hlk dX12_turns_301 ⟨(FrM.tr FrM.rf F_1006 (by decide)), (fun j hj => (hp_1007 j (fun h9 => hj ((by decide : ∀ x ∈ ([98, 99] : List Int), x ∈ ([98, 99] : List Int)) j h9))))⟩
              · refine lv_iconst (v := iv 1) hx hb dX12_turns_163 rfl ?_
                refine lv_goto (tgt := 168) hx hb dX12_turns_164 (by decide) ?_
                refine lv_lload hx hb dX12_turns_168 (lv_at hl 1 rfl) ?_
                refine xc_vV G (b := 111) (rest := []) (As := [.int (iv 1), .long (jv z_831)]) (c_X12_turnsTo ω l μ 1 z_831 (by omega) hr_z_831) (wm 10 87 rfl rfl) (wm 10 89 rfl rfl) (wm 0 189 rfl rfl) rfl rfl (by decide) rfl (wm 1 18 rfl rfl) (wm 10 90 rfl rfl) (by decide) hR (by decide) (n := 2) rfl rfl (Nat.le_of_ble_eq_true rfl) hl.1 dX12_turns_170 (fun μ1010 ρ d0 H locs hp G => ?_)
                obtain ⟨F_1011, hp_1012, hs_1013, hs_1014⟩ := hp
                refine lv_goto (tgt := 301) hx hb dX12_turns_173 (by decide) ?_
                exact xr_v G hret hlk dX12_turns_301 ⟨(FrM.tr FrM.rf F_1011 (by decide)), (fun j hj => (hp_1012 j (fun h9 => hj ((by decide : ∀ x ∈ ([98, 99] : List Int), x ∈ ([98, 99] : List Int)) j h9))))⟩
            · refine lv_dload hx hb dX12_turns_114 (lv_at hl 1 rfl) ?_
              refine lv_ldc2d (s := s.setDrawn d0) hx hb G.1.2.2.2.1 (dr_words G.1.2.2.2.2 d0 _ (wm 10 97 rfl rfl)) dX12_turns_116 ?_
              refine xb_topd (fun dd_1015 he_dd_1015 => ?_)
              refine lv_dcmp hx hb dX12_turns_119 ?_
              refine xb_topi (fun y_1016 hr_y_1016 he_y_1016 => ?_)
              have hr_y_1016 : -2147483648 ≤ y_1016 ∧ y_1016 ≤ 2147483647 := hr_y_1016
              refine xb_if_lt (tgt := 145) hx hb (by unfold ir; omega) dX12_turns_120 (by decide) (fun c_120 => ?_) (fun c_120 => ?_)
              · refine lv_iconst (v := iv 0) hx hb dX12_turns_145 rfl ?_
                refine lv_istore (lv' := [(10, .int (iv 0)), (8, .long (jv z_831)), (6, .double (dv r_554)), (0, .ref (oP ω 111)), (1, .int (iv x1)), (2, .int (iv x2)), (3, .int (iv x3)), (4, .long (jv x4))]) hx hb dX12_turns_146 hl (by decide) rfl (fun ls hl => ?_)
                refine lv_aload_n hx hb dX12_turns_148 rfl (lv_at hl 3 rfl) ?_
                refine lv_iload hx hb dX12_turns_149 (lv_at hl 0 rfl) ?_
                refine xb_if_eq (tgt := 167) hx hb (x := 0) (by unfold ir; omega) dX12_turns_151 (by decide) (fun c_151 => ?_) (fun c_151 => absurd (by decide) c_151)
                refine lv_iconst (v := iv 0) hx hb dX12_turns_167 rfl ?_
                refine lv_lload hx hb dX12_turns_168 (lv_at hl 1 rfl) ?_
                refine xc_vV G (b := 111) (rest := []) (As := [.int (iv 0), .long (jv z_831)]) (c_X12_turnsTo ω l μ 0 z_831 (by omega) hr_z_831) (wm 10 87 rfl rfl) (wm 10 89 rfl rfl) (wm 0 189 rfl rfl) rfl rfl (by decide) rfl (wm 1 18 rfl rfl) (wm 10 90 rfl rfl) (by decide) hR (by decide) (n := 2) rfl rfl (Nat.le_of_ble_eq_true rfl) hl.1 dX12_turns_170 (fun μ1017 ρ d0 H locs hp G => ?_)
                obtain ⟨F_1018, hp_1019, hs_1020, hs_1021⟩ := hp
                refine lv_goto (tgt := 301) hx hb dX12_turns_173 (by decide) ?_
                exact xr_v G hret hlk dX12_turns_301 ⟨(FrM.tr FrM.rf F_1018 (by decide)), (fun j hj => (hp_1019 j (fun h9 => hj ((by decide : ∀ x ∈ ([98, 99] : List Int), x ∈ ([98, 99] : List Int)) j h9))))⟩
              · refine lv_dload hx hb dX12_turns_123 (lv_at hl 1 rfl) ?_
                refine lv_ldc2d (s := s.setDrawn d0) hx hb G.1.2.2.2.1 (dr_words G.1.2.2.2.2 d0 _ (wm 10 98 rfl rfl)) dX12_turns_125 ?_
                refine xb_topd (fun dd_1022 he_dd_1022 => ?_)
                refine lv_dcmp hx hb dX12_turns_128 ?_
                refine xb_topi (fun y_1023 hr_y_1023 he_y_1023 => ?_)
                have hr_y_1023 : -2147483648 ≤ y_1023 ∧ y_1023 ≤ 2147483647 := hr_y_1023
                refine xb_if_ge (tgt := 145) hx hb (by unfold ir; omega) dX12_turns_129 (by decide) (fun c_129 => ?_) (fun c_129 => ?_)
                · refine lv_iconst (v := iv 0) hx hb dX12_turns_145 rfl ?_
                  refine lv_istore (lv' := [(10, .int (iv 0)), (8, .long (jv z_831)), (6, .double (dv r_554)), (0, .ref (oP ω 111)), (1, .int (iv x1)), (2, .int (iv x2)), (3, .int (iv x3)), (4, .long (jv x4))]) hx hb dX12_turns_146 hl (by decide) rfl (fun ls hl => ?_)
                  refine lv_aload_n hx hb dX12_turns_148 rfl (lv_at hl 3 rfl) ?_
                  refine lv_iload hx hb dX12_turns_149 (lv_at hl 0 rfl) ?_
                  refine xb_if_eq (tgt := 167) hx hb (x := 0) (by unfold ir; omega) dX12_turns_151 (by decide) (fun c_151 => ?_) (fun c_151 => absurd (by decide) c_151)
                  refine lv_iconst (v := iv 0) hx hb dX12_turns_167 rfl ?_
                  refine lv_lload hx hb dX12_turns_168 (lv_at hl 1 rfl) ?_
                  refine xc_vV G (b := 111) (rest := []) (As := [.int (iv 0), .long (jv z_831)]) (c_X12_turnsTo ω l μ 0 z_831 (by omega) hr_z_831) (wm 10 87 rfl rfl) (wm 10 89 rfl rfl) (wm 0 189 rfl rfl) rfl rfl (by decide) rfl (wm 1 18 rfl rfl) (wm 10 90 rfl rfl) (by decide) hR (by decide) (n := 2) rfl rfl (Nat.le_of_ble_eq_true rfl) hl.1 dX12_turns_170 (fun μ1024 ρ d0 H locs hp G => ?_)
                  obtain ⟨F_1025, hp_1026, hs_1027, hs_1028⟩ := hp
                  refine lv_goto (tgt := 301) hx hb dX12_turns_173 (by decide) ?_
                  exact xr_v G hret hlk dX12_turns_301 ⟨(FrM.tr FrM.rf F_1025 (by decide)), (fun j hj => (hp_1026 j (fun h9 => hj ((by decide : ∀ x ∈ ([98, 99] : List Int), x ∈ ([98, 99] : List Int)) j h9))))⟩
                · refine lv_lload hx hb dX12_turns_132 (lv_at hl 0 rfl) ?_
                  refine lv_l2d hx hb dX12_turns_134 ?_
                  refine xb_topd (fun dd_1029 he_dd_1029 => ?_)
                  refine lv_dload hx hb dX12_turns_135 (lv_at hl 1 rfl) ?_
                  refine lv_dcmp hx hb dX12_turns_137 ?_
                  refine xb_topi (fun y_1030 hr_y_1030 he_y_1030 => ?_)
                  have hr_y_1030 : -2147483648 ≤ y_1030 ∧ y_1030 ≤ 2147483647 := hr_y_1030
                  refine xb_if_ne (tgt := 145) hx hb (by unfold ir; omega) dX12_turns_138 (by decide) (fun c_138 => ?_) (fun c_138 => ?_)
                  · refine lv_iconst (v := iv 0) hx hb dX12_turns_145 rfl ?_
                    refine lv_istore (lv' := [(10, .int (iv 0)), (8, .long (jv z_831)), (6, .double (dv r_554)), (0, .ref (oP ω 111)), (1, .int (iv x1)), (2, .int (iv x2)), (3, .int (iv x3)), (4, .long (jv x4))]) hx hb dX12_turns_146 hl (by decide) rfl (fun ls hl => ?_)
                    refine lv_aload_n hx hb dX12_turns_148 rfl (lv_at hl 3 rfl) ?_
                    refine lv_iload hx hb dX12_turns_149 (lv_at hl 0 rfl) ?_
                    refine xb_if_eq (tgt := 167) hx hb (x := 0) (by unfold ir; omega) dX12_turns_151 (by decide) (fun c_151 => ?_) (fun c_151 => absurd (by decide) c_151)
                    refine lv_iconst (v := iv 0) hx hb dX12_turns_167 rfl ?_
                    refine lv_lload hx hb dX12_turns_168 (lv_at hl 1 rfl) ?_
                    refine xc_vV G (b := 111) (rest := []) (As := [.int (iv 0), .long (jv z_831)]) (c_X12_turnsTo ω l μ 0 z_831 (by omega) hr_z_831) (wm 10 87 rfl rfl) (wm 10 89 rfl rfl) (wm 0 189 rfl rfl) rfl rfl (by decide) rfl (wm 1 18 rfl rfl) (wm 10 90 rfl rfl) (by decide) hR (by decide) (n := 2) rfl rfl (Nat.le_of_ble_eq_true rfl) hl.1 dX12_turns_170 (fun μ1031 ρ d0 H locs hp G => ?_)
                    obtain ⟨F_1032, hp_1033, hs_1034, hs_1035⟩ := hp
                    refine lv_goto (tgt := 301) hx hb dX12_turns_173 (by decide) ?_
                    exact xr_v G hret hlk dX12_turns_301 ⟨(FrM.tr FrM.rf F_1032 (by decide)), (fun j hj => (hp_1033 j (fun h9 => hj ((by decide : ∀ x ∈ ([98, 99] : List Int), x ∈ ([98, 99] : List Int)) j h9))))⟩
                  · refine lv_iconst (v := iv 1) hx hb dX12_turns_141 rfl ?_
                    refine lv_goto (tgt := 146) hx hb dX12_turns_142 (by decide) ?_
                    refine lv_istore (lv' := [(10, .int (iv 1)), (8, .long (jv z_831)), (6, .double (dv r_554)), (0, .ref (oP ω 111)), (1, .int (iv x1)), (2, .int (iv x2)), (3, .int (iv x3)), (4, .long (jv x4))]) hx hb dX12_turns_146 hl (by decide) rfl (fun ls hl => ?_)
                    refine lv_aload_n hx hb dX12_turns_148 rfl (lv_at hl 3 rfl) ?_
                    refine lv_iload hx hb dX12_turns_149 (lv_at hl 0 rfl) ?_
                    refine xb_if_eq (tgt := 167) hx hb (x := 1) (by unfold ir; omega) dX12_turns_151 (by decide) (fun c_151 => absurd c_151 (by decide)) (fun c_151 => ?_)
                    refine lv_iload_n hx hb dX12_turns_154 rfl (lv_at hl 5 rfl) ?_
                    refine lv_lload hx hb dX12_turns_155 (lv_at hl 1 rfl) ?_
                    refine xc_iS G (rest := [.ref (oP ω 111)]) (As := [.int (iv x2), .long (jv z_831)]) (c_X12_has ω l μ x2 z_831 (by unfold ir; omega) hr_z_831) (wm 10 99 rfl rfl) (wm 10 100 rfl rfl) (wm 1 18 rfl rfl) (wm 10 101 rfl rfl) (by decide) hR (by decide) (n := 2) rfl rfl (Nat.le_of_ble_eq_true rfl) hl.1 dX12_turns_157 (fun r_1037 μ1036 ρ d0 H locs hr_r_1037 hp G => ?_)
                    have hr_r_1037 : -2147483648 ≤ r_1037 ∧ r_1037 ≤ 2147483647 := hr_r_1037
                    have hsm_1038 := hp
                    have hsm_1038 := Eq.symm hsm_1038
                    subst hsm_1038
                    refine xb_if_eq (tgt := 167) hx hb (by unfold ir; omega) dX12_turns_160 (by decide) (fun c_160 => ?_) (fun c_160 => ?_)
                    · refine lv_iconst (v := iv 0) hx hb dX12_turns_167 rfl ?_
                      refine lv_lload hx hb dX12_turns_168 (lv_at hl 1 rfl) ?_
                      refine xc_vV G (b := 111) (rest := []) (As := [.int (iv 0), .long (jv z_831)]) (c_X12_turnsTo ω l μ 0 z_831 (by omega) hr_z_831) (wm 10 87 rfl rfl) (wm 10 89 rfl rfl) (wm 0 189 rfl rfl) rfl rfl (by decide) rfl (wm 1 18 rfl rfl) (wm 10 90 rfl rfl) (by decide) hR (by decide) (n := 2) rfl rfl (Nat.le_of_ble_eq_true rfl) hl.1 dX12_turns_170 (fun μ1039 ρ d0 H locs hp G => ?_)
                      obtain ⟨F_1040, hp_1041, hs_1042, hs_1043⟩ := hp
                      refine lv_goto (tgt := 301) hx hb dX12_turns_173 (by decide) ?_
                      exact xr_v G hret hlk dX12_turns_301 ⟨(FrM.tr FrM.rf F_1040 (by decide)), (fun j hj => (hp_1041 j (fun h9 => hj ((by decide : ∀ x ∈ ([98, 99] : List Int), x ∈ ([98, 99] : List Int)) j h9))))⟩
                    · refine lv_iconst (v := iv 1) hx hb dX12_turns_163 rfl ?_
                      refine lv_goto (tgt := 168) hx hb dX12_turns_164 (by decide) ?_
                      refine lv_lload hx hb dX12_turns_168 (lv_at hl 1 rfl) ?_
                      refine xc_vV G (b := 111) (rest := []) (As := [.int (iv 1), .long (jv z_831)]) (c_X12_turnsTo ω l μ 1 z_831 (by omega) hr_z_831) (wm 10 87 rfl rfl) (wm 10 89 rfl rfl) (wm 0 189 rfl rfl) rfl rfl (by decide) rfl (wm 1 18 rfl rfl) (wm 10 90 rfl rfl) (by decide) hR (by decide) (n := 2) rfl rfl (Nat.le_of_ble_eq_true rfl) hl.1 dX12_turns_170 (fun μ1044 ρ d0 H locs hp G => ?_)
                      obtain ⟨F_1045, hp_1046, hs_1047, hs_1048⟩ := hp
                      refine lv_goto (tgt := 301) hx hb dX12_turns_173 (by decide) ?_
                      exact xr_v G hret hlk dX12_turns_301 ⟨(FrM.tr FrM.rf F_1045 (by decide)), (fun j hj => (hp_1046 j (fun h9 => hj ((by decide : ∀ x ∈ ([98, 99] : List Int), x ∈ ([98, 99] : List Int)) j h9))))⟩
        · refine lv_lload hx hb dX12_turns_49 (lv_at hl 0 rfl) ?_
          refine lv_l2d hx hb dX12_turns_51 ?_
          refine xb_topd (fun dd_1049 he_dd_1049 => ?_)
          refine lv_dstore (lv' := [(10, .double (dv dd_1049)), (8, .long (jv z_831)), (6, .double (dv r_554)), (0, .ref (oP ω 111)), (1, .int (iv x1)), (2, .int (iv x2)), (3, .int (iv x3)), (4, .long (jv x4))]) hx hb dX12_turns_52 hl (by decide) rfl (fun ls hl => ?_)
          refine lv_dload hx hb dX12_turns_54 (lv_at hl 0 rfl) ?_
          refine lv_d2l hx hb dX12_turns_56 ?_
          refine xb_topl (fun z_1050 hr_z_1050 he_z_1050 => ?_)
          refine lv_lload hx hb dX12_turns_57 (lv_at hl 1 rfl) ?_
          refine xb_lcmp hx hb hr_z_1050 hr_z_831 dX12_turns_59 ?_
          have hr_1051 : -2147483648 ≤ lcm z_1050 z_831 ∧ lcm z_1050 z_831 ≤ 2147483647 := lcm_ir _ _
          refine xb_if_ne (tgt := 76) hx hb (by unfold ir; omega) dX12_turns_60 (by decide) (fun c_60 => ?_) (fun c_60 => ?_)
          · refine lv_iconst (v := iv 0) hx hb dX12_turns_76 rfl ?_
            refine lv_istore (lv' := [(12, .int (iv 0)), (10, .double (dv dd_1049)), (8, .long (jv z_831)), (6, .double (dv r_554)), (0, .ref (oP ω 111)), (1, .int (iv x1)), (2, .int (iv x2)), (3, .int (iv x3)), (4, .long (jv x4))]) hx hb dX12_turns_77 hl (by decide) rfl (fun ls hl => ?_)
            refine lv_aload_n hx hb dX12_turns_79 rfl (lv_at hl 4 rfl) ?_
            refine lv_iload_n hx hb dX12_turns_80 rfl (lv_at hl 7 rfl) ?_
            refine xb_if_gt (tgt := 89) hx hb (by unfold ir; omega) dX12_turns_81 (by decide) (fun c_81 => ?_) (fun c_81 => ?_)
            · refine lv_iconst (v := iv 1) hx hb dX12_turns_89 rfl ?_
              refine lv_goto (tgt := 94) hx hb dX12_turns_90 (by decide) ?_
              refine lv_dload hx hb dX12_turns_94 (lv_at hl 1 rfl) ?_
              refine xc_lS G (rest := [.int (iv 1), .ref (oP ω 111)]) (As := [.double (dv dd_1049)]) (c_Jxe99ae_doubleToLongBits_ccdee ω l μ dd_1049 ) (wm 9 44 rfl rfl) (wm 9 45 rfl rfl) (wm 1 23 rfl rfl) (wm 9 46 rfl rfl) (by decide) hR (by decide) (n := 1) rfl rfl (Nat.le_of_ble_eq_true rfl) hl.1 dX12_turns_96 (fun r_1053 μ1052 ρ d0 H locs hr_r_1053 hp G => ?_)
              obtain ⟨hsm_1054, hp_1055⟩ := hp
              have hsm_1054 := Eq.symm hsm_1054
              subst hsm_1054
              refine xc_vV G (b := 111) (rest := []) (As := [.int (iv 1), .long (jv r_1053)]) (c_X12_turnsTo ω l μ 1 r_1053 (by omega) hr_r_1053) (wm 10 87 rfl rfl) (wm 10 89 rfl rfl) (wm 0 189 rfl rfl) rfl rfl (by decide) rfl (wm 1 18 rfl rfl) (wm 10 90 rfl rfl) (by decide) hR (by decide) (n := 2) rfl rfl (Nat.le_of_ble_eq_true rfl) hl.1 dX12_turns_99 (fun μ1056 ρ d0 H locs hp G => ?_)
              obtain ⟨F_1057, hp_1058, hs_1059, hs_1060⟩ := hp
              refine lv_goto (tgt := 301) hx hb dX12_turns_102 (by decide) ?_
              exact xr_v G hret hlk dX12_turns_301 ⟨(FrM.tr FrM.rf F_1057 (by decide)), (fun j hj => (hp_1058 j (fun h9 => hj ((by decide : ∀ x ∈ ([98, 99] : List Int), x ∈ ([98, 99] : List Int)) j h9))))⟩
            · refine lv_iload hx hb dX12_turns_84 (lv_at hl 0 rfl) ?_
              refine xb_if_eq (tgt := 93) hx hb (x := 0) (by unfold ir; omega) dX12_turns_86 (by decide) (fun c_86 => ?_) (fun c_86 => absurd (by decide) c_86)
              refine lv_iconst (v := iv 0) hx hb dX12_turns_93 rfl ?_
              refine lv_dload hx hb dX12_turns_94 (lv_at hl 1 rfl) ?_
              refine xc_lS G (rest := [.int (iv 0), .ref (oP ω 111)]) (As := [.double (dv dd_1049)]) (c_Jxe99ae_doubleToLongBits_ccdee ω l μ dd_1049 ) (wm 9 44 rfl rfl) (wm 9 45 rfl rfl) (wm 1 23 rfl rfl) (wm 9 46 rfl rfl) (by decide) hR (by decide) (n := 1) rfl rfl (Nat.le_of_ble_eq_true rfl) hl.1 dX12_turns_96 (fun r_1062 μ1061 ρ d0 H locs hr_r_1062 hp G => ?_)
              obtain ⟨hsm_1063, hp_1064⟩ := hp
              have hsm_1063 := Eq.symm hsm_1063
              subst hsm_1063
              refine xc_vV G (b := 111) (rest := []) (As := [.int (iv 0), .long (jv r_1062)]) (c_X12_turnsTo ω l μ 0 r_1062 (by omega) hr_r_1062) (wm 10 87 rfl rfl) (wm 10 89 rfl rfl) (wm 0 189 rfl rfl) rfl rfl (by decide) rfl (wm 1 18 rfl rfl) (wm 10 90 rfl rfl) (by decide) hR (by decide) (n := 2) rfl rfl (Nat.le_of_ble_eq_true rfl) hl.1 dX12_turns_99 (fun μ1065 ρ d0 H locs hp G => ?_)
              obtain ⟨F_1066, hp_1067, hs_1068, hs_1069⟩ := hp
              refine lv_goto (tgt := 301) hx hb dX12_turns_102 (by decide) ?_
              exact xr_v G hret hlk dX12_turns_301 ⟨(FrM.tr FrM.rf F_1066 (by decide)), (fun j hj => (hp_1067 j (fun h9 => hj ((by decide : ∀ x ∈ ([98, 99] : List Int), x ∈ ([98, 99] : List Int)) j h9))))⟩
          · refine lv_lload hx hb dX12_turns_63 (lv_at hl 1 rfl) ?_
            refine lv_ldc2 (s := s.setDrawn d0) hx hb G.1.2.2.2.1 (dr_words G.1.2.2.2.2 d0 _ (wm 9 34 rfl rfl)) dX12_turns_65 ?_
            refine xb_litl (x := 9223372036854775807) (by decide) ?_
            refine xb_lcmp hx hb hr_z_831 (by unfold jr; omega) dX12_turns_68 ?_
            have hr_1070 : -2147483648 ≤ lcm z_831 9223372036854775807 ∧ lcm z_831 9223372036854775807 ≤ 2147483647 := lcm_ir _ _
            refine xb_if_eq (tgt := 76) hx hb (by unfold ir; omega) dX12_turns_69 (by decide) (fun c_69 => ?_) (fun c_69 => ?_)
            · refine lv_iconst (v := iv 0) hx hb dX12_turns_76 rfl ?_
              refine lv_istore (lv' := [(12, .int (iv 0)), (10, .double (dv dd_1049)), (8, .long (jv z_831)), (6, .double (dv r_554)), (0, .ref (oP ω 111)), (1, .int (iv x1)), (2, .int (iv x2)), (3, .int (iv x3)), (4, .long (jv x4))]) hx hb dX12_turns_77 hl (by decide) rfl (fun ls hl => ?_)
              refine lv_aload_n hx hb dX12_turns_79 rfl (lv_at hl 4 rfl) ?_
              refine lv_iload_n hx hb dX12_turns_80 rfl (lv_at hl 7 rfl) ?_
              refine xb_if_gt (tgt := 89) hx hb (by unfold ir; omega) dX12_turns_81 (by decide) (fun c_81 => ?_) (fun c_81 => ?_)
              · refine lv_iconst (v := iv 1) hx hb dX12_turns_89 rfl ?_
                refine lv_goto (tgt := 94) hx hb dX12_turns_90 (by decide) ?_
                refine lv_dload hx hb dX12_turns_94 (lv_at hl 1 rfl) ?_
                refine xc_lS G (rest := [.int (iv 1), .ref (oP ω 111)]) (As := [.double (dv dd_1049)]) (c_Jxe99ae_doubleToLongBits_ccdee ω l μ dd_1049 ) (wm 9 44 rfl rfl) (wm 9 45 rfl rfl) (wm 1 23 rfl rfl) (wm 9 46 rfl rfl) (by decide) hR (by decide) (n := 1) rfl rfl (Nat.le_of_ble_eq_true rfl) hl.1 dX12_turns_96 (fun r_1072 μ1071 ρ d0 H locs hr_r_1072 hp G => ?_)
                obtain ⟨hsm_1073, hp_1074⟩ := hp
                have hsm_1073 := Eq.symm hsm_1073
                subst hsm_1073
                refine xc_vV G (b := 111) (rest := []) (As := [.int (iv 1), .long (jv r_1072)]) (c_X12_turnsTo ω l μ 1 r_1072 (by omega) hr_r_1072) (wm 10 87 rfl rfl) (wm 10 89 rfl rfl) (wm 0 189 rfl rfl) rfl rfl (by decide) rfl (wm 1 18 rfl rfl) (wm 10 90 rfl rfl) (by decide) hR (by decide) (n := 2) rfl rfl (Nat.le_of_ble_eq_true rfl) hl.1 dX12_turns_99 (fun μ1075 ρ d0 H locs hp G => ?_)
                obtain ⟨F_1076, hp_1077, hs_1078, hs_1079⟩ := hp
                refine lv_goto (tgt := 301) hx hb dX12_turns_102 (by decide) ?_
                exact xr_v G hret hlk dX12_turns_301 ⟨(FrM.tr FrM.rf F_1076 (by decide)), (fun j hj => (hp_1077 j (fun h9 => hj ((by decide : ∀ x ∈ ([98, 99] : List Int), x ∈ ([98, 99] : List Int)) j h9))))⟩
              · refine lv_iload hx hb dX12_turns_84 (lv_at hl 0 rfl) ?_
                refine xb_if_eq (tgt := 93) hx hb (x := 0) (by unfold ir; omega) dX12_turns_86 (by decide) (fun c_86 => ?_) (fun c_86 => absurd (by decide) c_86)
                refine lv_iconst (v := iv 0) hx hb dX12_turns_93 rfl ?_
                refine lv_dload hx hb dX12_turns_94 (lv_at hl 1 rfl) ?_
                refine xc_lS G (rest := [.int (iv 0), .ref (oP ω 111)]) (As := [.double (dv dd_1049)]) (c_Jxe99ae_doubleToLongBits_ccdee ω l μ dd_1049 ) (wm 9 44 rfl rfl) (wm 9 45 rfl rfl) (wm 1 23 rfl rfl) (wm 9 46 rfl rfl) (by decide) hR (by decide) (n := 1) rfl rfl (Nat.le_of_ble_eq_true rfl) hl.1 dX12_turns_96 (fun r_1081 μ1080 ρ d0 H locs hr_r_1081 hp G => ?_)
                obtain ⟨hsm_1082, hp_1083⟩ := hp
                have hsm_1082 := Eq.symm hsm_1082
                subst hsm_1082
                refine xc_vV G (b := 111) (rest := []) (As := [.int (iv 0), .long (jv r_1081)]) (c_X12_turnsTo ω l μ 0 r_1081 (by omega) hr_r_1081) (wm 10 87 rfl rfl) (wm 10 89 rfl rfl) (wm 0 189 rfl rfl) rfl rfl (by decide) rfl (wm 1 18 rfl rfl) (wm 10 90 rfl rfl) (by decide) hR (by decide) (n := 2) rfl rfl (Nat.le_of_ble_eq_true rfl) hl.1 dX12_turns_99 (fun μ1084 ρ d0 H locs hp G => ?_)
                obtain ⟨F_1085, hp_1086, hs_1087, hs_1088⟩ := hp
                refine lv_goto (tgt := 301) hx hb dX12_turns_102 (by decide) ?_
                exact xr_v G hret hlk dX12_turns_301 ⟨(FrM.tr FrM.rf F_1085 (by decide)), (fun j hj => (hp_1086 j (fun h9 => hj ((by decide : ∀ x ∈ ([98, 99] : List Int), x ∈ ([98, 99] : List Int)) j h9))))⟩
            · refine lv_iconst (v := iv 1) hx hb dX12_turns_72 rfl ?_
              refine lv_goto (tgt := 77) hx hb dX12_turns_73 (by decide) ?_
              refine lv_istore (lv' := [(12, .int (iv 1)), (10, .double (dv dd_1049)), (8, .long (jv z_831)), (6, .double (dv r_554)), (0, .ref (oP ω 111)), (1, .int (iv x1)), (2, .int (iv x2)), (3, .int (iv x3)), (4, .long (jv x4))]) hx hb dX12_turns_77 hl (by decide) rfl (fun ls hl => ?_)
              refine lv_aload_n hx hb dX12_turns_79 rfl (lv_at hl 4 rfl) ?_
              refine lv_iload_n hx hb dX12_turns_80 rfl (lv_at hl 7 rfl) ?_
              refine xb_if_gt (tgt := 89) hx hb (by unfold ir; omega) dX12_turns_81 (by decide) (fun c_81 => ?_) (fun c_81 => ?_)
              · refine lv_iconst (v := iv 1) hx hb dX12_turns_89 rfl ?_
                refine lv_goto (tgt := 94) hx hb dX12_turns_90 (by decide) ?_
                refine lv_dload hx hb dX12_turns_94 (lv_at hl 1 rfl) ?_
                refine xc_lS G (rest := [.int (iv 1), .ref (oP ω 111)]) (As := [.double (dv dd_1049)]) (c_Jxe99ae_doubleToLongBits_ccdee ω l μ dd_1049 ) (wm 9 44 rfl rfl) (wm 9 45 rfl rfl) (wm 1 23 rfl rfl) (wm 9 46 rfl rfl) (by decide) hR (by decide) (n := 1) rfl rfl (Nat.le_of_ble_eq_true rfl) hl.1 dX12_turns_96 (fun r_1090 μ1089 ρ d0 H locs hr_r_1090 hp G => ?_)
                obtain ⟨hsm_1091, hp_1092⟩ := hp
                have hsm_1091 := Eq.symm hsm_1091
                subst hsm_1091
                refine xc_vV G (b := 111) (rest := []) (As := [.int (iv 1), .long (jv r_1090)]) (c_X12_turnsTo ω l μ 1 r_1090 (by omega) hr_r_1090) (wm 10 87 rfl rfl) (wm 10 89 rfl rfl) (wm 0 189 rfl rfl) rfl rfl (by decide) rfl (wm 1 18 rfl rfl) (wm 10 90 rfl rfl) (by decide) hR (by decide) (n := 2) rfl rfl (Nat.le_of_ble_eq_true rfl) hl.1 dX12_turns_99 (fun μ1093 ρ d0 H locs hp G => ?_)
                obtain ⟨F_1094, hp_1095, hs_1096, hs_1097⟩ := hp
                refine lv_goto (tgt := 301) hx hb dX12_turns_102 (by decide) ?_
                exact xr_v G hret hlk dX12_turns_301 ⟨(FrM.tr FrM.rf F_1094 (by decide)), (fun j hj => (hp_1095 j (fun h9 => hj ((by decide : ∀ x ∈ ([98, 99] : List Int), x ∈ ([98, 99] : List Int)) j h9))))⟩
              · refine lv_iload hx hb dX12_turns_84 (lv_at hl 0 rfl) ?_
                refine xb_if_eq (tgt := 93) hx hb (x := 1) (by unfold ir; omega) dX12_turns_86 (by decide) (fun c_86 => absurd c_86 (by decide)) (fun c_86 => ?_)
                refine lv_iconst (v := iv 1) hx hb dX12_turns_89 rfl ?_
                refine lv_goto (tgt := 94) hx hb dX12_turns_90 (by decide) ?_
                refine lv_dload hx hb dX12_turns_94 (lv_at hl 1 rfl) ?_
                refine xc_lS G (rest := [.int (iv 1), .ref (oP ω 111)]) (As := [.double (dv dd_1049)]) (c_Jxe99ae_doubleToLongBits_ccdee ω l μ dd_1049 ) (wm 9 44 rfl rfl) (wm 9 45 rfl rfl) (wm 1 23 rfl rfl) (wm 9 46 rfl rfl) (by decide) hR (by decide) (n := 1) rfl rfl (Nat.le_of_ble_eq_true rfl) hl.1 dX12_turns_96 (fun r_1099 μ1098 ρ d0 H locs hr_r_1099 hp G => ?_)
                obtain ⟨hsm_1100, hp_1101⟩ := hp
                have hsm_1100 := Eq.symm hsm_1100
                subst hsm_1100
                refine xc_vV G (b := 111) (rest := []) (As := [.int (iv 1), .long (jv r_1099)]) (c_X12_turnsTo ω l μ 1 r_1099 (by omega) hr_r_1099) (wm 10 87 rfl rfl) (wm 10 89 rfl rfl) (wm 0 189 rfl rfl) rfl rfl (by decide) rfl (wm 1 18 rfl rfl) (wm 10 90 rfl rfl) (by decide) hR (by decide) (n := 2) rfl rfl (Nat.le_of_ble_eq_true rfl) hl.1 dX12_turns_99 (fun μ1102 ρ d0 H locs hp G => ?_)
                obtain ⟨F_1103, hp_1104, hs_1105, hs_1106⟩ := hp
                refine lv_goto (tgt := 301) hx hb dX12_turns_102 (by decide) ?_
                exact xr_v G hret hlk dX12_turns_301 ⟨(FrM.tr FrM.rf F_1103 (by decide)), (fun j hj => (hp_1104 j (fun h9 => hj ((by decide : ∀ x ∈ ([98, 99] : List Int), x ∈ ([98, 99] : List Int)) j h9))))⟩
  · refine lv_aload_n hx hb dX12_turns_5 rfl (lv_at hl 0 rfl) ?_
    refine lv_iconst (v := iv 1) hx hb dX12_turns_6 rfl ?_
    refine lv_lload hx hb dX12_turns_7 (lv_at hl 4 rfl) ?_
    refine xc_vV G (b := 111) (rest := []) (As := [.int (iv 1), .long (jv x4)]) (c_X12_turnsTo ω l μ 1 x4 (by omega) hx4) (wm 10 87 rfl rfl) (wm 10 89 rfl rfl) (wm 0 189 rfl rfl) rfl rfl (by decide) rfl (wm 1 18 rfl rfl) (wm 10 90 rfl rfl) (by decide) hR (by decide) (n := 2) rfl rfl (Nat.le_of_ble_eq_true rfl) hl.1 dX12_turns_9 (fun μ1107 ρ d0 H locs hp G => ?_)
    obtain ⟨F_1108, hp_1109, hs_1110, hs_1111⟩ := hp
    exact xr_v G hret hlk dX12_turns_12 ⟨(FrM.tr FrM.rf F_1108 (by decide)), (fun j hj => (hp_1109 j (fun h9 => hj ((by decide : ∀ x ∈ ([98, 99] : List Int), x ∈ ([98, 99] : List Int)) j h9))))⟩

set_option maxHeartbeats 4000000 in
set_option maxRecDepth 100000 in
theorem c_X12_turnsValue (ω : Om) (l : Launch) (μ : M3) (x1 : Int) (x2 : Int) (x3 : Int) (x4 : Int) (hx1 : ir x1) (hx2 : ir x2) (hx3 : ir x3) (hx4 : jr x4) (ht1 : 0 ≤ x1 ∧ x1 ≤ 3) (ht2 : 0 ≤ x2 ∧ x2 ≤ 3) : CtV ω l yX12_turnsValue cX12_turnsValue 6 3 94 [.ref (oP ω 111), .int (iv x1), .int (iv x2), .int (iv x3), .long (jv x4)] μ (fun (μ' : M3) => (FrM [111] μ μ') ∧ (∀ j, j ∉ ([98, 99] : List Int) → μ'.1 111 j = μ.1 111 j) ∧ (x3 ≠ 1 → μ'.1 111 98 = 1 ∧ μ'.1 111 99 = x4)) := by
  refine CtV.go (by decide) (Nat.le_of_ble_eq_true rfl) (fun ρ p e s m below meth c R ls G hR hret hlk hl => ?_)
  have hx := G.1.1
  have hb := G.1.2.1
  have hl : lv_has ls 6 [(0, .ref (oP ω 111)), (1, .int (iv x1)), (2, .int (iv x2)), (3, .int (iv x3)), (4, .long (jv x4))] := hl
  generalize s.drawn = d0 at G ⊢
  have hr_x1 : -2147483648 ≤ x1 ∧ x1 ≤ 2147483647 := hx1
  have hr_x2 : -2147483648 ≤ x2 ∧ x2 ≤ 2147483647 := hx2
  have hr_x3 : -2147483648 ≤ x3 ∧ x3 ≤ 2147483647 := hx3
  refine lv_iload_n hx hb dX12_turnsValue_0 rfl (lv_at hl 3 rfl) ?_
  refine lv_iconst (v := iv 1) hx hb dX12_turnsValue_1 rfl ?_
  refine xb_icmp_ne (tgt := 26) hx hb (by unfold ir; omega) (by unfold ir; omega) dX12_turnsValue_2 (by decide) (fun c_2 => ?_) (fun c_2 => ?_)
  · refine lv_aload_n hx hb dX12_turnsValue_26 rfl (lv_at hl 0 rfl) ?_
    refine lv_iconst (v := iv 1) hx hb dX12_turnsValue_27 rfl ?_
    refine lv_lload hx hb dX12_turnsValue_28 (lv_at hl 4 rfl) ?_
    refine xc_vV G (b := 111) (rest := []) (As := [.int (iv 1), .long (jv x4)]) (c_X12_turnsTo ω l μ 1 x4 (by omega) hx4) (wm 10 87 rfl rfl) (wm 10 89 rfl rfl) (wm 0 189 rfl rfl) rfl rfl (by decide) rfl (wm 1 18 rfl rfl) (wm 10 90 rfl rfl) (by decide) hR (by decide) (n := 2) rfl rfl (Nat.le_of_ble_eq_true rfl) hl.1 dX12_turnsValue_30 (fun μ1 ρ d0 H locs hp G => ?_)
    obtain ⟨F_2, hp_3, hs_4, hs_5⟩ := hp
    exact xr_v G hret hlk dX12_turnsValue_33 ⟨(FrM.tr FrM.rf F_2 (by decide)), (fun j hj => (hp_3 j (fun h9 => hj ((by decide : ∀ x ∈ ([98, 99] : List Int), x ∈ ([98, 99] : List Int)) j h9)))), (fun _ => ⟨hs_4, hs_5⟩)⟩
  · refine lv_aload_n hx hb dX12_turnsValue_5 rfl (lv_at hl 0 rfl) ?_
    refine lv_iload_n hx hb dX12_turnsValue_6 rfl (lv_at hl 1 rfl) ?_
    refine lv_iload_n hx hb dX12_turnsValue_7 rfl (lv_at hl 2 rfl) ?_
    refine lv_aload_n hx hb dX12_turnsValue_8 rfl (lv_at hl 0 rfl) ?_
    refine xa_getr G fd_X12 (a := 111) (x := 162) 100 rfl (by decide) rfl (wm 8 9 rfl rfl) ⟨rfl, rfl, rfl⟩ dX12_turnsValue_9 rfl (G.sk 160 rfl) (by decide) rfl ?_
    refine lv_iconst (v := iv 4) hx hb dX12_turnsValue_12 rfl ?_
    refine lv_iload_n hx hb dX12_turnsValue_13 rfl (lv_at hl 1 rfl) ?_
    refine xb_imul hx hb dX12_turnsValue_14 ?_
    refine lv_iload_n hx hb dX12_turnsValue_15 rfl (lv_at hl 2 rfl) ?_
    refine xb_iadd hx hb dX12_turnsValue_16 ?_
    refine xa_iald G (a := 162) (i := (4 * x1) + x2) rfl (by have h9 := G.lc (a := 162) (n := 16) 100 rfl; omega) dX12_turnsValue_17 rfl ?_
    have hr_6 : -2147483648 ≤ μ.1 162 ((4 * x1) + x2) ∧ μ.1 162 ((4 * x1) + x2) ≤ 2147483647 := by have h9 := G.hr (a := 162) (k := (4 * x1) + x2) rfl; exact h9
    refine lv_lload hx hb dX12_turnsValue_18 (lv_at hl 4 rfl) ?_
    refine xc_vV G (b := 111) (rest := []) (As := [.int (iv x1), .int (iv x2), .int (iv (μ.1 162 ((4 * x1) + x2))), .long (jv x4)]) (c_X12_turns ω l μ x1 x2 (μ.1 162 ((4 * x1) + x2)) x4 (by unfold ir; omega) (by unfold ir; omega) (by unfold ir; omega) hx4) (wm 10 83 rfl rfl) (wm 10 85 rfl rfl) (wm 0 188 rfl rfl) rfl rfl (by decide) rfl (wm 1 18 rfl rfl) (wm 10 86 rfl rfl) (by decide) hR (by decide) (n := 4) rfl rfl (Nat.le_of_ble_eq_true rfl) hl.1 dX12_turnsValue_20 (fun μ7 ρ d0 H locs hp G => ?_)
    obtain ⟨F_8, hp_9⟩ := hp
    refine lv_goto (tgt := 33) hx hb dX12_turnsValue_23 (by decide) ?_
    exact xr_v G hret hlk dX12_turnsValue_33 ⟨(FrM.tr FrM.rf F_8 (by decide)), (fun j hj => (hp_9 j (fun h9 => hj ((by decide : ∀ x ∈ ([98, 99] : List Int), x ∈ ([98, 99] : List Int)) j h9)))), (fun h9 => ⟨by omega, by omega⟩)⟩

set_option maxHeartbeats 4000000 in
set_option maxRecDepth 100000 in
theorem c_X12_canFail (ω : Om) (l : Launch) (μ : M3) (x1 : Int) (x2 : Int) (hx1 : ir x1) (hx2 : ir x2) : CtI ω l yX12_canFail cX12_canFail 3 .boolean 0 0 [.ref (oP ω 111), .int (iv x1), .int (iv x2)] μ (fun (r : Int) (μ' : M3) => (μ' = μ) ∧ (x1 ≠ 1 → r = 1 → 1 ≤ x2 ∧ x2 < μ.1 111 4)) := by
  refine CtI.go (by decide) (Nat.le_of_ble_eq_true rfl) (fun ρ p e s m below meth c R ls G hR hret hlk hl => ?_)
  have hx := G.1.1
  have hb := G.1.2.1
  have hl : lv_has ls 3 [(0, .ref (oP ω 111)), (1, .int (iv x1)), (2, .int (iv x2))] := hl
  generalize s.drawn = d0 at G ⊢
  have hr_x1 : -2147483648 ≤ x1 ∧ x1 ≤ 2147483647 := hx1
  have hr_x2 : -2147483648 ≤ x2 ∧ x2 ≤ 2147483647 := hx2
  refine lv_iload_n hx hb dX12_canFail_0 rfl (lv_at hl 1 rfl) ?_
  refine lv_iconst (v := iv 1) hx hb dX12_canFail_1 rfl ?_
  refine xb_icmp_ne (tgt := 17) hx hb (by unfold ir; omega) (by unfold ir; omega) dX12_canFail_2 (by decide) (fun c_2 => ?_) (fun c_2 => ?_)
  · refine lv_iload_n hx hb dX12_canFail_17 rfl (lv_at hl 2 rfl) ?_
    refine lv_iconst (v := iv 1) hx hb dX12_canFail_18 rfl ?_
    refine xb_icmp_lt (tgt := 34) hx hb (by unfold ir; omega) (by unfold ir; omega) dX12_canFail_19 (by decide) (fun c_19 => ?_) (fun c_19 => ?_)
    · refine lv_iconst (v := iv 0) hx hb dX12_canFail_34 rfl ?_
      exact xr_i G (x := 0) hret hlk (by unfold ir; omega) (zr (by omega)) dX12_canFail_35 ⟨rfl, (by omega)⟩
    · refine lv_iload_n hx hb dX12_canFail_22 rfl (lv_at hl 2 rfl) ?_
      refine lv_aload_n hx hb dX12_canFail_23 rfl (lv_at hl 0 rfl) ?_
      refine xa_geti G fd_X12 (a := 111) (x := μ.1 111 4) 4 rfl (by decide) rfl (wm 7 153 rfl rfl) ⟨rfl, rfl, rfl⟩ dX12_canFail_24 rfl rfl ?_
      have hr_1 : -2147483648 ≤ μ.1 111 4 ∧ μ.1 111 4 ≤ 2147483647 := by have h9 := G.hr (a := 111) (k := 4) rfl; exact h9
      refine xb_icmp_ge (tgt := 34) hx hb (by unfold ir; omega) (by unfold ir; omega) dX12_canFail_27 (by decide) (fun c_27 => ?_) (fun c_27 => ?_)
      · refine lv_iconst (v := iv 0) hx hb dX12_canFail_34 rfl ?_
        exact xr_i G (x := 0) hret hlk (by unfold ir; omega) (zr (by omega)) dX12_canFail_35 ⟨rfl, (by omega)⟩
      · refine lv_iconst (v := iv 1) hx hb dX12_canFail_30 rfl ?_
        refine lv_goto (tgt := 35) hx hb dX12_canFail_31 (by decide) ?_
        exact xr_i G (x := 1) hret hlk (by unfold ir; omega) (zr (by omega)) dX12_canFail_35 ⟨rfl, (by omega)⟩
  · refine lv_iload_n hx hb dX12_canFail_5 rfl (lv_at hl 2 rfl) ?_
    refine xb_if_eq (tgt := 13) hx hb (by unfold ir; omega) dX12_canFail_6 (by decide) (fun c_6 => ?_) (fun c_6 => ?_)
    · refine lv_iconst (v := iv 0) hx hb dX12_canFail_13 rfl ?_
      refine lv_goto (tgt := 35) hx hb dX12_canFail_14 (by decide) ?_
      exact xr_i G (x := 0) hret hlk (by unfold ir; omega) (zr (by omega)) dX12_canFail_35 ⟨rfl, (by omega)⟩
    · refine lv_iconst (v := iv 1) hx hb dX12_canFail_9 rfl ?_
      refine lv_goto (tgt := 35) hx hb dX12_canFail_10 (by decide) ?_
      exact xr_i G (x := 1) hret hlk (by unfold ir; omega) (zr (by omega)) dX12_canFail_35 ⟨rfl, (by omega)⟩

set_option maxHeartbeats 4000000 in
set_option maxRecDepth 100000 in
theorem c_X12_entryOf (ω : Om) (l : Launch) (μ : M3) (x1 : Int) (x2 : Int) (hx1 : ir x1) (hx2 : ir x2) (h104 : 0 ≤ μ.1 111 104 ∧ μ.1 111 104 ≤ 100) : CtI ω l yX12_entryOf cX12_entryOf 4 .int 0 0 [.ref (oP ω 111), .int (iv x1), .int (iv x2)] μ (fun (r : Int) (μ' : M3) => (μ' = μ) ∧ (∀ _ : Unit, r = -1 ∨ (0 ≤ r ∧ r < μ.1 111 104 ∧ μ.1 163 r = x1))) := by
  refine CtI.go (by decide) (Nat.le_of_ble_eq_true rfl) (fun ρ p e s m below meth c R ls G hR hret hlk hl => ?_)
  have hx := G.1.1
  have hb := G.1.2.1
  have hl : lv_has ls 4 [(0, .ref (oP ω 111)), (1, .int (iv x1)), (2, .int (iv x2))] := hl
  generalize s.drawn = d0 at G ⊢
  have hr_x1 : -2147483648 ≤ x1 ∧ x1 ≤ 2147483647 := hx1
  have hr_x2 : -2147483648 ≤ x2 ∧ x2 ≤ 2147483647 := hx2
  refine lv_iconst (v := iv 0) hx hb dX12_entryOf_0 rfl ?_
  refine lv_istore_n (lv' := [(3, .int (iv 0)), (0, .ref (oP ω 111)), (1, .int (iv x1)), (2, .int (iv x2))]) hx hb dX12_entryOf_1 rfl hl (by decide) rfl (fun ls hl => ?_)
  refine xl (fun n_9 μ' ls => ∃ (k9 : Int), (μ' = μ) ∧ (-2147483648 ≤ k9 ∧ k9 ≤ 2147483647) ∧ (0 ≤ k9 ∧ k9 ≤ 100) ∧ n_9 = Int.toNat (100 - k9) ∧ lv_has ls 4 [(3, .int (iv k9)), (0, .ref (oP ω 111)), (1, .int (iv x1)), (2, .int (iv x2))]) (fun n_9 ρ μL1 d0 H locs ls hI_l G ih => ?_) _ _ _ _ _ _ _ ⟨0, rfl, (by omega), (by omega), rfl, lv_sub hl [0, 1, 2, 3] rfl⟩ G
  obtain ⟨k9, FL2, hi_4, hi_5, hn3, hl⟩ := hI_l
  have FL2 := Eq.symm FL2
  subst FL2
  refine lv_iload_n hx hb dX12_entryOf_2 rfl (lv_at hl 0 rfl) ?_
  refine lv_aload_n hx hb dX12_entryOf_3 rfl (lv_at hl 1 rfl) ?_
  refine xa_geti G fd_X12 (a := 111) (x := μ.1 111 104) 104 rfl (by decide) rfl (wm 8 13 rfl rfl) ⟨rfl, rfl, rfl⟩ dX12_entryOf_4 rfl rfl ?_
  have hr_6 : -2147483648 ≤ μ.1 111 104 ∧ μ.1 111 104 ≤ 2147483647 := by have h9 := G.hr (a := 111) (k := 104) rfl; exact h9
  refine xb_icmp_ge (tgt := 38) hx hb (by unfold ir; omega) (by unfold ir; omega) dX12_entryOf_7 (by decide) (fun c_7 => ?_) (fun c_7 => ?_)
  · refine lv_iconst (v := iv (-1)) hx hb dX12_entryOf_38 rfl ?_
    exact xr_i G (x := (-1)) hret hlk (by unfold ir; omega) rfl dX12_entryOf_39 ⟨rfl, (fun _ => Or.inl rfl)⟩
  · refine lv_aload_n hx hb dX12_entryOf_10 rfl (lv_at hl 1 rfl) ?_
    refine xa_getr G fd_X12 (a := 111) (x := 163) 101 rfl (by decide) rfl (wm 8 10 rfl rfl) ⟨rfl, rfl, rfl⟩ dX12_entryOf_11 rfl (G.sk 161 rfl) (by decide) rfl ?_
    refine lv_iload_n hx hb dX12_entryOf_14 rfl (lv_at hl 0 rfl) ?_
    refine xa_iald G (a := 163) (i := k9) rfl (by have h9 := G.lc (a := 163) (n := 100) 101 rfl; omega) dX12_entryOf_15 rfl ?_
    have hr_7 : -2147483648 ≤ μ.1 163 k9 ∧ μ.1 163 k9 ≤ 2147483647 := by have h9 := G.hr (a := 163) (k := k9) rfl; exact h9
    refine lv_iload_n hx hb dX12_entryOf_16 rfl (lv_at hl 2 rfl) ?_
    refine xb_icmp_ne (tgt := 32) hx hb (by unfold ir; omega) (by unfold ir; omega) dX12_entryOf_17 (by decide) (fun c_17 => ?_) (fun c_17 => ?_)
    · refine lv_iinc (v := iv (k9 + 1)) (lv' := [(3, .int (iv (k9 + 1))), (0, .ref (oP ω 111)), (1, .int (iv x1)), (2, .int (iv x2))]) hx hb dX12_entryOf_32 hl (k := 0) rfl (by rw [show Int32.ofInt 1 = iv 1 from rfl, iv_add]) (by decide) rfl (fun ls hl => ?_)
      refine lv_goto (tgt := 2) hx hb dX12_entryOf_35 (by decide) ?_
      exact ih _ _ _ _ _ _ _ (by omega) ⟨k9 + 1, rfl, (by omega), (by omega), rfl, lv_sub hl [0, 1, 2, 3] rfl⟩ G
    · refine lv_aload_n hx hb dX12_entryOf_20 rfl (lv_at hl 1 rfl) ?_
      refine xa_getr G fd_X12 (a := 111) (x := 164) 102 rfl (by decide) rfl (wm 8 11 rfl rfl) ⟨rfl, rfl, rfl⟩ dX12_entryOf_21 rfl (G.sk 162 rfl) (by decide) rfl ?_
      refine lv_iload_n hx hb dX12_entryOf_24 rfl (lv_at hl 0 rfl) ?_
      refine xa_iald G (a := 164) (i := k9) rfl (by have h9 := G.lc (a := 164) (n := 100) 102 rfl; omega) dX12_entryOf_25 rfl ?_
      have hr_8 : -2147483648 ≤ μ.1 164 k9 ∧ μ.1 164 k9 ≤ 2147483647 := by have h9 := G.hr (a := 164) (k := k9) rfl; exact h9
      refine lv_iload_n hx hb dX12_entryOf_26 rfl (lv_at hl 3 rfl) ?_
      refine xb_icmp_ne (tgt := 32) hx hb (by unfold ir; omega) (by unfold ir; omega) dX12_entryOf_27 (by decide) (fun c_27 => ?_) (fun c_27 => ?_)
      · refine lv_iinc (v := iv (k9 + 1)) (lv' := [(3, .int (iv (k9 + 1))), (0, .ref (oP ω 111)), (1, .int (iv x1)), (2, .int (iv x2))]) hx hb dX12_entryOf_32 hl (k := 0) rfl (by rw [show Int32.ofInt 1 = iv 1 from rfl, iv_add]) (by decide) rfl (fun ls hl => ?_)
        refine lv_goto (tgt := 2) hx hb dX12_entryOf_35 (by decide) ?_
        exact ih _ _ _ _ _ _ _ (by omega) ⟨k9 + 1, rfl, (by omega), (by omega), rfl, lv_sub hl [0, 1, 2, 3] rfl⟩ G
      · refine lv_iload_n hx hb dX12_entryOf_30 rfl (lv_at hl 0 rfl) ?_
        exact xr_i G (x := k9) hret hlk (by unfold ir; omega) rfl dX12_entryOf_31 ⟨rfl, (fun _ => Or.inr ⟨by omega, by omega, by omega⟩)⟩

set_option maxHeartbeats 4000000 in
set_option maxRecDepth 100000 in
theorem c_X12_isZero (ω : Om) (l : Launch) (μ : M3) (x1 : Int) (x2 : Int) (hx1 : ir x1) (hx2 : jr x2) : CtI ω l yX12_isZero cX12_isZero 4 .boolean 2 61 [.ref (oP ω 111), .int (iv x1), .long (jv x2)] μ (fun (r : Int) (μ' : M3) => (μ' = μ)) := by
  refine CtI.go (by decide) (Nat.le_of_ble_eq_true rfl) (fun ρ p e s m below meth c R ls G hR hret hlk hl => ?_)
  have hx := G.1.1
  have hb := G.1.2.1
  have hl : lv_has ls 4 [(0, .ref (oP ω 111)), (1, .int (iv x1)), (2, .long (jv x2))] := hl
  generalize s.drawn = d0 at G ⊢
  have hr_x1 : -2147483648 ≤ x1 ∧ x1 ≤ 2147483647 := hx1
  refine lv_iload_n hx hb dX12_isZero_0 rfl (lv_at hl 1 rfl) ?_
  refine lv_iconst (v := iv 3) hx hb dX12_isZero_1 rfl ?_
  refine xb_icmp_ne (tgt := 22) hx hb (by unfold ir; omega) (by unfold ir; omega) dX12_isZero_2 (by decide) (fun c_2 => ?_) (fun c_2 => ?_)
  · refine lv_lload_n hx hb dX12_isZero_22 rfl (lv_at hl 2 rfl) ?_
    refine lv_lconst (v := jv 0) hx hb dX12_isZero_23 rfl ?_
    refine xb_lcmp hx hb hx2 (by unfold jr; omega) dX12_isZero_24 ?_
    have hr_1 : -2147483648 ≤ lcm x2 0 ∧ lcm x2 0 ≤ 2147483647 := lcm_ir _ _
    refine xb_if_ne (tgt := 32) hx hb (by unfold ir; omega) dX12_isZero_25 (by decide) (fun c_25 => ?_) (fun c_25 => ?_)
    · refine lv_iconst (v := iv 0) hx hb dX12_isZero_32 rfl ?_
      exact xr_i G (x := 0) hret hlk (by unfold ir; omega) (zr (by omega)) dX12_isZero_33 rfl
    · refine lv_iconst (v := iv 1) hx hb dX12_isZero_28 rfl ?_
      refine lv_goto (tgt := 33) hx hb dX12_isZero_29 (by decide) ?_
      exact xr_i G (x := 1) hret hlk (by unfold ir; omega) (zr (by omega)) dX12_isZero_33 rfl
  · refine lv_lload_n hx hb dX12_isZero_5 rfl (lv_at hl 2 rfl) ?_
    refine xc_dS G (rest := []) (As := [.long (jv x2)]) (c_X12_real ω l μ x2 hx2) (wm 10 91 rfl rfl) (wm 10 92 rfl rfl) (wm 1 18 rfl rfl) (wm 10 93 rfl rfl) (by decide) hR (by decide) (n := 1) rfl rfl (Nat.le_of_ble_eq_true rfl) hl.1 dX12_isZero_6 (fun r_3 μ2 ρ d0 H locs hp G => ?_)
    have hsm_4 := hp
    have hsm_4 := Eq.symm hsm_4
    subst hsm_4
    refine lv_dconst0 hx hb dX12_isZero_9 ?_
    refine xb_topd (fun dd_5 he_dd_5 => ?_)
    refine lv_dcmp hx hb dX12_isZero_10 ?_
    refine xb_topi (fun y_6 hr_y_6 he_y_6 => ?_)
    have hr_y_6 : -2147483648 ≤ y_6 ∧ y_6 ≤ 2147483647 := hr_y_6
    refine xb_if_ne (tgt := 18) hx hb (by unfold ir; omega) dX12_isZero_11 (by decide) (fun c_11 => ?_) (fun c_11 => ?_)
    · refine lv_iconst (v := iv 0) hx hb dX12_isZero_18 rfl ?_
      refine lv_goto (tgt := 33) hx hb dX12_isZero_19 (by decide) ?_
      exact xr_i G (x := 0) hret hlk (by unfold ir; omega) (zr (by omega)) dX12_isZero_33 rfl
    · refine lv_iconst (v := iv 1) hx hb dX12_isZero_14 rfl ?_
      refine lv_goto (tgt := 33) hx hb dX12_isZero_15 (by decide) ?_
      exact xr_i G (x := 1) hret hlk (by unfold ir; omega) (zr (by omega)) dX12_isZero_33 rfl

set_option maxHeartbeats 4000000 in
set_option maxRecDepth 100000 in
theorem c_X12_now (ω : Om) (l : Launch) (μ : M3) (n : Int) (hn : n = μ.1 111 47) (h1 : 1 ≤ n ∧ n ≤ 24) : CtI ω l yX12_now cX12_now 1 .int 0 0 [.ref (oP ω 111)] μ (fun (r : Int) (μ' : M3) => (μ' = μ) ∧ (r = μ.1 127 (n - 1))) := by
  refine CtI.go (by decide) (Nat.le_of_ble_eq_true rfl) (fun ρ p e s m below meth c R ls G hR hret hlk hl => ?_)
  have hx := G.1.1
  have hb := G.1.2.1
  have hl : lv_has ls 1 [(0, .ref (oP ω 111))] := hl
  generalize s.drawn = d0 at G ⊢
  refine lv_aload_n hx hb dX12_now_0 rfl (lv_at hl 0 rfl) ?_
  refine xa_getr G fd_X12 (a := 111) (x := 127) 41 rfl (by decide) rfl (wm 7 190 rfl rfl) ⟨rfl, rfl, rfl⟩ dX12_now_1 rfl (G.sk 125 rfl) (by decide) rfl ?_
  refine lv_aload_n hx hb dX12_now_4 rfl (lv_at hl 0 rfl) ?_
  refine xa_geti G fd_X12 (a := 111) (x := n) 47 rfl (by decide) rfl (wm 7 196 rfl rfl) ⟨rfl, rfl, rfl⟩ dX12_now_5 rfl hn.symm ?_
  have hr_1 : -2147483648 ≤ n ∧ n ≤ 2147483647 := by have h9 := G.hr (a := 111) (k := 47) rfl; rw [show μ.1 111 47 = n from hn.symm] at h9; exact h9
  refine lv_iconst (v := iv 1) hx hb dX12_now_8 rfl ?_
  refine xb_isub hx hb dX12_now_9 ?_
  refine xa_iald G (a := 127) (i := n - 1) rfl (by have h9 := G.lc (a := 127) (n := 26) 65 rfl; omega) dX12_now_10 rfl ?_
  have hr_2 : -2147483648 ≤ μ.1 127 (n - 1) ∧ μ.1 127 (n - 1) ≤ 2147483647 := by have h9 := G.hr (a := 127) (k := n - 1) rfl; exact h9
  exact xr_i G (x := μ.1 127 (n - 1)) hret hlk (by unfold ir; omega) rfl dX12_now_11 ⟨rfl, (by omega)⟩

set_option maxHeartbeats 4000000 in
set_option maxRecDepth 100000 in
theorem c_X12_top (ω : Om) (l : Launch) (μ : M3) (mo : Int) (hmo : mo = μ.1 111 53) (hm1 : 1 ≤ mo ∧ mo ≤ 9000) : CtI ω l yX12_top cX12_top 1 .int 0 0 [.ref (oP ω 111)] μ (fun (r : Int) (μ' : M3) => (μ' = μ) ∧ (r = μ.1 135 (mo - 1))) := by
  refine CtI.go (by decide) (Nat.le_of_ble_eq_true rfl) (fun ρ p e s m below meth c R ls G hR hret hlk hl => ?_)
  have hx := G.1.1
  have hb := G.1.2.1
  have hl : lv_has ls 1 [(0, .ref (oP ω 111))] := hl
  generalize s.drawn = d0 at G ⊢
  refine lv_aload_n hx hb dX12_top_0 rfl (lv_at hl 0 rfl) ?_
  refine xa_getr G fd_X12 (a := 111) (x := 135) 51 rfl (by decide) rfl (wm 7 200 rfl rfl) ⟨rfl, rfl, rfl⟩ dX12_top_1 rfl (G.sk 133 rfl) (by decide) rfl ?_
  refine lv_aload_n hx hb dX12_top_4 rfl (lv_at hl 0 rfl) ?_
  refine xa_geti G fd_X12 (a := 111) (x := mo) 53 rfl (by decide) rfl (wm 7 202 rfl rfl) ⟨rfl, rfl, rfl⟩ dX12_top_5 rfl hmo.symm ?_
  have hr_1 : -2147483648 ≤ mo ∧ mo ≤ 2147483647 := by have h9 := G.hr (a := 111) (k := 53) rfl; rw [show μ.1 111 53 = mo from hmo.symm] at h9; exact h9
  refine lv_iconst (v := iv 1) hx hb dX12_top_8 rfl ?_
  refine xb_isub hx hb dX12_top_9 ?_
  refine xa_bald G (a := 135) (i := mo - 1) rfl (by have h9 := G.lc (a := 135) (n := 9000) 73 rfl; omega) dX12_top_10 rfl ?_
  have hr_2 : -2147483648 ≤ μ.1 135 (mo - 1) ∧ μ.1 135 (mo - 1) ≤ 2147483647 := by have h9 := G.hr3 (a := 135) (k := mo - 1) rfl; exact h9
  exact xr_i G (x := μ.1 135 (mo - 1)) hret hlk (by unfold ir; omega) rfl dX12_top_11 ⟨rfl, (by omega)⟩

set_option maxHeartbeats 4000000 in
set_option maxRecDepth 100000 in
theorem c_X12_push (ω : Om) (l : Launch) (μ : M3) (x1 : Int) (x2 : Int) (mo : Int) (hx1 : ir x1) (hx2 : jr x2) (hmo : mo = μ.1 111 53) (hMZ : MZ μ) (hv : VV (μ.1 111 65) (μ.1 111 82) x1 x2) (hm8 : mo < 8000) : CtV ω l yX12_push cX12_push 4 0 0 [.ref (oP ω 111), .int (iv x1), .long (jv x2)] μ (fun (μ' : M3) => (FrM [111, 135, 136] μ μ') ∧ (∀ j, j ∉ ([53] : List Int) → μ'.1 111 j = μ.1 111 j) ∧ (MZ μ') ∧ (μ'.1 111 53 = mo + 1) ∧ (μ'.1 135 mo = x1) ∧ (μ'.1 136 mo = x2) ∧ (∀ j, j ≠ mo → μ'.1 135 j = μ.1 135 j) ∧ (∀ j, j ≠ mo → μ'.1 136 j = μ.1 136 j)) := by
  refine CtV.go (by decide) (Nat.le_of_ble_eq_true rfl) (fun ρ p e s m below meth c R ls G hR hret hlk hl => ?_)
  have hx := G.1.1
  have hb := G.1.2.1
  have hl : lv_has ls 4 [(0, .ref (oP ω 111)), (1, .int (iv x1)), (2, .long (jv x2))] := hl
  generalize s.drawn = d0 at G ⊢
  have hr_x1 : -2147483648 ≤ x1 ∧ x1 ≤ 2147483647 := hx1
  have hzn_ := hMZ.n
  obtain ⟨hz47, hzFB, hzFL, hz81, hz82, hz84, hz65, hz4, hz104⟩ := hzn_
  have hv0 := hv.1
  refine lv_aload_n hx hb dX12_push_0 rfl (lv_at hl 0 rfl) ?_
  refine xa_getr G fd_X12 (a := 111) (x := 135) 51 rfl (by decide) rfl (wm 7 200 rfl rfl) ⟨rfl, rfl, rfl⟩ dX12_push_1 rfl (G.sk 133 rfl) (by decide) rfl ?_
  refine lv_aload_n hx hb dX12_push_4 rfl (lv_at hl 0 rfl) ?_
  refine xa_geti G fd_X12 (a := 111) (x := mo) 53 rfl (by decide) rfl (wm 7 202 rfl rfl) ⟨rfl, rfl, rfl⟩ dX12_push_5 rfl hmo.symm ?_
  have hr_1 : -2147483648 ≤ mo ∧ mo ≤ 2147483647 := by have h9 := G.hr (a := 111) (k := 53) rfl; rw [show μ.1 111 53 = mo from hmo.symm] at h9; exact h9
  refine lv_iload_n hx hb dX12_push_8 rfl (lv_at hl 1 rfl) ?_
  refine xb_i2bx hx hb (x := x1) (by omega) dX12_push_9 ?_
  refine xa_bast G (a := 135) (i := mo) (x := x1) rfl (by have h9 := G.lc (a := 135) (n := 9000) 73 rfl; omega) (by omega) dX12_push_10 rfl (fun H locs G => ?_)
  refine lv_aload_n hx hb dX12_push_11 rfl (lv_at hl 0 rfl) ?_
  refine xa_getr G fd_X12 (a := 111) (x := 136) 52 rfl (by decide) rfl (wm 7 201 rfl rfl) ⟨rfl, rfl, rfl⟩ dX12_push_12 rfl (G.sk 134 rfl) (by decide) rfl ?_
  refine lv_aload_n hx hb dX12_push_15 rfl (lv_at hl 0 rfl) ?_
  refine xa_geti G fd_X12 (a := 111) (x := mo) 53 rfl (by decide) rfl (wm 7 202 rfl rfl) ⟨rfl, rfl, rfl⟩ dX12_push_16 rfl ((sv_n _ (fun h9 => absurd h9.1 (by decide))).trans hmo.symm) ?_
  refine lv_lload_n hx hb dX12_push_19 rfl (lv_at hl 2 rfl) ?_
  refine xa_last G (a := 136) (i := mo) (x := x2) rfl (by have h9 := G.lc (a := 136) (n := 9000) 74 rfl; omega) hx2 dX12_push_20 rfl (fun H locs G => ?_)
  refine lv_aload_n hx hb dX12_push_21 rfl (lv_at hl 0 rfl) ?_
  refine lv_dup hx hb dX12_push_22 rfl ?_
  refine xa_geti G fd_X12 (a := 111) (x := mo) 53 rfl (by decide) rfl (wm 7 202 rfl rfl) ⟨rfl, rfl, rfl⟩ dX12_push_23 rfl ((sv_n _ (fun h9 => absurd h9.1 (by decide))).trans ((sv_n _ (fun h9 => absurd h9.1 (by decide))).trans hmo.symm)) ?_
  refine lv_iconst (v := iv 1) hx hb dX12_push_26 rfl ?_
  refine xb_iadd hx hb dX12_push_27 ?_
  refine xa_puti G fd_X12 (a := 111) (x := mo + 1) 53 (kz := 53) rfl rfl (by decide) rfl (by unfold ir; omega) (wm 7 202 rfl rfl) ⟨rfl, rfl, rfl, rfl⟩ rfl dX12_push_28 rfl (fun H locs G => ?_)
  have e_2 : (sv (sv (sv μ 135 mo x1) 136 mo x2) 111 53 (mo + 1)).1 111 53 = mo + 1 := (sv_s _ _ _ _)
  have e_3 : (sv (sv (sv μ 135 mo x1) 136 mo x2) 111 53 (mo + 1)).1 135 mo = x1 := ((sv_n _ (fun h9 => absurd h9.1 (by decide))).trans ((sv_n _ (fun h9 => absurd h9.1 (by decide))).trans (sv_s _ _ _ _)))
  have e_4 : (sv (sv (sv μ 135 mo x1) 136 mo x2) 111 53 (mo + 1)).1 136 mo = x2 := ((sv_n _ (fun h9 => absurd h9.1 (by decide))).trans (sv_s _ _ _ _))
  exact xr_v G hret hlk dX12_push_31 ⟨(FrM.put (FrM.put (FrM.put FrM.rf (by decide)) (by decide)) (by decide)), (fun j hj => ((sv_n _ (fun h9 => hj (by rw [h9.2]; decide))).trans ((sv_n _ (fun h9 => absurd h9.1 (by decide))).trans (sv_n _ (fun h9 => absurd h9.1 (by decide)))))), (MZ.ps hMZ (Eqa.fr (L := [111, 136, 135]) (FrM.put (FrM.put (FrM.put FrM.rf (by decide)) (by decide)) (by decide)) (by decide)) (Eqf.fd (L := [53]) (fun j hj => ((sv_n _ (fun h9 => hj (by rw [h9.2]; decide))).trans ((sv_n _ (fun h9 => absurd h9.1 (by decide))).trans (sv_n _ (fun h9 => absurd h9.1 (by decide)))))) (by decide)) (by have h9 : (sv (sv (sv μ 135 mo x1) 136 mo x2) 111 53 (mo + 1)).1 111 53 = mo + 1 := (sv_s _ _ _ _); omega) (by omega) (fun j hj => ((sv_n _ (by omega)).trans ((sv_n _ (by omega)).trans (sv_n _ (by omega))))) (fun j hj => ((sv_n _ (by omega)).trans ((sv_n _ (by omega)).trans (sv_n _ (by omega))))) (by rw [← hmo]; rw [(show (sv (sv (sv μ 135 mo x1) 136 mo x2) 111 53 (mo + 1)).1 135 mo = x1 from ((sv_n _ (fun h9 => absurd h9.1 (by decide))).trans ((sv_n _ (fun h9 => absurd h9.1 (by decide))).trans (sv_s _ _ _ _)))), (show (sv (sv (sv μ 135 mo x1) 136 mo x2) 111 53 (mo + 1)).1 136 mo = x2 from ((sv_n _ (fun h9 => absurd h9.1 (by decide))).trans (sv_s _ _ _ _)))]; exact hv)), (by omega), (by omega), (by omega), (fun j hj => ((sv_n _ (by omega)).trans ((sv_n _ (by omega)).trans (sv_n _ (by omega))))), (fun j hj => ((sv_n _ (by omega)).trans ((sv_n _ (by omega)).trans (sv_n _ (by omega)))))⟩

set_option maxHeartbeats 4000000 in
set_option maxRecDepth 100000 in
theorem c_X12_pushNumber (ω : Om) (l : Launch) (μ : M3) (x1 : Int) (x2 : Int) (mo : Int) (hx1 : ir x1) (hx2 : jr x2) (hmo : mo = μ.1 111 53) (hMZ : MZ μ) (hm8 : mo < 8000) : CtV ω l yX12_pushNumber cX12_pushNumber 4 2 61 [.ref (oP ω 111), .int (iv x1), .long (jv x2)] μ (fun (μ' : M3) => (FrM [111, 135, 136] μ μ') ∧ (∀ j, j ∉ ([53] : List Int) → μ'.1 111 j = μ.1 111 j) ∧ (MZ μ') ∧ (μ'.1 111 53 = mo + 1) ∧ (μ'.1 135 mo = 1) ∧ (∀ j, j ≠ mo → μ'.1 135 j = μ.1 135 j) ∧ (∀ j, j ≠ mo → μ'.1 136 j = μ.1 136 j)) := by
  refine CtV.go (by decide) (Nat.le_of_ble_eq_true rfl) (fun ρ p e s m below meth c R ls G hR hret hlk hl => ?_)
  have hx := G.1.1
  have hb := G.1.2.1
  have hl : lv_has ls 4 [(0, .ref (oP ω 111)), (1, .int (iv x1)), (2, .long (jv x2))] := hl
  generalize s.drawn = d0 at G ⊢
  have hr_x1 : -2147483648 ≤ x1 ∧ x1 ≤ 2147483647 := hx1
  have hzn_ := hMZ.n
  obtain ⟨hz47, hzFB, hzFL, hz81, hz82, hz84, hz65, hz4, hz104⟩ := hzn_
  refine lv_aload_n hx hb dX12_pushNumber_0 rfl (lv_at hl 0 rfl) ?_
  refine lv_iconst (v := iv 1) hx hb dX12_pushNumber_1 rfl ?_
  refine lv_iload_n hx hb dX12_pushNumber_2 rfl (lv_at hl 1 rfl) ?_
  refine lv_iconst (v := iv 3) hx hb dX12_pushNumber_3 rfl ?_
  refine xb_icmp_ne (tgt := 15) hx hb (by unfold ir; omega) (by unfold ir; omega) dX12_pushNumber_4 (by decide) (fun c_4 => ?_) (fun c_4 => ?_)
  · refine lv_lload_n hx hb dX12_pushNumber_15 rfl (lv_at hl 2 rfl) ?_
    have e_1 : μ.1 111 53 = mo := hmo.symm
    refine xc_vV G (b := 111) (rest := []) (As := [.int (iv 1), .long (jv x2)]) (c_X12_push ω l μ 1 x2 mo (by unfold ir; omega) hx2 (by omega) hMZ VV.n1 (by omega)) (wm 10 127 rfl rfl) (wm 10 129 rfl rfl) (wm 0 195 rfl rfl) rfl rfl (by decide) rfl (wm 1 18 rfl rfl) (wm 10 130 rfl rfl) (by decide) hR (by decide) (n := 2) rfl rfl (Nat.le_of_ble_eq_true rfl) hl.1 dX12_pushNumber_16 (fun μ2 ρ d0 H locs hp G => ?_)
    obtain ⟨F_3, hp_4, hp_5, hs_6, hs_7, hs_8, ha_9, ha_10⟩ := hp
    have e_11 : μ2.1 111 53 = mo + 1 := hs_6
    have e_12 : μ2.1 135 mo = 1 := hs_7
    exact xr_v G hret hlk dX12_pushNumber_19 ⟨(FrM.tr FrM.rf F_3 (by decide)), (fun j hj => (hp_4 j (fun h9 => hj ((by decide : ∀ x ∈ ([53] : List Int), x ∈ ([53] : List Int)) j h9)))), hp_5, (by omega), (by omega), (fun j hj => (ha_9 j (by omega))), (fun j hj => (ha_10 j (by omega)))⟩
  · refine lv_lload_n hx hb dX12_pushNumber_7 rfl (lv_at hl 2 rfl) ?_
    refine lv_l2d hx hb dX12_pushNumber_8 ?_
    refine xb_topd (fun dd_13 he_dd_13 => ?_)
    refine xc_lS G (rest := [.int (iv 1), .ref (oP ω 111)]) (As := [.double (dv dd_13)]) (c_Jxe99ae_doubleToLongBits_ccdee ω l μ dd_13 ) (wm 9 44 rfl rfl) (wm 9 45 rfl rfl) (wm 1 23 rfl rfl) (wm 9 46 rfl rfl) (by decide) hR (by decide) (n := 1) rfl rfl (Nat.le_of_ble_eq_true rfl) hl.1 dX12_pushNumber_9 (fun r_15 μ14 ρ d0 H locs hr_r_15 hp G => ?_)
    obtain ⟨hsm_16, hp_17⟩ := hp
    have hsm_16 := Eq.symm hsm_16
    subst hsm_16
    refine lv_goto (tgt := 16) hx hb dX12_pushNumber_12 (by decide) ?_
    have e_18 : μ.1 111 53 = mo := hmo.symm
    refine xc_vV G (b := 111) (rest := []) (As := [.int (iv 1), .long (jv r_15)]) (c_X12_push ω l μ 1 r_15 mo (by unfold ir; omega) hr_r_15 (by omega) hMZ VV.n1 (by omega)) (wm 10 127 rfl rfl) (wm 10 129 rfl rfl) (wm 0 195 rfl rfl) rfl rfl (by decide) rfl (wm 1 18 rfl rfl) (wm 10 130 rfl rfl) (by decide) hR (by decide) (n := 2) rfl rfl (Nat.le_of_ble_eq_true rfl) hl.1 dX12_pushNumber_16 (fun μ19 ρ d0 H locs hp G => ?_)
    obtain ⟨F_20, hp_21, hp_22, hs_23, hs_24, hs_25, ha_26, ha_27⟩ := hp
    have e_28 : μ19.1 111 53 = mo + 1 := hs_23
    have e_29 : μ19.1 135 mo = 1 := hs_24
    exact xr_v G hret hlk dX12_pushNumber_19 ⟨(FrM.tr FrM.rf F_20 (by decide)), (fun j hj => (hp_21 j (fun h9 => hj ((by decide : ∀ x ∈ ([53] : List Int), x ∈ ([53] : List Int)) j h9)))), hp_22, (by omega), (by omega), (fun j hj => (ha_26 j (by omega))), (fun j hj => (ha_27 j (by omega)))⟩

set_option maxHeartbeats 4000000 in
set_option maxRecDepth 100000 in
theorem c_X12_step (ω : Om) (l : Launch) (μ : M3) (so : Int) (hso : so = μ.1 111 83) (hMZ : MZ μ) : CtI ω l yX12_step cX12_step 1 .boolean 0 0 [.ref (oP ω 111)] μ (fun (r : Int) (μ' : M3) => (FrM [111] μ μ') ∧ (∀ j, j ∉ ([83, 84, 93, 94] : List Int) → μ'.1 111 j = μ.1 111 j) ∧ (MZ μ') ∧ ((r = 1 ∧ μ'.1 111 83 = so + 1 ∧ μ'.1 111 94 = μ.1 111 94 ∧ μ'.1 111 93 = μ.1 111 93) ∨ (r = 0 ∧ μ'.1 111 83 = so ∧ μ'.1 111 94 = 1))) := by
  refine CtI.go (by decide) (Nat.le_of_ble_eq_true rfl) (fun ρ p e s m below meth c R ls G hR hret hlk hl => ?_)
  have hx := G.1.1
  have hb := G.1.2.1
  have hl : lv_has ls 1 [(0, .ref (oP ω 111))] := hl
  generalize s.drawn = d0 at G ⊢
  have hzn_ := hMZ.n
  obtain ⟨hz47, hzFB, hzFL, hz81, hz82, hz84, hz65, hz4, hz104⟩ := hzn_
  refine lv_aload_n hx hb dX12_step_0 rfl (lv_at hl 0 rfl) ?_
  refine xa_geti G fd_X12 (a := 111) (x := so) 83 rfl (by decide) rfl (wm 7 232 rfl rfl) ⟨rfl, rfl, rfl⟩ dX12_step_1 rfl hso.symm ?_
  have hr_1 : -2147483648 ≤ so ∧ so ≤ 2147483647 := by have h9 := G.hr (a := 111) (k := 83) rfl; rw [show μ.1 111 83 = so from hso.symm] at h9; exact h9
  refine lv_sipush (v := iv 5000) hx hb dX12_step_4 rfl ?_
  refine xb_icmp_eq (tgt := 20) hx hb (by unfold ir; omega) (by unfold ir; omega) dX12_step_7 (by decide) (fun c_7 => ?_) (fun c_7 => ?_)
  · refine lv_aload_n hx hb dX12_step_20 rfl (lv_at hl 0 rfl) ?_
    refine lv_iconst (v := iv 2) hx hb dX12_step_21 rfl ?_
    refine xa_puti G fd_X12 (a := 111) (x := 2) 93 (kz := 93) rfl rfl (by decide) rfl (by unfold ir; omega) (wm 8 2 rfl rfl) ⟨rfl, rfl, rfl, rfl⟩ rfl dX12_step_22 rfl (fun H locs G => ?_)
    refine lv_aload_n hx hb dX12_step_25 rfl (lv_at hl 0 rfl) ?_
    refine lv_iconst (v := iv 1) hx hb dX12_step_26 rfl ?_
    refine xa_putz G fd_X12 (a := 111) (x := 1) 94 (kz := 94) rfl rfl (by decide) rfl (by omega) (wm 8 3 rfl rfl) ⟨rfl, rfl, rfl, rfl⟩ rfl dX12_step_27 rfl (fun H locs G => ?_)
    refine lv_iconst (v := iv 0) hx hb dX12_step_30 rfl ?_
    have hMZ_2 : MZ (sv μ 111 93 2) := MZ.f hMZ (by decide)
    have hMZ_3 : MZ (sv (sv μ 111 93 2) 111 94 1) := MZ.f hMZ_2 (by decide)
    have e_4 : (sv (sv μ 111 93 2) 111 94 1).1 111 83 = so := ((sv_n _ (by decide)).trans ((sv_n _ (by decide)).trans hso.symm))
    have e_5 : (sv (sv μ 111 93 2) 111 94 1).1 111 94 = 1 := (sv_s _ _ _ _)
    have e_6 : (sv (sv μ 111 93 2) 111 94 1).1 111 93 = 2 := ((sv_n _ (by decide)).trans (sv_s _ _ _ _))
    have e_7 : (sv (sv μ 111 93 2) 111 94 1).1 111 83 = so := ((sv_n _ (by decide)).trans ((sv_n _ (by decide)).trans hso.symm))
    have e_8 : (sv (sv μ 111 93 2) 111 94 1).1 111 94 = 1 := (sv_s _ _ _ _)
    exact xr_i G (x := 0) hret hlk (by unfold ir; omega) (zr (by omega)) dX12_step_31 ⟨(FrM.put (FrM.put FrM.rf (by decide)) (by decide)), (fun j hj => ((sv_n _ (fun h9 => hj (by rw [h9.2]; decide))).trans (sv_n _ (fun h9 => hj (by rw [h9.2]; decide))))), hMZ_3, (by omega)⟩
  · refine lv_aload_n hx hb dX12_step_10 rfl (lv_at hl 0 rfl) ?_
    refine xa_geti G fd_X12 (a := 111) (x := μ.1 111 84) 84 rfl (by decide) rfl (wm 7 233 rfl rfl) ⟨rfl, rfl, rfl⟩ dX12_step_11 rfl rfl ?_
    have hr_9 : -2147483648 ≤ μ.1 111 84 ∧ μ.1 111 84 ≤ 2147483647 := by have h9 := G.hr (a := 111) (k := 84) rfl; exact h9
    refine lv_ldcw (s := s.setDrawn d0) hx hb G.1.2.2.2.1 (dr_words G.1.2.2.2.2 d0 _ (wm 10 126 rfl rfl)) dX12_step_14 ?_
    refine xb_lit (x := 80000) (by decide) ?_
    refine xb_icmp_ne (tgt := 32) hx hb (by unfold ir; omega) (by unfold ir; omega) dX12_step_17 (by decide) (fun c_17 => ?_) (fun c_17 => ?_)
    · refine lv_aload_n hx hb dX12_step_32 rfl (lv_at hl 0 rfl) ?_
      refine lv_dup hx hb dX12_step_33 rfl ?_
      refine xa_geti G fd_X12 (a := 111) (x := so) 83 rfl (by decide) rfl (wm 7 232 rfl rfl) ⟨rfl, rfl, rfl⟩ dX12_step_34 rfl hso.symm ?_
      refine lv_iconst (v := iv 1) hx hb dX12_step_37 rfl ?_
      refine xb_iadd hx hb dX12_step_38 ?_
      refine xa_puti G fd_X12 (a := 111) (x := so + 1) 83 (kz := 83) rfl rfl (by decide) rfl (by unfold ir; omega) (wm 7 232 rfl rfl) ⟨rfl, rfl, rfl, rfl⟩ rfl dX12_step_39 rfl (fun H locs G => ?_)
      refine lv_aload_n hx hb dX12_step_42 rfl (lv_at hl 0 rfl) ?_
      refine lv_dup hx hb dX12_step_43 rfl ?_
      refine xa_geti G fd_X12 (a := 111) (x := μ.1 111 84) 84 rfl (by decide) rfl (wm 7 233 rfl rfl) ⟨rfl, rfl, rfl⟩ dX12_step_44 rfl (sv_n _ (by decide)) ?_
      refine lv_iconst (v := iv 1) hx hb dX12_step_47 rfl ?_
      refine xb_iadd hx hb dX12_step_48 ?_
      refine xa_puti G fd_X12 (a := 111) (x := (μ.1 111 84) + 1) 84 (kz := 84) rfl rfl (by decide) rfl (by unfold ir; omega) (wm 7 233 rfl rfl) ⟨rfl, rfl, rfl, rfl⟩ rfl dX12_step_49 rfl (fun H locs G => ?_)
      refine lv_iconst (v := iv 1) hx hb dX12_step_52 rfl ?_
      have e_10 : (sv (sv μ 111 83 (so + 1)) 111 84 ((μ.1 111 84) + 1)).1 111 83 = so + 1 := ((sv_n _ (by decide)).trans (sv_s _ _ _ _))
      have e_11 : (sv (sv μ 111 83 (so + 1)) 111 84 ((μ.1 111 84) + 1)).1 111 94 = μ.1 111 94 := ((sv_n _ (by decide)).trans (sv_n _ (by decide)))
      have e_12 : (sv (sv μ 111 83 (so + 1)) 111 84 ((μ.1 111 84) + 1)).1 111 93 = μ.1 111 93 := ((sv_n _ (by decide)).trans (sv_n _ (by decide)))
      have e_13 : (sv (sv μ 111 83 (so + 1)) 111 84 ((μ.1 111 84) + 1)).1 111 83 = so + 1 := ((sv_n _ (by decide)).trans (sv_s _ _ _ _))
      have e_14 : (sv (sv μ 111 83 (so + 1)) 111 84 ((μ.1 111 84) + 1)).1 111 94 = μ.1 111 94 := ((sv_n _ (by decide)).trans (sv_n _ (by decide)))
      exact xr_i G (x := 1) hret hlk (by unfold ir; omega) (zr (by omega)) dX12_step_53 ⟨(FrM.put (FrM.put FrM.rf (by decide)) (by decide)), (fun j hj => ((sv_n _ (fun h9 => hj (by rw [h9.2]; decide))).trans (sv_n _ (fun h9 => hj (by rw [h9.2]; decide))))), (MZ.sp hMZ (Eqa.fr (L := [111]) (FrM.put (FrM.put FrM.rf (by decide)) (by decide)) (by decide)) (Eqf.fd (L := [83, 84]) (fun j hj => ((sv_n _ (fun h9 => hj (by rw [h9.2]; decide))).trans (sv_n _ (fun h9 => hj (by rw [h9.2]; decide))))) (by decide)) (by have h983 : (sv (sv μ 111 83 (so + 1)) 111 84 ((μ.1 111 84) + 1)).1 111 83 = so + 1 := ((sv_n _ (by decide)).trans (sv_s _ _ _ _)); have h984 : (sv (sv μ 111 83 (so + 1)) 111 84 ((μ.1 111 84) + 1)).1 111 84 = (μ.1 111 84) + 1 := (sv_s _ _ _ _); omega)), (by omega)⟩
    · refine lv_aload_n hx hb dX12_step_20 rfl (lv_at hl 0 rfl) ?_
      refine lv_iconst (v := iv 2) hx hb dX12_step_21 rfl ?_
      refine xa_puti G fd_X12 (a := 111) (x := 2) 93 (kz := 93) rfl rfl (by decide) rfl (by unfold ir; omega) (wm 8 2 rfl rfl) ⟨rfl, rfl, rfl, rfl⟩ rfl dX12_step_22 rfl (fun H locs G => ?_)
      refine lv_aload_n hx hb dX12_step_25 rfl (lv_at hl 0 rfl) ?_
      refine lv_iconst (v := iv 1) hx hb dX12_step_26 rfl ?_
      refine xa_putz G fd_X12 (a := 111) (x := 1) 94 (kz := 94) rfl rfl (by decide) rfl (by omega) (wm 8 3 rfl rfl) ⟨rfl, rfl, rfl, rfl⟩ rfl dX12_step_27 rfl (fun H locs G => ?_)
      refine lv_iconst (v := iv 0) hx hb dX12_step_30 rfl ?_
      have hMZ_15 : MZ (sv μ 111 93 2) := MZ.f hMZ (by decide)
      have hMZ_16 : MZ (sv (sv μ 111 93 2) 111 94 1) := MZ.f hMZ_15 (by decide)
      have e_17 : (sv (sv μ 111 93 2) 111 94 1).1 111 83 = so := ((sv_n _ (by decide)).trans ((sv_n _ (by decide)).trans hso.symm))
      have e_18 : (sv (sv μ 111 93 2) 111 94 1).1 111 94 = 1 := (sv_s _ _ _ _)
      have e_19 : (sv (sv μ 111 93 2) 111 94 1).1 111 93 = 2 := ((sv_n _ (by decide)).trans (sv_s _ _ _ _))
      have e_20 : (sv (sv μ 111 93 2) 111 94 1).1 111 83 = so := ((sv_n _ (by decide)).trans ((sv_n _ (by decide)).trans hso.symm))
      have e_21 : (sv (sv μ 111 93 2) 111 94 1).1 111 94 = 1 := (sv_s _ _ _ _)
      exact xr_i G (x := 0) hret hlk (by unfold ir; omega) (zr (by omega)) dX12_step_31 ⟨(FrM.put (FrM.put FrM.rf (by decide)) (by decide)), (fun j hj => ((sv_n _ (fun h9 => hj (by rw [h9.2]; decide))).trans (sv_n _ (fun h9 => hj (by rw [h9.2]; decide))))), hMZ_16, (by omega)⟩

set_option maxHeartbeats 4000000 in
set_option maxRecDepth 100000 in
theorem c_X12_puts (ω : Om) (l : Launch) (μ : M3) (x1 : Int) (x2 : Int) (x3 : Int) (n : Int) (hx1 : ir x1) (hx2 : ir x2) (hx3 : jr x3) (hn : n = μ.1 111 47) (hMZ : MZ μ) (h1 : 1 ≤ n ∧ n ≤ 24) (hxv : 0 ≤ x1 ∧ x1 < 320) (hv : VV (μ.1 111 65) (μ.1 111 82) x2 x3) : CtV ω l yX12_puts cX12_puts 5 0 0 [.ref (oP ω 111), .int (iv x1), .int (iv x2), .long (jv x3)] μ (fun (μ' : M3) => (FrM [133, 134] μ μ') ∧ (MZ μ')) := by
  refine CtV.go (by decide) (Nat.le_of_ble_eq_true rfl) (fun ρ p e s m below meth c R ls G hR hret hlk hl => ?_)
  have hx := G.1.1
  have hb := G.1.2.1
  have hl : lv_has ls 5 [(0, .ref (oP ω 111)), (1, .int (iv x1)), (2, .int (iv x2)), (3, .long (jv x3))] := hl
  generalize s.drawn = d0 at G ⊢
  have hr_x1 : -2147483648 ≤ x1 ∧ x1 ≤ 2147483647 := hx1
  have hr_x2 : -2147483648 ≤ x2 ∧ x2 ≤ 2147483647 := hx2
  have hzn_ := hMZ.n
  rw [← hn] at hzn_
  obtain ⟨hz47, hzFB, hzFL, hz81, hz82, hz84, hz65, hz4, hz104⟩ := hzn_
  have hfr_ := (hMZ.2.2.1 (n - 1) (by omega) (by omega)).1.1
  have hzB := FB_1 (μ := μ) (n := n) (by omega)
  have hzL := FL_1 (μ := μ) (n := n) (by omega)
  have hv0 := hv.1
  refine lv_aload_n hx hb dX12_puts_0 rfl (lv_at hl 0 rfl) ?_
  refine xa_getr G fd_X12 (a := 111) (x := 133) 49 rfl (by decide) rfl (wm 7 198 rfl rfl) ⟨rfl, rfl, rfl⟩ dX12_puts_1 rfl (G.sk 131 rfl) (by decide) rfl ?_
  refine lv_sipush (v := iv 320) hx hb dX12_puts_4 rfl ?_
  refine lv_aload_n hx hb dX12_puts_7 rfl (lv_at hl 0 rfl) ?_
  refine xa_geti G fd_X12 (a := 111) (x := n) 47 rfl (by decide) rfl (wm 7 196 rfl rfl) ⟨rfl, rfl, rfl⟩ dX12_puts_8 rfl hn.symm ?_
  have hr_1 : -2147483648 ≤ n ∧ n ≤ 2147483647 := by have h9 := G.hr (a := 111) (k := 47) rfl; rw [show μ.1 111 47 = n from hn.symm] at h9; exact h9
  refine lv_iconst (v := iv 1) hx hb dX12_puts_11 rfl ?_
  refine xb_isub hx hb dX12_puts_12 ?_
  refine xb_imul hx hb dX12_puts_13 ?_
  refine lv_iload_n hx hb dX12_puts_14 rfl (lv_at hl 1 rfl) ?_
  refine xb_iadd hx hb dX12_puts_15 ?_
  refine lv_iload_n hx hb dX12_puts_16 rfl (lv_at hl 2 rfl) ?_
  refine xb_i2bx hx hb (x := x2) (by omega) dX12_puts_17 ?_
  refine xa_bast G (a := 133) (i := (320 * (n - 1)) + x1) (x := x2) rfl (by have h9 := G.lc (a := 133) (n := 8400) 71 rfl; omega) (by omega) dX12_puts_18 rfl (fun H locs G => ?_)
  refine lv_aload_n hx hb dX12_puts_19 rfl (lv_at hl 0 rfl) ?_
  refine xa_getr G fd_X12 (a := 111) (x := 134) 50 rfl (by decide) rfl (wm 7 199 rfl rfl) ⟨rfl, rfl, rfl⟩ dX12_puts_20 rfl (G.sk 132 rfl) (by decide) rfl ?_
  refine lv_sipush (v := iv 320) hx hb dX12_puts_23 rfl ?_
  refine lv_aload_n hx hb dX12_puts_26 rfl (lv_at hl 0 rfl) ?_
  refine xa_geti G fd_X12 (a := 111) (x := n) 47 rfl (by decide) rfl (wm 7 196 rfl rfl) ⟨rfl, rfl, rfl⟩ dX12_puts_27 rfl ((sv_n _ (fun h9 => absurd h9.1 (by decide))).trans hn.symm) ?_
  refine lv_iconst (v := iv 1) hx hb dX12_puts_30 rfl ?_
  refine xb_isub hx hb dX12_puts_31 ?_
  refine xb_imul hx hb dX12_puts_32 ?_
  refine lv_iload_n hx hb dX12_puts_33 rfl (lv_at hl 1 rfl) ?_
  refine xb_iadd hx hb dX12_puts_34 ?_
  refine lv_lload_n hx hb dX12_puts_35 rfl (lv_at hl 3 rfl) ?_
  refine xa_last G (a := 134) (i := (320 * (n - 1)) + x1) (x := x3) rfl (by have h9 := G.lc (a := 134) (n := 8400) 72 rfl; omega) hx3 dX12_puts_36 rfl (fun H locs G => ?_)
  exact xr_v G hret hlk dX12_puts_37 ⟨(FrM.put (FrM.put FrM.rf (by decide)) (by decide)), (MZ.pt hMZ (Eqa.fr (L := [134, 133]) (FrM.put (FrM.put FrM.rf (by decide)) (by decide)) (by decide)) (Eqf.fd (L := []) (fun j hj => ((sv_n _ (fun h9 => absurd h9.1 (by decide))).trans (sv_n _ (fun h9 => absurd h9.1 (by decide))))) (by decide)) hxv (by rw [← hn]; exact (fun j hj => ((sv_n _ (by omega)).trans (sv_n _ (by omega))))) (by rw [← hn]; exact (fun j hj => ((sv_n _ (by omega)).trans (sv_n _ (by omega))))) (by rw [← hn]; rw [(show (sv (sv μ 133 ((320 * (n - 1)) + x1) x2) 134 ((320 * (n - 1)) + x1) x3).1 133 ((320 * (n - 1)) + x1) = x2 from ((sv_n _ (fun h9 => absurd h9.1 (by decide))).trans (sv_s _ _ _ _))), (show (sv (sv μ 133 ((320 * (n - 1)) + x1) x2) 134 ((320 * (n - 1)) + x1) x3).1 134 ((320 * (n - 1)) + x1) = x3 from (sv_s _ _ _ _))]; exact hv))⟩

set_option maxHeartbeats 4000000 in
set_option maxRecDepth 100000 in
theorem c_X12_newFailure (ω : Om) (l : Launch) (μ : M3) (x1 : Int) (x2 : Int) (x3 : Int) (x4 : Int) (n : Int) (gn : Int) (hx1 : ir x1) (hx2 : ir x2) (hx3 : ir x3) (hx4 : jr x4) (hn : n = μ.1 111 47) (hgn : gn = μ.1 111 82) (hMZ : MZ μ) (h1 : 1 ≤ n ∧ n ≤ 24) (hs : gn < μ.1 111 83) (ht : 0 ≤ x1 ∧ x1 ≤ 3) (hw : x1 = 0 → 1 ≤ x2 ∧ x2 < μ.1 111 4) (hv : VV (μ.1 111 65) (μ.1 111 82) x3 x4) : CtI ω l yX12_newFailure cX12_newFailure 7 .int 0 0 [.ref (oP ω 111), .int (iv x1), .int (iv x2), .int (iv x3), .long (jv x4)] μ (fun (r : Int) (μ' : M3) => (FrM [111, 149, 150, 151, 152, 153, 154, 155, 156, 157] μ μ') ∧ (∀ j, j ∉ ([82] : List Int) → μ'.1 111 j = μ.1 111 j) ∧ (MZ μ') ∧ (r = gn) ∧ (μ'.1 111 82 = gn + 1) ∧ (μ'.1 149 gn = x1) ∧ (μ'.1 150 gn = x2)) := by
  refine CtI.go (by decide) (Nat.le_of_ble_eq_true rfl) (fun ρ p e s m below meth c R ls G hR hret hlk hl => ?_)
  have hx := G.1.1
  have hb := G.1.2.1
  have hl : lv_has ls 7 [(0, .ref (oP ω 111)), (1, .int (iv x1)), (2, .int (iv x2)), (3, .int (iv x3)), (4, .long (jv x4))] := hl
  generalize s.drawn = d0 at G ⊢
  have hr_x1 : -2147483648 ≤ x1 ∧ x1 ≤ 2147483647 := hx1
  have hr_x2 : -2147483648 ≤ x2 ∧ x2 ≤ 2147483647 := hx2
  have hr_x3 : -2147483648 ≤ x3 ∧ x3 ≤ 2147483647 := hx3
  have hzn_ := hMZ.n
  rw [← hn] at hzn_
  obtain ⟨hz47, hzFB, hzFL, hz81, hz82, hz84, hz65, hz4, hz104⟩ := hzn_
  have hfr_ := (hMZ.2.2.1 (n - 1) (by omega) (by omega)).1.1
  have hzB := FB_1 (μ := μ) (n := n) (by omega)
  have hzL := FL_1 (μ := μ) (n := n) (by omega)
  have hv0 := hv.1
  refine lv_aload_n hx hb dX12_newFailure_0 rfl (lv_at hl 0 rfl) ?_
  refine xa_geti G fd_X12 (a := 111) (x := gn) 82 rfl (by decide) rfl (wm 7 231 rfl rfl) ⟨rfl, rfl, rfl⟩ dX12_newFailure_1 rfl hgn.symm ?_
  have hr_1 : -2147483648 ≤ gn ∧ gn ≤ 2147483647 := by have h9 := G.hr (a := 111) (k := 82) rfl; rw [show μ.1 111 82 = gn from hgn.symm] at h9; exact h9
  refine lv_istore (lv' := [(6, .int (iv gn)), (0, .ref (oP ω 111)), (1, .int (iv x1)), (2, .int (iv x2)), (3, .int (iv x3)), (4, .long (jv x4))]) hx hb dX12_newFailure_4 hl (by decide) rfl (fun ls hl => ?_)
  refine lv_aload_n hx hb dX12_newFailure_6 rfl (lv_at hl 1 rfl) ?_
  refine lv_dup hx hb dX12_newFailure_7 rfl ?_
  refine xa_geti G fd_X12 (a := 111) (x := gn) 82 rfl (by decide) rfl (wm 7 231 rfl rfl) ⟨rfl, rfl, rfl⟩ dX12_newFailure_8 rfl hgn.symm ?_
  refine lv_iconst (v := iv 1) hx hb dX12_newFailure_11 rfl ?_
  refine xb_iadd hx hb dX12_newFailure_12 ?_
  refine xa_puti G fd_X12 (a := 111) (x := gn + 1) 82 (kz := 82) rfl rfl (by decide) rfl (by unfold ir; omega) (wm 7 231 rfl rfl) ⟨rfl, rfl, rfl, rfl⟩ rfl dX12_newFailure_13 rfl (fun H locs G => ?_)
  refine lv_aload_n hx hb dX12_newFailure_16 rfl (lv_at hl 1 rfl) ?_
  refine xa_getr G fd_X12 (a := 111) (x := 149) 70 rfl (by decide) rfl (wm 7 219 rfl rfl) ⟨rfl, rfl, rfl⟩ dX12_newFailure_17 rfl (G.sk 147 rfl) (by decide) rfl ?_
  refine lv_iload hx hb dX12_newFailure_20 (lv_at hl 0 rfl) ?_
  refine lv_iload_n hx hb dX12_newFailure_22 rfl (lv_at hl 2 rfl) ?_
  refine xa_iast G (a := 149) (i := gn) (x := x1) rfl (by have h9 := G.lc (a := 149) (n := 12000) 87 rfl; omega) (by unfold ir; omega) dX12_newFailure_23 rfl (fun H locs G => ?_)
  refine lv_aload_n hx hb dX12_newFailure_24 rfl (lv_at hl 1 rfl) ?_
  refine xa_getr G fd_X12 (a := 111) (x := 150) 71 rfl (by decide) rfl (wm 7 220 rfl rfl) ⟨rfl, rfl, rfl⟩ dX12_newFailure_25 rfl (G.sk 148 rfl) (by decide) rfl ?_
  refine lv_iload hx hb dX12_newFailure_28 (lv_at hl 0 rfl) ?_
  refine lv_iload_n hx hb dX12_newFailure_30 rfl (lv_at hl 3 rfl) ?_
  refine xa_iast G (a := 150) (i := gn) (x := x2) rfl (by have h9 := G.lc (a := 150) (n := 12000) 88 rfl; omega) (by unfold ir; omega) dX12_newFailure_31 rfl (fun H locs G => ?_)
  refine lv_aload_n hx hb dX12_newFailure_32 rfl (lv_at hl 1 rfl) ?_
  refine xa_getr G fd_X12 (a := 111) (x := 151) 72 rfl (by decide) rfl (wm 7 221 rfl rfl) ⟨rfl, rfl, rfl⟩ dX12_newFailure_33 rfl (G.sk 149 rfl) (by decide) rfl ?_
  refine lv_iload hx hb dX12_newFailure_36 (lv_at hl 0 rfl) ?_
  refine lv_iload_n hx hb dX12_newFailure_38 rfl (lv_at hl 4 rfl) ?_
  refine xb_i2bx hx hb (x := x3) (by omega) dX12_newFailure_39 ?_
  refine xa_bast G (a := 151) (i := gn) (x := x3) rfl (by have h9 := G.lc (a := 151) (n := 12000) 89 rfl; omega) (by omega) dX12_newFailure_40 rfl (fun H locs G => ?_)
  refine lv_aload_n hx hb dX12_newFailure_41 rfl (lv_at hl 1 rfl) ?_
  refine xa_getr G fd_X12 (a := 111) (x := 152) 73 rfl (by decide) rfl (wm 7 222 rfl rfl) ⟨rfl, rfl, rfl⟩ dX12_newFailure_42 rfl (G.sk 150 rfl) (by decide) rfl ?_
  refine lv_iload hx hb dX12_newFailure_45 (lv_at hl 0 rfl) ?_
  refine lv_lload hx hb dX12_newFailure_47 (lv_at hl 5 rfl) ?_
  refine xa_last G (a := 152) (i := gn) (x := x4) rfl (by have h9 := G.lc (a := 152) (n := 12000) 90 rfl; omega) hx4 dX12_newFailure_49 rfl (fun H locs G => ?_)
  refine lv_aload_n hx hb dX12_newFailure_50 rfl (lv_at hl 1 rfl) ?_
  refine xa_getr G fd_X12 (a := 111) (x := 153) 74 rfl (by decide) rfl (wm 7 223 rfl rfl) ⟨rfl, rfl, rfl⟩ dX12_newFailure_51 rfl (G.sk 151 rfl) (by decide) rfl ?_
  refine lv_iload hx hb dX12_newFailure_54 (lv_at hl 0 rfl) ?_
  refine lv_aload_n hx hb dX12_newFailure_56 rfl (lv_at hl 1 rfl) ?_
  refine xa_getr G fd_X12 (a := 111) (x := 130) 44 rfl (by decide) rfl (wm 7 193 rfl rfl) ⟨rfl, rfl, rfl⟩ dX12_newFailure_57 rfl (G.sk 128 rfl) (by decide) rfl ?_
  refine lv_aload_n hx hb dX12_newFailure_60 rfl (lv_at hl 1 rfl) ?_
  refine xa_geti G fd_X12 (a := 111) (x := n) 47 rfl (by decide) rfl (wm 7 196 rfl rfl) ⟨rfl, rfl, rfl⟩ dX12_newFailure_61 rfl ((sv_n _ (fun h9 => absurd h9.1 (by decide))).trans ((sv_n _ (fun h9 => absurd h9.1 (by decide))).trans ((sv_n _ (fun h9 => absurd h9.1 (by decide))).trans ((sv_n _ (fun h9 => absurd h9.1 (by decide))).trans ((sv_n _ (by decide)).trans hn.symm))))) ?_
  have hr_2 : -2147483648 ≤ n ∧ n ≤ 2147483647 := by have h9 := G.hr (a := 111) (k := 47) rfl; rw [show (sv (sv (sv (sv (sv μ 111 82 (gn + 1)) 149 gn x1) 150 gn x2) 151 gn x3) 152 gn x4).1 111 47 = n from ((sv_n _ (fun h9 => absurd h9.1 (by decide))).trans ((sv_n _ (fun h9 => absurd h9.1 (by decide))).trans ((sv_n _ (fun h9 => absurd h9.1 (by decide))).trans ((sv_n _ (fun h9 => absurd h9.1 (by decide))).trans ((sv_n _ (by decide)).trans hn.symm)))))] at h9; exact h9
  refine lv_iconst (v := iv 1) hx hb dX12_newFailure_64 rfl ?_
  refine xb_isub hx hb dX12_newFailure_65 ?_
  refine xa_iald G (a := 130) (i := n - 1) rfl (by have h9 := G.lc (a := 130) (n := 26) 68 rfl; omega) dX12_newFailure_66 rfl ?_
  refine xb_ti (y := μ.1 130 (n - 1)) ((sv_n _ (fun h9 => absurd h9.1 (by decide))).trans ((sv_n _ (fun h9 => absurd h9.1 (by decide))).trans ((sv_n _ (fun h9 => absurd h9.1 (by decide))).trans ((sv_n _ (fun h9 => absurd h9.1 (by decide))).trans (sv_n _ (fun h9 => absurd h9.1 (by decide))))))) ?_
  have hr_3 : -2147483648 ≤ μ.1 130 (n - 1) ∧ μ.1 130 (n - 1) ≤ 2147483647 := by have h9 := G.hr (a := 130) (k := n - 1) rfl; rw [((sv_n _ (fun h9 => absurd h9.1 (by decide))).trans ((sv_n _ (fun h9 => absurd h9.1 (by decide))).trans ((sv_n _ (fun h9 => absurd h9.1 (by decide))).trans ((sv_n _ (fun h9 => absurd h9.1 (by decide))).trans (sv_n _ (fun h9 => absurd h9.1 (by decide)))))))] at h9; exact h9
  refine xa_iast G (a := 153) (i := gn) (x := μ.1 130 (n - 1)) rfl (by have h9 := G.lc (a := 153) (n := 12000) 91 rfl; omega) (by unfold ir; omega) dX12_newFailure_67 rfl (fun H locs G => ?_)
  refine lv_aload_n hx hb dX12_newFailure_68 rfl (lv_at hl 1 rfl) ?_
  refine xa_getr G fd_X12 (a := 111) (x := 154) 75 rfl (by decide) rfl (wm 7 224 rfl rfl) ⟨rfl, rfl, rfl⟩ dX12_newFailure_69 rfl (G.sk 152 rfl) (by decide) rfl ?_
  refine lv_iload hx hb dX12_newFailure_72 (lv_at hl 0 rfl) ?_
  refine lv_aload_n hx hb dX12_newFailure_74 rfl (lv_at hl 1 rfl) ?_
  refine xa_getr G fd_X12 (a := 111) (x := 128) 42 rfl (by decide) rfl (wm 7 191 rfl rfl) ⟨rfl, rfl, rfl⟩ dX12_newFailure_75 rfl (G.sk 126 rfl) (by decide) rfl ?_
  refine lv_aload_n hx hb dX12_newFailure_78 rfl (lv_at hl 1 rfl) ?_
  refine xa_geti G fd_X12 (a := 111) (x := n) 47 rfl (by decide) rfl (wm 7 196 rfl rfl) ⟨rfl, rfl, rfl⟩ dX12_newFailure_79 rfl ((sv_n _ (fun h9 => absurd h9.1 (by decide))).trans ((sv_n _ (fun h9 => absurd h9.1 (by decide))).trans ((sv_n _ (fun h9 => absurd h9.1 (by decide))).trans ((sv_n _ (fun h9 => absurd h9.1 (by decide))).trans ((sv_n _ (fun h9 => absurd h9.1 (by decide))).trans ((sv_n _ (by decide)).trans hn.symm)))))) ?_
  refine lv_iconst (v := iv 1) hx hb dX12_newFailure_82 rfl ?_
  refine xb_isub hx hb dX12_newFailure_83 ?_
  refine xa_iald G (a := 128) (i := n - 1) rfl (by have h9 := G.lc (a := 128) (n := 26) 66 rfl; omega) dX12_newFailure_84 rfl ?_
  refine xb_ti (y := μ.1 128 (n - 1)) ((sv_n _ (fun h9 => absurd h9.1 (by decide))).trans ((sv_n _ (fun h9 => absurd h9.1 (by decide))).trans ((sv_n _ (fun h9 => absurd h9.1 (by decide))).trans ((sv_n _ (fun h9 => absurd h9.1 (by decide))).trans ((sv_n _ (fun h9 => absurd h9.1 (by decide))).trans (sv_n _ (fun h9 => absurd h9.1 (by decide)))))))) ?_
  have hr_4 : -2147483648 ≤ μ.1 128 (n - 1) ∧ μ.1 128 (n - 1) ≤ 2147483647 := by have h9 := G.hr (a := 128) (k := n - 1) rfl; rw [((sv_n _ (fun h9 => absurd h9.1 (by decide))).trans ((sv_n _ (fun h9 => absurd h9.1 (by decide))).trans ((sv_n _ (fun h9 => absurd h9.1 (by decide))).trans ((sv_n _ (fun h9 => absurd h9.1 (by decide))).trans ((sv_n _ (fun h9 => absurd h9.1 (by decide))).trans (sv_n _ (fun h9 => absurd h9.1 (by decide))))))))] at h9; exact h9
  refine xa_iast G (a := 154) (i := gn) (x := μ.1 128 (n - 1)) rfl (by have h9 := G.lc (a := 154) (n := 12000) 92 rfl; omega) (by unfold ir; omega) dX12_newFailure_85 rfl (fun H locs G => ?_)
  refine lv_aload_n hx hb dX12_newFailure_86 rfl (lv_at hl 1 rfl) ?_
  refine xa_getr G fd_X12 (a := 111) (x := 155) 76 rfl (by decide) rfl (wm 7 225 rfl rfl) ⟨rfl, rfl, rfl⟩ dX12_newFailure_87 rfl (G.sk 153 rfl) (by decide) rfl ?_
  refine lv_iload hx hb dX12_newFailure_90 (lv_at hl 0 rfl) ?_
  refine lv_iconst (v := iv 0) hx hb dX12_newFailure_92 rfl ?_
  refine xa_iast G (a := 155) (i := gn) (x := 0) rfl (by have h9 := G.lc (a := 155) (n := 12000) 93 rfl; omega) (by unfold ir; omega) dX12_newFailure_93 rfl (fun H locs G => ?_)
  refine lv_aload_n hx hb dX12_newFailure_94 rfl (lv_at hl 1 rfl) ?_
  refine xa_getr G fd_X12 (a := 111) (x := 156) 77 rfl (by decide) rfl (wm 7 226 rfl rfl) ⟨rfl, rfl, rfl⟩ dX12_newFailure_95 rfl (G.sk 154 rfl) (by decide) rfl ?_
  refine lv_iload hx hb dX12_newFailure_98 (lv_at hl 0 rfl) ?_
  refine lv_iconst (v := iv (-1)) hx hb dX12_newFailure_100 rfl ?_
  refine xa_iast G (a := 156) (i := gn) (x := (-1)) rfl (by have h9 := G.lc (a := 156) (n := 12000) 94 rfl; omega) (by unfold ir; omega) dX12_newFailure_101 rfl (fun H locs G => ?_)
  refine lv_aload_n hx hb dX12_newFailure_102 rfl (lv_at hl 1 rfl) ?_
  refine xa_getr G fd_X12 (a := 111) (x := 157) 78 rfl (by decide) rfl (wm 7 227 rfl rfl) ⟨rfl, rfl, rfl⟩ dX12_newFailure_103 rfl (G.sk 155 rfl) (by decide) rfl ?_
  refine lv_iload hx hb dX12_newFailure_106 (lv_at hl 0 rfl) ?_
  refine lv_iconst (v := iv (-1)) hx hb dX12_newFailure_108 rfl ?_
  refine xa_iast G (a := 157) (i := gn) (x := (-1)) rfl (by have h9 := G.lc (a := 157) (n := 12000) 95 rfl; omega) (by unfold ir; omega) dX12_newFailure_109 rfl (fun H locs G => ?_)
  refine lv_iload hx hb dX12_newFailure_110 (lv_at hl 0 rfl) ?_
  have e_5 : (sv (sv (sv (sv (sv (sv (sv (sv (sv (sv μ 111 82 (gn + 1)) 149 gn x1) 150 gn x2) 151 gn x3) 152 gn x4) 153 gn (μ.1 130 (n - 1))) 154 gn (μ.1 128 (n - 1))) 155 gn 0) 156 gn (-1)) 157 gn (-1)).1 111 82 = gn + 1 := ((sv_n _ (fun h9 => absurd h9.1 (by decide))).trans ((sv_n _ (fun h9 => absurd h9.1 (by decide))).trans ((sv_n _ (fun h9 => absurd h9.1 (by decide))).trans ((sv_n _ (fun h9 => absurd h9.1 (by decide))).trans ((sv_n _ (fun h9 => absurd h9.1 (by decide))).trans ((sv_n _ (fun h9 => absurd h9.1 (by decide))).trans ((sv_n _ (fun h9 => absurd h9.1 (by decide))).trans ((sv_n _ (fun h9 => absurd h9.1 (by decide))).trans ((sv_n _ (fun h9 => absurd h9.1 (by decide))).trans (sv_s _ _ _ _))))))))))
  have e_6 : (sv (sv (sv (sv (sv (sv (sv (sv (sv (sv μ 111 82 (gn + 1)) 149 gn x1) 150 gn x2) 151 gn x3) 152 gn x4) 153 gn (μ.1 130 (n - 1))) 154 gn (μ.1 128 (n - 1))) 155 gn 0) 156 gn (-1)) 157 gn (-1)).1 149 gn = x1 := ((sv_n _ (fun h9 => absurd h9.1 (by decide))).trans ((sv_n _ (fun h9 => absurd h9.1 (by decide))).trans ((sv_n _ (fun h9 => absurd h9.1 (by decide))).trans ((sv_n _ (fun h9 => absurd h9.1 (by decide))).trans ((sv_n _ (fun h9 => absurd h9.1 (by decide))).trans ((sv_n _ (fun h9 => absurd h9.1 (by decide))).trans ((sv_n _ (fun h9 => absurd h9.1 (by decide))).trans ((sv_n _ (fun h9 => absurd h9.1 (by decide))).trans (sv_s _ _ _ _)))))))))
  have e_7 : (sv (sv (sv (sv (sv (sv (sv (sv (sv (sv μ 111 82 (gn + 1)) 149 gn x1) 150 gn x2) 151 gn x3) 152 gn x4) 153 gn (μ.1 130 (n - 1))) 154 gn (μ.1 128 (n - 1))) 155 gn 0) 156 gn (-1)) 157 gn (-1)).1 150 gn = x2 := ((sv_n _ (fun h9 => absurd h9.1 (by decide))).trans ((sv_n _ (fun h9 => absurd h9.1 (by decide))).trans ((sv_n _ (fun h9 => absurd h9.1 (by decide))).trans ((sv_n _ (fun h9 => absurd h9.1 (by decide))).trans ((sv_n _ (fun h9 => absurd h9.1 (by decide))).trans ((sv_n _ (fun h9 => absurd h9.1 (by decide))).trans ((sv_n _ (fun h9 => absurd h9.1 (by decide))).trans (sv_s _ _ _ _))))))))
  exact xr_i G (x := gn) hret hlk (by unfold ir; omega) rfl dX12_newFailure_112 ⟨(FrM.put (FrM.put (FrM.put (FrM.put (FrM.put (FrM.put (FrM.put (FrM.put (FrM.put (FrM.put FrM.rf (by decide)) (by decide)) (by decide)) (by decide)) (by decide)) (by decide)) (by decide)) (by decide)) (by decide)) (by decide)), (fun j hj => ((sv_n _ (fun h9 => absurd h9.1 (by decide))).trans ((sv_n _ (fun h9 => absurd h9.1 (by decide))).trans ((sv_n _ (fun h9 => absurd h9.1 (by decide))).trans ((sv_n _ (fun h9 => absurd h9.1 (by decide))).trans ((sv_n _ (fun h9 => absurd h9.1 (by decide))).trans ((sv_n _ (fun h9 => absurd h9.1 (by decide))).trans ((sv_n _ (fun h9 => absurd h9.1 (by decide))).trans ((sv_n _ (fun h9 => absurd h9.1 (by decide))).trans ((sv_n _ (fun h9 => absurd h9.1 (by decide))).trans (sv_n _ (fun h9 => hj (by rw [h9.2]; decide))))))))))))), (MZ.nf hMZ (Eqa.fr (L := [157, 156, 155, 154, 153, 152, 151, 150, 149, 111]) (FrM.put (FrM.put (FrM.put (FrM.put (FrM.put (FrM.put (FrM.put (FrM.put (FrM.put (FrM.put FrM.rf (by decide)) (by decide)) (by decide)) (by decide)) (by decide)) (by decide)) (by decide)) (by decide)) (by decide)) (by decide)) (by decide)) (Eqf.fd (L := [82]) (fun j hj => ((sv_n _ (fun h9 => absurd h9.1 (by decide))).trans ((sv_n _ (fun h9 => absurd h9.1 (by decide))).trans ((sv_n _ (fun h9 => absurd h9.1 (by decide))).trans ((sv_n _ (fun h9 => absurd h9.1 (by decide))).trans ((sv_n _ (fun h9 => absurd h9.1 (by decide))).trans ((sv_n _ (fun h9 => absurd h9.1 (by decide))).trans ((sv_n _ (fun h9 => absurd h9.1 (by decide))).trans ((sv_n _ (fun h9 => absurd h9.1 (by decide))).trans ((sv_n _ (fun h9 => absurd h9.1 (by decide))).trans (sv_n _ (fun h9 => hj (by rw [h9.2]; decide))))))))))))) (by decide)) (by have h9 : (sv (sv (sv (sv (sv (sv (sv (sv (sv (sv μ 111 82 (gn + 1)) 149 gn x1) 150 gn x2) 151 gn x3) 152 gn x4) 153 gn (μ.1 130 (n - 1))) 154 gn (μ.1 128 (n - 1))) 155 gn 0) 156 gn (-1)) 157 gn (-1)).1 111 82 = gn + 1 := ((sv_n _ (fun h9 => absurd h9.1 (by decide))).trans ((sv_n _ (fun h9 => absurd h9.1 (by decide))).trans ((sv_n _ (fun h9 => absurd h9.1 (by decide))).trans ((sv_n _ (fun h9 => absurd h9.1 (by decide))).trans ((sv_n _ (fun h9 => absurd h9.1 (by decide))).trans ((sv_n _ (fun h9 => absurd h9.1 (by decide))).trans ((sv_n _ (fun h9 => absurd h9.1 (by decide))).trans ((sv_n _ (fun h9 => absurd h9.1 (by decide))).trans ((sv_n _ (fun h9 => absurd h9.1 (by decide))).trans (sv_s _ _ _ _)))))))))); omega) (by omega) (fun a ha j hj => by rw [← hgn] at hj; simp only [List.mem_cons, List.not_mem_nil, or_false] at ha; rcases ha with rfl | rfl | rfl | rfl | rfl | rfl; exact ((sv_n _ (by omega)).trans ((sv_n _ (by omega)).trans ((sv_n _ (by omega)).trans ((sv_n _ (by omega)).trans ((sv_n _ (by omega)).trans ((sv_n _ (by omega)).trans ((sv_n _ (by omega)).trans ((sv_n _ (by omega)).trans ((sv_n _ (by omega)).trans (sv_n _ (by omega))))))))))); exact ((sv_n _ (by omega)).trans ((sv_n _ (by omega)).trans ((sv_n _ (by omega)).trans ((sv_n _ (by omega)).trans ((sv_n _ (by omega)).trans ((sv_n _ (by omega)).trans ((sv_n _ (by omega)).trans ((sv_n _ (by omega)).trans ((sv_n _ (by omega)).trans (sv_n _ (by omega))))))))))); exact ((sv_n _ (by omega)).trans ((sv_n _ (by omega)).trans ((sv_n _ (by omega)).trans ((sv_n _ (by omega)).trans ((sv_n _ (by omega)).trans ((sv_n _ (by omega)).trans ((sv_n _ (by omega)).trans ((sv_n _ (by omega)).trans ((sv_n _ (by omega)).trans (sv_n _ (by omega))))))))))); exact ((sv_n _ (by omega)).trans ((sv_n _ (by omega)).trans ((sv_n _ (by omega)).trans ((sv_n _ (by omega)).trans ((sv_n _ (by omega)).trans ((sv_n _ (by omega)).trans ((sv_n _ (by omega)).trans ((sv_n _ (by omega)).trans ((sv_n _ (by omega)).trans (sv_n _ (by omega))))))))))); exact ((sv_n _ (by omega)).trans ((sv_n _ (by omega)).trans ((sv_n _ (by omega)).trans ((sv_n _ (by omega)).trans ((sv_n _ (by omega)).trans ((sv_n _ (by omega)).trans ((sv_n _ (by omega)).trans ((sv_n _ (by omega)).trans ((sv_n _ (by omega)).trans (sv_n _ (by omega))))))))))); exact ((sv_n _ (by omega)).trans ((sv_n _ (by omega)).trans ((sv_n _ (by omega)).trans ((sv_n _ (by omega)).trans ((sv_n _ (by omega)).trans ((sv_n _ (by omega)).trans ((sv_n _ (by omega)).trans ((sv_n _ (by omega)).trans ((sv_n _ (by omega)).trans (sv_n _ (by omega)))))))))))) (by rw [← hgn, (show (sv (sv (sv (sv (sv (sv (sv (sv (sv (sv μ 111 82 (gn + 1)) 149 gn x1) 150 gn x2) 151 gn x3) 152 gn x4) 153 gn (μ.1 130 (n - 1))) 154 gn (μ.1 128 (n - 1))) 155 gn 0) 156 gn (-1)) 157 gn (-1)).1 149 gn = x1 from ((sv_n _ (fun h9 => absurd h9.1 (by decide))).trans ((sv_n _ (fun h9 => absurd h9.1 (by decide))).trans ((sv_n _ (fun h9 => absurd h9.1 (by decide))).trans ((sv_n _ (fun h9 => absurd h9.1 (by decide))).trans ((sv_n _ (fun h9 => absurd h9.1 (by decide))).trans ((sv_n _ (fun h9 => absurd h9.1 (by decide))).trans ((sv_n _ (fun h9 => absurd h9.1 (by decide))).trans ((sv_n _ (fun h9 => absurd h9.1 (by decide))).trans (sv_s _ _ _ _))))))))))]; exact ht) (by rw [← hgn, (show (sv (sv (sv (sv (sv (sv (sv (sv (sv (sv μ 111 82 (gn + 1)) 149 gn x1) 150 gn x2) 151 gn x3) 152 gn x4) 153 gn (μ.1 130 (n - 1))) 154 gn (μ.1 128 (n - 1))) 155 gn 0) 156 gn (-1)) 157 gn (-1)).1 149 gn = x1 from ((sv_n _ (fun h9 => absurd h9.1 (by decide))).trans ((sv_n _ (fun h9 => absurd h9.1 (by decide))).trans ((sv_n _ (fun h9 => absurd h9.1 (by decide))).trans ((sv_n _ (fun h9 => absurd h9.1 (by decide))).trans ((sv_n _ (fun h9 => absurd h9.1 (by decide))).trans ((sv_n _ (fun h9 => absurd h9.1 (by decide))).trans ((sv_n _ (fun h9 => absurd h9.1 (by decide))).trans ((sv_n _ (fun h9 => absurd h9.1 (by decide))).trans (sv_s _ _ _ _)))))))))), (show (sv (sv (sv (sv (sv (sv (sv (sv (sv (sv μ 111 82 (gn + 1)) 149 gn x1) 150 gn x2) 151 gn x3) 152 gn x4) 153 gn (μ.1 130 (n - 1))) 154 gn (μ.1 128 (n - 1))) 155 gn 0) 156 gn (-1)) 157 gn (-1)).1 150 gn = x2 from ((sv_n _ (fun h9 => absurd h9.1 (by decide))).trans ((sv_n _ (fun h9 => absurd h9.1 (by decide))).trans ((sv_n _ (fun h9 => absurd h9.1 (by decide))).trans ((sv_n _ (fun h9 => absurd h9.1 (by decide))).trans ((sv_n _ (fun h9 => absurd h9.1 (by decide))).trans ((sv_n _ (fun h9 => absurd h9.1 (by decide))).trans ((sv_n _ (fun h9 => absurd h9.1 (by decide))).trans (sv_s _ _ _ _)))))))))]; exact hw) (by rw [← hgn, (show (sv (sv (sv (sv (sv (sv (sv (sv (sv (sv μ 111 82 (gn + 1)) 149 gn x1) 150 gn x2) 151 gn x3) 152 gn x4) 153 gn (μ.1 130 (n - 1))) 154 gn (μ.1 128 (n - 1))) 155 gn 0) 156 gn (-1)) 157 gn (-1)).1 156 gn = (-1) from ((sv_n _ (fun h9 => absurd h9.1 (by decide))).trans (sv_s _ _ _ _)))]; omega) (by rw [← hgn, (show (sv (sv (sv (sv (sv (sv (sv (sv (sv (sv μ 111 82 (gn + 1)) 149 gn x1) 150 gn x2) 151 gn x3) 152 gn x4) 153 gn (μ.1 130 (n - 1))) 154 gn (μ.1 128 (n - 1))) 155 gn 0) 156 gn (-1)) 157 gn (-1)).1 157 gn = (-1) from (sv_s _ _ _ _))]; omega) (by rw [← hgn, (show (sv (sv (sv (sv (sv (sv (sv (sv (sv (sv μ 111 82 (gn + 1)) 149 gn x1) 150 gn x2) 151 gn x3) 152 gn x4) 153 gn (μ.1 130 (n - 1))) 154 gn (μ.1 128 (n - 1))) 155 gn 0) 156 gn (-1)) 157 gn (-1)).1 151 gn = x3 from ((sv_n _ (fun h9 => absurd h9.1 (by decide))).trans ((sv_n _ (fun h9 => absurd h9.1 (by decide))).trans ((sv_n _ (fun h9 => absurd h9.1 (by decide))).trans ((sv_n _ (fun h9 => absurd h9.1 (by decide))).trans ((sv_n _ (fun h9 => absurd h9.1 (by decide))).trans ((sv_n _ (fun h9 => absurd h9.1 (by decide))).trans (sv_s _ _ _ _)))))))), (show (sv (sv (sv (sv (sv (sv (sv (sv (sv (sv μ 111 82 (gn + 1)) 149 gn x1) 150 gn x2) 151 gn x3) 152 gn x4) 153 gn (μ.1 130 (n - 1))) 154 gn (μ.1 128 (n - 1))) 155 gn 0) 156 gn (-1)) 157 gn (-1)).1 152 gn = x4 from ((sv_n _ (fun h9 => absurd h9.1 (by decide))).trans ((sv_n _ (fun h9 => absurd h9.1 (by decide))).trans ((sv_n _ (fun h9 => absurd h9.1 (by decide))).trans ((sv_n _ (fun h9 => absurd h9.1 (by decide))).trans ((sv_n _ (fun h9 => absurd h9.1 (by decide))).trans (sv_s _ _ _ _)))))))]; exact hv)), (by omega), (by omega), (by omega), (by omega)⟩

set_option maxHeartbeats 4000000 in
set_option maxRecDepth 100000 in
theorem c_X12_block_ (ω : Om) (l : Launch) (μ : M3) (x1 : Int) (x2 : Int) (x3 : Int) (bo : Int) (hx1 : ir x1) (hx2 : ir x2) (hx3 : ir x3) (hbo : bo = μ.1 111 61) (hb9 : 0 ≤ bo ∧ bo < 900) : CtV ω l yX12_block_ cX12_block_ 4 0 0 [.ref (oP ω 111), .int (iv x1), .int (iv x2), .int (iv x3)] μ (fun (μ' : M3) => (FrM [111, 137, 138, 139, 140, 141] μ μ') ∧ (∀ j, j ∉ ([61] : List Int) → μ'.1 111 j = μ.1 111 j) ∧ (μ'.1 111 61 = bo + 1) ∧ (μ'.1 137 bo = x1) ∧ (μ'.1 138 bo = x2) ∧ (μ'.1 139 bo = x3) ∧ (μ'.1 140 bo = μ.1 111 53) ∧ (μ'.1 141 bo = 0) ∧ (∀ j, j ≠ bo → μ'.1 137 j = μ.1 137 j) ∧ (∀ j, j ≠ bo → μ'.1 138 j = μ.1 138 j) ∧ (∀ j, j ≠ bo → μ'.1 139 j = μ.1 139 j) ∧ (∀ j, j ≠ bo → μ'.1 140 j = μ.1 140 j) ∧ (∀ j, j ≠ bo → μ'.1 141 j = μ.1 141 j)) := by
  refine CtV.go (by decide) (Nat.le_of_ble_eq_true rfl) (fun ρ p e s m below meth c R ls G hR hret hlk hl => ?_)
  have hx := G.1.1
  have hb := G.1.2.1
  have hl : lv_has ls 4 [(0, .ref (oP ω 111)), (1, .int (iv x1)), (2, .int (iv x2)), (3, .int (iv x3))] := hl
  generalize s.drawn = d0 at G ⊢
  have hr_x1 : -2147483648 ≤ x1 ∧ x1 ≤ 2147483647 := hx1
  have hr_x2 : -2147483648 ≤ x2 ∧ x2 ≤ 2147483647 := hx2
  have hr_x3 : -2147483648 ≤ x3 ∧ x3 ≤ 2147483647 := hx3
  refine lv_aload_n hx hb dX12_block__0 rfl (lv_at hl 0 rfl) ?_
  refine xa_getr G fd_X12 (a := 111) (x := 137) 54 rfl (by decide) rfl (wm 7 203 rfl rfl) ⟨rfl, rfl, rfl⟩ dX12_block__1 rfl (G.sk 135 rfl) (by decide) rfl ?_
  refine lv_aload_n hx hb dX12_block__4 rfl (lv_at hl 0 rfl) ?_
  refine xa_geti G fd_X12 (a := 111) (x := bo) 61 rfl (by decide) rfl (wm 7 210 rfl rfl) ⟨rfl, rfl, rfl⟩ dX12_block__5 rfl hbo.symm ?_
  have hr_1 : -2147483648 ≤ bo ∧ bo ≤ 2147483647 := by have h9 := G.hr (a := 111) (k := 61) rfl; rw [show μ.1 111 61 = bo from hbo.symm] at h9; exact h9
  refine lv_iload_n hx hb dX12_block__8 rfl (lv_at hl 1 rfl) ?_
  refine xa_iast G (a := 137) (i := bo) (x := x1) rfl (by have h9 := G.lc (a := 137) (n := 900) 75 rfl; omega) (by unfold ir; omega) dX12_block__9 rfl (fun H locs G => ?_)
  refine lv_aload_n hx hb dX12_block__10 rfl (lv_at hl 0 rfl) ?_
  refine xa_getr G fd_X12 (a := 111) (x := 138) 55 rfl (by decide) rfl (wm 7 204 rfl rfl) ⟨rfl, rfl, rfl⟩ dX12_block__11 rfl (G.sk 136 rfl) (by decide) rfl ?_
  refine lv_aload_n hx hb dX12_block__14 rfl (lv_at hl 0 rfl) ?_
  refine xa_geti G fd_X12 (a := 111) (x := bo) 61 rfl (by decide) rfl (wm 7 210 rfl rfl) ⟨rfl, rfl, rfl⟩ dX12_block__15 rfl ((sv_n _ (fun h9 => absurd h9.1 (by decide))).trans hbo.symm) ?_
  refine lv_iload_n hx hb dX12_block__18 rfl (lv_at hl 2 rfl) ?_
  refine xa_iast G (a := 138) (i := bo) (x := x2) rfl (by have h9 := G.lc (a := 138) (n := 900) 76 rfl; omega) (by unfold ir; omega) dX12_block__19 rfl (fun H locs G => ?_)
  refine lv_aload_n hx hb dX12_block__20 rfl (lv_at hl 0 rfl) ?_
  refine xa_getr G fd_X12 (a := 111) (x := 139) 56 rfl (by decide) rfl (wm 7 205 rfl rfl) ⟨rfl, rfl, rfl⟩ dX12_block__21 rfl (G.sk 137 rfl) (by decide) rfl ?_
  refine lv_aload_n hx hb dX12_block__24 rfl (lv_at hl 0 rfl) ?_
  refine xa_geti G fd_X12 (a := 111) (x := bo) 61 rfl (by decide) rfl (wm 7 210 rfl rfl) ⟨rfl, rfl, rfl⟩ dX12_block__25 rfl ((sv_n _ (fun h9 => absurd h9.1 (by decide))).trans ((sv_n _ (fun h9 => absurd h9.1 (by decide))).trans hbo.symm)) ?_
  refine lv_iload_n hx hb dX12_block__28 rfl (lv_at hl 3 rfl) ?_
  refine xa_iast G (a := 139) (i := bo) (x := x3) rfl (by have h9 := G.lc (a := 139) (n := 900) 77 rfl; omega) (by unfold ir; omega) dX12_block__29 rfl (fun H locs G => ?_)
  refine lv_aload_n hx hb dX12_block__30 rfl (lv_at hl 0 rfl) ?_
  refine xa_getr G fd_X12 (a := 111) (x := 140) 57 rfl (by decide) rfl (wm 7 206 rfl rfl) ⟨rfl, rfl, rfl⟩ dX12_block__31 rfl (G.sk 138 rfl) (by decide) rfl ?_
  refine lv_aload_n hx hb dX12_block__34 rfl (lv_at hl 0 rfl) ?_
  refine xa_geti G fd_X12 (a := 111) (x := bo) 61 rfl (by decide) rfl (wm 7 210 rfl rfl) ⟨rfl, rfl, rfl⟩ dX12_block__35 rfl ((sv_n _ (fun h9 => absurd h9.1 (by decide))).trans ((sv_n _ (fun h9 => absurd h9.1 (by decide))).trans ((sv_n _ (fun h9 => absurd h9.1 (by decide))).trans hbo.symm))) ?_
  refine lv_aload_n hx hb dX12_block__38 rfl (lv_at hl 0 rfl) ?_
  refine xa_geti G fd_X12 (a := 111) (x := μ.1 111 53) 53 rfl (by decide) rfl (wm 7 202 rfl rfl) ⟨rfl, rfl, rfl⟩ dX12_block__39 rfl ((sv_n _ (fun h9 => absurd h9.1 (by decide))).trans ((sv_n _ (fun h9 => absurd h9.1 (by decide))).trans (sv_n _ (fun h9 => absurd h9.1 (by decide))))) ?_
  have hr_2 : -2147483648 ≤ μ.1 111 53 ∧ μ.1 111 53 ≤ 2147483647 := by have h9 := G.hr (a := 111) (k := 53) rfl; rw [show (sv (sv (sv μ 137 bo x1) 138 bo x2) 139 bo x3).1 111 53 = μ.1 111 53 from ((sv_n _ (fun h9 => absurd h9.1 (by decide))).trans ((sv_n _ (fun h9 => absurd h9.1 (by decide))).trans (sv_n _ (fun h9 => absurd h9.1 (by decide)))))] at h9; exact h9
  refine xa_iast G (a := 140) (i := bo) (x := μ.1 111 53) rfl (by have h9 := G.lc (a := 140) (n := 900) 78 rfl; omega) (by unfold ir; omega) dX12_block__42 rfl (fun H locs G => ?_)
  refine lv_aload_n hx hb dX12_block__43 rfl (lv_at hl 0 rfl) ?_
  refine xa_getr G fd_X12 (a := 111) (x := 141) 58 rfl (by decide) rfl (wm 7 207 rfl rfl) ⟨rfl, rfl, rfl⟩ dX12_block__44 rfl (G.sk 139 rfl) (by decide) rfl ?_
  refine lv_aload_n hx hb dX12_block__47 rfl (lv_at hl 0 rfl) ?_
  refine xa_geti G fd_X12 (a := 111) (x := bo) 61 rfl (by decide) rfl (wm 7 210 rfl rfl) ⟨rfl, rfl, rfl⟩ dX12_block__48 rfl ((sv_n _ (fun h9 => absurd h9.1 (by decide))).trans ((sv_n _ (fun h9 => absurd h9.1 (by decide))).trans ((sv_n _ (fun h9 => absurd h9.1 (by decide))).trans ((sv_n _ (fun h9 => absurd h9.1 (by decide))).trans hbo.symm)))) ?_
  refine lv_iconst (v := iv 0) hx hb dX12_block__51 rfl ?_
  refine xa_iast G (a := 141) (i := bo) (x := 0) rfl (by have h9 := G.lc (a := 141) (n := 900) 79 rfl; omega) (by unfold ir; omega) dX12_block__52 rfl (fun H locs G => ?_)
  refine lv_aload_n hx hb dX12_block__53 rfl (lv_at hl 0 rfl) ?_
  refine lv_dup hx hb dX12_block__54 rfl ?_
  refine xa_geti G fd_X12 (a := 111) (x := bo) 61 rfl (by decide) rfl (wm 7 210 rfl rfl) ⟨rfl, rfl, rfl⟩ dX12_block__55 rfl ((sv_n _ (fun h9 => absurd h9.1 (by decide))).trans ((sv_n _ (fun h9 => absurd h9.1 (by decide))).trans ((sv_n _ (fun h9 => absurd h9.1 (by decide))).trans ((sv_n _ (fun h9 => absurd h9.1 (by decide))).trans ((sv_n _ (fun h9 => absurd h9.1 (by decide))).trans hbo.symm))))) ?_
  refine lv_iconst (v := iv 1) hx hb dX12_block__58 rfl ?_
  refine xb_iadd hx hb dX12_block__59 ?_
  refine xa_puti G fd_X12 (a := 111) (x := bo + 1) 61 (kz := 61) rfl rfl (by decide) rfl (by unfold ir; omega) (wm 7 210 rfl rfl) ⟨rfl, rfl, rfl, rfl⟩ rfl dX12_block__60 rfl (fun H locs G => ?_)
  have e_3 : (sv (sv (sv (sv (sv (sv μ 137 bo x1) 138 bo x2) 139 bo x3) 140 bo (μ.1 111 53)) 141 bo 0) 111 61 (bo + 1)).1 111 61 = bo + 1 := (sv_s _ _ _ _)
  have e_4 : (sv (sv (sv (sv (sv (sv μ 137 bo x1) 138 bo x2) 139 bo x3) 140 bo (μ.1 111 53)) 141 bo 0) 111 61 (bo + 1)).1 137 bo = x1 := ((sv_n _ (fun h9 => absurd h9.1 (by decide))).trans ((sv_n _ (fun h9 => absurd h9.1 (by decide))).trans ((sv_n _ (fun h9 => absurd h9.1 (by decide))).trans ((sv_n _ (fun h9 => absurd h9.1 (by decide))).trans ((sv_n _ (fun h9 => absurd h9.1 (by decide))).trans (sv_s _ _ _ _))))))
  have e_5 : (sv (sv (sv (sv (sv (sv μ 137 bo x1) 138 bo x2) 139 bo x3) 140 bo (μ.1 111 53)) 141 bo 0) 111 61 (bo + 1)).1 138 bo = x2 := ((sv_n _ (fun h9 => absurd h9.1 (by decide))).trans ((sv_n _ (fun h9 => absurd h9.1 (by decide))).trans ((sv_n _ (fun h9 => absurd h9.1 (by decide))).trans ((sv_n _ (fun h9 => absurd h9.1 (by decide))).trans (sv_s _ _ _ _)))))
  have e_6 : (sv (sv (sv (sv (sv (sv μ 137 bo x1) 138 bo x2) 139 bo x3) 140 bo (μ.1 111 53)) 141 bo 0) 111 61 (bo + 1)).1 139 bo = x3 := ((sv_n _ (fun h9 => absurd h9.1 (by decide))).trans ((sv_n _ (fun h9 => absurd h9.1 (by decide))).trans ((sv_n _ (fun h9 => absurd h9.1 (by decide))).trans (sv_s _ _ _ _))))
  have e_7 : (sv (sv (sv (sv (sv (sv μ 137 bo x1) 138 bo x2) 139 bo x3) 140 bo (μ.1 111 53)) 141 bo 0) 111 61 (bo + 1)).1 140 bo = μ.1 111 53 := ((sv_n _ (fun h9 => absurd h9.1 (by decide))).trans ((sv_n _ (fun h9 => absurd h9.1 (by decide))).trans (sv_s _ _ _ _)))
  have e_8 : (sv (sv (sv (sv (sv (sv μ 137 bo x1) 138 bo x2) 139 bo x3) 140 bo (μ.1 111 53)) 141 bo 0) 111 61 (bo + 1)).1 141 bo = 0 := ((sv_n _ (fun h9 => absurd h9.1 (by decide))).trans (sv_s _ _ _ _))
  exact xr_v G hret hlk dX12_block__63 ⟨(FrM.put (FrM.put (FrM.put (FrM.put (FrM.put (FrM.put FrM.rf (by decide)) (by decide)) (by decide)) (by decide)) (by decide)) (by decide)), (fun j hj => ((sv_n _ (fun h9 => hj (by rw [h9.2]; decide))).trans ((sv_n _ (fun h9 => absurd h9.1 (by decide))).trans ((sv_n _ (fun h9 => absurd h9.1 (by decide))).trans ((sv_n _ (fun h9 => absurd h9.1 (by decide))).trans ((sv_n _ (fun h9 => absurd h9.1 (by decide))).trans (sv_n _ (fun h9 => absurd h9.1 (by decide))))))))), (by omega), (by omega), (by omega), (by omega), (by omega), (by omega), (fun j hj => ((sv_n _ (by omega)).trans ((sv_n _ (by omega)).trans ((sv_n _ (by omega)).trans ((sv_n _ (by omega)).trans ((sv_n _ (by omega)).trans (sv_n _ (by omega)))))))), (fun j hj => ((sv_n _ (by omega)).trans ((sv_n _ (by omega)).trans ((sv_n _ (by omega)).trans ((sv_n _ (by omega)).trans ((sv_n _ (by omega)).trans (sv_n _ (by omega)))))))), (fun j hj => ((sv_n _ (by omega)).trans ((sv_n _ (by omega)).trans ((sv_n _ (by omega)).trans ((sv_n _ (by omega)).trans ((sv_n _ (by omega)).trans (sv_n _ (by omega)))))))), (fun j hj => ((sv_n _ (by omega)).trans ((sv_n _ (by omega)).trans ((sv_n _ (by omega)).trans ((sv_n _ (by omega)).trans ((sv_n _ (by omega)).trans (sv_n _ (by omega)))))))), (fun j hj => ((sv_n _ (by omega)).trans ((sv_n _ (by omega)).trans ((sv_n _ (by omega)).trans ((sv_n _ (by omega)).trans ((sv_n _ (by omega)).trans (sv_n _ (by omega))))))))⟩

set_option maxHeartbeats 4000000 in
set_option maxRecDepth 100000 in
theorem c_X12_isUnder (ω : Om) (l : Launch) (μ : M3) (x1 : Int) (x2 : Int) (hx1 : ir x1) (hx2 : ir x2) (hNM : NMs μ) (hb : 1 ≤ x1 ∧ x1 < μ.1 111 4) : CtI ω l yX12_isUnder cX12_isUnder 4 .boolean 0 0 [.ref (oP ω 111), .int (iv x1), .int (iv x2)] μ (fun (r : Int) (μ' : M3) => (μ' = μ) ∧ (0 ≤ r ∧ r ≤ 1)) := by
  refine CtI.go (by decide) (Nat.le_of_ble_eq_true rfl) (fun ρ p e s m below meth c R ls G hR hret hlk hl => ?_)
  have hx := G.1.1
  have hb := G.1.2.1
  have hl : lv_has ls 4 [(0, .ref (oP ω 111)), (1, .int (iv x1)), (2, .int (iv x2))] := hl
  generalize s.drawn = d0 at G ⊢
  have hr_x1 : -2147483648 ≤ x1 ∧ x1 ≤ 2147483647 := hx1
  have hr_x2 : -2147483648 ≤ x2 ∧ x2 ≤ 2147483647 := hx2
  obtain ⟨hn5_, rk, hrk⟩ := id hNM
  refine lv_iload_n hx hb dX12_isUnder_0 rfl (lv_at hl 1 rfl) ?_
  refine lv_istore_n (lv' := [(3, .int (iv x1)), (0, .ref (oP ω 111)), (1, .int (iv x1)), (2, .int (iv x2))]) hx hb dX12_isUnder_1 rfl hl (by decide) rfl (fun ls hl => ?_)
  refine xl (fun n_9 μ' ls => ∃ (k9 : Int), (μ' = μ) ∧ (-2147483648 ≤ k9 ∧ k9 ≤ 2147483647) ∧ (k9 = -1 ∨ (1 ≤ k9 ∧ k9 < μ.1 111 4)) ∧ n_9 = Int.toNat (mrk rk k9) ∧ lv_has ls 4 [(3, .int (iv k9)), (0, .ref (oP ω 111)), (1, .int (iv x1)), (2, .int (iv x2))]) (fun n_9 ρ μL1 d0 H locs ls hI_l G ih => ?_) _ _ _ _ _ _ _ ⟨x1, rfl, (by omega), (by omega), rfl, lv_sub hl [0, 1, 2, 3] rfl⟩ G
  obtain ⟨k9, FL2, hi_4, hi_5, hn3, hl⟩ := hI_l
  have FL2 := Eq.symm FL2
  subst FL2
  refine lv_iload_n hx hb dX12_isUnder_2 rfl (lv_at hl 0 rfl) ?_
  refine lv_iconst (v := iv (-1)) hx hb dX12_isUnder_3 rfl ?_
  refine xb_icmp_eq (tgt := 22) hx hb (by unfold ir; omega) (by unfold ir; omega) dX12_isUnder_4 (by decide) (fun c_4 => ?_) (fun c_4 => ?_)
  · refine lv_iload_n hx hb dX12_isUnder_22 rfl (lv_at hl 0 rfl) ?_
    refine lv_iload_n hx hb dX12_isUnder_23 rfl (lv_at hl 3 rfl) ?_
    refine xb_icmp_ne (tgt := 31) hx hb (by unfold ir; omega) (by unfold ir; omega) dX12_isUnder_24 (by decide) (fun c_24 => ?_) (fun c_24 => ?_)
    · refine lv_iconst (v := iv 0) hx hb dX12_isUnder_31 rfl ?_
      exact xr_i G (x := 0) hret hlk (by unfold ir; omega) (zr (by omega)) dX12_isUnder_32 ⟨rfl, (by omega)⟩
    · refine lv_iconst (v := iv 1) hx hb dX12_isUnder_27 rfl ?_
      refine lv_goto (tgt := 32) hx hb dX12_isUnder_28 (by decide) ?_
      exact xr_i G (x := 1) hret hlk (by unfold ir; omega) (zr (by omega)) dX12_isUnder_32 ⟨rfl, (by omega)⟩
  · refine lv_iload_n hx hb dX12_isUnder_7 rfl (lv_at hl 0 rfl) ?_
    refine lv_iload_n hx hb dX12_isUnder_8 rfl (lv_at hl 3 rfl) ?_
    refine xb_icmp_eq (tgt := 22) hx hb (by unfold ir; omega) (by unfold ir; omega) dX12_isUnder_9 (by decide) (fun c_9 => ?_) (fun c_9 => ?_)
    · refine lv_iload_n hx hb dX12_isUnder_22 rfl (lv_at hl 0 rfl) ?_
      refine lv_iload_n hx hb dX12_isUnder_23 rfl (lv_at hl 3 rfl) ?_
      refine xb_icmp_ne (tgt := 31) hx hb (by unfold ir; omega) (by unfold ir; omega) dX12_isUnder_24 (by decide) (fun c_24 => ?_) (fun c_24 => ?_)
      · refine lv_iconst (v := iv 0) hx hb dX12_isUnder_31 rfl ?_
        exact xr_i G (x := 0) hret hlk (by unfold ir; omega) (zr (by omega)) dX12_isUnder_32 ⟨rfl, (by omega)⟩
      · refine lv_iconst (v := iv 1) hx hb dX12_isUnder_27 rfl ?_
        refine lv_goto (tgt := 32) hx hb dX12_isUnder_28 (by decide) ?_
        exact xr_i G (x := 1) hret hlk (by unfold ir; omega) (zr (by omega)) dX12_isUnder_32 ⟨rfl, (by omega)⟩
    · have hm_ := mrk_go hrk (k := k9) (by omega) (by omega)
      refine lv_aload_n hx hb dX12_isUnder_12 rfl (lv_at hl 1 rfl) ?_
      refine xa_getr G fd_X12 (a := 111) (x := 114) 5 rfl (by decide) rfl (wm 7 154 rfl rfl) ⟨rfl, rfl, rfl⟩ dX12_isUnder_13 rfl (G.sk 112 rfl) (by decide) rfl ?_
      refine lv_iload_n hx hb dX12_isUnder_16 rfl (lv_at hl 0 rfl) ?_
      refine xa_iald G (a := 114) (i := k9) rfl (by have h9 := G.lc (a := 114) (n := 64) 52 rfl; omega) dX12_isUnder_17 rfl ?_
      have hr_6 : -2147483648 ≤ μ.1 114 k9 ∧ μ.1 114 k9 ≤ 2147483647 := by have h9 := G.hr (a := 114) (k := k9) rfl; exact h9
      refine lv_istore_n (lv' := [(3, .int (iv (μ.1 114 k9))), (0, .ref (oP ω 111)), (1, .int (iv x1)), (2, .int (iv x2))]) hx hb dX12_isUnder_18 rfl hl (by decide) rfl (fun ls hl => ?_)
      refine lv_goto (tgt := 2) hx hb dX12_isUnder_19 (by decide) ?_
      exact ih _ _ _ _ _ _ _ (by omega) ⟨μ.1 114 k9, rfl, (by omega), (by omega), rfl, lv_sub hl [0, 1, 2, 3] rfl⟩ G

set_option maxHeartbeats 4000000 in
set_option maxRecDepth 100000 in
theorem c_X12_lies (ω : Om) (l : Launch) (μ : M3) (x1 : Int) (x2 : Int) (x3 : Int) (x4 : Int) (yo : Int) (hx1 : ir x1) (hx2 : ir x2) (hx3 : jr x3) (hx4 : ir x4) (hyo : yo = μ.1 111 81) (hMZ : MZ μ) (hq4 : 0 ≤ x4 ∧ x4 < 900) (hg1 : x1 = 2 ∨ x2 = 4 → 0 ≤ x3 ∧ x3 < μ.1 111 82) (hp : μ.1 141 x4 = 2 ∨ (μ.1 141 x4 = 1 ∧ μ.1 142 x4 = 4) → 0 ≤ μ.1 143 x4 ∧ μ.1 143 x4 < μ.1 111 82) (hsy : yo + 1 + μ.1 111 61 ≤ 2 * μ.1 111 83) : CtV ω l yX12_lies cX12_lies 8 0 0 [.ref (oP ω 111), .int (iv x1), .int (iv x2), .long (jv x3), .int (iv x4)] μ (fun (μ' : M3) => (FrM [111, 157, 158, 159] μ μ') ∧ (∀ j, j ∉ ([81] : List Int) → μ'.1 111 j = μ.1 111 j) ∧ (MZ μ')) := by
  refine CtV.go (by decide) (Nat.le_of_ble_eq_true rfl) (fun ρ p e s m below meth c R ls G hR hret hlk hl => ?_)
  have hx := G.1.1
  have hb := G.1.2.1
  have hl : lv_has ls 8 [(0, .ref (oP ω 111)), (1, .int (iv x1)), (2, .int (iv x2)), (3, .long (jv x3)), (5, .int (iv x4))] := hl
  generalize s.drawn = d0 at G ⊢
  have hr_x1 : -2147483648 ≤ x1 ∧ x1 ≤ 2147483647 := hx1
  have hr_x2 : -2147483648 ≤ x2 ∧ x2 ≤ 2147483647 := hx2
  have hr_x4 : -2147483648 ≤ x4 ∧ x4 ≤ 2147483647 := hx4
  have hzn_ := hMZ.n
  obtain ⟨hz47, hzFB, hzFL, hz81, hz82, hz84, hz65, hz4, hz104⟩ := hzn_
  refine lv_iload_n hx hb dX12_lies_0 rfl (lv_at hl 1 rfl) ?_
  refine lv_iconst (v := iv 2) hx hb dX12_lies_1 rfl ?_
  refine xb_icmp_eq (tgt := 10) hx hb (by unfold ir; omega) (by unfold ir; omega) dX12_lies_2 (by decide) (fun c_2 => ?_) (fun c_2 => ?_)
  · refine lv_lload_n hx hb dX12_lies_10 rfl (lv_at hl 3 rfl) ?_
    refine xb_l2i hx hb dX12_lies_11 ?_
    refine xb_topi (fun y_1 hr_y_1 he_y_1 => ?_)
    have hr_y_1 : -2147483648 ≤ y_1 ∧ y_1 ≤ 2147483647 := hr_y_1
    have hli_y_1 : ir x3 → y_1 = x3 := fun h9 => (iv_eq hr_y_1 h9).mp he_y_1
    unfold ir at hli_y_1
    refine lv_goto (tgt := 16) hx hb dX12_lies_12 (by decide) ?_
    refine lv_istore (lv' := [(6, .int (iv y_1)), (0, .ref (oP ω 111)), (1, .int (iv x1)), (2, .int (iv x2)), (3, .long (jv x3)), (5, .int (iv x4))]) hx hb dX12_lies_16 hl (by decide) rfl (fun ls hl => ?_)
    refine lv_aload_n hx hb dX12_lies_18 rfl (lv_at hl 1 rfl) ?_
    refine xa_getr G fd_X12 (a := 111) (x := 141) 58 rfl (by decide) rfl (wm 7 207 rfl rfl) ⟨rfl, rfl, rfl⟩ dX12_lies_19 rfl (G.sk 139 rfl) (by decide) rfl ?_
    refine lv_iload hx hb dX12_lies_22 (lv_at hl 5 rfl) ?_
    refine xa_iald G (a := 141) (i := x4) rfl (by have h9 := G.lc (a := 141) (n := 900) 79 rfl; omega) dX12_lies_24 rfl ?_
    have hr_2 : -2147483648 ≤ μ.1 141 x4 ∧ μ.1 141 x4 ≤ 2147483647 := by have h9 := G.hr (a := 141) (k := x4) rfl; exact h9
    refine lv_iconst (v := iv 2) hx hb dX12_lies_25 rfl ?_
    refine xb_icmp_eq (tgt := 51) hx hb (by unfold ir; omega) (by unfold ir; omega) dX12_lies_26 (by decide) (fun c_26 => ?_) (fun c_26 => ?_)
    · refine lv_aload_n hx hb dX12_lies_51 rfl (lv_at hl 1 rfl) ?_
      refine xa_getr G fd_X12 (a := 111) (x := 143) 60 rfl (by decide) rfl (wm 7 209 rfl rfl) ⟨rfl, rfl, rfl⟩ dX12_lies_52 rfl (G.sk 141 rfl) (by decide) rfl ?_
      refine lv_iload hx hb dX12_lies_55 (lv_at hl 5 rfl) ?_
      refine xa_lald G (a := 143) (i := x4) rfl (by have h9 := G.lc (a := 143) (n := 900) 81 rfl; omega) dX12_lies_57 rfl ?_
      have hj_3 : jr (μ.1 143 x4) := (by have h9 := G.hj (a := 143) (k := x4) rfl; exact h9)
      refine xb_l2i hx hb dX12_lies_58 ?_
      refine xb_topi (fun y_4 hr_y_4 he_y_4 => ?_)
      have hr_y_4 : -2147483648 ≤ y_4 ∧ y_4 ≤ 2147483647 := hr_y_4
      have hli_y_4 : ir (μ.1 143 x4) → y_4 = μ.1 143 x4 := fun h9 => (iv_eq hr_y_4 h9).mp he_y_4
      unfold ir at hli_y_4
      refine lv_goto (tgt := 63) hx hb dX12_lies_59 (by decide) ?_
      refine lv_istore (lv' := [(7, .int (iv y_4)), (6, .int (iv y_1)), (0, .ref (oP ω 111)), (1, .int (iv x1)), (2, .int (iv x2)), (3, .long (jv x3)), (5, .int (iv x4))]) hx hb dX12_lies_63 hl (by decide) rfl (fun ls hl => ?_)
      refine lv_iload hx hb dX12_lies_65 (lv_at hl 1 rfl) ?_
      refine lv_iconst (v := iv (-1)) hx hb dX12_lies_67 rfl ?_
      refine xb_icmp_eq (tgt := 84) hx hb (by unfold ir; omega) (by unfold ir; omega) dX12_lies_68 (by decide) (fun c_68 => ?_) (fun c_68 => ?_)
      · exact xr_v G hret hlk dX12_lies_84 ⟨FrM.rf, (fun j hj => rfl), hMZ⟩
      · refine lv_iload hx hb dX12_lies_71 (lv_at hl 0 rfl) ?_
        refine lv_iconst (v := iv (-1)) hx hb dX12_lies_73 rfl ?_
        refine xb_icmp_eq (tgt := 84) hx hb (by unfold ir; omega) (by unfold ir; omega) dX12_lies_74 (by decide) (fun c_74 => ?_) (fun c_74 => ?_)
        · exact xr_v G hret hlk dX12_lies_84 ⟨FrM.rf, (fun j hj => rfl), hMZ⟩
        · refine lv_iload hx hb dX12_lies_77 (lv_at hl 1 rfl) ?_
          refine lv_iload hx hb dX12_lies_79 (lv_at hl 0 rfl) ?_
          refine xb_icmp_ne (tgt := 85) hx hb (by unfold ir; omega) (by unfold ir; omega) dX12_lies_81 (by decide) (fun c_81 => ?_) (fun c_81 => ?_)
          · refine lv_aload_n hx hb dX12_lies_85 rfl (lv_at hl 2 rfl) ?_
            refine xa_getr G fd_X12 (a := 111) (x := 158) 79 rfl (by decide) rfl (wm 7 228 rfl rfl) ⟨rfl, rfl, rfl⟩ dX12_lies_86 rfl (G.sk 156 rfl) (by decide) rfl ?_
            refine lv_aload_n hx hb dX12_lies_89 rfl (lv_at hl 2 rfl) ?_
            refine xa_geti G fd_X12 (a := 111) (x := yo) 81 rfl (by decide) rfl (wm 7 230 rfl rfl) ⟨rfl, rfl, rfl⟩ dX12_lies_90 rfl hyo.symm ?_
            have hr_5 : -2147483648 ≤ yo ∧ yo ≤ 2147483647 := by have h9 := G.hr (a := 111) (k := 81) rfl; rw [show μ.1 111 81 = yo from hyo.symm] at h9; exact h9
            refine lv_iload hx hb dX12_lies_93 (lv_at hl 0 rfl) ?_
            refine xa_iast G (a := 158) (i := yo) (x := y_4) rfl (by have h9 := G.lc (a := 158) (n := 12000) 96 rfl; omega) (by unfold ir; omega) dX12_lies_95 rfl (fun H locs G => ?_)
            refine lv_aload_n hx hb dX12_lies_96 rfl (lv_at hl 2 rfl) ?_
            refine xa_getr G fd_X12 (a := 111) (x := 159) 80 rfl (by decide) rfl (wm 7 229 rfl rfl) ⟨rfl, rfl, rfl⟩ dX12_lies_97 rfl (G.sk 157 rfl) (by decide) rfl ?_
            refine lv_aload_n hx hb dX12_lies_100 rfl (lv_at hl 2 rfl) ?_
            refine xa_geti G fd_X12 (a := 111) (x := yo) 81 rfl (by decide) rfl (wm 7 230 rfl rfl) ⟨rfl, rfl, rfl⟩ dX12_lies_101 rfl ((sv_n _ (fun h9 => absurd h9.1 (by decide))).trans hyo.symm) ?_
            refine lv_aload_n hx hb dX12_lies_104 rfl (lv_at hl 2 rfl) ?_
            refine xa_getr G fd_X12 (a := 111) (x := 157) 78 rfl (by decide) rfl (wm 7 227 rfl rfl) ⟨rfl, rfl, rfl⟩ dX12_lies_105 rfl (G.sk 155 rfl) (by decide) rfl ?_
            refine lv_iload hx hb dX12_lies_108 (lv_at hl 1 rfl) ?_
            refine xa_iald G (a := 157) (i := y_1) rfl (by have h9 := G.lc (a := 157) (n := 12000) 95 rfl; omega) dX12_lies_110 rfl ?_
            refine xb_ti (y := μ.1 157 y_1) (sv_n _ (fun h9 => absurd h9.1 (by decide))) ?_
            have hr_6 : -2147483648 ≤ μ.1 157 y_1 ∧ μ.1 157 y_1 ≤ 2147483647 := by have h9 := G.hr (a := 157) (k := y_1) rfl; rw [(sv_n _ (fun h9 => absurd h9.1 (by decide)))] at h9; exact h9
            refine xa_iast G (a := 159) (i := yo) (x := μ.1 157 y_1) rfl (by have h9 := G.lc (a := 159) (n := 12000) 97 rfl; omega) (by unfold ir; omega) dX12_lies_111 rfl (fun H locs G => ?_)
            refine lv_aload_n hx hb dX12_lies_112 rfl (lv_at hl 2 rfl) ?_
            refine xa_getr G fd_X12 (a := 111) (x := 157) 78 rfl (by decide) rfl (wm 7 227 rfl rfl) ⟨rfl, rfl, rfl⟩ dX12_lies_113 rfl (G.sk 155 rfl) (by decide) rfl ?_
            refine lv_iload hx hb dX12_lies_116 (lv_at hl 1 rfl) ?_
            refine lv_aload_n hx hb dX12_lies_118 rfl (lv_at hl 2 rfl) ?_
            refine xa_geti G fd_X12 (a := 111) (x := yo) 81 rfl (by decide) rfl (wm 7 230 rfl rfl) ⟨rfl, rfl, rfl⟩ dX12_lies_119 rfl ((sv_n _ (fun h9 => absurd h9.1 (by decide))).trans ((sv_n _ (fun h9 => absurd h9.1 (by decide))).trans hyo.symm)) ?_
            refine xa_iast G (a := 157) (i := y_1) (x := yo) rfl (by have h9 := G.lc (a := 157) (n := 12000) 95 rfl; omega) (by unfold ir; omega) dX12_lies_122 rfl (fun H locs G => ?_)
            refine lv_aload_n hx hb dX12_lies_123 rfl (lv_at hl 2 rfl) ?_
            refine lv_dup hx hb dX12_lies_124 rfl ?_
            refine xa_geti G fd_X12 (a := 111) (x := yo) 81 rfl (by decide) rfl (wm 7 230 rfl rfl) ⟨rfl, rfl, rfl⟩ dX12_lies_125 rfl ((sv_n _ (fun h9 => absurd h9.1 (by decide))).trans ((sv_n _ (fun h9 => absurd h9.1 (by decide))).trans ((sv_n _ (fun h9 => absurd h9.1 (by decide))).trans hyo.symm))) ?_
            refine lv_iconst (v := iv 1) hx hb dX12_lies_128 rfl ?_
            refine xb_iadd hx hb dX12_lies_129 ?_
            refine xa_puti G fd_X12 (a := 111) (x := yo + 1) 81 (kz := 81) rfl rfl (by decide) rfl (by unfold ir; omega) (wm 7 230 rfl rfl) ⟨rfl, rfl, rfl, rfl⟩ rfl dX12_lies_130 rfl (fun H locs G => ?_)
            exact xr_v G hret hlk dX12_lies_133 ⟨(FrM.put (FrM.put (FrM.put (FrM.put FrM.rf (by decide)) (by decide)) (by decide)) (by decide)), (fun j hj => ((sv_n _ (fun h9 => hj (by rw [h9.2]; decide))).trans ((sv_n _ (fun h9 => absurd h9.1 (by decide))).trans ((sv_n _ (fun h9 => absurd h9.1 (by decide))).trans (sv_n _ (fun h9 => absurd h9.1 (by decide))))))), (MZ.ly (g := y_1) hMZ (Eqa.fr (L := [111, 157, 159, 158]) (FrM.put (FrM.put (FrM.put (FrM.put FrM.rf (by decide)) (by decide)) (by decide)) (by decide)) (by decide)) (Eqf.fd (L := [81]) (fun j hj => ((sv_n _ (fun h9 => hj (by rw [h9.2]; decide))).trans ((sv_n _ (fun h9 => absurd h9.1 (by decide))).trans ((sv_n _ (fun h9 => absurd h9.1 (by decide))).trans (sv_n _ (fun h9 => absurd h9.1 (by decide))))))) (by decide)) (by have h9 : (sv (sv (sv (sv μ 158 yo y_4) 159 yo (μ.1 157 y_1)) 157 y_1 yo) 111 81 (yo + 1)).1 111 81 = yo + 1 := (sv_s _ _ _ _); omega) (by omega) (fun a ha j hj => by rw [← hyo] at hj; simp only [List.mem_cons, List.not_mem_nil, or_false] at ha; rcases ha with rfl | rfl; exact ((sv_n _ (by omega)).trans ((sv_n _ (by omega)).trans ((sv_n _ (by omega)).trans (sv_n _ (by omega))))); exact ((sv_n _ (by omega)).trans ((sv_n _ (by omega)).trans ((sv_n _ (by omega)).trans (sv_n _ (by omega)))))) (fun j hj => ((sv_n _ (by omega)).trans ((sv_n _ (by omega)).trans ((sv_n _ (by omega)).trans (sv_n _ (by omega)))))) (by rw [← hyo]; exact ((sv_n _ (fun h9 => absurd h9.1 (by decide))).trans (sv_s _ _ _ _))) (by rw [← hyo, (show (sv (sv (sv (sv μ 158 yo y_4) 159 yo (μ.1 157 y_1)) 157 y_1 yo) 111 81 (yo + 1)).1 158 yo = y_4 from ((sv_n _ (fun h9 => absurd h9.1 (by decide))).trans ((sv_n _ (fun h9 => absurd h9.1 (by decide))).trans ((sv_n _ (fun h9 => absurd h9.1 (by decide))).trans (sv_s _ _ _ _)))))]; omega) (by rw [← hyo, (show (sv (sv (sv (sv μ 158 yo y_4) 159 yo (μ.1 157 y_1)) 157 y_1 yo) 111 81 (yo + 1)).1 159 yo = μ.1 157 y_1 from ((sv_n _ (fun h9 => absurd h9.1 (by decide))).trans ((sv_n _ (fun h9 => absurd h9.1 (by decide))).trans (sv_s _ _ _ _))))]; have h9 := (hMZ.1.2.2.2.1.2.1 y_1 (by omega) (by omega)).2.2.2; omega))⟩
          · exact xr_v G hret hlk dX12_lies_84 ⟨FrM.rf, (fun j hj => rfl), hMZ⟩
    · refine lv_aload_n hx hb dX12_lies_29 rfl (lv_at hl 1 rfl) ?_
      refine xa_getr G fd_X12 (a := 111) (x := 141) 58 rfl (by decide) rfl (wm 7 207 rfl rfl) ⟨rfl, rfl, rfl⟩ dX12_lies_30 rfl (G.sk 139 rfl) (by decide) rfl ?_
      refine lv_iload hx hb dX12_lies_33 (lv_at hl 5 rfl) ?_
      refine xa_iald G (a := 141) (i := x4) rfl (by have h9 := G.lc (a := 141) (n := 900) 79 rfl; omega) dX12_lies_35 rfl ?_
      refine lv_iconst (v := iv 1) hx hb dX12_lies_36 rfl ?_
      refine xb_icmp_ne (tgt := 62) hx hb (by unfold ir; omega) (by unfold ir; omega) dX12_lies_37 (by decide) (fun c_37 => ?_) (fun c_37 => ?_)
      · refine lv_iconst (v := iv (-1)) hx hb dX12_lies_62 rfl ?_
        refine lv_istore (lv' := [(7, .int (iv (-1))), (6, .int (iv y_1)), (0, .ref (oP ω 111)), (1, .int (iv x1)), (2, .int (iv x2)), (3, .long (jv x3)), (5, .int (iv x4))]) hx hb dX12_lies_63 hl (by decide) rfl (fun ls hl => ?_)
        refine lv_iload hx hb dX12_lies_65 (lv_at hl 1 rfl) ?_
        refine lv_iconst (v := iv (-1)) hx hb dX12_lies_67 rfl ?_
        refine xb_icmp_eq (tgt := 84) hx hb (by unfold ir; omega) (by unfold ir; omega) dX12_lies_68 (by decide) (fun c_68 => ?_) (fun c_68 => ?_)
        · exact xr_v G hret hlk dX12_lies_84 ⟨FrM.rf, (fun j hj => rfl), hMZ⟩
        · refine lv_iload hx hb dX12_lies_71 (lv_at hl 0 rfl) ?_
          refine lv_iconst (v := iv (-1)) hx hb dX12_lies_73 rfl ?_
          refine xb_icmp_eq (tgt := 84) hx hb (x := (-1)) (y := (-1)) (by unfold ir; omega) (by unfold ir; omega) dX12_lies_74 (by decide) (fun c_74 => ?_) (fun c_74 => absurd (by decide) c_74)
          exact xr_v G hret hlk dX12_lies_84 ⟨FrM.rf, (fun j hj => rfl), hMZ⟩
      · refine lv_aload_n hx hb dX12_lies_40 rfl (lv_at hl 1 rfl) ?_
        refine xa_getr G fd_X12 (a := 111) (x := 142) 59 rfl (by decide) rfl (wm 7 208 rfl rfl) ⟨rfl, rfl, rfl⟩ dX12_lies_41 rfl (G.sk 140 rfl) (by decide) rfl ?_
        refine lv_iload hx hb dX12_lies_44 (lv_at hl 5 rfl) ?_
        refine xa_iald G (a := 142) (i := x4) rfl (by have h9 := G.lc (a := 142) (n := 900) 80 rfl; omega) dX12_lies_46 rfl ?_
        have hr_7 : -2147483648 ≤ μ.1 142 x4 ∧ μ.1 142 x4 ≤ 2147483647 := by have h9 := G.hr (a := 142) (k := x4) rfl; exact h9
        refine lv_iconst (v := iv 4) hx hb dX12_lies_47 rfl ?_
        refine xb_icmp_ne (tgt := 62) hx hb (by unfold ir; omega) (by unfold ir; omega) dX12_lies_48 (by decide) (fun c_48 => ?_) (fun c_48 => ?_)
        · refine lv_iconst (v := iv (-1)) hx hb dX12_lies_62 rfl ?_
          refine lv_istore (lv' := [(7, .int (iv (-1))), (6, .int (iv y_1)), (0, .ref (oP ω 111)), (1, .int (iv x1)), (2, .int (iv x2)), (3, .long (jv x3)), (5, .int (iv x4))]) hx hb dX12_lies_63 hl (by decide) rfl (fun ls hl => ?_)
          refine lv_iload hx hb dX12_lies_65 (lv_at hl 1 rfl) ?_
          refine lv_iconst (v := iv (-1)) hx hb dX12_lies_67 rfl ?_
          refine xb_icmp_eq (tgt := 84) hx hb (by unfold ir; omega) (by unfold ir; omega) dX12_lies_68 (by decide) (fun c_68 => ?_) (fun c_68 => ?_)
          · exact xr_v G hret hlk dX12_lies_84 ⟨FrM.rf, (fun j hj => rfl), hMZ⟩
          · refine lv_iload hx hb dX12_lies_71 (lv_at hl 0 rfl) ?_
            refine lv_iconst (v := iv (-1)) hx hb dX12_lies_73 rfl ?_
            refine xb_icmp_eq (tgt := 84) hx hb (x := (-1)) (y := (-1)) (by unfold ir; omega) (by unfold ir; omega) dX12_lies_74 (by decide) (fun c_74 => ?_) (fun c_74 => absurd (by decide) c_74)
            exact xr_v G hret hlk dX12_lies_84 ⟨FrM.rf, (fun j hj => rfl), hMZ⟩
        · refine lv_aload_n hx hb dX12_lies_51 rfl (lv_at hl 1 rfl) ?_
          refine xa_getr G fd_X12 (a := 111) (x := 143) 60 rfl (by decide) rfl (wm 7 209 rfl rfl) ⟨rfl, rfl, rfl⟩ dX12_lies_52 rfl (G.sk 141 rfl) (by decide) rfl ?_
          refine lv_iload hx hb dX12_lies_55 (lv_at hl 5 rfl) ?_
          refine xa_lald G (a := 143) (i := x4) rfl (by have h9 := G.lc (a := 143) (n := 900) 81 rfl; omega) dX12_lies_57 rfl ?_
          have hj_8 : jr (μ.1 143 x4) := (by have h9 := G.hj (a := 143) (k := x4) rfl; exact h9)
          refine xb_l2i hx hb dX12_lies_58 ?_
          refine xb_topi (fun y_9 hr_y_9 he_y_9 => ?_)
          have hr_y_9 : -2147483648 ≤ y_9 ∧ y_9 ≤ 2147483647 := hr_y_9
          have hli_y_9 : ir (μ.1 143 x4) → y_9 = μ.1 143 x4 := fun h9 => (iv_eq hr_y_9 h9).mp he_y_9
          unfold ir at hli_y_9
          refine lv_goto (tgt := 63) hx hb dX12_lies_59 (by decide) ?_
          refine lv_istore (lv' := [(7, .int (iv y_9)), (6, .int (iv y_1)), (0, .ref (oP ω 111)), (1, .int (iv x1)), (2, .int (iv x2)), (3, .long (jv x3)), (5, .int (iv x4))]) hx hb dX12_lies_63 hl (by decide) rfl (fun ls hl => ?_)
          refine lv_iload hx hb dX12_lies_65 (lv_at hl 1 rfl) ?_
          refine lv_iconst (v := iv (-1)) hx hb dX12_lies_67 rfl ?_
          refine xb_icmp_eq (tgt := 84) hx hb (by unfold ir; omega) (by unfold ir; omega) dX12_lies_68 (by decide) (fun c_68 => ?_) (fun c_68 => ?_)
          · exact xr_v G hret hlk dX12_lies_84 ⟨FrM.rf, (fun j hj => rfl), hMZ⟩
          · refine lv_iload hx hb dX12_lies_71 (lv_at hl 0 rfl) ?_
            refine lv_iconst (v := iv (-1)) hx hb dX12_lies_73 rfl ?_
            refine xb_icmp_eq (tgt := 84) hx hb (by unfold ir; omega) (by unfold ir; omega) dX12_lies_74 (by decide) (fun c_74 => ?_) (fun c_74 => ?_)
            · exact xr_v G hret hlk dX12_lies_84 ⟨FrM.rf, (fun j hj => rfl), hMZ⟩
            · refine lv_iload hx hb dX12_lies_77 (lv_at hl 1 rfl) ?_
              refine lv_iload hx hb dX12_lies_79 (lv_at hl 0 rfl) ?_
              refine xb_icmp_ne (tgt := 85) hx hb (by unfold ir; omega) (by unfold ir; omega) dX12_lies_81 (by decide) (fun c_81 => ?_) (fun c_81 => ?_)
              · refine lv_aload_n hx hb dX12_lies_85 rfl (lv_at hl 2 rfl) ?_
                refine xa_getr G fd_X12 (a := 111) (x := 158) 79 rfl (by decide) rfl (wm 7 228 rfl rfl) ⟨rfl, rfl, rfl⟩ dX12_lies_86 rfl (G.sk 156 rfl) (by decide) rfl ?_
                refine lv_aload_n hx hb dX12_lies_89 rfl (lv_at hl 2 rfl) ?_
                refine xa_geti G fd_X12 (a := 111) (x := yo) 81 rfl (by decide) rfl (wm 7 230 rfl rfl) ⟨rfl, rfl, rfl⟩ dX12_lies_90 rfl hyo.symm ?_
                have hr_10 : -2147483648 ≤ yo ∧ yo ≤ 2147483647 := by have h9 := G.hr (a := 111) (k := 81) rfl; rw [show μ.1 111 81 = yo from hyo.symm] at h9; exact h9
                refine lv_iload hx hb dX12_lies_93 (lv_at hl 0 rfl) ?_
                refine xa_iast G (a := 158) (i := yo) (x := y_9) rfl (by have h9 := G.lc (a := 158) (n := 12000) 96 rfl; omega) (by unfold ir; omega) dX12_lies_95 rfl (fun H locs G => ?_)
                refine lv_aload_n hx hb dX12_lies_96 rfl (lv_at hl 2 rfl) ?_
                refine xa_getr G fd_X12 (a := 111) (x := 159) 80 rfl (by decide) rfl (wm 7 229 rfl rfl) ⟨rfl, rfl, rfl⟩ dX12_lies_97 rfl (G.sk 157 rfl) (by decide) rfl ?_
                refine lv_aload_n hx hb dX12_lies_100 rfl (lv_at hl 2 rfl) ?_
                refine xa_geti G fd_X12 (a := 111) (x := yo) 81 rfl (by decide) rfl (wm 7 230 rfl rfl) ⟨rfl, rfl, rfl⟩ dX12_lies_101 rfl ((sv_n _ (fun h9 => absurd h9.1 (by decide))).trans hyo.symm) ?_
                refine lv_aload_n hx hb dX12_lies_104 rfl (lv_at hl 2 rfl) ?_
                refine xa_getr G fd_X12 (a := 111) (x := 157) 78 rfl (by decide) rfl (wm 7 227 rfl rfl) ⟨rfl, rfl, rfl⟩ dX12_lies_105 rfl (G.sk 155 rfl) (by decide) rfl ?_
                refine lv_iload hx hb dX12_lies_108 (lv_at hl 1 rfl) ?_
                refine xa_iald G (a := 157) (i := y_1) rfl (by have h9 := G.lc (a := 157) (n := 12000) 95 rfl; omega) dX12_lies_110 rfl ?_
                refine xb_ti (y := μ.1 157 y_1) (sv_n _ (fun h9 => absurd h9.1 (by decide))) ?_
                have hr_11 : -2147483648 ≤ μ.1 157 y_1 ∧ μ.1 157 y_1 ≤ 2147483647 := by have h9 := G.hr (a := 157) (k := y_1) rfl; rw [(sv_n _ (fun h9 => absurd h9.1 (by decide)))] at h9; exact h9
                refine xa_iast G (a := 159) (i := yo) (x := μ.1 157 y_1) rfl (by have h9 := G.lc (a := 159) (n := 12000) 97 rfl; omega) (by unfold ir; omega) dX12_lies_111 rfl (fun H locs G => ?_)
                refine lv_aload_n hx hb dX12_lies_112 rfl (lv_at hl 2 rfl) ?_
                refine xa_getr G fd_X12 (a := 111) (x := 157) 78 rfl (by decide) rfl (wm 7 227 rfl rfl) ⟨rfl, rfl, rfl⟩ dX12_lies_113 rfl (G.sk 155 rfl) (by decide) rfl ?_
                refine lv_iload hx hb dX12_lies_116 (lv_at hl 1 rfl) ?_
                refine lv_aload_n hx hb dX12_lies_118 rfl (lv_at hl 2 rfl) ?_
                refine xa_geti G fd_X12 (a := 111) (x := yo) 81 rfl (by decide) rfl (wm 7 230 rfl rfl) ⟨rfl, rfl, rfl⟩ dX12_lies_119 rfl ((sv_n _ (fun h9 => absurd h9.1 (by decide))).trans ((sv_n _ (fun h9 => absurd h9.1 (by decide))).trans hyo.symm)) ?_
                refine xa_iast G (a := 157) (i := y_1) (x := yo) rfl (by have h9 := G.lc (a := 157) (n := 12000) 95 rfl; omega) (by unfold ir; omega) dX12_lies_122 rfl (fun H locs G => ?_)
                refine lv_aload_n hx hb dX12_lies_123 rfl (lv_at hl 2 rfl) ?_
                refine lv_dup hx hb dX12_lies_124 rfl ?_
                refine xa_geti G fd_X12 (a := 111) (x := yo) 81 rfl (by decide) rfl (wm 7 230 rfl rfl) ⟨rfl, rfl, rfl⟩ dX12_lies_125 rfl ((sv_n _ (fun h9 => absurd h9.1 (by decide))).trans ((sv_n _ (fun h9 => absurd h9.1 (by decide))).trans ((sv_n _ (fun h9 => absurd h9.1 (by decide))).trans hyo.symm))) ?_
                refine lv_iconst (v := iv 1) hx hb dX12_lies_128 rfl ?_
                refine xb_iadd hx hb dX12_lies_129 ?_
                refine xa_puti G fd_X12 (a := 111) (x := yo + 1) 81 (kz := 81) rfl rfl (by decide) rfl (by unfold ir; omega) (wm 7 230 rfl rfl) ⟨rfl, rfl, rfl, rfl⟩ rfl dX12_lies_130 rfl (fun H locs G => ?_)
                exact xr_v G hret hlk dX12_lies_133 ⟨(FrM.put (FrM.put (FrM.put (FrM.put FrM.rf (by decide)) (by decide)) (by decide)) (by decide)), (fun j hj => ((sv_n _ (fun h9 => hj (by rw [h9.2]; decide))).trans ((sv_n _ (fun h9 => absurd h9.1 (by decide))).trans ((sv_n _ (fun h9 => absurd h9.1 (by decide))).trans (sv_n _ (fun h9 => absurd h9.1 (by decide))))))), (MZ.ly (g := y_1) hMZ (Eqa.fr (L := [111, 157, 159, 158]) (FrM.put (FrM.put (FrM.put (FrM.put FrM.rf (by decide)) (by decide)) (by decide)) (by decide)) (by decide)) (Eqf.fd (L := [81]) (fun j hj => ((sv_n _ (fun h9 => hj (by rw [h9.2]; decide))).trans ((sv_n _ (fun h9 => absurd h9.1 (by decide))).trans ((sv_n _ (fun h9 => absurd h9.1 (by decide))).trans (sv_n _ (fun h9 => absurd h9.1 (by decide))))))) (by decide)) (by have h9 : (sv (sv (sv (sv μ 158 yo y_9) 159 yo (μ.1 157 y_1)) 157 y_1 yo) 111 81 (yo + 1)).1 111 81 = yo + 1 := (sv_s _ _ _ _); omega) (by omega) (fun a ha j hj => by rw [← hyo] at hj; simp only [List.mem_cons, List.not_mem_nil, or_false] at ha; rcases ha with rfl | rfl; exact ((sv_n _ (by omega)).trans ((sv_n _ (by omega)).trans ((sv_n _ (by omega)).trans (sv_n _ (by omega))))); exact ((sv_n _ (by omega)).trans ((sv_n _ (by omega)).trans ((sv_n _ (by omega)).trans (sv_n _ (by omega)))))) (fun j hj => ((sv_n _ (by omega)).trans ((sv_n _ (by omega)).trans ((sv_n _ (by omega)).trans (sv_n _ (by omega)))))) (by rw [← hyo]; exact ((sv_n _ (fun h9 => absurd h9.1 (by decide))).trans (sv_s _ _ _ _))) (by rw [← hyo, (show (sv (sv (sv (sv μ 158 yo y_9) 159 yo (μ.1 157 y_1)) 157 y_1 yo) 111 81 (yo + 1)).1 158 yo = y_9 from ((sv_n _ (fun h9 => absurd h9.1 (by decide))).trans ((sv_n _ (fun h9 => absurd h9.1 (by decide))).trans ((sv_n _ (fun h9 => absurd h9.1 (by decide))).trans (sv_s _ _ _ _)))))]; omega) (by rw [← hyo, (show (sv (sv (sv (sv μ 158 yo y_9) 159 yo (μ.1 157 y_1)) 157 y_1 yo) 111 81 (yo + 1)).1 159 yo = μ.1 157 y_1 from ((sv_n _ (fun h9 => absurd h9.1 (by decide))).trans ((sv_n _ (fun h9 => absurd h9.1 (by decide))).trans (sv_s _ _ _ _))))]; have h9 := (hMZ.1.2.2.2.1.2.1 y_1 (by omega) (by omega)).2.2.2; omega))⟩
              · exact xr_v G hret hlk dX12_lies_84 ⟨FrM.rf, (fun j hj => rfl), hMZ⟩
  · refine lv_iload_n hx hb dX12_lies_5 rfl (lv_at hl 2 rfl) ?_
    refine lv_iconst (v := iv 4) hx hb dX12_lies_6 rfl ?_
    refine xb_icmp_ne (tgt := 15) hx hb (by unfold ir; omega) (by unfold ir; omega) dX12_lies_7 (by decide) (fun c_7 => ?_) (fun c_7 => ?_)
    · refine lv_iconst (v := iv (-1)) hx hb dX12_lies_15 rfl ?_
      refine lv_istore (lv' := [(6, .int (iv (-1))), (0, .ref (oP ω 111)), (1, .int (iv x1)), (2, .int (iv x2)), (3, .long (jv x3)), (5, .int (iv x4))]) hx hb dX12_lies_16 hl (by decide) rfl (fun ls hl => ?_)
      refine lv_aload_n hx hb dX12_lies_18 rfl (lv_at hl 1 rfl) ?_
      refine xa_getr G fd_X12 (a := 111) (x := 141) 58 rfl (by decide) rfl (wm 7 207 rfl rfl) ⟨rfl, rfl, rfl⟩ dX12_lies_19 rfl (G.sk 139 rfl) (by decide) rfl ?_
      refine lv_iload hx hb dX12_lies_22 (lv_at hl 5 rfl) ?_
      refine xa_iald G (a := 141) (i := x4) rfl (by have h9 := G.lc (a := 141) (n := 900) 79 rfl; omega) dX12_lies_24 rfl ?_
      have hr_12 : -2147483648 ≤ μ.1 141 x4 ∧ μ.1 141 x4 ≤ 2147483647 := by have h9 := G.hr (a := 141) (k := x4) rfl; exact h9
      refine lv_iconst (v := iv 2) hx hb dX12_lies_25 rfl ?_
      refine xb_icmp_eq (tgt := 51) hx hb (by unfold ir; omega) (by unfold ir; omega) dX12_lies_26 (by decide) (fun c_26 => ?_) (fun c_26 => ?_)
      · refine lv_aload_n hx hb dX12_lies_51 rfl (lv_at hl 1 rfl) ?_
        refine xa_getr G fd_X12 (a := 111) (x := 143) 60 rfl (by decide) rfl (wm 7 209 rfl rfl) ⟨rfl, rfl, rfl⟩ dX12_lies_52 rfl (G.sk 141 rfl) (by decide) rfl ?_
        refine lv_iload hx hb dX12_lies_55 (lv_at hl 5 rfl) ?_
        refine xa_lald G (a := 143) (i := x4) rfl (by have h9 := G.lc (a := 143) (n := 900) 81 rfl; omega) dX12_lies_57 rfl ?_
        have hj_13 : jr (μ.1 143 x4) := (by have h9 := G.hj (a := 143) (k := x4) rfl; exact h9)
        refine xb_l2i hx hb dX12_lies_58 ?_
        refine xb_topi (fun y_14 hr_y_14 he_y_14 => ?_)
        have hr_y_14 : -2147483648 ≤ y_14 ∧ y_14 ≤ 2147483647 := hr_y_14
        have hli_y_14 : ir (μ.1 143 x4) → y_14 = μ.1 143 x4 := fun h9 => (iv_eq hr_y_14 h9).mp he_y_14
        unfold ir at hli_y_14
        refine lv_goto (tgt := 63) hx hb dX12_lies_59 (by decide) ?_
        refine lv_istore (lv' := [(7, .int (iv y_14)), (6, .int (iv (-1))), (0, .ref (oP ω 111)), (1, .int (iv x1)), (2, .int (iv x2)), (3, .long (jv x3)), (5, .int (iv x4))]) hx hb dX12_lies_63 hl (by decide) rfl (fun ls hl => ?_)
        refine lv_iload hx hb dX12_lies_65 (lv_at hl 1 rfl) ?_
        refine lv_iconst (v := iv (-1)) hx hb dX12_lies_67 rfl ?_
        refine xb_icmp_eq (tgt := 84) hx hb (x := (-1)) (y := (-1)) (by unfold ir; omega) (by unfold ir; omega) dX12_lies_68 (by decide) (fun c_68 => ?_) (fun c_68 => absurd (by decide) c_68)
        exact xr_v G hret hlk dX12_lies_84 ⟨FrM.rf, (fun j hj => rfl), hMZ⟩
      · refine lv_aload_n hx hb dX12_lies_29 rfl (lv_at hl 1 rfl) ?_
        refine xa_getr G fd_X12 (a := 111) (x := 141) 58 rfl (by decide) rfl (wm 7 207 rfl rfl) ⟨rfl, rfl, rfl⟩ dX12_lies_30 rfl (G.sk 139 rfl) (by decide) rfl ?_
        refine lv_iload hx hb dX12_lies_33 (lv_at hl 5 rfl) ?_
        refine xa_iald G (a := 141) (i := x4) rfl (by have h9 := G.lc (a := 141) (n := 900) 79 rfl; omega) dX12_lies_35 rfl ?_
        refine lv_iconst (v := iv 1) hx hb dX12_lies_36 rfl ?_
        refine xb_icmp_ne (tgt := 62) hx hb (by unfold ir; omega) (by unfold ir; omega) dX12_lies_37 (by decide) (fun c_37 => ?_) (fun c_37 => ?_)
        · refine lv_iconst (v := iv (-1)) hx hb dX12_lies_62 rfl ?_
          refine lv_istore (lv' := [(7, .int (iv (-1))), (6, .int (iv (-1))), (0, .ref (oP ω 111)), (1, .int (iv x1)), (2, .int (iv x2)), (3, .long (jv x3)), (5, .int (iv x4))]) hx hb dX12_lies_63 hl (by decide) rfl (fun ls hl => ?_)
          refine lv_iload hx hb dX12_lies_65 (lv_at hl 1 rfl) ?_
          refine lv_iconst (v := iv (-1)) hx hb dX12_lies_67 rfl ?_
          refine xb_icmp_eq (tgt := 84) hx hb (x := (-1)) (y := (-1)) (by unfold ir; omega) (by unfold ir; omega) dX12_lies_68 (by decide) (fun c_68 => ?_) (fun c_68 => absurd (by decide) c_68)
          exact xr_v G hret hlk dX12_lies_84 ⟨FrM.rf, (fun j hj => rfl), hMZ⟩
        · refine lv_aload_n hx hb dX12_lies_40 rfl (lv_at hl 1 rfl) ?_
          refine xa_getr G fd_X12 (a := 111) (x := 142) 59 rfl (by decide) rfl (wm 7 208 rfl rfl) ⟨rfl, rfl, rfl⟩ dX12_lies_41 rfl (G.sk 140 rfl) (by decide) rfl ?_
          refine lv_iload hx hb dX12_lies_44 (lv_at hl 5 rfl) ?_
          refine xa_iald G (a := 142) (i := x4) rfl (by have h9 := G.lc (a := 142) (n := 900) 80 rfl; omega) dX12_lies_46 rfl ?_
          have hr_15 : -2147483648 ≤ μ.1 142 x4 ∧ μ.1 142 x4 ≤ 2147483647 := by have h9 := G.hr (a := 142) (k := x4) rfl; exact h9
          refine lv_iconst (v := iv 4) hx hb dX12_lies_47 rfl ?_
          refine xb_icmp_ne (tgt := 62) hx hb (by unfold ir; omega) (by unfold ir; omega) dX12_lies_48 (by decide) (fun c_48 => ?_) (fun c_48 => ?_)
          · refine lv_iconst (v := iv (-1)) hx hb dX12_lies_62 rfl ?_
            refine lv_istore (lv' := [(7, .int (iv (-1))), (6, .int (iv (-1))), (0, .ref (oP ω 111)), (1, .int (iv x1)), (2, .int (iv x2)), (3, .long (jv x3)), (5, .int (iv x4))]) hx hb dX12_lies_63 hl (by decide) rfl (fun ls hl => ?_)
            refine lv_iload hx hb dX12_lies_65 (lv_at hl 1 rfl) ?_
            refine lv_iconst (v := iv (-1)) hx hb dX12_lies_67 rfl ?_
            refine xb_icmp_eq (tgt := 84) hx hb (x := (-1)) (y := (-1)) (by unfold ir; omega) (by unfold ir; omega) dX12_lies_68 (by decide) (fun c_68 => ?_) (fun c_68 => absurd (by decide) c_68)
            exact xr_v G hret hlk dX12_lies_84 ⟨FrM.rf, (fun j hj => rfl), hMZ⟩
          · refine lv_aload_n hx hb dX12_lies_51 rfl (lv_at hl 1 rfl) ?_
            refine xa_getr G fd_X12 (a := 111) (x := 143) 60 rfl (by decide) rfl (wm 7 209 rfl rfl) ⟨rfl, rfl, rfl⟩ dX12_lies_52 rfl (G.sk 141 rfl) (by decide) rfl ?_
            refine lv_iload hx hb dX12_lies_55 (lv_at hl 5 rfl) ?_
            refine xa_lald G (a := 143) (i := x4) rfl (by have h9 := G.lc (a := 143) (n := 900) 81 rfl; omega) dX12_lies_57 rfl ?_
            have hj_16 : jr (μ.1 143 x4) := (by have h9 := G.hj (a := 143) (k := x4) rfl; exact h9)
            refine xb_l2i hx hb dX12_lies_58 ?_
            refine xb_topi (fun y_17 hr_y_17 he_y_17 => ?_)
            have hr_y_17 : -2147483648 ≤ y_17 ∧ y_17 ≤ 2147483647 := hr_y_17
            have hli_y_17 : ir (μ.1 143 x4) → y_17 = μ.1 143 x4 := fun h9 => (iv_eq hr_y_17 h9).mp he_y_17
            unfold ir at hli_y_17
            refine lv_goto (tgt := 63) hx hb dX12_lies_59 (by decide) ?_
            refine lv_istore (lv' := [(7, .int (iv y_17)), (6, .int (iv (-1))), (0, .ref (oP ω 111)), (1, .int (iv x1)), (2, .int (iv x2)), (3, .long (jv x3)), (5, .int (iv x4))]) hx hb dX12_lies_63 hl (by decide) rfl (fun ls hl => ?_)
            refine lv_iload hx hb dX12_lies_65 (lv_at hl 1 rfl) ?_
            refine lv_iconst (v := iv (-1)) hx hb dX12_lies_67 rfl ?_
            refine xb_icmp_eq (tgt := 84) hx hb (x := (-1)) (y := (-1)) (by unfold ir; omega) (by unfold ir; omega) dX12_lies_68 (by decide) (fun c_68 => ?_) (fun c_68 => absurd (by decide) c_68)
            exact xr_v G hret hlk dX12_lies_84 ⟨FrM.rf, (fun j hj => rfl), hMZ⟩
    · refine lv_lload_n hx hb dX12_lies_10 rfl (lv_at hl 3 rfl) ?_
      refine xb_l2i hx hb dX12_lies_11 ?_
      refine xb_topi (fun y_18 hr_y_18 he_y_18 => ?_)
      have hr_y_18 : -2147483648 ≤ y_18 ∧ y_18 ≤ 2147483647 := hr_y_18
      have hli_y_18 : ir x3 → y_18 = x3 := fun h9 => (iv_eq hr_y_18 h9).mp he_y_18
      unfold ir at hli_y_18
      refine lv_goto (tgt := 16) hx hb dX12_lies_12 (by decide) ?_
      refine lv_istore (lv' := [(6, .int (iv y_18)), (0, .ref (oP ω 111)), (1, .int (iv x1)), (2, .int (iv x2)), (3, .long (jv x3)), (5, .int (iv x4))]) hx hb dX12_lies_16 hl (by decide) rfl (fun ls hl => ?_)
      refine lv_aload_n hx hb dX12_lies_18 rfl (lv_at hl 1 rfl) ?_
      refine xa_getr G fd_X12 (a := 111) (x := 141) 58 rfl (by decide) rfl (wm 7 207 rfl rfl) ⟨rfl, rfl, rfl⟩ dX12_lies_19 rfl (G.sk 139 rfl) (by decide) rfl ?_
      refine lv_iload hx hb dX12_lies_22 (lv_at hl 5 rfl) ?_
      refine xa_iald G (a := 141) (i := x4) rfl (by have h9 := G.lc (a := 141) (n := 900) 79 rfl; omega) dX12_lies_24 rfl ?_
      have hr_19 : -2147483648 ≤ μ.1 141 x4 ∧ μ.1 141 x4 ≤ 2147483647 := by have h9 := G.hr (a := 141) (k := x4) rfl; exact h9
      refine lv_iconst (v := iv 2) hx hb dX12_lies_25 rfl ?_
      refine xb_icmp_eq (tgt := 51) hx hb (by unfold ir; omega) (by unfold ir; omega) dX12_lies_26 (by decide) (fun c_26 => ?_) (fun c_26 => ?_)
      · refine lv_aload_n hx hb dX12_lies_51 rfl (lv_at hl 1 rfl) ?_
        refine xa_getr G fd_X12 (a := 111) (x := 143) 60 rfl (by decide) rfl (wm 7 209 rfl rfl) ⟨rfl, rfl, rfl⟩ dX12_lies_52 rfl (G.sk 141 rfl) (by decide) rfl ?_
        refine lv_iload hx hb dX12_lies_55 (lv_at hl 5 rfl) ?_
        refine xa_lald G (a := 143) (i := x4) rfl (by have h9 := G.lc (a := 143) (n := 900) 81 rfl; omega) dX12_lies_57 rfl ?_
        have hj_20 : jr (μ.1 143 x4) := (by have h9 := G.hj (a := 143) (k := x4) rfl; exact h9)
        refine xb_l2i hx hb dX12_lies_58 ?_
        refine xb_topi (fun y_21 hr_y_21 he_y_21 => ?_)
        have hr_y_21 : -2147483648 ≤ y_21 ∧ y_21 ≤ 2147483647 := hr_y_21
        have hli_y_21 : ir (μ.1 143 x4) → y_21 = μ.1 143 x4 := fun h9 => (iv_eq hr_y_21 h9).mp he_y_21
        unfold ir at hli_y_21
        refine lv_goto (tgt := 63) hx hb dX12_lies_59 (by decide) ?_
        refine lv_istore (lv' := [(7, .int (iv y_21)), (6, .int (iv y_18)), (0, .ref (oP ω 111)), (1, .int (iv x1)), (2, .int (iv x2)), (3, .long (jv x3)), (5, .int (iv x4))]) hx hb dX12_lies_63 hl (by decide) rfl (fun ls hl => ?_)
        refine lv_iload hx hb dX12_lies_65 (lv_at hl 1 rfl) ?_
        refine lv_iconst (v := iv (-1)) hx hb dX12_lies_67 rfl ?_
        refine xb_icmp_eq (tgt := 84) hx hb (by unfold ir; omega) (by unfold ir; omega) dX12_lies_68 (by decide) (fun c_68 => ?_) (fun c_68 => ?_)
        · exact xr_v G hret hlk dX12_lies_84 ⟨FrM.rf, (fun j hj => rfl), hMZ⟩
        · refine lv_iload hx hb dX12_lies_71 (lv_at hl 0 rfl) ?_
          refine lv_iconst (v := iv (-1)) hx hb dX12_lies_73 rfl ?_
          refine xb_icmp_eq (tgt := 84) hx hb (by unfold ir; omega) (by unfold ir; omega) dX12_lies_74 (by decide) (fun c_74 => ?_) (fun c_74 => ?_)
          · exact xr_v G hret hlk dX12_lies_84 ⟨FrM.rf, (fun j hj => rfl), hMZ⟩
          · refine lv_iload hx hb dX12_lies_77 (lv_at hl 1 rfl) ?_
            refine lv_iload hx hb dX12_lies_79 (lv_at hl 0 rfl) ?_
            refine xb_icmp_ne (tgt := 85) hx hb (by unfold ir; omega) (by unfold ir; omega) dX12_lies_81 (by decide) (fun c_81 => ?_) (fun c_81 => ?_)
            · refine lv_aload_n hx hb dX12_lies_85 rfl (lv_at hl 2 rfl) ?_
              refine xa_getr G fd_X12 (a := 111) (x := 158) 79 rfl (by decide) rfl (wm 7 228 rfl rfl) ⟨rfl, rfl, rfl⟩ dX12_lies_86 rfl (G.sk 156 rfl) (by decide) rfl ?_
              refine lv_aload_n hx hb dX12_lies_89 rfl (lv_at hl 2 rfl) ?_
              refine xa_geti G fd_X12 (a := 111) (x := yo) 81 rfl (by decide) rfl (wm 7 230 rfl rfl) ⟨rfl, rfl, rfl⟩ dX12_lies_90 rfl hyo.symm ?_
              have hr_22 : -2147483648 ≤ yo ∧ yo ≤ 2147483647 := by have h9 := G.hr (a := 111) (k := 81) rfl; rw [show μ.1 111 81 = yo from hyo.symm] at h9; exact h9
              refine lv_iload hx hb dX12_lies_93 (lv_at hl 0 rfl) ?_
              refine xa_iast G (a := 158) (i := yo) (x := y_21) rfl (by have h9 := G.lc (a := 158) (n := 12000) 96 rfl; omega) (by unfold ir; omega) dX12_lies_95 rfl (fun H locs G => ?_)
              refine lv_aload_n hx hb dX12_lies_96 rfl (lv_at hl 2 rfl) ?_
              refine xa_getr G fd_X12 (a := 111) (x := 159) 80 rfl (by decide) rfl (wm 7 229 rfl rfl) ⟨rfl, rfl, rfl⟩ dX12_lies_97 rfl (G.sk 157 rfl) (by decide) rfl ?_
              refine lv_aload_n hx hb dX12_lies_100 rfl (lv_at hl 2 rfl) ?_
              refine xa_geti G fd_X12 (a := 111) (x := yo) 81 rfl (by decide) rfl (wm 7 230 rfl rfl) ⟨rfl, rfl, rfl⟩ dX12_lies_101 rfl ((sv_n _ (fun h9 => absurd h9.1 (by decide))).trans hyo.symm) ?_
              refine lv_aload_n hx hb dX12_lies_104 rfl (lv_at hl 2 rfl) ?_
              refine xa_getr G fd_X12 (a := 111) (x := 157) 78 rfl (by decide) rfl (wm 7 227 rfl rfl) ⟨rfl, rfl, rfl⟩ dX12_lies_105 rfl (G.sk 155 rfl) (by decide) rfl ?_
              refine lv_iload hx hb dX12_lies_108 (lv_at hl 1 rfl) ?_
              refine xa_iald G (a := 157) (i := y_18) rfl (by have h9 := G.lc (a := 157) (n := 12000) 95 rfl; omega) dX12_lies_110 rfl ?_
              refine xb_ti (y := μ.1 157 y_18) (sv_n _ (fun h9 => absurd h9.1 (by decide))) ?_
              have hr_23 : -2147483648 ≤ μ.1 157 y_18 ∧ μ.1 157 y_18 ≤ 2147483647 := by have h9 := G.hr (a := 157) (k := y_18) rfl; rw [(sv_n _ (fun h9 => absurd h9.1 (by decide)))] at h9; exact h9
              refine xa_iast G (a := 159) (i := yo) (x := μ.1 157 y_18) rfl (by have h9 := G.lc (a := 159) (n := 12000) 97 rfl; omega) (by unfold ir; omega) dX12_lies_111 rfl (fun H locs G => ?_)
              refine lv_aload_n hx hb dX12_lies_112 rfl (lv_at hl 2 rfl) ?_
              refine xa_getr G fd_X12 (a := 111) (x := 157) 78 rfl (by decide) rfl (wm 7 227 rfl rfl) ⟨rfl, rfl, rfl⟩ dX12_lies_113 rfl (G.sk 155 rfl) (by decide) rfl ?_
              refine lv_iload hx hb dX12_lies_116 (lv_at hl 1 rfl) ?_
              refine lv_aload_n hx hb dX12_lies_118 rfl (lv_at hl 2 rfl) ?_
              refine xa_geti G fd_X12 (a := 111) (x := yo) 81 rfl (by decide) rfl (wm 7 230 rfl rfl) ⟨rfl, rfl, rfl⟩ dX12_lies_119 rfl ((sv_n _ (fun h9 => absurd h9.1 (by decide))).trans ((sv_n _ (fun h9 => absurd h9.1 (by decide))).trans hyo.symm)) ?_
              refine xa_iast G (a := 157) (i := y_18) (x := yo) rfl (by have h9 := G.lc (a := 157) (n := 12000) 95 rfl; omega) (by unfold ir; omega) dX12_lies_122 rfl (fun H locs G => ?_)
              refine lv_aload_n hx hb dX12_lies_123 rfl (lv_at hl 2 rfl) ?_
              refine lv_dup hx hb dX12_lies_124 rfl ?_
              refine xa_geti G fd_X12 (a := 111) (x := yo) 81 rfl (by decide) rfl (wm 7 230 rfl rfl) ⟨rfl, rfl, rfl⟩ dX12_lies_125 rfl ((sv_n _ (fun h9 => absurd h9.1 (by decide))).trans ((sv_n _ (fun h9 => absurd h9.1 (by decide))).trans ((sv_n _ (fun h9 => absurd h9.1 (by decide))).trans hyo.symm))) ?_
              refine lv_iconst (v := iv 1) hx hb dX12_lies_128 rfl ?_
              refine xb_iadd hx hb dX12_lies_129 ?_
              refine xa_puti G fd_X12 (a := 111) (x := yo + 1) 81 (kz := 81) rfl rfl (by decide) rfl (by unfold ir; omega) (wm 7 230 rfl rfl) ⟨rfl, rfl, rfl, rfl⟩ rfl dX12_lies_130 rfl (fun H locs G => ?_)
              exact xr_v G hret hlk dX12_lies_133 ⟨(FrM.put (FrM.put (FrM.put (FrM.put FrM.rf (by decide)) (by decide)) (by decide)) (by decide)), (fun j hj => ((sv_n _ (fun h9 => hj (by rw [h9.2]; decide))).trans ((sv_n _ (fun h9 => absurd h9.1 (by decide))).trans ((sv_n _ (fun h9 => absurd h9.1 (by decide))).trans (sv_n _ (fun h9 => absurd h9.1 (by decide))))))), (MZ.ly (g := y_18) hMZ (Eqa.fr (L := [111, 157, 159, 158]) (FrM.put (FrM.put (FrM.put (FrM.put FrM.rf (by decide)) (by decide)) (by decide)) (by decide)) (by decide)) (Eqf.fd (L := [81]) (fun j hj => ((sv_n _ (fun h9 => hj (by rw [h9.2]; decide))).trans ((sv_n _ (fun h9 => absurd h9.1 (by decide))).trans ((sv_n _ (fun h9 => absurd h9.1 (by decide))).trans (sv_n _ (fun h9 => absurd h9.1 (by decide))))))) (by decide)) (by have h9 : (sv (sv (sv (sv μ 158 yo y_21) 159 yo (μ.1 157 y_18)) 157 y_18 yo) 111 81 (yo + 1)).1 111 81 = yo + 1 := (sv_s _ _ _ _); omega) (by omega) (fun a ha j hj => by rw [← hyo] at hj; simp only [List.mem_cons, List.not_mem_nil, or_false] at ha; rcases ha with rfl | rfl; exact ((sv_n _ (by omega)).trans ((sv_n _ (by omega)).trans ((sv_n _ (by omega)).trans (sv_n _ (by omega))))); exact ((sv_n _ (by omega)).trans ((sv_n _ (by omega)).trans ((sv_n _ (by omega)).trans (sv_n _ (by omega)))))) (fun j hj => ((sv_n _ (by omega)).trans ((sv_n _ (by omega)).trans ((sv_n _ (by omega)).trans (sv_n _ (by omega)))))) (by rw [← hyo]; exact ((sv_n _ (fun h9 => absurd h9.1 (by decide))).trans (sv_s _ _ _ _))) (by rw [← hyo, (show (sv (sv (sv (sv μ 158 yo y_21) 159 yo (μ.1 157 y_18)) 157 y_18 yo) 111 81 (yo + 1)).1 158 yo = y_21 from ((sv_n _ (fun h9 => absurd h9.1 (by decide))).trans ((sv_n _ (fun h9 => absurd h9.1 (by decide))).trans ((sv_n _ (fun h9 => absurd h9.1 (by decide))).trans (sv_s _ _ _ _)))))]; omega) (by rw [← hyo, (show (sv (sv (sv (sv μ 158 yo y_21) 159 yo (μ.1 157 y_18)) 157 y_18 yo) 111 81 (yo + 1)).1 159 yo = μ.1 157 y_18 from ((sv_n _ (fun h9 => absurd h9.1 (by decide))).trans ((sv_n _ (fun h9 => absurd h9.1 (by decide))).trans (sv_s _ _ _ _))))]; have h9 := (hMZ.1.2.2.2.1.2.1 y_18 (by omega) (by omega)).2.2.2; omega))⟩
            · exact xr_v G hret hlk dX12_lies_84 ⟨FrM.rf, (fun j hj => rfl), hMZ⟩
      · refine lv_aload_n hx hb dX12_lies_29 rfl (lv_at hl 1 rfl) ?_
        refine xa_getr G fd_X12 (a := 111) (x := 141) 58 rfl (by decide) rfl (wm 7 207 rfl rfl) ⟨rfl, rfl, rfl⟩ dX12_lies_30 rfl (G.sk 139 rfl) (by decide) rfl ?_
        refine lv_iload hx hb dX12_lies_33 (lv_at hl 5 rfl) ?_
        refine xa_iald G (a := 141) (i := x4) rfl (by have h9 := G.lc (a := 141) (n := 900) 79 rfl; omega) dX12_lies_35 rfl ?_
        refine lv_iconst (v := iv 1) hx hb dX12_lies_36 rfl ?_
        refine xb_icmp_ne (tgt := 62) hx hb (by unfold ir; omega) (by unfold ir; omega) dX12_lies_37 (by decide) (fun c_37 => ?_) (fun c_37 => ?_)
        · refine lv_iconst (v := iv (-1)) hx hb dX12_lies_62 rfl ?_
          refine lv_istore (lv' := [(7, .int (iv (-1))), (6, .int (iv y_18)), (0, .ref (oP ω 111)), (1, .int (iv x1)), (2, .int (iv x2)), (3, .long (jv x3)), (5, .int (iv x4))]) hx hb dX12_lies_63 hl (by decide) rfl (fun ls hl => ?_)
          refine lv_iload hx hb dX12_lies_65 (lv_at hl 1 rfl) ?_
          refine lv_iconst (v := iv (-1)) hx hb dX12_lies_67 rfl ?_
          refine xb_icmp_eq (tgt := 84) hx hb (by unfold ir; omega) (by unfold ir; omega) dX12_lies_68 (by decide) (fun c_68 => ?_) (fun c_68 => ?_)
          · exact xr_v G hret hlk dX12_lies_84 ⟨FrM.rf, (fun j hj => rfl), hMZ⟩
          · refine lv_iload hx hb dX12_lies_71 (lv_at hl 0 rfl) ?_
            refine lv_iconst (v := iv (-1)) hx hb dX12_lies_73 rfl ?_
            refine xb_icmp_eq (tgt := 84) hx hb (x := (-1)) (y := (-1)) (by unfold ir; omega) (by unfold ir; omega) dX12_lies_74 (by decide) (fun c_74 => ?_) (fun c_74 => absurd (by decide) c_74)
            exact xr_v G hret hlk dX12_lies_84 ⟨FrM.rf, (fun j hj => rfl), hMZ⟩
        · refine lv_aload_n hx hb dX12_lies_40 rfl (lv_at hl 1 rfl) ?_
          refine xa_getr G fd_X12 (a := 111) (x := 142) 59 rfl (by decide) rfl (wm 7 208 rfl rfl) ⟨rfl, rfl, rfl⟩ dX12_lies_41 rfl (G.sk 140 rfl) (by decide) rfl ?_
          refine lv_iload hx hb dX12_lies_44 (lv_at hl 5 rfl) ?_
          refine xa_iald G (a := 142) (i := x4) rfl (by have h9 := G.lc (a := 142) (n := 900) 80 rfl; omega) dX12_lies_46 rfl ?_
          have hr_24 : -2147483648 ≤ μ.1 142 x4 ∧ μ.1 142 x4 ≤ 2147483647 := by have h9 := G.hr (a := 142) (k := x4) rfl; exact h9
          refine lv_iconst (v := iv 4) hx hb dX12_lies_47 rfl ?_
          refine xb_icmp_ne (tgt := 62) hx hb (by unfold ir; omega) (by unfold ir; omega) dX12_lies_48 (by decide) (fun c_48 => ?_) (fun c_48 => ?_)
          · refine lv_iconst (v := iv (-1)) hx hb dX12_lies_62 rfl ?_
            refine lv_istore (lv' := [(7, .int (iv (-1))), (6, .int (iv y_18)), (0, .ref (oP ω 111)), (1, .int (iv x1)), (2, .int (iv x2)), (3, .long (jv x3)), (5, .int (iv x4))]) hx hb dX12_lies_63 hl (by decide) rfl (fun ls hl => ?_)
            refine lv_iload hx hb dX12_lies_65 (lv_at hl 1 rfl) ?_
            refine lv_iconst (v := iv (-1)) hx hb dX12_lies_67 rfl ?_
            refine xb_icmp_eq (tgt := 84) hx hb (by unfold ir; omega) (by unfold ir; omega) dX12_lies_68 (by decide) (fun c_68 => ?_) (fun c_68 => ?_)
            · exact xr_v G hret hlk dX12_lies_84 ⟨FrM.rf, (fun j hj => rfl), hMZ⟩
            · refine lv_iload hx hb dX12_lies_71 (lv_at hl 0 rfl) ?_
              refine lv_iconst (v := iv (-1)) hx hb dX12_lies_73 rfl ?_
              refine xb_icmp_eq (tgt := 84) hx hb (x := (-1)) (y := (-1)) (by unfold ir; omega) (by unfold ir; omega) dX12_lies_74 (by decide) (fun c_74 => ?_) (fun c_74 => absurd (by decide) c_74)
              exact xr_v G hret hlk dX12_lies_84 ⟨FrM.rf, (fun j hj => rfl), hMZ⟩
          · refine lv_aload_n hx hb dX12_lies_51 rfl (lv_at hl 1 rfl) ?_
            refine xa_getr G fd_X12 (a := 111) (x := 143) 60 rfl (by decide) rfl (wm 7 209 rfl rfl) ⟨rfl, rfl, rfl⟩ dX12_lies_52 rfl (G.sk 141 rfl) (by decide) rfl ?_
            refine lv_iload hx hb dX12_lies_55 (lv_at hl 5 rfl) ?_
            refine xa_lald G (a := 143) (i := x4) rfl (by have h9 := G.lc (a := 143) (n := 900) 81 rfl; omega) dX12_lies_57 rfl ?_
            have hj_25 : jr (μ.1 143 x4) := (by have h9 := G.hj (a := 143) (k := x4) rfl; exact h9)
            refine xb_l2i hx hb dX12_lies_58 ?_
            refine xb_topi (fun y_26 hr_y_26 he_y_26 => ?_)
            have hr_y_26 : -2147483648 ≤ y_26 ∧ y_26 ≤ 2147483647 := hr_y_26
            have hli_y_26 : ir (μ.1 143 x4) → y_26 = μ.1 143 x4 := fun h9 => (iv_eq hr_y_26 h9).mp he_y_26
            unfold ir at hli_y_26
            refine lv_goto (tgt := 63) hx hb dX12_lies_59 (by decide) ?_
            refine lv_istore (lv' := [(7, .int (iv y_26)), (6, .int (iv y_18)), (0, .ref (oP ω 111)), (1, .int (iv x1)), (2, .int (iv x2)), (3, .long (jv x3)), (5, .int (iv x4))]) hx hb dX12_lies_63 hl (by decide) rfl (fun ls hl => ?_)
            refine lv_iload hx hb dX12_lies_65 (lv_at hl 1 rfl) ?_
            refine lv_iconst (v := iv (-1)) hx hb dX12_lies_67 rfl ?_
            refine xb_icmp_eq (tgt := 84) hx hb (by unfold ir; omega) (by unfold ir; omega) dX12_lies_68 (by decide) (fun c_68 => ?_) (fun c_68 => ?_)
            · exact xr_v G hret hlk dX12_lies_84 ⟨FrM.rf, (fun j hj => rfl), hMZ⟩
            · refine lv_iload hx hb dX12_lies_71 (lv_at hl 0 rfl) ?_
              refine lv_iconst (v := iv (-1)) hx hb dX12_lies_73 rfl ?_
              refine xb_icmp_eq (tgt := 84) hx hb (by unfold ir; omega) (by unfold ir; omega) dX12_lies_74 (by decide) (fun c_74 => ?_) (fun c_74 => ?_)
              · exact xr_v G hret hlk dX12_lies_84 ⟨FrM.rf, (fun j hj => rfl), hMZ⟩
              · refine lv_iload hx hb dX12_lies_77 (lv_at hl 1 rfl) ?_
                refine lv_iload hx hb dX12_lies_79 (lv_at hl 0 rfl) ?_
                refine xb_icmp_ne (tgt := 85) hx hb (by unfold ir; omega) (by unfold ir; omega) dX12_lies_81 (by decide) (fun c_81 => ?_) (fun c_81 => ?_)
                · refine lv_aload_n hx hb dX12_lies_85 rfl (lv_at hl 2 rfl) ?_
                  refine xa_getr G fd_X12 (a := 111) (x := 158) 79 rfl (by decide) rfl (wm 7 228 rfl rfl) ⟨rfl, rfl, rfl⟩ dX12_lies_86 rfl (G.sk 156 rfl) (by decide) rfl ?_
                  refine lv_aload_n hx hb dX12_lies_89 rfl (lv_at hl 2 rfl) ?_
                  refine xa_geti G fd_X12 (a := 111) (x := yo) 81 rfl (by decide) rfl (wm 7 230 rfl rfl) ⟨rfl, rfl, rfl⟩ dX12_lies_90 rfl hyo.symm ?_
                  have hr_27 : -2147483648 ≤ yo ∧ yo ≤ 2147483647 := by have h9 := G.hr (a := 111) (k := 81) rfl; rw [show μ.1 111 81 = yo from hyo.symm] at h9; exact h9
                  refine lv_iload hx hb dX12_lies_93 (lv_at hl 0 rfl) ?_
                  refine xa_iast G (a := 158) (i := yo) (x := y_26) rfl (by have h9 := G.lc (a := 158) (n := 12000) 96 rfl; omega) (by unfold ir; omega) dX12_lies_95 rfl (fun H locs G => ?_)
                  refine lv_aload_n hx hb dX12_lies_96 rfl (lv_at hl 2 rfl) ?_
                  refine xa_getr G fd_X12 (a := 111) (x := 159) 80 rfl (by decide) rfl (wm 7 229 rfl rfl) ⟨rfl, rfl, rfl⟩ dX12_lies_97 rfl (G.sk 157 rfl) (by decide) rfl ?_
                  refine lv_aload_n hx hb dX12_lies_100 rfl (lv_at hl 2 rfl) ?_
                  refine xa_geti G fd_X12 (a := 111) (x := yo) 81 rfl (by decide) rfl (wm 7 230 rfl rfl) ⟨rfl, rfl, rfl⟩ dX12_lies_101 rfl ((sv_n _ (fun h9 => absurd h9.1 (by decide))).trans hyo.symm) ?_
                  refine lv_aload_n hx hb dX12_lies_104 rfl (lv_at hl 2 rfl) ?_
                  refine xa_getr G fd_X12 (a := 111) (x := 157) 78 rfl (by decide) rfl (wm 7 227 rfl rfl) ⟨rfl, rfl, rfl⟩ dX12_lies_105 rfl (G.sk 155 rfl) (by decide) rfl ?_
                  refine lv_iload hx hb dX12_lies_108 (lv_at hl 1 rfl) ?_
                  refine xa_iald G (a := 157) (i := y_18) rfl (by have h9 := G.lc (a := 157) (n := 12000) 95 rfl; omega) dX12_lies_110 rfl ?_
                  refine xb_ti (y := μ.1 157 y_18) (sv_n _ (fun h9 => absurd h9.1 (by decide))) ?_
                  have hr_28 : -2147483648 ≤ μ.1 157 y_18 ∧ μ.1 157 y_18 ≤ 2147483647 := by have h9 := G.hr (a := 157) (k := y_18) rfl; rw [(sv_n _ (fun h9 => absurd h9.1 (by decide)))] at h9; exact h9
                  refine xa_iast G (a := 159) (i := yo) (x := μ.1 157 y_18) rfl (by have h9 := G.lc (a := 159) (n := 12000) 97 rfl; omega) (by unfold ir; omega) dX12_lies_111 rfl (fun H locs G => ?_)
                  refine lv_aload_n hx hb dX12_lies_112 rfl (lv_at hl 2 rfl) ?_
                  refine xa_getr G fd_X12 (a := 111) (x := 157) 78 rfl (by decide) rfl (wm 7 227 rfl rfl) ⟨rfl, rfl, rfl⟩ dX12_lies_113 rfl (G.sk 155 rfl) (by decide) rfl ?_
                  refine lv_iload hx hb dX12_lies_116 (lv_at hl 1 rfl) ?_
                  refine lv_aload_n hx hb dX12_lies_118 rfl (lv_at hl 2 rfl) ?_
                  refine xa_geti G fd_X12 (a := 111) (x := yo) 81 rfl (by decide) rfl (wm 7 230 rfl rfl) ⟨rfl, rfl, rfl⟩ dX12_lies_119 rfl ((sv_n _ (fun h9 => absurd h9.1 (by decide))).trans ((sv_n _ (fun h9 => absurd h9.1 (by decide))).trans hyo.symm)) ?_
                  refine xa_iast G (a := 157) (i := y_18) (x := yo) rfl (by have h9 := G.lc (a := 157) (n := 12000) 95 rfl; omega) (by unfold ir; omega) dX12_lies_122 rfl (fun H locs G => ?_)
                  refine lv_aload_n hx hb dX12_lies_123 rfl (lv_at hl 2 rfl) ?_
                  refine lv_dup hx hb dX12_lies_124 rfl ?_
                  refine xa_geti G fd_X12 (a := 111) (x := yo) 81 rfl (by decide) rfl (wm 7 230 rfl rfl) ⟨rfl, rfl, rfl⟩ dX12_lies_125 rfl ((sv_n _ (fun h9 => absurd h9.1 (by decide))).trans ((sv_n _ (fun h9 => absurd h9.1 (by decide))).trans ((sv_n _ (fun h9 => absurd h9.1 (by decide))).trans hyo.symm))) ?_
                  refine lv_iconst (v := iv 1) hx hb dX12_lies_128 rfl ?_
                  refine xb_iadd hx hb dX12_lies_129 ?_
                  refine xa_puti G fd_X12 (a := 111) (x := yo + 1) 81 (kz := 81) rfl rfl (by decide) rfl (by unfold ir; omega) (wm 7 230 rfl rfl) ⟨rfl, rfl, rfl, rfl⟩ rfl dX12_lies_130 rfl (fun H locs G => ?_)
                  exact xr_v G hret hlk dX12_lies_133 ⟨(FrM.put (FrM.put (FrM.put (FrM.put FrM.rf (by decide)) (by decide)) (by decide)) (by decide)), (fun j hj => ((sv_n _ (fun h9 => hj (by rw [h9.2]; decide))).trans ((sv_n _ (fun h9 => absurd h9.1 (by decide))).trans ((sv_n _ (fun h9 => absurd h9.1 (by decide))).trans (sv_n _ (fun h9 => absurd h9.1 (by decide))))))), (MZ.ly (g := y_18) hMZ (Eqa.fr (L := [111, 157, 159, 158]) (FrM.put (FrM.put (FrM.put (FrM.put FrM.rf (by decide)) (by decide)) (by decide)) (by decide)) (by decide)) (Eqf.fd (L := [81]) (fun j hj => ((sv_n _ (fun h9 => hj (by rw [h9.2]; decide))).trans ((sv_n _ (fun h9 => absurd h9.1 (by decide))).trans ((sv_n _ (fun h9 => absurd h9.1 (by decide))).trans (sv_n _ (fun h9 => absurd h9.1 (by decide))))))) (by decide)) (by have h9 : (sv (sv (sv (sv μ 158 yo y_26) 159 yo (μ.1 157 y_18)) 157 y_18 yo) 111 81 (yo + 1)).1 111 81 = yo + 1 := (sv_s _ _ _ _); omega) (by omega) (fun a ha j hj => by rw [← hyo] at hj; simp only [List.mem_cons, List.not_mem_nil, or_false] at ha; rcases ha with rfl | rfl; exact ((sv_n _ (by omega)).trans ((sv_n _ (by omega)).trans ((sv_n _ (by omega)).trans (sv_n _ (by omega))))); exact ((sv_n _ (by omega)).trans ((sv_n _ (by omega)).trans ((sv_n _ (by omega)).trans (sv_n _ (by omega)))))) (fun j hj => ((sv_n _ (by omega)).trans ((sv_n _ (by omega)).trans ((sv_n _ (by omega)).trans (sv_n _ (by omega)))))) (by rw [← hyo]; exact ((sv_n _ (fun h9 => absurd h9.1 (by decide))).trans (sv_s _ _ _ _))) (by rw [← hyo, (show (sv (sv (sv (sv μ 158 yo y_26) 159 yo (μ.1 157 y_18)) 157 y_18 yo) 111 81 (yo + 1)).1 158 yo = y_26 from ((sv_n _ (fun h9 => absurd h9.1 (by decide))).trans ((sv_n _ (fun h9 => absurd h9.1 (by decide))).trans ((sv_n _ (fun h9 => absurd h9.1 (by decide))).trans (sv_s _ _ _ _)))))]; omega) (by rw [← hyo, (show (sv (sv (sv (sv μ 158 yo y_26) 159 yo (μ.1 157 y_18)) 157 y_18 yo) 111 81 (yo + 1)).1 159 yo = μ.1 157 y_18 from ((sv_n _ (fun h9 => absurd h9.1 (by decide))).trans ((sv_n _ (fun h9 => absurd h9.1 (by decide))).trans (sv_s _ _ _ _))))]; have h9 := (hMZ.1.2.2.2.1.2.1 y_18 (by omega) (by omega)).2.2.2; omega))⟩
                · exact xr_v G hret hlk dX12_lies_84 ⟨FrM.rf, (fun j hj => rfl), hMZ⟩

set_option maxHeartbeats 4000000 in
set_option maxRecDepth 100000 in
theorem c_X12_leavesFrame (ω : Om) (l : Launch) (μ : M3) (n : Int) (hn : n = μ.1 111 47) (hMZ : MZ μ) (h1 : 1 ≤ n ∧ n ≤ 24) : CtV ω l yX12_leavesFrame cX12_leavesFrame 1 0 0 [.ref (oP ω 111)] μ (fun (μ' : M3) => (FrM [111] μ μ') ∧ (∀ j, j ∉ ([47, 53, 61] : List Int) → μ'.1 111 j = μ.1 111 j) ∧ (MZ μ') ∧ (2 ≤ n → A1 μ') ∧ (RX μ' ≤ RX μ - 20000) ∧ (μ'.1 111 47 = n - 1)) := by
  refine CtV.go (by decide) (Nat.le_of_ble_eq_true rfl) (fun ρ p e s m below meth c R ls G hR hret hlk hl => ?_)
  have hx := G.1.1
  have hb := G.1.2.1
  have hl : lv_has ls 1 [(0, .ref (oP ω 111))] := hl
  generalize s.drawn = d0 at G ⊢
  have hzn_ := hMZ.n
  rw [← hn] at hzn_
  obtain ⟨hz47, hzFB, hzFL, hz81, hz82, hz84, hz65, hz4, hz104⟩ := hzn_
  have hfr_ := (hMZ.2.2.1 (n - 1) (by omega) (by omega)).1.1
  have hzB := FB_1 (μ := μ) (n := n) (by omega)
  have hzL := FL_1 (μ := μ) (n := n) (by omega)
  refine lv_aload_n hx hb dX12_leavesFrame_0 rfl (lv_at hl 0 rfl) ?_
  refine lv_dup hx hb dX12_leavesFrame_1 rfl ?_
  refine xa_geti G fd_X12 (a := 111) (x := n) 47 rfl (by decide) rfl (wm 7 196 rfl rfl) ⟨rfl, rfl, rfl⟩ dX12_leavesFrame_2 rfl hn.symm ?_
  have hr_1 : -2147483648 ≤ n ∧ n ≤ 2147483647 := by have h9 := G.hr (a := 111) (k := 47) rfl; rw [show μ.1 111 47 = n from hn.symm] at h9; exact h9
  refine lv_iconst (v := iv 1) hx hb dX12_leavesFrame_5 rfl ?_
  refine xb_isub hx hb dX12_leavesFrame_6 ?_
  refine xa_puti G fd_X12 (a := 111) (x := n - 1) 47 (kz := 47) rfl rfl (by decide) rfl (by unfold ir; omega) (wm 7 196 rfl rfl) ⟨rfl, rfl, rfl, rfl⟩ rfl dX12_leavesFrame_7 rfl (fun H locs G => ?_)
  refine lv_aload_n hx hb dX12_leavesFrame_10 rfl (lv_at hl 0 rfl) ?_
  refine lv_aload_n hx hb dX12_leavesFrame_11 rfl (lv_at hl 0 rfl) ?_
  refine xa_getr G fd_X12 (a := 111) (x := 131) 45 rfl (by decide) rfl (wm 7 194 rfl rfl) ⟨rfl, rfl, rfl⟩ dX12_leavesFrame_12 rfl (G.sk 129 rfl) (by decide) rfl ?_
  refine lv_aload_n hx hb dX12_leavesFrame_15 rfl (lv_at hl 0 rfl) ?_
  refine xa_geti G fd_X12 (a := 111) (x := n - 1) 47 rfl (by decide) rfl (wm 7 196 rfl rfl) ⟨rfl, rfl, rfl⟩ dX12_leavesFrame_16 rfl (sv_s _ _ _ _) ?_
  have hr_2 : -2147483648 ≤ n - 1 ∧ n - 1 ≤ 2147483647 := by have h9 := G.hr (a := 111) (k := 47) rfl; rw [show (sv μ 111 47 (n - 1)).1 111 47 = n - 1 from (sv_s _ _ _ _)] at h9; exact h9
  refine xa_iald G (a := 131) (i := n - 1) rfl (by have h9 := G.lc (a := 131) (n := 26) 69 rfl; omega) dX12_leavesFrame_19 rfl ?_
  refine xb_ti (y := μ.1 131 (n - 1)) (sv_n _ (fun h9 => absurd h9.1 (by decide))) ?_
  have hr_3 : -2147483648 ≤ μ.1 131 (n - 1) ∧ μ.1 131 (n - 1) ≤ 2147483647 := by have h9 := G.hr (a := 131) (k := n - 1) rfl; rw [(sv_n _ (fun h9 => absurd h9.1 (by decide)))] at h9; exact h9
  refine xa_puti G fd_X12 (a := 111) (x := μ.1 131 (n - 1)) 53 (kz := 53) rfl rfl (by decide) rfl (by unfold ir; omega) (wm 7 202 rfl rfl) ⟨rfl, rfl, rfl, rfl⟩ rfl dX12_leavesFrame_20 rfl (fun H locs G => ?_)
  refine lv_aload_n hx hb dX12_leavesFrame_23 rfl (lv_at hl 0 rfl) ?_
  refine lv_aload_n hx hb dX12_leavesFrame_24 rfl (lv_at hl 0 rfl) ?_
  refine xa_getr G fd_X12 (a := 111) (x := 132) 46 rfl (by decide) rfl (wm 7 195 rfl rfl) ⟨rfl, rfl, rfl⟩ dX12_leavesFrame_25 rfl (G.sk 130 rfl) (by decide) rfl ?_
  refine lv_aload_n hx hb dX12_leavesFrame_28 rfl (lv_at hl 0 rfl) ?_
  refine xa_geti G fd_X12 (a := 111) (x := n - 1) 47 rfl (by decide) rfl (wm 7 196 rfl rfl) ⟨rfl, rfl, rfl⟩ dX12_leavesFrame_29 rfl ((sv_n _ (by decide)).trans (sv_s _ _ _ _)) ?_
  refine xa_iald G (a := 132) (i := n - 1) rfl (by have h9 := G.lc (a := 132) (n := 26) 70 rfl; omega) dX12_leavesFrame_32 rfl ?_
  refine xb_ti (y := μ.1 132 (n - 1)) ((sv_n _ (fun h9 => absurd h9.1 (by decide))).trans (sv_n _ (fun h9 => absurd h9.1 (by decide)))) ?_
  have hr_4 : -2147483648 ≤ μ.1 132 (n - 1) ∧ μ.1 132 (n - 1) ≤ 2147483647 := by have h9 := G.hr (a := 132) (k := n - 1) rfl; rw [((sv_n _ (fun h9 => absurd h9.1 (by decide))).trans (sv_n _ (fun h9 => absurd h9.1 (by decide))))] at h9; exact h9
  refine xa_puti G fd_X12 (a := 111) (x := μ.1 132 (n - 1)) 61 (kz := 61) rfl rfl (by decide) rfl (by unfold ir; omega) (wm 7 210 rfl rfl) ⟨rfl, rfl, rfl, rfl⟩ rfl dX12_leavesFrame_33 rfl (fun H locs G => ?_)
  have hlv := MZ.lv (ν := (sv (sv (sv μ 111 47 (n - 1)) 111 53 (μ.1 131 (n - 1))) 111 61 (μ.1 132 (n - 1)))) hMZ (by omega) (Eqa.fr (L := [111]) (FrM.put (FrM.put (FrM.put FrM.rf (by decide)) (by decide)) (by decide)) (by decide)) (Eqf.fd (L := [47, 53, 61]) (fun j hj => ((sv_n _ (fun h9 => hj (by rw [h9.2]; decide))).trans ((sv_n _ (fun h9 => hj (by rw [h9.2]; decide))).trans (sv_n _ (fun h9 => hj (by rw [h9.2]; decide)))))) (by decide)) (by have h9 : (sv (sv (sv μ 111 47 (n - 1)) 111 53 (μ.1 131 (n - 1))) 111 61 (μ.1 132 (n - 1))).1 111 47 = n - 1 := ((sv_n _ (by decide)).trans ((sv_n _ (by decide)).trans (sv_s _ _ _ _))); omega) (by rw [← hn]; exact ((sv_n _ (by decide)).trans (sv_s _ _ _ _))) (by rw [← hn]; exact (sv_s _ _ _ _))
  rw [← hn] at hlv
  have e_5 : (sv (sv (sv μ 111 47 (n - 1)) 111 53 (μ.1 131 (n - 1))) 111 61 (μ.1 132 (n - 1))).1 111 47 = n - 1 := ((sv_n _ (by decide)).trans ((sv_n _ (by decide)).trans (sv_s _ _ _ _)))
  exact xr_v G hret hlk dX12_leavesFrame_36 ⟨(FrM.put (FrM.put (FrM.put FrM.rf (by decide)) (by decide)) (by decide)), (fun j hj => ((sv_n _ (fun h9 => hj (by rw [h9.2]; decide))).trans ((sv_n _ (fun h9 => hj (by rw [h9.2]; decide))).trans (sv_n _ (fun h9 => hj (by rw [h9.2]; decide)))))), hlv.1, hlv.2.1, hlv.2.2, (by omega)⟩
