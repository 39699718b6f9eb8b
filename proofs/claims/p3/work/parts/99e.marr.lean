abbrev cX12_failsBy : ByteArray := prog_14_method_116_code
def yX12_failsBy : MethodName := ⟨RX12, "failsBy", "()V"⟩
abbrev cX12_setsCell : ByteArray := prog_14_method_120_code
def yX12_setsCell : MethodName := ⟨RX12, "setsCell", "(I)V"⟩
abbrev cX12_makes : ByteArray := prog_14_method_122_code
def yX12_makes : MethodName := ⟨RX12, "makes", "(I)V"⟩
abbrev cX12_getsCell : ByteArray := prog_14_method_123_code
def yX12_getsCell : MethodName := ⟨RX12, "getsCell", "(I)V"⟩
theorem dX12_failsBy_0 : decode cX12_failsBy 0 = .ok (.aload_n 0, 1) := by decide +kernel
theorem dX12_failsBy_1 : decode cX12_failsBy 1 = .ok (.invokevirtual 702, 3) := by decide +kernel
theorem dX12_failsBy_4 : decode cX12_failsBy 4 = .ok (.ifCond .ne 4, 3) := by decide +kernel
theorem dX12_failsBy_7 : decode cX12_failsBy 7 = .ok (.return_, 1) := by decide +kernel
theorem dX12_failsBy_8 : decode cX12_failsBy 8 = .ok (.aload_n 0, 1) := by decide +kernel
theorem dX12_failsBy_9 : decode cX12_failsBy 9 = .ok (.dup, 1) := by decide +kernel
theorem dX12_failsBy_10 : decode cX12_failsBy 10 = .ok (.getfield 574, 3) := by decide +kernel
theorem dX12_failsBy_13 : decode cX12_failsBy 13 = .ok (.iconst 1, 1) := by decide +kernel
theorem dX12_failsBy_14 : decode cX12_failsBy 14 = .ok (.isub, 1) := by decide +kernel
theorem dX12_failsBy_15 : decode cX12_failsBy 15 = .ok (.putfield 574, 3) := by decide +kernel
theorem dX12_failsBy_18 : decode cX12_failsBy 18 = .ok (.aload_n 0, 1) := by decide +kernel
theorem dX12_failsBy_19 : decode cX12_failsBy 19 = .ok (.getfield 85, 3) := by decide +kernel
theorem dX12_failsBy_22 : decode cX12_failsBy 22 = .ok (.aload_n 0, 1) := by decide +kernel
theorem dX12_failsBy_23 : decode cX12_failsBy 23 = .ok (.getfield 574, 3) := by decide +kernel
theorem dX12_failsBy_26 : decode cX12_failsBy 26 = .ok (.laload, 1) := by decide +kernel
theorem dX12_failsBy_27 : decode cX12_failsBy 27 = .ok (.lconst 0, 1) := by decide +kernel
theorem dX12_failsBy_28 : decode cX12_failsBy 28 = .ok (.lcmp, 1) := by decide +kernel
theorem dX12_failsBy_29 : decode cX12_failsBy 29 = .ok (.ifCond .eq 19, 3) := by decide +kernel
theorem dX12_failsBy_32 : decode cX12_failsBy 32 = .ok (.aload_n 0, 1) := by decide +kernel
theorem dX12_failsBy_33 : decode cX12_failsBy 33 = .ok (.aload_n 0, 1) := by decide +kernel
theorem dX12_failsBy_34 : decode cX12_failsBy 34 = .ok (.getfield 85, 3) := by decide +kernel
theorem dX12_failsBy_37 : decode cX12_failsBy 37 = .ok (.aload_n 0, 1) := by decide +kernel
theorem dX12_failsBy_38 : decode cX12_failsBy 38 = .ok (.getfield 574, 3) := by decide +kernel
theorem dX12_failsBy_41 : decode cX12_failsBy 41 = .ok (.laload, 1) := by decide +kernel
theorem dX12_failsBy_42 : decode cX12_failsBy 42 = .ok (.l2i, 1) := by decide +kernel
theorem dX12_failsBy_43 : decode cX12_failsBy 43 = .ok (.iconst 0, 1) := by decide +kernel
theorem dX12_failsBy_44 : decode cX12_failsBy 44 = .ok (.lconst 0, 1) := by decide +kernel
theorem dX12_failsBy_45 : decode cX12_failsBy 45 = .ok (.invokevirtual 602, 3) := by decide +kernel
theorem dX12_failsBy_48 : decode cX12_failsBy 48 = .ok (.return_, 1) := by decide +kernel
theorem dX12_setsCell_0 : decode cX12_setsCell 0 = .ok (.aload_n 0, 1) := by decide +kernel
theorem dX12_setsCell_1 : decode cX12_setsCell 1 = .ok (.dup, 1) := by decide +kernel
theorem dX12_setsCell_2 : decode cX12_setsCell 2 = .ok (.getfield 574, 3) := by decide +kernel
theorem dX12_setsCell_5 : decode cX12_setsCell 5 = .ok (.iconst 3, 1) := by decide +kernel
theorem dX12_setsCell_6 : decode cX12_setsCell 6 = .ok (.isub, 1) := by decide +kernel
theorem dX12_setsCell_7 : decode cX12_setsCell 7 = .ok (.putfield 574, 3) := by decide +kernel
theorem dX12_setsCell_10 : decode cX12_setsCell 10 = .ok (.aload_n 0, 1) := by decide +kernel
theorem dX12_setsCell_11 : decode cX12_setsCell 11 = .ok (.getfield 82, 3) := by decide +kernel
theorem dX12_setsCell_14 : decode cX12_setsCell 14 = .ok (.aload_n 0, 1) := by decide +kernel
theorem dX12_setsCell_15 : decode cX12_setsCell 15 = .ok (.getfield 574, 3) := by decide +kernel
theorem dX12_setsCell_18 : decode cX12_setsCell 18 = .ok (.baload, 1) := by decide +kernel
theorem dX12_setsCell_19 : decode cX12_setsCell 19 = .ok (.istore_n 2, 1) := by decide +kernel
theorem dX12_setsCell_20 : decode cX12_setsCell 20 = .ok (.aload_n 0, 1) := by decide +kernel
theorem dX12_setsCell_21 : decode cX12_setsCell 21 = .ok (.getfield 82, 3) := by decide +kernel
theorem dX12_setsCell_24 : decode cX12_setsCell 24 = .ok (.aload_n 0, 1) := by decide +kernel
theorem dX12_setsCell_25 : decode cX12_setsCell 25 = .ok (.getfield 574, 3) := by decide +kernel
theorem dX12_setsCell_28 : decode cX12_setsCell 28 = .ok (.iconst 1, 1) := by decide +kernel
theorem dX12_setsCell_29 : decode cX12_setsCell 29 = .ok (.iadd, 1) := by decide +kernel
theorem dX12_setsCell_30 : decode cX12_setsCell 30 = .ok (.baload, 1) := by decide +kernel
theorem dX12_setsCell_31 : decode cX12_setsCell 31 = .ok (.istore_n 3, 1) := by decide +kernel
theorem dX12_setsCell_32 : decode cX12_setsCell 32 = .ok (.aload_n 0, 1) := by decide +kernel
theorem dX12_setsCell_33 : decode cX12_setsCell 33 = .ok (.getfield 82, 3) := by decide +kernel
theorem dX12_setsCell_36 : decode cX12_setsCell 36 = .ok (.aload_n 0, 1) := by decide +kernel
theorem dX12_setsCell_37 : decode cX12_setsCell 37 = .ok (.getfield 574, 3) := by decide +kernel
theorem dX12_setsCell_40 : decode cX12_setsCell 40 = .ok (.iconst 2, 1) := by decide +kernel
theorem dX12_setsCell_41 : decode cX12_setsCell 41 = .ok (.iadd, 1) := by decide +kernel
theorem dX12_setsCell_42 : decode cX12_setsCell 42 = .ok (.baload, 1) := by decide +kernel
theorem dX12_setsCell_43 : decode cX12_setsCell 43 = .ok (.istore 4, 2) := by decide +kernel
theorem dX12_setsCell_45 : decode cX12_setsCell 45 = .ok (.aload_n 0, 1) := by decide +kernel
theorem dX12_setsCell_46 : decode cX12_setsCell 46 = .ok (.getfield 85, 3) := by decide +kernel
theorem dX12_setsCell_49 : decode cX12_setsCell 49 = .ok (.aload_n 0, 1) := by decide +kernel
theorem dX12_setsCell_50 : decode cX12_setsCell 50 = .ok (.getfield 574, 3) := by decide +kernel
theorem dX12_setsCell_53 : decode cX12_setsCell 53 = .ok (.iconst 2, 1) := by decide +kernel
theorem dX12_setsCell_54 : decode cX12_setsCell 54 = .ok (.iadd, 1) := by decide +kernel
theorem dX12_setsCell_55 : decode cX12_setsCell 55 = .ok (.laload, 1) := by decide +kernel
theorem dX12_setsCell_56 : decode cX12_setsCell 56 = .ok (.lstore 5, 2) := by decide +kernel
theorem dX12_setsCell_58 : decode cX12_setsCell 58 = .ok (.iload_n 2, 1) := by decide +kernel
theorem dX12_setsCell_59 : decode cX12_setsCell 59 = .ok (.iconst 4, 1) := by decide +kernel
theorem dX12_setsCell_60 : decode cX12_setsCell 60 = .ok (.if_icmp .eq 13, 3) := by decide +kernel
theorem dX12_setsCell_63 : decode cX12_setsCell 63 = .ok (.iload_n 3, 1) := by decide +kernel
theorem dX12_setsCell_64 : decode cX12_setsCell 64 = .ok (.iconst 4, 1) := by decide +kernel
theorem dX12_setsCell_65 : decode cX12_setsCell 65 = .ok (.if_icmp .ne 43, 3) := by decide +kernel
theorem dX12_setsCell_68 : decode cX12_setsCell 68 = .ok (.iload_n 2, 1) := by decide +kernel
theorem dX12_setsCell_69 : decode cX12_setsCell 69 = .ok (.iconst 2, 1) := by decide +kernel
theorem dX12_setsCell_70 : decode cX12_setsCell 70 = .ok (.if_icmp .ne 38, 3) := by decide +kernel
theorem dX12_setsCell_73 : decode cX12_setsCell 73 = .ok (.aload_n 0, 1) := by decide +kernel
theorem dX12_setsCell_74 : decode cX12_setsCell 74 = .ok (.iconst 1, 1) := by decide +kernel
theorem dX12_setsCell_75 : decode cX12_setsCell 75 = .ok (.iconst 4, 1) := by decide +kernel
theorem dX12_setsCell_76 : decode cX12_setsCell 76 = .ok (.iload_n 2, 1) := by decide +kernel
theorem dX12_setsCell_77 : decode cX12_setsCell 77 = .ok (.iconst 4, 1) := by decide +kernel
theorem dX12_setsCell_78 : decode cX12_setsCell 78 = .ok (.if_icmp .ne 15, 3) := by decide +kernel
theorem dX12_setsCell_81 : decode cX12_setsCell 81 = .ok (.aload_n 0, 1) := by decide +kernel
theorem dX12_setsCell_82 : decode cX12_setsCell 82 = .ok (.getfield 85, 3) := by decide +kernel
theorem dX12_setsCell_85 : decode cX12_setsCell 85 = .ok (.aload_n 0, 1) := by decide +kernel
theorem dX12_setsCell_86 : decode cX12_setsCell 86 = .ok (.getfield 574, 3) := by decide +kernel
theorem dX12_setsCell_89 : decode cX12_setsCell 89 = .ok (.laload, 1) := by decide +kernel
theorem dX12_setsCell_90 : decode cX12_setsCell 90 = .ok (.goto 14, 3) := by decide +kernel
theorem dX12_setsCell_93 : decode cX12_setsCell 93 = .ok (.aload_n 0, 1) := by decide +kernel
theorem dX12_setsCell_94 : decode cX12_setsCell 94 = .ok (.getfield 85, 3) := by decide +kernel
theorem dX12_setsCell_97 : decode cX12_setsCell 97 = .ok (.aload_n 0, 1) := by decide +kernel
theorem dX12_setsCell_98 : decode cX12_setsCell 98 = .ok (.getfield 574, 3) := by decide +kernel
theorem dX12_setsCell_101 : decode cX12_setsCell 101 = .ok (.iconst 1, 1) := by decide +kernel
theorem dX12_setsCell_102 : decode cX12_setsCell 102 = .ok (.iadd, 1) := by decide +kernel
theorem dX12_setsCell_103 : decode cX12_setsCell 103 = .ok (.laload, 1) := by decide +kernel
theorem dX12_setsCell_104 : decode cX12_setsCell 104 = .ok (.invokevirtual 623, 3) := by decide +kernel
theorem dX12_setsCell_107 : decode cX12_setsCell 107 = .ok (.return_, 1) := by decide +kernel
theorem dX12_setsCell_108 : decode cX12_setsCell 108 = .ok (.iload_n 2, 1) := by decide +kernel
theorem dX12_setsCell_109 : decode cX12_setsCell 109 = .ok (.iconst 2, 1) := by decide +kernel
theorem dX12_setsCell_110 : decode cX12_setsCell 110 = .ok (.if_icmp .ne 8, 3) := by decide +kernel
theorem dX12_setsCell_113 : decode cX12_setsCell 113 = .ok (.iload_n 3, 1) := by decide +kernel
theorem dX12_setsCell_114 : decode cX12_setsCell 114 = .ok (.iconst 1, 1) := by decide +kernel
theorem dX12_setsCell_115 : decode cX12_setsCell 115 = .ok (.if_icmp .eq 17, 3) := by decide +kernel
theorem dX12_setsCell_118 : decode cX12_setsCell 118 = .ok (.aload_n 0, 1) := by decide +kernel
theorem dX12_setsCell_119 : decode cX12_setsCell 119 = .ok (.iload_n 2, 1) := by decide +kernel
theorem dX12_setsCell_120 : decode cX12_setsCell 120 = .ok (.ifCond .ne 7, 3) := by decide +kernel
theorem dX12_setsCell_123 : decode cX12_setsCell 123 = .ok (.iconst 3, 1) := by decide +kernel
theorem dX12_setsCell_124 : decode cX12_setsCell 124 = .ok (.goto 4, 3) := by decide +kernel
theorem dX12_setsCell_127 : decode cX12_setsCell 127 = .ok (.iconst 4, 1) := by decide +kernel
theorem dX12_setsCell_128 : decode cX12_setsCell 128 = .ok (.invokevirtual 693, 3) := by decide +kernel
theorem dX12_setsCell_131 : decode cX12_setsCell 131 = .ok (.return_, 1) := by decide +kernel
theorem dX12_setsCell_132 : decode cX12_setsCell 132 = .ok (.aload_n 0, 1) := by decide +kernel
theorem dX12_setsCell_133 : decode cX12_setsCell 133 = .ok (.getfield 85, 3) := by decide +kernel
theorem dX12_setsCell_136 : decode cX12_setsCell 136 = .ok (.aload_n 0, 1) := by decide +kernel
theorem dX12_setsCell_137 : decode cX12_setsCell 137 = .ok (.getfield 574, 3) := by decide +kernel
theorem dX12_setsCell_140 : decode cX12_setsCell 140 = .ok (.laload, 1) := by decide +kernel
theorem dX12_setsCell_141 : decode cX12_setsCell 141 = .ok (.l2i, 1) := by decide +kernel
theorem dX12_setsCell_142 : decode cX12_setsCell 142 = .ok (.istore 7, 2) := by decide +kernel
theorem dX12_setsCell_144 : decode cX12_setsCell 144 = .ok (.aload_n 0, 1) := by decide +kernel
theorem dX12_setsCell_145 : decode cX12_setsCell 145 = .ok (.iload_n 1, 1) := by decide +kernel
theorem dX12_setsCell_146 : decode cX12_setsCell 146 = .ok (.aload_n 0, 1) := by decide +kernel
theorem dX12_setsCell_147 : decode cX12_setsCell 147 = .ok (.getfield 85, 3) := by decide +kernel
theorem dX12_setsCell_150 : decode cX12_setsCell 150 = .ok (.aload_n 0, 1) := by decide +kernel
theorem dX12_setsCell_151 : decode cX12_setsCell 151 = .ok (.getfield 574, 3) := by decide +kernel
theorem dX12_setsCell_154 : decode cX12_setsCell 154 = .ok (.iconst 1, 1) := by decide +kernel
theorem dX12_setsCell_155 : decode cX12_setsCell 155 = .ok (.iadd, 1) := by decide +kernel
theorem dX12_setsCell_156 : decode cX12_setsCell 156 = .ok (.laload, 1) := by decide +kernel
theorem dX12_setsCell_157 : decode cX12_setsCell 157 = .ok (.aload_n 0, 1) := by decide +kernel
theorem dX12_setsCell_158 : decode cX12_setsCell 158 = .ok (.getfield 112, 3) := by decide +kernel
theorem dX12_setsCell_161 : decode cX12_setsCell 161 = .ok (.iload 7, 2) := by decide +kernel
theorem dX12_setsCell_163 : decode cX12_setsCell 163 = .ok (.iaload, 1) := by decide +kernel
theorem dX12_setsCell_164 : decode cX12_setsCell 164 = .ok (.iconst 1, 1) := by decide +kernel
theorem dX12_setsCell_165 : decode cX12_setsCell 165 = .ok (.isub, 1) := by decide +kernel
theorem dX12_setsCell_166 : decode cX12_setsCell 166 = .ok (.invokevirtual 720, 3) := by decide +kernel
theorem dX12_setsCell_169 : decode cX12_setsCell 169 = .ok (.istore 8, 2) := by decide +kernel
theorem dX12_setsCell_171 : decode cX12_setsCell 171 = .ok (.iload 8, 2) := by decide +kernel
theorem dX12_setsCell_173 : decode cX12_setsCell 173 = .ok (.iconst (-1), 1) := by decide +kernel
theorem dX12_setsCell_174 : decode cX12_setsCell 174 = .ok (.if_icmp .ne 9, 3) := by decide +kernel
theorem dX12_setsCell_177 : decode cX12_setsCell 177 = .ok (.aload_n 0, 1) := by decide +kernel
theorem dX12_setsCell_178 : decode cX12_setsCell 178 = .ok (.iconst 2, 1) := by decide +kernel
theorem dX12_setsCell_179 : decode cX12_setsCell 179 = .ok (.invokevirtual 693, 3) := by decide +kernel
theorem dX12_setsCell_182 : decode cX12_setsCell 182 = .ok (.return_, 1) := by decide +kernel
theorem dX12_setsCell_183 : decode cX12_setsCell 183 = .ok (.iload 4, 2) := by decide +kernel
theorem dX12_setsCell_185 : decode cX12_setsCell 185 = .ok (.iconst 4, 1) := by decide +kernel
theorem dX12_setsCell_186 : decode cX12_setsCell 186 = .ok (.if_icmp .ne 12, 3) := by decide +kernel
theorem dX12_setsCell_189 : decode cX12_setsCell 189 = .ok (.aload_n 0, 1) := by decide +kernel
theorem dX12_setsCell_190 : decode cX12_setsCell 190 = .ok (.iconst 1, 1) := by decide +kernel
theorem dX12_setsCell_191 : decode cX12_setsCell 191 = .ok (.iconst 4, 1) := by decide +kernel
theorem dX12_setsCell_192 : decode cX12_setsCell 192 = .ok (.lload 5, 2) := by decide +kernel
theorem dX12_setsCell_194 : decode cX12_setsCell 194 = .ok (.invokevirtual 623, 3) := by decide +kernel
theorem dX12_setsCell_197 : decode cX12_setsCell 197 = .ok (.return_, 1) := by decide +kernel
theorem dX12_setsCell_198 : decode cX12_setsCell 198 = .ok (.aload_n 0, 1) := by decide +kernel
theorem dX12_setsCell_199 : decode cX12_setsCell 199 = .ok (.iload_n 1, 1) := by decide +kernel
theorem dX12_setsCell_200 : decode cX12_setsCell 200 = .ok (.aload_n 0, 1) := by decide +kernel
theorem dX12_setsCell_201 : decode cX12_setsCell 201 = .ok (.getfield 115, 3) := by decide +kernel
theorem dX12_setsCell_204 : decode cX12_setsCell 204 = .ok (.iload 7, 2) := by decide +kernel
theorem dX12_setsCell_206 : decode cX12_setsCell 206 = .ok (.iaload, 1) := by decide +kernel
theorem dX12_setsCell_207 : decode cX12_setsCell 207 = .ok (.iload 4, 2) := by decide +kernel
theorem dX12_setsCell_209 : decode cX12_setsCell 209 = .ok (.lload 5, 2) := by decide +kernel
theorem dX12_setsCell_211 : decode cX12_setsCell 211 = .ok (.invokevirtual 675, 3) := by decide +kernel
theorem dX12_setsCell_214 : decode cX12_setsCell 214 = .ok (.aload_n 0, 1) := by decide +kernel
theorem dX12_setsCell_215 : decode cX12_setsCell 215 = .ok (.getfield 534, 3) := by decide +kernel
theorem dX12_setsCell_218 : decode cX12_setsCell 218 = .ok (.ifCond .ne 9, 3) := by decide +kernel
theorem dX12_setsCell_221 : decode cX12_setsCell 221 = .ok (.aload_n 0, 1) := by decide +kernel
theorem dX12_setsCell_222 : decode cX12_setsCell 222 = .ok (.iconst 4, 1) := by decide +kernel
theorem dX12_setsCell_223 : decode cX12_setsCell 223 = .ok (.invokevirtual 693, 3) := by decide +kernel
theorem dX12_setsCell_226 : decode cX12_setsCell 226 = .ok (.return_, 1) := by decide +kernel
theorem dX12_setsCell_227 : decode cX12_setsCell 227 = .ok (.aload_n 0, 1) := by decide +kernel
theorem dX12_setsCell_228 : decode cX12_setsCell 228 = .ok (.getfield 118, 3) := by decide +kernel
theorem dX12_setsCell_231 : decode cX12_setsCell 231 = .ok (.aload_n 0, 1) := by decide +kernel
theorem dX12_setsCell_232 : decode cX12_setsCell 232 = .ok (.getfield 109, 3) := by decide +kernel
theorem dX12_setsCell_235 : decode cX12_setsCell 235 = .ok (.iload 7, 2) := by decide +kernel
theorem dX12_setsCell_237 : decode cX12_setsCell 237 = .ok (.iaload, 1) := by decide +kernel
theorem dX12_setsCell_238 : decode cX12_setsCell 238 = .ok (.iload 8, 2) := by decide +kernel
theorem dX12_setsCell_240 : decode cX12_setsCell 240 = .ok (.iadd, 1) := by decide +kernel
theorem dX12_setsCell_241 : decode cX12_setsCell 241 = .ok (.iload 4, 2) := by decide +kernel
theorem dX12_setsCell_243 : decode cX12_setsCell 243 = .ok (.i2b, 1) := by decide +kernel
theorem dX12_setsCell_244 : decode cX12_setsCell 244 = .ok (.bastore, 1) := by decide +kernel
theorem dX12_setsCell_245 : decode cX12_setsCell 245 = .ok (.aload_n 0, 1) := by decide +kernel
theorem dX12_setsCell_246 : decode cX12_setsCell 246 = .ok (.getfield 121, 3) := by decide +kernel
theorem dX12_setsCell_249 : decode cX12_setsCell 249 = .ok (.aload_n 0, 1) := by decide +kernel
theorem dX12_setsCell_250 : decode cX12_setsCell 250 = .ok (.getfield 109, 3) := by decide +kernel
theorem dX12_setsCell_253 : decode cX12_setsCell 253 = .ok (.iload 7, 2) := by decide +kernel
theorem dX12_setsCell_255 : decode cX12_setsCell 255 = .ok (.iaload, 1) := by decide +kernel
theorem dX12_setsCell_256 : decode cX12_setsCell 256 = .ok (.iload 8, 2) := by decide +kernel
theorem dX12_setsCell_258 : decode cX12_setsCell 258 = .ok (.iadd, 1) := by decide +kernel
theorem dX12_setsCell_259 : decode cX12_setsCell 259 = .ok (.aload_n 0, 1) := by decide +kernel
theorem dX12_setsCell_260 : decode cX12_setsCell 260 = .ok (.getfield 538, 3) := by decide +kernel
theorem dX12_setsCell_263 : decode cX12_setsCell 263 = .ok (.lastore, 1) := by decide +kernel
theorem dX12_setsCell_264 : decode cX12_setsCell 264 = .ok (.return_, 1) := by decide +kernel
theorem dX12_makes_0 : decode cX12_makes 0 = .ok (.aload_n 0, 1) := by decide +kernel
theorem dX12_makes_1 : decode cX12_makes 1 = .ok (.dup, 1) := by decide +kernel
theorem dX12_makes_2 : decode cX12_makes 2 = .ok (.getfield 574, 3) := by decide +kernel
theorem dX12_makes_5 : decode cX12_makes 5 = .ok (.iconst 1, 1) := by decide +kernel
theorem dX12_makes_6 : decode cX12_makes 6 = .ok (.isub, 1) := by decide +kernel
theorem dX12_makes_7 : decode cX12_makes 7 = .ok (.putfield 574, 3) := by decide +kernel
theorem dX12_makes_10 : decode cX12_makes 10 = .ok (.aload_n 0, 1) := by decide +kernel
theorem dX12_makes_11 : decode cX12_makes 11 = .ok (.getfield 82, 3) := by decide +kernel
theorem dX12_makes_14 : decode cX12_makes 14 = .ok (.aload_n 0, 1) := by decide +kernel
theorem dX12_makes_15 : decode cX12_makes 15 = .ok (.getfield 574, 3) := by decide +kernel
theorem dX12_makes_18 : decode cX12_makes 18 = .ok (.baload, 1) := by decide +kernel
theorem dX12_makes_19 : decode cX12_makes 19 = .ok (.iconst 1, 1) := by decide +kernel
theorem dX12_makes_20 : decode cX12_makes 20 = .ok (.if_icmp .eq 9, 3) := by decide +kernel
theorem dX12_makes_23 : decode cX12_makes 23 = .ok (.aload_n 0, 1) := by decide +kernel
theorem dX12_makes_24 : decode cX12_makes 24 = .ok (.iconst 4, 1) := by decide +kernel
theorem dX12_makes_25 : decode cX12_makes 25 = .ok (.invokevirtual 678, 3) := by decide +kernel
theorem dX12_makes_28 : decode cX12_makes 28 = .ok (.return_, 1) := by decide +kernel
theorem dX12_makes_29 : decode cX12_makes 29 = .ok (.aload_n 0, 1) := by decide +kernel
theorem dX12_makes_30 : decode cX12_makes 30 = .ok (.iload_n 1, 1) := by decide +kernel
theorem dX12_makes_31 : decode cX12_makes 31 = .ok (.aload_n 0, 1) := by decide +kernel
theorem dX12_makes_32 : decode cX12_makes 32 = .ok (.getfield 85, 3) := by decide +kernel
theorem dX12_makes_35 : decode cX12_makes 35 = .ok (.aload_n 0, 1) := by decide +kernel
theorem dX12_makes_36 : decode cX12_makes 36 = .ok (.getfield 574, 3) := by decide +kernel
theorem dX12_makes_39 : decode cX12_makes 39 = .ok (.laload, 1) := by decide +kernel
theorem dX12_makes_40 : decode cX12_makes 40 = .ok (.sipush 400, 3) := by decide +kernel
theorem dX12_makes_43 : decode cX12_makes 43 = .ok (.invokevirtual 720, 3) := by decide +kernel
theorem dX12_makes_46 : decode cX12_makes 46 = .ok (.istore_n 2, 1) := by decide +kernel
theorem dX12_makes_47 : decode cX12_makes 47 = .ok (.iload_n 2, 1) := by decide +kernel
theorem dX12_makes_48 : decode cX12_makes 48 = .ok (.iconst (-1), 1) := by decide +kernel
theorem dX12_makes_49 : decode cX12_makes 49 = .ok (.if_icmp .eq 17, 3) := by decide +kernel
theorem dX12_makes_52 : decode cX12_makes 52 = .ok (.aload_n 0, 1) := by decide +kernel
theorem dX12_makes_53 : decode cX12_makes 53 = .ok (.getfield 748, 3) := by decide +kernel
theorem dX12_makes_56 : decode cX12_makes 56 = .ok (.iload_n 2, 1) := by decide +kernel
theorem dX12_makes_57 : decode cX12_makes 57 = .ok (.iadd, 1) := by decide +kernel
theorem dX12_makes_58 : decode cX12_makes 58 = .ok (.iconst 1, 1) := by decide +kernel
theorem dX12_makes_59 : decode cX12_makes 59 = .ok (.iadd, 1) := by decide +kernel
theorem dX12_makes_60 : decode cX12_makes 60 = .ok (.sipush 20000, 3) := by decide +kernel
theorem dX12_makes_63 : decode cX12_makes 63 = .ok (.if_icmp .le 9, 3) := by decide +kernel
theorem dX12_makes_66 : decode cX12_makes 66 = .ok (.aload_n 0, 1) := by decide +kernel
theorem dX12_makes_67 : decode cX12_makes 67 = .ok (.iconst 5, 1) := by decide +kernel
theorem dX12_makes_68 : decode cX12_makes 68 = .ok (.invokevirtual 678, 3) := by decide +kernel
theorem dX12_makes_71 : decode cX12_makes 71 = .ok (.return_, 1) := by decide +kernel
theorem dX12_makes_72 : decode cX12_makes 72 = .ok (.aload_n 0, 1) := by decide +kernel
theorem dX12_makes_73 : decode cX12_makes 73 = .ok (.dup, 1) := by decide +kernel
theorem dX12_makes_74 : decode cX12_makes 74 = .ok (.getfield 748, 3) := by decide +kernel
theorem dX12_makes_77 : decode cX12_makes 77 = .ok (.iload_n 2, 1) := by decide +kernel
theorem dX12_makes_78 : decode cX12_makes 78 = .ok (.iconst 1, 1) := by decide +kernel
theorem dX12_makes_79 : decode cX12_makes 79 = .ok (.iadd, 1) := by decide +kernel
theorem dX12_makes_80 : decode cX12_makes 80 = .ok (.iadd, 1) := by decide +kernel
theorem dX12_makes_81 : decode cX12_makes 81 = .ok (.putfield 748, 3) := by decide +kernel
theorem dX12_makes_84 : decode cX12_makes 84 = .ok (.aload_n 0, 1) := by decide +kernel
theorem dX12_makes_85 : decode cX12_makes 85 = .ok (.getfield 109, 3) := by decide +kernel
theorem dX12_makes_88 : decode cX12_makes 88 = .ok (.aload_n 0, 1) := by decide +kernel
theorem dX12_makes_89 : decode cX12_makes 89 = .ok (.getfield 751, 3) := by decide +kernel
theorem dX12_makes_92 : decode cX12_makes 92 = .ok (.aload_n 0, 1) := by decide +kernel
theorem dX12_makes_93 : decode cX12_makes 93 = .ok (.getfield 754, 3) := by decide +kernel
theorem dX12_makes_96 : decode cX12_makes 96 = .ok (.iastore, 1) := by decide +kernel
theorem dX12_makes_97 : decode cX12_makes 97 = .ok (.aload_n 0, 1) := by decide +kernel
theorem dX12_makes_98 : decode cX12_makes 98 = .ok (.getfield 112, 3) := by decide +kernel
theorem dX12_makes_101 : decode cX12_makes 101 = .ok (.aload_n 0, 1) := by decide +kernel
theorem dX12_makes_102 : decode cX12_makes 102 = .ok (.getfield 751, 3) := by decide +kernel
theorem dX12_makes_105 : decode cX12_makes 105 = .ok (.iload_n 2, 1) := by decide +kernel
theorem dX12_makes_106 : decode cX12_makes 106 = .ok (.iastore, 1) := by decide +kernel
theorem dX12_makes_107 : decode cX12_makes 107 = .ok (.aload_n 0, 1) := by decide +kernel
theorem dX12_makes_108 : decode cX12_makes 108 = .ok (.getfield 115, 3) := by decide +kernel
theorem dX12_makes_111 : decode cX12_makes 111 = .ok (.aload_n 0, 1) := by decide +kernel
theorem dX12_makes_112 : decode cX12_makes 112 = .ok (.getfield 751, 3) := by decide +kernel
theorem dX12_makes_115 : decode cX12_makes 115 = .ok (.iload_n 1, 1) := by decide +kernel
theorem dX12_makes_116 : decode cX12_makes 116 = .ok (.iastore, 1) := by decide +kernel
theorem dX12_makes_117 : decode cX12_makes 117 = .ok (.iconst 0, 1) := by decide +kernel
theorem dX12_makes_118 : decode cX12_makes 118 = .ok (.istore_n 3, 1) := by decide +kernel
theorem dX12_makes_119 : decode cX12_makes 119 = .ok (.iload_n 3, 1) := by decide +kernel
theorem dX12_makes_120 : decode cX12_makes 120 = .ok (.iload_n 2, 1) := by decide +kernel
theorem dX12_makes_121 : decode cX12_makes 121 = .ok (.if_icmp .ge 21, 3) := by decide +kernel
theorem dX12_makes_124 : decode cX12_makes 124 = .ok (.aload_n 0, 1) := by decide +kernel
theorem dX12_makes_125 : decode cX12_makes 125 = .ok (.getfield 118, 3) := by decide +kernel
theorem dX12_makes_128 : decode cX12_makes 128 = .ok (.aload_n 0, 1) := by decide +kernel
theorem dX12_makes_129 : decode cX12_makes 129 = .ok (.getfield 754, 3) := by decide +kernel
theorem dX12_makes_132 : decode cX12_makes 132 = .ok (.iload_n 3, 1) := by decide +kernel
theorem dX12_makes_133 : decode cX12_makes 133 = .ok (.iadd, 1) := by decide +kernel
theorem dX12_makes_134 : decode cX12_makes 134 = .ok (.iconst 0, 1) := by decide +kernel
theorem dX12_makes_135 : decode cX12_makes 135 = .ok (.bastore, 1) := by decide +kernel
theorem dX12_makes_136 : decode cX12_makes 136 = .ok (.iinc 3 1, 3) := by decide +kernel
theorem dX12_makes_139 : decode cX12_makes 139 = .ok (.goto (-20), 3) := by decide +kernel
theorem dX12_makes_142 : decode cX12_makes 142 = .ok (.aload_n 0, 1) := by decide +kernel
theorem dX12_makes_143 : decode cX12_makes 143 = .ok (.dup, 1) := by decide +kernel
theorem dX12_makes_144 : decode cX12_makes 144 = .ok (.getfield 754, 3) := by decide +kernel
theorem dX12_makes_147 : decode cX12_makes 147 = .ok (.iload_n 2, 1) := by decide +kernel
theorem dX12_makes_148 : decode cX12_makes 148 = .ok (.iadd, 1) := by decide +kernel
theorem dX12_makes_149 : decode cX12_makes 149 = .ok (.putfield 754, 3) := by decide +kernel
theorem dX12_makes_152 : decode cX12_makes 152 = .ok (.aload_n 0, 1) := by decide +kernel
theorem dX12_makes_153 : decode cX12_makes 153 = .ok (.iconst 2, 1) := by decide +kernel
theorem dX12_makes_154 : decode cX12_makes 154 = .ok (.aload_n 0, 1) := by decide +kernel
theorem dX12_makes_155 : decode cX12_makes 155 = .ok (.getfield 751, 3) := by decide +kernel
theorem dX12_makes_158 : decode cX12_makes 158 = .ok (.i2l, 1) := by decide +kernel
theorem dX12_makes_159 : decode cX12_makes 159 = .ok (.invokevirtual 577, 3) := by decide +kernel
theorem dX12_makes_162 : decode cX12_makes 162 = .ok (.aload_n 0, 1) := by decide +kernel
theorem dX12_makes_163 : decode cX12_makes 163 = .ok (.dup, 1) := by decide +kernel
theorem dX12_makes_164 : decode cX12_makes 164 = .ok (.getfield 751, 3) := by decide +kernel
theorem dX12_makes_167 : decode cX12_makes 167 = .ok (.iconst 1, 1) := by decide +kernel
theorem dX12_makes_168 : decode cX12_makes 168 = .ok (.iadd, 1) := by decide +kernel
theorem dX12_makes_169 : decode cX12_makes 169 = .ok (.putfield 751, 3) := by decide +kernel
theorem dX12_makes_172 : decode cX12_makes 172 = .ok (.return_, 1) := by decide +kernel
theorem dX12_getsCell_0 : decode cX12_getsCell 0 = .ok (.aload_n 0, 1) := by decide +kernel
theorem dX12_getsCell_1 : decode cX12_getsCell 1 = .ok (.dup, 1) := by decide +kernel
theorem dX12_getsCell_2 : decode cX12_getsCell 2 = .ok (.getfield 574, 3) := by decide +kernel
theorem dX12_getsCell_5 : decode cX12_getsCell 5 = .ok (.iconst 2, 1) := by decide +kernel
theorem dX12_getsCell_6 : decode cX12_getsCell 6 = .ok (.isub, 1) := by decide +kernel
theorem dX12_getsCell_7 : decode cX12_getsCell 7 = .ok (.putfield 574, 3) := by decide +kernel
theorem dX12_getsCell_10 : decode cX12_getsCell 10 = .ok (.aload_n 0, 1) := by decide +kernel
theorem dX12_getsCell_11 : decode cX12_getsCell 11 = .ok (.getfield 82, 3) := by decide +kernel
theorem dX12_getsCell_14 : decode cX12_getsCell 14 = .ok (.aload_n 0, 1) := by decide +kernel
theorem dX12_getsCell_15 : decode cX12_getsCell 15 = .ok (.getfield 574, 3) := by decide +kernel
theorem dX12_getsCell_18 : decode cX12_getsCell 18 = .ok (.baload, 1) := by decide +kernel
theorem dX12_getsCell_19 : decode cX12_getsCell 19 = .ok (.iconst 2, 1) := by decide +kernel
theorem dX12_getsCell_20 : decode cX12_getsCell 20 = .ok (.if_icmp .eq 25, 3) := by decide +kernel
theorem dX12_getsCell_23 : decode cX12_getsCell 23 = .ok (.aload_n 0, 1) := by decide +kernel
theorem dX12_getsCell_24 : decode cX12_getsCell 24 = .ok (.aload_n 0, 1) := by decide +kernel
theorem dX12_getsCell_25 : decode cX12_getsCell 25 = .ok (.getfield 82, 3) := by decide +kernel
theorem dX12_getsCell_28 : decode cX12_getsCell 28 = .ok (.aload_n 0, 1) := by decide +kernel
theorem dX12_getsCell_29 : decode cX12_getsCell 29 = .ok (.getfield 574, 3) := by decide +kernel
theorem dX12_getsCell_32 : decode cX12_getsCell 32 = .ok (.baload, 1) := by decide +kernel
theorem dX12_getsCell_33 : decode cX12_getsCell 33 = .ok (.ifCond .ne 7, 3) := by decide +kernel
theorem dX12_getsCell_36 : decode cX12_getsCell 36 = .ok (.iconst 3, 1) := by decide +kernel
theorem dX12_getsCell_37 : decode cX12_getsCell 37 = .ok (.goto 4, 3) := by decide +kernel
theorem dX12_getsCell_40 : decode cX12_getsCell 40 = .ok (.iconst 4, 1) := by decide +kernel
theorem dX12_getsCell_41 : decode cX12_getsCell 41 = .ok (.invokevirtual 678, 3) := by decide +kernel
theorem dX12_getsCell_44 : decode cX12_getsCell 44 = .ok (.return_, 1) := by decide +kernel
theorem dX12_getsCell_45 : decode cX12_getsCell 45 = .ok (.aload_n 0, 1) := by decide +kernel
theorem dX12_getsCell_46 : decode cX12_getsCell 46 = .ok (.getfield 82, 3) := by decide +kernel
theorem dX12_getsCell_49 : decode cX12_getsCell 49 = .ok (.aload_n 0, 1) := by decide +kernel
theorem dX12_getsCell_50 : decode cX12_getsCell 50 = .ok (.getfield 574, 3) := by decide +kernel
theorem dX12_getsCell_53 : decode cX12_getsCell 53 = .ok (.iconst 1, 1) := by decide +kernel
theorem dX12_getsCell_54 : decode cX12_getsCell 54 = .ok (.iadd, 1) := by decide +kernel
theorem dX12_getsCell_55 : decode cX12_getsCell 55 = .ok (.baload, 1) := by decide +kernel
theorem dX12_getsCell_56 : decode cX12_getsCell 56 = .ok (.iconst 1, 1) := by decide +kernel
theorem dX12_getsCell_57 : decode cX12_getsCell 57 = .ok (.if_icmp .eq 9, 3) := by decide +kernel
theorem dX12_getsCell_60 : decode cX12_getsCell 60 = .ok (.aload_n 0, 1) := by decide +kernel
theorem dX12_getsCell_61 : decode cX12_getsCell 61 = .ok (.iconst 4, 1) := by decide +kernel
theorem dX12_getsCell_62 : decode cX12_getsCell 62 = .ok (.invokevirtual 678, 3) := by decide +kernel
theorem dX12_getsCell_65 : decode cX12_getsCell 65 = .ok (.return_, 1) := by decide +kernel
theorem dX12_getsCell_66 : decode cX12_getsCell 66 = .ok (.aload_n 0, 1) := by decide +kernel
theorem dX12_getsCell_67 : decode cX12_getsCell 67 = .ok (.getfield 85, 3) := by decide +kernel
theorem dX12_getsCell_70 : decode cX12_getsCell 70 = .ok (.aload_n 0, 1) := by decide +kernel
theorem dX12_getsCell_71 : decode cX12_getsCell 71 = .ok (.getfield 574, 3) := by decide +kernel
theorem dX12_getsCell_74 : decode cX12_getsCell 74 = .ok (.laload, 1) := by decide +kernel
theorem dX12_getsCell_75 : decode cX12_getsCell 75 = .ok (.l2i, 1) := by decide +kernel
theorem dX12_getsCell_76 : decode cX12_getsCell 76 = .ok (.istore_n 2, 1) := by decide +kernel
theorem dX12_getsCell_77 : decode cX12_getsCell 77 = .ok (.aload_n 0, 1) := by decide +kernel
theorem dX12_getsCell_78 : decode cX12_getsCell 78 = .ok (.iload_n 1, 1) := by decide +kernel
theorem dX12_getsCell_79 : decode cX12_getsCell 79 = .ok (.aload_n 0, 1) := by decide +kernel
theorem dX12_getsCell_80 : decode cX12_getsCell 80 = .ok (.getfield 85, 3) := by decide +kernel
theorem dX12_getsCell_83 : decode cX12_getsCell 83 = .ok (.aload_n 0, 1) := by decide +kernel
theorem dX12_getsCell_84 : decode cX12_getsCell 84 = .ok (.getfield 574, 3) := by decide +kernel
theorem dX12_getsCell_87 : decode cX12_getsCell 87 = .ok (.iconst 1, 1) := by decide +kernel
theorem dX12_getsCell_88 : decode cX12_getsCell 88 = .ok (.iadd, 1) := by decide +kernel
theorem dX12_getsCell_89 : decode cX12_getsCell 89 = .ok (.laload, 1) := by decide +kernel
theorem dX12_getsCell_90 : decode cX12_getsCell 90 = .ok (.aload_n 0, 1) := by decide +kernel
theorem dX12_getsCell_91 : decode cX12_getsCell 91 = .ok (.getfield 112, 3) := by decide +kernel
theorem dX12_getsCell_94 : decode cX12_getsCell 94 = .ok (.iload_n 2, 1) := by decide +kernel
theorem dX12_getsCell_95 : decode cX12_getsCell 95 = .ok (.iaload, 1) := by decide +kernel
theorem dX12_getsCell_96 : decode cX12_getsCell 96 = .ok (.iconst 1, 1) := by decide +kernel
theorem dX12_getsCell_97 : decode cX12_getsCell 97 = .ok (.isub, 1) := by decide +kernel
theorem dX12_getsCell_98 : decode cX12_getsCell 98 = .ok (.invokevirtual 720, 3) := by decide +kernel
theorem dX12_getsCell_101 : decode cX12_getsCell 101 = .ok (.istore_n 3, 1) := by decide +kernel
theorem dX12_getsCell_102 : decode cX12_getsCell 102 = .ok (.iload_n 3, 1) := by decide +kernel
theorem dX12_getsCell_103 : decode cX12_getsCell 103 = .ok (.iconst (-1), 1) := by decide +kernel
theorem dX12_getsCell_104 : decode cX12_getsCell 104 = .ok (.if_icmp .ne 9, 3) := by decide +kernel
theorem dX12_getsCell_107 : decode cX12_getsCell 107 = .ok (.aload_n 0, 1) := by decide +kernel
theorem dX12_getsCell_108 : decode cX12_getsCell 108 = .ok (.iconst 2, 1) := by decide +kernel
theorem dX12_getsCell_109 : decode cX12_getsCell 109 = .ok (.invokevirtual 678, 3) := by decide +kernel
theorem dX12_getsCell_112 : decode cX12_getsCell 112 = .ok (.return_, 1) := by decide +kernel
theorem dX12_getsCell_113 : decode cX12_getsCell 113 = .ok (.aload_n 0, 1) := by decide +kernel
theorem dX12_getsCell_114 : decode cX12_getsCell 114 = .ok (.getfield 115, 3) := by decide +kernel
theorem dX12_getsCell_117 : decode cX12_getsCell 117 = .ok (.iload_n 2, 1) := by decide +kernel
theorem dX12_getsCell_118 : decode cX12_getsCell 118 = .ok (.iaload, 1) := by decide +kernel
theorem dX12_getsCell_119 : decode cX12_getsCell 119 = .ok (.iload_n 1, 1) := by decide +kernel
theorem dX12_getsCell_120 : decode cX12_getsCell 120 = .ok (.if_icmp .eq 11, 3) := by decide +kernel
theorem dX12_getsCell_123 : decode cX12_getsCell 123 = .ok (.aload_n 0, 1) := by decide +kernel
theorem dX12_getsCell_124 : decode cX12_getsCell 124 = .ok (.invokevirtual 606, 3) := by decide +kernel
theorem dX12_getsCell_127 : decode cX12_getsCell 127 = .ok (.ifCond .ne 4, 3) := by decide +kernel
theorem dX12_getsCell_130 : decode cX12_getsCell 130 = .ok (.return_, 1) := by decide +kernel
theorem dX12_getsCell_131 : decode cX12_getsCell 131 = .ok (.aload_n 0, 1) := by decide +kernel
theorem dX12_getsCell_132 : decode cX12_getsCell 132 = .ok (.getfield 118, 3) := by decide +kernel
theorem dX12_getsCell_135 : decode cX12_getsCell 135 = .ok (.aload_n 0, 1) := by decide +kernel
theorem dX12_getsCell_136 : decode cX12_getsCell 136 = .ok (.getfield 109, 3) := by decide +kernel
theorem dX12_getsCell_139 : decode cX12_getsCell 139 = .ok (.iload_n 2, 1) := by decide +kernel
theorem dX12_getsCell_140 : decode cX12_getsCell 140 = .ok (.iaload, 1) := by decide +kernel
theorem dX12_getsCell_141 : decode cX12_getsCell 141 = .ok (.iload_n 3, 1) := by decide +kernel
theorem dX12_getsCell_142 : decode cX12_getsCell 142 = .ok (.iadd, 1) := by decide +kernel
theorem dX12_getsCell_143 : decode cX12_getsCell 143 = .ok (.baload, 1) := by decide +kernel
theorem dX12_getsCell_144 : decode cX12_getsCell 144 = .ok (.istore 4, 2) := by decide +kernel
theorem dX12_getsCell_146 : decode cX12_getsCell 146 = .ok (.aload_n 0, 1) := by decide +kernel
theorem dX12_getsCell_147 : decode cX12_getsCell 147 = .ok (.aload_n 0, 1) := by decide +kernel
theorem dX12_getsCell_148 : decode cX12_getsCell 148 = .ok (.getfield 115, 3) := by decide +kernel
theorem dX12_getsCell_151 : decode cX12_getsCell 151 = .ok (.iload_n 2, 1) := by decide +kernel
theorem dX12_getsCell_152 : decode cX12_getsCell 152 = .ok (.iaload, 1) := by decide +kernel
theorem dX12_getsCell_153 : decode cX12_getsCell 153 = .ok (.iload_n 1, 1) := by decide +kernel
theorem dX12_getsCell_154 : decode cX12_getsCell 154 = .ok (.iload 4, 2) := by decide +kernel
theorem dX12_getsCell_156 : decode cX12_getsCell 156 = .ok (.aload_n 0, 1) := by decide +kernel
theorem dX12_getsCell_157 : decode cX12_getsCell 157 = .ok (.getfield 121, 3) := by decide +kernel
theorem dX12_getsCell_160 : decode cX12_getsCell 160 = .ok (.aload_n 0, 1) := by decide +kernel
theorem dX12_getsCell_161 : decode cX12_getsCell 161 = .ok (.getfield 109, 3) := by decide +kernel
theorem dX12_getsCell_164 : decode cX12_getsCell 164 = .ok (.iload_n 2, 1) := by decide +kernel
theorem dX12_getsCell_165 : decode cX12_getsCell 165 = .ok (.iaload, 1) := by decide +kernel
theorem dX12_getsCell_166 : decode cX12_getsCell 166 = .ok (.iload_n 3, 1) := by decide +kernel
theorem dX12_getsCell_167 : decode cX12_getsCell 167 = .ok (.iadd, 1) := by decide +kernel
theorem dX12_getsCell_168 : decode cX12_getsCell 168 = .ok (.laload, 1) := by decide +kernel
theorem dX12_getsCell_169 : decode cX12_getsCell 169 = .ok (.invokevirtual 675, 3) := by decide +kernel
theorem dX12_getsCell_172 : decode cX12_getsCell 172 = .ok (.aload_n 0, 1) := by decide +kernel
theorem dX12_getsCell_173 : decode cX12_getsCell 173 = .ok (.getfield 534, 3) := by decide +kernel
theorem dX12_getsCell_176 : decode cX12_getsCell 176 = .ok (.ifCond .eq 16, 3) := by decide +kernel
theorem dX12_getsCell_179 : decode cX12_getsCell 179 = .ok (.aload_n 0, 1) := by decide +kernel
theorem dX12_getsCell_180 : decode cX12_getsCell 180 = .ok (.iload 4, 2) := by decide +kernel
theorem dX12_getsCell_182 : decode cX12_getsCell 182 = .ok (.aload_n 0, 1) := by decide +kernel
theorem dX12_getsCell_183 : decode cX12_getsCell 183 = .ok (.getfield 538, 3) := by decide +kernel
theorem dX12_getsCell_186 : decode cX12_getsCell 186 = .ok (.invokevirtual 577, 3) := by decide +kernel
theorem dX12_getsCell_189 : decode cX12_getsCell 189 = .ok (.goto 8, 3) := by decide +kernel
theorem dX12_getsCell_192 : decode cX12_getsCell 192 = .ok (.aload_n 0, 1) := by decide +kernel
theorem dX12_getsCell_193 : decode cX12_getsCell 193 = .ok (.iconst 4, 1) := by decide +kernel
theorem dX12_getsCell_194 : decode cX12_getsCell 194 = .ok (.invokevirtual 678, 3) := by decide +kernel
theorem dX12_getsCell_197 : decode cX12_getsCell 197 = .ok (.return_, 1) := by decide +kernel
/-! arrays, calls -/
theorem Eqa.bs {K : List Int} {μ ν : M3} {g : Int} (F : ∀ a, a ≠ g → ∀ j, ν.1 a j = μ.1 a j) (h : K.contains g = false) : Eqa K μ ν := fun a ha j => F a (fun z => by rw [z] at ha; rw [List.contains_iff_mem.mpr ha] at h; cases h) j
/-- the stack is told anew -/
theorem MZ.stk {μ ν : M3} (h : MZ μ) (A : Eqa [129, 114, 115, 116, 117, 119, 120, 121, 122, 127, 128, 131, 132, 133, 134, 137, 138, 140, 141, 142, 143, 144, 145, 146, 147, 148, 149, 150, 151, 152, 156, 157, 158, 159, 163, 165, 166] μ ν) (F : Eqf [4, 47, 53, 61, 65, 68, 69, 81, 82, 83, 84, 95, 96, 97, 104] μ ν) (hv : ∀ j, 0 ≤ j → j < μ.1 111 53 → vv μ (ν.1 135 j) (ν.1 136 j)) : MZ ν := by
  obtain ⟨h1, h2, h3, h4, h5, h6, h7, h8, h9⟩ := h
  have c : Cs μ ν := A.cs (by decide) (F 4 (by decide))
  have u : up2 μ ν := up2.eq (F 65 (by decide)) (F 82 (by decide))
  unfold MZ
  rw [F 47 (by decide), F 61 (by decide), F 53 (by decide)]
  refine ⟨h1.mv (A.sb (by decide)) (fun j hj => F j ((by decide : ∀ j ∈ ([4, 65, 68, 69, 81, 82, 95, 96, 97, 104] : List Int), j ∈ ([4, 47, 53, 61, 65, 68, 69, 81, 82, 83, 84, 95, 96, 97, 104] : List Int)) j hj)) ?_, h2, h3.mv h4.1 c (Int.le_refl _) (fun _ => ?_) (fun j _ => A 127 (by decide) j) (fun j _ => A 128 (by decide) j) (fun j _ => A 129 (by decide) j) (fun j _ => A 131 (by decide) j) (fun j _ => A 132 (by decide) j) (fun j _ => A 137 (by decide) j) (fun j _ => A 138 (by decide) j) (fun j _ => A 140 (by decide) j) (fun j _ => A 141 (by decide) j) (fun j _ => A 143 (by decide) j) u.2 (fun j _ _ => A 149 (by decide) j), ⟨?_, h4.2⟩, ?_, h6.mv (Int.le_refl _) c u (fun j _ => A 127 (by decide) j) (fun j _ => A 128 (by decide) j) (fun j _ => A 133 (by decide) j) (fun j _ => A 134 (by decide) j), h7.mv (Int.le_refl _) u (fun j _ => A 137 (by decide) j) (fun j _ => A 141 (by decide) j) (fun j _ => A 142 (by decide) j) (fun j _ => A 143 (by decide) j), ⟨?_, h8.2⟩, fun j j0 j1 => VV.u (hv j j0 j1) u⟩
  · have s1 := h1.2.2.2.1.1
    have s2 := h1.2.2.2.2.2.2
    rw [F 83 (by decide), F 84 (by decide)]; omega
  · unfold nb
    rw [if_neg (by omega)]; exact Int.le_refl _
  · rw [FB.eq (fun j _ => A 132 (by decide) j)]; exact h4.1
  · rw [F 81 (by decide), F 83 (by decide)]; exact h5
  · rw [FL.eq (fun j _ => A 131 (by decide) j)]; exact h8.1
theorem MZ.p6 {μ : M3} {j x : Int} (h : MZ μ) (hj : μ.1 111 53 ≤ j) : MZ (sv μ 136 j x) :=
  h.stk (Eqa.put (by decide)) (Eqf.pua (by decide)) (fun i i0 i1 => by
    rw [sv_a μ j i x (by decide), sv_k μ x (by omega)]; exact h.stv i i0 i1)
theorem RES.pt {μ ν : M3} {r : Int} (h : RES μ r) (hM : MZ ν) (A : Eqa [114, 115, 116, 117, 119, 120, 121, 122, 127, 128, 129, 131, 132, 137] μ ν) (F : Eqf [4, 47, 53, 61, 81, 83, 94] μ ν) : RES ν r := by
  refine ⟨hM, h.2.imp (fun z => by rw [F 94 (by decide)]; exact z) (fun ⟨z1, z2, z3, z4⟩ => ⟨by rw [F 94 (by decide)]; exact z1, by rw [F 47 (by decide)]; exact z2, ?_, ?_⟩)⟩
  · unfold A0 at *
    rw [F 47 (by decide), F 53 (by decide), F 61 (by decide), F 81 (by decide), F 83 (by decide), A 129 (by decide)]
    exact ⟨z3.1.mv2 (A.sb (by decide)) (F 4 (by decide)) rfl rfl, by rw [fC.mv (A.sb (by decide)) (F 4 (by decide))]; exact z3.2⟩
  · unfold RK at *
    have rx := RX.eq (μ := μ) (ν := ν) (A.sb (by decide)) (fun k hk => F k ((by decide : ∀ j ∈ ([47, 61] : List Int), j ∈ ([4, 47, 53, 61, 81, 83, 94] : List Int)) k hk))
    rw [F 83 (by decide)] at rx
    rw [rx, F 47 (by decide), A 129 (by decide), RKa.mv (A.cs (by decide) (F 4 (by decide))) (A 127 (by decide) _) (A 128 (by decide) _)]
    omega
theorem td64b {x : Int} (h : 0 ≤ x ∧ x < 256) : 0 ≤ x.tdiv 64 ∧ x.tdiv 64 ≤ 3 ∧ 0 ≤ x.tmod 64 ∧ x.tmod 64 < 64 := by
  rw [Int.tdiv_eq_ediv_of_nonneg h.1]
  exact ⟨by omega, by omega, Int.tmod_nonneg 64 h.1, Int.tmod_lt_of_pos x (by decide)⟩
set_option maxHeartbeats 4000000 in
set_option maxRecDepth 100000 in
theorem c_X12_makes (ω : Om) (l : Launch) (μ : M3) (x1 : Int) (n : Int) (hx1 : ir x1) (hn : n = μ.1 111 47) (hMZ : MZ μ) (h1 : 1 ≤ n ∧ n ≤ 24) (h94 : μ.1 111 94 = 0) (ht : x1 = μ.1 127 (n - 1)) (hTQ : TQ μ 0) (hlo : μ.1 131 (n - 1) + 1 ≤ μ.1 111 53) : CtV ω l yX12_makes cX12_makes 4 183 4972 [.ref (oP ω 111), .int (iv x1)] μ (fun (μ' : M3) => (FrM [111, 129, 133, 134, 135, 136, 137, 138, 139, 140, 141, 142, 143, 149, 150, 151, 152, 153, 154, 155, 156, 157, 158, 159, 144, 145, 146, 147] μ μ') ∧ (∀ j, j ∉ ([47, 53, 61, 81, 82, 83, 84, 90, 91, 93, 94, 95, 96, 97, 98, 99, 65, 68, 69] : List Int) → μ'.1 111 j = μ.1 111 j) ∧ (RES μ' (RX μ + 9000))) := by
  refine CtV.go (by decide) (Nat.le_of_ble_eq_true rfl) (fun ρ p e s m below meth c R ls G hR hret hlk hl => ?_)
  have hx := G.1.1
  have hb := G.1.2.1
  have hl : lv_has ls 4 [(0, .ref (oP ω 111)), (1, .int (iv x1))] := hl
  generalize s.drawn = d0 at G ⊢
  have hr_x1 : -2147483648 ≤ x1 ∧ x1 ≤ 2147483647 := hx1
  have hzn_ := hMZ.n
  rw [← hn] at hzn_
  obtain ⟨hz47, hzFB, hzFL, hz81, hz82, hz84, hz65, hz4, hz104⟩ := hzn_
  have htq_ := hTQ.n hMZ (by omega)
  rw [← hn] at htq_
  have hfr_ := (hMZ.2.2.1 (n - 1) (by omega) (by omega)).1.1
  have hzB := FB_1 (μ := μ) (n := n) (by omega)
  have hzL := FL_1 (μ := μ) (n := n) (by omega)
  refine lv_aload_n hx hb dX12_makes_0 rfl (lv_at hl 0 rfl) ?_
  refine lv_dup hx hb dX12_makes_1 rfl ?_
  refine xa_geti G fd_X12 (a := 111) (x := μ.1 111 53) 53 rfl (by decide) rfl (wm 7 202 rfl rfl) ⟨rfl, rfl, rfl⟩ dX12_makes_2 rfl rfl ?_
  have hr_1 : -2147483648 ≤ μ.1 111 53 ∧ μ.1 111 53 ≤ 2147483647 := by have h9 := G.hr (a := 111) (k := 53) rfl; exact h9
  refine lv_iconst (v := iv 1) hx hb dX12_makes_5 rfl ?_
  refine xb_isub hx hb dX12_makes_6 ?_
  refine xa_puti G fd_X12 (a := 111) (x := (μ.1 111 53) - 1) 53 (kz := 53) rfl rfl (by decide) rfl (by unfold ir; omega) (wm 7 202 rfl rfl) ⟨rfl, rfl, rfl, rfl⟩ rfl dX12_makes_7 rfl (fun H locs G => ?_)
  refine lv_aload_n hx hb dX12_makes_10 rfl (lv_at hl 0 rfl) ?_
  refine xa_getr G fd_X12 (a := 111) (x := 135) 51 rfl (by decide) rfl (wm 7 200 rfl rfl) ⟨rfl, rfl, rfl⟩ dX12_makes_11 rfl (G.sk 133 rfl) (by decide) rfl ?_
  refine lv_aload_n hx hb dX12_makes_14 rfl (lv_at hl 0 rfl) ?_
  refine xa_geti G fd_X12 (a := 111) (x := (μ.1 111 53) - 1) 53 rfl (by decide) rfl (wm 7 202 rfl rfl) ⟨rfl, rfl, rfl⟩ dX12_makes_15 rfl (sv_s _ _ _ _) ?_
  have hr_2 : -2147483648 ≤ (μ.1 111 53) - 1 ∧ (μ.1 111 53) - 1 ≤ 2147483647 := by have h9 := G.hr (a := 111) (k := 53) rfl; rw [show (sv μ 111 53 ((μ.1 111 53) - 1)).1 111 53 = (μ.1 111 53) - 1 from (sv_s _ _ _ _)] at h9; exact h9
  refine xa_bald G (a := 135) (i := (μ.1 111 53) - 1) rfl (by have h9 := G.lc (a := 135) (n := 9000) 73 rfl; omega) dX12_makes_18 rfl ?_
  refine xb_ti (y := μ.1 135 (μ.1 111 53 - 1)) (sv_n _ (fun h9 => absurd h9.1 (by decide))) ?_
  have hr_3 : -2147483648 ≤ μ.1 135 (μ.1 111 53 - 1) ∧ μ.1 135 (μ.1 111 53 - 1) ≤ 2147483647 := by have h9 := G.hr3 (a := 135) (k := (μ.1 111 53) - 1) rfl; rw [(sv_n _ (fun h9 => absurd h9.1 (by decide)))] at h9; exact h9
  refine lv_iconst (v := iv 1) hx hb dX12_makes_19 rfl ?_
  refine xb_icmp_eq (tgt := 29) hx hb (by unfold ir; omega) (by unfold ir; omega) dX12_makes_20 (by decide) (fun c_20 => ?_) (fun c_20 => ?_)
  · have hs0_ := hMZ.stv (μ.1 111 53 - 1) (by omega) (by omega)
    refine lv_aload_n hx hb dX12_makes_29 rfl (lv_at hl 0 rfl) ?_
    refine lv_iload_n hx hb dX12_makes_30 rfl (lv_at hl 1 rfl) ?_
    refine lv_aload_n hx hb dX12_makes_31 rfl (lv_at hl 0 rfl) ?_
    refine xa_getr G fd_X12 (a := 111) (x := 136) 52 rfl (by decide) rfl (wm 7 201 rfl rfl) ⟨rfl, rfl, rfl⟩ dX12_makes_32 rfl (G.sk 134 rfl) (by decide) rfl ?_
    refine lv_aload_n hx hb dX12_makes_35 rfl (lv_at hl 0 rfl) ?_
    refine xa_geti G fd_X12 (a := 111) (x := (μ.1 111 53) - 1) 53 rfl (by decide) rfl (wm 7 202 rfl rfl) ⟨rfl, rfl, rfl⟩ dX12_makes_36 rfl (sv_s _ _ _ _) ?_
    refine xa_lald G (a := 136) (i := (μ.1 111 53) - 1) rfl (by have h9 := G.lc (a := 136) (n := 9000) 74 rfl; omega) dX12_makes_39 rfl ?_
    refine xb_tl (y := μ.1 136 (μ.1 111 53 - 1)) (sv_n _ (fun h9 => absurd h9.1 (by decide))) ?_
    have hj_4 : jr (μ.1 136 (μ.1 111 53 - 1)) := (by have h9 := G.hj (a := 136) (k := (μ.1 111 53) - 1) rfl; rw [(sv_n _ (fun h9 => absurd h9.1 (by decide)))] at h9; exact h9)
    refine lv_sipush (v := iv 400) hx hb dX12_makes_40 rfl ?_
    refine xc_iV G (b := 111) (rest := []) (As := [.int (iv x1), .long (jv (μ.1 136 (μ.1 111 53 - 1))), .int (iv 400)]) (c_X12_indexOf ω l (sv μ 111 53 ((μ.1 111 53) - 1)) x1 (μ.1 136 (μ.1 111 53 - 1)) 400 (by unfold ir; omega) hj_4 (by unfold ir; omega) (by omega)) (wm 10 211 rfl rfl) (wm 10 213 rfl rfl) (wm 0 216 rfl rfl) rfl rfl (by decide) rfl (wm 1 18 rfl rfl) (wm 10 214 rfl rfl) (by decide) hR (by decide) (n := 3) rfl rfl (Nat.le_of_ble_eq_true rfl) hl.1 dX12_makes_43 (fun r_6 μ5 ρ d0 H locs hr_r_6 hp G => ?_)
    have hr_r_6 : -2147483648 ≤ r_6 ∧ r_6 ≤ 2147483647 := hr_r_6
    obtain ⟨hsm_7, hp_8⟩ := hp
    have hsm_7 := Eq.symm hsm_7
    subst hsm_7
    refine lv_istore_n (lv' := [(2, .int (iv r_6)), (0, .ref (oP ω 111)), (1, .int (iv x1))]) hx hb dX12_makes_46 rfl hl (by decide) rfl (fun ls hl => ?_)
    refine lv_iload_n hx hb dX12_makes_47 rfl (lv_at hl 0 rfl) ?_
    refine lv_iconst (v := iv (-1)) hx hb dX12_makes_48 rfl ?_
    refine xb_icmp_eq (tgt := 66) hx hb (by unfold ir; omega) (by unfold ir; omega) dX12_makes_49 (by decide) (fun c_49 => ?_) (fun c_49 => ?_)
    · refine lv_aload_n hx hb dX12_makes_66 rfl (lv_at hl 1 rfl) ?_
      refine lv_iconst (v := iv 5) hx hb dX12_makes_67 rfl ?_
      have e_9 : (sv μ 111 53 ((μ.1 111 53) - 1)).1 111 4 = μ.1 111 4 := (sv_n _ (by decide))
      have e_10 : (sv μ 111 53 ((μ.1 111 53) - 1)).1 111 83 = μ.1 111 83 := (sv_n _ (by decide))
      have hrx_11 := RX.eq (μ := μ) (ν := (sv μ 111 53 ((μ.1 111 53) - 1))) (Eqa.fr (L := [111]) (FrM.put FrM.rf (by decide)) (by decide)) (Eqf.fd (L := [53]) (fun j hj => (sv_n _ (fun h9 => hj (by rw [h9.2]; decide)))) (by decide))
      have e_12 : (sv μ 111 53 ((μ.1 111 53) - 1)).1 111 94 = μ.1 111 94 := (sv_n _ (by decide))
      have e_13 : (sv μ 111 53 ((μ.1 111 53) - 1)).1 111 47 = n := ((sv_n _ (by decide)).trans hn.symm)
      have hMZ_14 : MZ (sv μ 111 53 ((μ.1 111 53) - 1)) := MZ.mn1 hMZ (n := n) (s := μ.1 131 (n - 1)) (hn.symm) (by have h9 : μ.1 131 (n - 1) = μ.1 131 (n - 1) := rfl; exact h9) (by omega) (by have h9 : μ.1 111 53 = μ.1 111 53 := rfl; omega)
      have e_15 : (sv μ 111 53 ((μ.1 111 53) - 1)).1 111 94 = μ.1 111 94 := (sv_n _ (by decide))
      have hA1_16 : A1 (sv μ 111 53 ((μ.1 111 53) - 1)) := TQ.a1 hTQ (Eqa.fr (L := [111]) (FrM.put FrM.rf (by decide)) (by decide)) (Eqf.fd (L := [53]) (fun j hj => (sv_n _ (fun h9 => hj (by rw [h9.2]; decide)))) (by decide)) (by have h9 : (sv μ 111 53 ((μ.1 111 53) - 1)).1 111 53 = (μ.1 111 53) - 1 := (sv_s _ _ _ _); omega)
      refine xc_vV G (b := 111) (rest := []) (As := [.int (iv 5)]) (c_X12_arises_a ω l (sv μ 111 53 ((μ.1 111 53) - 1)) 5 n (by unfold ir; omega) (by omega) hMZ_14 (by omega) (by omega) (fun _ => by omega) (fun _ => hA1_16)) (wm 10 199 rfl rfl) (wm 10 201 rfl rfl) (wm 0 213 rfl rfl) rfl rfl (by decide) rfl (wm 1 18 rfl rfl) (wm 10 202 rfl rfl) (by decide) hR (by decide) (n := 1) rfl rfl (Nat.le_of_ble_eq_true rfl) hl.1 dX12_makes_68 (fun μ17 ρ d0 H locs hp G => ?_)
      obtain ⟨F_18, hp_19, hp_20⟩ := hp
      exact xr_v G hret hlk dX12_makes_71 ⟨(FrM.tr (FrM.put FrM.rf (by decide)) F_18 (by decide)), (fun j hj => ((hp_19 j (fun h9 => hj ((by decide : ∀ x ∈ ([47, 53, 61, 81, 82, 83, 84, 90, 91, 93, 94, 95, 96, 97, 98, 99] : List Int), x ∈ ([47, 53, 61, 81, 82, 83, 84, 90, 91, 93, 94, 95, 96, 97, 98, 99, 65, 68, 69] : List Int)) j h9))).trans (sv_n _ (fun h9 => hj (by rw [h9.2]; decide))))), (hp_20.le (by omega))⟩
    · refine lv_aload_n hx hb dX12_makes_52 rfl (lv_at hl 1 rfl) ?_
      refine xa_geti G fd_X12 (a := 111) (x := μ.1 111 69) 69 rfl (by decide) rfl (wm 7 218 rfl rfl) ⟨rfl, rfl, rfl⟩ dX12_makes_53 rfl (sv_n _ (by decide)) ?_
      have hr_21 : -2147483648 ≤ μ.1 111 69 ∧ μ.1 111 69 ≤ 2147483647 := by have h9 := G.hr (a := 111) (k := 69) rfl; rw [show (sv μ 111 53 ((μ.1 111 53) - 1)).1 111 69 = μ.1 111 69 from (sv_n _ (by decide))] at h9; exact h9
      refine lv_iload_n hx hb dX12_makes_56 rfl (lv_at hl 0 rfl) ?_
      refine xb_iadd hx hb dX12_makes_57 ?_
      refine lv_iconst (v := iv 1) hx hb dX12_makes_58 rfl ?_
      refine xb_iadd hx hb dX12_makes_59 ?_
      refine lv_sipush (v := iv 20000) hx hb dX12_makes_60 rfl ?_
      refine xb_icmp_le (tgt := 72) hx hb (by unfold ir; omega) (by unfold ir; omega) dX12_makes_63 (by decide) (fun c_63 => ?_) (fun c_63 => ?_)
      · refine lv_aload_n hx hb dX12_makes_72 rfl (lv_at hl 1 rfl) ?_
        refine lv_dup hx hb dX12_makes_73 rfl ?_
        refine xa_geti G fd_X12 (a := 111) (x := μ.1 111 69) 69 rfl (by decide) rfl (wm 7 218 rfl rfl) ⟨rfl, rfl, rfl⟩ dX12_makes_74 rfl (sv_n _ (by decide)) ?_
        refine lv_iload_n hx hb dX12_makes_77 rfl (lv_at hl 0 rfl) ?_
        refine lv_iconst (v := iv 1) hx hb dX12_makes_78 rfl ?_
        refine xb_iadd hx hb dX12_makes_79 ?_
        refine xb_iadd hx hb dX12_makes_80 ?_
        refine xa_puti G fd_X12 (a := 111) (x := (μ.1 111 69) + (r_6 + 1)) 69 (kz := 69) rfl rfl (by decide) rfl (by unfold ir; omega) (wm 7 218 rfl rfl) ⟨rfl, rfl, rfl, rfl⟩ rfl dX12_makes_81 rfl (fun H locs G => ?_)
        refine lv_aload_n hx hb dX12_makes_84 rfl (lv_at hl 1 rfl) ?_
        refine xa_getr G fd_X12 (a := 111) (x := 144) 62 rfl (by decide) rfl (wm 7 211 rfl rfl) ⟨rfl, rfl, rfl⟩ dX12_makes_85 rfl (G.sk 142 rfl) (by decide) rfl ?_
        refine lv_aload_n hx hb dX12_makes_88 rfl (lv_at hl 1 rfl) ?_
        refine xa_geti G fd_X12 (a := 111) (x := μ.1 111 65) 65 rfl (by decide) rfl (wm 7 214 rfl rfl) ⟨rfl, rfl, rfl⟩ dX12_makes_89 rfl ((sv_n _ (by decide)).trans (sv_n _ (by decide))) ?_
        have hr_22 : -2147483648 ≤ μ.1 111 65 ∧ μ.1 111 65 ≤ 2147483647 := by have h9 := G.hr (a := 111) (k := 65) rfl; rw [show (sv (sv μ 111 53 ((μ.1 111 53) - 1)) 111 69 ((μ.1 111 69) + (r_6 + 1))).1 111 65 = μ.1 111 65 from ((sv_n _ (by decide)).trans (sv_n _ (by decide)))] at h9; exact h9
        refine lv_aload_n hx hb dX12_makes_92 rfl (lv_at hl 1 rfl) ?_
        refine xa_geti G fd_X12 (a := 111) (x := μ.1 111 68) 68 rfl (by decide) rfl (wm 7 217 rfl rfl) ⟨rfl, rfl, rfl⟩ dX12_makes_93 rfl ((sv_n _ (by decide)).trans (sv_n _ (by decide))) ?_
        have hr_23 : -2147483648 ≤ μ.1 111 68 ∧ μ.1 111 68 ≤ 2147483647 := by have h9 := G.hr (a := 111) (k := 68) rfl; rw [show (sv (sv μ 111 53 ((μ.1 111 53) - 1)) 111 69 ((μ.1 111 69) + (r_6 + 1))).1 111 68 = μ.1 111 68 from ((sv_n _ (by decide)).trans (sv_n _ (by decide)))] at h9; exact h9
        refine xa_iast G (a := 144) (i := μ.1 111 65) (x := μ.1 111 68) rfl (by have h9 := G.lc (a := 144) (n := 20100) 82 rfl; omega) (by unfold ir; omega) dX12_makes_96 rfl (fun H locs G => ?_)
        refine lv_aload_n hx hb dX12_makes_97 rfl (lv_at hl 1 rfl) ?_
        refine xa_getr G fd_X12 (a := 111) (x := 145) 63 rfl (by decide) rfl (wm 7 212 rfl rfl) ⟨rfl, rfl, rfl⟩ dX12_makes_98 rfl (G.sk 143 rfl) (by decide) rfl ?_
        refine lv_aload_n hx hb dX12_makes_101 rfl (lv_at hl 1 rfl) ?_
        refine xa_geti G fd_X12 (a := 111) (x := μ.1 111 65) 65 rfl (by decide) rfl (wm 7 214 rfl rfl) ⟨rfl, rfl, rfl⟩ dX12_makes_102 rfl ((sv_n _ (fun h9 => absurd h9.1 (by decide))).trans ((sv_n _ (by decide)).trans (sv_n _ (by decide)))) ?_
        refine lv_iload_n hx hb dX12_makes_105 rfl (lv_at hl 0 rfl) ?_
        refine xa_iast G (a := 145) (i := μ.1 111 65) (x := r_6) rfl (by have h9 := G.lc (a := 145) (n := 20100) 83 rfl; omega) (by unfold ir; omega) dX12_makes_106 rfl (fun H locs G => ?_)
        refine lv_aload_n hx hb dX12_makes_107 rfl (lv_at hl 1 rfl) ?_
        refine xa_getr G fd_X12 (a := 111) (x := 146) 64 rfl (by decide) rfl (wm 7 213 rfl rfl) ⟨rfl, rfl, rfl⟩ dX12_makes_108 rfl (G.sk 144 rfl) (by decide) rfl ?_
        refine lv_aload_n hx hb dX12_makes_111 rfl (lv_at hl 1 rfl) ?_
        refine xa_geti G fd_X12 (a := 111) (x := μ.1 111 65) 65 rfl (by decide) rfl (wm 7 214 rfl rfl) ⟨rfl, rfl, rfl⟩ dX12_makes_112 rfl ((sv_n _ (fun h9 => absurd h9.1 (by decide))).trans ((sv_n _ (fun h9 => absurd h9.1 (by decide))).trans ((sv_n _ (by decide)).trans (sv_n _ (by decide))))) ?_
        refine lv_iload_n hx hb dX12_makes_115 rfl (lv_at hl 2 rfl) ?_
        refine xa_iast G (a := 146) (i := μ.1 111 65) (x := x1) rfl (by have h9 := G.lc (a := 146) (n := 20100) 84 rfl; omega) (by unfold ir; omega) dX12_makes_116 rfl (fun H locs G => ?_)
        refine lv_iconst (v := iv 0) hx hb dX12_makes_117 rfl ?_
        refine lv_istore_n (lv' := [(3, .int (iv 0)), (2, .int (iv r_6)), (0, .ref (oP ω 111)), (1, .int (iv x1))]) hx hb dX12_makes_118 rfl hl (by decide) rfl (fun ls hl => ?_)
        refine xl (fun n_9 μ' ls => ∃ (k9 : Int), (FrM [147] (sv (sv (sv (sv (sv μ 111 53 ((μ.1 111 53) - 1)) 111 69 ((μ.1 111 69) + (r_6 + 1))) 144 (μ.1 111 65) (μ.1 111 68)) 145 (μ.1 111 65) r_6) 146 (μ.1 111 65) x1) μ') ∧ (-2147483648 ≤ k9 ∧ k9 ≤ 2147483647) ∧ (0 ≤ k9 ∧ k9 ≤ r_6) ∧ (∀ j, 0 ≤ j → j < k9 → μ'.1 147 (μ.1 111 68 + j) = 0) ∧ (∀ j, j < μ.1 111 68 → μ'.1 147 j = μ.1 147 j) ∧ n_9 = Int.toNat (r_6 - k9) ∧ lv_has ls 4 [(3, .int (iv k9)), (2, .int (iv r_6)), (0, .ref (oP ω 111)), (1, .int (iv x1))]) (fun n_9 ρ μL24 d0 H locs ls hI_l G ih => ?_) _ _ _ _ _ _ _ ⟨0, FrM.rf, (by omega), (by omega), (fun j h1 h2 => absurd h2 (by omega)), (fun j hj => ((sv_n _ (by omega)).trans ((sv_n _ (by omega)).trans ((sv_n _ (by omega)).trans ((sv_n _ (by omega)).trans (sv_n _ (by omega))))))), rfl, lv_sub hl [0, 1, 2, 3] rfl⟩ G
        obtain ⟨k9, FL25, hi_27, hi_28, hi_29, hi_30, hn26, hl⟩ := hI_l
        refine lv_iload_n hx hb dX12_makes_119 rfl (lv_at hl 0 rfl) ?_
        refine lv_iload_n hx hb dX12_makes_120 rfl (lv_at hl 1 rfl) ?_
        refine xb_icmp_ge (tgt := 142) hx hb (by unfold ir; omega) (by unfold ir; omega) dX12_makes_121 (by decide) (fun c_121 => ?_) (fun c_121 => ?_)
        · refine lv_aload_n hx hb dX12_makes_142 rfl (lv_at hl 2 rfl) ?_
          refine lv_dup hx hb dX12_makes_143 rfl ?_
          refine xa_geti G fd_X12 (a := 111) (x := μ.1 111 68) 68 rfl (by decide) rfl (wm 7 217 rfl rfl) ⟨rfl, rfl, rfl⟩ dX12_makes_144 rfl ((FL25.1 111 (by decide) 68).trans ((sv_n _ (fun h9 => absurd h9.1 (by decide))).trans ((sv_n _ (fun h9 => absurd h9.1 (by decide))).trans ((sv_n _ (fun h9 => absurd h9.1 (by decide))).trans ((sv_n _ (by decide)).trans (sv_n _ (by decide))))))) ?_
          refine lv_iload_n hx hb dX12_makes_147 rfl (lv_at hl 1 rfl) ?_
          refine xb_iadd hx hb dX12_makes_148 ?_
          refine xa_puti G fd_X12 (a := 111) (x := (μ.1 111 68) + r_6) 68 (kz := 68) rfl rfl (by decide) rfl (by unfold ir; omega) (wm 7 217 rfl rfl) ⟨rfl, rfl, rfl, rfl⟩ rfl dX12_makes_149 rfl (fun H locs G => ?_)
          refine lv_aload_n hx hb dX12_makes_152 rfl (lv_at hl 2 rfl) ?_
          refine lv_iconst (v := iv 2) hx hb dX12_makes_153 rfl ?_
          refine lv_aload_n hx hb dX12_makes_154 rfl (lv_at hl 2 rfl) ?_
          refine xa_geti G fd_X12 (a := 111) (x := μ.1 111 65) 65 rfl (by decide) rfl (wm 7 214 rfl rfl) ⟨rfl, rfl, rfl⟩ dX12_makes_155 rfl ((sv_n _ (by decide)).trans ((FL25.1 111 (by decide) 65).trans ((sv_n _ (fun h9 => absurd h9.1 (by decide))).trans ((sv_n _ (fun h9 => absurd h9.1 (by decide))).trans ((sv_n _ (fun h9 => absurd h9.1 (by decide))).trans ((sv_n _ (by decide)).trans (sv_n _ (by decide)))))))) ?_
          refine xb_i2l hx hb (by unfold ir; omega) dX12_makes_158 ?_
          have e_31 : (sv μL24 111 68 ((μ.1 111 68) + r_6)).1 111 53 = (μ.1 111 53) - 1 := ((sv_n _ (by decide)).trans ((FL25.1 111 (by decide) 53).trans ((sv_n _ (fun h9 => absurd h9.1 (by decide))).trans ((sv_n _ (fun h9 => absurd h9.1 (by decide))).trans ((sv_n _ (fun h9 => absurd h9.1 (by decide))).trans ((sv_n _ (by decide)).trans (sv_s _ _ _ _)))))))
          have e_32 : (sv μL24 111 68 ((μ.1 111 68) + r_6)).1 111 53 = (μ.1 111 53) - 1 := ((sv_n _ (by decide)).trans ((FL25.1 111 (by decide) 53).trans ((sv_n _ (fun h9 => absurd h9.1 (by decide))).trans ((sv_n _ (fun h9 => absurd h9.1 (by decide))).trans ((sv_n _ (fun h9 => absurd h9.1 (by decide))).trans ((sv_n _ (by decide)).trans (sv_s _ _ _ _)))))))
          have e_33 : (sv μL24 111 68 ((μ.1 111 68) + r_6)).1 111 53 = (μ.1 111 53) - 1 := ((sv_n _ (by decide)).trans ((FL25.1 111 (by decide) 53).trans ((sv_n _ (fun h9 => absurd h9.1 (by decide))).trans ((sv_n _ (fun h9 => absurd h9.1 (by decide))).trans ((sv_n _ (fun h9 => absurd h9.1 (by decide))).trans ((sv_n _ (by decide)).trans (sv_s _ _ _ _)))))))
          have e_34 : (sv μL24 111 68 ((μ.1 111 68) + r_6)).1 111 53 = (μ.1 111 53) - 1 := ((sv_n _ (by decide)).trans ((FL25.1 111 (by decide) 53).trans ((sv_n _ (fun h9 => absurd h9.1 (by decide))).trans ((sv_n _ (fun h9 => absurd h9.1 (by decide))).trans ((sv_n _ (fun h9 => absurd h9.1 (by decide))).trans ((sv_n _ (by decide)).trans (sv_s _ _ _ _)))))))
          have e_35 : (sv μL24 111 68 ((μ.1 111 68) + r_6)).1 111 53 = (μ.1 111 53) - 1 := ((sv_n _ (by decide)).trans ((FL25.1 111 (by decide) 53).trans ((sv_n _ (fun h9 => absurd h9.1 (by decide))).trans ((sv_n _ (fun h9 => absurd h9.1 (by decide))).trans ((sv_n _ (fun h9 => absurd h9.1 (by decide))).trans ((sv_n _ (by decide)).trans (sv_s _ _ _ _)))))))
          have e_36 : (sv μL24 111 68 ((μ.1 111 68) + r_6)).1 111 53 = (μ.1 111 53) - 1 := ((sv_n _ (by decide)).trans ((FL25.1 111 (by decide) 53).trans ((sv_n _ (fun h9 => absurd h9.1 (by decide))).trans ((sv_n _ (fun h9 => absurd h9.1 (by decide))).trans ((sv_n _ (fun h9 => absurd h9.1 (by decide))).trans ((sv_n _ (by decide)).trans (sv_s _ _ _ _)))))))
          have e_37 : (sv μL24 111 68 ((μ.1 111 68) + r_6)).1 111 53 = (μ.1 111 53) - 1 := ((sv_n _ (by decide)).trans ((FL25.1 111 (by decide) 53).trans ((sv_n _ (fun h9 => absurd h9.1 (by decide))).trans ((sv_n _ (fun h9 => absurd h9.1 (by decide))).trans ((sv_n _ (fun h9 => absurd h9.1 (by decide))).trans ((sv_n _ (by decide)).trans (sv_s _ _ _ _)))))))
          have e_38 : (sv μL24 111 68 ((μ.1 111 68) + r_6)).1 111 65 = μ.1 111 65 := ((sv_n _ (by decide)).trans ((FL25.1 111 (by decide) 65).trans ((sv_n _ (fun h9 => absurd h9.1 (by decide))).trans ((sv_n _ (fun h9 => absurd h9.1 (by decide))).trans ((sv_n _ (fun h9 => absurd h9.1 (by decide))).trans ((sv_n _ (by decide)).trans (sv_n _ (by decide))))))))
          refine xc_vV G (b := 111) (rest := []) (As := [.int (iv 2), .long (jv (μ.1 111 65))]) (c_X12_push_r ω l (sv μL24 111 68 ((μ.1 111 68) + r_6)) 2 (μ.1 111 65) ((μ.1 111 53) - 1) (by unfold ir; omega) (by unfold jr; omega) (by omega) (by omega) (by omega)) (wm 10 127 rfl rfl) (wm 10 129 rfl rfl) (wm 0 195 rfl rfl) rfl rfl (by decide) rfl (wm 1 18 rfl rfl) (wm 10 130 rfl rfl) (by decide) hR (by decide) (n := 2) rfl rfl (Nat.le_of_ble_eq_true rfl) hl.1 dX12_makes_159 (fun μ39 ρ d0 H locs hp G => ?_)
          obtain ⟨F_40, hp_41, hs_42, hs_43, hs_44, ha_45, ha_46⟩ := hp
          refine lv_aload_n hx hb dX12_makes_162 rfl (lv_at hl 2 rfl) ?_
          refine lv_dup hx hb dX12_makes_163 rfl ?_
          refine xa_geti G fd_X12 (a := 111) (x := μ.1 111 65) 65 rfl (by decide) rfl (wm 7 214 rfl rfl) ⟨rfl, rfl, rfl⟩ dX12_makes_164 rfl ((hp_41 65 (by decide)).trans ((sv_n _ (by decide)).trans ((FL25.1 111 (by decide) 65).trans ((sv_n _ (fun h9 => absurd h9.1 (by decide))).trans ((sv_n _ (fun h9 => absurd h9.1 (by decide))).trans ((sv_n _ (fun h9 => absurd h9.1 (by decide))).trans ((sv_n _ (by decide)).trans (sv_n _ (by decide))))))))) ?_
          refine lv_iconst (v := iv 1) hx hb dX12_makes_167 rfl ?_
          refine xb_iadd hx hb dX12_makes_168 ?_
          refine xa_puti G fd_X12 (a := 111) (x := (μ.1 111 65) + 1) 65 (kz := 65) rfl rfl (by decide) rfl (by unfold ir; omega) (wm 7 214 rfl rfl) ⟨rfl, rfl, rfl, rfl⟩ rfl dX12_makes_169 rfl (fun H locs G => ?_)
          have hA1_47 : A1 (sv μ 111 53 ((μ.1 111 53) - 1)) := TQ.a1 hTQ (Eqa.fr (L := [111]) (FrM.put FrM.rf (by decide)) (by decide)) (Eqf.fd (L := [53]) (fun j hj => (sv_n _ (fun h9 => hj (by rw [h9.2]; decide)))) (by decide)) (by have h9 : (sv μ 111 53 ((μ.1 111 53) - 1)).1 111 53 = (μ.1 111 53) - 1 := (sv_s _ _ _ _); omega)
          have hMZ_48 : MZ (sv μ 111 53 ((μ.1 111 53) - 1)) := MZ.mn1 hMZ (n := n) (s := μ.1 131 (n - 1)) (hn.symm) (by have h9 : μ.1 131 (n - 1) = μ.1 131 (n - 1) := rfl; exact h9) (by omega) (by have h9 : μ.1 111 53 = μ.1 111 53 := rfl; omega)
          have e_49 : (sv μ 111 53 ((μ.1 111 53) - 1)).1 111 47 = n := ((sv_n _ (by decide)).trans hn.symm)
          have e_50 : (sv μ 111 53 ((μ.1 111 53) - 1)).1 111 53 = (μ.1 111 53) - 1 := (sv_s _ _ _ _)
          have hmk_ := MZ.mkp (μ := (sv μ 111 53 ((μ.1 111 53) - 1))) (ν := (sv μ39 111 65 ((μ.1 111 65) + 1))) (t := x1) (x := r_6) (mo := (μ.1 111 53 - 1)) (na := μ.1 111 65) hMZ_48 (by omega) (by have h9 : (sv μ 111 53 ((μ.1 111 53) - 1)).1 111 65 = μ.1 111 65 := (sv_n _ (by decide)); omega) (by omega) (by omega) (by have h9 : (sv μ 111 53 ((μ.1 111 53) - 1)).1 111 69 = μ.1 111 69 := (sv_n _ (by decide)); omega) (by omega) (Eqa.fr (L := [111, 135, 136, 147, 146, 145, 144]) (FrM.put (FrM.tr (FrM.put (FrM.tr (FrM.put (FrM.put (FrM.put (FrM.put FrM.rf (by decide)) (by decide)) (by decide)) (by decide)) FL25 (by decide)) (by decide)) F_40 (by decide)) (by decide)) (by decide)) (Eqf.fd (L := [53, 65, 68, 69]) (fun j hj => ((sv_n _ (fun h9 => hj (by rw [h9.2]; decide))).trans ((hp_41 j (fun h9 => hj ((by decide : ∀ x ∈ ([53] : List Int), x ∈ ([53, 65, 68, 69] : List Int)) j h9))).trans ((sv_n _ (fun h9 => hj (by rw [h9.2]; decide))).trans ((FL25.1 111 (by decide) j).trans ((sv_n _ (fun h9 => absurd h9.1 (by decide))).trans ((sv_n _ (fun h9 => absurd h9.1 (by decide))).trans ((sv_n _ (fun h9 => absurd h9.1 (by decide))).trans (sv_n _ (fun h9 => hj (by rw [h9.2]; decide))))))))))) (by decide)) (by have h9 : (sv μ39 111 65 ((μ.1 111 65) + 1)).1 111 65 = (μ.1 111 65) + 1 := (sv_s _ _ _ _); omega) (by have h9 : (sv μ39 111 65 ((μ.1 111 65) + 1)).1 111 68 = (μ.1 111 68) + r_6 := ((sv_n _ (by decide)).trans ((hp_41 68 (by decide)).trans (sv_s _ _ _ _))); have h8 : (sv μ 111 53 ((μ.1 111 53) - 1)).1 111 68 = μ.1 111 68 := (sv_n _ (by decide)); omega) (by have h9 : (sv μ39 111 65 ((μ.1 111 65) + 1)).1 111 69 = (μ.1 111 69) + (r_6 + 1) := ((sv_n _ (by decide)).trans ((hp_41 69 (by decide)).trans ((sv_n _ (by decide)).trans ((FL25.1 111 (by decide) 69).trans ((sv_n _ (fun h9 => absurd h9.1 (by decide))).trans ((sv_n _ (fun h9 => absurd h9.1 (by decide))).trans ((sv_n _ (fun h9 => absurd h9.1 (by decide))).trans (sv_s _ _ _ _)))))))); have h8 : (sv μ 111 53 ((μ.1 111 53) - 1)).1 111 69 = μ.1 111 69 := (sv_n _ (by decide)); omega) (by have h9 : (sv μ39 111 65 ((μ.1 111 65) + 1)).1 111 53 = ((μ.1 111 53) - 1) + 1 := ((sv_n _ (by decide)).trans hs_42); omega) (fun j hj => ((sv_n _ (by omega)).trans ((F_40.1 144 (by decide) j).trans ((sv_n _ (by omega)).trans ((FL25.1 144 (by decide) j).trans ((sv_n _ (by omega)).trans ((sv_n _ (by omega)).trans ((sv_n _ (by omega)).trans (sv_n _ (by omega)))))))))) (fun j hj => ((sv_n _ (by omega)).trans ((F_40.1 145 (by decide) j).trans ((sv_n _ (by omega)).trans ((FL25.1 145 (by decide) j).trans ((sv_n _ (by omega)).trans ((sv_n _ (by omega)).trans ((sv_n _ (by omega)).trans (sv_n _ (by omega)))))))))) (fun j hj => ((sv_n _ (by omega)).trans ((F_40.1 146 (by decide) j).trans ((sv_n _ (by omega)).trans ((FL25.1 146 (by decide) j).trans ((sv_n _ (by omega)).trans ((sv_n _ (by omega)).trans ((sv_n _ (by omega)).trans (sv_n _ (by omega)))))))))) (by have h9 : (sv μ39 111 65 ((μ.1 111 65) + 1)).1 144 (μ.1 111 65) = μ.1 111 68 := ((sv_n _ (fun h9 => absurd h9.1 (by decide))).trans ((F_40.1 144 (by decide) (μ.1 111 65)).trans ((sv_n _ (fun h9 => absurd h9.1 (by decide))).trans ((FL25.1 144 (by decide) (μ.1 111 65)).trans ((sv_n _ (fun h9 => absurd h9.1 (by decide))).trans ((sv_n _ (fun h9 => absurd h9.1 (by decide))).trans (sv_s _ _ _ _))))))); have h8 : (sv μ 111 53 ((μ.1 111 53) - 1)).1 111 68 = μ.1 111 68 := (sv_n _ (by decide)); omega) (by have h9 : (sv μ39 111 65 ((μ.1 111 65) + 1)).1 145 (μ.1 111 65) = r_6 := ((sv_n _ (fun h9 => absurd h9.1 (by decide))).trans ((F_40.1 145 (by decide) (μ.1 111 65)).trans ((sv_n _ (fun h9 => absurd h9.1 (by decide))).trans ((FL25.1 145 (by decide) (μ.1 111 65)).trans ((sv_n _ (fun h9 => absurd h9.1 (by decide))).trans (sv_s _ _ _ _)))))); omega) (by have h9 : (sv μ39 111 65 ((μ.1 111 65) + 1)).1 146 (μ.1 111 65) = x1 := ((sv_n _ (fun h9 => absurd h9.1 (by decide))).trans ((F_40.1 146 (by decide) (μ.1 111 65)).trans ((sv_n _ (fun h9 => absurd h9.1 (by decide))).trans ((FL25.1 146 (by decide) (μ.1 111 65)).trans (sv_s _ _ _ _))))); omega) (fun j hj => by rw [show (sv μ 111 53 ((μ.1 111 53) - 1)).1 111 68 = μ.1 111 68 from (sv_n _ (by decide))] at hj; exact (((sv_n _ (by omega)).trans ((F_40.1 147 (by decide) j).trans (sv_n _ (by omega))))).trans ((hi_30 j hj).trans ((sv_n _ (by omega))).symm)) (fun j h1 h2 => by rw [show (sv μ 111 53 ((μ.1 111 53) - 1)).1 111 68 = μ.1 111 68 from (sv_n _ (by decide))]; exact (((sv_n _ (by omega)).trans ((F_40.1 147 (by decide) (μ.1 111 68 + j)).trans (sv_n _ (by omega))))).trans (hi_29 j h1 (by omega))) (fun j hj => ((sv_n _ (by omega)).trans ((ha_45 j (by omega)).trans ((sv_n _ (by omega)).trans ((FL25.1 135 (by decide) j).trans ((sv_n _ (by omega)).trans ((sv_n _ (by omega)).trans ((sv_n _ (by omega)).trans (sv_n _ (by omega)))))))))) (fun j hj => ((sv_n _ (by omega)).trans ((ha_46 j (by omega)).trans ((sv_n _ (by omega)).trans ((FL25.1 136 (by decide) j).trans ((sv_n _ (by omega)).trans ((sv_n _ (by omega)).trans ((sv_n _ (by omega)).trans (sv_n _ (by omega)))))))))) (by have h9 : (sv μ39 111 65 ((μ.1 111 65) + 1)).1 135 (μ.1 111 53 - 1) = 2 := ((sv_n _ (fun h9 => absurd h9.1 (by decide))).trans hs_43); omega) (by have h9 : (sv μ39 111 65 ((μ.1 111 65) + 1)).1 136 (μ.1 111 53 - 1) = (μ.1 111 65) := ((sv_n _ (fun h9 => absurd h9.1 (by decide))).trans hs_44); omega)
          have hrk_ := RX.eq (μ := μ) (ν := (sv μ 111 53 ((μ.1 111 53) - 1))) (Eqa.fr (L := [111]) (FrM.put FrM.rf (by decide)) (by decide)) (Eqf.fd (L := [53]) (fun j hj => (sv_n _ (fun h9 => hj (by rw [h9.2]; decide)))) (by decide))
          have hrk83_ : (sv μ 111 53 ((μ.1 111 53) - 1)).1 111 83 = μ.1 111 83 := (sv_n _ (by decide))
          exact xr_v G hret hlk dX12_makes_172 ⟨(FrM.put (FrM.tr (FrM.put (FrM.tr (FrM.put (FrM.put (FrM.put (FrM.put (FrM.put FrM.rf (by decide)) (by decide)) (by decide)) (by decide)) (by decide)) FL25 (by decide)) (by decide)) F_40 (by decide)) (by decide)), (fun j hj => ((sv_n _ (fun h9 => hj (by rw [h9.2]; decide))).trans ((hp_41 j (fun h9 => hj ((by decide : ∀ x ∈ ([53] : List Int), x ∈ ([47, 53, 61, 81, 82, 83, 84, 90, 91, 93, 94, 95, 96, 97, 98, 99, 65, 68, 69] : List Int)) j h9))).trans ((sv_n _ (fun h9 => hj (by rw [h9.2]; decide))).trans ((FL25.1 111 (by decide) j).trans ((sv_n _ (fun h9 => absurd h9.1 (by decide))).trans ((sv_n _ (fun h9 => absurd h9.1 (by decide))).trans ((sv_n _ (fun h9 => absurd h9.1 (by decide))).trans ((sv_n _ (fun h9 => hj (by rw [h9.2]; decide))).trans (sv_n _ (fun h9 => hj (by rw [h9.2]; decide)))))))))))), ((A1.res hA1_47 hmk_ (by omega) (Eqa.fr (L := [111, 135, 136, 147, 146, 145, 144]) (FrM.put (FrM.tr (FrM.put (FrM.tr (FrM.put (FrM.put (FrM.put (FrM.put FrM.rf (by decide)) (by decide)) (by decide)) (by decide)) FL25 (by decide)) (by decide)) F_40 (by decide)) (by decide)) (by decide)) (Eqf.fd (L := [53, 65, 68, 69]) (fun j hj => ((sv_n _ (fun h9 => hj (by rw [h9.2]; decide))).trans ((hp_41 j (fun h9 => hj ((by decide : ∀ x ∈ ([53] : List Int), x ∈ ([53, 65, 68, 69] : List Int)) j h9))).trans ((sv_n _ (fun h9 => hj (by rw [h9.2]; decide))).trans ((FL25.1 111 (by decide) j).trans ((sv_n _ (fun h9 => absurd h9.1 (by decide))).trans ((sv_n _ (fun h9 => absurd h9.1 (by decide))).trans ((sv_n _ (fun h9 => absurd h9.1 (by decide))).trans (sv_n _ (fun h9 => hj (by rw [h9.2]; decide))))))))))) (by decide)) (by have h9 : (sv μ39 111 65 ((μ.1 111 65) + 1)).1 111 94 = μ.1 111 94 := ((sv_n _ (by decide)).trans ((hp_41 94 (by decide)).trans ((sv_n _ (by decide)).trans ((FL25.1 111 (by decide) 94).trans ((sv_n _ (fun h9 => absurd h9.1 (by decide))).trans ((sv_n _ (fun h9 => absurd h9.1 (by decide))).trans ((sv_n _ (fun h9 => absurd h9.1 (by decide))).trans ((sv_n _ (by decide)).trans (sv_n _ (by decide)))))))))); omega) (by have h9 : (sv μ39 111 65 ((μ.1 111 65) + 1)).1 111 83 = μ.1 111 83 := ((sv_n _ (by decide)).trans ((hp_41 83 (by decide)).trans ((sv_n _ (by decide)).trans ((FL25.1 111 (by decide) 83).trans ((sv_n _ (fun h9 => absurd h9.1 (by decide))).trans ((sv_n _ (fun h9 => absurd h9.1 (by decide))).trans ((sv_n _ (fun h9 => absurd h9.1 (by decide))).trans ((sv_n _ (by decide)).trans (sv_n _ (by decide)))))))))); omega) (by have h9 : (sv μ39 111 65 ((μ.1 111 65) + 1)).1 111 53 = ((μ.1 111 53) - 1) + 1 := ((sv_n _ (by decide)).trans hs_42); omega)).le (by omega))⟩
        · refine lv_aload_n hx hb dX12_makes_124 rfl (lv_at hl 2 rfl) ?_
          refine xa_getr G fd_X12 (a := 111) (x := 147) 66 rfl (by decide) rfl (wm 7 215 rfl rfl) ⟨rfl, rfl, rfl⟩ dX12_makes_125 rfl (G.sk 145 rfl) (by decide) rfl ?_
          refine lv_aload_n hx hb dX12_makes_128 rfl (lv_at hl 2 rfl) ?_
          refine xa_geti G fd_X12 (a := 111) (x := μ.1 111 68) 68 rfl (by decide) rfl (wm 7 217 rfl rfl) ⟨rfl, rfl, rfl⟩ dX12_makes_129 rfl ((FL25.1 111 (by decide) 68).trans ((sv_n _ (fun h9 => absurd h9.1 (by decide))).trans ((sv_n _ (fun h9 => absurd h9.1 (by decide))).trans ((sv_n _ (fun h9 => absurd h9.1 (by decide))).trans ((sv_n _ (by decide)).trans (sv_n _ (by decide))))))) ?_
          refine lv_iload_n hx hb dX12_makes_132 rfl (lv_at hl 0 rfl) ?_
          refine xb_iadd hx hb dX12_makes_133 ?_
          refine lv_iconst (v := iv 0) hx hb dX12_makes_134 rfl ?_
          refine xa_bast G (a := 147) (i := (μ.1 111 68) + k9) (x := 0) rfl (by have h9 := G.lc (a := 147) (n := 20100) 85 rfl; omega) (by omega) dX12_makes_135 rfl (fun H locs G => ?_)
          refine lv_iinc (v := iv (k9 + 1)) (lv' := [(3, .int (iv (k9 + 1))), (2, .int (iv r_6)), (0, .ref (oP ω 111)), (1, .int (iv x1))]) hx hb dX12_makes_136 hl (k := 0) rfl (by rw [show Int32.ofInt 1 = iv 1 from rfl, iv_add]) (by decide) rfl (fun ls hl => ?_)
          refine lv_goto (tgt := 119) hx hb dX12_makes_139 (by decide) ?_
          exact ih _ _ _ _ _ _ _ (by omega) ⟨k9 + 1, (FrM.put FL25 (by decide)), (by omega), (by omega), (fun j h1 h2 => (Classical.em (j = k9)).elim (fun h9 => by rw [h9]; exact sv_s _ _ _ _) (fun h9 => (sv_n _ (by omega)).trans (hi_29 j h1 (by omega)))), (fun j hj => (sv_n _ (by omega)).trans (hi_30 j hj)), rfl, lv_sub hl [0, 1, 2, 3] rfl⟩ G
      · refine lv_aload_n hx hb dX12_makes_66 rfl (lv_at hl 1 rfl) ?_
        refine lv_iconst (v := iv 5) hx hb dX12_makes_67 rfl ?_
        have e_51 : (sv μ 111 53 ((μ.1 111 53) - 1)).1 111 4 = μ.1 111 4 := (sv_n _ (by decide))
        have e_52 : (sv μ 111 53 ((μ.1 111 53) - 1)).1 111 83 = μ.1 111 83 := (sv_n _ (by decide))
        have hrx_53 := RX.eq (μ := μ) (ν := (sv μ 111 53 ((μ.1 111 53) - 1))) (Eqa.fr (L := [111]) (FrM.put FrM.rf (by decide)) (by decide)) (Eqf.fd (L := [53]) (fun j hj => (sv_n _ (fun h9 => hj (by rw [h9.2]; decide)))) (by decide))
        have e_54 : (sv μ 111 53 ((μ.1 111 53) - 1)).1 111 94 = μ.1 111 94 := (sv_n _ (by decide))
        have e_55 : (sv μ 111 53 ((μ.1 111 53) - 1)).1 111 47 = n := ((sv_n _ (by decide)).trans hn.symm)
        have hMZ_56 : MZ (sv μ 111 53 ((μ.1 111 53) - 1)) := MZ.mn1 hMZ (n := n) (s := μ.1 131 (n - 1)) (hn.symm) (by have h9 : μ.1 131 (n - 1) = μ.1 131 (n - 1) := rfl; exact h9) (by omega) (by have h9 : μ.1 111 53 = μ.1 111 53 := rfl; omega)
        have e_57 : (sv μ 111 53 ((μ.1 111 53) - 1)).1 111 94 = μ.1 111 94 := (sv_n _ (by decide))
        have hA1_58 : A1 (sv μ 111 53 ((μ.1 111 53) - 1)) := TQ.a1 hTQ (Eqa.fr (L := [111]) (FrM.put FrM.rf (by decide)) (by decide)) (Eqf.fd (L := [53]) (fun j hj => (sv_n _ (fun h9 => hj (by rw [h9.2]; decide)))) (by decide)) (by have h9 : (sv μ 111 53 ((μ.1 111 53) - 1)).1 111 53 = (μ.1 111 53) - 1 := (sv_s _ _ _ _); omega)
        refine xc_vV G (b := 111) (rest := []) (As := [.int (iv 5)]) (c_X12_arises_a ω l (sv μ 111 53 ((μ.1 111 53) - 1)) 5 n (by unfold ir; omega) (by omega) hMZ_56 (by omega) (by omega) (fun _ => by omega) (fun _ => hA1_58)) (wm 10 199 rfl rfl) (wm 10 201 rfl rfl) (wm 0 213 rfl rfl) rfl rfl (by decide) rfl (wm 1 18 rfl rfl) (wm 10 202 rfl rfl) (by decide) hR (by decide) (n := 1) rfl rfl (Nat.le_of_ble_eq_true rfl) hl.1 dX12_makes_68 (fun μ59 ρ d0 H locs hp G => ?_)
        obtain ⟨F_60, hp_61, hp_62⟩ := hp
        exact xr_v G hret hlk dX12_makes_71 ⟨(FrM.tr (FrM.put FrM.rf (by decide)) F_60 (by decide)), (fun j hj => ((hp_61 j (fun h9 => hj ((by decide : ∀ x ∈ ([47, 53, 61, 81, 82, 83, 84, 90, 91, 93, 94, 95, 96, 97, 98, 99] : List Int), x ∈ ([47, 53, 61, 81, 82, 83, 84, 90, 91, 93, 94, 95, 96, 97, 98, 99, 65, 68, 69] : List Int)) j h9))).trans (sv_n _ (fun h9 => hj (by rw [h9.2]; decide))))), (hp_62.le (by omega))⟩
  · refine lv_aload_n hx hb dX12_makes_23 rfl (lv_at hl 0 rfl) ?_
    refine lv_iconst (v := iv 4) hx hb dX12_makes_24 rfl ?_
    have e_63 : (sv μ 111 53 ((μ.1 111 53) - 1)).1 111 4 = μ.1 111 4 := (sv_n _ (by decide))
    have e_64 : (sv μ 111 53 ((μ.1 111 53) - 1)).1 111 83 = μ.1 111 83 := (sv_n _ (by decide))
    have hrx_65 := RX.eq (μ := μ) (ν := (sv μ 111 53 ((μ.1 111 53) - 1))) (Eqa.fr (L := [111]) (FrM.put FrM.rf (by decide)) (by decide)) (Eqf.fd (L := [53]) (fun j hj => (sv_n _ (fun h9 => hj (by rw [h9.2]; decide)))) (by decide))
    have e_66 : (sv μ 111 53 ((μ.1 111 53) - 1)).1 111 94 = μ.1 111 94 := (sv_n _ (by decide))
    have e_67 : (sv μ 111 53 ((μ.1 111 53) - 1)).1 111 47 = n := ((sv_n _ (by decide)).trans hn.symm)
    have hMZ_68 : MZ (sv μ 111 53 ((μ.1 111 53) - 1)) := MZ.mn1 hMZ (n := n) (s := μ.1 131 (n - 1)) (hn.symm) (by have h9 : μ.1 131 (n - 1) = μ.1 131 (n - 1) := rfl; exact h9) (by omega) (by have h9 : μ.1 111 53 = μ.1 111 53 := rfl; omega)
    have e_69 : (sv μ 111 53 ((μ.1 111 53) - 1)).1 111 94 = μ.1 111 94 := (sv_n _ (by decide))
    have hA1_70 : A1 (sv μ 111 53 ((μ.1 111 53) - 1)) := TQ.a1 hTQ (Eqa.fr (L := [111]) (FrM.put FrM.rf (by decide)) (by decide)) (Eqf.fd (L := [53]) (fun j hj => (sv_n _ (fun h9 => hj (by rw [h9.2]; decide)))) (by decide)) (by have h9 : (sv μ 111 53 ((μ.1 111 53) - 1)).1 111 53 = (μ.1 111 53) - 1 := (sv_s _ _ _ _); omega)
    refine xc_vV G (b := 111) (rest := []) (As := [.int (iv 4)]) (c_X12_arises_a ω l (sv μ 111 53 ((μ.1 111 53) - 1)) 4 n (by unfold ir; omega) (by omega) hMZ_68 (by omega) (by omega) (fun _ => by omega) (fun _ => hA1_70)) (wm 10 199 rfl rfl) (wm 10 201 rfl rfl) (wm 0 213 rfl rfl) rfl rfl (by decide) rfl (wm 1 18 rfl rfl) (wm 10 202 rfl rfl) (by decide) hR (by decide) (n := 1) rfl rfl (Nat.le_of_ble_eq_true rfl) hl.1 dX12_makes_25 (fun μ71 ρ d0 H locs hp G => ?_)
    obtain ⟨F_72, hp_73, hp_74⟩ := hp
    exact xr_v G hret hlk dX12_makes_28 ⟨(FrM.tr (FrM.put FrM.rf (by decide)) F_72 (by decide)), (fun j hj => ((hp_73 j (fun h9 => hj ((by decide : ∀ x ∈ ([47, 53, 61, 81, 82, 83, 84, 90, 91, 93, 94, 95, 96, 97, 98, 99] : List Int), x ∈ ([47, 53, 61, 81, 82, 83, 84, 90, 91, 93, 94, 95, 96, 97, 98, 99, 65, 68, 69] : List Int)) j h9))).trans (sv_n _ (fun h9 => hj (by rw [h9.2]; decide))))), (hp_74.le (by omega))⟩

set_option maxHeartbeats 4000000 in
set_option maxRecDepth 100000 in
theorem c_X12_getsCell (ω : Om) (l : Launch) (μ : M3) (x1 : Int) (n : Int) (hx1 : ir x1) (hn : n = μ.1 111 47) (hMZ : MZ μ) (h1 : 1 ≤ n ∧ n ≤ 24) (h94 : μ.1 111 94 = 0) (ht : x1 = μ.1 127 (n - 1)) (hTQ : TQ μ (-1)) (hlo : μ.1 131 (n - 1) + 2 ≤ μ.1 111 53) : CtV ω l yX12_getsCell cX12_getsCell 5 183 4972 [.ref (oP ω 111), .int (iv x1)] μ (fun (μ' : M3) => (FrM [111, 129, 133, 134, 135, 136, 137, 138, 139, 140, 141, 142, 143, 149, 150, 151, 152, 153, 154, 155, 156, 157, 158, 159] μ μ') ∧ (∀ j, j ∉ ([47, 53, 61, 81, 82, 83, 84, 90, 91, 93, 94, 95, 96, 97, 98, 99] : List Int) → μ'.1 111 j = μ.1 111 j) ∧ (RES μ' (RX μ + 9000 - μ.1 129 (n - 1)))) := by
  refine CtV.go (by decide) (Nat.le_of_ble_eq_true rfl) (fun ρ p e s m below meth c R ls G hR hret hlk hl => ?_)
  have hx := G.1.1
  have hb := G.1.2.1
  have hl : lv_has ls 5 [(0, .ref (oP ω 111)), (1, .int (iv x1))] := hl
  generalize s.drawn = d0 at G ⊢
  have hr_x1 : -2147483648 ≤ x1 ∧ x1 ≤ 2147483647 := hx1
  have hzn_ := hMZ.n
  rw [← hn] at hzn_
  obtain ⟨hz47, hzFB, hzFL, hz81, hz82, hz84, hz65, hz4, hz104⟩ := hzn_
  have htq_ := hTQ.n hMZ (by omega)
  rw [← hn] at htq_
  have hfr_ := (hMZ.2.2.1 (n - 1) (by omega) (by omega)).1.1
  have hzB := FB_1 (μ := μ) (n := n) (by omega)
  have hzL := FL_1 (μ := μ) (n := n) (by omega)
  refine lv_aload_n hx hb dX12_getsCell_0 rfl (lv_at hl 0 rfl) ?_
  refine lv_dup hx hb dX12_getsCell_1 rfl ?_
  refine xa_geti G fd_X12 (a := 111) (x := μ.1 111 53) 53 rfl (by decide) rfl (wm 7 202 rfl rfl) ⟨rfl, rfl, rfl⟩ dX12_getsCell_2 rfl rfl ?_
  have hr_1 : -2147483648 ≤ μ.1 111 53 ∧ μ.1 111 53 ≤ 2147483647 := by have h9 := G.hr (a := 111) (k := 53) rfl; exact h9
  refine lv_iconst (v := iv 2) hx hb dX12_getsCell_5 rfl ?_
  refine xb_isub hx hb dX12_getsCell_6 ?_
  refine xa_puti G fd_X12 (a := 111) (x := (μ.1 111 53) - 2) 53 (kz := 53) rfl rfl (by decide) rfl (by unfold ir; omega) (wm 7 202 rfl rfl) ⟨rfl, rfl, rfl, rfl⟩ rfl dX12_getsCell_7 rfl (fun H locs G => ?_)
  refine lv_aload_n hx hb dX12_getsCell_10 rfl (lv_at hl 0 rfl) ?_
  refine xa_getr G fd_X12 (a := 111) (x := 135) 51 rfl (by decide) rfl (wm 7 200 rfl rfl) ⟨rfl, rfl, rfl⟩ dX12_getsCell_11 rfl (G.sk 133 rfl) (by decide) rfl ?_
  refine lv_aload_n hx hb dX12_getsCell_14 rfl (lv_at hl 0 rfl) ?_
  refine xa_geti G fd_X12 (a := 111) (x := (μ.1 111 53) - 2) 53 rfl (by decide) rfl (wm 7 202 rfl rfl) ⟨rfl, rfl, rfl⟩ dX12_getsCell_15 rfl (sv_s _ _ _ _) ?_
  have hr_2 : -2147483648 ≤ (μ.1 111 53) - 2 ∧ (μ.1 111 53) - 2 ≤ 2147483647 := by have h9 := G.hr (a := 111) (k := 53) rfl; rw [show (sv μ 111 53 ((μ.1 111 53) - 2)).1 111 53 = (μ.1 111 53) - 2 from (sv_s _ _ _ _)] at h9; exact h9
  refine xa_bald G (a := 135) (i := (μ.1 111 53) - 2) rfl (by have h9 := G.lc (a := 135) (n := 9000) 73 rfl; omega) dX12_getsCell_18 rfl ?_
  refine xb_ti (y := μ.1 135 (μ.1 111 53 - 2)) (sv_n _ (fun h9 => absurd h9.1 (by decide))) ?_
  have hr_3 : -2147483648 ≤ μ.1 135 (μ.1 111 53 - 2) ∧ μ.1 135 (μ.1 111 53 - 2) ≤ 2147483647 := by have h9 := G.hr3 (a := 135) (k := (μ.1 111 53) - 2) rfl; rw [(sv_n _ (fun h9 => absurd h9.1 (by decide)))] at h9; exact h9
  refine lv_iconst (v := iv 2) hx hb dX12_getsCell_19 rfl ?_
  refine xb_icmp_eq (tgt := 45) hx hb (by unfold ir; omega) (by unfold ir; omega) dX12_getsCell_20 (by decide) (fun c_20 => ?_) (fun c_20 => ?_)
  · have hs0_ := hMZ.stv (μ.1 111 53 - 2) (by omega) (by omega)
    have hs2_ := hs0_.2.1 (by omega)
    have har_ := hMZ.ar _ hs2_.1 hs2_.2
    refine lv_aload_n hx hb dX12_getsCell_45 rfl (lv_at hl 0 rfl) ?_
    refine xa_getr G fd_X12 (a := 111) (x := 135) 51 rfl (by decide) rfl (wm 7 200 rfl rfl) ⟨rfl, rfl, rfl⟩ dX12_getsCell_46 rfl (G.sk 133 rfl) (by decide) rfl ?_
    refine lv_aload_n hx hb dX12_getsCell_49 rfl (lv_at hl 0 rfl) ?_
    refine xa_geti G fd_X12 (a := 111) (x := (μ.1 111 53) - 2) 53 rfl (by decide) rfl (wm 7 202 rfl rfl) ⟨rfl, rfl, rfl⟩ dX12_getsCell_50 rfl (sv_s _ _ _ _) ?_
    refine lv_iconst (v := iv 1) hx hb dX12_getsCell_53 rfl ?_
    refine xb_iadd hx hb dX12_getsCell_54 ?_
    refine xb_ti (y := (μ.1 111 53) - 1) (by omega) ?_
    refine xa_bald G (a := 135) (i := (μ.1 111 53) - 1) rfl (by have h9 := G.lc (a := 135) (n := 9000) 73 rfl; omega) dX12_getsCell_55 rfl ?_
    refine xb_ti (y := μ.1 135 (μ.1 111 53 - 1)) (sv_n _ (fun h9 => absurd h9.1 (by decide))) ?_
    have hr_4 : -2147483648 ≤ μ.1 135 (μ.1 111 53 - 1) ∧ μ.1 135 (μ.1 111 53 - 1) ≤ 2147483647 := by have h9 := G.hr3 (a := 135) (k := (μ.1 111 53) - 1) rfl; rw [(sv_n _ (fun h9 => absurd h9.1 (by decide)))] at h9; exact h9
    refine lv_iconst (v := iv 1) hx hb dX12_getsCell_56 rfl ?_
    refine xb_icmp_eq (tgt := 66) hx hb (by unfold ir; omega) (by unfold ir; omega) dX12_getsCell_57 (by decide) (fun c_57 => ?_) (fun c_57 => ?_)
    · refine lv_aload_n hx hb dX12_getsCell_66 rfl (lv_at hl 0 rfl) ?_
      refine xa_getr G fd_X12 (a := 111) (x := 136) 52 rfl (by decide) rfl (wm 7 201 rfl rfl) ⟨rfl, rfl, rfl⟩ dX12_getsCell_67 rfl (G.sk 134 rfl) (by decide) rfl ?_
      refine lv_aload_n hx hb dX12_getsCell_70 rfl (lv_at hl 0 rfl) ?_
      refine xa_geti G fd_X12 (a := 111) (x := (μ.1 111 53) - 2) 53 rfl (by decide) rfl (wm 7 202 rfl rfl) ⟨rfl, rfl, rfl⟩ dX12_getsCell_71 rfl (sv_s _ _ _ _) ?_
      refine xa_lald G (a := 136) (i := (μ.1 111 53) - 2) rfl (by have h9 := G.lc (a := 136) (n := 9000) 74 rfl; omega) dX12_getsCell_74 rfl ?_
      refine xb_tl (y := μ.1 136 (μ.1 111 53 - 2)) (sv_n _ (fun h9 => absurd h9.1 (by decide))) ?_
      have hj_5 : jr (μ.1 136 (μ.1 111 53 - 2)) := (by have h9 := G.hj (a := 136) (k := (μ.1 111 53) - 2) rfl; rw [(sv_n _ (fun h9 => absurd h9.1 (by decide)))] at h9; exact h9)
      refine xb_l2i hx hb dX12_getsCell_75 ?_
      refine xb_topi (fun y_6 hr_y_6 he_y_6 => ?_)
      have hr_y_6 : -2147483648 ≤ y_6 ∧ y_6 ≤ 2147483647 := hr_y_6
      have hli_y_6 : ir (μ.1 136 (μ.1 111 53 - 2)) → y_6 = μ.1 136 (μ.1 111 53 - 2) := fun h9 => (iv_eq hr_y_6 h9).mp he_y_6
      unfold ir at hli_y_6
      refine xb_ti (y := μ.1 136 (μ.1 111 53 - 2)) (hli_y_6 (by omega)) ?_
      have hr_7 : -2147483648 ≤ μ.1 136 (μ.1 111 53 - 2) ∧ μ.1 136 (μ.1 111 53 - 2) ≤ 2147483647 := by omega
      refine lv_istore_n (lv' := [(2, .int (iv (μ.1 136 (μ.1 111 53 - 2)))), (0, .ref (oP ω 111)), (1, .int (iv x1))]) hx hb dX12_getsCell_76 rfl hl (by decide) rfl (fun ls hl => ?_)
      refine lv_aload_n hx hb dX12_getsCell_77 rfl (lv_at hl 1 rfl) ?_
      refine lv_iload_n hx hb dX12_getsCell_78 rfl (lv_at hl 2 rfl) ?_
      refine lv_aload_n hx hb dX12_getsCell_79 rfl (lv_at hl 1 rfl) ?_
      refine xa_getr G fd_X12 (a := 111) (x := 136) 52 rfl (by decide) rfl (wm 7 201 rfl rfl) ⟨rfl, rfl, rfl⟩ dX12_getsCell_80 rfl (G.sk 134 rfl) (by decide) rfl ?_
      refine lv_aload_n hx hb dX12_getsCell_83 rfl (lv_at hl 1 rfl) ?_
      refine xa_geti G fd_X12 (a := 111) (x := (μ.1 111 53) - 2) 53 rfl (by decide) rfl (wm 7 202 rfl rfl) ⟨rfl, rfl, rfl⟩ dX12_getsCell_84 rfl (sv_s _ _ _ _) ?_
      refine lv_iconst (v := iv 1) hx hb dX12_getsCell_87 rfl ?_
      refine xb_iadd hx hb dX12_getsCell_88 ?_
      refine xb_ti (y := (μ.1 111 53) - 1) (by omega) ?_
      refine xa_lald G (a := 136) (i := (μ.1 111 53) - 1) rfl (by have h9 := G.lc (a := 136) (n := 9000) 74 rfl; omega) dX12_getsCell_89 rfl ?_
      refine xb_tl (y := μ.1 136 (μ.1 111 53 - 1)) (sv_n _ (fun h9 => absurd h9.1 (by decide))) ?_
      have hj_8 : jr (μ.1 136 (μ.1 111 53 - 1)) := (by have h9 := G.hj (a := 136) (k := (μ.1 111 53) - 1) rfl; rw [(sv_n _ (fun h9 => absurd h9.1 (by decide)))] at h9; exact h9)
      refine lv_aload_n hx hb dX12_getsCell_90 rfl (lv_at hl 1 rfl) ?_
      refine xa_getr G fd_X12 (a := 111) (x := 145) 63 rfl (by decide) rfl (wm 7 212 rfl rfl) ⟨rfl, rfl, rfl⟩ dX12_getsCell_91 rfl (G.sk 143 rfl) (by decide) rfl ?_
      refine lv_iload_n hx hb dX12_getsCell_94 rfl (lv_at hl 0 rfl) ?_
      refine xa_iald G (a := 145) (i := μ.1 136 (μ.1 111 53 - 2)) rfl (by have h9 := G.lc (a := 145) (n := 20100) 83 rfl; omega) dX12_getsCell_95 rfl ?_
      refine xb_ti (y := μ.1 145 (μ.1 136 (μ.1 111 53 - 2))) (sv_n _ (fun h9 => absurd h9.1 (by decide))) ?_
      have hr_9 : -2147483648 ≤ μ.1 145 (μ.1 136 (μ.1 111 53 - 2)) ∧ μ.1 145 (μ.1 136 (μ.1 111 53 - 2)) ≤ 2147483647 := by have h9 := G.hr (a := 145) (k := μ.1 136 (μ.1 111 53 - 2)) rfl; rw [(sv_n _ (fun h9 => absurd h9.1 (by decide)))] at h9; exact h9
      refine lv_iconst (v := iv 1) hx hb dX12_getsCell_96 rfl ?_
      refine xb_isub hx hb dX12_getsCell_97 ?_
      have e_10 : (sv μ 111 53 ((μ.1 111 53) - 2)).1 136 (μ.1 111 53 - 2) = μ.1 136 (μ.1 111 53 - 2) := (sv_n _ (fun h9 => absurd h9.1 (by decide)))
      have e_11 : (sv μ 111 53 ((μ.1 111 53) - 2)).1 136 (μ.1 111 53 - 2) = μ.1 136 (μ.1 111 53 - 2) := (sv_n _ (fun h9 => absurd h9.1 (by decide)))
      have e_12 : (sv μ 111 53 ((μ.1 111 53) - 2)).1 136 (μ.1 111 53 - 2) = μ.1 136 (μ.1 111 53 - 2) := (sv_n _ (fun h9 => absurd h9.1 (by decide)))
      refine xc_iV G (b := 111) (rest := []) (As := [.int (iv x1), .long (jv (μ.1 136 (μ.1 111 53 - 1))), .int (iv ((μ.1 145 (μ.1 136 (μ.1 111 53 - 2))) - 1))]) (c_X12_indexOf ω l (sv μ 111 53 ((μ.1 111 53) - 2)) x1 (μ.1 136 (μ.1 111 53 - 1)) ((μ.1 145 (μ.1 136 (μ.1 111 53 - 2))) - 1) (by unfold ir; omega) hj_8 (by unfold ir; omega) (by omega)) (wm 10 211 rfl rfl) (wm 10 213 rfl rfl) (wm 0 216 rfl rfl) rfl rfl (by decide) rfl (wm 1 18 rfl rfl) (wm 10 214 rfl rfl) (by decide) hR (by decide) (n := 3) rfl rfl (Nat.le_of_ble_eq_true rfl) hl.1 dX12_getsCell_98 (fun r_14 μ13 ρ d0 H locs hr_r_14 hp G => ?_)
      have hr_r_14 : -2147483648 ≤ r_14 ∧ r_14 ≤ 2147483647 := hr_r_14
      obtain ⟨hsm_15, hp_16⟩ := hp
      have hsm_15 := Eq.symm hsm_15
      subst hsm_15
      refine lv_istore_n (lv' := [(3, .int (iv r_14)), (2, .int (iv (μ.1 136 (μ.1 111 53 - 2)))), (0, .ref (oP ω 111)), (1, .int (iv x1))]) hx hb dX12_getsCell_101 rfl hl (by decide) rfl (fun ls hl => ?_)
      refine lv_iload_n hx hb dX12_getsCell_102 rfl (lv_at hl 0 rfl) ?_
      refine lv_iconst (v := iv (-1)) hx hb dX12_getsCell_103 rfl ?_
      refine xb_icmp_ne (tgt := 113) hx hb (by unfold ir; omega) (by unfold ir; omega) dX12_getsCell_104 (by decide) (fun c_104 => ?_) (fun c_104 => ?_)
      · refine lv_aload_n hx hb dX12_getsCell_113 rfl (lv_at hl 2 rfl) ?_
        refine xa_getr G fd_X12 (a := 111) (x := 146) 64 rfl (by decide) rfl (wm 7 213 rfl rfl) ⟨rfl, rfl, rfl⟩ dX12_getsCell_114 rfl (G.sk 144 rfl) (by decide) rfl ?_
        refine lv_iload_n hx hb dX12_getsCell_117 rfl (lv_at hl 1 rfl) ?_
        refine xa_iald G (a := 146) (i := μ.1 136 (μ.1 111 53 - 2)) rfl (by have h9 := G.lc (a := 146) (n := 20100) 84 rfl; omega) dX12_getsCell_118 rfl ?_
        refine xb_ti (y := μ.1 146 (μ.1 136 (μ.1 111 53 - 2))) (sv_n _ (fun h9 => absurd h9.1 (by decide))) ?_
        have hr_17 : -2147483648 ≤ μ.1 146 (μ.1 136 (μ.1 111 53 - 2)) ∧ μ.1 146 (μ.1 136 (μ.1 111 53 - 2)) ≤ 2147483647 := by have h9 := G.hr (a := 146) (k := μ.1 136 (μ.1 111 53 - 2)) rfl; rw [(sv_n _ (fun h9 => absurd h9.1 (by decide)))] at h9; exact h9
        refine lv_iload_n hx hb dX12_getsCell_119 rfl (lv_at hl 3 rfl) ?_
        refine xb_icmp_eq (tgt := 131) hx hb (by unfold ir; omega) (by unfold ir; omega) dX12_getsCell_120 (by decide) (fun c_120 => ?_) (fun c_120 => ?_)
        · have hce_ := hMZ.ce (μ.1 144 (μ.1 136 (μ.1 111 53 - 2)) + r_14) (by omega) (by omega)
          have hce0_ := hce_.1
          refine lv_aload_n hx hb dX12_getsCell_131 rfl (lv_at hl 2 rfl) ?_
          refine xa_getr G fd_X12 (a := 111) (x := 147) 66 rfl (by decide) rfl (wm 7 215 rfl rfl) ⟨rfl, rfl, rfl⟩ dX12_getsCell_132 rfl (G.sk 145 rfl) (by decide) rfl ?_
          refine lv_aload_n hx hb dX12_getsCell_135 rfl (lv_at hl 2 rfl) ?_
          refine xa_getr G fd_X12 (a := 111) (x := 144) 62 rfl (by decide) rfl (wm 7 211 rfl rfl) ⟨rfl, rfl, rfl⟩ dX12_getsCell_136 rfl (G.sk 142 rfl) (by decide) rfl ?_
          refine lv_iload_n hx hb dX12_getsCell_139 rfl (lv_at hl 1 rfl) ?_
          refine xa_iald G (a := 144) (i := μ.1 136 (μ.1 111 53 - 2)) rfl (by have h9 := G.lc (a := 144) (n := 20100) 82 rfl; omega) dX12_getsCell_140 rfl ?_
          refine xb_ti (y := μ.1 144 (μ.1 136 (μ.1 111 53 - 2))) (sv_n _ (fun h9 => absurd h9.1 (by decide))) ?_
          have hr_18 : -2147483648 ≤ μ.1 144 (μ.1 136 (μ.1 111 53 - 2)) ∧ μ.1 144 (μ.1 136 (μ.1 111 53 - 2)) ≤ 2147483647 := by have h9 := G.hr (a := 144) (k := μ.1 136 (μ.1 111 53 - 2)) rfl; rw [(sv_n _ (fun h9 => absurd h9.1 (by decide)))] at h9; exact h9
          refine lv_iload_n hx hb dX12_getsCell_141 rfl (lv_at hl 0 rfl) ?_
          refine xb_iadd hx hb dX12_getsCell_142 ?_
          refine xa_bald G (a := 147) (i := (μ.1 144 (μ.1 136 (μ.1 111 53 - 2))) + r_14) rfl (by have h9 := G.lc (a := 147) (n := 20100) 85 rfl; omega) dX12_getsCell_143 rfl ?_
          refine xb_ti (y := μ.1 147 ((μ.1 144 (μ.1 136 (μ.1 111 53 - 2))) + r_14)) (sv_n _ (fun h9 => absurd h9.1 (by decide))) ?_
          have hr_19 : -2147483648 ≤ μ.1 147 ((μ.1 144 (μ.1 136 (μ.1 111 53 - 2))) + r_14) ∧ μ.1 147 ((μ.1 144 (μ.1 136 (μ.1 111 53 - 2))) + r_14) ≤ 2147483647 := by have h9 := G.hr3 (a := 147) (k := (μ.1 144 (μ.1 136 (μ.1 111 53 - 2))) + r_14) rfl; rw [(sv_n _ (fun h9 => absurd h9.1 (by decide)))] at h9; exact h9
          refine lv_istore (lv' := [(4, .int (iv (μ.1 147 ((μ.1 144 (μ.1 136 (μ.1 111 53 - 2))) + r_14)))), (3, .int (iv r_14)), (2, .int (iv (μ.1 136 (μ.1 111 53 - 2)))), (0, .ref (oP ω 111)), (1, .int (iv x1))]) hx hb dX12_getsCell_144 hl (by decide) rfl (fun ls hl => ?_)
          refine lv_aload_n hx hb dX12_getsCell_146 rfl (lv_at hl 3 rfl) ?_
          refine lv_aload_n hx hb dX12_getsCell_147 rfl (lv_at hl 3 rfl) ?_
          refine xa_getr G fd_X12 (a := 111) (x := 146) 64 rfl (by decide) rfl (wm 7 213 rfl rfl) ⟨rfl, rfl, rfl⟩ dX12_getsCell_148 rfl (G.sk 144 rfl) (by decide) rfl ?_
          refine lv_iload_n hx hb dX12_getsCell_151 rfl (lv_at hl 2 rfl) ?_
          refine xa_iald G (a := 146) (i := μ.1 136 (μ.1 111 53 - 2)) rfl (by have h9 := G.lc (a := 146) (n := 20100) 84 rfl; omega) dX12_getsCell_152 rfl ?_
          refine xb_ti (y := μ.1 146 (μ.1 136 (μ.1 111 53 - 2))) (sv_n _ (fun h9 => absurd h9.1 (by decide))) ?_
          refine lv_iload_n hx hb dX12_getsCell_153 rfl (lv_at hl 4 rfl) ?_
          refine lv_iload hx hb dX12_getsCell_154 (lv_at hl 0 rfl) ?_
          refine lv_aload_n hx hb dX12_getsCell_156 rfl (lv_at hl 3 rfl) ?_
          refine xa_getr G fd_X12 (a := 111) (x := 148) 67 rfl (by decide) rfl (wm 7 216 rfl rfl) ⟨rfl, rfl, rfl⟩ dX12_getsCell_157 rfl (G.sk 146 rfl) (by decide) rfl ?_
          refine lv_aload_n hx hb dX12_getsCell_160 rfl (lv_at hl 3 rfl) ?_
          refine xa_getr G fd_X12 (a := 111) (x := 144) 62 rfl (by decide) rfl (wm 7 211 rfl rfl) ⟨rfl, rfl, rfl⟩ dX12_getsCell_161 rfl (G.sk 142 rfl) (by decide) rfl ?_
          refine lv_iload_n hx hb dX12_getsCell_164 rfl (lv_at hl 2 rfl) ?_
          refine xa_iald G (a := 144) (i := μ.1 136 (μ.1 111 53 - 2)) rfl (by have h9 := G.lc (a := 144) (n := 20100) 82 rfl; omega) dX12_getsCell_165 rfl ?_
          refine xb_ti (y := μ.1 144 (μ.1 136 (μ.1 111 53 - 2))) (sv_n _ (fun h9 => absurd h9.1 (by decide))) ?_
          refine lv_iload_n hx hb dX12_getsCell_166 rfl (lv_at hl 1 rfl) ?_
          refine xb_iadd hx hb dX12_getsCell_167 ?_
          refine xa_lald G (a := 148) (i := (μ.1 144 (μ.1 136 (μ.1 111 53 - 2))) + r_14) rfl (by have h9 := G.lc (a := 148) (n := 20100) 86 rfl; omega) dX12_getsCell_168 rfl ?_
          refine xb_tl (y := μ.1 148 ((μ.1 144 (μ.1 136 (μ.1 111 53 - 2))) + r_14)) (sv_n _ (fun h9 => absurd h9.1 (by decide))) ?_
          have hj_20 : jr (μ.1 148 ((μ.1 144 (μ.1 136 (μ.1 111 53 - 2))) + r_14)) := (by have h9 := G.hj (a := 148) (k := (μ.1 144 (μ.1 136 (μ.1 111 53 - 2))) + r_14) rfl; rw [(sv_n _ (fun h9 => absurd h9.1 (by decide)))] at h9; exact h9)
          have e_21 : (sv μ 111 53 ((μ.1 111 53) - 2)).1 136 (μ.1 111 53 - 2) = μ.1 136 (μ.1 111 53 - 2) := (sv_n _ (fun h9 => absurd h9.1 (by decide)))
          have e_22 : (sv μ 111 53 ((μ.1 111 53) - 2)).1 136 (μ.1 111 53 - 2) = μ.1 136 (μ.1 111 53 - 2) := (sv_n _ (fun h9 => absurd h9.1 (by decide)))
          refine xc_vV G (b := 111) (rest := []) (As := [.int (iv (μ.1 146 (μ.1 136 (μ.1 111 53 - 2)))), .int (iv x1), .int (iv (μ.1 147 ((μ.1 144 (μ.1 136 (μ.1 111 53 - 2))) + r_14))), .long (jv (μ.1 148 ((μ.1 144 (μ.1 136 (μ.1 111 53 - 2))) + r_14)))]) (c_X12_turnsValue ω l (sv μ 111 53 ((μ.1 111 53) - 2)) (μ.1 146 (μ.1 136 (μ.1 111 53 - 2))) x1 (μ.1 147 ((μ.1 144 (μ.1 136 (μ.1 111 53 - 2))) + r_14)) (μ.1 148 ((μ.1 144 (μ.1 136 (μ.1 111 53 - 2))) + r_14)) (by unfold ir; omega) (by unfold ir; omega) (by unfold ir; omega) hj_20 (by omega) (by omega)) (wm 10 179 rfl rfl) (wm 10 181 rfl rfl) (wm 0 208 rfl rfl) rfl rfl (by decide) rfl (wm 1 18 rfl rfl) (wm 10 182 rfl rfl) (by decide) hR (by decide) (n := 4) rfl rfl (Nat.le_of_ble_eq_true rfl) hl.1 dX12_getsCell_169 (fun μ23 ρ d0 H locs hp G => ?_)
          obtain ⟨F_24, hp_25, hp_26⟩ := hp
          refine lv_aload_n hx hb dX12_getsCell_172 rfl (lv_at hl 3 rfl) ?_
          refine xa_geti G fd_X12 (a := 111) (x := μ23.1 111 98) 98 rfl (by decide) rfl (wm 8 7 rfl rfl) ⟨rfl, rfl, rfl⟩ dX12_getsCell_173 rfl rfl ?_
          have hr_27 : -2147483648 ≤ μ23.1 111 98 ∧ μ23.1 111 98 ≤ 2147483647 := by have h9 := G.hr (a := 111) (k := 98) rfl; exact h9
          refine xb_if_eq (tgt := 192) hx hb (by unfold ir; omega) dX12_getsCell_176 (by decide) (fun c_176 => ?_) (fun c_176 => ?_)
          · refine lv_aload_n hx hb dX12_getsCell_192 rfl (lv_at hl 3 rfl) ?_
            refine lv_iconst (v := iv 4) hx hb dX12_getsCell_193 rfl ?_
            have e_28 : μ23.1 111 4 = μ.1 111 4 := ((hp_25 4 (by decide)).trans (sv_n _ (by decide)))
            have e_29 : μ23.1 111 83 = μ.1 111 83 := ((hp_25 83 (by decide)).trans (sv_n _ (by decide)))
            have hrx_30 := RX.eq (μ := μ) (ν := μ23) (Eqa.fr (L := [111]) (FrM.tr (FrM.put FrM.rf (by decide)) F_24 (by decide)) (by decide)) (Eqf.fd (L := [53, 98, 99]) (fun j hj => ((hp_25 j (fun h9 => hj ((by decide : ∀ x ∈ ([98, 99] : List Int), x ∈ ([53, 98, 99] : List Int)) j h9))).trans (sv_n _ (fun h9 => hj (by rw [h9.2]; decide))))) (by decide))
            have e_31 : μ23.1 111 94 = μ.1 111 94 := ((hp_25 94 (by decide)).trans (sv_n _ (by decide)))
            have e_32 : μ23.1 111 47 = n := ((hp_25 47 (by decide)).trans ((sv_n _ (by decide)).trans hn.symm))
            have hMZ_33 : MZ (sv μ 111 53 ((μ.1 111 53) - 2)) := MZ.mn1 hMZ (n := n) (s := μ.1 131 (n - 1)) (hn.symm) (by have h9 : μ.1 131 (n - 1) = μ.1 131 (n - 1) := rfl; exact h9) (by omega) (by have h9 : μ.1 111 53 = μ.1 111 53 := rfl; omega)
            have hMZ_34 : MZ μ23 := MZ.cg hMZ_33 F_24 (by decide) (Eqf.fd hp_25 (by decide))
            have e_35 : μ23.1 111 94 = μ.1 111 94 := ((hp_25 94 (by decide)).trans (sv_n _ (by decide)))
            have hA1_36 : A1 μ23 := TQ.a1 hTQ (Eqa.fr (L := [111]) (FrM.tr (FrM.put FrM.rf (by decide)) F_24 (by decide)) (by decide)) (Eqf.fd (L := [53, 98, 99]) (fun j hj => ((hp_25 j (fun h9 => hj ((by decide : ∀ x ∈ ([98, 99] : List Int), x ∈ ([53, 98, 99] : List Int)) j h9))).trans (sv_n _ (fun h9 => hj (by rw [h9.2]; decide))))) (by decide)) (by have h9 : μ23.1 111 53 = (μ.1 111 53) - 2 := ((hp_25 53 (by decide)).trans (sv_s _ _ _ _)); omega)
            refine xc_vV G (b := 111) (rest := []) (As := [.int (iv 4)]) (c_X12_arises_a ω l μ23 4 n (by unfold ir; omega) (by omega) hMZ_34 (by omega) (by omega) (fun _ => by omega) (fun _ => hA1_36)) (wm 10 199 rfl rfl) (wm 10 201 rfl rfl) (wm 0 213 rfl rfl) rfl rfl (by decide) rfl (wm 1 18 rfl rfl) (wm 10 202 rfl rfl) (by decide) hR (by decide) (n := 1) rfl rfl (Nat.le_of_ble_eq_true rfl) hl.1 dX12_getsCell_194 (fun μ37 ρ d0 H locs hp G => ?_)
            obtain ⟨F_38, hp_39, hp_40⟩ := hp
            exact xr_v G hret hlk dX12_getsCell_197 ⟨(FrM.tr (FrM.tr (FrM.put FrM.rf (by decide)) F_24 (by decide)) F_38 (by decide)), (fun j hj => ((hp_39 j (fun h9 => hj ((by decide : ∀ x ∈ ([47, 53, 61, 81, 82, 83, 84, 90, 91, 93, 94, 95, 96, 97, 98, 99] : List Int), x ∈ ([47, 53, 61, 81, 82, 83, 84, 90, 91, 93, 94, 95, 96, 97, 98, 99] : List Int)) j h9))).trans ((hp_25 j (fun h9 => hj ((by decide : ∀ x ∈ ([98, 99] : List Int), x ∈ ([47, 53, 61, 81, 82, 83, 84, 90, 91, 93, 94, 95, 96, 97, 98, 99] : List Int)) j h9))).trans (sv_n _ (fun h9 => hj (by rw [h9.2]; decide)))))), (hp_40.le (by omega))⟩
          · refine lv_aload_n hx hb dX12_getsCell_179 rfl (lv_at hl 3 rfl) ?_
            refine lv_iload hx hb dX12_getsCell_180 (lv_at hl 0 rfl) ?_
            refine lv_aload_n hx hb dX12_getsCell_182 rfl (lv_at hl 3 rfl) ?_
            refine xa_getl G fd_X12 (a := 111) (x := μ23.1 111 99) 99 rfl (by decide) rfl (wm 8 8 rfl rfl) ⟨rfl, rfl, rfl⟩ dX12_getsCell_183 rfl rfl ?_
            have hj_41 : jr (μ23.1 111 99) := by have h9 := G.hj (a := 111) (k := 99) rfl; exact h9
            have e_42 : μ23.1 111 83 = μ.1 111 83 := ((hp_25 83 (by decide)).trans (sv_n _ (by decide)))
            have hrx_43 := RX.eq (μ := μ) (ν := μ23) (Eqa.fr (L := [111]) (FrM.tr (FrM.put FrM.rf (by decide)) F_24 (by decide)) (by decide)) (Eqf.fd (L := [53, 98, 99]) (fun j hj => ((hp_25 j (fun h9 => hj ((by decide : ∀ x ∈ ([98, 99] : List Int), x ∈ ([53, 98, 99] : List Int)) j h9))).trans (sv_n _ (fun h9 => hj (by rw [h9.2]; decide))))) (by decide))
            have e_44 : μ23.1 111 94 = μ.1 111 94 := ((hp_25 94 (by decide)).trans (sv_n _ (by decide)))
            have hA1_45 : A1 μ23 := TQ.a1 hTQ (Eqa.fr (L := [111]) (FrM.tr (FrM.put FrM.rf (by decide)) F_24 (by decide)) (by decide)) (Eqf.fd (L := [53, 98, 99]) (fun j hj => ((hp_25 j (fun h9 => hj ((by decide : ∀ x ∈ ([98, 99] : List Int), x ∈ ([53, 98, 99] : List Int)) j h9))).trans (sv_n _ (fun h9 => hj (by rw [h9.2]; decide))))) (by decide)) (by have h9 : μ23.1 111 53 = (μ.1 111 53) - 2 := ((hp_25 53 (by decide)).trans (sv_s _ _ _ _)); omega)
            have e_46 : μ23.1 111 47 = n := ((hp_25 47 (by decide)).trans ((sv_n _ (by decide)).trans hn.symm))
            have e_47 : μ23.1 111 53 = (μ.1 111 53) - 2 := ((hp_25 53 (by decide)).trans (sv_s _ _ _ _))
            have e_48 : μ23.1 111 53 = (μ.1 111 53) - 2 := ((hp_25 53 (by decide)).trans (sv_s _ _ _ _))
            have hMZ_49 : MZ (sv μ 111 53 ((μ.1 111 53) - 2)) := MZ.mn1 hMZ (n := n) (s := μ.1 131 (n - 1)) (hn.symm) (by have h9 : μ.1 131 (n - 1) = μ.1 131 (n - 1) := rfl; exact h9) (by omega) (by have h9 : μ.1 111 53 = μ.1 111 53 := rfl; omega)
            have hMZ_50 : MZ μ23 := MZ.cg hMZ_49 F_24 (by decide) (Eqf.fd hp_25 (by decide))
            have e_51 : μ23.1 111 53 = (μ.1 111 53) - 2 := ((hp_25 53 (by decide)).trans (sv_s _ _ _ _))
            have e_52 : μ23.1 111 53 = (μ.1 111 53) - 2 := ((hp_25 53 (by decide)).trans (sv_s _ _ _ _))
            have e_53 : μ23.1 111 53 = (μ.1 111 53) - 2 := ((hp_25 53 (by decide)).trans (sv_s _ _ _ _))
            have e_54 : μ23.1 136 (μ.1 111 53 - 2) = μ.1 136 (μ.1 111 53 - 2) := ((F_24.1 136 (by decide) (μ.1 111 53 - 2)).trans (sv_n _ (fun h9 => absurd h9.1 (by decide))))
            have e_55 : μ23.1 111 53 = (μ.1 111 53) - 2 := ((hp_25 53 (by decide)).trans (sv_s _ _ _ _))
            refine xc_vV G (b := 111) (rest := []) (As := [.int (iv (μ.1 147 ((μ.1 144 (μ.1 136 (μ.1 111 53 - 2))) + r_14))), .long (jv (μ23.1 111 99))]) (c_X12_push ω l μ23 (μ.1 147 ((μ.1 144 (μ.1 136 (μ.1 111 53 - 2))) + r_14)) (μ23.1 111 99) ((μ.1 111 53) - 2) (by unfold ir; omega) hj_41 (by omega) hMZ_50 (by rw [(show μ23.1 111 65 = μ.1 111 65 from ((hp_25 65 (by decide)).trans (sv_n _ (by decide)))), (show μ23.1 111 82 = μ.1 111 82 from ((hp_25 82 (by decide)).trans (sv_n _ (by decide))))]; rcases Classical.em (μ.1 147 ((μ.1 144 (μ.1 136 (μ.1 111 53 - 2))) + r_14) = 1) with h9 | h9; (rw [h9]; exact VV.n1); (rw [show μ23.1 111 99 = _ from (hp_26 h9).2]; exact hce_)) (by omega)) (wm 10 127 rfl rfl) (wm 10 129 rfl rfl) (wm 0 195 rfl rfl) rfl rfl (by decide) rfl (wm 1 18 rfl rfl) (wm 10 130 rfl rfl) (by decide) hR (by decide) (n := 2) rfl rfl (Nat.le_of_ble_eq_true rfl) hl.1 dX12_getsCell_186 (fun μ56 ρ d0 H locs hp G => ?_)
            obtain ⟨F_57, hp_58, hp_59, hs_60, hs_61, hs_62, ha_63, ha_64⟩ := hp
            refine lv_goto (tgt := 197) hx hb dX12_getsCell_189 (by decide) ?_
            have e_65 : μ56.1 111 94 = μ.1 111 94 := ((hp_58 94 (by decide)).trans ((hp_25 94 (by decide)).trans (sv_n _ (by decide))))
            have e_66 : μ56.1 111 53 = ((μ.1 111 53) - 2) + 1 := hs_60
            have ht_67 : μ23.1 129 (μ23.1 111 47 - 1) = μ.1 129 (n - 1) := by rw [show μ23.1 111 47 = n from ((hp_25 47 (by decide)).trans ((sv_n _ (by decide)).trans hn.symm))]; exact ((F_24.1 129 (by decide) (n - 1)).trans (sv_n _ (fun h9 => absurd h9.1 (by decide))))
            have e_68 : μ23.1 111 53 = (μ.1 111 53) - 2 := ((hp_25 53 (by decide)).trans (sv_s _ _ _ _))
            exact xr_v G hret hlk dX12_getsCell_197 ⟨(FrM.tr (FrM.tr (FrM.put FrM.rf (by decide)) F_24 (by decide)) F_57 (by decide)), (fun j hj => ((hp_58 j (fun h9 => hj ((by decide : ∀ x ∈ ([53] : List Int), x ∈ ([47, 53, 61, 81, 82, 83, 84, 90, 91, 93, 94, 95, 96, 97, 98, 99] : List Int)) j h9))).trans ((hp_25 j (fun h9 => hj ((by decide : ∀ x ∈ ([98, 99] : List Int), x ∈ ([47, 53, 61, 81, 82, 83, 84, 90, 91, 93, 94, 95, 96, 97, 98, 99] : List Int)) j h9))).trans (sv_n _ (fun h9 => hj (by rw [h9.2]; decide)))))), ((A1.rs hA1_45 hp_59 (by have h9 : μ23.1 111 47 = n := ((hp_25 47 (by decide)).trans ((sv_n _ (by decide)).trans hn.symm)); omega) (Eqa.fr (L := [111, 135, 136]) (FrM.tr FrM.rf F_57 (by decide)) (by decide)) (Eqf.fd (L := [53]) (fun j hj => (hp_58 j (fun h9 => hj ((by decide : ∀ x ∈ ([53] : List Int), x ∈ ([53] : List Int)) j h9)))) (by decide)) (by have h9 : μ56.1 111 94 = μ.1 111 94 := ((hp_58 94 (by decide)).trans ((hp_25 94 (by decide)).trans (sv_n _ (by decide)))); omega) (by have h9 : μ56.1 111 83 = μ.1 111 83 := ((hp_58 83 (by decide)).trans ((hp_25 83 (by decide)).trans (sv_n _ (by decide)))); have h8 : μ23.1 111 83 = μ.1 111 83 := ((hp_25 83 (by decide)).trans (sv_n _ (by decide))); omega) (by omega)).le (by omega))⟩
        · refine lv_aload_n hx hb dX12_getsCell_123 rfl (lv_at hl 2 rfl) ?_
          have e_69 : (sv μ 111 53 ((μ.1 111 53) - 2)).1 111 83 = μ.1 111 83 := (sv_n _ (by decide))
          have e_70 : (sv μ 111 53 ((μ.1 111 53) - 2)).1 111 83 = μ.1 111 83 := (sv_n _ (by decide))
          have hMZ_71 : MZ (sv μ 111 53 ((μ.1 111 53) - 2)) := MZ.mn1 hMZ (n := n) (s := μ.1 131 (n - 1)) (hn.symm) (by have h9 : μ.1 131 (n - 1) = μ.1 131 (n - 1) := rfl; exact h9) (by omega) (by have h9 : μ.1 111 53 = μ.1 111 53 := rfl; omega)
          have e_72 : (sv μ 111 53 ((μ.1 111 53) - 2)).1 111 83 = μ.1 111 83 := (sv_n _ (by decide))
          have e_73 : (sv μ 111 53 ((μ.1 111 53) - 2)).1 111 94 = μ.1 111 94 := (sv_n _ (by decide))
          have e_74 : (sv μ 111 53 ((μ.1 111 53) - 2)).1 111 93 = μ.1 111 93 := (sv_n _ (by decide))
          have e_75 : (sv μ 111 53 ((μ.1 111 53) - 2)).1 111 83 = μ.1 111 83 := (sv_n _ (by decide))
          refine xc_iV G (b := 111) (rest := []) (As := []) (c_X12_step ω l (sv μ 111 53 ((μ.1 111 53) - 2)) (μ.1 111 83) (by omega) hMZ_71) (wm 10 122 rfl rfl) (wm 10 124 rfl rfl) (wm 0 194 rfl rfl) rfl rfl (by decide) rfl (wm 1 18 rfl rfl) (wm 10 125 rfl rfl) (by decide) hR (by decide) (n := 0) rfl rfl (Nat.le_of_ble_eq_true rfl) hl.1 dX12_getsCell_124 (fun r_77 μ76 ρ d0 H locs hr_r_77 hp G => ?_)
          have hr_r_77 : -2147483648 ≤ r_77 ∧ r_77 ≤ 2147483647 := hr_r_77
          obtain ⟨F_78, hp_79, hp_80, hp_81⟩ := hp
          refine xb_if_ne (tgt := 131) hx hb (by unfold ir; omega) dX12_getsCell_127 (by decide) (fun c_127 => ?_) (fun c_127 => ?_)
          · have hce_ := hMZ.ce (μ.1 144 (μ.1 136 (μ.1 111 53 - 2)) + r_14) (by omega) (by omega)
            have hce0_ := hce_.1
            refine lv_aload_n hx hb dX12_getsCell_131 rfl (lv_at hl 2 rfl) ?_
            refine xa_getr G fd_X12 (a := 111) (x := 147) 66 rfl (by decide) rfl (wm 7 215 rfl rfl) ⟨rfl, rfl, rfl⟩ dX12_getsCell_132 rfl (G.sk 145 rfl) (by decide) rfl ?_
            refine lv_aload_n hx hb dX12_getsCell_135 rfl (lv_at hl 2 rfl) ?_
            refine xa_getr G fd_X12 (a := 111) (x := 144) 62 rfl (by decide) rfl (wm 7 211 rfl rfl) ⟨rfl, rfl, rfl⟩ dX12_getsCell_136 rfl (G.sk 142 rfl) (by decide) rfl ?_
            refine lv_iload_n hx hb dX12_getsCell_139 rfl (lv_at hl 1 rfl) ?_
            refine xa_iald G (a := 144) (i := μ.1 136 (μ.1 111 53 - 2)) rfl (by have h9 := G.lc (a := 144) (n := 20100) 82 rfl; omega) dX12_getsCell_140 rfl ?_
            refine xb_ti (y := μ.1 144 (μ.1 136 (μ.1 111 53 - 2))) ((F_78.1 144 (by decide) (μ.1 136 (μ.1 111 53 - 2))).trans (sv_n _ (fun h9 => absurd h9.1 (by decide)))) ?_
            have hr_82 : -2147483648 ≤ μ.1 144 (μ.1 136 (μ.1 111 53 - 2)) ∧ μ.1 144 (μ.1 136 (μ.1 111 53 - 2)) ≤ 2147483647 := by have h9 := G.hr (a := 144) (k := μ.1 136 (μ.1 111 53 - 2)) rfl; rw [((F_78.1 144 (by decide) (μ.1 136 (μ.1 111 53 - 2))).trans (sv_n _ (fun h9 => absurd h9.1 (by decide))))] at h9; exact h9
            refine lv_iload_n hx hb dX12_getsCell_141 rfl (lv_at hl 0 rfl) ?_
            refine xb_iadd hx hb dX12_getsCell_142 ?_
            refine xa_bald G (a := 147) (i := (μ.1 144 (μ.1 136 (μ.1 111 53 - 2))) + r_14) rfl (by have h9 := G.lc (a := 147) (n := 20100) 85 rfl; omega) dX12_getsCell_143 rfl ?_
            refine xb_ti (y := μ.1 147 ((μ.1 144 (μ.1 136 (μ.1 111 53 - 2))) + r_14)) ((F_78.1 147 (by decide) ((μ.1 144 (μ.1 136 (μ.1 111 53 - 2))) + r_14)).trans (sv_n _ (fun h9 => absurd h9.1 (by decide)))) ?_
            have hr_83 : -2147483648 ≤ μ.1 147 ((μ.1 144 (μ.1 136 (μ.1 111 53 - 2))) + r_14) ∧ μ.1 147 ((μ.1 144 (μ.1 136 (μ.1 111 53 - 2))) + r_14) ≤ 2147483647 := by have h9 := G.hr3 (a := 147) (k := (μ.1 144 (μ.1 136 (μ.1 111 53 - 2))) + r_14) rfl; rw [((F_78.1 147 (by decide) ((μ.1 144 (μ.1 136 (μ.1 111 53 - 2))) + r_14)).trans (sv_n _ (fun h9 => absurd h9.1 (by decide))))] at h9; exact h9
            refine lv_istore (lv' := [(4, .int (iv (μ.1 147 ((μ.1 144 (μ.1 136 (μ.1 111 53 - 2))) + r_14)))), (3, .int (iv r_14)), (2, .int (iv (μ.1 136 (μ.1 111 53 - 2)))), (0, .ref (oP ω 111)), (1, .int (iv x1))]) hx hb dX12_getsCell_144 hl (by decide) rfl (fun ls hl => ?_)
            refine lv_aload_n hx hb dX12_getsCell_146 rfl (lv_at hl 3 rfl) ?_
            refine lv_aload_n hx hb dX12_getsCell_147 rfl (lv_at hl 3 rfl) ?_
            refine xa_getr G fd_X12 (a := 111) (x := 146) 64 rfl (by decide) rfl (wm 7 213 rfl rfl) ⟨rfl, rfl, rfl⟩ dX12_getsCell_148 rfl (G.sk 144 rfl) (by decide) rfl ?_
            refine lv_iload_n hx hb dX12_getsCell_151 rfl (lv_at hl 2 rfl) ?_
            refine xa_iald G (a := 146) (i := μ.1 136 (μ.1 111 53 - 2)) rfl (by have h9 := G.lc (a := 146) (n := 20100) 84 rfl; omega) dX12_getsCell_152 rfl ?_
            refine xb_ti (y := μ.1 146 (μ.1 136 (μ.1 111 53 - 2))) ((F_78.1 146 (by decide) (μ.1 136 (μ.1 111 53 - 2))).trans (sv_n _ (fun h9 => absurd h9.1 (by decide)))) ?_
            refine lv_iload_n hx hb dX12_getsCell_153 rfl (lv_at hl 4 rfl) ?_
            refine lv_iload hx hb dX12_getsCell_154 (lv_at hl 0 rfl) ?_
            refine lv_aload_n hx hb dX12_getsCell_156 rfl (lv_at hl 3 rfl) ?_
            refine xa_getr G fd_X12 (a := 111) (x := 148) 67 rfl (by decide) rfl (wm 7 216 rfl rfl) ⟨rfl, rfl, rfl⟩ dX12_getsCell_157 rfl (G.sk 146 rfl) (by decide) rfl ?_
            refine lv_aload_n hx hb dX12_getsCell_160 rfl (lv_at hl 3 rfl) ?_
            refine xa_getr G fd_X12 (a := 111) (x := 144) 62 rfl (by decide) rfl (wm 7 211 rfl rfl) ⟨rfl, rfl, rfl⟩ dX12_getsCell_161 rfl (G.sk 142 rfl) (by decide) rfl ?_
            refine lv_iload_n hx hb dX12_getsCell_164 rfl (lv_at hl 2 rfl) ?_
            refine xa_iald G (a := 144) (i := μ.1 136 (μ.1 111 53 - 2)) rfl (by have h9 := G.lc (a := 144) (n := 20100) 82 rfl; omega) dX12_getsCell_165 rfl ?_
            refine xb_ti (y := μ.1 144 (μ.1 136 (μ.1 111 53 - 2))) ((F_78.1 144 (by decide) (μ.1 136 (μ.1 111 53 - 2))).trans (sv_n _ (fun h9 => absurd h9.1 (by decide)))) ?_
            refine lv_iload_n hx hb dX12_getsCell_166 rfl (lv_at hl 1 rfl) ?_
            refine xb_iadd hx hb dX12_getsCell_167 ?_
            refine xa_lald G (a := 148) (i := (μ.1 144 (μ.1 136 (μ.1 111 53 - 2))) + r_14) rfl (by have h9 := G.lc (a := 148) (n := 20100) 86 rfl; omega) dX12_getsCell_168 rfl ?_
            refine xb_tl (y := μ.1 148 ((μ.1 144 (μ.1 136 (μ.1 111 53 - 2))) + r_14)) ((F_78.1 148 (by decide) ((μ.1 144 (μ.1 136 (μ.1 111 53 - 2))) + r_14)).trans (sv_n _ (fun h9 => absurd h9.1 (by decide)))) ?_
            have hj_84 : jr (μ.1 148 ((μ.1 144 (μ.1 136 (μ.1 111 53 - 2))) + r_14)) := (by have h9 := G.hj (a := 148) (k := (μ.1 144 (μ.1 136 (μ.1 111 53 - 2))) + r_14) rfl; rw [((F_78.1 148 (by decide) ((μ.1 144 (μ.1 136 (μ.1 111 53 - 2))) + r_14)).trans (sv_n _ (fun h9 => absurd h9.1 (by decide))))] at h9; exact h9)
            have e_85 : μ76.1 136 (μ.1 111 53 - 2) = μ.1 136 (μ.1 111 53 - 2) := ((F_78.1 136 (by decide) (μ.1 111 53 - 2)).trans (sv_n _ (fun h9 => absurd h9.1 (by decide))))
            have e_86 : μ76.1 136 (μ.1 111 53 - 2) = μ.1 136 (μ.1 111 53 - 2) := ((F_78.1 136 (by decide) (μ.1 111 53 - 2)).trans (sv_n _ (fun h9 => absurd h9.1 (by decide))))
            refine xc_vV G (b := 111) (rest := []) (As := [.int (iv (μ.1 146 (μ.1 136 (μ.1 111 53 - 2)))), .int (iv x1), .int (iv (μ.1 147 ((μ.1 144 (μ.1 136 (μ.1 111 53 - 2))) + r_14))), .long (jv (μ.1 148 ((μ.1 144 (μ.1 136 (μ.1 111 53 - 2))) + r_14)))]) (c_X12_turnsValue ω l μ76 (μ.1 146 (μ.1 136 (μ.1 111 53 - 2))) x1 (μ.1 147 ((μ.1 144 (μ.1 136 (μ.1 111 53 - 2))) + r_14)) (μ.1 148 ((μ.1 144 (μ.1 136 (μ.1 111 53 - 2))) + r_14)) (by unfold ir; omega) (by unfold ir; omega) (by unfold ir; omega) hj_84 (by omega) (by omega)) (wm 10 179 rfl rfl) (wm 10 181 rfl rfl) (wm 0 208 rfl rfl) rfl rfl (by decide) rfl (wm 1 18 rfl rfl) (wm 10 182 rfl rfl) (by decide) hR (by decide) (n := 4) rfl rfl (Nat.le_of_ble_eq_true rfl) hl.1 dX12_getsCell_169 (fun μ87 ρ d0 H locs hp G => ?_)
            obtain ⟨F_88, hp_89, hp_90⟩ := hp
            refine lv_aload_n hx hb dX12_getsCell_172 rfl (lv_at hl 3 rfl) ?_
            refine xa_geti G fd_X12 (a := 111) (x := μ87.1 111 98) 98 rfl (by decide) rfl (wm 8 7 rfl rfl) ⟨rfl, rfl, rfl⟩ dX12_getsCell_173 rfl rfl ?_
            have hr_91 : -2147483648 ≤ μ87.1 111 98 ∧ μ87.1 111 98 ≤ 2147483647 := by have h9 := G.hr (a := 111) (k := 98) rfl; exact h9
            refine xb_if_eq (tgt := 192) hx hb (by unfold ir; omega) dX12_getsCell_176 (by decide) (fun c_176 => ?_) (fun c_176 => ?_)
            · refine lv_aload_n hx hb dX12_getsCell_192 rfl (lv_at hl 3 rfl) ?_
              refine lv_iconst (v := iv 4) hx hb dX12_getsCell_193 rfl ?_
              have e_92 : μ87.1 111 4 = μ.1 111 4 := ((hp_89 4 (by decide)).trans ((hp_79 4 (by decide)).trans (sv_n _ (by decide))))
              have e_93 : μ87.1 111 83 = μ76.1 111 83 := (hp_89 83 (by decide))
              have hrx_94 := RX.eq (μ := μ) (ν := μ87) (Eqa.fr (L := [111]) (FrM.tr (FrM.tr (FrM.put FrM.rf (by decide)) F_78 (by decide)) F_88 (by decide)) (by decide)) (Eqf.fd (L := [53, 83, 84, 93, 94, 98, 99]) (fun j hj => ((hp_89 j (fun h9 => hj ((by decide : ∀ x ∈ ([98, 99] : List Int), x ∈ ([53, 83, 84, 93, 94, 98, 99] : List Int)) j h9))).trans ((hp_79 j (fun h9 => hj ((by decide : ∀ x ∈ ([83, 84, 93, 94] : List Int), x ∈ ([53, 83, 84, 93, 94, 98, 99] : List Int)) j h9))).trans (sv_n _ (fun h9 => hj (by rw [h9.2]; decide)))))) (by decide))
              have e_95 : μ87.1 111 94 = μ76.1 111 94 := (hp_89 94 (by decide))
              have e_96 : μ87.1 111 47 = n := ((hp_89 47 (by decide)).trans ((hp_79 47 (by decide)).trans ((sv_n _ (by decide)).trans hn.symm)))
              have hMZ_97 : MZ μ87 := MZ.cg hp_80 F_88 (by decide) (Eqf.fd hp_89 (by decide))
              have e_98 : μ87.1 111 94 = μ76.1 111 94 := (hp_89 94 (by decide))
              have hA1_99 : A1 μ87 := TQ.a1 hTQ (Eqa.fr (L := [111]) (FrM.tr (FrM.tr (FrM.put FrM.rf (by decide)) F_78 (by decide)) F_88 (by decide)) (by decide)) (Eqf.fd (L := [53, 83, 84, 93, 94, 98, 99]) (fun j hj => ((hp_89 j (fun h9 => hj ((by decide : ∀ x ∈ ([98, 99] : List Int), x ∈ ([53, 83, 84, 93, 94, 98, 99] : List Int)) j h9))).trans ((hp_79 j (fun h9 => hj ((by decide : ∀ x ∈ ([83, 84, 93, 94] : List Int), x ∈ ([53, 83, 84, 93, 94, 98, 99] : List Int)) j h9))).trans (sv_n _ (fun h9 => hj (by rw [h9.2]; decide)))))) (by decide)) (by have h9 : μ87.1 111 53 = (μ.1 111 53) - 2 := ((hp_89 53 (by decide)).trans ((hp_79 53 (by decide)).trans (sv_s _ _ _ _))); omega)
              refine xc_vV G (b := 111) (rest := []) (As := [.int (iv 4)]) (c_X12_arises_a ω l μ87 4 n (by unfold ir; omega) (by omega) hMZ_97 (by omega) (by omega) (fun _ => by omega) (fun _ => hA1_99)) (wm 10 199 rfl rfl) (wm 10 201 rfl rfl) (wm 0 213 rfl rfl) rfl rfl (by decide) rfl (wm 1 18 rfl rfl) (wm 10 202 rfl rfl) (by decide) hR (by decide) (n := 1) rfl rfl (Nat.le_of_ble_eq_true rfl) hl.1 dX12_getsCell_194 (fun μ100 ρ d0 H locs hp G => ?_)
              obtain ⟨F_101, hp_102, hp_103⟩ := hp
              exact xr_v G hret hlk dX12_getsCell_197 ⟨(FrM.tr (FrM.tr (FrM.tr (FrM.put FrM.rf (by decide)) F_78 (by decide)) F_88 (by decide)) F_101 (by decide)), (fun j hj => ((hp_102 j (fun h9 => hj ((by decide : ∀ x ∈ ([47, 53, 61, 81, 82, 83, 84, 90, 91, 93, 94, 95, 96, 97, 98, 99] : List Int), x ∈ ([47, 53, 61, 81, 82, 83, 84, 90, 91, 93, 94, 95, 96, 97, 98, 99] : List Int)) j h9))).trans ((hp_89 j (fun h9 => hj ((by decide : ∀ x ∈ ([98, 99] : List Int), x ∈ ([47, 53, 61, 81, 82, 83, 84, 90, 91, 93, 94, 95, 96, 97, 98, 99] : List Int)) j h9))).trans ((hp_79 j (fun h9 => hj ((by decide : ∀ x ∈ ([83, 84, 93, 94] : List Int), x ∈ ([47, 53, 61, 81, 82, 83, 84, 90, 91, 93, 94, 95, 96, 97, 98, 99] : List Int)) j h9))).trans (sv_n _ (fun h9 => hj (by rw [h9.2]; decide))))))), (hp_103.le (by omega))⟩
            · refine lv_aload_n hx hb dX12_getsCell_179 rfl (lv_at hl 3 rfl) ?_
              refine lv_iload hx hb dX12_getsCell_180 (lv_at hl 0 rfl) ?_
              refine lv_aload_n hx hb dX12_getsCell_182 rfl (lv_at hl 3 rfl) ?_
              refine xa_getl G fd_X12 (a := 111) (x := μ87.1 111 99) 99 rfl (by decide) rfl (wm 8 8 rfl rfl) ⟨rfl, rfl, rfl⟩ dX12_getsCell_183 rfl rfl ?_
              have hj_104 : jr (μ87.1 111 99) := by have h9 := G.hj (a := 111) (k := 99) rfl; exact h9
              have e_105 : μ87.1 111 83 = μ76.1 111 83 := (hp_89 83 (by decide))
              have hrx_106 := RX.eq (μ := μ) (ν := μ87) (Eqa.fr (L := [111]) (FrM.tr (FrM.tr (FrM.put FrM.rf (by decide)) F_78 (by decide)) F_88 (by decide)) (by decide)) (Eqf.fd (L := [53, 83, 84, 93, 94, 98, 99]) (fun j hj => ((hp_89 j (fun h9 => hj ((by decide : ∀ x ∈ ([98, 99] : List Int), x ∈ ([53, 83, 84, 93, 94, 98, 99] : List Int)) j h9))).trans ((hp_79 j (fun h9 => hj ((by decide : ∀ x ∈ ([83, 84, 93, 94] : List Int), x ∈ ([53, 83, 84, 93, 94, 98, 99] : List Int)) j h9))).trans (sv_n _ (fun h9 => hj (by rw [h9.2]; decide)))))) (by decide))
              have e_107 : μ87.1 111 94 = μ76.1 111 94 := (hp_89 94 (by decide))
              have hA1_108 : A1 μ87 := TQ.a1 hTQ (Eqa.fr (L := [111]) (FrM.tr (FrM.tr (FrM.put FrM.rf (by decide)) F_78 (by decide)) F_88 (by decide)) (by decide)) (Eqf.fd (L := [53, 83, 84, 93, 94, 98, 99]) (fun j hj => ((hp_89 j (fun h9 => hj ((by decide : ∀ x ∈ ([98, 99] : List Int), x ∈ ([53, 83, 84, 93, 94, 98, 99] : List Int)) j h9))).trans ((hp_79 j (fun h9 => hj ((by decide : ∀ x ∈ ([83, 84, 93, 94] : List Int), x ∈ ([53, 83, 84, 93, 94, 98, 99] : List Int)) j h9))).trans (sv_n _ (fun h9 => hj (by rw [h9.2]; decide)))))) (by decide)) (by have h9 : μ87.1 111 53 = (μ.1 111 53) - 2 := ((hp_89 53 (by decide)).trans ((hp_79 53 (by decide)).trans (sv_s _ _ _ _))); omega)
              have e_109 : μ87.1 111 47 = n := ((hp_89 47 (by decide)).trans ((hp_79 47 (by decide)).trans ((sv_n _ (by decide)).trans hn.symm)))
              have e_110 : μ87.1 111 53 = (μ.1 111 53) - 2 := ((hp_89 53 (by decide)).trans ((hp_79 53 (by decide)).trans (sv_s _ _ _ _)))
              have e_111 : μ87.1 111 53 = (μ.1 111 53) - 2 := ((hp_89 53 (by decide)).trans ((hp_79 53 (by decide)).trans (sv_s _ _ _ _)))
              have hMZ_112 : MZ μ87 := MZ.cg hp_80 F_88 (by decide) (Eqf.fd hp_89 (by decide))
              have e_113 : μ87.1 111 53 = (μ.1 111 53) - 2 := ((hp_89 53 (by decide)).trans ((hp_79 53 (by decide)).trans (sv_s _ _ _ _)))
              have e_114 : μ87.1 111 53 = (μ.1 111 53) - 2 := ((hp_89 53 (by decide)).trans ((hp_79 53 (by decide)).trans (sv_s _ _ _ _)))
              have e_115 : μ87.1 111 53 = (μ.1 111 53) - 2 := ((hp_89 53 (by decide)).trans ((hp_79 53 (by decide)).trans (sv_s _ _ _ _)))
              have e_116 : μ87.1 136 (μ.1 111 53 - 2) = μ.1 136 (μ.1 111 53 - 2) := ((F_88.1 136 (by decide) (μ.1 111 53 - 2)).trans ((F_78.1 136 (by decide) (μ.1 111 53 - 2)).trans (sv_n _ (fun h9 => absurd h9.1 (by decide)))))
              have e_117 : μ87.1 111 53 = (μ.1 111 53) - 2 := ((hp_89 53 (by decide)).trans ((hp_79 53 (by decide)).trans (sv_s _ _ _ _)))
              refine xc_vV G (b := 111) (rest := []) (As := [.int (iv (μ.1 147 ((μ.1 144 (μ.1 136 (μ.1 111 53 - 2))) + r_14))), .long (jv (μ87.1 111 99))]) (c_X12_push ω l μ87 (μ.1 147 ((μ.1 144 (μ.1 136 (μ.1 111 53 - 2))) + r_14)) (μ87.1 111 99) ((μ.1 111 53) - 2) (by unfold ir; omega) hj_104 (by omega) hMZ_112 (by rw [(show μ87.1 111 65 = μ.1 111 65 from ((hp_89 65 (by decide)).trans ((hp_79 65 (by decide)).trans (sv_n _ (by decide))))), (show μ87.1 111 82 = μ.1 111 82 from ((hp_89 82 (by decide)).trans ((hp_79 82 (by decide)).trans (sv_n _ (by decide)))))]; rcases Classical.em (μ.1 147 ((μ.1 144 (μ.1 136 (μ.1 111 53 - 2))) + r_14) = 1) with h9 | h9; (rw [h9]; exact VV.n1); (rw [show μ87.1 111 99 = _ from (hp_90 h9).2]; exact hce_)) (by omega)) (wm 10 127 rfl rfl) (wm 10 129 rfl rfl) (wm 0 195 rfl rfl) rfl rfl (by decide) rfl (wm 1 18 rfl rfl) (wm 10 130 rfl rfl) (by decide) hR (by decide) (n := 2) rfl rfl (Nat.le_of_ble_eq_true rfl) hl.1 dX12_getsCell_186 (fun μ118 ρ d0 H locs hp G => ?_)
              obtain ⟨F_119, hp_120, hp_121, hs_122, hs_123, hs_124, ha_125, ha_126⟩ := hp
              refine lv_goto (tgt := 197) hx hb dX12_getsCell_189 (by decide) ?_
              have e_127 : μ118.1 111 94 = μ76.1 111 94 := ((hp_120 94 (by decide)).trans (hp_89 94 (by decide)))
              have e_128 : μ118.1 111 53 = ((μ.1 111 53) - 2) + 1 := hs_122
              have ht_129 : μ87.1 129 (μ87.1 111 47 - 1) = μ.1 129 (n - 1) := by rw [show μ87.1 111 47 = n from ((hp_89 47 (by decide)).trans ((hp_79 47 (by decide)).trans ((sv_n _ (by decide)).trans hn.symm)))]; exact ((F_88.1 129 (by decide) (n - 1)).trans ((F_78.1 129 (by decide) (n - 1)).trans (sv_n _ (fun h9 => absurd h9.1 (by decide)))))
              have e_130 : μ87.1 111 53 = (μ.1 111 53) - 2 := ((hp_89 53 (by decide)).trans ((hp_79 53 (by decide)).trans (sv_s _ _ _ _)))
              exact xr_v G hret hlk dX12_getsCell_197 ⟨(FrM.tr (FrM.tr (FrM.tr (FrM.put FrM.rf (by decide)) F_78 (by decide)) F_88 (by decide)) F_119 (by decide)), (fun j hj => ((hp_120 j (fun h9 => hj ((by decide : ∀ x ∈ ([53] : List Int), x ∈ ([47, 53, 61, 81, 82, 83, 84, 90, 91, 93, 94, 95, 96, 97, 98, 99] : List Int)) j h9))).trans ((hp_89 j (fun h9 => hj ((by decide : ∀ x ∈ ([98, 99] : List Int), x ∈ ([47, 53, 61, 81, 82, 83, 84, 90, 91, 93, 94, 95, 96, 97, 98, 99] : List Int)) j h9))).trans ((hp_79 j (fun h9 => hj ((by decide : ∀ x ∈ ([83, 84, 93, 94] : List Int), x ∈ ([47, 53, 61, 81, 82, 83, 84, 90, 91, 93, 94, 95, 96, 97, 98, 99] : List Int)) j h9))).trans (sv_n _ (fun h9 => hj (by rw [h9.2]; decide))))))), ((A1.rs hA1_108 hp_121 (by have h9 : μ87.1 111 47 = n := ((hp_89 47 (by decide)).trans ((hp_79 47 (by decide)).trans ((sv_n _ (by decide)).trans hn.symm))); omega) (Eqa.fr (L := [111, 135, 136]) (FrM.tr FrM.rf F_119 (by decide)) (by decide)) (Eqf.fd (L := [53]) (fun j hj => (hp_120 j (fun h9 => hj ((by decide : ∀ x ∈ ([53] : List Int), x ∈ ([53] : List Int)) j h9)))) (by decide)) (by have h9 : μ118.1 111 94 = μ76.1 111 94 := ((hp_120 94 (by decide)).trans (hp_89 94 (by decide))); omega) (by have h9 : μ118.1 111 83 = μ76.1 111 83 := ((hp_120 83 (by decide)).trans (hp_89 83 (by decide))); have h8 : μ87.1 111 83 = μ76.1 111 83 := (hp_89 83 (by decide)); omega) (by omega)).le (by omega))⟩
          · exact xr_v G hret hlk dX12_getsCell_130 ⟨(FrM.tr (FrM.put FrM.rf (by decide)) F_78 (by decide)), (fun j hj => ((hp_79 j (fun h9 => hj ((by decide : ∀ x ∈ ([83, 84, 93, 94] : List Int), x ∈ ([47, 53, 61, 81, 82, 83, 84, 90, 91, 93, 94, 95, 96, 97, 98, 99] : List Int)) j h9))).trans (sv_n _ (fun h9 => hj (by rw [h9.2]; decide))))), (RES.ov hp_80 (by omega))⟩
      · refine lv_aload_n hx hb dX12_getsCell_107 rfl (lv_at hl 2 rfl) ?_
        refine lv_iconst (v := iv 2) hx hb dX12_getsCell_108 rfl ?_
        have e_131 : (sv μ 111 53 ((μ.1 111 53) - 2)).1 111 4 = μ.1 111 4 := (sv_n _ (by decide))
        have e_132 : (sv μ 111 53 ((μ.1 111 53) - 2)).1 111 83 = μ.1 111 83 := (sv_n _ (by decide))
        have hrx_133 := RX.eq (μ := μ) (ν := (sv μ 111 53 ((μ.1 111 53) - 2))) (Eqa.fr (L := [111]) (FrM.put FrM.rf (by decide)) (by decide)) (Eqf.fd (L := [53]) (fun j hj => (sv_n _ (fun h9 => hj (by rw [h9.2]; decide)))) (by decide))
        have e_134 : (sv μ 111 53 ((μ.1 111 53) - 2)).1 111 94 = μ.1 111 94 := (sv_n _ (by decide))
        have e_135 : (sv μ 111 53 ((μ.1 111 53) - 2)).1 111 47 = n := ((sv_n _ (by decide)).trans hn.symm)
        have hMZ_136 : MZ (sv μ 111 53 ((μ.1 111 53) - 2)) := MZ.mn1 hMZ (n := n) (s := μ.1 131 (n - 1)) (hn.symm) (by have h9 : μ.1 131 (n - 1) = μ.1 131 (n - 1) := rfl; exact h9) (by omega) (by have h9 : μ.1 111 53 = μ.1 111 53 := rfl; omega)
        have e_137 : (sv μ 111 53 ((μ.1 111 53) - 2)).1 111 94 = μ.1 111 94 := (sv_n _ (by decide))
        have hA1_138 : A1 (sv μ 111 53 ((μ.1 111 53) - 2)) := TQ.a1 hTQ (Eqa.fr (L := [111]) (FrM.put FrM.rf (by decide)) (by decide)) (Eqf.fd (L := [53]) (fun j hj => (sv_n _ (fun h9 => hj (by rw [h9.2]; decide)))) (by decide)) (by have h9 : (sv μ 111 53 ((μ.1 111 53) - 2)).1 111 53 = (μ.1 111 53) - 2 := (sv_s _ _ _ _); omega)
        refine xc_vV G (b := 111) (rest := []) (As := [.int (iv 2)]) (c_X12_arises_a ω l (sv μ 111 53 ((μ.1 111 53) - 2)) 2 n (by unfold ir; omega) (by omega) hMZ_136 (by omega) (by omega) (fun _ => by omega) (fun _ => hA1_138)) (wm 10 199 rfl rfl) (wm 10 201 rfl rfl) (wm 0 213 rfl rfl) rfl rfl (by decide) rfl (wm 1 18 rfl rfl) (wm 10 202 rfl rfl) (by decide) hR (by decide) (n := 1) rfl rfl (Nat.le_of_ble_eq_true rfl) hl.1 dX12_getsCell_109 (fun μ139 ρ d0 H locs hp G => ?_)
        obtain ⟨F_140, hp_141, hp_142⟩ := hp
        exact xr_v G hret hlk dX12_getsCell_112 ⟨(FrM.tr (FrM.put FrM.rf (by decide)) F_140 (by decide)), (fun j hj => ((hp_141 j (fun h9 => hj ((by decide : ∀ x ∈ ([47, 53, 61, 81, 82, 83, 84, 90, 91, 93, 94, 95, 96, 97, 98, 99] : List Int), x ∈ ([47, 53, 61, 81, 82, 83, 84, 90, 91, 93, 94, 95, 96, 97, 98, 99] : List Int)) j h9))).trans (sv_n _ (fun h9 => hj (by rw [h9.2]; decide))))), (hp_142.le (by omega))⟩
    · refine lv_aload_n hx hb dX12_getsCell_60 rfl (lv_at hl 0 rfl) ?_
      refine lv_iconst (v := iv 4) hx hb dX12_getsCell_61 rfl ?_
      have e_143 : (sv μ 111 53 ((μ.1 111 53) - 2)).1 111 4 = μ.1 111 4 := (sv_n _ (by decide))
      have e_144 : (sv μ 111 53 ((μ.1 111 53) - 2)).1 111 83 = μ.1 111 83 := (sv_n _ (by decide))
      have hrx_145 := RX.eq (μ := μ) (ν := (sv μ 111 53 ((μ.1 111 53) - 2))) (Eqa.fr (L := [111]) (FrM.put FrM.rf (by decide)) (by decide)) (Eqf.fd (L := [53]) (fun j hj => (sv_n _ (fun h9 => hj (by rw [h9.2]; decide)))) (by decide))
      have e_146 : (sv μ 111 53 ((μ.1 111 53) - 2)).1 111 94 = μ.1 111 94 := (sv_n _ (by decide))
      have e_147 : (sv μ 111 53 ((μ.1 111 53) - 2)).1 111 47 = n := ((sv_n _ (by decide)).trans hn.symm)
      have hMZ_148 : MZ (sv μ 111 53 ((μ.1 111 53) - 2)) := MZ.mn1 hMZ (n := n) (s := μ.1 131 (n - 1)) (hn.symm) (by have h9 : μ.1 131 (n - 1) = μ.1 131 (n - 1) := rfl; exact h9) (by omega) (by have h9 : μ.1 111 53 = μ.1 111 53 := rfl; omega)
      have e_149 : (sv μ 111 53 ((μ.1 111 53) - 2)).1 111 94 = μ.1 111 94 := (sv_n _ (by decide))
      have hA1_150 : A1 (sv μ 111 53 ((μ.1 111 53) - 2)) := TQ.a1 hTQ (Eqa.fr (L := [111]) (FrM.put FrM.rf (by decide)) (by decide)) (Eqf.fd (L := [53]) (fun j hj => (sv_n _ (fun h9 => hj (by rw [h9.2]; decide)))) (by decide)) (by have h9 : (sv μ 111 53 ((μ.1 111 53) - 2)).1 111 53 = (μ.1 111 53) - 2 := (sv_s _ _ _ _); omega)
      refine xc_vV G (b := 111) (rest := []) (As := [.int (iv 4)]) (c_X12_arises_a ω l (sv μ 111 53 ((μ.1 111 53) - 2)) 4 n (by unfold ir; omega) (by omega) hMZ_148 (by omega) (by omega) (fun _ => by omega) (fun _ => hA1_150)) (wm 10 199 rfl rfl) (wm 10 201 rfl rfl) (wm 0 213 rfl rfl) rfl rfl (by decide) rfl (wm 1 18 rfl rfl) (wm 10 202 rfl rfl) (by decide) hR (by decide) (n := 1) rfl rfl (Nat.le_of_ble_eq_true rfl) hl.1 dX12_getsCell_62 (fun μ151 ρ d0 H locs hp G => ?_)
      obtain ⟨F_152, hp_153, hp_154⟩ := hp
      exact xr_v G hret hlk dX12_getsCell_65 ⟨(FrM.tr (FrM.put FrM.rf (by decide)) F_152 (by decide)), (fun j hj => ((hp_153 j (fun h9 => hj ((by decide : ∀ x ∈ ([47, 53, 61, 81, 82, 83, 84, 90, 91, 93, 94, 95, 96, 97, 98, 99] : List Int), x ∈ ([47, 53, 61, 81, 82, 83, 84, 90, 91, 93, 94, 95, 96, 97, 98, 99] : List Int)) j h9))).trans (sv_n _ (fun h9 => hj (by rw [h9.2]; decide))))), (hp_154.le (by omega))⟩
  · refine lv_aload_n hx hb dX12_getsCell_23 rfl (lv_at hl 0 rfl) ?_
    refine lv_aload_n hx hb dX12_getsCell_24 rfl (lv_at hl 0 rfl) ?_
    refine xa_getr G fd_X12 (a := 111) (x := 135) 51 rfl (by decide) rfl (wm 7 200 rfl rfl) ⟨rfl, rfl, rfl⟩ dX12_getsCell_25 rfl (G.sk 133 rfl) (by decide) rfl ?_
    refine lv_aload_n hx hb dX12_getsCell_28 rfl (lv_at hl 0 rfl) ?_
    refine xa_geti G fd_X12 (a := 111) (x := (μ.1 111 53) - 2) 53 rfl (by decide) rfl (wm 7 202 rfl rfl) ⟨rfl, rfl, rfl⟩ dX12_getsCell_29 rfl (sv_s _ _ _ _) ?_
    refine xa_bald G (a := 135) (i := (μ.1 111 53) - 2) rfl (by have h9 := G.lc (a := 135) (n := 9000) 73 rfl; omega) dX12_getsCell_32 rfl ?_
    refine xb_ti (y := μ.1 135 (μ.1 111 53 - 2)) (sv_n _ (fun h9 => absurd h9.1 (by decide))) ?_
    refine xb_if_ne (tgt := 40) hx hb (by unfold ir; omega) dX12_getsCell_33 (by decide) (fun c_33 => ?_) (fun c_33 => ?_)
    · refine lv_iconst (v := iv 4) hx hb dX12_getsCell_40 rfl ?_
      have e_155 : (sv μ 111 53 ((μ.1 111 53) - 2)).1 111 4 = μ.1 111 4 := (sv_n _ (by decide))
      have e_156 : (sv μ 111 53 ((μ.1 111 53) - 2)).1 111 83 = μ.1 111 83 := (sv_n _ (by decide))
      have hrx_157 := RX.eq (μ := μ) (ν := (sv μ 111 53 ((μ.1 111 53) - 2))) (Eqa.fr (L := [111]) (FrM.put FrM.rf (by decide)) (by decide)) (Eqf.fd (L := [53]) (fun j hj => (sv_n _ (fun h9 => hj (by rw [h9.2]; decide)))) (by decide))
      have e_158 : (sv μ 111 53 ((μ.1 111 53) - 2)).1 111 94 = μ.1 111 94 := (sv_n _ (by decide))
      have e_159 : (sv μ 111 53 ((μ.1 111 53) - 2)).1 111 47 = n := ((sv_n _ (by decide)).trans hn.symm)
      have hMZ_160 : MZ (sv μ 111 53 ((μ.1 111 53) - 2)) := MZ.mn1 hMZ (n := n) (s := μ.1 131 (n - 1)) (hn.symm) (by have h9 : μ.1 131 (n - 1) = μ.1 131 (n - 1) := rfl; exact h9) (by omega) (by have h9 : μ.1 111 53 = μ.1 111 53 := rfl; omega)
      have e_161 : (sv μ 111 53 ((μ.1 111 53) - 2)).1 111 94 = μ.1 111 94 := (sv_n _ (by decide))
      have hA1_162 : A1 (sv μ 111 53 ((μ.1 111 53) - 2)) := TQ.a1 hTQ (Eqa.fr (L := [111]) (FrM.put FrM.rf (by decide)) (by decide)) (Eqf.fd (L := [53]) (fun j hj => (sv_n _ (fun h9 => hj (by rw [h9.2]; decide)))) (by decide)) (by have h9 : (sv μ 111 53 ((μ.1 111 53) - 2)).1 111 53 = (μ.1 111 53) - 2 := (sv_s _ _ _ _); omega)
      refine xc_vV G (b := 111) (rest := []) (As := [.int (iv 4)]) (c_X12_arises_a ω l (sv μ 111 53 ((μ.1 111 53) - 2)) 4 n (by unfold ir; omega) (by omega) hMZ_160 (by omega) (by omega) (fun _ => by omega) (fun _ => hA1_162)) (wm 10 199 rfl rfl) (wm 10 201 rfl rfl) (wm 0 213 rfl rfl) rfl rfl (by decide) rfl (wm 1 18 rfl rfl) (wm 10 202 rfl rfl) (by decide) hR (by decide) (n := 1) rfl rfl (Nat.le_of_ble_eq_true rfl) hl.1 dX12_getsCell_41 (fun μ163 ρ d0 H locs hp G => ?_)
      obtain ⟨F_164, hp_165, hp_166⟩ := hp
      exact xr_v G hret hlk dX12_getsCell_44 ⟨(FrM.tr (FrM.put FrM.rf (by decide)) F_164 (by decide)), (fun j hj => ((hp_165 j (fun h9 => hj ((by decide : ∀ x ∈ ([47, 53, 61, 81, 82, 83, 84, 90, 91, 93, 94, 95, 96, 97, 98, 99] : List Int), x ∈ ([47, 53, 61, 81, 82, 83, 84, 90, 91, 93, 94, 95, 96, 97, 98, 99] : List Int)) j h9))).trans (sv_n _ (fun h9 => hj (by rw [h9.2]; decide))))), (hp_166.le (by omega))⟩
    · refine lv_iconst (v := iv 3) hx hb dX12_getsCell_36 rfl ?_
      refine lv_goto (tgt := 41) hx hb dX12_getsCell_37 (by decide) ?_
      have e_167 : (sv μ 111 53 ((μ.1 111 53) - 2)).1 111 4 = μ.1 111 4 := (sv_n _ (by decide))
      have e_168 : (sv μ 111 53 ((μ.1 111 53) - 2)).1 111 83 = μ.1 111 83 := (sv_n _ (by decide))
      have hrx_169 := RX.eq (μ := μ) (ν := (sv μ 111 53 ((μ.1 111 53) - 2))) (Eqa.fr (L := [111]) (FrM.put FrM.rf (by decide)) (by decide)) (Eqf.fd (L := [53]) (fun j hj => (sv_n _ (fun h9 => hj (by rw [h9.2]; decide)))) (by decide))
      have e_170 : (sv μ 111 53 ((μ.1 111 53) - 2)).1 111 94 = μ.1 111 94 := (sv_n _ (by decide))
      have e_171 : (sv μ 111 53 ((μ.1 111 53) - 2)).1 111 47 = n := ((sv_n _ (by decide)).trans hn.symm)
      have hMZ_172 : MZ (sv μ 111 53 ((μ.1 111 53) - 2)) := MZ.mn1 hMZ (n := n) (s := μ.1 131 (n - 1)) (hn.symm) (by have h9 : μ.1 131 (n - 1) = μ.1 131 (n - 1) := rfl; exact h9) (by omega) (by have h9 : μ.1 111 53 = μ.1 111 53 := rfl; omega)
      have e_173 : (sv μ 111 53 ((μ.1 111 53) - 2)).1 111 94 = μ.1 111 94 := (sv_n _ (by decide))
      have hA1_174 : A1 (sv μ 111 53 ((μ.1 111 53) - 2)) := TQ.a1 hTQ (Eqa.fr (L := [111]) (FrM.put FrM.rf (by decide)) (by decide)) (Eqf.fd (L := [53]) (fun j hj => (sv_n _ (fun h9 => hj (by rw [h9.2]; decide)))) (by decide)) (by have h9 : (sv μ 111 53 ((μ.1 111 53) - 2)).1 111 53 = (μ.1 111 53) - 2 := (sv_s _ _ _ _); omega)
      refine xc_vV G (b := 111) (rest := []) (As := [.int (iv 3)]) (c_X12_arises_a ω l (sv μ 111 53 ((μ.1 111 53) - 2)) 3 n (by unfold ir; omega) (by omega) hMZ_172 (by omega) (by omega) (fun _ => by omega) (fun _ => hA1_174)) (wm 10 199 rfl rfl) (wm 10 201 rfl rfl) (wm 0 213 rfl rfl) rfl rfl (by decide) rfl (wm 1 18 rfl rfl) (wm 10 202 rfl rfl) (by decide) hR (by decide) (n := 1) rfl rfl (Nat.le_of_ble_eq_true rfl) hl.1 dX12_getsCell_41 (fun μ175 ρ d0 H locs hp G => ?_)
      obtain ⟨F_176, hp_177, hp_178⟩ := hp
      exact xr_v G hret hlk dX12_getsCell_44 ⟨(FrM.tr (FrM.put FrM.rf (by decide)) F_176 (by decide)), (fun j hj => ((hp_177 j (fun h9 => hj ((by decide : ∀ x ∈ ([47, 53, 61, 81, 82, 83, 84, 90, 91, 93, 94, 95, 96, 97, 98, 99] : List Int), x ∈ ([47, 53, 61, 81, 82, 83, 84, 90, 91, 93, 94, 95, 96, 97, 98, 99] : List Int)) j h9))).trans (sv_n _ (fun h9 => hj (by rw [h9.2]; decide))))), (hp_178.le (by omega))⟩

set_option maxHeartbeats 4000000 in
set_option maxRecDepth 100000 in
theorem c_X12_setsCell (ω : Om) (l : Launch) (μ : M3) (x1 : Int) (i : Int) (kk : Int) (n : Int) (hx1 : ir x1) (hn : n = μ.1 111 47) (hMZ : MZ μ) (h1 : 1 ≤ n ∧ n ≤ 24) (h94 : μ.1 111 94 = 0) (hMI : MI μ n i kk) (ht : x1 = μ.1 127 (n - 1)) (ho : μ.1 115 kk = 5) : CtV ω l yX12_setsCell cX12_setsCell 9 186 5047 [.ref (oP ω 111), .int (iv x1)] μ (fun (μ' : M3) => (FrM [111, 129, 133, 134, 135, 136, 137, 138, 139, 140, 141, 142, 143, 149, 150, 151, 152, 153, 154, 155, 156, 157, 158, 159, 147, 148] μ μ') ∧ (∀ j, j ∉ ([47, 53, 61, 81, 82, 83, 84, 90, 91, 93, 94, 95, 96, 97, 98, 99] : List Int) → μ'.1 111 j = μ.1 111 j) ∧ (RES μ' (RK0 μ n i - 1))) := by
  refine CtV.go (by decide) (Nat.le_of_ble_eq_true rfl) (fun ρ p e s m below meth c R ls G hR hret hlk hl => ?_)
  have hx := G.1.1
  have hb := G.1.2.1
  have hl : lv_has ls 9 [(0, .ref (oP ω 111)), (1, .int (iv x1))] := hl
  generalize s.drawn = d0 at G ⊢
  have hr_x1 : -2147483648 ≤ x1 ∧ x1 ≤ 2147483647 := hx1
  have hzn_ := hMZ.n
  rw [← hn] at hzn_
  obtain ⟨hz47, hzFB, hzFL, hz81, hz82, hz84, hz65, hz4, hz104⟩ := hzn_
  have hk0_ := hMI.k0
  have hfr_ := (hMZ.2.2.1 (n - 1) (by omega) (by omega)).1.1
  have hzB := FB_1 (μ := μ) (n := n) (by omega)
  have hzL := FL_1 (μ := μ) (n := n) (by omega)
  have hlw_ := hMI.low
  have hlo_ := hlw_.2.2.1 ho
  have hle_ := hlw_.2.2.2.2.2.2.1
  clear hlw_
  have hsv3_ := hMZ.stv (μ.1 111 53 - 3) (by omega) (by omega)
  have hsr3_ := hsv3_.1
  have hsv2_ := hMZ.stv (μ.1 111 53 - 2) (by omega) (by omega)
  have hsr2_ := hsv2_.1
  have hsv1_ := hMZ.stv (μ.1 111 53 - 1) (by omega) (by omega)
  have hsr1_ := hsv1_.1
  refine lv_aload_n hx hb dX12_setsCell_0 rfl (lv_at hl 0 rfl) ?_
  refine lv_dup hx hb dX12_setsCell_1 rfl ?_
  refine xa_geti G fd_X12 (a := 111) (x := μ.1 111 53) 53 rfl (by decide) rfl (wm 7 202 rfl rfl) ⟨rfl, rfl, rfl⟩ dX12_setsCell_2 rfl rfl ?_
  have hr_1 : -2147483648 ≤ μ.1 111 53 ∧ μ.1 111 53 ≤ 2147483647 := by have h9 := G.hr (a := 111) (k := 53) rfl; exact h9
  refine lv_iconst (v := iv 3) hx hb dX12_setsCell_5 rfl ?_
  refine xb_isub hx hb dX12_setsCell_6 ?_
  refine xa_puti G fd_X12 (a := 111) (x := (μ.1 111 53) - 3) 53 (kz := 53) rfl rfl (by decide) rfl (by unfold ir; omega) (wm 7 202 rfl rfl) ⟨rfl, rfl, rfl, rfl⟩ rfl dX12_setsCell_7 rfl (fun H locs G => ?_)
  refine lv_aload_n hx hb dX12_setsCell_10 rfl (lv_at hl 0 rfl) ?_
  refine xa_getr G fd_X12 (a := 111) (x := 135) 51 rfl (by decide) rfl (wm 7 200 rfl rfl) ⟨rfl, rfl, rfl⟩ dX12_setsCell_11 rfl (G.sk 133 rfl) (by decide) rfl ?_
  refine lv_aload_n hx hb dX12_setsCell_14 rfl (lv_at hl 0 rfl) ?_
  refine xa_geti G fd_X12 (a := 111) (x := (μ.1 111 53) - 3) 53 rfl (by decide) rfl (wm 7 202 rfl rfl) ⟨rfl, rfl, rfl⟩ dX12_setsCell_15 rfl (sv_s _ _ _ _) ?_
  have hr_2 : -2147483648 ≤ (μ.1 111 53) - 3 ∧ (μ.1 111 53) - 3 ≤ 2147483647 := by have h9 := G.hr (a := 111) (k := 53) rfl; rw [show (sv μ 111 53 ((μ.1 111 53) - 3)).1 111 53 = (μ.1 111 53) - 3 from (sv_s _ _ _ _)] at h9; exact h9
  refine xa_bald G (a := 135) (i := (μ.1 111 53) - 3) rfl (by have h9 := G.lc (a := 135) (n := 9000) 73 rfl; omega) dX12_setsCell_18 rfl ?_
  refine xb_ti (y := μ.1 135 (μ.1 111 53 - 3)) (sv_n _ (fun h9 => absurd h9.1 (by decide))) ?_
  have hr_3 : -2147483648 ≤ μ.1 135 (μ.1 111 53 - 3) ∧ μ.1 135 (μ.1 111 53 - 3) ≤ 2147483647 := by have h9 := G.hr3 (a := 135) (k := (μ.1 111 53) - 3) rfl; rw [(sv_n _ (fun h9 => absurd h9.1 (by decide)))] at h9; exact h9
  refine lv_istore_n (lv' := [(2, .int (iv (μ.1 135 (μ.1 111 53 - 3)))), (0, .ref (oP ω 111)), (1, .int (iv x1))]) hx hb dX12_setsCell_19 rfl hl (by decide) rfl (fun ls hl => ?_)
  refine lv_aload_n hx hb dX12_setsCell_20 rfl (lv_at hl 1 rfl) ?_
  refine xa_getr G fd_X12 (a := 111) (x := 135) 51 rfl (by decide) rfl (wm 7 200 rfl rfl) ⟨rfl, rfl, rfl⟩ dX12_setsCell_21 rfl (G.sk 133 rfl) (by decide) rfl ?_
  refine lv_aload_n hx hb dX12_setsCell_24 rfl (lv_at hl 1 rfl) ?_
  refine xa_geti G fd_X12 (a := 111) (x := (μ.1 111 53) - 3) 53 rfl (by decide) rfl (wm 7 202 rfl rfl) ⟨rfl, rfl, rfl⟩ dX12_setsCell_25 rfl (sv_s _ _ _ _) ?_
  refine lv_iconst (v := iv 1) hx hb dX12_setsCell_28 rfl ?_
  refine xb_iadd hx hb dX12_setsCell_29 ?_
  refine xb_ti (y := (μ.1 111 53) - 2) (by omega) ?_
  refine xa_bald G (a := 135) (i := (μ.1 111 53) - 2) rfl (by have h9 := G.lc (a := 135) (n := 9000) 73 rfl; omega) dX12_setsCell_30 rfl ?_
  refine xb_ti (y := μ.1 135 (μ.1 111 53 - 2)) (sv_n _ (fun h9 => absurd h9.1 (by decide))) ?_
  have hr_4 : -2147483648 ≤ μ.1 135 (μ.1 111 53 - 2) ∧ μ.1 135 (μ.1 111 53 - 2) ≤ 2147483647 := by have h9 := G.hr3 (a := 135) (k := (μ.1 111 53) - 2) rfl; rw [(sv_n _ (fun h9 => absurd h9.1 (by decide)))] at h9; exact h9
  refine lv_istore_n (lv' := [(3, .int (iv (μ.1 135 (μ.1 111 53 - 2)))), (2, .int (iv (μ.1 135 (μ.1 111 53 - 3)))), (0, .ref (oP ω 111)), (1, .int (iv x1))]) hx hb dX12_setsCell_31 rfl hl (by decide) rfl (fun ls hl => ?_)
  refine lv_aload_n hx hb dX12_setsCell_32 rfl (lv_at hl 2 rfl) ?_
  refine xa_getr G fd_X12 (a := 111) (x := 135) 51 rfl (by decide) rfl (wm 7 200 rfl rfl) ⟨rfl, rfl, rfl⟩ dX12_setsCell_33 rfl (G.sk 133 rfl) (by decide) rfl ?_
  refine lv_aload_n hx hb dX12_setsCell_36 rfl (lv_at hl 2 rfl) ?_
  refine xa_geti G fd_X12 (a := 111) (x := (μ.1 111 53) - 3) 53 rfl (by decide) rfl (wm 7 202 rfl rfl) ⟨rfl, rfl, rfl⟩ dX12_setsCell_37 rfl (sv_s _ _ _ _) ?_
  refine lv_iconst (v := iv 2) hx hb dX12_setsCell_40 rfl ?_
  refine xb_iadd hx hb dX12_setsCell_41 ?_
  refine xb_ti (y := (μ.1 111 53) - 1) (by omega) ?_
  refine xa_bald G (a := 135) (i := (μ.1 111 53) - 1) rfl (by have h9 := G.lc (a := 135) (n := 9000) 73 rfl; omega) dX12_setsCell_42 rfl ?_
  refine xb_ti (y := μ.1 135 (μ.1 111 53 - 1)) (sv_n _ (fun h9 => absurd h9.1 (by decide))) ?_
  have hr_5 : -2147483648 ≤ μ.1 135 (μ.1 111 53 - 1) ∧ μ.1 135 (μ.1 111 53 - 1) ≤ 2147483647 := by have h9 := G.hr3 (a := 135) (k := (μ.1 111 53) - 1) rfl; rw [(sv_n _ (fun h9 => absurd h9.1 (by decide)))] at h9; exact h9
  refine lv_istore (lv' := [(4, .int (iv (μ.1 135 (μ.1 111 53 - 1)))), (3, .int (iv (μ.1 135 (μ.1 111 53 - 2)))), (2, .int (iv (μ.1 135 (μ.1 111 53 - 3)))), (0, .ref (oP ω 111)), (1, .int (iv x1))]) hx hb dX12_setsCell_43 hl (by decide) rfl (fun ls hl => ?_)
  refine lv_aload_n hx hb dX12_setsCell_45 rfl (lv_at hl 3 rfl) ?_
  refine xa_getr G fd_X12 (a := 111) (x := 136) 52 rfl (by decide) rfl (wm 7 201 rfl rfl) ⟨rfl, rfl, rfl⟩ dX12_setsCell_46 rfl (G.sk 134 rfl) (by decide) rfl ?_
  refine lv_aload_n hx hb dX12_setsCell_49 rfl (lv_at hl 3 rfl) ?_
  refine xa_geti G fd_X12 (a := 111) (x := (μ.1 111 53) - 3) 53 rfl (by decide) rfl (wm 7 202 rfl rfl) ⟨rfl, rfl, rfl⟩ dX12_setsCell_50 rfl (sv_s _ _ _ _) ?_
  refine lv_iconst (v := iv 2) hx hb dX12_setsCell_53 rfl ?_
  refine xb_iadd hx hb dX12_setsCell_54 ?_
  refine xb_ti (y := (μ.1 111 53) - 1) (by omega) ?_
  refine xa_lald G (a := 136) (i := (μ.1 111 53) - 1) rfl (by have h9 := G.lc (a := 136) (n := 9000) 74 rfl; omega) dX12_setsCell_55 rfl ?_
  refine xb_tl (y := μ.1 136 (μ.1 111 53 - 1)) (sv_n _ (fun h9 => absurd h9.1 (by decide))) ?_
  have hj_6 : jr (μ.1 136 (μ.1 111 53 - 1)) := (by have h9 := G.hj (a := 136) (k := (μ.1 111 53) - 1) rfl; rw [(sv_n _ (fun h9 => absurd h9.1 (by decide)))] at h9; exact h9)
  refine lv_lstore (lv' := [(5, .long (jv (μ.1 136 (μ.1 111 53 - 1)))), (4, .int (iv (μ.1 135 (μ.1 111 53 - 1)))), (3, .int (iv (μ.1 135 (μ.1 111 53 - 2)))), (2, .int (iv (μ.1 135 (μ.1 111 53 - 3)))), (0, .ref (oP ω 111)), (1, .int (iv x1))]) hx hb dX12_setsCell_56 hl (by decide) rfl (fun ls hl => ?_)
  refine lv_iload_n hx hb dX12_setsCell_58 rfl (lv_at hl 3 rfl) ?_
  refine lv_iconst (v := iv 4) hx hb dX12_setsCell_59 rfl ?_
  refine xb_icmp_eq (tgt := 73) hx hb (by unfold ir; omega) (by unfold ir; omega) dX12_setsCell_60 (by decide) (fun c_60 => ?_) (fun c_60 => ?_)
  · refine lv_aload_n hx hb dX12_setsCell_73 rfl (lv_at hl 4 rfl) ?_
    refine lv_iconst (v := iv 1) hx hb dX12_setsCell_74 rfl ?_
    refine lv_iconst (v := iv 4) hx hb dX12_setsCell_75 rfl ?_
    refine lv_iload_n hx hb dX12_setsCell_76 rfl (lv_at hl 3 rfl) ?_
    refine lv_iconst (v := iv 4) hx hb dX12_setsCell_77 rfl ?_
    refine xb_icmp_ne (tgt := 93) hx hb (by unfold ir; omega) (by unfold ir; omega) dX12_setsCell_78 (by decide) (fun c_78 => ?_) (fun c_78 => ?_)
    · refine lv_aload_n hx hb dX12_setsCell_93 rfl (lv_at hl 4 rfl) ?_
      refine xa_getr G fd_X12 (a := 111) (x := 136) 52 rfl (by decide) rfl (wm 7 201 rfl rfl) ⟨rfl, rfl, rfl⟩ dX12_setsCell_94 rfl (G.sk 134 rfl) (by decide) rfl ?_
      refine lv_aload_n hx hb dX12_setsCell_97 rfl (lv_at hl 4 rfl) ?_
      refine xa_geti G fd_X12 (a := 111) (x := (μ.1 111 53) - 3) 53 rfl (by decide) rfl (wm 7 202 rfl rfl) ⟨rfl, rfl, rfl⟩ dX12_setsCell_98 rfl (sv_s _ _ _ _) ?_
      refine lv_iconst (v := iv 1) hx hb dX12_setsCell_101 rfl ?_
      refine xb_iadd hx hb dX12_setsCell_102 ?_
      refine xb_ti (y := (μ.1 111 53) - 2) (by omega) ?_
      refine xa_lald G (a := 136) (i := (μ.1 111 53) - 2) rfl (by have h9 := G.lc (a := 136) (n := 9000) 74 rfl; omega) dX12_setsCell_103 rfl ?_
      refine xb_tl (y := μ.1 136 (μ.1 111 53 - 2)) (sv_n _ (fun h9 => absurd h9.1 (by decide))) ?_
      have hj_7 : jr (μ.1 136 (μ.1 111 53 - 2)) := (by have h9 := G.hj (a := 136) (k := (μ.1 111 53) - 2) rfl; rw [(sv_n _ (fun h9 => absurd h9.1 (by decide)))] at h9; exact h9)
      have e_8 : (sv μ 111 53 ((μ.1 111 53) - 3)).1 111 83 = μ.1 111 83 := (sv_n _ (by decide))
      have hrx_9 := RX.eq (μ := μ) (ν := (sv μ 111 53 ((μ.1 111 53) - 3))) (Eqa.fr (L := [111]) (FrM.put FrM.rf (by decide)) (by decide)) (Eqf.fd (L := [53]) (fun j hj => (sv_n _ (fun h9 => hj (by rw [h9.2]; decide)))) (by decide))
      have e_10 : (sv μ 111 53 ((μ.1 111 53) - 3)).1 111 94 = μ.1 111 94 := (sv_n _ (by decide))
      have e_11 : (sv μ 111 53 ((μ.1 111 53) - 3)).1 111 47 = n := ((sv_n _ (by decide)).trans hn.symm)
      have hMZ_12 : MZ (sv μ 111 53 ((μ.1 111 53) - 3)) := MZ.mn1 hMZ (n := n) (s := μ.1 131 (n - 1)) (hn.symm) (by have h9 : μ.1 131 (n - 1) = μ.1 131 (n - 1) := rfl; exact h9) (by omega) (by have h9 : μ.1 111 53 = μ.1 111 53 := rfl; omega)
      have e_13 : (sv μ 111 53 ((μ.1 111 53) - 3)).1 111 94 = μ.1 111 94 := (sv_n _ (by decide))
      refine xc_vV G (b := 111) (rest := []) (As := [.int (iv 1), .int (iv 4), .long (jv (μ.1 136 (μ.1 111 53 - 2)))]) (c_X12_unwinds_a ω l (sv μ 111 53 ((μ.1 111 53) - 3)) 1 4 (μ.1 136 (μ.1 111 53 - 2)) n (by unfold ir; omega) (by unfold ir; omega) hj_7 (by omega) hMZ_12 (by omega) (by omega) (by omega) (fun _ => VV.n4 (by rw [(show (sv μ 111 53 ((μ.1 111 53) - 3)).1 111 82 = μ.1 111 82 from (sv_n _ (by decide)))]; exact hsv2_.2.2.2 (by omega))) (fun h9 => absurd h9 (by decide))) (wm 10 135 rfl rfl) (wm 10 137 rfl rfl) (wm 0 197 rfl rfl) rfl rfl (by decide) rfl (wm 1 18 rfl rfl) (wm 10 138 rfl rfl) (by decide) hR (by decide) (n := 3) rfl rfl (Nat.le_of_ble_eq_true rfl) hl.1 dX12_setsCell_104 (fun μ14 ρ d0 H locs hp G => ?_)
      obtain ⟨F_15, hp_16, hp_17⟩ := hp
      exact xr_v G hret hlk dX12_setsCell_107 ⟨(FrM.tr (FrM.put FrM.rf (by decide)) F_15 (by decide)), (fun j hj => ((hp_16 j (fun h9 => hj ((by decide : ∀ x ∈ ([47, 53, 61, 81, 82, 83, 84, 90, 91, 93, 94, 95, 96, 97, 98, 99] : List Int), x ∈ ([47, 53, 61, 81, 82, 83, 84, 90, 91, 93, 94, 95, 96, 97, 98, 99] : List Int)) j h9))).trans (sv_n _ (fun h9 => hj (by rw [h9.2]; decide))))), (hp_17.le (by omega))⟩
    · refine lv_aload_n hx hb dX12_setsCell_81 rfl (lv_at hl 4 rfl) ?_
      refine xa_getr G fd_X12 (a := 111) (x := 136) 52 rfl (by decide) rfl (wm 7 201 rfl rfl) ⟨rfl, rfl, rfl⟩ dX12_setsCell_82 rfl (G.sk 134 rfl) (by decide) rfl ?_
      refine lv_aload_n hx hb dX12_setsCell_85 rfl (lv_at hl 4 rfl) ?_
      refine xa_geti G fd_X12 (a := 111) (x := (μ.1 111 53) - 3) 53 rfl (by decide) rfl (wm 7 202 rfl rfl) ⟨rfl, rfl, rfl⟩ dX12_setsCell_86 rfl (sv_s _ _ _ _) ?_
      refine xa_lald G (a := 136) (i := (μ.1 111 53) - 3) rfl (by have h9 := G.lc (a := 136) (n := 9000) 74 rfl; omega) dX12_setsCell_89 rfl ?_
      refine xb_tl (y := μ.1 136 (μ.1 111 53 - 3)) (sv_n _ (fun h9 => absurd h9.1 (by decide))) ?_
      have hj_18 : jr (μ.1 136 (μ.1 111 53 - 3)) := (by have h9 := G.hj (a := 136) (k := (μ.1 111 53) - 3) rfl; rw [(sv_n _ (fun h9 => absurd h9.1 (by decide)))] at h9; exact h9)
      refine lv_goto (tgt := 104) hx hb dX12_setsCell_90 (by decide) ?_
      have e_19 : (sv μ 111 53 ((μ.1 111 53) - 3)).1 111 83 = μ.1 111 83 := (sv_n _ (by decide))
      have hrx_20 := RX.eq (μ := μ) (ν := (sv μ 111 53 ((μ.1 111 53) - 3))) (Eqa.fr (L := [111]) (FrM.put FrM.rf (by decide)) (by decide)) (Eqf.fd (L := [53]) (fun j hj => (sv_n _ (fun h9 => hj (by rw [h9.2]; decide)))) (by decide))
      have e_21 : (sv μ 111 53 ((μ.1 111 53) - 3)).1 111 94 = μ.1 111 94 := (sv_n _ (by decide))
      have e_22 : (sv μ 111 53 ((μ.1 111 53) - 3)).1 111 47 = n := ((sv_n _ (by decide)).trans hn.symm)
      have hMZ_23 : MZ (sv μ 111 53 ((μ.1 111 53) - 3)) := MZ.mn1 hMZ (n := n) (s := μ.1 131 (n - 1)) (hn.symm) (by have h9 : μ.1 131 (n - 1) = μ.1 131 (n - 1) := rfl; exact h9) (by omega) (by have h9 : μ.1 111 53 = μ.1 111 53 := rfl; omega)
      have e_24 : (sv μ 111 53 ((μ.1 111 53) - 3)).1 111 94 = μ.1 111 94 := (sv_n _ (by decide))
      refine xc_vV G (b := 111) (rest := []) (As := [.int (iv 1), .int (iv 4), .long (jv (μ.1 136 (μ.1 111 53 - 3)))]) (c_X12_unwinds_a ω l (sv μ 111 53 ((μ.1 111 53) - 3)) 1 4 (μ.1 136 (μ.1 111 53 - 3)) n (by unfold ir; omega) (by unfold ir; omega) hj_18 (by omega) hMZ_23 (by omega) (by omega) (by omega) (fun _ => VV.n4 (by rw [(show (sv μ 111 53 ((μ.1 111 53) - 3)).1 111 82 = μ.1 111 82 from (sv_n _ (by decide)))]; exact hsv3_.2.2.2 (by omega))) (fun h9 => absurd h9 (by decide))) (wm 10 135 rfl rfl) (wm 10 137 rfl rfl) (wm 0 197 rfl rfl) rfl rfl (by decide) rfl (wm 1 18 rfl rfl) (wm 10 138 rfl rfl) (by decide) hR (by decide) (n := 3) rfl rfl (Nat.le_of_ble_eq_true rfl) hl.1 dX12_setsCell_104 (fun μ25 ρ d0 H locs hp G => ?_)
      obtain ⟨F_26, hp_27, hp_28⟩ := hp
      exact xr_v G hret hlk dX12_setsCell_107 ⟨(FrM.tr (FrM.put FrM.rf (by decide)) F_26 (by decide)), (fun j hj => ((hp_27 j (fun h9 => hj ((by decide : ∀ x ∈ ([47, 53, 61, 81, 82, 83, 84, 90, 91, 93, 94, 95, 96, 97, 98, 99] : List Int), x ∈ ([47, 53, 61, 81, 82, 83, 84, 90, 91, 93, 94, 95, 96, 97, 98, 99] : List Int)) j h9))).trans (sv_n _ (fun h9 => hj (by rw [h9.2]; decide))))), (hp_28.le (by omega))⟩
  · refine lv_iload_n hx hb dX12_setsCell_63 rfl (lv_at hl 2 rfl) ?_
    refine lv_iconst (v := iv 4) hx hb dX12_setsCell_64 rfl ?_
    refine xb_icmp_ne (tgt := 108) hx hb (by unfold ir; omega) (by unfold ir; omega) dX12_setsCell_65 (by decide) (fun c_65 => ?_) (fun c_65 => ?_)
    · refine lv_iload_n hx hb dX12_setsCell_108 rfl (lv_at hl 3 rfl) ?_
      refine lv_iconst (v := iv 2) hx hb dX12_setsCell_109 rfl ?_
      refine xb_icmp_ne (tgt := 118) hx hb (by unfold ir; omega) (by unfold ir; omega) dX12_setsCell_110 (by decide) (fun c_110 => ?_) (fun c_110 => ?_)
      · refine lv_aload_n hx hb dX12_setsCell_118 rfl (lv_at hl 4 rfl) ?_
        refine lv_iload_n hx hb dX12_setsCell_119 rfl (lv_at hl 3 rfl) ?_
        refine xb_if_ne (tgt := 127) hx hb (by unfold ir; omega) dX12_setsCell_120 (by decide) (fun c_120 => ?_) (fun c_120 => ?_)
        · refine lv_iconst (v := iv 4) hx hb dX12_setsCell_127 rfl ?_
          have e_29 : (sv μ 111 53 ((μ.1 111 53) - 3)).1 111 4 = μ.1 111 4 := (sv_n _ (by decide))
          have e_30 : (sv μ 111 53 ((μ.1 111 53) - 3)).1 111 83 = μ.1 111 83 := (sv_n _ (by decide))
          have hrx_31 := RX.eq (μ := μ) (ν := (sv μ 111 53 ((μ.1 111 53) - 3))) (Eqa.fr (L := [111]) (FrM.put FrM.rf (by decide)) (by decide)) (Eqf.fd (L := [53]) (fun j hj => (sv_n _ (fun h9 => hj (by rw [h9.2]; decide)))) (by decide))
          have e_32 : (sv μ 111 53 ((μ.1 111 53) - 3)).1 111 94 = μ.1 111 94 := (sv_n _ (by decide))
          have e_33 : (sv μ 111 53 ((μ.1 111 53) - 3)).1 111 47 = n := ((sv_n _ (by decide)).trans hn.symm)
          have hMZ_34 : MZ (sv μ 111 53 ((μ.1 111 53) - 3)) := MZ.mn1 hMZ (n := n) (s := μ.1 131 (n - 1)) (hn.symm) (by have h9 : μ.1 131 (n - 1) = μ.1 131 (n - 1) := rfl; exact h9) (by omega) (by have h9 : μ.1 111 53 = μ.1 111 53 := rfl; omega)
          have e_35 : (sv μ 111 53 ((μ.1 111 53) - 3)).1 111 94 = μ.1 111 94 := (sv_n _ (by decide))
          have e_36 : (sv μ 111 53 ((μ.1 111 53) - 3)).1 111 53 = (μ.1 111 53) - 3 := (sv_s _ _ _ _)
          refine xc_vV G (b := 111) (rest := []) (As := [.int (iv 4)]) (c_X12_arisesHere ω l (sv μ 111 53 ((μ.1 111 53) - 3)) 4 n (by unfold ir; omega) (by omega) hMZ_34 (by omega) (by omega) (fun _ => by omega) (by omega)) (wm 10 207 rfl rfl) (wm 10 209 rfl rfl) (wm 0 215 rfl rfl) rfl rfl (by decide) rfl (wm 1 18 rfl rfl) (wm 10 210 rfl rfl) (by decide) hR (by decide) (n := 1) rfl rfl (Nat.le_of_ble_eq_true rfl) hl.1 dX12_setsCell_128 (fun μ37 ρ d0 H locs hp G => ?_)
          obtain ⟨F_38, hp_39, hp_40⟩ := hp
          exact xr_v G hret hlk dX12_setsCell_131 ⟨(FrM.tr (FrM.put FrM.rf (by decide)) F_38 (by decide)), (fun j hj => ((hp_39 j (fun h9 => hj ((by decide : ∀ x ∈ ([47, 53, 61, 81, 82, 83, 84, 90, 91, 93, 94, 95, 96, 97, 98, 99] : List Int), x ∈ ([47, 53, 61, 81, 82, 83, 84, 90, 91, 93, 94, 95, 96, 97, 98, 99] : List Int)) j h9))).trans (sv_n _ (fun h9 => hj (by rw [h9.2]; decide))))), (hp_40.le (by omega))⟩
        · refine lv_iconst (v := iv 3) hx hb dX12_setsCell_123 rfl ?_
          refine lv_goto (tgt := 128) hx hb dX12_setsCell_124 (by decide) ?_
          have e_41 : (sv μ 111 53 ((μ.1 111 53) - 3)).1 111 4 = μ.1 111 4 := (sv_n _ (by decide))
          have e_42 : (sv μ 111 53 ((μ.1 111 53) - 3)).1 111 83 = μ.1 111 83 := (sv_n _ (by decide))
          have hrx_43 := RX.eq (μ := μ) (ν := (sv μ 111 53 ((μ.1 111 53) - 3))) (Eqa.fr (L := [111]) (FrM.put FrM.rf (by decide)) (by decide)) (Eqf.fd (L := [53]) (fun j hj => (sv_n _ (fun h9 => hj (by rw [h9.2]; decide)))) (by decide))
          have e_44 : (sv μ 111 53 ((μ.1 111 53) - 3)).1 111 94 = μ.1 111 94 := (sv_n _ (by decide))
          have e_45 : (sv μ 111 53 ((μ.1 111 53) - 3)).1 111 47 = n := ((sv_n _ (by decide)).trans hn.symm)
          have hMZ_46 : MZ (sv μ 111 53 ((μ.1 111 53) - 3)) := MZ.mn1 hMZ (n := n) (s := μ.1 131 (n - 1)) (hn.symm) (by have h9 : μ.1 131 (n - 1) = μ.1 131 (n - 1) := rfl; exact h9) (by omega) (by have h9 : μ.1 111 53 = μ.1 111 53 := rfl; omega)
          have e_47 : (sv μ 111 53 ((μ.1 111 53) - 3)).1 111 94 = μ.1 111 94 := (sv_n _ (by decide))
          have e_48 : (sv μ 111 53 ((μ.1 111 53) - 3)).1 111 53 = (μ.1 111 53) - 3 := (sv_s _ _ _ _)
          refine xc_vV G (b := 111) (rest := []) (As := [.int (iv 3)]) (c_X12_arisesHere ω l (sv μ 111 53 ((μ.1 111 53) - 3)) 3 n (by unfold ir; omega) (by omega) hMZ_46 (by omega) (by omega) (fun _ => by omega) (by omega)) (wm 10 207 rfl rfl) (wm 10 209 rfl rfl) (wm 0 215 rfl rfl) rfl rfl (by decide) rfl (wm 1 18 rfl rfl) (wm 10 210 rfl rfl) (by decide) hR (by decide) (n := 1) rfl rfl (Nat.le_of_ble_eq_true rfl) hl.1 dX12_setsCell_128 (fun μ49 ρ d0 H locs hp G => ?_)
          obtain ⟨F_50, hp_51, hp_52⟩ := hp
          exact xr_v G hret hlk dX12_setsCell_131 ⟨(FrM.tr (FrM.put FrM.rf (by decide)) F_50 (by decide)), (fun j hj => ((hp_51 j (fun h9 => hj ((by decide : ∀ x ∈ ([47, 53, 61, 81, 82, 83, 84, 90, 91, 93, 94, 95, 96, 97, 98, 99] : List Int), x ∈ ([47, 53, 61, 81, 82, 83, 84, 90, 91, 93, 94, 95, 96, 97, 98, 99] : List Int)) j h9))).trans (sv_n _ (fun h9 => hj (by rw [h9.2]; decide))))), (hp_52.le (by omega))⟩
      · refine lv_iload_n hx hb dX12_setsCell_113 rfl (lv_at hl 2 rfl) ?_
        refine lv_iconst (v := iv 1) hx hb dX12_setsCell_114 rfl ?_
        refine xb_icmp_eq (tgt := 132) hx hb (by unfold ir; omega) (by unfold ir; omega) dX12_setsCell_115 (by decide) (fun c_115 => ?_) (fun c_115 => ?_)
        · have hs2_ := hsv3_.2.1 (by omega)
          have har_ := hMZ.ar _ hs2_.1 hs2_.2
          refine lv_aload_n hx hb dX12_setsCell_132 rfl (lv_at hl 4 rfl) ?_
          refine xa_getr G fd_X12 (a := 111) (x := 136) 52 rfl (by decide) rfl (wm 7 201 rfl rfl) ⟨rfl, rfl, rfl⟩ dX12_setsCell_133 rfl (G.sk 134 rfl) (by decide) rfl ?_
          refine lv_aload_n hx hb dX12_setsCell_136 rfl (lv_at hl 4 rfl) ?_
          refine xa_geti G fd_X12 (a := 111) (x := (μ.1 111 53) - 3) 53 rfl (by decide) rfl (wm 7 202 rfl rfl) ⟨rfl, rfl, rfl⟩ dX12_setsCell_137 rfl (sv_s _ _ _ _) ?_
          refine xa_lald G (a := 136) (i := (μ.1 111 53) - 3) rfl (by have h9 := G.lc (a := 136) (n := 9000) 74 rfl; omega) dX12_setsCell_140 rfl ?_
          refine xb_tl (y := μ.1 136 (μ.1 111 53 - 3)) (sv_n _ (fun h9 => absurd h9.1 (by decide))) ?_
          have hj_53 : jr (μ.1 136 (μ.1 111 53 - 3)) := (by have h9 := G.hj (a := 136) (k := (μ.1 111 53) - 3) rfl; rw [(sv_n _ (fun h9 => absurd h9.1 (by decide)))] at h9; exact h9)
          refine xb_l2i hx hb dX12_setsCell_141 ?_
          refine xb_topi (fun y_54 hr_y_54 he_y_54 => ?_)
          have hr_y_54 : -2147483648 ≤ y_54 ∧ y_54 ≤ 2147483647 := hr_y_54
          have hli_y_54 : ir (μ.1 136 (μ.1 111 53 - 3)) → y_54 = μ.1 136 (μ.1 111 53 - 3) := fun h9 => (iv_eq hr_y_54 h9).mp he_y_54
          unfold ir at hli_y_54
          refine xb_ti (y := μ.1 136 (μ.1 111 53 - 3)) (hli_y_54 (by omega)) ?_
          have hr_55 : -2147483648 ≤ μ.1 136 (μ.1 111 53 - 3) ∧ μ.1 136 (μ.1 111 53 - 3) ≤ 2147483647 := by omega
          refine lv_istore (lv' := [(7, .int (iv (μ.1 136 (μ.1 111 53 - 3)))), (5, .long (jv (μ.1 136 (μ.1 111 53 - 1)))), (4, .int (iv (μ.1 135 (μ.1 111 53 - 1)))), (3, .int (iv (μ.1 135 (μ.1 111 53 - 2)))), (2, .int (iv (μ.1 135 (μ.1 111 53 - 3)))), (0, .ref (oP ω 111)), (1, .int (iv x1))]) hx hb dX12_setsCell_142 hl (by decide) rfl (fun ls hl => ?_)
          refine lv_aload_n hx hb dX12_setsCell_144 rfl (lv_at hl 5 rfl) ?_
          refine lv_iload_n hx hb dX12_setsCell_145 rfl (lv_at hl 6 rfl) ?_
          refine lv_aload_n hx hb dX12_setsCell_146 rfl (lv_at hl 5 rfl) ?_
          refine xa_getr G fd_X12 (a := 111) (x := 136) 52 rfl (by decide) rfl (wm 7 201 rfl rfl) ⟨rfl, rfl, rfl⟩ dX12_setsCell_147 rfl (G.sk 134 rfl) (by decide) rfl ?_
          refine lv_aload_n hx hb dX12_setsCell_150 rfl (lv_at hl 5 rfl) ?_
          refine xa_geti G fd_X12 (a := 111) (x := (μ.1 111 53) - 3) 53 rfl (by decide) rfl (wm 7 202 rfl rfl) ⟨rfl, rfl, rfl⟩ dX12_setsCell_151 rfl (sv_s _ _ _ _) ?_
          refine lv_iconst (v := iv 1) hx hb dX12_setsCell_154 rfl ?_
          refine xb_iadd hx hb dX12_setsCell_155 ?_
          refine xb_ti (y := (μ.1 111 53) - 2) (by omega) ?_
          refine xa_lald G (a := 136) (i := (μ.1 111 53) - 2) rfl (by have h9 := G.lc (a := 136) (n := 9000) 74 rfl; omega) dX12_setsCell_156 rfl ?_
          refine xb_tl (y := μ.1 136 (μ.1 111 53 - 2)) (sv_n _ (fun h9 => absurd h9.1 (by decide))) ?_
          have hj_56 : jr (μ.1 136 (μ.1 111 53 - 2)) := (by have h9 := G.hj (a := 136) (k := (μ.1 111 53) - 2) rfl; rw [(sv_n _ (fun h9 => absurd h9.1 (by decide)))] at h9; exact h9)
          refine lv_aload_n hx hb dX12_setsCell_157 rfl (lv_at hl 5 rfl) ?_
          refine xa_getr G fd_X12 (a := 111) (x := 145) 63 rfl (by decide) rfl (wm 7 212 rfl rfl) ⟨rfl, rfl, rfl⟩ dX12_setsCell_158 rfl (G.sk 143 rfl) (by decide) rfl ?_
          refine lv_iload hx hb dX12_setsCell_161 (lv_at hl 0 rfl) ?_
          refine xa_iald G (a := 145) (i := μ.1 136 (μ.1 111 53 - 3)) rfl (by have h9 := G.lc (a := 145) (n := 20100) 83 rfl; omega) dX12_setsCell_163 rfl ?_
          refine xb_ti (y := μ.1 145 (μ.1 136 (μ.1 111 53 - 3))) (sv_n _ (fun h9 => absurd h9.1 (by decide))) ?_
          have hr_57 : -2147483648 ≤ μ.1 145 (μ.1 136 (μ.1 111 53 - 3)) ∧ μ.1 145 (μ.1 136 (μ.1 111 53 - 3)) ≤ 2147483647 := by have h9 := G.hr (a := 145) (k := μ.1 136 (μ.1 111 53 - 3)) rfl; rw [(sv_n _ (fun h9 => absurd h9.1 (by decide)))] at h9; exact h9
          refine lv_iconst (v := iv 1) hx hb dX12_setsCell_164 rfl ?_
          refine xb_isub hx hb dX12_setsCell_165 ?_
          have e_58 : (sv μ 111 53 ((μ.1 111 53) - 3)).1 136 (μ.1 111 53 - 3) = μ.1 136 (μ.1 111 53 - 3) := (sv_n _ (fun h9 => absurd h9.1 (by decide)))
          have e_59 : (sv μ 111 53 ((μ.1 111 53) - 3)).1 136 (μ.1 111 53 - 3) = μ.1 136 (μ.1 111 53 - 3) := (sv_n _ (fun h9 => absurd h9.1 (by decide)))
          have e_60 : (sv μ 111 53 ((μ.1 111 53) - 3)).1 136 (μ.1 111 53 - 3) = μ.1 136 (μ.1 111 53 - 3) := (sv_n _ (fun h9 => absurd h9.1 (by decide)))
          refine xc_iV G (b := 111) (rest := []) (As := [.int (iv x1), .long (jv (μ.1 136 (μ.1 111 53 - 2))), .int (iv ((μ.1 145 (μ.1 136 (μ.1 111 53 - 3))) - 1))]) (c_X12_indexOf ω l (sv μ 111 53 ((μ.1 111 53) - 3)) x1 (μ.1 136 (μ.1 111 53 - 2)) ((μ.1 145 (μ.1 136 (μ.1 111 53 - 3))) - 1) (by unfold ir; omega) hj_56 (by unfold ir; omega) (by omega)) (wm 10 211 rfl rfl) (wm 10 213 rfl rfl) (wm 0 216 rfl rfl) rfl rfl (by decide) rfl (wm 1 18 rfl rfl) (wm 10 214 rfl rfl) (by decide) hR (by decide) (n := 3) rfl rfl (Nat.le_of_ble_eq_true rfl) hl.1 dX12_setsCell_166 (fun r_62 μ61 ρ d0 H locs hr_r_62 hp G => ?_)
          have hr_r_62 : -2147483648 ≤ r_62 ∧ r_62 ≤ 2147483647 := hr_r_62
          obtain ⟨hsm_63, hp_64⟩ := hp
          have hsm_63 := Eq.symm hsm_63
          subst hsm_63
          refine lv_istore (lv' := [(8, .int (iv r_62)), (7, .int (iv (μ.1 136 (μ.1 111 53 - 3)))), (5, .long (jv (μ.1 136 (μ.1 111 53 - 1)))), (4, .int (iv (μ.1 135 (μ.1 111 53 - 1)))), (3, .int (iv (μ.1 135 (μ.1 111 53 - 2)))), (2, .int (iv (μ.1 135 (μ.1 111 53 - 3)))), (0, .ref (oP ω 111)), (1, .int (iv x1))]) hx hb dX12_setsCell_169 hl (by decide) rfl (fun ls hl => ?_)
          refine lv_iload hx hb dX12_setsCell_171 (lv_at hl 0 rfl) ?_
          refine lv_iconst (v := iv (-1)) hx hb dX12_setsCell_173 rfl ?_
          refine xb_icmp_ne (tgt := 183) hx hb (by unfold ir; omega) (by unfold ir; omega) dX12_setsCell_174 (by decide) (fun c_174 => ?_) (fun c_174 => ?_)
          · refine lv_iload hx hb dX12_setsCell_183 (lv_at hl 3 rfl) ?_
            refine lv_iconst (v := iv 4) hx hb dX12_setsCell_185 rfl ?_
            refine xb_icmp_ne (tgt := 198) hx hb (by unfold ir; omega) (by unfold ir; omega) dX12_setsCell_186 (by decide) (fun c_186 => ?_) (fun c_186 => ?_)
            · refine lv_aload_n hx hb dX12_setsCell_198 rfl (lv_at hl 6 rfl) ?_
              refine lv_iload_n hx hb dX12_setsCell_199 rfl (lv_at hl 7 rfl) ?_
              refine lv_aload_n hx hb dX12_setsCell_200 rfl (lv_at hl 6 rfl) ?_
              refine xa_getr G fd_X12 (a := 111) (x := 146) 64 rfl (by decide) rfl (wm 7 213 rfl rfl) ⟨rfl, rfl, rfl⟩ dX12_setsCell_201 rfl (G.sk 144 rfl) (by decide) rfl ?_
              refine lv_iload hx hb dX12_setsCell_204 (lv_at hl 1 rfl) ?_
              refine xa_iald G (a := 146) (i := μ.1 136 (μ.1 111 53 - 3)) rfl (by have h9 := G.lc (a := 146) (n := 20100) 84 rfl; omega) dX12_setsCell_206 rfl ?_
              refine xb_ti (y := μ.1 146 (μ.1 136 (μ.1 111 53 - 3))) (sv_n _ (fun h9 => absurd h9.1 (by decide))) ?_
              have hr_65 : -2147483648 ≤ μ.1 146 (μ.1 136 (μ.1 111 53 - 3)) ∧ μ.1 146 (μ.1 136 (μ.1 111 53 - 3)) ≤ 2147483647 := by have h9 := G.hr (a := 146) (k := μ.1 136 (μ.1 111 53 - 3)) rfl; rw [(sv_n _ (fun h9 => absurd h9.1 (by decide)))] at h9; exact h9
              refine lv_iload hx hb dX12_setsCell_207 (lv_at hl 3 rfl) ?_
              refine lv_lload hx hb dX12_setsCell_209 (lv_at hl 2 rfl) ?_
              have e_66 : (sv μ 111 53 ((μ.1 111 53) - 3)).1 136 (μ.1 111 53 - 3) = μ.1 136 (μ.1 111 53 - 3) := (sv_n _ (fun h9 => absurd h9.1 (by decide)))
              have e_67 : (sv μ 111 53 ((μ.1 111 53) - 3)).1 136 (μ.1 111 53 - 3) = μ.1 136 (μ.1 111 53 - 3) := (sv_n _ (fun h9 => absurd h9.1 (by decide)))
              refine xc_vV G (b := 111) (rest := []) (As := [.int (iv x1), .int (iv (μ.1 146 (μ.1 136 (μ.1 111 53 - 3)))), .int (iv (μ.1 135 (μ.1 111 53 - 1))), .long (jv (μ.1 136 (μ.1 111 53 - 1)))]) (c_X12_turnsValue ω l (sv μ 111 53 ((μ.1 111 53) - 3)) x1 (μ.1 146 (μ.1 136 (μ.1 111 53 - 3))) (μ.1 135 (μ.1 111 53 - 1)) (μ.1 136 (μ.1 111 53 - 1)) (by unfold ir; omega) (by unfold ir; omega) (by unfold ir; omega) hj_6 (by omega) (by omega)) (wm 10 179 rfl rfl) (wm 10 181 rfl rfl) (wm 0 208 rfl rfl) rfl rfl (by decide) rfl (wm 1 18 rfl rfl) (wm 10 182 rfl rfl) (by decide) hR (by decide) (n := 4) rfl rfl (Nat.le_of_ble_eq_true rfl) hl.1 dX12_setsCell_211 (fun μ68 ρ d0 H locs hp G => ?_)
              obtain ⟨F_69, hp_70, hp_71⟩ := hp
              refine lv_aload_n hx hb dX12_setsCell_214 rfl (lv_at hl 6 rfl) ?_
              refine xa_geti G fd_X12 (a := 111) (x := μ68.1 111 98) 98 rfl (by decide) rfl (wm 8 7 rfl rfl) ⟨rfl, rfl, rfl⟩ dX12_setsCell_215 rfl rfl ?_
              have hr_72 : -2147483648 ≤ μ68.1 111 98 ∧ μ68.1 111 98 ≤ 2147483647 := by have h9 := G.hr (a := 111) (k := 98) rfl; exact h9
              refine xb_if_ne (tgt := 227) hx hb (by unfold ir; omega) dX12_setsCell_218 (by decide) (fun c_218 => ?_) (fun c_218 => ?_)
              · refine lv_aload_n hx hb dX12_setsCell_227 rfl (lv_at hl 6 rfl) ?_
                refine xa_getr G fd_X12 (a := 111) (x := 147) 66 rfl (by decide) rfl (wm 7 215 rfl rfl) ⟨rfl, rfl, rfl⟩ dX12_setsCell_228 rfl (G.sk 145 rfl) (by decide) rfl ?_
                refine lv_aload_n hx hb dX12_setsCell_231 rfl (lv_at hl 6 rfl) ?_
                refine xa_getr G fd_X12 (a := 111) (x := 144) 62 rfl (by decide) rfl (wm 7 211 rfl rfl) ⟨rfl, rfl, rfl⟩ dX12_setsCell_232 rfl (G.sk 142 rfl) (by decide) rfl ?_
                refine lv_iload hx hb dX12_setsCell_235 (lv_at hl 1 rfl) ?_
                refine xa_iald G (a := 144) (i := μ.1 136 (μ.1 111 53 - 3)) rfl (by have h9 := G.lc (a := 144) (n := 20100) 82 rfl; omega) dX12_setsCell_237 rfl ?_
                refine xb_ti (y := μ.1 144 (μ.1 136 (μ.1 111 53 - 3))) ((F_69.1 144 (by decide) (μ.1 136 (μ.1 111 53 - 3))).trans (sv_n _ (fun h9 => absurd h9.1 (by decide)))) ?_
                have hr_73 : -2147483648 ≤ μ.1 144 (μ.1 136 (μ.1 111 53 - 3)) ∧ μ.1 144 (μ.1 136 (μ.1 111 53 - 3)) ≤ 2147483647 := by have h9 := G.hr (a := 144) (k := μ.1 136 (μ.1 111 53 - 3)) rfl; rw [((F_69.1 144 (by decide) (μ.1 136 (μ.1 111 53 - 3))).trans (sv_n _ (fun h9 => absurd h9.1 (by decide))))] at h9; exact h9
                refine lv_iload hx hb dX12_setsCell_238 (lv_at hl 0 rfl) ?_
                refine xb_iadd hx hb dX12_setsCell_240 ?_
                refine lv_iload hx hb dX12_setsCell_241 (lv_at hl 3 rfl) ?_
                refine xb_i2bx hx hb (x := μ.1 135 (μ.1 111 53 - 1)) (by omega) dX12_setsCell_243 ?_
                refine xa_bast G (a := 147) (i := (μ.1 144 (μ.1 136 (μ.1 111 53 - 3))) + r_62) (x := μ.1 135 (μ.1 111 53 - 1)) rfl (by have h9 := G.lc (a := 147) (n := 20100) 85 rfl; omega) (by omega) dX12_setsCell_244 rfl (fun H locs G => ?_)
                refine lv_aload_n hx hb dX12_setsCell_245 rfl (lv_at hl 6 rfl) ?_
                refine xa_getr G fd_X12 (a := 111) (x := 148) 67 rfl (by decide) rfl (wm 7 216 rfl rfl) ⟨rfl, rfl, rfl⟩ dX12_setsCell_246 rfl (G.sk 146 rfl) (by decide) rfl ?_
                refine lv_aload_n hx hb dX12_setsCell_249 rfl (lv_at hl 6 rfl) ?_
                refine xa_getr G fd_X12 (a := 111) (x := 144) 62 rfl (by decide) rfl (wm 7 211 rfl rfl) ⟨rfl, rfl, rfl⟩ dX12_setsCell_250 rfl (G.sk 142 rfl) (by decide) rfl ?_
                refine lv_iload hx hb dX12_setsCell_253 (lv_at hl 1 rfl) ?_
                refine xa_iald G (a := 144) (i := μ.1 136 (μ.1 111 53 - 3)) rfl (by have h9 := G.lc (a := 144) (n := 20100) 82 rfl; omega) dX12_setsCell_255 rfl ?_
                refine xb_ti (y := μ.1 144 (μ.1 136 (μ.1 111 53 - 3))) ((sv_n _ (fun h9 => absurd h9.1 (by decide))).trans ((F_69.1 144 (by decide) (μ.1 136 (μ.1 111 53 - 3))).trans (sv_n _ (fun h9 => absurd h9.1 (by decide))))) ?_
                refine lv_iload hx hb dX12_setsCell_256 (lv_at hl 0 rfl) ?_
                refine xb_iadd hx hb dX12_setsCell_258 ?_
                refine lv_aload_n hx hb dX12_setsCell_259 rfl (lv_at hl 6 rfl) ?_
                refine xa_getl G fd_X12 (a := 111) (x := μ68.1 111 99) 99 rfl (by decide) rfl (wm 8 8 rfl rfl) ⟨rfl, rfl, rfl⟩ dX12_setsCell_260 rfl (sv_n _ (fun h9 => absurd h9.1 (by decide))) ?_
                have hj_74 : jr (μ68.1 111 99) := by have h9 := G.hj (a := 111) (k := 99) rfl; rw [show (sv μ68 147 ((μ.1 144 (μ.1 136 (μ.1 111 53 - 3))) + r_62) (μ.1 135 (μ.1 111 53 - 1))).1 111 99 = μ68.1 111 99 from (sv_n _ (fun h9 => absurd h9.1 (by decide)))] at h9; exact h9
                refine xa_last G (a := 148) (i := (μ.1 144 (μ.1 136 (μ.1 111 53 - 3))) + r_62) (x := μ68.1 111 99) rfl (by have h9 := G.lc (a := 148) (n := 20100) 86 rfl; omega) hj_74 dX12_setsCell_263 rfl (fun H locs G => ?_)
                have hMZ_75 : MZ (sv μ 111 53 ((μ.1 111 53) - 3)) := MZ.mn1 hMZ (n := n) (s := μ.1 131 (n - 1)) (hn.symm) (by have h9 : μ.1 131 (n - 1) = μ.1 131 (n - 1) := rfl; exact h9) (by omega) (by have h9 : μ.1 111 53 = μ.1 111 53 := rfl; omega)
                have hMZ_76 : MZ μ68 := MZ.cg hMZ_75 F_69 (by decide) (Eqf.fd hp_70 (by decide))
                have hMZ9_ := MZ.sc (ν := (sv (sv μ68 147 ((μ.1 144 (μ.1 136 (μ.1 111 53 - 3))) + r_62) (μ.1 135 (μ.1 111 53 - 1))) 148 ((μ.1 144 (μ.1 136 (μ.1 111 53 - 3))) + r_62) (μ68.1 111 99))) (j0 := (μ.1 144 (μ.1 136 (μ.1 111 53 - 3))) + r_62) hMZ_76 (Eqa.fr (L := [148, 147]) (FrM.put (FrM.put FrM.rf (by decide)) (by decide)) (by decide)) (Eqf.fd (L := []) (fun j hj => ((sv_n _ (fun h9 => absurd h9.1 (by decide))).trans (sv_n _ (fun h9 => absurd h9.1 (by decide))))) (by decide)) (fun j hj => ((sv_n _ (by omega)).trans (sv_n _ (by omega)))) (fun j hj => ((sv_n _ (by omega)).trans (sv_n _ (by omega)))) (by unfold vv; rw [(show μ68.1 111 65 = μ.1 111 65 from ((hp_70 65 (by decide)).trans (sv_n _ (by decide)))), (show μ68.1 111 82 = μ.1 111 82 from ((hp_70 82 (by decide)).trans (sv_n _ (by decide)))), show (sv (sv μ68 147 ((μ.1 144 (μ.1 136 (μ.1 111 53 - 3))) + r_62) (μ.1 135 (μ.1 111 53 - 1))) 148 ((μ.1 144 (μ.1 136 (μ.1 111 53 - 3))) + r_62) (μ68.1 111 99)).1 147 ((μ.1 144 (μ.1 136 (μ.1 111 53 - 3))) + r_62) = μ.1 135 (μ.1 111 53 - 1) from ((sv_n _ (fun h9 => absurd h9.1 (by decide))).trans (sv_s _ _ _ _)), show (sv (sv μ68 147 ((μ.1 144 (μ.1 136 (μ.1 111 53 - 3))) + r_62) (μ.1 135 (μ.1 111 53 - 1))) 148 ((μ.1 144 (μ.1 136 (μ.1 111 53 - 3))) + r_62) (μ68.1 111 99)).1 148 ((μ.1 144 (μ.1 136 (μ.1 111 53 - 3))) + r_62) = μ68.1 111 99 from (sv_s _ _ _ _)]; rcases Classical.em (μ.1 135 (μ.1 111 53 - 1) = 1) with h9 | h9; (rw [h9]; exact VV.n1); (rw [show μ68.1 111 99 = _ from (hp_71 h9).2]; exact hsv1_))
                have e_77 : (sv (sv μ68 147 ((μ.1 144 (μ.1 136 (μ.1 111 53 - 3))) + r_62) (μ.1 135 (μ.1 111 53 - 1))) 148 ((μ.1 144 (μ.1 136 (μ.1 111 53 - 3))) + r_62) (μ68.1 111 99)).1 111 83 = μ.1 111 83 := ((sv_n _ (fun h9 => absurd h9.1 (by decide))).trans ((sv_n _ (fun h9 => absurd h9.1 (by decide))).trans ((hp_70 83 (by decide)).trans (sv_n _ (by decide)))))
                have hrx_78 := RX.eq (μ := μ) (ν := (sv (sv μ68 147 ((μ.1 144 (μ.1 136 (μ.1 111 53 - 3))) + r_62) (μ.1 135 (μ.1 111 53 - 1))) 148 ((μ.1 144 (μ.1 136 (μ.1 111 53 - 3))) + r_62) (μ68.1 111 99))) (Eqa.fr (L := [148, 147, 111]) (FrM.put (FrM.put (FrM.tr (FrM.put FrM.rf (by decide)) F_69 (by decide)) (by decide)) (by decide)) (by decide)) (Eqf.fd (L := [53, 98, 99]) (fun j hj => ((sv_n _ (fun h9 => absurd h9.1 (by decide))).trans ((sv_n _ (fun h9 => absurd h9.1 (by decide))).trans ((hp_70 j (fun h9 => hj ((by decide : ∀ x ∈ ([98, 99] : List Int), x ∈ ([53, 98, 99] : List Int)) j h9))).trans (sv_n _ (fun h9 => hj (by rw [h9.2]; decide))))))) (by decide))
                exact xr_v G hret hlk dX12_setsCell_264 ⟨(FrM.put (FrM.put (FrM.tr (FrM.put FrM.rf (by decide)) F_69 (by decide)) (by decide)) (by decide)), (fun j hj => ((sv_n _ (fun h9 => absurd h9.1 (by decide))).trans ((sv_n _ (fun h9 => absurd h9.1 (by decide))).trans ((hp_70 j (fun h9 => hj ((by decide : ∀ x ∈ ([98, 99] : List Int), x ∈ ([47, 53, 61, 81, 82, 83, 84, 90, 91, 93, 94, 95, 96, 97, 98, 99] : List Int)) j h9))).trans (sv_n _ (fun h9 => hj (by rw [h9.2]; decide))))))), hMI.go (x := i + 1) (S := μ.1 111 53 + (-3)) (bl := μ.1 111 61) hMZ9_ ⟨(hMI.nx (e := -3) (by rw [ho]; unfold nxo; decide) (by rw [ho]; rfl)).1, (hMI.nx (e := -3) (by rw [ho]; unfold nxo; decide) (by rw [ho]; rfl)).2.trans (cem_n (by rw [ho]; unfold nxo; decide) (by rw [ho]; decide))⟩ (Eqa.fr (L := [148, 147, 111]) (FrM.put (FrM.put (FrM.tr (FrM.put FrM.rf (by decide)) F_69 (by decide)) (by decide)) (by decide)) (by decide)) (Eqf.fd (L := [53, 98, 99]) (fun j hj => ((sv_n _ (fun h9 => absurd h9.1 (by decide))).trans ((sv_n _ (fun h9 => absurd h9.1 (by decide))).trans ((hp_70 j (fun h9 => hj ((by decide : ∀ x ∈ ([98, 99] : List Int), x ∈ ([53, 98, 99] : List Int)) j h9))).trans (sv_n _ (fun h9 => hj (by rw [h9.2]; decide))))))) (by decide)) (by have h9 : (sv (sv μ68 147 ((μ.1 144 (μ.1 136 (μ.1 111 53 - 3))) + r_62) (μ.1 135 (μ.1 111 53 - 1))) 148 ((μ.1 144 (μ.1 136 (μ.1 111 53 - 3))) + r_62) (μ68.1 111 99)).1 129 (n - 1) = μ.1 129 (n - 1) := ((sv_n _ (fun h9 => absurd h9.1 (by decide))).trans ((sv_n _ (fun h9 => absurd h9.1 (by decide))).trans ((F_69.1 129 (by decide) (n - 1)).trans (sv_n _ (fun h9 => absurd h9.1 (by decide)))))); have h8 := hMI.2.2.2.2.2.1; omega) (by have h9 : (sv (sv μ68 147 ((μ.1 144 (μ.1 136 (μ.1 111 53 - 3))) + r_62) (μ.1 135 (μ.1 111 53 - 1))) 148 ((μ.1 144 (μ.1 136 (μ.1 111 53 - 3))) + r_62) (μ68.1 111 99)).1 111 53 = (μ.1 111 53) - 3 := ((sv_n _ (fun h9 => absurd h9.1 (by decide))).trans ((sv_n _ (fun h9 => absurd h9.1 (by decide))).trans ((hp_70 53 (by decide)).trans (sv_s _ _ _ _)))); omega) (by have h9 : (sv (sv μ68 147 ((μ.1 144 (μ.1 136 (μ.1 111 53 - 3))) + r_62) (μ.1 135 (μ.1 111 53 - 1))) 148 ((μ.1 144 (μ.1 136 (μ.1 111 53 - 3))) + r_62) (μ68.1 111 99)).1 111 61 = μ.1 111 61 := ((sv_n _ (fun h9 => absurd h9.1 (by decide))).trans ((sv_n _ (fun h9 => absurd h9.1 (by decide))).trans ((hp_70 61 (by decide)).trans (sv_n _ (by decide))))); omega) (by omega)⟩
              · refine lv_aload_n hx hb dX12_setsCell_221 rfl (lv_at hl 6 rfl) ?_
                refine lv_iconst (v := iv 4) hx hb dX12_setsCell_222 rfl ?_
                have e_79 : μ68.1 111 4 = μ.1 111 4 := ((hp_70 4 (by decide)).trans (sv_n _ (by decide)))
                have e_80 : μ68.1 111 83 = μ.1 111 83 := ((hp_70 83 (by decide)).trans (sv_n _ (by decide)))
                have hrx_81 := RX.eq (μ := μ) (ν := μ68) (Eqa.fr (L := [111]) (FrM.tr (FrM.put FrM.rf (by decide)) F_69 (by decide)) (by decide)) (Eqf.fd (L := [53, 98, 99]) (fun j hj => ((hp_70 j (fun h9 => hj ((by decide : ∀ x ∈ ([98, 99] : List Int), x ∈ ([53, 98, 99] : List Int)) j h9))).trans (sv_n _ (fun h9 => hj (by rw [h9.2]; decide))))) (by decide))
                have e_82 : μ68.1 111 94 = μ.1 111 94 := ((hp_70 94 (by decide)).trans (sv_n _ (by decide)))
                have e_83 : μ68.1 111 47 = n := ((hp_70 47 (by decide)).trans ((sv_n _ (by decide)).trans hn.symm))
                have hMZ_84 : MZ (sv μ 111 53 ((μ.1 111 53) - 3)) := MZ.mn1 hMZ (n := n) (s := μ.1 131 (n - 1)) (hn.symm) (by have h9 : μ.1 131 (n - 1) = μ.1 131 (n - 1) := rfl; exact h9) (by omega) (by have h9 : μ.1 111 53 = μ.1 111 53 := rfl; omega)
                have hMZ_85 : MZ μ68 := MZ.cg hMZ_84 F_69 (by decide) (Eqf.fd hp_70 (by decide))
                have e_86 : μ68.1 111 94 = μ.1 111 94 := ((hp_70 94 (by decide)).trans (sv_n _ (by decide)))
                have e_87 : μ68.1 111 53 = (μ.1 111 53) - 3 := ((hp_70 53 (by decide)).trans (sv_s _ _ _ _))
                refine xc_vV G (b := 111) (rest := []) (As := [.int (iv 4)]) (c_X12_arisesHere ω l μ68 4 n (by unfold ir; omega) (by omega) hMZ_85 (by omega) (by omega) (fun _ => by omega) (by omega)) (wm 10 207 rfl rfl) (wm 10 209 rfl rfl) (wm 0 215 rfl rfl) rfl rfl (by decide) rfl (wm 1 18 rfl rfl) (wm 10 210 rfl rfl) (by decide) hR (by decide) (n := 1) rfl rfl (Nat.le_of_ble_eq_true rfl) hl.1 dX12_setsCell_223 (fun μ88 ρ d0 H locs hp G => ?_)
                obtain ⟨F_89, hp_90, hp_91⟩ := hp
                exact xr_v G hret hlk dX12_setsCell_226 ⟨(FrM.tr (FrM.tr (FrM.put FrM.rf (by decide)) F_69 (by decide)) F_89 (by decide)), (fun j hj => ((hp_90 j (fun h9 => hj ((by decide : ∀ x ∈ ([47, 53, 61, 81, 82, 83, 84, 90, 91, 93, 94, 95, 96, 97, 98, 99] : List Int), x ∈ ([47, 53, 61, 81, 82, 83, 84, 90, 91, 93, 94, 95, 96, 97, 98, 99] : List Int)) j h9))).trans ((hp_70 j (fun h9 => hj ((by decide : ∀ x ∈ ([98, 99] : List Int), x ∈ ([47, 53, 61, 81, 82, 83, 84, 90, 91, 93, 94, 95, 96, 97, 98, 99] : List Int)) j h9))).trans (sv_n _ (fun h9 => hj (by rw [h9.2]; decide)))))), (hp_91.le (by omega))⟩
            · refine lv_aload_n hx hb dX12_setsCell_189 rfl (lv_at hl 6 rfl) ?_
              refine lv_iconst (v := iv 1) hx hb dX12_setsCell_190 rfl ?_
              refine lv_iconst (v := iv 4) hx hb dX12_setsCell_191 rfl ?_
              refine lv_lload hx hb dX12_setsCell_192 (lv_at hl 2 rfl) ?_
              have e_92 : (sv μ 111 53 ((μ.1 111 53) - 3)).1 111 83 = μ.1 111 83 := (sv_n _ (by decide))
              have hrx_93 := RX.eq (μ := μ) (ν := (sv μ 111 53 ((μ.1 111 53) - 3))) (Eqa.fr (L := [111]) (FrM.put FrM.rf (by decide)) (by decide)) (Eqf.fd (L := [53]) (fun j hj => (sv_n _ (fun h9 => hj (by rw [h9.2]; decide)))) (by decide))
              have e_94 : (sv μ 111 53 ((μ.1 111 53) - 3)).1 111 94 = μ.1 111 94 := (sv_n _ (by decide))
              have e_95 : (sv μ 111 53 ((μ.1 111 53) - 3)).1 111 47 = n := ((sv_n _ (by decide)).trans hn.symm)
              have hMZ_96 : MZ (sv μ 111 53 ((μ.1 111 53) - 3)) := MZ.mn1 hMZ (n := n) (s := μ.1 131 (n - 1)) (hn.symm) (by have h9 : μ.1 131 (n - 1) = μ.1 131 (n - 1) := rfl; exact h9) (by omega) (by have h9 : μ.1 111 53 = μ.1 111 53 := rfl; omega)
              have e_97 : (sv μ 111 53 ((μ.1 111 53) - 3)).1 111 94 = μ.1 111 94 := (sv_n _ (by decide))
              refine xc_vV G (b := 111) (rest := []) (As := [.int (iv 1), .int (iv 4), .long (jv (μ.1 136 (μ.1 111 53 - 1)))]) (c_X12_unwinds_a ω l (sv μ 111 53 ((μ.1 111 53) - 3)) 1 4 (μ.1 136 (μ.1 111 53 - 1)) n (by unfold ir; omega) (by unfold ir; omega) hj_6 (by omega) hMZ_96 (by omega) (by omega) (by omega) (fun _ => VV.n4 (by rw [(show (sv μ 111 53 ((μ.1 111 53) - 3)).1 111 82 = μ.1 111 82 from (sv_n _ (by decide)))]; exact hsv1_.2.2.2 (by omega))) (fun h9 => absurd h9 (by decide))) (wm 10 135 rfl rfl) (wm 10 137 rfl rfl) (wm 0 197 rfl rfl) rfl rfl (by decide) rfl (wm 1 18 rfl rfl) (wm 10 138 rfl rfl) (by decide) hR (by decide) (n := 3) rfl rfl (Nat.le_of_ble_eq_true rfl) hl.1 dX12_setsCell_194 (fun μ98 ρ d0 H locs hp G => ?_)
              obtain ⟨F_99, hp_100, hp_101⟩ := hp
              exact xr_v G hret hlk dX12_setsCell_197 ⟨(FrM.tr (FrM.put FrM.rf (by decide)) F_99 (by decide)), (fun j hj => ((hp_100 j (fun h9 => hj ((by decide : ∀ x ∈ ([47, 53, 61, 81, 82, 83, 84, 90, 91, 93, 94, 95, 96, 97, 98, 99] : List Int), x ∈ ([47, 53, 61, 81, 82, 83, 84, 90, 91, 93, 94, 95, 96, 97, 98, 99] : List Int)) j h9))).trans (sv_n _ (fun h9 => hj (by rw [h9.2]; decide))))), (hp_101.le (by omega))⟩
          · refine lv_aload_n hx hb dX12_setsCell_177 rfl (lv_at hl 6 rfl) ?_
            refine lv_iconst (v := iv 2) hx hb dX12_setsCell_178 rfl ?_
            have e_102 : (sv μ 111 53 ((μ.1 111 53) - 3)).1 111 4 = μ.1 111 4 := (sv_n _ (by decide))
            have e_103 : (sv μ 111 53 ((μ.1 111 53) - 3)).1 111 83 = μ.1 111 83 := (sv_n _ (by decide))
            have hrx_104 := RX.eq (μ := μ) (ν := (sv μ 111 53 ((μ.1 111 53) - 3))) (Eqa.fr (L := [111]) (FrM.put FrM.rf (by decide)) (by decide)) (Eqf.fd (L := [53]) (fun j hj => (sv_n _ (fun h9 => hj (by rw [h9.2]; decide)))) (by decide))
            have e_105 : (sv μ 111 53 ((μ.1 111 53) - 3)).1 111 94 = μ.1 111 94 := (sv_n _ (by decide))
            have e_106 : (sv μ 111 53 ((μ.1 111 53) - 3)).1 111 47 = n := ((sv_n _ (by decide)).trans hn.symm)
            have hMZ_107 : MZ (sv μ 111 53 ((μ.1 111 53) - 3)) := MZ.mn1 hMZ (n := n) (s := μ.1 131 (n - 1)) (hn.symm) (by have h9 : μ.1 131 (n - 1) = μ.1 131 (n - 1) := rfl; exact h9) (by omega) (by have h9 : μ.1 111 53 = μ.1 111 53 := rfl; omega)
            have e_108 : (sv μ 111 53 ((μ.1 111 53) - 3)).1 111 94 = μ.1 111 94 := (sv_n _ (by decide))
            have e_109 : (sv μ 111 53 ((μ.1 111 53) - 3)).1 111 53 = (μ.1 111 53) - 3 := (sv_s _ _ _ _)
            refine xc_vV G (b := 111) (rest := []) (As := [.int (iv 2)]) (c_X12_arisesHere ω l (sv μ 111 53 ((μ.1 111 53) - 3)) 2 n (by unfold ir; omega) (by omega) hMZ_107 (by omega) (by omega) (fun _ => by omega) (by omega)) (wm 10 207 rfl rfl) (wm 10 209 rfl rfl) (wm 0 215 rfl rfl) rfl rfl (by decide) rfl (wm 1 18 rfl rfl) (wm 10 210 rfl rfl) (by decide) hR (by decide) (n := 1) rfl rfl (Nat.le_of_ble_eq_true rfl) hl.1 dX12_setsCell_179 (fun μ110 ρ d0 H locs hp G => ?_)
            obtain ⟨F_111, hp_112, hp_113⟩ := hp
            exact xr_v G hret hlk dX12_setsCell_182 ⟨(FrM.tr (FrM.put FrM.rf (by decide)) F_111 (by decide)), (fun j hj => ((hp_112 j (fun h9 => hj ((by decide : ∀ x ∈ ([47, 53, 61, 81, 82, 83, 84, 90, 91, 93, 94, 95, 96, 97, 98, 99] : List Int), x ∈ ([47, 53, 61, 81, 82, 83, 84, 90, 91, 93, 94, 95, 96, 97, 98, 99] : List Int)) j h9))).trans (sv_n _ (fun h9 => hj (by rw [h9.2]; decide))))), (hp_113.le (by omega))⟩
        · refine lv_aload_n hx hb dX12_setsCell_118 rfl (lv_at hl 4 rfl) ?_
          refine lv_iload_n hx hb dX12_setsCell_119 rfl (lv_at hl 3 rfl) ?_
          refine xb_if_ne (tgt := 127) hx hb (by unfold ir; omega) dX12_setsCell_120 (by decide) (fun c_120 => ?_) (fun c_120 => ?_)
          · refine lv_iconst (v := iv 4) hx hb dX12_setsCell_127 rfl ?_
            have e_114 : (sv μ 111 53 ((μ.1 111 53) - 3)).1 111 4 = μ.1 111 4 := (sv_n _ (by decide))
            have e_115 : (sv μ 111 53 ((μ.1 111 53) - 3)).1 111 83 = μ.1 111 83 := (sv_n _ (by decide))
            have hrx_116 := RX.eq (μ := μ) (ν := (sv μ 111 53 ((μ.1 111 53) - 3))) (Eqa.fr (L := [111]) (FrM.put FrM.rf (by decide)) (by decide)) (Eqf.fd (L := [53]) (fun j hj => (sv_n _ (fun h9 => hj (by rw [h9.2]; decide)))) (by decide))
            have e_117 : (sv μ 111 53 ((μ.1 111 53) - 3)).1 111 94 = μ.1 111 94 := (sv_n _ (by decide))
            have e_118 : (sv μ 111 53 ((μ.1 111 53) - 3)).1 111 47 = n := ((sv_n _ (by decide)).trans hn.symm)
            have hMZ_119 : MZ (sv μ 111 53 ((μ.1 111 53) - 3)) := MZ.mn1 hMZ (n := n) (s := μ.1 131 (n - 1)) (hn.symm) (by have h9 : μ.1 131 (n - 1) = μ.1 131 (n - 1) := rfl; exact h9) (by omega) (by have h9 : μ.1 111 53 = μ.1 111 53 := rfl; omega)
            have e_120 : (sv μ 111 53 ((μ.1 111 53) - 3)).1 111 94 = μ.1 111 94 := (sv_n _ (by decide))
            have e_121 : (sv μ 111 53 ((μ.1 111 53) - 3)).1 111 53 = (μ.1 111 53) - 3 := (sv_s _ _ _ _)
            refine xc_vV G (b := 111) (rest := []) (As := [.int (iv 4)]) (c_X12_arisesHere ω l (sv μ 111 53 ((μ.1 111 53) - 3)) 4 n (by unfold ir; omega) (by omega) hMZ_119 (by omega) (by omega) (fun _ => by omega) (by omega)) (wm 10 207 rfl rfl) (wm 10 209 rfl rfl) (wm 0 215 rfl rfl) rfl rfl (by decide) rfl (wm 1 18 rfl rfl) (wm 10 210 rfl rfl) (by decide) hR (by decide) (n := 1) rfl rfl (Nat.le_of_ble_eq_true rfl) hl.1 dX12_setsCell_128 (fun μ122 ρ d0 H locs hp G => ?_)
            obtain ⟨F_123, hp_124, hp_125⟩ := hp
            exact xr_v G hret hlk dX12_setsCell_131 ⟨(FrM.tr (FrM.put FrM.rf (by decide)) F_123 (by decide)), (fun j hj => ((hp_124 j (fun h9 => hj ((by decide : ∀ x ∈ ([47, 53, 61, 81, 82, 83, 84, 90, 91, 93, 94, 95, 96, 97, 98, 99] : List Int), x ∈ ([47, 53, 61, 81, 82, 83, 84, 90, 91, 93, 94, 95, 96, 97, 98, 99] : List Int)) j h9))).trans (sv_n _ (fun h9 => hj (by rw [h9.2]; decide))))), (hp_125.le (by omega))⟩
          · refine lv_iconst (v := iv 3) hx hb dX12_setsCell_123 rfl ?_
            refine lv_goto (tgt := 128) hx hb dX12_setsCell_124 (by decide) ?_
            have e_126 : (sv μ 111 53 ((μ.1 111 53) - 3)).1 111 4 = μ.1 111 4 := (sv_n _ (by decide))
            have e_127 : (sv μ 111 53 ((μ.1 111 53) - 3)).1 111 83 = μ.1 111 83 := (sv_n _ (by decide))
            have hrx_128 := RX.eq (μ := μ) (ν := (sv μ 111 53 ((μ.1 111 53) - 3))) (Eqa.fr (L := [111]) (FrM.put FrM.rf (by decide)) (by decide)) (Eqf.fd (L := [53]) (fun j hj => (sv_n _ (fun h9 => hj (by rw [h9.2]; decide)))) (by decide))
            have e_129 : (sv μ 111 53 ((μ.1 111 53) - 3)).1 111 94 = μ.1 111 94 := (sv_n _ (by decide))
            have e_130 : (sv μ 111 53 ((μ.1 111 53) - 3)).1 111 47 = n := ((sv_n _ (by decide)).trans hn.symm)
            have hMZ_131 : MZ (sv μ 111 53 ((μ.1 111 53) - 3)) := MZ.mn1 hMZ (n := n) (s := μ.1 131 (n - 1)) (hn.symm) (by have h9 : μ.1 131 (n - 1) = μ.1 131 (n - 1) := rfl; exact h9) (by omega) (by have h9 : μ.1 111 53 = μ.1 111 53 := rfl; omega)
            have e_132 : (sv μ 111 53 ((μ.1 111 53) - 3)).1 111 94 = μ.1 111 94 := (sv_n _ (by decide))
            have e_133 : (sv μ 111 53 ((μ.1 111 53) - 3)).1 111 53 = (μ.1 111 53) - 3 := (sv_s _ _ _ _)
            refine xc_vV G (b := 111) (rest := []) (As := [.int (iv 3)]) (c_X12_arisesHere ω l (sv μ 111 53 ((μ.1 111 53) - 3)) 3 n (by unfold ir; omega) (by omega) hMZ_131 (by omega) (by omega) (fun _ => by omega) (by omega)) (wm 10 207 rfl rfl) (wm 10 209 rfl rfl) (wm 0 215 rfl rfl) rfl rfl (by decide) rfl (wm 1 18 rfl rfl) (wm 10 210 rfl rfl) (by decide) hR (by decide) (n := 1) rfl rfl (Nat.le_of_ble_eq_true rfl) hl.1 dX12_setsCell_128 (fun μ134 ρ d0 H locs hp G => ?_)
            obtain ⟨F_135, hp_136, hp_137⟩ := hp
            exact xr_v G hret hlk dX12_setsCell_131 ⟨(FrM.tr (FrM.put FrM.rf (by decide)) F_135 (by decide)), (fun j hj => ((hp_136 j (fun h9 => hj ((by decide : ∀ x ∈ ([47, 53, 61, 81, 82, 83, 84, 90, 91, 93, 94, 95, 96, 97, 98, 99] : List Int), x ∈ ([47, 53, 61, 81, 82, 83, 84, 90, 91, 93, 94, 95, 96, 97, 98, 99] : List Int)) j h9))).trans (sv_n _ (fun h9 => hj (by rw [h9.2]; decide))))), (hp_137.le (by omega))⟩
    · refine lv_iload_n hx hb dX12_setsCell_68 rfl (lv_at hl 3 rfl) ?_
      refine lv_iconst (v := iv 2) hx hb dX12_setsCell_69 rfl ?_
      refine xb_icmp_ne (tgt := 108) hx hb (by unfold ir; omega) (by unfold ir; omega) dX12_setsCell_70 (by decide) (fun c_70 => ?_) (fun c_70 => ?_)
      · refine lv_iload_n hx hb dX12_setsCell_108 rfl (lv_at hl 3 rfl) ?_
        refine lv_iconst (v := iv 2) hx hb dX12_setsCell_109 rfl ?_
        refine xb_icmp_ne (tgt := 118) hx hb (by unfold ir; omega) (by unfold ir; omega) dX12_setsCell_110 (by decide) (fun c_110 => ?_) (fun c_110 => ?_)
        · refine lv_aload_n hx hb dX12_setsCell_118 rfl (lv_at hl 4 rfl) ?_
          refine lv_iload_n hx hb dX12_setsCell_119 rfl (lv_at hl 3 rfl) ?_
          refine xb_if_ne (tgt := 127) hx hb (by unfold ir; omega) dX12_setsCell_120 (by decide) (fun c_120 => ?_) (fun c_120 => ?_)
          · refine lv_iconst (v := iv 4) hx hb dX12_setsCell_127 rfl ?_
            have e_138 : (sv μ 111 53 ((μ.1 111 53) - 3)).1 111 4 = μ.1 111 4 := (sv_n _ (by decide))
            have e_139 : (sv μ 111 53 ((μ.1 111 53) - 3)).1 111 83 = μ.1 111 83 := (sv_n _ (by decide))
            have hrx_140 := RX.eq (μ := μ) (ν := (sv μ 111 53 ((μ.1 111 53) - 3))) (Eqa.fr (L := [111]) (FrM.put FrM.rf (by decide)) (by decide)) (Eqf.fd (L := [53]) (fun j hj => (sv_n _ (fun h9 => hj (by rw [h9.2]; decide)))) (by decide))
            have e_141 : (sv μ 111 53 ((μ.1 111 53) - 3)).1 111 94 = μ.1 111 94 := (sv_n _ (by decide))
            have e_142 : (sv μ 111 53 ((μ.1 111 53) - 3)).1 111 47 = n := ((sv_n _ (by decide)).trans hn.symm)
            have hMZ_143 : MZ (sv μ 111 53 ((μ.1 111 53) - 3)) := MZ.mn1 hMZ (n := n) (s := μ.1 131 (n - 1)) (hn.symm) (by have h9 : μ.1 131 (n - 1) = μ.1 131 (n - 1) := rfl; exact h9) (by omega) (by have h9 : μ.1 111 53 = μ.1 111 53 := rfl; omega)
            have e_144 : (sv μ 111 53 ((μ.1 111 53) - 3)).1 111 94 = μ.1 111 94 := (sv_n _ (by decide))
            have e_145 : (sv μ 111 53 ((μ.1 111 53) - 3)).1 111 53 = (μ.1 111 53) - 3 := (sv_s _ _ _ _)
            refine xc_vV G (b := 111) (rest := []) (As := [.int (iv 4)]) (c_X12_arisesHere ω l (sv μ 111 53 ((μ.1 111 53) - 3)) 4 n (by unfold ir; omega) (by omega) hMZ_143 (by omega) (by omega) (fun _ => by omega) (by omega)) (wm 10 207 rfl rfl) (wm 10 209 rfl rfl) (wm 0 215 rfl rfl) rfl rfl (by decide) rfl (wm 1 18 rfl rfl) (wm 10 210 rfl rfl) (by decide) hR (by decide) (n := 1) rfl rfl (Nat.le_of_ble_eq_true rfl) hl.1 dX12_setsCell_128 (fun μ146 ρ d0 H locs hp G => ?_)
            obtain ⟨F_147, hp_148, hp_149⟩ := hp
            exact xr_v G hret hlk dX12_setsCell_131 ⟨(FrM.tr (FrM.put FrM.rf (by decide)) F_147 (by decide)), (fun j hj => ((hp_148 j (fun h9 => hj ((by decide : ∀ x ∈ ([47, 53, 61, 81, 82, 83, 84, 90, 91, 93, 94, 95, 96, 97, 98, 99] : List Int), x ∈ ([47, 53, 61, 81, 82, 83, 84, 90, 91, 93, 94, 95, 96, 97, 98, 99] : List Int)) j h9))).trans (sv_n _ (fun h9 => hj (by rw [h9.2]; decide))))), (hp_149.le (by omega))⟩
          · refine lv_iconst (v := iv 3) hx hb dX12_setsCell_123 rfl ?_
            refine lv_goto (tgt := 128) hx hb dX12_setsCell_124 (by decide) ?_
            have e_150 : (sv μ 111 53 ((μ.1 111 53) - 3)).1 111 4 = μ.1 111 4 := (sv_n _ (by decide))
            have e_151 : (sv μ 111 53 ((μ.1 111 53) - 3)).1 111 83 = μ.1 111 83 := (sv_n _ (by decide))
            have hrx_152 := RX.eq (μ := μ) (ν := (sv μ 111 53 ((μ.1 111 53) - 3))) (Eqa.fr (L := [111]) (FrM.put FrM.rf (by decide)) (by decide)) (Eqf.fd (L := [53]) (fun j hj => (sv_n _ (fun h9 => hj (by rw [h9.2]; decide)))) (by decide))
            have e_153 : (sv μ 111 53 ((μ.1 111 53) - 3)).1 111 94 = μ.1 111 94 := (sv_n _ (by decide))
            have e_154 : (sv μ 111 53 ((μ.1 111 53) - 3)).1 111 47 = n := ((sv_n _ (by decide)).trans hn.symm)
            have hMZ_155 : MZ (sv μ 111 53 ((μ.1 111 53) - 3)) := MZ.mn1 hMZ (n := n) (s := μ.1 131 (n - 1)) (hn.symm) (by have h9 : μ.1 131 (n - 1) = μ.1 131 (n - 1) := rfl; exact h9) (by omega) (by have h9 : μ.1 111 53 = μ.1 111 53 := rfl; omega)
            have e_156 : (sv μ 111 53 ((μ.1 111 53) - 3)).1 111 94 = μ.1 111 94 := (sv_n _ (by decide))
            have e_157 : (sv μ 111 53 ((μ.1 111 53) - 3)).1 111 53 = (μ.1 111 53) - 3 := (sv_s _ _ _ _)
            refine xc_vV G (b := 111) (rest := []) (As := [.int (iv 3)]) (c_X12_arisesHere ω l (sv μ 111 53 ((μ.1 111 53) - 3)) 3 n (by unfold ir; omega) (by omega) hMZ_155 (by omega) (by omega) (fun _ => by omega) (by omega)) (wm 10 207 rfl rfl) (wm 10 209 rfl rfl) (wm 0 215 rfl rfl) rfl rfl (by decide) rfl (wm 1 18 rfl rfl) (wm 10 210 rfl rfl) (by decide) hR (by decide) (n := 1) rfl rfl (Nat.le_of_ble_eq_true rfl) hl.1 dX12_setsCell_128 (fun μ158 ρ d0 H locs hp G => ?_)
            obtain ⟨F_159, hp_160, hp_161⟩ := hp
            exact xr_v G hret hlk dX12_setsCell_131 ⟨(FrM.tr (FrM.put FrM.rf (by decide)) F_159 (by decide)), (fun j hj => ((hp_160 j (fun h9 => hj ((by decide : ∀ x ∈ ([47, 53, 61, 81, 82, 83, 84, 90, 91, 93, 94, 95, 96, 97, 98, 99] : List Int), x ∈ ([47, 53, 61, 81, 82, 83, 84, 90, 91, 93, 94, 95, 96, 97, 98, 99] : List Int)) j h9))).trans (sv_n _ (fun h9 => hj (by rw [h9.2]; decide))))), (hp_161.le (by omega))⟩
        · refine lv_iload_n hx hb dX12_setsCell_113 rfl (lv_at hl 2 rfl) ?_
          refine lv_iconst (v := iv 1) hx hb dX12_setsCell_114 rfl ?_
          refine xb_icmp_eq (tgt := 132) hx hb (by unfold ir; omega) (by unfold ir; omega) dX12_setsCell_115 (by decide) (fun c_115 => ?_) (fun c_115 => ?_)
          · have hs2_ := hsv3_.2.1 (by omega)
            have har_ := hMZ.ar _ hs2_.1 hs2_.2
            refine lv_aload_n hx hb dX12_setsCell_132 rfl (lv_at hl 4 rfl) ?_
            refine xa_getr G fd_X12 (a := 111) (x := 136) 52 rfl (by decide) rfl (wm 7 201 rfl rfl) ⟨rfl, rfl, rfl⟩ dX12_setsCell_133 rfl (G.sk 134 rfl) (by decide) rfl ?_
            refine lv_aload_n hx hb dX12_setsCell_136 rfl (lv_at hl 4 rfl) ?_
            refine xa_geti G fd_X12 (a := 111) (x := (μ.1 111 53) - 3) 53 rfl (by decide) rfl (wm 7 202 rfl rfl) ⟨rfl, rfl, rfl⟩ dX12_setsCell_137 rfl (sv_s _ _ _ _) ?_
            refine xa_lald G (a := 136) (i := (μ.1 111 53) - 3) rfl (by have h9 := G.lc (a := 136) (n := 9000) 74 rfl; omega) dX12_setsCell_140 rfl ?_
            refine xb_tl (y := μ.1 136 (μ.1 111 53 - 3)) (sv_n _ (fun h9 => absurd h9.1 (by decide))) ?_
            have hj_162 : jr (μ.1 136 (μ.1 111 53 - 3)) := (by have h9 := G.hj (a := 136) (k := (μ.1 111 53) - 3) rfl; rw [(sv_n _ (fun h9 => absurd h9.1 (by decide)))] at h9; exact h9)
            refine xb_l2i hx hb dX12_setsCell_141 ?_
            refine xb_topi (fun y_163 hr_y_163 he_y_163 => ?_)
            have hr_y_163 : -2147483648 ≤ y_163 ∧ y_163 ≤ 2147483647 := hr_y_163
            have hli_y_163 : ir (μ.1 136 (μ.1 111 53 - 3)) → y_163 = μ.1 136 (μ.1 111 53 - 3) := fun h9 => (iv_eq hr_y_163 h9).mp he_y_163
            unfold ir at hli_y_163
            refine xb_ti (y := μ.1 136 (μ.1 111 53 - 3)) (hli_y_163 (by omega)) ?_
            have hr_164 : -2147483648 ≤ μ.1 136 (μ.1 111 53 - 3) ∧ μ.1 136 (μ.1 111 53 - 3) ≤ 2147483647 := by omega
            refine lv_istore (lv' := [(7, .int (iv (μ.1 136 (μ.1 111 53 - 3)))), (5, .long (jv (μ.1 136 (μ.1 111 53 - 1)))), (4, .int (iv (μ.1 135 (μ.1 111 53 - 1)))), (3, .int (iv (μ.1 135 (μ.1 111 53 - 2)))), (2, .int (iv (μ.1 135 (μ.1 111 53 - 3)))), (0, .ref (oP ω 111)), (1, .int (iv x1))]) hx hb dX12_setsCell_142 hl (by decide) rfl (fun ls hl => ?_)
            refine lv_aload_n hx hb dX12_setsCell_144 rfl (lv_at hl 5 rfl) ?_
            refine lv_iload_n hx hb dX12_setsCell_145 rfl (lv_at hl 6 rfl) ?_
            refine lv_aload_n hx hb dX12_setsCell_146 rfl (lv_at hl 5 rfl) ?_
            refine xa_getr G fd_X12 (a := 111) (x := 136) 52 rfl (by decide) rfl (wm 7 201 rfl rfl) ⟨rfl, rfl, rfl⟩ dX12_setsCell_147 rfl (G.sk 134 rfl) (by decide) rfl ?_
            refine lv_aload_n hx hb dX12_setsCell_150 rfl (lv_at hl 5 rfl) ?_
            refine xa_geti G fd_X12 (a := 111) (x := (μ.1 111 53) - 3) 53 rfl (by decide) rfl (wm 7 202 rfl rfl) ⟨rfl, rfl, rfl⟩ dX12_setsCell_151 rfl (sv_s _ _ _ _) ?_
            refine lv_iconst (v := iv 1) hx hb dX12_setsCell_154 rfl ?_
            refine xb_iadd hx hb dX12_setsCell_155 ?_
            refine xb_ti (y := (μ.1 111 53) - 2) (by omega) ?_
            refine xa_lald G (a := 136) (i := (μ.1 111 53) - 2) rfl (by have h9 := G.lc (a := 136) (n := 9000) 74 rfl; omega) dX12_setsCell_156 rfl ?_
            refine xb_tl (y := μ.1 136 (μ.1 111 53 - 2)) (sv_n _ (fun h9 => absurd h9.1 (by decide))) ?_
            have hj_165 : jr (μ.1 136 (μ.1 111 53 - 2)) := (by have h9 := G.hj (a := 136) (k := (μ.1 111 53) - 2) rfl; rw [(sv_n _ (fun h9 => absurd h9.1 (by decide)))] at h9; exact h9)
            refine lv_aload_n hx hb dX12_setsCell_157 rfl (lv_at hl 5 rfl) ?_
            refine xa_getr G fd_X12 (a := 111) (x := 145) 63 rfl (by decide) rfl (wm 7 212 rfl rfl) ⟨rfl, rfl, rfl⟩ dX12_setsCell_158 rfl (G.sk 143 rfl) (by decide) rfl ?_
            refine lv_iload hx hb dX12_setsCell_161 (lv_at hl 0 rfl) ?_
            refine xa_iald G (a := 145) (i := μ.1 136 (μ.1 111 53 - 3)) rfl (by have h9 := G.lc (a := 145) (n := 20100) 83 rfl; omega) dX12_setsCell_163 rfl ?_
            refine xb_ti (y := μ.1 145 (μ.1 136 (μ.1 111 53 - 3))) (sv_n _ (fun h9 => absurd h9.1 (by decide))) ?_
            have hr_166 : -2147483648 ≤ μ.1 145 (μ.1 136 (μ.1 111 53 - 3)) ∧ μ.1 145 (μ.1 136 (μ.1 111 53 - 3)) ≤ 2147483647 := by have h9 := G.hr (a := 145) (k := μ.1 136 (μ.1 111 53 - 3)) rfl; rw [(sv_n _ (fun h9 => absurd h9.1 (by decide)))] at h9; exact h9
            refine lv_iconst (v := iv 1) hx hb dX12_setsCell_164 rfl ?_
            refine xb_isub hx hb dX12_setsCell_165 ?_
            have e_167 : (sv μ 111 53 ((μ.1 111 53) - 3)).1 136 (μ.1 111 53 - 3) = μ.1 136 (μ.1 111 53 - 3) := (sv_n _ (fun h9 => absurd h9.1 (by decide)))
            have e_168 : (sv μ 111 53 ((μ.1 111 53) - 3)).1 136 (μ.1 111 53 - 3) = μ.1 136 (μ.1 111 53 - 3) := (sv_n _ (fun h9 => absurd h9.1 (by decide)))
            have e_169 : (sv μ 111 53 ((μ.1 111 53) - 3)).1 136 (μ.1 111 53 - 3) = μ.1 136 (μ.1 111 53 - 3) := (sv_n _ (fun h9 => absurd h9.1 (by decide)))
            refine xc_iV G (b := 111) (rest := []) (As := [.int (iv x1), .long (jv (μ.1 136 (μ.1 111 53 - 2))), .int (iv ((μ.1 145 (μ.1 136 (μ.1 111 53 - 3))) - 1))]) (c_X12_indexOf ω l (sv μ 111 53 ((μ.1 111 53) - 3)) x1 (μ.1 136 (μ.1 111 53 - 2)) ((μ.1 145 (μ.1 136 (μ.1 111 53 - 3))) - 1) (by unfold ir; omega) hj_165 (by unfold ir; omega) (by omega)) (wm 10 211 rfl rfl) (wm 10 213 rfl rfl) (wm 0 216 rfl rfl) rfl rfl (by decide) rfl (wm 1 18 rfl rfl) (wm 10 214 rfl rfl) (by decide) hR (by decide) (n := 3) rfl rfl (Nat.le_of_ble_eq_true rfl) hl.1 dX12_setsCell_166 (fun r_171 μ170 ρ d0 H locs hr_r_171 hp G => ?_)
            have hr_r_171 : -2147483648 ≤ r_171 ∧ r_171 ≤ 2147483647 := hr_r_171
            obtain ⟨hsm_172, hp_173⟩ := hp
            have hsm_172 := Eq.symm hsm_172
            subst hsm_172
            refine lv_istore (lv' := [(8, .int (iv r_171)), (7, .int (iv (μ.1 136 (μ.1 111 53 - 3)))), (5, .long (jv (μ.1 136 (μ.1 111 53 - 1)))), (4, .int (iv (μ.1 135 (μ.1 111 53 - 1)))), (3, .int (iv (μ.1 135 (μ.1 111 53 - 2)))), (2, .int (iv (μ.1 135 (μ.1 111 53 - 3)))), (0, .ref (oP ω 111)), (1, .int (iv x1))]) hx hb dX12_setsCell_169 hl (by decide) rfl (fun ls hl => ?_)
            refine lv_iload hx hb dX12_setsCell_171 (lv_at hl 0 rfl) ?_
            refine lv_iconst (v := iv (-1)) hx hb dX12_setsCell_173 rfl ?_
            refine xb_icmp_ne (tgt := 183) hx hb (by unfold ir; omega) (by unfold ir; omega) dX12_setsCell_174 (by decide) (fun c_174 => ?_) (fun c_174 => ?_)
            · refine lv_iload hx hb dX12_setsCell_183 (lv_at hl 3 rfl) ?_
              refine lv_iconst (v := iv 4) hx hb dX12_setsCell_185 rfl ?_
              refine xb_icmp_ne (tgt := 198) hx hb (by unfold ir; omega) (by unfold ir; omega) dX12_setsCell_186 (by decide) (fun c_186 => ?_) (fun c_186 => ?_)
              · refine lv_aload_n hx hb dX12_setsCell_198 rfl (lv_at hl 6 rfl) ?_
                refine lv_iload_n hx hb dX12_setsCell_199 rfl (lv_at hl 7 rfl) ?_
                refine lv_aload_n hx hb dX12_setsCell_200 rfl (lv_at hl 6 rfl) ?_
                refine xa_getr G fd_X12 (a := 111) (x := 146) 64 rfl (by decide) rfl (wm 7 213 rfl rfl) ⟨rfl, rfl, rfl⟩ dX12_setsCell_201 rfl (G.sk 144 rfl) (by decide) rfl ?_
                refine lv_iload hx hb dX12_setsCell_204 (lv_at hl 1 rfl) ?_
                refine xa_iald G (a := 146) (i := μ.1 136 (μ.1 111 53 - 3)) rfl (by have h9 := G.lc (a := 146) (n := 20100) 84 rfl; omega) dX12_setsCell_206 rfl ?_
                refine xb_ti (y := μ.1 146 (μ.1 136 (μ.1 111 53 - 3))) (sv_n _ (fun h9 => absurd h9.1 (by decide))) ?_
                have hr_174 : -2147483648 ≤ μ.1 146 (μ.1 136 (μ.1 111 53 - 3)) ∧ μ.1 146 (μ.1 136 (μ.1 111 53 - 3)) ≤ 2147483647 := by have h9 := G.hr (a := 146) (k := μ.1 136 (μ.1 111 53 - 3)) rfl; rw [(sv_n _ (fun h9 => absurd h9.1 (by decide)))] at h9; exact h9
                refine lv_iload hx hb dX12_setsCell_207 (lv_at hl 3 rfl) ?_
                refine lv_lload hx hb dX12_setsCell_209 (lv_at hl 2 rfl) ?_
                have e_175 : (sv μ 111 53 ((μ.1 111 53) - 3)).1 136 (μ.1 111 53 - 3) = μ.1 136 (μ.1 111 53 - 3) := (sv_n _ (fun h9 => absurd h9.1 (by decide)))
                have e_176 : (sv μ 111 53 ((μ.1 111 53) - 3)).1 136 (μ.1 111 53 - 3) = μ.1 136 (μ.1 111 53 - 3) := (sv_n _ (fun h9 => absurd h9.1 (by decide)))
                refine xc_vV G (b := 111) (rest := []) (As := [.int (iv x1), .int (iv (μ.1 146 (μ.1 136 (μ.1 111 53 - 3)))), .int (iv (μ.1 135 (μ.1 111 53 - 1))), .long (jv (μ.1 136 (μ.1 111 53 - 1)))]) (c_X12_turnsValue ω l (sv μ 111 53 ((μ.1 111 53) - 3)) x1 (μ.1 146 (μ.1 136 (μ.1 111 53 - 3))) (μ.1 135 (μ.1 111 53 - 1)) (μ.1 136 (μ.1 111 53 - 1)) (by unfold ir; omega) (by unfold ir; omega) (by unfold ir; omega) hj_6 (by omega) (by omega)) (wm 10 179 rfl rfl) (wm 10 181 rfl rfl) (wm 0 208 rfl rfl) rfl rfl (by decide) rfl (wm 1 18 rfl rfl) (wm 10 182 rfl rfl) (by decide) hR (by decide) (n := 4) rfl rfl (Nat.le_of_ble_eq_true rfl) hl.1 dX12_setsCell_211 (fun μ177 ρ d0 H locs hp G => ?_)
                obtain ⟨F_178, hp_179, hp_180⟩ := hp
                refine lv_aload_n hx hb dX12_setsCell_214 rfl (lv_at hl 6 rfl) ?_
                refine xa_geti G fd_X12 (a := 111) (x := μ177.1 111 98) 98 rfl (by decide) rfl (wm 8 7 rfl rfl) ⟨rfl, rfl, rfl⟩ dX12_setsCell_215 rfl rfl ?_
                have hr_181 : -2147483648 ≤ μ177.1 111 98 ∧ μ177.1 111 98 ≤ 2147483647 := by have h9 := G.hr (a := 111) (k := 98) rfl; exact h9
                refine xb_if_ne (tgt := 227) hx hb (by unfold ir; omega) dX12_setsCell_218 (by decide) (fun c_218 => ?_) (fun c_218 => ?_)
                · refine lv_aload_n hx hb dX12_setsCell_227 rfl (lv_at hl 6 rfl) ?_
                  refine xa_getr G fd_X12 (a := 111) (x := 147) 66 rfl (by decide) rfl (wm 7 215 rfl rfl) ⟨rfl, rfl, rfl⟩ dX12_setsCell_228 rfl (G.sk 145 rfl) (by decide) rfl ?_
                  refine lv_aload_n hx hb dX12_setsCell_231 rfl (lv_at hl 6 rfl) ?_
                  refine xa_getr G fd_X12 (a := 111) (x := 144) 62 rfl (by decide) rfl (wm 7 211 rfl rfl) ⟨rfl, rfl, rfl⟩ dX12_setsCell_232 rfl (G.sk 142 rfl) (by decide) rfl ?_
                  refine lv_iload hx hb dX12_setsCell_235 (lv_at hl 1 rfl) ?_
                  refine xa_iald G (a := 144) (i := μ.1 136 (μ.1 111 53 - 3)) rfl (by have h9 := G.lc (a := 144) (n := 20100) 82 rfl; omega) dX12_setsCell_237 rfl ?_
                  refine xb_ti (y := μ.1 144 (μ.1 136 (μ.1 111 53 - 3))) ((F_178.1 144 (by decide) (μ.1 136 (μ.1 111 53 - 3))).trans (sv_n _ (fun h9 => absurd h9.1 (by decide)))) ?_
                  have hr_182 : -2147483648 ≤ μ.1 144 (μ.1 136 (μ.1 111 53 - 3)) ∧ μ.1 144 (μ.1 136 (μ.1 111 53 - 3)) ≤ 2147483647 := by have h9 := G.hr (a := 144) (k := μ.1 136 (μ.1 111 53 - 3)) rfl; rw [((F_178.1 144 (by decide) (μ.1 136 (μ.1 111 53 - 3))).trans (sv_n _ (fun h9 => absurd h9.1 (by decide))))] at h9; exact h9
                  refine lv_iload hx hb dX12_setsCell_238 (lv_at hl 0 rfl) ?_
                  refine xb_iadd hx hb dX12_setsCell_240 ?_
                  refine lv_iload hx hb dX12_setsCell_241 (lv_at hl 3 rfl) ?_
                  refine xb_i2bx hx hb (x := μ.1 135 (μ.1 111 53 - 1)) (by omega) dX12_setsCell_243 ?_
                  refine xa_bast G (a := 147) (i := (μ.1 144 (μ.1 136 (μ.1 111 53 - 3))) + r_171) (x := μ.1 135 (μ.1 111 53 - 1)) rfl (by have h9 := G.lc (a := 147) (n := 20100) 85 rfl; omega) (by omega) dX12_setsCell_244 rfl (fun H locs G => ?_)
                  refine lv_aload_n hx hb dX12_setsCell_245 rfl (lv_at hl 6 rfl) ?_
                  refine xa_getr G fd_X12 (a := 111) (x := 148) 67 rfl (by decide) rfl (wm 7 216 rfl rfl) ⟨rfl, rfl, rfl⟩ dX12_setsCell_246 rfl (G.sk 146 rfl) (by decide) rfl ?_
                  refine lv_aload_n hx hb dX12_setsCell_249 rfl (lv_at hl 6 rfl) ?_
                  refine xa_getr G fd_X12 (a := 111) (x := 144) 62 rfl (by decide) rfl (wm 7 211 rfl rfl) ⟨rfl, rfl, rfl⟩ dX12_setsCell_250 rfl (G.sk 142 rfl) (by decide) rfl ?_
                  refine lv_iload hx hb dX12_setsCell_253 (lv_at hl 1 rfl) ?_
                  refine xa_iald G (a := 144) (i := μ.1 136 (μ.1 111 53 - 3)) rfl (by have h9 := G.lc (a := 144) (n := 20100) 82 rfl; omega) dX12_setsCell_255 rfl ?_
                  refine xb_ti (y := μ.1 144 (μ.1 136 (μ.1 111 53 - 3))) ((sv_n _ (fun h9 => absurd h9.1 (by decide))).trans ((F_178.1 144 (by decide) (μ.1 136 (μ.1 111 53 - 3))).trans (sv_n _ (fun h9 => absurd h9.1 (by decide))))) ?_
                  refine lv_iload hx hb dX12_setsCell_256 (lv_at hl 0 rfl) ?_
                  refine xb_iadd hx hb dX12_setsCell_258 ?_
                  refine lv_aload_n hx hb dX12_setsCell_259 rfl (lv_at hl 6 rfl) ?_
                  refine xa_getl G fd_X12 (a := 111) (x := μ177.1 111 99) 99 rfl (by decide) rfl (wm 8 8 rfl rfl) ⟨rfl, rfl, rfl⟩ dX12_setsCell_260 rfl (sv_n _ (fun h9 => absurd h9.1 (by decide))) ?_
                  have hj_183 : jr (μ177.1 111 99) := by have h9 := G.hj (a := 111) (k := 99) rfl; rw [show (sv μ177 147 ((μ.1 144 (μ.1 136 (μ.1 111 53 - 3))) + r_171) (μ.1 135 (μ.1 111 53 - 1))).1 111 99 = μ177.1 111 99 from (sv_n _ (fun h9 => absurd h9.1 (by decide)))] at h9; exact h9
                  refine xa_last G (a := 148) (i := (μ.1 144 (μ.1 136 (μ.1 111 53 - 3))) + r_171) (x := μ177.1 111 99) rfl (by have h9 := G.lc (a := 148) (n := 20100) 86 rfl; omega) hj_183 dX12_setsCell_263 rfl (fun H locs G => ?_)
                  have hMZ_184 : MZ (sv μ 111 53 ((μ.1 111 53) - 3)) := MZ.mn1 hMZ (n := n) (s := μ.1 131 (n - 1)) (hn.symm) (by have h9 : μ.1 131 (n - 1) = μ.1 131 (n - 1) := rfl; exact h9) (by omega) (by have h9 : μ.1 111 53 = μ.1 111 53 := rfl; omega)
                  have hMZ_185 : MZ μ177 := MZ.cg hMZ_184 F_178 (by decide) (Eqf.fd hp_179 (by decide))
                  have hMZ9_ := MZ.sc (ν := (sv (sv μ177 147 ((μ.1 144 (μ.1 136 (μ.1 111 53 - 3))) + r_171) (μ.1 135 (μ.1 111 53 - 1))) 148 ((μ.1 144 (μ.1 136 (μ.1 111 53 - 3))) + r_171) (μ177.1 111 99))) (j0 := (μ.1 144 (μ.1 136 (μ.1 111 53 - 3))) + r_171) hMZ_185 (Eqa.fr (L := [148, 147]) (FrM.put (FrM.put FrM.rf (by decide)) (by decide)) (by decide)) (Eqf.fd (L := []) (fun j hj => ((sv_n _ (fun h9 => absurd h9.1 (by decide))).trans (sv_n _ (fun h9 => absurd h9.1 (by decide))))) (by decide)) (fun j hj => ((sv_n _ (by omega)).trans (sv_n _ (by omega)))) (fun j hj => ((sv_n _ (by omega)).trans (sv_n _ (by omega)))) (by unfold vv; rw [(show μ177.1 111 65 = μ.1 111 65 from ((hp_179 65 (by decide)).trans (sv_n _ (by decide)))), (show μ177.1 111 82 = μ.1 111 82 from ((hp_179 82 (by decide)).trans (sv_n _ (by decide)))), show (sv (sv μ177 147 ((μ.1 144 (μ.1 136 (μ.1 111 53 - 3))) + r_171) (μ.1 135 (μ.1 111 53 - 1))) 148 ((μ.1 144 (μ.1 136 (μ.1 111 53 - 3))) + r_171) (μ177.1 111 99)).1 147 ((μ.1 144 (μ.1 136 (μ.1 111 53 - 3))) + r_171) = μ.1 135 (μ.1 111 53 - 1) from ((sv_n _ (fun h9 => absurd h9.1 (by decide))).trans (sv_s _ _ _ _)), show (sv (sv μ177 147 ((μ.1 144 (μ.1 136 (μ.1 111 53 - 3))) + r_171) (μ.1 135 (μ.1 111 53 - 1))) 148 ((μ.1 144 (μ.1 136 (μ.1 111 53 - 3))) + r_171) (μ177.1 111 99)).1 148 ((μ.1 144 (μ.1 136 (μ.1 111 53 - 3))) + r_171) = μ177.1 111 99 from (sv_s _ _ _ _)]; rcases Classical.em (μ.1 135 (μ.1 111 53 - 1) = 1) with h9 | h9; (rw [h9]; exact VV.n1); (rw [show μ177.1 111 99 = _ from (hp_180 h9).2]; exact hsv1_))
                  have e_186 : (sv (sv μ177 147 ((μ.1 144 (μ.1 136 (μ.1 111 53 - 3))) + r_171) (μ.1 135 (μ.1 111 53 - 1))) 148 ((μ.1 144 (μ.1 136 (μ.1 111 53 - 3))) + r_171) (μ177.1 111 99)).1 111 83 = μ.1 111 83 := ((sv_n _ (fun h9 => absurd h9.1 (by decide))).trans ((sv_n _ (fun h9 => absurd h9.1 (by decide))).trans ((hp_179 83 (by decide)).trans (sv_n _ (by decide)))))
                  have hrx_187 := RX.eq (μ := μ) (ν := (sv (sv μ177 147 ((μ.1 144 (μ.1 136 (μ.1 111 53 - 3))) + r_171) (μ.1 135 (μ.1 111 53 - 1))) 148 ((μ.1 144 (μ.1 136 (μ.1 111 53 - 3))) + r_171) (μ177.1 111 99))) (Eqa.fr (L := [148, 147, 111]) (FrM.put (FrM.put (FrM.tr (FrM.put FrM.rf (by decide)) F_178 (by decide)) (by decide)) (by decide)) (by decide)) (Eqf.fd (L := [53, 98, 99]) (fun j hj => ((sv_n _ (fun h9 => absurd h9.1 (by decide))).trans ((sv_n _ (fun h9 => absurd h9.1 (by decide))).trans ((hp_179 j (fun h9 => hj ((by decide : ∀ x ∈ ([98, 99] : List Int), x ∈ ([53, 98, 99] : List Int)) j h9))).trans (sv_n _ (fun h9 => hj (by rw [h9.2]; decide))))))) (by decide))
                  exact xr_v G hret hlk dX12_setsCell_264 ⟨(FrM.put (FrM.put (FrM.tr (FrM.put FrM.rf (by decide)) F_178 (by decide)) (by decide)) (by decide)), (fun j hj => ((sv_n _ (fun h9 => absurd h9.1 (by decide))).trans ((sv_n _ (fun h9 => absurd h9.1 (by decide))).trans ((hp_179 j (fun h9 => hj ((by decide : ∀ x ∈ ([98, 99] : List Int), x ∈ ([47, 53, 61, 81, 82, 83, 84, 90, 91, 93, 94, 95, 96, 97, 98, 99] : List Int)) j h9))).trans (sv_n _ (fun h9 => hj (by rw [h9.2]; decide))))))), hMI.go (x := i + 1) (S := μ.1 111 53 + (-3)) (bl := μ.1 111 61) hMZ9_ ⟨(hMI.nx (e := -3) (by rw [ho]; unfold nxo; decide) (by rw [ho]; rfl)).1, (hMI.nx (e := -3) (by rw [ho]; unfold nxo; decide) (by rw [ho]; rfl)).2.trans (cem_n (by rw [ho]; unfold nxo; decide) (by rw [ho]; decide))⟩ (Eqa.fr (L := [148, 147, 111]) (FrM.put (FrM.put (FrM.tr (FrM.put FrM.rf (by decide)) F_178 (by decide)) (by decide)) (by decide)) (by decide)) (Eqf.fd (L := [53, 98, 99]) (fun j hj => ((sv_n _ (fun h9 => absurd h9.1 (by decide))).trans ((sv_n _ (fun h9 => absurd h9.1 (by decide))).trans ((hp_179 j (fun h9 => hj ((by decide : ∀ x ∈ ([98, 99] : List Int), x ∈ ([53, 98, 99] : List Int)) j h9))).trans (sv_n _ (fun h9 => hj (by rw [h9.2]; decide))))))) (by decide)) (by have h9 : (sv (sv μ177 147 ((μ.1 144 (μ.1 136 (μ.1 111 53 - 3))) + r_171) (μ.1 135 (μ.1 111 53 - 1))) 148 ((μ.1 144 (μ.1 136 (μ.1 111 53 - 3))) + r_171) (μ177.1 111 99)).1 129 (n - 1) = μ.1 129 (n - 1) := ((sv_n _ (fun h9 => absurd h9.1 (by decide))).trans ((sv_n _ (fun h9 => absurd h9.1 (by decide))).trans ((F_178.1 129 (by decide) (n - 1)).trans (sv_n _ (fun h9 => absurd h9.1 (by decide)))))); have h8 := hMI.2.2.2.2.2.1; omega) (by have h9 : (sv (sv μ177 147 ((μ.1 144 (μ.1 136 (μ.1 111 53 - 3))) + r_171) (μ.1 135 (μ.1 111 53 - 1))) 148 ((μ.1 144 (μ.1 136 (μ.1 111 53 - 3))) + r_171) (μ177.1 111 99)).1 111 53 = (μ.1 111 53) - 3 := ((sv_n _ (fun h9 => absurd h9.1 (by decide))).trans ((sv_n _ (fun h9 => absurd h9.1 (by decide))).trans ((hp_179 53 (by decide)).trans (sv_s _ _ _ _)))); omega) (by have h9 : (sv (sv μ177 147 ((μ.1 144 (μ.1 136 (μ.1 111 53 - 3))) + r_171) (μ.1 135 (μ.1 111 53 - 1))) 148 ((μ.1 144 (μ.1 136 (μ.1 111 53 - 3))) + r_171) (μ177.1 111 99)).1 111 61 = μ.1 111 61 := ((sv_n _ (fun h9 => absurd h9.1 (by decide))).trans ((sv_n _ (fun h9 => absurd h9.1 (by decide))).trans ((hp_179 61 (by decide)).trans (sv_n _ (by decide))))); omega) (by omega)⟩
                · refine lv_aload_n hx hb dX12_setsCell_221 rfl (lv_at hl 6 rfl) ?_
                  refine lv_iconst (v := iv 4) hx hb dX12_setsCell_222 rfl ?_
                  have e_188 : μ177.1 111 4 = μ.1 111 4 := ((hp_179 4 (by decide)).trans (sv_n _ (by decide)))
                  have e_189 : μ177.1 111 83 = μ.1 111 83 := ((hp_179 83 (by decide)).trans (sv_n _ (by decide)))
                  have hrx_190 := RX.eq (μ := μ) (ν := μ177) (Eqa.fr (L := [111]) (FrM.tr (FrM.put FrM.rf (by decide)) F_178 (by decide)) (by decide)) (Eqf.fd (L := [53, 98, 99]) (fun j hj => ((hp_179 j (fun h9 => hj ((by decide : ∀ x ∈ ([98, 99] : List Int), x ∈ ([53, 98, 99] : List Int)) j h9))).trans (sv_n _ (fun h9 => hj (by rw [h9.2]; decide))))) (by decide))
                  have e_191 : μ177.1 111 94 = μ.1 111 94 := ((hp_179 94 (by decide)).trans (sv_n _ (by decide)))
                  have e_192 : μ177.1 111 47 = n := ((hp_179 47 (by decide)).trans ((sv_n _ (by decide)).trans hn.symm))
                  have hMZ_193 : MZ (sv μ 111 53 ((μ.1 111 53) - 3)) := MZ.mn1 hMZ (n := n) (s := μ.1 131 (n - 1)) (hn.symm) (by have h9 : μ.1 131 (n - 1) = μ.1 131 (n - 1) := rfl; exact h9) (by omega) (by have h9 : μ.1 111 53 = μ.1 111 53 := rfl; omega)
                  have hMZ_194 : MZ μ177 := MZ.cg hMZ_193 F_178 (by decide) (Eqf.fd hp_179 (by decide))
                  have e_195 : μ177.1 111 94 = μ.1 111 94 := ((hp_179 94 (by decide)).trans (sv_n _ (by decide)))
                  have e_196 : μ177.1 111 53 = (μ.1 111 53) - 3 := ((hp_179 53 (by decide)).trans (sv_s _ _ _ _))
                  refine xc_vV G (b := 111) (rest := []) (As := [.int (iv 4)]) (c_X12_arisesHere ω l μ177 4 n (by unfold ir; omega) (by omega) hMZ_194 (by omega) (by omega) (fun _ => by omega) (by omega)) (wm 10 207 rfl rfl) (wm 10 209 rfl rfl) (wm 0 215 rfl rfl) rfl rfl (by decide) rfl (wm 1 18 rfl rfl) (wm 10 210 rfl rfl) (by decide) hR (by decide) (n := 1) rfl rfl (Nat.le_of_ble_eq_true rfl) hl.1 dX12_setsCell_223 (fun μ197 ρ d0 H locs hp G => ?_)
                  obtain ⟨F_198, hp_199, hp_200⟩ := hp
                  exact xr_v G hret hlk dX12_setsCell_226 ⟨(FrM.tr (FrM.tr (FrM.put FrM.rf (by decide)) F_178 (by decide)) F_198 (by decide)), (fun j hj => ((hp_199 j (fun h9 => hj ((by decide : ∀ x ∈ ([47, 53, 61, 81, 82, 83, 84, 90, 91, 93, 94, 95, 96, 97, 98, 99] : List Int), x ∈ ([47, 53, 61, 81, 82, 83, 84, 90, 91, 93, 94, 95, 96, 97, 98, 99] : List Int)) j h9))).trans ((hp_179 j (fun h9 => hj ((by decide : ∀ x ∈ ([98, 99] : List Int), x ∈ ([47, 53, 61, 81, 82, 83, 84, 90, 91, 93, 94, 95, 96, 97, 98, 99] : List Int)) j h9))).trans (sv_n _ (fun h9 => hj (by rw [h9.2]; decide)))))), (hp_200.le (by omega))⟩
              · refine lv_aload_n hx hb dX12_setsCell_189 rfl (lv_at hl 6 rfl) ?_
                refine lv_iconst (v := iv 1) hx hb dX12_setsCell_190 rfl ?_
                refine lv_iconst (v := iv 4) hx hb dX12_setsCell_191 rfl ?_
                refine lv_lload hx hb dX12_setsCell_192 (lv_at hl 2 rfl) ?_
                have e_201 : (sv μ 111 53 ((μ.1 111 53) - 3)).1 111 83 = μ.1 111 83 := (sv_n _ (by decide))
                have hrx_202 := RX.eq (μ := μ) (ν := (sv μ 111 53 ((μ.1 111 53) - 3))) (Eqa.fr (L := [111]) (FrM.put FrM.rf (by decide)) (by decide)) (Eqf.fd (L := [53]) (fun j hj => (sv_n _ (fun h9 => hj (by rw [h9.2]; decide)))) (by decide))
                have e_203 : (sv μ 111 53 ((μ.1 111 53) - 3)).1 111 94 = μ.1 111 94 := (sv_n _ (by decide))
                have e_204 : (sv μ 111 53 ((μ.1 111 53) - 3)).1 111 47 = n := ((sv_n _ (by decide)).trans hn.symm)
                have hMZ_205 : MZ (sv μ 111 53 ((μ.1 111 53) - 3)) := MZ.mn1 hMZ (n := n) (s := μ.1 131 (n - 1)) (hn.symm) (by have h9 : μ.1 131 (n - 1) = μ.1 131 (n - 1) := rfl; exact h9) (by omega) (by have h9 : μ.1 111 53 = μ.1 111 53 := rfl; omega)
                have e_206 : (sv μ 111 53 ((μ.1 111 53) - 3)).1 111 94 = μ.1 111 94 := (sv_n _ (by decide))
                refine xc_vV G (b := 111) (rest := []) (As := [.int (iv 1), .int (iv 4), .long (jv (μ.1 136 (μ.1 111 53 - 1)))]) (c_X12_unwinds_a ω l (sv μ 111 53 ((μ.1 111 53) - 3)) 1 4 (μ.1 136 (μ.1 111 53 - 1)) n (by unfold ir; omega) (by unfold ir; omega) hj_6 (by omega) hMZ_205 (by omega) (by omega) (by omega) (fun _ => VV.n4 (by rw [(show (sv μ 111 53 ((μ.1 111 53) - 3)).1 111 82 = μ.1 111 82 from (sv_n _ (by decide)))]; exact hsv1_.2.2.2 (by omega))) (fun h9 => absurd h9 (by decide))) (wm 10 135 rfl rfl) (wm 10 137 rfl rfl) (wm 0 197 rfl rfl) rfl rfl (by decide) rfl (wm 1 18 rfl rfl) (wm 10 138 rfl rfl) (by decide) hR (by decide) (n := 3) rfl rfl (Nat.le_of_ble_eq_true rfl) hl.1 dX12_setsCell_194 (fun μ207 ρ d0 H locs hp G => ?_)
                obtain ⟨F_208, hp_209, hp_210⟩ := hp
                exact xr_v G hret hlk dX12_setsCell_197 ⟨(FrM.tr (FrM.put FrM.rf (by decide)) F_208 (by decide)), (fun j hj => ((hp_209 j (fun h9 => hj ((by decide : ∀ x ∈ ([47, 53, 61, 81, 82, 83, 84, 90, 91, 93, 94, 95, 96, 97, 98, 99] : List Int), x ∈ ([47, 53, 61, 81, 82, 83, 84, 90, 91, 93, 94, 95, 96, 97, 98, 99] : List Int)) j h9))).trans (sv_n _ (fun h9 => hj (by rw [h9.2]; decide))))), (hp_210.le (by omega))⟩
            · refine lv_aload_n hx hb dX12_setsCell_177 rfl (lv_at hl 6 rfl) ?_
              refine lv_iconst (v := iv 2) hx hb dX12_setsCell_178 rfl ?_
              have e_211 : (sv μ 111 53 ((μ.1 111 53) - 3)).1 111 4 = μ.1 111 4 := (sv_n _ (by decide))
              have e_212 : (sv μ 111 53 ((μ.1 111 53) - 3)).1 111 83 = μ.1 111 83 := (sv_n _ (by decide))
              have hrx_213 := RX.eq (μ := μ) (ν := (sv μ 111 53 ((μ.1 111 53) - 3))) (Eqa.fr (L := [111]) (FrM.put FrM.rf (by decide)) (by decide)) (Eqf.fd (L := [53]) (fun j hj => (sv_n _ (fun h9 => hj (by rw [h9.2]; decide)))) (by decide))
              have e_214 : (sv μ 111 53 ((μ.1 111 53) - 3)).1 111 94 = μ.1 111 94 := (sv_n _ (by decide))
              have e_215 : (sv μ 111 53 ((μ.1 111 53) - 3)).1 111 47 = n := ((sv_n _ (by decide)).trans hn.symm)
              have hMZ_216 : MZ (sv μ 111 53 ((μ.1 111 53) - 3)) := MZ.mn1 hMZ (n := n) (s := μ.1 131 (n - 1)) (hn.symm) (by have h9 : μ.1 131 (n - 1) = μ.1 131 (n - 1) := rfl; exact h9) (by omega) (by have h9 : μ.1 111 53 = μ.1 111 53 := rfl; omega)
              have e_217 : (sv μ 111 53 ((μ.1 111 53) - 3)).1 111 94 = μ.1 111 94 := (sv_n _ (by decide))
              have e_218 : (sv μ 111 53 ((μ.1 111 53) - 3)).1 111 53 = (μ.1 111 53) - 3 := (sv_s _ _ _ _)
              refine xc_vV G (b := 111) (rest := []) (As := [.int (iv 2)]) (c_X12_arisesHere ω l (sv μ 111 53 ((μ.1 111 53) - 3)) 2 n (by unfold ir; omega) (by omega) hMZ_216 (by omega) (by omega) (fun _ => by omega) (by omega)) (wm 10 207 rfl rfl) (wm 10 209 rfl rfl) (wm 0 215 rfl rfl) rfl rfl (by decide) rfl (wm 1 18 rfl rfl) (wm 10 210 rfl rfl) (by decide) hR (by decide) (n := 1) rfl rfl (Nat.le_of_ble_eq_true rfl) hl.1 dX12_setsCell_179 (fun μ219 ρ d0 H locs hp G => ?_)
              obtain ⟨F_220, hp_221, hp_222⟩ := hp
              exact xr_v G hret hlk dX12_setsCell_182 ⟨(FrM.tr (FrM.put FrM.rf (by decide)) F_220 (by decide)), (fun j hj => ((hp_221 j (fun h9 => hj ((by decide : ∀ x ∈ ([47, 53, 61, 81, 82, 83, 84, 90, 91, 93, 94, 95, 96, 97, 98, 99] : List Int), x ∈ ([47, 53, 61, 81, 82, 83, 84, 90, 91, 93, 94, 95, 96, 97, 98, 99] : List Int)) j h9))).trans (sv_n _ (fun h9 => hj (by rw [h9.2]; decide))))), (hp_222.le (by omega))⟩
          · refine lv_aload_n hx hb dX12_setsCell_118 rfl (lv_at hl 4 rfl) ?_
            refine lv_iload_n hx hb dX12_setsCell_119 rfl (lv_at hl 3 rfl) ?_
            refine xb_if_ne (tgt := 127) hx hb (by unfold ir; omega) dX12_setsCell_120 (by decide) (fun c_120 => ?_) (fun c_120 => ?_)
            · refine lv_iconst (v := iv 4) hx hb dX12_setsCell_127 rfl ?_
              have e_223 : (sv μ 111 53 ((μ.1 111 53) - 3)).1 111 4 = μ.1 111 4 := (sv_n _ (by decide))
              have e_224 : (sv μ 111 53 ((μ.1 111 53) - 3)).1 111 83 = μ.1 111 83 := (sv_n _ (by decide))
              have hrx_225 := RX.eq (μ := μ) (ν := (sv μ 111 53 ((μ.1 111 53) - 3))) (Eqa.fr (L := [111]) (FrM.put FrM.rf (by decide)) (by decide)) (Eqf.fd (L := [53]) (fun j hj => (sv_n _ (fun h9 => hj (by rw [h9.2]; decide)))) (by decide))
              have e_226 : (sv μ 111 53 ((μ.1 111 53) - 3)).1 111 94 = μ.1 111 94 := (sv_n _ (by decide))
              have e_227 : (sv μ 111 53 ((μ.1 111 53) - 3)).1 111 47 = n := ((sv_n _ (by decide)).trans hn.symm)
              have hMZ_228 : MZ (sv μ 111 53 ((μ.1 111 53) - 3)) := MZ.mn1 hMZ (n := n) (s := μ.1 131 (n - 1)) (hn.symm) (by have h9 : μ.1 131 (n - 1) = μ.1 131 (n - 1) := rfl; exact h9) (by omega) (by have h9 : μ.1 111 53 = μ.1 111 53 := rfl; omega)
              have e_229 : (sv μ 111 53 ((μ.1 111 53) - 3)).1 111 94 = μ.1 111 94 := (sv_n _ (by decide))
              have e_230 : (sv μ 111 53 ((μ.1 111 53) - 3)).1 111 53 = (μ.1 111 53) - 3 := (sv_s _ _ _ _)
              refine xc_vV G (b := 111) (rest := []) (As := [.int (iv 4)]) (c_X12_arisesHere ω l (sv μ 111 53 ((μ.1 111 53) - 3)) 4 n (by unfold ir; omega) (by omega) hMZ_228 (by omega) (by omega) (fun _ => by omega) (by omega)) (wm 10 207 rfl rfl) (wm 10 209 rfl rfl) (wm 0 215 rfl rfl) rfl rfl (by decide) rfl (wm 1 18 rfl rfl) (wm 10 210 rfl rfl) (by decide) hR (by decide) (n := 1) rfl rfl (Nat.le_of_ble_eq_true rfl) hl.1 dX12_setsCell_128 (fun μ231 ρ d0 H locs hp G => ?_)
              obtain ⟨F_232, hp_233, hp_234⟩ := hp
              exact xr_v G hret hlk dX12_setsCell_131 ⟨(FrM.tr (FrM.put FrM.rf (by decide)) F_232 (by decide)), (fun j hj => ((hp_233 j (fun h9 => hj ((by decide : ∀ x ∈ ([47, 53, 61, 81, 82, 83, 84, 90, 91, 93, 94, 95, 96, 97, 98, 99] : List Int), x ∈ ([47, 53, 61, 81, 82, 83, 84, 90, 91, 93, 94, 95, 96, 97, 98, 99] : List Int)) j h9))).trans (sv_n _ (fun h9 => hj (by rw [h9.2]; decide))))), (hp_234.le (by omega))⟩
            · refine lv_iconst (v := iv 3) hx hb dX12_setsCell_123 rfl ?_
              refine lv_goto (tgt := 128) hx hb dX12_setsCell_124 (by decide) ?_
              have e_235 : (sv μ 111 53 ((μ.1 111 53) - 3)).1 111 4 = μ.1 111 4 := (sv_n _ (by decide))
              have e_236 : (sv μ 111 53 ((μ.1 111 53) - 3)).1 111 83 = μ.1 111 83 := (sv_n _ (by decide))
              have hrx_237 := RX.eq (μ := μ) (ν := (sv μ 111 53 ((μ.1 111 53) - 3))) (Eqa.fr (L := [111]) (FrM.put FrM.rf (by decide)) (by decide)) (Eqf.fd (L := [53]) (fun j hj => (sv_n _ (fun h9 => hj (by rw [h9.2]; decide)))) (by decide))
              have e_238 : (sv μ 111 53 ((μ.1 111 53) - 3)).1 111 94 = μ.1 111 94 := (sv_n _ (by decide))
              have e_239 : (sv μ 111 53 ((μ.1 111 53) - 3)).1 111 47 = n := ((sv_n _ (by decide)).trans hn.symm)
              have hMZ_240 : MZ (sv μ 111 53 ((μ.1 111 53) - 3)) := MZ.mn1 hMZ (n := n) (s := μ.1 131 (n - 1)) (hn.symm) (by have h9 : μ.1 131 (n - 1) = μ.1 131 (n - 1) := rfl; exact h9) (by omega) (by have h9 : μ.1 111 53 = μ.1 111 53 := rfl; omega)
              have e_241 : (sv μ 111 53 ((μ.1 111 53) - 3)).1 111 94 = μ.1 111 94 := (sv_n _ (by decide))
              have e_242 : (sv μ 111 53 ((μ.1 111 53) - 3)).1 111 53 = (μ.1 111 53) - 3 := (sv_s _ _ _ _)
              refine xc_vV G (b := 111) (rest := []) (As := [.int (iv 3)]) (c_X12_arisesHere ω l (sv μ 111 53 ((μ.1 111 53) - 3)) 3 n (by unfold ir; omega) (by omega) hMZ_240 (by omega) (by omega) (fun _ => by omega) (by omega)) (wm 10 207 rfl rfl) (wm 10 209 rfl rfl) (wm 0 215 rfl rfl) rfl rfl (by decide) rfl (wm 1 18 rfl rfl) (wm 10 210 rfl rfl) (by decide) hR (by decide) (n := 1) rfl rfl (Nat.le_of_ble_eq_true rfl) hl.1 dX12_setsCell_128 (fun μ243 ρ d0 H locs hp G => ?_)
              obtain ⟨F_244, hp_245, hp_246⟩ := hp
              exact xr_v G hret hlk dX12_setsCell_131 ⟨(FrM.tr (FrM.put FrM.rf (by decide)) F_244 (by decide)), (fun j hj => ((hp_245 j (fun h9 => hj ((by decide : ∀ x ∈ ([47, 53, 61, 81, 82, 83, 84, 90, 91, 93, 94, 95, 96, 97, 98, 99] : List Int), x ∈ ([47, 53, 61, 81, 82, 83, 84, 90, 91, 93, 94, 95, 96, 97, 98, 99] : List Int)) j h9))).trans (sv_n _ (fun h9 => hj (by rw [h9.2]; decide))))), (hp_246.le (by omega))⟩
      · refine lv_aload_n hx hb dX12_setsCell_73 rfl (lv_at hl 4 rfl) ?_
        refine lv_iconst (v := iv 1) hx hb dX12_setsCell_74 rfl ?_
        refine lv_iconst (v := iv 4) hx hb dX12_setsCell_75 rfl ?_
        refine lv_iload_n hx hb dX12_setsCell_76 rfl (lv_at hl 3 rfl) ?_
        refine lv_iconst (v := iv 4) hx hb dX12_setsCell_77 rfl ?_
        refine xb_icmp_ne (tgt := 93) hx hb (by unfold ir; omega) (by unfold ir; omega) dX12_setsCell_78 (by decide) (fun c_78 => ?_) (fun c_78 => ?_)
        · refine lv_aload_n hx hb dX12_setsCell_93 rfl (lv_at hl 4 rfl) ?_
          refine xa_getr G fd_X12 (a := 111) (x := 136) 52 rfl (by decide) rfl (wm 7 201 rfl rfl) ⟨rfl, rfl, rfl⟩ dX12_setsCell_94 rfl (G.sk 134 rfl) (by decide) rfl ?_
          refine lv_aload_n hx hb dX12_setsCell_97 rfl (lv_at hl 4 rfl) ?_
          refine xa_geti G fd_X12 (a := 111) (x := (μ.1 111 53) - 3) 53 rfl (by decide) rfl (wm 7 202 rfl rfl) ⟨rfl, rfl, rfl⟩ dX12_setsCell_98 rfl (sv_s _ _ _ _) ?_
          refine lv_iconst (v := iv 1) hx hb dX12_setsCell_101 rfl ?_
          refine xb_iadd hx hb dX12_setsCell_102 ?_
          refine xb_ti (y := (μ.1 111 53) - 2) (by omega) ?_
          refine xa_lald G (a := 136) (i := (μ.1 111 53) - 2) rfl (by have h9 := G.lc (a := 136) (n := 9000) 74 rfl; omega) dX12_setsCell_103 rfl ?_
          refine xb_tl (y := μ.1 136 (μ.1 111 53 - 2)) (sv_n _ (fun h9 => absurd h9.1 (by decide))) ?_
          have hj_247 : jr (μ.1 136 (μ.1 111 53 - 2)) := (by have h9 := G.hj (a := 136) (k := (μ.1 111 53) - 2) rfl; rw [(sv_n _ (fun h9 => absurd h9.1 (by decide)))] at h9; exact h9)
          have e_248 : (sv μ 111 53 ((μ.1 111 53) - 3)).1 111 83 = μ.1 111 83 := (sv_n _ (by decide))
          have hrx_249 := RX.eq (μ := μ) (ν := (sv μ 111 53 ((μ.1 111 53) - 3))) (Eqa.fr (L := [111]) (FrM.put FrM.rf (by decide)) (by decide)) (Eqf.fd (L := [53]) (fun j hj => (sv_n _ (fun h9 => hj (by rw [h9.2]; decide)))) (by decide))
          have e_250 : (sv μ 111 53 ((μ.1 111 53) - 3)).1 111 94 = μ.1 111 94 := (sv_n _ (by decide))
          have e_251 : (sv μ 111 53 ((μ.1 111 53) - 3)).1 111 47 = n := ((sv_n _ (by decide)).trans hn.symm)
          have hMZ_252 : MZ (sv μ 111 53 ((μ.1 111 53) - 3)) := MZ.mn1 hMZ (n := n) (s := μ.1 131 (n - 1)) (hn.symm) (by have h9 : μ.1 131 (n - 1) = μ.1 131 (n - 1) := rfl; exact h9) (by omega) (by have h9 : μ.1 111 53 = μ.1 111 53 := rfl; omega)
          have e_253 : (sv μ 111 53 ((μ.1 111 53) - 3)).1 111 94 = μ.1 111 94 := (sv_n _ (by decide))
          refine xc_vV G (b := 111) (rest := []) (As := [.int (iv 1), .int (iv 4), .long (jv (μ.1 136 (μ.1 111 53 - 2)))]) (c_X12_unwinds_a ω l (sv μ 111 53 ((μ.1 111 53) - 3)) 1 4 (μ.1 136 (μ.1 111 53 - 2)) n (by unfold ir; omega) (by unfold ir; omega) hj_247 (by omega) hMZ_252 (by omega) (by omega) (by omega) (fun _ => VV.n4 (by rw [(show (sv μ 111 53 ((μ.1 111 53) - 3)).1 111 82 = μ.1 111 82 from (sv_n _ (by decide)))]; exact hsv2_.2.2.2 (by omega))) (fun h9 => absurd h9 (by decide))) (wm 10 135 rfl rfl) (wm 10 137 rfl rfl) (wm 0 197 rfl rfl) rfl rfl (by decide) rfl (wm 1 18 rfl rfl) (wm 10 138 rfl rfl) (by decide) hR (by decide) (n := 3) rfl rfl (Nat.le_of_ble_eq_true rfl) hl.1 dX12_setsCell_104 (fun μ254 ρ d0 H locs hp G => ?_)
          obtain ⟨F_255, hp_256, hp_257⟩ := hp
          exact xr_v G hret hlk dX12_setsCell_107 ⟨(FrM.tr (FrM.put FrM.rf (by decide)) F_255 (by decide)), (fun j hj => ((hp_256 j (fun h9 => hj ((by decide : ∀ x ∈ ([47, 53, 61, 81, 82, 83, 84, 90, 91, 93, 94, 95, 96, 97, 98, 99] : List Int), x ∈ ([47, 53, 61, 81, 82, 83, 84, 90, 91, 93, 94, 95, 96, 97, 98, 99] : List Int)) j h9))).trans (sv_n _ (fun h9 => hj (by rw [h9.2]; decide))))), (hp_257.le (by omega))⟩
        · refine lv_aload_n hx hb dX12_setsCell_81 rfl (lv_at hl 4 rfl) ?_
          refine xa_getr G fd_X12 (a := 111) (x := 136) 52 rfl (by decide) rfl (wm 7 201 rfl rfl) ⟨rfl, rfl, rfl⟩ dX12_setsCell_82 rfl (G.sk 134 rfl) (by decide) rfl ?_
          refine lv_aload_n hx hb dX12_setsCell_85 rfl (lv_at hl 4 rfl) ?_
          refine xa_geti G fd_X12 (a := 111) (x := (μ.1 111 53) - 3) 53 rfl (by decide) rfl (wm 7 202 rfl rfl) ⟨rfl, rfl, rfl⟩ dX12_setsCell_86 rfl (sv_s _ _ _ _) ?_
          refine xa_lald G (a := 136) (i := (μ.1 111 53) - 3) rfl (by have h9 := G.lc (a := 136) (n := 9000) 74 rfl; omega) dX12_setsCell_89 rfl ?_
          refine xb_tl (y := μ.1 136 (μ.1 111 53 - 3)) (sv_n _ (fun h9 => absurd h9.1 (by decide))) ?_
          have hj_258 : jr (μ.1 136 (μ.1 111 53 - 3)) := (by have h9 := G.hj (a := 136) (k := (μ.1 111 53) - 3) rfl; rw [(sv_n _ (fun h9 => absurd h9.1 (by decide)))] at h9; exact h9)
          refine lv_goto (tgt := 104) hx hb dX12_setsCell_90 (by decide) ?_
          have e_259 : (sv μ 111 53 ((μ.1 111 53) - 3)).1 111 83 = μ.1 111 83 := (sv_n _ (by decide))
          have hrx_260 := RX.eq (μ := μ) (ν := (sv μ 111 53 ((μ.1 111 53) - 3))) (Eqa.fr (L := [111]) (FrM.put FrM.rf (by decide)) (by decide)) (Eqf.fd (L := [53]) (fun j hj => (sv_n _ (fun h9 => hj (by rw [h9.2]; decide)))) (by decide))
          have e_261 : (sv μ 111 53 ((μ.1 111 53) - 3)).1 111 94 = μ.1 111 94 := (sv_n _ (by decide))
          have e_262 : (sv μ 111 53 ((μ.1 111 53) - 3)).1 111 47 = n := ((sv_n _ (by decide)).trans hn.symm)
          have hMZ_263 : MZ (sv μ 111 53 ((μ.1 111 53) - 3)) := MZ.mn1 hMZ (n := n) (s := μ.1 131 (n - 1)) (hn.symm) (by have h9 : μ.1 131 (n - 1) = μ.1 131 (n - 1) := rfl; exact h9) (by omega) (by have h9 : μ.1 111 53 = μ.1 111 53 := rfl; omega)
          have e_264 : (sv μ 111 53 ((μ.1 111 53) - 3)).1 111 94 = μ.1 111 94 := (sv_n _ (by decide))
          refine xc_vV G (b := 111) (rest := []) (As := [.int (iv 1), .int (iv 4), .long (jv (μ.1 136 (μ.1 111 53 - 3)))]) (c_X12_unwinds_a ω l (sv μ 111 53 ((μ.1 111 53) - 3)) 1 4 (μ.1 136 (μ.1 111 53 - 3)) n (by unfold ir; omega) (by unfold ir; omega) hj_258 (by omega) hMZ_263 (by omega) (by omega) (by omega) (fun _ => VV.n4 (by rw [(show (sv μ 111 53 ((μ.1 111 53) - 3)).1 111 82 = μ.1 111 82 from (sv_n _ (by decide)))]; exact hsv3_.2.2.2 (by omega))) (fun h9 => absurd h9 (by decide))) (wm 10 135 rfl rfl) (wm 10 137 rfl rfl) (wm 0 197 rfl rfl) rfl rfl (by decide) rfl (wm 1 18 rfl rfl) (wm 10 138 rfl rfl) (by decide) hR (by decide) (n := 3) rfl rfl (Nat.le_of_ble_eq_true rfl) hl.1 dX12_setsCell_104 (fun μ265 ρ d0 H locs hp G => ?_)
          obtain ⟨F_266, hp_267, hp_268⟩ := hp
          exact xr_v G hret hlk dX12_setsCell_107 ⟨(FrM.tr (FrM.put FrM.rf (by decide)) F_266 (by decide)), (fun j hj => ((hp_267 j (fun h9 => hj ((by decide : ∀ x ∈ ([47, 53, 61, 81, 82, 83, 84, 90, 91, 93, 94, 95, 96, 97, 98, 99] : List Int), x ∈ ([47, 53, 61, 81, 82, 83, 84, 90, 91, 93, 94, 95, 96, 97, 98, 99] : List Int)) j h9))).trans (sv_n _ (fun h9 => hj (by rw [h9.2]; decide))))), (hp_268.le (by omega))⟩

set_option maxHeartbeats 4000000 in
set_option maxRecDepth 100000 in
theorem c_X12_failsBy (ω : Om) (l : Launch) (μ : M3) (i : Int) (kk : Int) (n : Int) (hn : n = μ.1 111 47) (hMZ : MZ μ) (h1 : 1 ≤ n ∧ n ≤ 24) (h94 : μ.1 111 94 = 0) (hMI : MI μ n i kk) (ho : μ.1 115 kk = 18) : CtV ω l yX12_failsBy cX12_failsBy 1 187 5070 [.ref (oP ω 111)] μ (fun (μ' : M3) => (FrM [111, 129, 133, 134, 135, 136, 137, 138, 139, 140, 141, 142, 143, 149, 150, 151, 152, 153, 154, 155, 156, 157, 158, 159] μ μ') ∧ (∀ j, j ∉ ([47, 53, 61, 81, 82, 83, 84, 90, 91, 93, 94, 95, 96, 97, 98, 99] : List Int) → μ'.1 111 j = μ.1 111 j) ∧ (RES μ' (RK0 μ n i - 1))) := by
  refine CtV.go (by decide) (Nat.le_of_ble_eq_true rfl) (fun ρ p e s m below meth c R ls G hR hret hlk hl => ?_)
  have hx := G.1.1
  have hb := G.1.2.1
  have hl : lv_has ls 1 [(0, .ref (oP ω 111))] := hl
  generalize s.drawn = d0 at G ⊢
  have hzn_ := hMZ.n
  rw [← hn] at hzn_
  obtain ⟨hz47, hzFB, hzFL, hz81, hz82, hz84, hz65, hz4, hz104⟩ := hzn_
  have hk0_ := hMI.k0
  have hfr_ := (hMZ.2.2.1 (n - 1) (by omega) (by omega)).1.1
  have hzB := FB_1 (μ := μ) (n := n) (by omega)
  have hzL := FL_1 (μ := μ) (n := n) (by omega)
  have hlw_ := hMI.low
  have hlo_ := hlw_.1 (by omega)
  have hle_ := hlw_.2.2.2.2.2.2.1
  clear hlw_
  have ht1_ := hMI.rul.2.2.1 ho
  refine lv_aload_n hx hb dX12_failsBy_0 rfl (lv_at hl 0 rfl) ?_
  have e_1 : μ.1 111 47 = n := hn.symm
  refine xc_iV G (b := 111) (rest := []) (As := []) (c_X12_asksNumber ω l μ n (μ.1 111 53) (by omega) (by omega) hMZ (by omega) (by omega) (by omega) (by omega)) (wm 10 215 rfl rfl) (wm 10 217 rfl rfl) (wm 0 217 rfl rfl) rfl rfl (by decide) rfl (wm 1 18 rfl rfl) (wm 10 218 rfl rfl) (by decide) hR (by decide) (n := 0) rfl rfl (Nat.le_of_ble_eq_true rfl) hl.1 dX12_failsBy_1 (fun r_3 μ2 ρ d0 H locs hr_r_3 hp G => ?_)
  have hr_r_3 : -2147483648 ≤ r_3 ∧ r_3 ≤ 2147483647 := hr_r_3
  obtain ⟨F_4, hp_5, hp_6, hp_7, hp_8, hp_9⟩ := hp
  replace hp_8 := fun _ : Unit => hp_8
  refine xb_if_ne (tgt := 8) hx hb (by unfold ir; omega) dX12_failsBy_4 (by decide) (fun c_4 => ?_) (fun c_4 => ?_)
  · obtain ⟨hak_10, hak_102⟩ := (hp_8 ()) (by omega)
    have hak_10 := Eq.symm hak_10
    subst hak_10
    refine lv_aload_n hx hb dX12_failsBy_8 rfl (lv_at hl 0 rfl) ?_
    refine lv_dup hx hb dX12_failsBy_9 rfl ?_
    refine xa_geti G fd_X12 (a := 111) (x := μ.1 111 53) 53 rfl (by decide) rfl (wm 7 202 rfl rfl) ⟨rfl, rfl, rfl⟩ dX12_failsBy_10 rfl rfl ?_
    have hr_11 : -2147483648 ≤ μ.1 111 53 ∧ μ.1 111 53 ≤ 2147483647 := by have h9 := G.hr (a := 111) (k := 53) rfl; exact h9
    refine lv_iconst (v := iv 1) hx hb dX12_failsBy_13 rfl ?_
    refine xb_isub hx hb dX12_failsBy_14 ?_
    refine xa_puti G fd_X12 (a := 111) (x := (μ.1 111 53) - 1) 53 (kz := 53) rfl rfl (by decide) rfl (by unfold ir; omega) (wm 7 202 rfl rfl) ⟨rfl, rfl, rfl, rfl⟩ rfl dX12_failsBy_15 rfl (fun H locs G => ?_)
    refine lv_aload_n hx hb dX12_failsBy_18 rfl (lv_at hl 0 rfl) ?_
    refine xa_getr G fd_X12 (a := 111) (x := 136) 52 rfl (by decide) rfl (wm 7 201 rfl rfl) ⟨rfl, rfl, rfl⟩ dX12_failsBy_19 rfl (G.sk 134 rfl) (by decide) rfl ?_
    refine lv_aload_n hx hb dX12_failsBy_22 rfl (lv_at hl 0 rfl) ?_
    refine xa_geti G fd_X12 (a := 111) (x := (μ.1 111 53) - 1) 53 rfl (by decide) rfl (wm 7 202 rfl rfl) ⟨rfl, rfl, rfl⟩ dX12_failsBy_23 rfl (sv_s _ _ _ _) ?_
    have hr_12 : -2147483648 ≤ (μ.1 111 53) - 1 ∧ (μ.1 111 53) - 1 ≤ 2147483647 := by have h9 := G.hr (a := 111) (k := 53) rfl; rw [show (sv μ 111 53 ((μ.1 111 53) - 1)).1 111 53 = (μ.1 111 53) - 1 from (sv_s _ _ _ _)] at h9; exact h9
    refine xa_lald G (a := 136) (i := (μ.1 111 53) - 1) rfl (by have h9 := G.lc (a := 136) (n := 9000) 74 rfl; omega) dX12_failsBy_26 rfl ?_
    refine xb_tl (y := μ.1 136 (μ.1 111 53 - 1)) (sv_n _ (fun h9 => absurd h9.1 (by decide))) ?_
    have hj_13 : jr (μ.1 136 (μ.1 111 53 - 1)) := (by have h9 := G.hj (a := 136) (k := (μ.1 111 53) - 1) rfl; rw [(sv_n _ (fun h9 => absurd h9.1 (by decide)))] at h9; exact h9)
    refine lv_lconst (v := jv 0) hx hb dX12_failsBy_27 rfl ?_
    refine xb_lcmp hx hb hj_13 (by unfold jr; omega) dX12_failsBy_28 ?_
    have hr_14 : -2147483648 ≤ lcm (μ.1 136 (μ.1 111 53 - 1)) 0 ∧ lcm (μ.1 136 (μ.1 111 53 - 1)) 0 ≤ 2147483647 := lcm_ir _ _
    refine xb_if_eq (tgt := 48) hx hb (by unfold ir; omega) dX12_failsBy_29 (by decide) (fun c_29 => ?_) (fun c_29 => ?_)
    · have e_15 : (sv μ 111 53 ((μ.1 111 53) - 1)).1 111 83 = μ.1 111 83 := (sv_n _ (by decide))
      have hrx_16 := RX.eq (μ := μ) (ν := (sv μ 111 53 ((μ.1 111 53) - 1))) (Eqa.fr (L := [111]) (FrM.put FrM.rf (by decide)) (by decide)) (Eqf.fd (L := [53]) (fun j hj => (sv_n _ (fun h9 => hj (by rw [h9.2]; decide)))) (by decide))
      have hMZ_17 : MZ (sv μ 111 53 ((μ.1 111 53) - 1)) := MZ.mn1 hMZ (n := n) (s := μ.1 131 (n - 1)) (hn.symm) (by have h9 : μ.1 131 (n - 1) = μ.1 131 (n - 1) := rfl; exact h9) (by omega) (by have h9 : μ.1 111 53 = μ.1 111 53 := rfl; omega)
      exact xr_v G hret hlk dX12_failsBy_48 ⟨(FrM.put FrM.rf (by decide)), (fun j hj => (sv_n _ (fun h9 => hj (by rw [h9.2]; decide)))), hMI.go (x := i + 1) (S := μ.1 111 53 + (-1)) (bl := μ.1 111 61) hMZ_17 ⟨(hMI.nx (e := -1) (by rw [ho]; unfold nxo; decide) (by rw [ho]; rfl)).1, (hMI.nx (e := -1) (by rw [ho]; unfold nxo; decide) (by rw [ho]; rfl)).2.trans (cem_n (by rw [ho]; unfold nxo; decide) (by rw [ho]; decide))⟩ (Eqa.fr (L := [111]) (FrM.put FrM.rf (by decide)) (by decide)) (Eqf.fd (L := [53]) (fun j hj => (sv_n _ (fun h9 => hj (by rw [h9.2]; decide)))) (by decide)) (by have h9 : (sv μ 111 53 ((μ.1 111 53) - 1)).1 129 (n - 1) = μ.1 129 (n - 1) := (sv_n _ (fun h9 => absurd h9.1 (by decide))); have h8 := hMI.2.2.2.2.2.1; omega) (by have h9 : (sv μ 111 53 ((μ.1 111 53) - 1)).1 111 53 = (μ.1 111 53) - 1 := (sv_s _ _ _ _); omega) (by have h9 : (sv μ 111 53 ((μ.1 111 53) - 1)).1 111 61 = μ.1 111 61 := (sv_n _ (by decide)); omega) (by omega)⟩
    · refine lv_aload_n hx hb dX12_failsBy_32 rfl (lv_at hl 0 rfl) ?_
      refine lv_aload_n hx hb dX12_failsBy_33 rfl (lv_at hl 0 rfl) ?_
      refine xa_getr G fd_X12 (a := 111) (x := 136) 52 rfl (by decide) rfl (wm 7 201 rfl rfl) ⟨rfl, rfl, rfl⟩ dX12_failsBy_34 rfl (G.sk 134 rfl) (by decide) rfl ?_
      refine lv_aload_n hx hb dX12_failsBy_37 rfl (lv_at hl 0 rfl) ?_
      refine xa_geti G fd_X12 (a := 111) (x := (μ.1 111 53) - 1) 53 rfl (by decide) rfl (wm 7 202 rfl rfl) ⟨rfl, rfl, rfl⟩ dX12_failsBy_38 rfl (sv_s _ _ _ _) ?_
      refine xa_lald G (a := 136) (i := (μ.1 111 53) - 1) rfl (by have h9 := G.lc (a := 136) (n := 9000) 74 rfl; omega) dX12_failsBy_41 rfl ?_
      refine xb_tl (y := μ.1 136 (μ.1 111 53 - 1)) (sv_n _ (fun h9 => absurd h9.1 (by decide))) ?_
      have hj_18 : jr (μ.1 136 (μ.1 111 53 - 1)) := (by have h9 := G.hj (a := 136) (k := (μ.1 111 53) - 1) rfl; rw [(sv_n _ (fun h9 => absurd h9.1 (by decide)))] at h9; exact h9)
      refine xb_l2i hx hb dX12_failsBy_42 ?_
      refine xb_topi (fun y_19 hr_y_19 he_y_19 => ?_)
      have hr_y_19 : -2147483648 ≤ y_19 ∧ y_19 ≤ 2147483647 := hr_y_19
      refine lv_iconst (v := iv 0) hx hb dX12_failsBy_43 rfl ?_
      refine lv_lconst (v := jv 0) hx hb dX12_failsBy_44 rfl ?_
      have e_20 : (sv μ 111 53 ((μ.1 111 53) - 1)).1 111 83 = μ.1 111 83 := (sv_n _ (by decide))
      have hrx_21 := RX.eq (μ := μ) (ν := (sv μ 111 53 ((μ.1 111 53) - 1))) (Eqa.fr (L := [111]) (FrM.put FrM.rf (by decide)) (by decide)) (Eqf.fd (L := [53]) (fun j hj => (sv_n _ (fun h9 => hj (by rw [h9.2]; decide)))) (by decide))
      have e_22 : (sv μ 111 53 ((μ.1 111 53) - 1)).1 111 94 = μ.1 111 94 := (sv_n _ (by decide))
      have e_23 : (sv μ 111 53 ((μ.1 111 53) - 1)).1 111 47 = n := ((sv_n _ (by decide)).trans hn.symm)
      have hMZ_24 : MZ (sv μ 111 53 ((μ.1 111 53) - 1)) := MZ.mn1 hMZ (n := n) (s := μ.1 131 (n - 1)) (hn.symm) (by have h9 : μ.1 131 (n - 1) = μ.1 131 (n - 1) := rfl; exact h9) (by omega) (by have h9 : μ.1 111 53 = μ.1 111 53 := rfl; omega)
      have e_25 : (sv μ 111 53 ((μ.1 111 53) - 1)).1 111 94 = μ.1 111 94 := (sv_n _ (by decide))
      refine xc_vV G (b := 111) (rest := []) (As := [.int (iv y_19), .int (iv 0), .long (jv 0)]) (c_X12_arisesWith_a ω l (sv μ 111 53 ((μ.1 111 53) - 1)) y_19 0 0 n (by unfold ir; omega) (by unfold ir; omega) (by unfold jr; omega) (by omega) hMZ_24 (by omega) (by omega) VV.n0 (fun h9 => absurd h9 (by rw [(show (sv μ 111 53 ((μ.1 111 53) - 1)).1 127 (n - 1) = μ.1 127 (n - 1) from (sv_n _ (fun h9 => absurd h9.1 (by decide))))]; omega)) (fun h9 => absurd h9 (by rw [(show (sv μ 111 53 ((μ.1 111 53) - 1)).1 127 (n - 1) = μ.1 127 (n - 1) from (sv_n _ (fun h9 => absurd h9.1 (by decide))))]; omega))) (wm 10 203 rfl rfl) (wm 10 205 rfl rfl) (wm 0 214 rfl rfl) rfl rfl (by decide) rfl (wm 1 18 rfl rfl) (wm 10 206 rfl rfl) (by decide) hR (by decide) (n := 3) rfl rfl (Nat.le_of_ble_eq_true rfl) hl.1 dX12_failsBy_45 (fun μ26 ρ d0 H locs hp G => ?_)
      obtain ⟨F_27, hp_28, hp_29⟩ := hp
      exact xr_v G hret hlk dX12_failsBy_48 ⟨(FrM.tr (FrM.put FrM.rf (by decide)) F_27 (by decide)), (fun j hj => ((hp_28 j (fun h9 => hj ((by decide : ∀ x ∈ ([47, 53, 61, 81, 82, 83, 84, 90, 91, 93, 94, 95, 96, 97, 98, 99] : List Int), x ∈ ([47, 53, 61, 81, 82, 83, 84, 90, 91, 93, 94, 95, 96, 97, 98, 99] : List Int)) j h9))).trans (sv_n _ (fun h9 => hj (by rw [h9.2]; decide))))), (hp_29.le (by omega))⟩
  · exact xr_v G hret hlk dX12_failsBy_7 ⟨(FrM.tr FrM.rf F_4 (by decide)), (fun j hj => (hp_5 j (fun h9 => hj ((by decide : ∀ x ∈ ([47, 53, 61, 81, 82, 83, 84, 90, 91, 93, 94, 95, 96, 97, 98, 99] : List Int), x ∈ ([47, 53, 61, 81, 82, 83, 84, 90, 91, 93, 94, 95, 96, 97, 98, 99] : List Int)) j h9)))), ((hp_9 (by omega)).le (by omega))⟩
