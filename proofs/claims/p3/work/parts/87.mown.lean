abbrev cX12_statement : ByteArray := prog_14_method_43_code
def yX12_statement : MethodName := ⟨RX12, "statement", "()V"⟩
abbrev cX12_own : ByteArray := prog_14_method_45_code
def yX12_own : MethodName := ⟨RX12, "own", "()Z"⟩
theorem dX12_statement_0 : decode cX12_statement 0 = .ok (.aload_n 0, 1) := by decide +kernel
theorem dX12_statement_1 : decode cX12_statement 1 = .ok (.getfield 222, 3) := by decide +kernel
theorem dX12_statement_4 : decode cX12_statement 4 = .ok (.istore_n 1, 1) := by decide +kernel
theorem dX12_statement_5 : decode cX12_statement 5 = .ok (.aload_n 0, 1) := by decide +kernel
theorem dX12_statement_6 : decode cX12_statement 6 = .ok (.iconst 0, 1) := by decide +kernel
theorem dX12_statement_7 : decode cX12_statement 7 = .ok (.iload_n 1, 1) := by decide +kernel
theorem dX12_statement_8 : decode cX12_statement 8 = .ok (.i2l, 1) := by decide +kernel
theorem dX12_statement_9 : decode cX12_statement 9 = .ok (.iconst 0, 1) := by decide +kernel
theorem dX12_statement_10 : decode cX12_statement 10 = .ok (.invokevirtual 374, 3) := by decide +kernel
theorem dX12_statement_13 : decode cX12_statement 13 = .ok (.pop, 1) := by decide +kernel
theorem dX12_statement_14 : decode cX12_statement 14 = .ok (.aload_n 0, 1) := by decide +kernel
theorem dX12_statement_15 : decode cX12_statement 15 = .ok (.getfield 317, 3) := by decide +kernel
theorem dX12_statement_18 : decode cX12_statement 18 = .ok (.sipush 8000, 3) := by decide +kernel
theorem dX12_statement_21 : decode cX12_statement 21 = .ok (.if_icmp .le 10, 3) := by decide +kernel
theorem dX12_statement_31 : decode cX12_statement 31 = .ok (.aload_n 0, 1) := by decide +kernel
theorem dX12_statement_32 : decode cX12_statement 32 = .ok (.getfield 225, 3) := by decide +kernel
theorem dX12_statement_35 : decode cX12_statement 35 = .ok (.iconst 1, 1) := by decide +kernel
theorem dX12_statement_36 : decode cX12_statement 36 = .ok (.if_icmp .ne 124, 3) := by decide +kernel
theorem dX12_statement_39 : decode cX12_statement 39 = .ok (.aload_n 0, 1) := by decide +kernel
theorem dX12_statement_40 : decode cX12_statement 40 = .ok (.getfield 256, 3) := by decide +kernel
theorem dX12_statement_43 : decode cX12_statement 43 = .ok (.iconst 3, 1) := by decide +kernel
theorem dX12_statement_44 : decode cX12_statement 44 = .ok (.if_icmp .ne 10, 3) := by decide +kernel
theorem dX12_statement_47 : decode cX12_statement 47 = .ok (.aload_n 0, 1) := by decide +kernel
theorem dX12_statement_48 : decode cX12_statement 48 = .ok (.invokevirtual 393, 3) := by decide +kernel
theorem dX12_statement_51 : decode cX12_statement 51 = .ok (.goto 127, 3) := by decide +kernel
theorem dX12_statement_54 : decode cX12_statement 54 = .ok (.aload_n 0, 1) := by decide +kernel
theorem dX12_statement_55 : decode cX12_statement 55 = .ok (.getfield 256, 3) := by decide +kernel
theorem dX12_statement_58 : decode cX12_statement 58 = .ok (.iconst 4, 1) := by decide +kernel
theorem dX12_statement_59 : decode cX12_statement 59 = .ok (.if_icmp .ne 10, 3) := by decide +kernel
theorem dX12_statement_62 : decode cX12_statement 62 = .ok (.aload_n 0, 1) := by decide +kernel
theorem dX12_statement_63 : decode cX12_statement 63 = .ok (.invokevirtual 396, 3) := by decide +kernel
theorem dX12_statement_66 : decode cX12_statement 66 = .ok (.goto 112, 3) := by decide +kernel
theorem dX12_statement_69 : decode cX12_statement 69 = .ok (.aload_n 0, 1) := by decide +kernel
theorem dX12_statement_70 : decode cX12_statement 70 = .ok (.getfield 256, 3) := by decide +kernel
theorem dX12_statement_73 : decode cX12_statement 73 = .ok (.bipush 6, 2) := by decide +kernel
theorem dX12_statement_75 : decode cX12_statement 75 = .ok (.if_icmp .ne 11, 3) := by decide +kernel
theorem dX12_statement_78 : decode cX12_statement 78 = .ok (.aload_n 0, 1) := by decide +kernel
theorem dX12_statement_79 : decode cX12_statement 79 = .ok (.iload_n 1, 1) := by decide +kernel
theorem dX12_statement_80 : decode cX12_statement 80 = .ok (.invokevirtual 399, 3) := by decide +kernel
theorem dX12_statement_83 : decode cX12_statement 83 = .ok (.goto 95, 3) := by decide +kernel
theorem dX12_statement_86 : decode cX12_statement 86 = .ok (.aload_n 0, 1) := by decide +kernel
theorem dX12_statement_87 : decode cX12_statement 87 = .ok (.getfield 256, 3) := by decide +kernel
theorem dX12_statement_90 : decode cX12_statement 90 = .ok (.bipush 7, 2) := by decide +kernel
theorem dX12_statement_92 : decode cX12_statement 92 = .ok (.if_icmp .eq 12, 3) := by decide +kernel
theorem dX12_statement_95 : decode cX12_statement 95 = .ok (.aload_n 0, 1) := by decide +kernel
theorem dX12_statement_96 : decode cX12_statement 96 = .ok (.getfield 256, 3) := by decide +kernel
theorem dX12_statement_99 : decode cX12_statement 99 = .ok (.bipush 8, 2) := by decide +kernel
theorem dX12_statement_101 : decode cX12_statement 101 = .ok (.if_icmp .ne 45, 3) := by decide +kernel
theorem dX12_statement_104 : decode cX12_statement 104 = .ok (.aload_n 0, 1) := by decide +kernel
theorem dX12_statement_105 : decode cX12_statement 105 = .ok (.getfield 256, 3) := by decide +kernel
theorem dX12_statement_108 : decode cX12_statement 108 = .ok (.bipush 7, 2) := by decide +kernel
theorem dX12_statement_110 : decode cX12_statement 110 = .ok (.if_icmp .ne 8, 3) := by decide +kernel
theorem dX12_statement_113 : decode cX12_statement 113 = .ok (.bipush 9, 2) := by decide +kernel
theorem dX12_statement_115 : decode cX12_statement 115 = .ok (.goto 5, 3) := by decide +kernel
theorem dX12_statement_118 : decode cX12_statement 118 = .ok (.bipush 10, 2) := by decide +kernel
theorem dX12_statement_120 : decode cX12_statement 120 = .ok (.istore_n 2, 1) := by decide +kernel
theorem dX12_statement_121 : decode cX12_statement 121 = .ok (.aload_n 0, 1) := by decide +kernel
theorem dX12_statement_122 : decode cX12_statement 122 = .ok (.invokevirtual 295, 3) := by decide +kernel
theorem dX12_statement_125 : decode cX12_statement 125 = .ok (.aload_n 0, 1) := by decide +kernel
theorem dX12_statement_126 : decode cX12_statement 126 = .ok (.invokevirtual 402, 3) := by decide +kernel
theorem dX12_statement_129 : decode cX12_statement 129 = .ok (.aload_n 0, 1) := by decide +kernel
theorem dX12_statement_130 : decode cX12_statement 130 = .ok (.bipush 59, 2) := by decide +kernel
theorem dX12_statement_132 : decode cX12_statement 132 = .ok (.invokevirtual 313, 3) := by decide +kernel
theorem dX12_statement_135 : decode cX12_statement 135 = .ok (.aload_n 0, 1) := by decide +kernel
theorem dX12_statement_136 : decode cX12_statement 136 = .ok (.iload_n 2, 1) := by decide +kernel
theorem dX12_statement_137 : decode cX12_statement 137 = .ok (.lconst 0, 1) := by decide +kernel
theorem dX12_statement_138 : decode cX12_statement 138 = .ok (.iconst 0, 1) := by decide +kernel
theorem dX12_statement_139 : decode cX12_statement 139 = .ok (.invokevirtual 374, 3) := by decide +kernel
theorem dX12_statement_142 : decode cX12_statement 142 = .ok (.pop, 1) := by decide +kernel
theorem dX12_statement_143 : decode cX12_statement 143 = .ok (.goto 35, 3) := by decide +kernel
theorem dX12_statement_146 : decode cX12_statement 146 = .ok (.aload_n 0, 1) := by decide +kernel
theorem dX12_statement_147 : decode cX12_statement 147 = .ok (.invokevirtual 405, 3) := by decide +kernel
theorem dX12_statement_150 : decode cX12_statement 150 = .ok (.ifCond .ne 28, 3) := by decide +kernel
theorem dX12_statement_153 : decode cX12_statement 153 = .ok (.aload_n 0, 1) := by decide +kernel
theorem dX12_statement_154 : decode cX12_statement 154 = .ok (.invokevirtual 408, 3) := by decide +kernel
theorem dX12_statement_157 : decode cX12_statement 157 = .ok (.goto 21, 3) := by decide +kernel
theorem dX12_statement_160 : decode cX12_statement 160 = .ok (.aload_n 0, 1) := by decide +kernel
theorem dX12_statement_161 : decode cX12_statement 161 = .ok (.getfield 225, 3) := by decide +kernel
theorem dX12_statement_164 : decode cX12_statement 164 = .ok (.ifCond .ne 10, 3) := by decide +kernel
theorem dX12_statement_167 : decode cX12_statement 167 = .ok (.aload_n 0, 1) := by decide +kernel
theorem dX12_statement_168 : decode cX12_statement 168 = .ok (.invokevirtual 411, 3) := by decide +kernel
theorem dX12_statement_171 : decode cX12_statement 171 = .ok (.goto 7, 3) := by decide +kernel
theorem dX12_statement_174 : decode cX12_statement 174 = .ok (.aload_n 0, 1) := by decide +kernel
theorem dX12_statement_175 : decode cX12_statement 175 = .ok (.invokevirtual 408, 3) := by decide +kernel
theorem dX12_statement_178 : decode cX12_statement 178 = .ok (.return_, 1) := by decide +kernel
theorem dX12_own_0 : decode cX12_own 0 = .ok (.aload_n 0, 1) := by decide +kernel
theorem dX12_own_1 : decode cX12_own 1 = .ok (.getfield 266, 3) := by decide +kernel
theorem dX12_own_4 : decode cX12_own 4 = .ok (.ifCond .ne 12, 3) := by decide +kernel
theorem dX12_own_7 : decode cX12_own 7 = .ok (.aload_n 0, 1) := by decide +kernel
theorem dX12_own_8 : decode cX12_own 8 = .ok (.getfield 256, 3) := by decide +kernel
theorem dX12_own_11 : decode cX12_own 11 = .ok (.bipush 9, 2) := by decide +kernel
theorem dX12_own_13 : decode cX12_own 13 = .ok (.if_icmp .eq 20, 3) := by decide +kernel
theorem dX12_own_16 : decode cX12_own 16 = .ok (.aload_n 0, 1) := by decide +kernel
theorem dX12_own_17 : decode cX12_own 17 = .ok (.getfield 266, 3) := by decide +kernel
theorem dX12_own_20 : decode cX12_own 20 = .ok (.iconst 3, 1) := by decide +kernel
theorem dX12_own_21 : decode cX12_own 21 = .ok (.if_icmp .ne 58, 3) := by decide +kernel
theorem dX12_own_24 : decode cX12_own 24 = .ok (.aload_n 0, 1) := by decide +kernel
theorem dX12_own_25 : decode cX12_own 25 = .ok (.getfield 256, 3) := by decide +kernel
theorem dX12_own_28 : decode cX12_own 28 = .ok (.bipush 18, 2) := by decide +kernel
theorem dX12_own_30 : decode cX12_own 30 = .ok (.if_icmp .ne 49, 3) := by decide +kernel
theorem dX12_own_33 : decode cX12_own 33 = .ok (.aload_n 0, 1) := by decide +kernel
theorem dX12_own_34 : decode cX12_own 34 = .ok (.getfield 266, 3) := by decide +kernel
theorem dX12_own_37 : decode cX12_own 37 = .ok (.ifCond .ne 8, 3) := by decide +kernel
theorem dX12_own_40 : decode cX12_own 40 = .ok (.bipush 11, 2) := by decide +kernel
theorem dX12_own_42 : decode cX12_own 42 = .ok (.goto 5, 3) := by decide +kernel
theorem dX12_own_45 : decode cX12_own 45 = .ok (.bipush 20, 2) := by decide +kernel
theorem dX12_own_47 : decode cX12_own 47 = .ok (.istore_n 1, 1) := by decide +kernel
theorem dX12_own_48 : decode cX12_own 48 = .ok (.aload_n 0, 1) := by decide +kernel
theorem dX12_own_49 : decode cX12_own 49 = .ok (.invokevirtual 295, 3) := by decide +kernel
theorem dX12_own_52 : decode cX12_own 52 = .ok (.aload_n 0, 1) := by decide +kernel
theorem dX12_own_53 : decode cX12_own 53 = .ok (.invokevirtual 346, 3) := by decide +kernel
theorem dX12_own_56 : decode cX12_own 56 = .ok (.istore_n 2, 1) := by decide +kernel
theorem dX12_own_57 : decode cX12_own 57 = .ok (.aload_n 0, 1) := by decide +kernel
theorem dX12_own_58 : decode cX12_own 58 = .ok (.invokevirtual 402, 3) := by decide +kernel
theorem dX12_own_61 : decode cX12_own 61 = .ok (.aload_n 0, 1) := by decide +kernel
theorem dX12_own_62 : decode cX12_own 62 = .ok (.bipush 59, 2) := by decide +kernel
theorem dX12_own_64 : decode cX12_own 64 = .ok (.invokevirtual 313, 3) := by decide +kernel
theorem dX12_own_67 : decode cX12_own 67 = .ok (.aload_n 0, 1) := by decide +kernel
theorem dX12_own_68 : decode cX12_own 68 = .ok (.iload_n 1, 1) := by decide +kernel
theorem dX12_own_69 : decode cX12_own 69 = .ok (.iload_n 2, 1) := by decide +kernel
theorem dX12_own_70 : decode cX12_own 70 = .ok (.i2l, 1) := by decide +kernel
theorem dX12_own_71 : decode cX12_own 71 = .ok (.iconst 0, 1) := by decide +kernel
theorem dX12_own_72 : decode cX12_own 72 = .ok (.invokevirtual 374, 3) := by decide +kernel
theorem dX12_own_75 : decode cX12_own 75 = .ok (.pop, 1) := by decide +kernel
theorem dX12_own_76 : decode cX12_own 76 = .ok (.goto 284, 3) := by decide +kernel
theorem dX12_own_79 : decode cX12_own 79 = .ok (.aload_n 0, 1) := by decide +kernel
theorem dX12_own_80 : decode cX12_own 80 = .ok (.getfield 266, 3) := by decide +kernel
theorem dX12_own_83 : decode cX12_own 83 = .ok (.ifCond .ne 19, 3) := by decide +kernel
theorem dX12_own_86 : decode cX12_own 86 = .ok (.aload_n 0, 1) := by decide +kernel
theorem dX12_own_87 : decode cX12_own 87 = .ok (.getfield 256, 3) := by decide +kernel
theorem dX12_own_90 : decode cX12_own 90 = .ok (.bipush 10, 2) := by decide +kernel
theorem dX12_own_92 : decode cX12_own 92 = .ok (.if_icmp .ne 10, 3) := by decide +kernel
theorem dX12_own_95 : decode cX12_own 95 = .ok (.aload_n 0, 1) := by decide +kernel
theorem dX12_own_96 : decode cX12_own 96 = .ok (.invokevirtual 414, 3) := by decide +kernel
theorem dX12_own_99 : decode cX12_own 99 = .ok (.goto 261, 3) := by decide +kernel
theorem dX12_own_102 : decode cX12_own 102 = .ok (.aload_n 0, 1) := by decide +kernel
theorem dX12_own_103 : decode cX12_own 103 = .ok (.getfield 266, 3) := by decide +kernel
theorem dX12_own_106 : decode cX12_own 106 = .ok (.iconst 1, 1) := by decide +kernel
theorem dX12_own_107 : decode cX12_own 107 = .ok (.if_icmp .ne 38, 3) := by decide +kernel
theorem dX12_own_110 : decode cX12_own 110 = .ok (.aload_n 0, 1) := by decide +kernel
theorem dX12_own_111 : decode cX12_own 111 = .ok (.getfield 256, 3) := by decide +kernel
theorem dX12_own_114 : decode cX12_own 114 = .ok (.bipush 13, 2) := by decide +kernel
theorem dX12_own_116 : decode cX12_own 116 = .ok (.if_icmp .ne 29, 3) := by decide +kernel
theorem dX12_own_119 : decode cX12_own 119 = .ok (.aload_n 0, 1) := by decide +kernel
theorem dX12_own_120 : decode cX12_own 120 = .ok (.invokevirtual 295, 3) := by decide +kernel
theorem dX12_own_123 : decode cX12_own 123 = .ok (.aload_n 0, 1) := by decide +kernel
theorem dX12_own_124 : decode cX12_own 124 = .ok (.invokevirtual 402, 3) := by decide +kernel
theorem dX12_own_127 : decode cX12_own 127 = .ok (.aload_n 0, 1) := by decide +kernel
theorem dX12_own_128 : decode cX12_own 128 = .ok (.bipush 59, 2) := by decide +kernel
theorem dX12_own_130 : decode cX12_own 130 = .ok (.invokevirtual 313, 3) := by decide +kernel
theorem dX12_own_133 : decode cX12_own 133 = .ok (.aload_n 0, 1) := by decide +kernel
theorem dX12_own_134 : decode cX12_own 134 = .ok (.bipush 18, 2) := by decide +kernel
theorem dX12_own_136 : decode cX12_own 136 = .ok (.lconst 0, 1) := by decide +kernel
theorem dX12_own_137 : decode cX12_own 137 = .ok (.iconst 0, 1) := by decide +kernel
theorem dX12_own_138 : decode cX12_own 138 = .ok (.invokevirtual 374, 3) := by decide +kernel
theorem dX12_own_141 : decode cX12_own 141 = .ok (.pop, 1) := by decide +kernel
theorem dX12_own_142 : decode cX12_own 142 = .ok (.goto 218, 3) := by decide +kernel
theorem dX12_own_145 : decode cX12_own 145 = .ok (.aload_n 0, 1) := by decide +kernel
theorem dX12_own_146 : decode cX12_own 146 = .ok (.getfield 266, 3) := by decide +kernel
theorem dX12_own_149 : decode cX12_own 149 = .ok (.iconst 1, 1) := by decide +kernel
theorem dX12_own_150 : decode cX12_own 150 = .ok (.if_icmp .ne 33, 3) := by decide +kernel
theorem dX12_own_153 : decode cX12_own 153 = .ok (.aload_n 0, 1) := by decide +kernel
theorem dX12_own_154 : decode cX12_own 154 = .ok (.getfield 256, 3) := by decide +kernel
theorem dX12_own_157 : decode cX12_own 157 = .ok (.bipush 14, 2) := by decide +kernel
theorem dX12_own_159 : decode cX12_own 159 = .ok (.if_icmp .ne 24, 3) := by decide +kernel
theorem dX12_own_162 : decode cX12_own 162 = .ok (.aload_n 0, 1) := by decide +kernel
theorem dX12_own_163 : decode cX12_own 163 = .ok (.invokevirtual 295, 3) := by decide +kernel
theorem dX12_own_166 : decode cX12_own 166 = .ok (.aload_n 0, 1) := by decide +kernel
theorem dX12_own_167 : decode cX12_own 167 = .ok (.aload_n 0, 1) := by decide +kernel
theorem dX12_own_168 : decode cX12_own 168 = .ok (.bipush 19, 2) := by decide +kernel
theorem dX12_own_170 : decode cX12_own 170 = .ok (.lconst 0, 1) := by decide +kernel
theorem dX12_own_171 : decode cX12_own 171 = .ok (.iconst 0, 1) := by decide +kernel
theorem dX12_own_172 : decode cX12_own 172 = .ok (.invokevirtual 374, 3) := by decide +kernel
theorem dX12_own_175 : decode cX12_own 175 = .ok (.bipush 15, 2) := by decide +kernel
theorem dX12_own_177 : decode cX12_own 177 = .ok (.invokevirtual 417, 3) := by decide +kernel
theorem dX12_own_180 : decode cX12_own 180 = .ok (.goto 180, 3) := by decide +kernel
theorem dX12_own_183 : decode cX12_own 183 = .ok (.aload_n 0, 1) := by decide +kernel
theorem dX12_own_184 : decode cX12_own 184 = .ok (.getfield 266, 3) := by decide +kernel
theorem dX12_own_187 : decode cX12_own 187 = .ok (.iconst 2, 1) := by decide +kernel
theorem dX12_own_188 : decode cX12_own 188 = .ok (.if_icmp .ne 65, 3) := by decide +kernel
theorem dX12_own_191 : decode cX12_own 191 = .ok (.aload_n 0, 1) := by decide +kernel
theorem dX12_own_192 : decode cX12_own 192 = .ok (.getfield 256, 3) := by decide +kernel
theorem dX12_own_195 : decode cX12_own 195 = .ok (.bipush 16, 2) := by decide +kernel
theorem dX12_own_197 : decode cX12_own 197 = .ok (.if_icmp .ne 56, 3) := by decide +kernel
theorem dX12_own_200 : decode cX12_own 200 = .ok (.aload_n 0, 1) := by decide +kernel
theorem dX12_own_201 : decode cX12_own 201 = .ok (.invokevirtual 295, 3) := by decide +kernel
theorem dX12_own_204 : decode cX12_own 204 = .ok (.aload_n 0, 1) := by decide +kernel
theorem dX12_own_205 : decode cX12_own 205 = .ok (.bipush 14, 2) := by decide +kernel
theorem dX12_own_207 : decode cX12_own 207 = .ok (.lconst 0, 1) := by decide +kernel
theorem dX12_own_208 : decode cX12_own 208 = .ok (.iconst 0, 1) := by decide +kernel
theorem dX12_own_209 : decode cX12_own 209 = .ok (.invokevirtual 374, 3) := by decide +kernel
theorem dX12_own_212 : decode cX12_own 212 = .ok (.istore_n 1, 1) := by decide +kernel
theorem dX12_own_213 : decode cX12_own 213 = .ok (.aload_n 0, 1) := by decide +kernel
theorem dX12_own_214 : decode cX12_own 214 = .ok (.invokevirtual 371, 3) := by decide +kernel
theorem dX12_own_217 : decode cX12_own 217 = .ok (.aload_n 0, 1) := by decide +kernel
theorem dX12_own_218 : decode cX12_own 218 = .ok (.bipush 16, 2) := by decide +kernel
theorem dX12_own_220 : decode cX12_own 220 = .ok (.lconst 0, 1) := by decide +kernel
theorem dX12_own_221 : decode cX12_own 221 = .ok (.iconst 0, 1) := by decide +kernel
theorem dX12_own_222 : decode cX12_own 222 = .ok (.invokevirtual 374, 3) := by decide +kernel
theorem dX12_own_225 : decode cX12_own 225 = .ok (.pop, 1) := by decide +kernel
theorem dX12_own_226 : decode cX12_own 226 = .ok (.aload_n 0, 1) := by decide +kernel
theorem dX12_own_227 : decode cX12_own 227 = .ok (.bipush 17, 2) := by decide +kernel
theorem dX12_own_229 : decode cX12_own 229 = .ok (.invokevirtual 349, 3) := by decide +kernel
theorem dX12_own_232 : decode cX12_own 232 = .ok (.aload_n 0, 1) := by decide +kernel
theorem dX12_own_233 : decode cX12_own 233 = .ok (.iload_n 1, 1) := by decide +kernel
theorem dX12_own_234 : decode cX12_own 234 = .ok (.invokevirtual 421, 3) := by decide +kernel
theorem dX12_own_237 : decode cX12_own 237 = .ok (.aload_n 0, 1) := by decide +kernel
theorem dX12_own_238 : decode cX12_own 238 = .ok (.invokevirtual 371, 3) := by decide +kernel
theorem dX12_own_241 : decode cX12_own 241 = .ok (.aload_n 0, 1) := by decide +kernel
theorem dX12_own_242 : decode cX12_own 242 = .ok (.bipush 17, 2) := by decide +kernel
theorem dX12_own_244 : decode cX12_own 244 = .ok (.lconst 0, 1) := by decide +kernel
theorem dX12_own_245 : decode cX12_own 245 = .ok (.iconst 0, 1) := by decide +kernel
theorem dX12_own_246 : decode cX12_own 246 = .ok (.invokevirtual 374, 3) := by decide +kernel
theorem dX12_own_249 : decode cX12_own 249 = .ok (.pop, 1) := by decide +kernel
theorem dX12_own_250 : decode cX12_own 250 = .ok (.goto 110, 3) := by decide +kernel
theorem dX12_own_253 : decode cX12_own 253 = .ok (.aload_n 0, 1) := by decide +kernel
theorem dX12_own_254 : decode cX12_own 254 = .ok (.getfield 266, 3) := by decide +kernel
theorem dX12_own_257 : decode cX12_own 257 = .ok (.iconst 3, 1) := by decide +kernel
theorem dX12_own_258 : decode cX12_own 258 = .ok (.if_icmp .ne 76, 3) := by decide +kernel
theorem dX12_own_261 : decode cX12_own 261 = .ok (.aload_n 0, 1) := by decide +kernel
theorem dX12_own_262 : decode cX12_own 262 = .ok (.getfield 256, 3) := by decide +kernel
theorem dX12_own_265 : decode cX12_own 265 = .ok (.bipush 19, 2) := by decide +kernel
theorem dX12_own_267 : decode cX12_own 267 = .ok (.if_icmp .ne 67, 3) := by decide +kernel
theorem dX12_own_270 : decode cX12_own 270 = .ok (.aload_n 0, 1) := by decide +kernel
theorem dX12_own_271 : decode cX12_own 271 = .ok (.invokevirtual 295, 3) := by decide +kernel
theorem dX12_own_274 : decode cX12_own 274 = .ok (.aload_n 0, 1) := by decide +kernel
theorem dX12_own_275 : decode cX12_own 275 = .ok (.invokevirtual 346, 3) := by decide +kernel
theorem dX12_own_278 : decode cX12_own 278 = .ok (.istore_n 1, 1) := by decide +kernel
theorem dX12_own_279 : decode cX12_own 279 = .ok (.aload_n 0, 1) := by decide +kernel
theorem dX12_own_280 : decode cX12_own 280 = .ok (.invokevirtual 329, 3) := by decide +kernel
theorem dX12_own_283 : decode cX12_own 283 = .ok (.lstore_n 2, 1) := by decide +kernel
theorem dX12_own_284 : decode cX12_own 284 = .ok (.aload_n 0, 1) := by decide +kernel
theorem dX12_own_285 : decode cX12_own 285 = .ok (.invokevirtual 215, 3) := by decide +kernel
theorem dX12_own_288 : decode cX12_own 288 = .ok (.ifCond .eq 7, 3) := by decide +kernel
theorem dX12_own_291 : decode cX12_own 291 = .ok (.iconst 0, 1) := by decide +kernel
theorem dX12_own_292 : decode cX12_own 292 = .ok (.goto 8, 3) := by decide +kernel
theorem dX12_own_295 : decode cX12_own 295 = .ok (.aload_n 0, 1) := by decide +kernel
theorem dX12_own_296 : decode cX12_own 296 = .ok (.lload_n 2, 1) := by decide +kernel
theorem dX12_own_297 : decode cX12_own 297 = .ok (.invokevirtual 424, 3) := by decide +kernel
theorem dX12_own_300 : decode cX12_own 300 = .ok (.istore 4, 2) := by decide +kernel
theorem dX12_own_302 : decode cX12_own 302 = .ok (.aload_n 0, 1) := by decide +kernel
theorem dX12_own_303 : decode cX12_own 303 = .ok (.bipush 21, 2) := by decide +kernel
theorem dX12_own_305 : decode cX12_own 305 = .ok (.lconst 0, 1) := by decide +kernel
theorem dX12_own_306 : decode cX12_own 306 = .ok (.iload_n 1, 1) := by decide +kernel
theorem dX12_own_307 : decode cX12_own 307 = .ok (.invokevirtual 374, 3) := by decide +kernel
theorem dX12_own_310 : decode cX12_own 310 = .ok (.istore 5, 2) := by decide +kernel
theorem dX12_own_312 : decode cX12_own 312 = .ok (.aload_n 0, 1) := by decide +kernel
theorem dX12_own_313 : decode cX12_own 313 = .ok (.bipush 13, 2) := by decide +kernel
theorem dX12_own_315 : decode cX12_own 315 = .ok (.iload 4, 2) := by decide +kernel
theorem dX12_own_317 : decode cX12_own 317 = .ok (.i2l, 1) := by decide +kernel
theorem dX12_own_318 : decode cX12_own 318 = .ok (.iconst 0, 1) := by decide +kernel
theorem dX12_own_319 : decode cX12_own 319 = .ok (.invokevirtual 374, 3) := by decide +kernel
theorem dX12_own_322 : decode cX12_own 322 = .ok (.pop, 1) := by decide +kernel
theorem dX12_own_323 : decode cX12_own 323 = .ok (.aload_n 0, 1) := by decide +kernel
theorem dX12_own_324 : decode cX12_own 324 = .ok (.iload 5, 2) := by decide +kernel
theorem dX12_own_326 : decode cX12_own 326 = .ok (.bipush 20, 2) := by decide +kernel
theorem dX12_own_328 : decode cX12_own 328 = .ok (.invokevirtual 417, 3) := by decide +kernel
theorem dX12_own_331 : decode cX12_own 331 = .ok (.goto 29, 3) := by decide +kernel
theorem dX12_own_334 : decode cX12_own 334 = .ok (.aload_n 0, 1) := by decide +kernel
theorem dX12_own_335 : decode cX12_own 335 = .ok (.getfield 266, 3) := by decide +kernel
theorem dX12_own_338 : decode cX12_own 338 = .ok (.iconst 3, 1) := by decide +kernel
theorem dX12_own_339 : decode cX12_own 339 = .ok (.if_icmp .ne 19, 3) := by decide +kernel
theorem dX12_own_342 : decode cX12_own 342 = .ok (.aload_n 0, 1) := by decide +kernel
theorem dX12_own_343 : decode cX12_own 343 = .ok (.getfield 256, 3) := by decide +kernel
theorem dX12_own_346 : decode cX12_own 346 = .ok (.bipush 21, 2) := by decide +kernel
theorem dX12_own_348 : decode cX12_own 348 = .ok (.if_icmp .ne 10, 3) := by decide +kernel
theorem dX12_own_351 : decode cX12_own 351 = .ok (.aload_n 0, 1) := by decide +kernel
theorem dX12_own_352 : decode cX12_own 352 = .ok (.invokevirtual 427, 3) := by decide +kernel
theorem dX12_own_355 : decode cX12_own 355 = .ok (.goto 5, 3) := by decide +kernel
theorem dX12_own_358 : decode cX12_own 358 = .ok (.iconst 0, 1) := by decide +kernel
theorem dX12_own_359 : decode cX12_own 359 = .ok (.ireturn, 1) := by decide +kernel
theorem dX12_own_360 : decode cX12_own 360 = .ok (.iconst 1, 1) := by decide +kernel
theorem dX12_own_361 : decode cX12_own 361 = .ok (.ireturn, 1) := by decide +kernel
set_option maxHeartbeats 4000000 in
set_option maxRecDepth 100000 in
theorem c_X12_own (ω : Om) (l : Launch) (μ : M3) (F : Nat) (Lo : Nat) (kf : Int) (tt : Int) (htt : tt = μ.1 111 14) (hF : 200 ≤ F) (hLo : 6000 ≤ Lo) (hK : ∀ (μ : M3) (tt : Int) (htt : tt = μ.1 111 14) (hPM : PM μ) (hnn : 0 ≤ nn μ ∧ nn μ ≤ 9 ∧ 9 * wr μ ≤ nn μ) (hn8 : nn μ ≤ 8 + wr μ) (hcd : 0 ≤ μ.1 111 22 ∧ μ.1 111 22 ≤ 2 * μ.1 111 9 + 8 * nn μ + 60) (hW : 0 ≤ μ.1 111 39 ∧ μ.1 111 39 ≤ μ.1 111 22) (hsl : 0 ≤ μ.1 111 31 ∧ μ.1 111 31 ≤ 300) (hvr : 0 ≤ μ.1 111 32 ∧ μ.1 111 32 ≤ μ.1 111 9) (hfu : 0 ≤ (kf - 1) ∧ 8 ≤ nn μ + (kf - 1)) (hS0 : ∀ _ : Unit, bd μ = 0 → mS0 μ), CtV ω l yX12_block cX12_block 1 (F + 0) (Lo + 0) [.ref (oP ω 111)] μ (fun (μ' : M3) => (FrM [111, 113, 115, 116, 117, 123, 124, 126] μ μ') ∧ (∀ j, j ∉ ([6, 8, 9, 10, 11, 12, 13, 15, 16, 17, 18, 22, 29, 31, 32, 34, 35, 36, 37, 39] : List Int) → μ'.1 111 j = μ.1 111 j) ∧ (PM μ') ∧ (μ.1 111 22 ≤ μ'.1 111 22 ∧ μ'.1 111 22 ≤ μ.1 111 22 + 2 * (μ'.1 111 9 - μ.1 111 9) + 8 * (nn μ' - nn μ) + (- 4 - 4 * wr μ' + 8 * wr μ)) ∧ (μ.1 111 9 + 1 ≤ μ'.1 111 9 + wr μ') ∧ (μ.1 111 29 ≤ μ'.1 111 29) ∧ (wr μ ≤ wr μ' ∧ bd μ ≤ bd μ') ∧ (nn μ ≤ nn μ' ∧ nn μ' ≤ nn μ + 9 * wr μ' ∧ nn μ' ≤ 9 ∧ 9 * wr μ' ≤ nn μ') ∧ (μ'.1 111 39 = μ.1 111 39) ∧ (∀ j, j < μ.1 111 39 → μ'.1 126 j = μ.1 126 j) ∧ (μ.1 111 31 ≤ μ'.1 111 31 ∧ μ'.1 111 31 ≤ 300) ∧ (0 ≤ μ'.1 111 32 ∧ μ'.1 111 32 ≤ μ'.1 111 9) ∧ (∀ _ : Unit, bd μ' = 0 → mEX μ μ' tt 0 (2 * (8 - nn μ)) 101) ∧ (mEXT μ μ'))) (hPM : PM μ) (hnn : 0 ≤ nn μ ∧ nn μ ≤ 9 ∧ 9 * wr μ ≤ nn μ) (hn8 : nn μ ≤ 8 + wr μ) (hcd : 0 ≤ μ.1 111 22 ∧ μ.1 111 22 ≤ 2 * μ.1 111 9 + 8 * nn μ + 54) (hW : 0 ≤ μ.1 111 39 ∧ μ.1 111 39 ≤ μ.1 111 22) (hsl : 0 ≤ μ.1 111 31 ∧ μ.1 111 31 ≤ 300) (hvr : 0 ≤ μ.1 111 32 ∧ μ.1 111 32 ≤ μ.1 111 9) (hw0 : wr μ = 0) (hfu : 1 ≤ kf ∧ 9 ≤ nn μ + kf) (hS1 : ∀ _ : Unit, bd μ = 0 → mS1 μ tt) (hst : μ.1 111 8 = 1) : CtI ω l yX12_own cX12_own 6 .boolean (F + 2) (Lo + 51) [.ref (oP ω 111)] μ (fun (r : Int) (μ' : M3) => (FrM [111, 113, 115, 116, 117, 123, 124, 126] μ μ') ∧ (∀ j, j ∉ ([6, 8, 9, 10, 11, 12, 13, 15, 16, 17, 18, 22, 29, 31, 32, 34, 35, 36, 37, 39] : List Int) → μ'.1 111 j = μ.1 111 j) ∧ (PM μ') ∧ (μ.1 111 22 ≤ μ'.1 111 22 ∧ μ'.1 111 22 ≤ μ.1 111 22 + 2 * (μ'.1 111 9 - μ.1 111 9) + 8 * (nn μ' - nn μ) + (- r)) ∧ (μ.1 111 9 + r ≤ μ'.1 111 9 + wr μ') ∧ (μ.1 111 29 ≤ μ'.1 111 29) ∧ (wr μ ≤ wr μ' ∧ bd μ ≤ bd μ') ∧ (nn μ ≤ nn μ' ∧ nn μ' ≤ nn μ + 9 * wr μ' ∧ nn μ' ≤ 9 ∧ 9 * wr μ' ≤ nn μ') ∧ (μ'.1 111 39 = μ.1 111 39) ∧ (∀ j, j < μ.1 111 39 → μ'.1 126 j = μ.1 126 j) ∧ (μ.1 111 31 ≤ μ'.1 111 31 ∧ μ'.1 111 31 ≤ 300) ∧ (0 ≤ μ'.1 111 32 ∧ μ'.1 111 32 ≤ μ'.1 111 9) ∧ (∀ _ : Unit, r = 1 → bd μ' = 0 → mEY μ μ' tt (2 * (9 - nn μ))) ∧ (mEXT μ μ') ∧ (0 ≤ r ∧ r ≤ 1) ∧ (∀ _ : Unit, r = 0 → μ' = μ)) := by
  refine CtI.go (by decide) (Nat.le_of_ble_eq_true rfl) (fun ρ p e s m below meth c R ls G hR hret hlk hl => ?_)
  have hx := G.1.1
  have hb := G.1.2.1
  have hl : lv_has ls 6 [(0, .ref (oP ω 111))] := hl
  generalize s.drawn = d0 at G ⊢
  have hw_0 := wr_r (μ := μ)
  have hpp_ := hPM.1.2.1
  have hpn_ := hPM.2.1
  have hpt_ := hPM.1.2.2.2.1
  have hpw_ := hPM.1.2.2.2.2.1
  have hpa_ := hPM.1.1
  have hht_0 : ∀ _ : Unit, bd μ = 0 → mHt μ 0 := fun _ h0 => (hS1 () h0).h
  rcases (show tt = 0 ∨ tt = 1 ∨ tt = 2 ∨ tt = 3 by omega) with htv_ | htv_ | htv_ | htv_
  · refine lv_aload_n hx hb dX12_own_0 rfl (lv_at hl 0 rfl) ?_
    refine xa_geti G fd_X12 (a := 111) (x := tt) 14 rfl (by decide) rfl (wm 7 163 rfl rfl) ⟨rfl, rfl, rfl⟩ dX12_own_1 rfl htt.symm ?_
    have hr_1 : -2147483648 ≤ tt ∧ tt ≤ 2147483647 := by have h9 := G.hr (a := 111) (k := 14) rfl; rw [show μ.1 111 14 = tt from htt.symm] at h9; exact h9
    refine xb_if_ne (tgt := 16) hx hb (by unfold ir; exact ⟨by omega, by omega⟩) dX12_own_4 (by decide) (fun c_4 => absurd c_4 (by omega)) (fun c_4 => ?_)
    refine lv_aload_n hx hb dX12_own_7 rfl (lv_at hl 0 rfl) ?_
    refine xa_geti G fd_X12 (a := 111) (x := μ.1 111 11) 11 rfl (by decide) rfl (wm 7 160 rfl rfl) ⟨rfl, rfl, rfl⟩ dX12_own_8 rfl rfl ?_
    have hr_2 : -2147483648 ≤ μ.1 111 11 ∧ μ.1 111 11 ≤ 2147483647 := by have h9 := G.hr (a := 111) (k := 11) rfl; exact h9
    refine lv_bipush (v := iv 9) hx hb dX12_own_11 rfl ?_
    refine xb_icmp_eq (tgt := 33) hx hb (by unfold ir; exact ⟨by omega, by omega⟩) (by unfold ir; exact ⟨by omega, by omega⟩) dX12_own_13 (by decide) (fun c_13 => ?_) (fun c_13 => ?_)
    · refine lv_aload_n hx hb dX12_own_33 rfl (lv_at hl 0 rfl) ?_
      refine xa_geti G fd_X12 (a := 111) (x := tt) 14 rfl (by decide) rfl (wm 7 163 rfl rfl) ⟨rfl, rfl, rfl⟩ dX12_own_34 rfl htt.symm ?_
      refine xb_if_ne (tgt := 45) hx hb (by unfold ir; exact ⟨by omega, by omega⟩) dX12_own_37 (by decide) (fun c_37 => absurd c_37 (by omega)) (fun c_37 => ?_)
      refine lv_bipush (v := iv 11) hx hb dX12_own_40 rfl ?_
      refine lv_goto (tgt := 47) hx hb dX12_own_42 (by decide) ?_
      refine lv_istore_n (lv' := [(1, .int (iv 11)), (0, .ref (oP ω 111))]) hx hb dX12_own_47 rfl hl (by decide) rfl (fun ls hl => ?_)
      refine lv_aload_n hx hb dX12_own_48 rfl (lv_at hl 1 rfl) ?_
      refine xc_vV G (b := 111) (rest := []) (As := []) (c_X12_next ω l μ  hPM (by (repeat' apply And.intro) <;> omega) (by (repeat' apply And.intro) <;> omega)) (wm 9 0 rfl rfl) (wm 9 2 rfl rfl) (wm 0 119 rfl rfl) rfl rfl (by decide) rfl (wm 1 18 rfl rfl) (wm 9 3 rfl rfl) (by decide) hR ⟨nfB hF (by decide), nlB hLo (by decide)⟩ (n := 0) rfl rfl (Nat.le_of_ble_eq_true rfl) hl.1 dX12_own_49 (fun μ3 ρ d0 H locs hp G => ?_)
      obtain ⟨F_4, hp_5, hp_6, hp_7, hp_8, hp_9⟩ := hp
      have hpl_10 := hp_6.pl
      have hw_11 := wr_r (μ := μ3)
      have vl_12 := hp_7
      replace hp_7 := fun _ : Unit => hp_7
      have vl_13 := hp_8
      replace hp_8 := fun _ : Unit => hp_8
      have vl_14 := hp_9
      replace hp_9 := fun _ : Unit => hp_9
      obtain ⟨hv_17, hv_18, hv_19, hv_20, hv_21, hv_22, hv_23, hv_24, hv_25, hv_26, hv_27, hv_28, hv_29, hv_30, hv_31, hv_32, hv_33, hv_34⟩ : μ.1 111 22 ≤ μ.1 111 22 ∧ μ.1 111 22 ≤ μ.1 111 22 + 2 * (μ3.1 111 9 - μ.1 111 9) + 8 * (nn μ3 - nn μ) - 2 + -6 * wr μ3 ∧ μ.1 111 9 + 1 ≤ μ3.1 111 9 ∧ nn μ + 0 ≤ nn μ3 ∧ nn μ3 ≤ nn μ + 0 + 9 * wr μ3 ∧ nn μ3 ≤ 8 + wr μ3 ∧ 9 * wr μ3 ≤ nn μ3 ∧ nn μ3 ≤ 9 ∧ wr μ ≤ wr μ3 ∧ wr μ3 ≤ 1 ∧ wr μ3 ≤ bd μ3 ∧ bd μ3 ≤ 1 ∧ μ.1 111 29 ≤ μ.1 111 29 ∧ μ.1 111 31 ≤ μ.1 111 31 ∧ μ.1 111 31 ≤ 300 ∧ 0 ≤ μ.1 111 32 ∧ μ.1 111 32 ≤ μ3.1 111 9 ∧ μ3.1 111 9 ≤ 3000 := by (repeat' apply And.intro) <;> omega
      clear hpl_10 hw_11 vl_12 vl_13 vl_14
      refine lv_aload_n hx hb dX12_own_52 rfl (lv_at hl 1 rfl) ?_
      have hw_35 := wr_r (μ := μ3)
      have e_36 : μ3.1 111 29 = μ.1 111 29 := (hp_5 29 (by decide))
      refine xc_iV G (b := 111) (rest := []) (As := []) (c_X12_takesKind ω l μ3  hp_6 (by (repeat' apply And.intro) <;> omega)) (wm 9 203 rfl rfl) (wm 9 205 rfl rfl) (wm 0 163 rfl rfl) rfl rfl (by decide) rfl (wm 1 18 rfl rfl) (wm 9 206 rfl rfl) (by decide) hR ⟨nfB hF (by decide), nlB hLo (by decide)⟩ (n := 0) rfl rfl (Nat.le_of_ble_eq_true rfl) hl.1 dX12_own_53 (fun r_38 μ37 ρ d0 H locs hr_r_38 hp G => ?_)
      have hr_r_38 : -2147483648 ≤ r_38 ∧ r_38 ≤ 2147483647 := hr_r_38
      obtain ⟨F_39, hp_40, hp_41, hp_42, hp_43, hp_44, hp_45, hp_46, hp_47⟩ := hp
      have hpl_48 := hp_41.pl
      have hw_49 := wr_r (μ := μ37)
      have hks_r_38 : 1 ≤ r_38 := by omega
      have vl_50 := hp_43
      replace hp_43 := fun _ : Unit => hp_43
      have vl_51 := hp_44
      replace hp_44 := fun _ : Unit => hp_44
      have vl_52 := hp_45
      replace hp_45 := fun _ : Unit => hp_45
      have vl_53 := hp_46
      replace hp_46 := fun _ : Unit => hp_46
      have vl_54 := hp_47
      replace hp_47 := fun _ : Unit => hp_47
      obtain ⟨hv_57, hv_58, hv_59, hv_60, hv_61, hv_62, hv_63, hv_64, hv_65, hv_66, hv_67, hv_68, hv_69, hv_70, hv_71, hv_72, hv_73, hv_74, hv_75⟩ : μ.1 111 22 ≤ μ.1 111 22 ∧ μ.1 111 22 ≤ μ.1 111 22 + 2 * (μ37.1 111 9 - μ.1 111 9) + 8 * (nn μ37 - nn μ) - 4 + -4 * wr μ37 ∧ μ.1 111 9 + 1 ≤ μ37.1 111 9 ∧ nn μ + 0 ≤ nn μ37 ∧ nn μ37 ≤ nn μ + 0 + 9 * wr μ37 ∧ nn μ37 ≤ 8 + wr μ37 ∧ 9 * wr μ37 ≤ nn μ37 ∧ nn μ37 ≤ 9 ∧ wr μ ≤ wr μ37 ∧ wr μ37 ≤ 1 ∧ wr μ37 ≤ bd μ37 ∧ bd μ37 ≤ 1 ∧ r_38 + 1 ≤ μ37.1 111 29 ∧ μ.1 111 29 ≤ μ37.1 111 29 ∧ μ.1 111 31 ≤ μ.1 111 31 ∧ μ.1 111 31 ≤ 300 ∧ 0 ≤ μ.1 111 32 ∧ μ.1 111 32 ≤ μ37.1 111 9 ∧ μ37.1 111 9 ≤ 3000 := by (repeat' apply And.intro) <;> omega
      clear hv_17 hv_18 hv_19 hv_20 hv_21 hv_22 hv_23 hv_24 hv_25 hv_26 hv_27 hv_28 hv_29 hv_30 hv_31 hv_32 hv_33 hv_34 hw_35 e_36 hpl_48 hw_49 vl_50 vl_51 vl_52 vl_53 vl_54
      refine lv_istore_n (lv' := [(2, .int (iv r_38)), (1, .int (iv 11)), (0, .ref (oP ω 111))]) hx hb dX12_own_56 rfl hl (by decide) rfl (fun ls hl => ?_)
      refine lv_aload_n hx hb dX12_own_57 rfl (lv_at hl 2 rfl) ?_
      have hq_76 : ∀ _ : Unit, q0m μ μ37 := fun _ => (q0m.fr (K := [111, 113, 123]) (FrM.tr (FrM.tr FrM.rf F_4 (by decide)) F_39 (by decide)) (by decide) (by decide) (by decide) ((hp_40 22 (by decide)).trans (hp_5 22 (by decide))) (nS.le (Int.le_trans (Int.le_of_eq (hp_5 29 (by decide)).symm) (hp_43 ())) (Int.le_trans (Int.le_of_eq (hp_5 31 (by decide)).symm) (Int.le_of_eq (hp_40 31 (by decide)).symm))))
      have hw_77 := wr_r (μ := μ37)
      have hht_78 : ∀ _ : Unit, bd μ37 = 0 → mHt μ37 0 := fun _ h0 => (hht_0 () (bd_z (Int.le_trans ((hp_8 ()).2) ((hp_46 ()).2)) h0)).qm (hq_76 ())
      have hxt_79 : mEXT μ μ37 := (q0m.fr (K := [111, 113, 123]) (FrM.tr (FrM.tr FrM.rf F_4 (by decide)) F_39 (by decide)) (by decide) (by decide) (by decide) ((hp_40 22 (by decide)).trans (hp_5 22 (by decide))) (nS.le (Int.le_trans (Int.le_of_eq (hp_5 29 (by decide)).symm) (hp_43 ())) (Int.le_trans (Int.le_of_eq (hp_5 31 (by decide)).symm) (Int.le_of_eq (hp_40 31 (by decide)).symm)))).1
      have e_80 : μ37.1 111 14 = tt := ((hp_40 14 (by decide)).trans ((hp_5 14 (by decide)).trans htt.symm))
      have e_81 : μ37.1 111 22 = μ.1 111 22 := ((hp_40 22 (by decide)).trans (hp_5 22 (by decide)))
      have e_83 : μ37.1 111 39 = μ.1 111 39 := ((hp_40 39 (by decide)).trans (hp_5 39 (by decide)))
      have e_86 : μ37.1 111 31 = μ.1 111 31 := ((hp_40 31 (by decide)).trans (hp_5 31 (by decide)))
      refine xc_vV G (b := 111) (rest := []) (As := []) (c_X12_expr_a ω l μ37 tt (by (repeat' apply And.intro) <;> omega) hp_41 (by (repeat' apply And.intro) <;> omega) (by (repeat' apply And.intro) <;> omega) (by (repeat' apply And.intro) <;> omega) (by (repeat' apply And.intro) <;> omega) (by (repeat' apply And.intro) <;> omega) (fun _ h0 => (hht_78 () h0).p (by decide))) (wm 9 139 rfl rfl) (wm 9 141 rfl rfl) (wm 0 147 rfl rfl) rfl rfl (by decide) rfl (wm 1 18 rfl rfl) (wm 9 142 rfl rfl) (by decide) hR ⟨nfB hF (by decide), nlB hLo (by decide)⟩ (n := 0) rfl rfl (Nat.le_of_ble_eq_true rfl) hl.1 dX12_own_58 (fun μ91 ρ d0 H locs hp G => ?_)
      obtain ⟨F_92, hp_93, hp_94, hp_95, hp_96, hp_97, hp_98, hp_99, hp_100, hp_101, hp_102, hp_103⟩ := hp
      have hpl_104 := hp_94.pl
      have hw_105 := wr_r (μ := μ91)
      have hxt_106 : mEXT μ μ91 := hxt_79.tr hp_103
      have hwk_107 : ∀ j, j < μ.1 111 39 → μ91.1 126 j = μ37.1 126 j := fun j hj => hp_101 j (by omega)
      have hex_108 : ∀ _ : Unit, bd μ91 = 0 → mEX μ37 μ91 tt 1 0 99 := fun _ h0 => (hp_102 () h0).mn (Int.le_refl _) (by omega)
      have hht_109 : ∀ _ : Unit, bd μ91 = 0 → mHt μ91 1 := fun _ h0 => (hht_78 () (bd_z (hp_98.2) h0)).ex (hex_108 () h0) rfl
      have vl_110 := hp_95
      replace hp_95 := fun _ : Unit => hp_95
      have vl_111 := hp_96
      replace hp_96 := fun _ : Unit => hp_96
      have vl_112 := hp_97
      replace hp_97 := fun _ : Unit => hp_97
      have vl_113 := hp_98
      replace hp_98 := fun _ : Unit => hp_98
      have vl_114 := hp_99
      replace hp_99 := fun _ : Unit => hp_99
      have vl_115 := hp_100
      replace hp_100 := fun _ : Unit => hp_100
      have h39_116 : μ91.1 111 39 = μ.1 111 39 := by omega
      obtain ⟨hv_119, hv_120, hv_121, hv_122, hv_123, hv_124, hv_125, hv_126, hv_127, hv_128, hv_129, hv_130, hv_131, hv_132, hv_133, hv_134, hv_135, hv_136, hv_137⟩ : μ.1 111 22 ≤ μ91.1 111 22 ∧ μ91.1 111 22 ≤ μ.1 111 22 + 2 * (μ91.1 111 9 - μ.1 111 9) + 8 * (nn μ91 - nn μ) - 5 + -3 * wr μ91 ∧ μ.1 111 9 + 1 ≤ μ91.1 111 9 ∧ nn μ + 0 ≤ nn μ91 ∧ nn μ91 ≤ nn μ + 0 + 9 * wr μ91 ∧ nn μ91 ≤ 8 + wr μ91 ∧ 9 * wr μ91 ≤ nn μ91 ∧ nn μ91 ≤ 9 ∧ wr μ ≤ wr μ91 ∧ wr μ91 ≤ 1 ∧ wr μ91 ≤ bd μ91 ∧ bd μ91 ≤ 1 ∧ r_38 + 1 ≤ μ91.1 111 29 ∧ μ.1 111 29 ≤ μ91.1 111 29 ∧ μ.1 111 31 ≤ μ.1 111 31 ∧ μ.1 111 31 ≤ 300 ∧ 0 ≤ μ.1 111 32 ∧ μ.1 111 32 ≤ μ91.1 111 9 ∧ μ91.1 111 9 ≤ 3000 := by (repeat' apply And.intro) <;> omega
      clear hv_57 hv_58 hv_59 hv_60 hv_61 hv_62 hv_63 hv_64 hv_65 hv_66 hv_67 hv_68 hv_69 hv_70 hv_71 hv_72 hv_73 hv_74 hv_75 hw_77 e_80 e_81 e_83 e_86 hpl_104 hw_105 vl_110 vl_111 vl_112 vl_113 vl_114 vl_115
      refine lv_aload_n hx hb dX12_own_61 rfl (lv_at hl 2 rfl) ?_
      refine lv_bipush (v := iv 59) hx hb dX12_own_62 rfl ?_
      have hw_138 := wr_r (μ := μ91)
      refine xc_vV G (b := 111) (rest := []) (As := [.int (iv 59)]) (c_X12_wantsSign ω l μ91 59 (by unfold ir; decide) hp_94 (by (repeat' apply And.intro) <;> omega)) (wm 9 114 rfl rfl) (wm 9 116 rfl rfl) (wm 0 141 rfl rfl) rfl rfl (by decide) rfl (wm 1 18 rfl rfl) (wm 9 117 rfl rfl) (by decide) hR ⟨nfB hF (by decide), nlB hLo (by decide)⟩ (n := 1) rfl rfl (Nat.le_of_ble_eq_true rfl) hl.1 dX12_own_64 (fun μ139 ρ d0 H locs hp G => ?_)
      obtain ⟨F_140, hp_141, hp_142, hp_143, hp_144, hp_145, hp_146⟩ := hp
      have hpl_147 := hp_142.pl
      have hw_148 := wr_r (μ := μ139)
      have vl_149 := hp_143
      replace hp_143 := fun _ : Unit => hp_143
      have vl_150 := hp_144
      replace hp_144 := fun _ : Unit => hp_144
      have vl_151 := hp_145
      replace hp_145 := fun _ : Unit => hp_145
      have vl_152 := hp_146
      replace hp_146 := fun _ : Unit => hp_146
      obtain ⟨hv_155, hv_156, hv_157, hv_158, hv_159, hv_160, hv_161, hv_162, hv_163, hv_164, hv_165, hv_166, hv_167, hv_168, hv_169, hv_170, hv_171, hv_172, hv_173⟩ : μ.1 111 22 ≤ μ91.1 111 22 ∧ μ91.1 111 22 ≤ μ.1 111 22 + 2 * (μ139.1 111 9 - μ.1 111 9) + 8 * (nn μ139 - nn μ) - 7 + -1 * wr μ139 ∧ μ.1 111 9 + 1 ≤ μ139.1 111 9 ∧ nn μ + 0 ≤ nn μ139 ∧ nn μ139 ≤ nn μ + 0 + 9 * wr μ139 ∧ nn μ139 ≤ 8 + wr μ139 ∧ 9 * wr μ139 ≤ nn μ139 ∧ nn μ139 ≤ 9 ∧ wr μ ≤ wr μ139 ∧ wr μ139 ≤ 1 ∧ wr μ139 ≤ bd μ139 ∧ bd μ139 ≤ 1 ∧ r_38 + 1 ≤ μ91.1 111 29 ∧ μ.1 111 29 ≤ μ91.1 111 29 ∧ μ.1 111 31 ≤ μ.1 111 31 ∧ μ.1 111 31 ≤ 300 ∧ 0 ≤ μ.1 111 32 ∧ μ.1 111 32 ≤ μ139.1 111 9 ∧ μ139.1 111 9 ≤ 3000 := by (repeat' apply And.intro) <;> omega
      clear hv_119 hv_120 hv_121 hv_122 hv_123 hv_124 hv_125 hv_126 hv_127 hv_128 hv_129 hv_130 hv_131 hv_132 hv_133 hv_134 hv_135 hv_136 hv_137 hw_138 hpl_147 hw_148 vl_149 vl_150 vl_151 vl_152
      refine lv_aload_n hx hb dX12_own_67 rfl (lv_at hl 2 rfl) ?_
      refine lv_iload_n hx hb dX12_own_68 rfl (lv_at hl 1 rfl) ?_
      refine lv_iload_n hx hb dX12_own_69 rfl (lv_at hl 0 rfl) ?_
      refine xb_i2l hx hb (by unfold ir; exact ⟨by omega, by omega⟩) dX12_own_70 ?_
      refine lv_iconst (v := iv 0) hx hb dX12_own_71 rfl ?_
      have hq_174 : ∀ _ : Unit, q0m μ91 μ139 := fun _ => (q0m.fr (K := [111]) (FrM.tr FrM.rf F_140 (by decide)) (by decide) (by decide) (by decide) (hp_141 22 (by decide)) (nS.le (Int.le_of_eq (hp_141 29 (by decide)).symm) (Int.le_of_eq (hp_141 31 (by decide)).symm)))
      have hw_175 := wr_r (μ := μ139)
      have hht_176 : ∀ _ : Unit, bd μ139 = 0 → mHt μ139 1 := fun _ h0 => (hht_109 () (bd_z ((hp_145 ()).2) h0)).qm (hq_174 ())
      have e_177 : μ139.1 111 29 = μ91.1 111 29 := (hp_141 29 (by decide))
      have hxt_178 : mEXT μ μ139 := hxt_106.tr (q0m.fr (K := [111]) (FrM.tr FrM.rf F_140 (by decide)) (by decide) (by decide) (by decide) (hp_141 22 (by decide)) (nS.le (Int.le_of_eq (hp_141 29 (by decide)).symm) (Int.le_of_eq (hp_141 31 (by decide)).symm))).1
      have e_179 : μ139.1 111 22 = μ91.1 111 22 := (hp_141 22 (by decide))
      refine xc_iV G (b := 111) (rest := []) (As := [.int (iv 11), .long (jv r_38), .int (iv 0)]) (c_X12_emit ω l μ139 11 r_38 0 (by unfold ir; decide) (by unfold jr; omega) (by unfold ir; decide) (by (repeat' apply And.intro) <;> omega)) (wm 9 126 rfl rfl) (wm 9 128 rfl rfl) (wm 0 144 rfl rfl) rfl rfl (by decide) rfl (wm 1 18 rfl rfl) (wm 9 129 rfl rfl) (by decide) hR ⟨nfB hF (by decide), nlB hLo (by decide)⟩ (n := 3) rfl rfl (Nat.le_of_ble_eq_true rfl) hl.1 dX12_own_72 (fun r_184 μ183 ρ d0 H locs hr_r_184 hp G => ?_)
      have hr_r_184 : -2147483648 ≤ r_184 ∧ r_184 ≤ 2147483647 := hr_r_184
      obtain ⟨F_185, hp_186, hp_187, hp_188, hp_189⟩ := hp
      have hxt_190 : mEXT μ μ183 := hxt_178.tr hp_187.1
      have hht_191 : ∀ _ : Unit, bd μ183 = 0 → mHt μ183 0 := fun _ h0 => (hht_176 () (bd_z (Int.le_of_eq (bd_cg (hp_186 15 (by decide)) (hp_186 16 (by decide)) (hp_186 17 (by decide))).symm) h0)).ad hp_187 rfl
      have vl_192 := hp_189
      replace hp_189 := fun _ : Unit => hp_189
      obtain ⟨hv_195, hv_196, hv_197, hv_198, hv_199, hv_200, hv_201, hv_202, hv_203, hv_204, hv_205, hv_206, hv_207, hv_208, hv_209, hv_210, hv_211, hv_212, hv_213⟩ : μ.1 111 22 ≤ μ183.1 111 22 ∧ μ183.1 111 22 ≤ μ.1 111 22 + 2 * (μ139.1 111 9 - μ.1 111 9) + 8 * (nn μ139 - nn μ) - 6 + -1 * wr μ139 ∧ μ.1 111 9 + 1 ≤ μ139.1 111 9 ∧ nn μ + 0 ≤ nn μ139 ∧ nn μ139 ≤ nn μ + 0 + 9 * wr μ139 ∧ nn μ139 ≤ 8 + wr μ139 ∧ 9 * wr μ139 ≤ nn μ139 ∧ nn μ139 ≤ 9 ∧ wr μ ≤ wr μ139 ∧ wr μ139 ≤ 1 ∧ wr μ139 ≤ bd μ139 ∧ bd μ139 ≤ 1 ∧ r_38 + 1 ≤ μ91.1 111 29 ∧ μ.1 111 29 ≤ μ91.1 111 29 ∧ μ.1 111 31 ≤ μ.1 111 31 ∧ μ.1 111 31 ≤ 300 ∧ 0 ≤ μ.1 111 32 ∧ μ.1 111 32 ≤ μ139.1 111 9 ∧ μ139.1 111 9 ≤ 3000 := by (repeat' apply And.intro) <;> omega
      clear hv_155 hv_156 hv_157 hv_158 hv_159 hv_160 hv_161 hv_162 hv_163 hv_164 hv_165 hv_166 hv_167 hv_168 hv_169 hv_170 hv_171 hv_172 hv_173 hw_175 e_177 e_179 vl_192
      refine lv_pop hx hb dX12_own_75 rfl ?_
      refine lv_goto (tgt := 360) hx hb dX12_own_76 (by decide) ?_
      refine lv_iconst (v := iv 1) hx hb dX12_own_360 rfl ?_
      have e_214 : μ183.1 111 9 = μ139.1 111 9 := (hp_186 9 (by decide))
      have e_215 : μ183.1 111 29 = μ91.1 111 29 := ((hp_186 29 (by decide)).trans (hp_141 29 (by decide)))
      have e_216 : μ183.1 111 39 = μ91.1 111 39 := ((hp_186 39 (by decide)).trans (hp_141 39 (by decide)))
      have e_217 : μ183.1 111 31 = μ.1 111 31 := ((hp_186 31 (by decide)).trans ((hp_141 31 (by decide)).trans ((hp_93 31 (by decide)).trans ((hp_40 31 (by decide)).trans (hp_5 31 (by decide))))))
      have e_218 : μ183.1 111 32 = μ.1 111 32 := ((hp_186 32 (by decide)).trans ((hp_141 32 (by decide)).trans ((hp_93 32 (by decide)).trans ((hp_40 32 (by decide)).trans (hp_5 32 (by decide))))))
      have e_219 : μ183.1 111 6 = μ139.1 111 6 := (hp_186 6 (by decide))
      have e_220 : wr μ183 = wr μ139 := (wr_cg (hp_186 15 (by decide)))
      have hw_221 := wr_r (μ := μ139)
      have e_222 : bd μ183 = bd μ139 := (bd_cg (hp_186 15 (by decide)) (hp_186 16 (by decide)) (hp_186 17 (by decide)))
      have e_223 : nn μ183 = nn μ139 := (nn_cg (hp_186 15 (by decide)) (hp_186 18 (by decide)))
      have hPM_224 : PM μ183 := hp_142.cg ((((hp_186 4 (by decide)).trans ((hp_141 4 (by decide)).trans ((hp_93 4 (by decide)).trans ((hp_40 4 (by decide)).trans (hp_5 4 (by decide))))))).trans (((hp_141 4 (by decide)).trans ((hp_93 4 (by decide)).trans ((hp_40 4 (by decide)).trans (hp_5 4 (by decide)))))).symm) (hp_186 6 (by decide)) ((((hp_186 7 (by decide)).trans ((hp_141 7 (by decide)).trans ((hp_93 7 (by decide)).trans ((hp_40 7 (by decide)).trans (hp_5 7 (by decide))))))).trans (((hp_141 7 (by decide)).trans ((hp_93 7 (by decide)).trans ((hp_40 7 (by decide)).trans (hp_5 7 (by decide)))))).symm) (hp_186 8 (by decide)) (hp_186 9 (by decide)) (hp_186 11 (by decide)) (hp_186 12 (by decide)) ((((hp_186 14 (by decide)).trans ((hp_141 14 (by decide)).trans ((hp_93 14 (by decide)).trans ((hp_40 14 (by decide)).trans ((hp_5 14 (by decide)).trans htt.symm)))))).trans (((hp_141 14 (by decide)).trans ((hp_93 14 (by decide)).trans ((hp_40 14 (by decide)).trans ((hp_5 14 (by decide)).trans htt.symm))))).symm) (hp_186 15 (by decide)) ((((hp_186 29 (by decide)).trans (hp_141 29 (by decide)))).trans ((hp_141 29 (by decide))).symm) (fun j => (F_185.1 123 (by decide) j))
      exact xr_i G (x := 1) hret hlk (by unfold ir; exact ⟨by omega, by omega⟩) (zr (by omega)) dX12_own_361 ⟨(FrM.tr (FrM.tr (FrM.tr (FrM.tr (FrM.tr FrM.rf F_4 (by decide)) F_39 (by decide)) F_92 (by decide)) F_140 (by decide)) F_185 (by decide)), (fun j hj => ((hp_186 j (fun h9 => hj ((by decide : ∀ x ∈ ([22] : List Int), x ∈ ([6, 8, 9, 10, 11, 12, 13, 15, 16, 17, 18, 22, 29, 31, 32, 34, 35, 36, 37, 39] : List Int)) j h9))).trans ((hp_141 j (fun h9 => hj ((by decide : ∀ x ∈ ([6, 8, 9, 10, 11, 12, 13, 15] : List Int), x ∈ ([6, 8, 9, 10, 11, 12, 13, 15, 16, 17, 18, 22, 29, 31, 32, 34, 35, 36, 37, 39] : List Int)) j h9))).trans ((hp_93 j (fun h9 => hj ((by decide : ∀ x ∈ ([6, 8, 9, 10, 11, 12, 13, 15, 16, 17, 18, 22, 29, 39] : List Int), x ∈ ([6, 8, 9, 10, 11, 12, 13, 15, 16, 17, 18, 22, 29, 31, 32, 34, 35, 36, 37, 39] : List Int)) j h9))).trans ((hp_40 j (fun h9 => hj ((by decide : ∀ x ∈ ([6, 8, 9, 10, 11, 12, 13, 15, 16, 29] : List Int), x ∈ ([6, 8, 9, 10, 11, 12, 13, 15, 16, 17, 18, 22, 29, 31, 32, 34, 35, 36, 37, 39] : List Int)) j h9))).trans (hp_5 j (fun h9 => hj ((by decide : ∀ x ∈ ([6, 8, 9, 10, 11, 12, 13, 15] : List Int), x ∈ ([6, 8, 9, 10, 11, 12, 13, 15, 16, 17, 18, 22, 29, 31, 32, 34, 35, 36, 37, 39] : List Int)) j h9)))))))), hPM_224, (by (repeat' apply And.intro) <;> omega), (by (repeat' apply And.intro) <;> omega), (by (repeat' apply And.intro) <;> omega), ⟨by omega, (Int.le_trans (Int.le_trans (Int.le_trans (Int.le_trans ((hp_8 ()).2) ((hp_46 ()).2)) ((hp_98 ()).2)) ((hp_145 ()).2)) (Int.le_of_eq (bd_cg (hp_186 15 (by decide)) (hp_186 16 (by decide)) (hp_186 17 (by decide))).symm))⟩, (by (repeat' apply And.intro) <;> omega), (by (repeat' apply And.intro) <;> omega), (fun j hj => ((F_185.1 126 (by decide) j).trans ((F_140.1 126 (by decide) j).trans ((hwk_107 j (by omega)).trans ((F_39.1 126 (by decide) j).trans (F_4.1 126 (by decide) j)))))), (by (repeat' apply And.intro) <;> omega), (by (repeat' apply And.intro) <;> omega), (fun _ _ h0 => mEY.ql (hq_76 ()) (as_one (M := (2 * (9 - nn μ))) ((hS1 () (bd_z (Int.le_trans (Int.le_trans (Int.le_trans (Int.le_trans ((hp_8 ()).2) ((hp_46 ()).2)) ((hp_98 ()).2)) ((hp_145 ()).2)) (Int.le_of_eq (bd_cg (hp_186 15 (by decide)) (hp_186 16 (by decide)) (hp_186 17 (by decide))).symm)) h0)).qm (hq_76 ())).s ((hex_108 () (bd_z (Int.le_trans ((hp_145 ()).2) (Int.le_of_eq (bd_cg (hp_186 15 (by decide)) (hp_186 16 (by decide)) (hp_186 17 (by decide))).symm)) h0)).qm (hq_174 ())) (by omega) (by omega) hp_187 (by unfold mpl; omega) rfl rfl (fun h1 => ⟨fun q => absurd q (by decide), ⟨fun q => absurd q (by decide), fun q => absurd q (by decide)⟩, fun q => absurd q (by decide), fun q => absurd q (by decide), fun q => absurd q (by decide), fun q => absurd q (by decide), fun _ => ⟨by omega, by omega, by omega, by unfold nS; dsimp only; omega⟩, fun q => absurd q (by decide), fun q => absurd q (by decide), fun q => absurd q (by decide), fun q => absurd q (by decide), fun q => absurd q (by decide), fun q => absurd q (by decide), fun q => absurd q (by decide), fun q => absurd q (by decide), fun q => absurd q (by decide), fun q => absurd q (by decide), fun q => absurd q (by decide), fun q => absurd q (by decide), fun q => absurd q (by decide), fun q => absurd q (by decide), ⟨fun q => absurd q (by decide), fun q => absurd q (by decide), fun q => absurd q (by decide)⟩, ⟨by decide, by decide⟩⟩))), hxt_190, (by (repeat' apply And.intro) <;> omega), (fun _ h1 => absurd h1 (by decide))⟩
    · replace c_13 := fun _ : Unit => c_13
      refine lv_aload_n hx hb dX12_own_16 rfl (lv_at hl 0 rfl) ?_
      refine xa_geti G fd_X12 (a := 111) (x := tt) 14 rfl (by decide) rfl (wm 7 163 rfl rfl) ⟨rfl, rfl, rfl⟩ dX12_own_17 rfl htt.symm ?_
      refine lv_iconst (v := iv 3) hx hb dX12_own_20 rfl ?_
      refine xb_icmp_ne (tgt := 79) hx hb (by unfold ir; exact ⟨by omega, by omega⟩) (by unfold ir; exact ⟨by omega, by omega⟩) dX12_own_21 (by decide) (fun c_21 => ?_) (fun c_21 => absurd c_21 (by omega))
      refine lv_aload_n hx hb dX12_own_79 rfl (lv_at hl 0 rfl) ?_
      refine xa_geti G fd_X12 (a := 111) (x := tt) 14 rfl (by decide) rfl (wm 7 163 rfl rfl) ⟨rfl, rfl, rfl⟩ dX12_own_80 rfl htt.symm ?_
      refine xb_if_ne (tgt := 102) hx hb (by unfold ir; exact ⟨by omega, by omega⟩) dX12_own_83 (by decide) (fun c_83 => absurd c_83 (by omega)) (fun c_83 => ?_)
      refine lv_aload_n hx hb dX12_own_86 rfl (lv_at hl 0 rfl) ?_
      refine xa_geti G fd_X12 (a := 111) (x := μ.1 111 11) 11 rfl (by decide) rfl (wm 7 160 rfl rfl) ⟨rfl, rfl, rfl⟩ dX12_own_87 rfl rfl ?_
      refine lv_bipush (v := iv 10) hx hb dX12_own_90 rfl ?_
      refine xb_icmp_ne (tgt := 102) hx hb (by unfold ir; exact ⟨by omega, by omega⟩) (by unfold ir; exact ⟨by omega, by omega⟩) dX12_own_92 (by decide) (fun c_92 => ?_) (fun c_92 => ?_)
      · replace c_92 := fun _ : Unit => c_92
        refine lv_aload_n hx hb dX12_own_102 rfl (lv_at hl 0 rfl) ?_
        refine xa_geti G fd_X12 (a := 111) (x := tt) 14 rfl (by decide) rfl (wm 7 163 rfl rfl) ⟨rfl, rfl, rfl⟩ dX12_own_103 rfl htt.symm ?_
        refine lv_iconst (v := iv 1) hx hb dX12_own_106 rfl ?_
        refine xb_icmp_ne (tgt := 145) hx hb (by unfold ir; exact ⟨by omega, by omega⟩) (by unfold ir; exact ⟨by omega, by omega⟩) dX12_own_107 (by decide) (fun c_107 => ?_) (fun c_107 => absurd c_107 (by omega))
        refine lv_aload_n hx hb dX12_own_145 rfl (lv_at hl 0 rfl) ?_
        refine xa_geti G fd_X12 (a := 111) (x := tt) 14 rfl (by decide) rfl (wm 7 163 rfl rfl) ⟨rfl, rfl, rfl⟩ dX12_own_146 rfl htt.symm ?_
        refine lv_iconst (v := iv 1) hx hb dX12_own_149 rfl ?_
        refine xb_icmp_ne (tgt := 183) hx hb (by unfold ir; exact ⟨by omega, by omega⟩) (by unfold ir; exact ⟨by omega, by omega⟩) dX12_own_150 (by decide) (fun c_150 => ?_) (fun c_150 => absurd c_150 (by omega))
        refine lv_aload_n hx hb dX12_own_183 rfl (lv_at hl 0 rfl) ?_
        refine xa_geti G fd_X12 (a := 111) (x := tt) 14 rfl (by decide) rfl (wm 7 163 rfl rfl) ⟨rfl, rfl, rfl⟩ dX12_own_184 rfl htt.symm ?_
        refine lv_iconst (v := iv 2) hx hb dX12_own_187 rfl ?_
        refine xb_icmp_ne (tgt := 253) hx hb (by unfold ir; exact ⟨by omega, by omega⟩) (by unfold ir; exact ⟨by omega, by omega⟩) dX12_own_188 (by decide) (fun c_188 => ?_) (fun c_188 => absurd c_188 (by omega))
        refine lv_aload_n hx hb dX12_own_253 rfl (lv_at hl 0 rfl) ?_
        refine xa_geti G fd_X12 (a := 111) (x := tt) 14 rfl (by decide) rfl (wm 7 163 rfl rfl) ⟨rfl, rfl, rfl⟩ dX12_own_254 rfl htt.symm ?_
        refine lv_iconst (v := iv 3) hx hb dX12_own_257 rfl ?_
        refine xb_icmp_ne (tgt := 334) hx hb (by unfold ir; exact ⟨by omega, by omega⟩) (by unfold ir; exact ⟨by omega, by omega⟩) dX12_own_258 (by decide) (fun c_258 => ?_) (fun c_258 => absurd c_258 (by omega))
        refine lv_aload_n hx hb dX12_own_334 rfl (lv_at hl 0 rfl) ?_
        refine xa_geti G fd_X12 (a := 111) (x := tt) 14 rfl (by decide) rfl (wm 7 163 rfl rfl) ⟨rfl, rfl, rfl⟩ dX12_own_335 rfl htt.symm ?_
        refine lv_iconst (v := iv 3) hx hb dX12_own_338 rfl ?_
        refine xb_icmp_ne (tgt := 358) hx hb (by unfold ir; exact ⟨by omega, by omega⟩) (by unfold ir; exact ⟨by omega, by omega⟩) dX12_own_339 (by decide) (fun c_339 => ?_) (fun c_339 => absurd c_339 (by omega))
        refine lv_iconst (v := iv 0) hx hb dX12_own_358 rfl ?_
        exact xr_i G (x := 0) hret hlk (by unfold ir; exact ⟨by omega, by omega⟩) (zr (by omega)) dX12_own_359 ⟨FrM.rf, (fun j hj => rfl), hPM, (by (repeat' apply And.intro) <;> omega), (by (repeat' apply And.intro) <;> omega), (by (repeat' apply And.intro) <;> omega), ⟨Int.le_refl _, Int.le_refl _⟩, (by (repeat' apply And.intro) <;> omega), (by (repeat' apply And.intro) <;> omega), (fun _ _ => rfl), (by (repeat' apply And.intro) <;> omega), (by (repeat' apply And.intro) <;> omega), (fun _ h1 => absurd h1 (by decide)), (mEXT.rf (μ := μ)), (by (repeat' apply And.intro) <;> omega), (fun _ _ => rfl)⟩
      · refine lv_aload_n hx hb dX12_own_95 rfl (lv_at hl 0 rfl) ?_
        have e_238 : μ.1 111 14 = tt := htt.symm
        refine xc_vV G (b := 111) (rest := []) (As := []) (c_X12_tries ω l μ F Lo kf tt (by (repeat' apply And.intro) <;> omega) hF hLo hK hPM (by (repeat' apply And.intro) <;> omega) (by (repeat' apply And.intro) <;> omega) (by (repeat' apply And.intro) <;> omega) (by (repeat' apply And.intro) <;> omega) (by (repeat' apply And.intro) <;> omega) (by (repeat' apply And.intro) <;> omega) (by (repeat' apply And.intro) <;> omega) (by (repeat' apply And.intro) <;> omega) (fun _ h0 => (hS1 () h0)) (by (repeat' apply And.intro) <;> omega) (by (repeat' apply And.intro) <;> omega)) (wm 10 14 rfl rfl) (wm 10 16 rfl rfl) (wm 0 175 rfl rfl) rfl rfl (by decide) rfl (wm 1 18 rfl rfl) (wm 10 17 rfl rfl) (by decide) hR ⟨sfr (F := F) (a := 1) (by decide), slo (L := Lo) (m := 12) (a := 20) (by decide)⟩ (n := 0) rfl rfl (Nat.le_of_ble_eq_true rfl) hl.1 dX12_own_96 (fun μ239 ρ d0 H locs hp G => ?_)
        obtain ⟨F_240, hp_241, hp_242, hp_243, hp_244, hp_245, hp_246, hp_247, hp_248, hp_249, hp_250, hp_251, hp_252, hp_253⟩ := hp
        have hpl_254 := hp_242.pl
        have hw_255 := wr_r (μ := μ239)
        have hxt_256 : mEXT μ μ239 := (mEXT.rf (μ := μ)).tr hp_253
        have hwk_257 : ∀ j, j < μ.1 111 39 → μ239.1 126 j = μ.1 126 j := fun j hj => hp_249 j (by omega)
        have hey_258 : ∀ _ : Unit, bd μ239 = 0 → mEY μ μ239 tt (2 * (9 - nn μ)) := fun _ h0 => (hp_252 () h0).mn (by omega)
        have vl_259 := hp_243
        replace hp_243 := fun _ : Unit => hp_243
        have vl_260 := hp_244
        replace hp_244 := fun _ : Unit => hp_244
        have vl_261 := hp_245
        replace hp_245 := fun _ : Unit => hp_245
        have vl_262 := hp_246
        replace hp_246 := fun _ : Unit => hp_246
        have vl_263 := hp_247
        replace hp_247 := fun _ : Unit => hp_247
        have vl_264 := hp_248
        replace hp_248 := fun _ : Unit => hp_248
        have vl_265 := hp_250
        replace hp_250 := fun _ : Unit => hp_250
        have vl_266 := hp_251
        replace hp_251 := fun _ : Unit => hp_251
        have h39_267 : μ239.1 111 39 = μ.1 111 39 := by omega
        obtain ⟨hv_270, hv_271, hv_272, hv_273, hv_274, hv_275, hv_276, hv_277, hv_278, hv_279, hv_280, hv_281, hv_282, hv_283, hv_284, hv_285, hv_286, hv_287, hv_288⟩ : μ.1 111 22 ≤ μ239.1 111 22 ∧ μ239.1 111 22 ≤ μ.1 111 22 + 2 * (μ239.1 111 9 - μ.1 111 9) + 8 * (nn μ239 - nn μ) - 1 + 0 * wr μ239 ∧ μ.1 111 9 + 0 ≤ μ239.1 111 9 ∧ μ.1 111 9 + 1 ≤ μ239.1 111 9 + wr μ239 ∧ nn μ + 0 ≤ nn μ239 ∧ nn μ239 ≤ nn μ + 0 + 9 * wr μ239 ∧ nn μ239 ≤ 8 + wr μ239 ∧ 9 * wr μ239 ≤ nn μ239 ∧ nn μ239 ≤ 9 ∧ wr μ ≤ wr μ239 ∧ wr μ239 ≤ 1 ∧ wr μ239 ≤ bd μ239 ∧ bd μ239 ≤ 1 ∧ μ.1 111 29 ≤ μ239.1 111 29 ∧ μ.1 111 31 ≤ μ239.1 111 31 ∧ μ239.1 111 31 ≤ 300 ∧ 0 ≤ μ239.1 111 32 ∧ μ239.1 111 32 ≤ μ239.1 111 9 ∧ μ239.1 111 9 ≤ 3000 := by (repeat' apply And.intro) <;> omega
        clear e_238 hpl_254 hw_255 vl_259 vl_260 vl_261 vl_262 vl_263 vl_264 vl_265 vl_266
        refine lv_goto (tgt := 360) hx hb dX12_own_99 (by decide) ?_
        refine lv_iconst (v := iv 1) hx hb dX12_own_360 rfl ?_
        have hw_289 := wr_r (μ := μ239)
        exact xr_i G (x := 1) hret hlk (by unfold ir; exact ⟨by omega, by omega⟩) (zr (by omega)) dX12_own_361 ⟨(FrM.tr FrM.rf F_240 (by decide)), (fun j hj => (hp_241 j (fun h9 => hj ((by decide : ∀ x ∈ ([6, 8, 9, 10, 11, 12, 13, 15, 16, 17, 18, 22, 29, 31, 32, 34, 35, 36, 37, 39] : List Int), x ∈ ([6, 8, 9, 10, 11, 12, 13, 15, 16, 17, 18, 22, 29, 31, 32, 34, 35, 36, 37, 39] : List Int)) j h9)))), hp_242, (by (repeat' apply And.intro) <;> omega), (by (repeat' apply And.intro) <;> omega), (by (repeat' apply And.intro) <;> omega), ⟨by omega, ((hp_246 ()).2)⟩, (by (repeat' apply And.intro) <;> omega), (by (repeat' apply And.intro) <;> omega), (fun j hj => (hwk_257 j (by omega))), (by (repeat' apply And.intro) <;> omega), (by (repeat' apply And.intro) <;> omega), (fun _ _ h0 => (hey_258 () h0)), hxt_256, (by (repeat' apply And.intro) <;> omega), (fun _ h1 => absurd h1 (by decide))⟩
  · refine lv_aload_n hx hb dX12_own_0 rfl (lv_at hl 0 rfl) ?_
    refine xa_geti G fd_X12 (a := 111) (x := tt) 14 rfl (by decide) rfl (wm 7 163 rfl rfl) ⟨rfl, rfl, rfl⟩ dX12_own_1 rfl htt.symm ?_
    have hr_290 : -2147483648 ≤ tt ∧ tt ≤ 2147483647 := by have h9 := G.hr (a := 111) (k := 14) rfl; rw [show μ.1 111 14 = tt from htt.symm] at h9; exact h9
    refine xb_if_ne (tgt := 16) hx hb (by unfold ir; exact ⟨by omega, by omega⟩) dX12_own_4 (by decide) (fun c_4 => ?_) (fun c_4 => absurd c_4 (by omega))
    refine lv_aload_n hx hb dX12_own_16 rfl (lv_at hl 0 rfl) ?_
    refine xa_geti G fd_X12 (a := 111) (x := tt) 14 rfl (by decide) rfl (wm 7 163 rfl rfl) ⟨rfl, rfl, rfl⟩ dX12_own_17 rfl htt.symm ?_
    refine lv_iconst (v := iv 3) hx hb dX12_own_20 rfl ?_
    refine xb_icmp_ne (tgt := 79) hx hb (by unfold ir; exact ⟨by omega, by omega⟩) (by unfold ir; exact ⟨by omega, by omega⟩) dX12_own_21 (by decide) (fun c_21 => ?_) (fun c_21 => absurd c_21 (by omega))
    refine lv_aload_n hx hb dX12_own_79 rfl (lv_at hl 0 rfl) ?_
    refine xa_geti G fd_X12 (a := 111) (x := tt) 14 rfl (by decide) rfl (wm 7 163 rfl rfl) ⟨rfl, rfl, rfl⟩ dX12_own_80 rfl htt.symm ?_
    refine xb_if_ne (tgt := 102) hx hb (by unfold ir; exact ⟨by omega, by omega⟩) dX12_own_83 (by decide) (fun c_83 => ?_) (fun c_83 => absurd c_83 (by omega))
    refine lv_aload_n hx hb dX12_own_102 rfl (lv_at hl 0 rfl) ?_
    refine xa_geti G fd_X12 (a := 111) (x := tt) 14 rfl (by decide) rfl (wm 7 163 rfl rfl) ⟨rfl, rfl, rfl⟩ dX12_own_103 rfl htt.symm ?_
    refine lv_iconst (v := iv 1) hx hb dX12_own_106 rfl ?_
    refine xb_icmp_ne (tgt := 145) hx hb (by unfold ir; exact ⟨by omega, by omega⟩) (by unfold ir; exact ⟨by omega, by omega⟩) dX12_own_107 (by decide) (fun c_107 => absurd c_107 (by omega)) (fun c_107 => ?_)
    refine lv_aload_n hx hb dX12_own_110 rfl (lv_at hl 0 rfl) ?_
    refine xa_geti G fd_X12 (a := 111) (x := μ.1 111 11) 11 rfl (by decide) rfl (wm 7 160 rfl rfl) ⟨rfl, rfl, rfl⟩ dX12_own_111 rfl rfl ?_
    have hr_291 : -2147483648 ≤ μ.1 111 11 ∧ μ.1 111 11 ≤ 2147483647 := by have h9 := G.hr (a := 111) (k := 11) rfl; exact h9
    refine lv_bipush (v := iv 13) hx hb dX12_own_114 rfl ?_
    refine xb_icmp_ne (tgt := 145) hx hb (by unfold ir; exact ⟨by omega, by omega⟩) (by unfold ir; exact ⟨by omega, by omega⟩) dX12_own_116 (by decide) (fun c_116 => ?_) (fun c_116 => ?_)
    · replace c_116 := fun _ : Unit => c_116
      refine lv_aload_n hx hb dX12_own_145 rfl (lv_at hl 0 rfl) ?_
      refine xa_geti G fd_X12 (a := 111) (x := tt) 14 rfl (by decide) rfl (wm 7 163 rfl rfl) ⟨rfl, rfl, rfl⟩ dX12_own_146 rfl htt.symm ?_
      refine lv_iconst (v := iv 1) hx hb dX12_own_149 rfl ?_
      refine xb_icmp_ne (tgt := 183) hx hb (by unfold ir; exact ⟨by omega, by omega⟩) (by unfold ir; exact ⟨by omega, by omega⟩) dX12_own_150 (by decide) (fun c_150 => absurd c_150 (by omega)) (fun c_150 => ?_)
      refine lv_aload_n hx hb dX12_own_153 rfl (lv_at hl 0 rfl) ?_
      refine xa_geti G fd_X12 (a := 111) (x := μ.1 111 11) 11 rfl (by decide) rfl (wm 7 160 rfl rfl) ⟨rfl, rfl, rfl⟩ dX12_own_154 rfl rfl ?_
      refine lv_bipush (v := iv 14) hx hb dX12_own_157 rfl ?_
      refine xb_icmp_ne (tgt := 183) hx hb (by unfold ir; exact ⟨by omega, by omega⟩) (by unfold ir; exact ⟨by omega, by omega⟩) dX12_own_159 (by decide) (fun c_159 => ?_) (fun c_159 => ?_)
      · replace c_159 := fun _ : Unit => c_159
        refine lv_aload_n hx hb dX12_own_183 rfl (lv_at hl 0 rfl) ?_
        refine xa_geti G fd_X12 (a := 111) (x := tt) 14 rfl (by decide) rfl (wm 7 163 rfl rfl) ⟨rfl, rfl, rfl⟩ dX12_own_184 rfl htt.symm ?_
        refine lv_iconst (v := iv 2) hx hb dX12_own_187 rfl ?_
        refine xb_icmp_ne (tgt := 253) hx hb (by unfold ir; exact ⟨by omega, by omega⟩) (by unfold ir; exact ⟨by omega, by omega⟩) dX12_own_188 (by decide) (fun c_188 => ?_) (fun c_188 => absurd c_188 (by omega))
        refine lv_aload_n hx hb dX12_own_253 rfl (lv_at hl 0 rfl) ?_
        refine xa_geti G fd_X12 (a := 111) (x := tt) 14 rfl (by decide) rfl (wm 7 163 rfl rfl) ⟨rfl, rfl, rfl⟩ dX12_own_254 rfl htt.symm ?_
        refine lv_iconst (v := iv 3) hx hb dX12_own_257 rfl ?_
        refine xb_icmp_ne (tgt := 334) hx hb (by unfold ir; exact ⟨by omega, by omega⟩) (by unfold ir; exact ⟨by omega, by omega⟩) dX12_own_258 (by decide) (fun c_258 => ?_) (fun c_258 => absurd c_258 (by omega))
        refine lv_aload_n hx hb dX12_own_334 rfl (lv_at hl 0 rfl) ?_
        refine xa_geti G fd_X12 (a := 111) (x := tt) 14 rfl (by decide) rfl (wm 7 163 rfl rfl) ⟨rfl, rfl, rfl⟩ dX12_own_335 rfl htt.symm ?_
        refine lv_iconst (v := iv 3) hx hb dX12_own_338 rfl ?_
        refine xb_icmp_ne (tgt := 358) hx hb (by unfold ir; exact ⟨by omega, by omega⟩) (by unfold ir; exact ⟨by omega, by omega⟩) dX12_own_339 (by decide) (fun c_339 => ?_) (fun c_339 => absurd c_339 (by omega))
        refine lv_iconst (v := iv 0) hx hb dX12_own_358 rfl ?_
        exact xr_i G (x := 0) hret hlk (by unfold ir; exact ⟨by omega, by omega⟩) (zr (by omega)) dX12_own_359 ⟨FrM.rf, (fun j hj => rfl), hPM, (by (repeat' apply And.intro) <;> omega), (by (repeat' apply And.intro) <;> omega), (by (repeat' apply And.intro) <;> omega), ⟨Int.le_refl _, Int.le_refl _⟩, (by (repeat' apply And.intro) <;> omega), (by (repeat' apply And.intro) <;> omega), (fun _ _ => rfl), (by (repeat' apply And.intro) <;> omega), (by (repeat' apply And.intro) <;> omega), (fun _ h1 => absurd h1 (by decide)), (mEXT.rf (μ := μ)), (by (repeat' apply And.intro) <;> omega), (fun _ _ => rfl)⟩
      · refine lv_aload_n hx hb dX12_own_162 rfl (lv_at hl 0 rfl) ?_
        refine xc_vV G (b := 111) (rest := []) (As := []) (c_X12_next ω l μ  hPM (by (repeat' apply And.intro) <;> omega) (by (repeat' apply And.intro) <;> omega)) (wm 9 0 rfl rfl) (wm 9 2 rfl rfl) (wm 0 119 rfl rfl) rfl rfl (by decide) rfl (wm 1 18 rfl rfl) (wm 9 3 rfl rfl) (by decide) hR ⟨nfB hF (by decide), nlB hLo (by decide)⟩ (n := 0) rfl rfl (Nat.le_of_ble_eq_true rfl) hl.1 dX12_own_163 (fun μ292 ρ d0 H locs hp G => ?_)
        obtain ⟨F_293, hp_294, hp_295, hp_296, hp_297, hp_298⟩ := hp
        have hpl_299 := hp_295.pl
        have hw_300 := wr_r (μ := μ292)
        have vl_301 := hp_296
        replace hp_296 := fun _ : Unit => hp_296
        have vl_302 := hp_297
        replace hp_297 := fun _ : Unit => hp_297
        have vl_303 := hp_298
        replace hp_298 := fun _ : Unit => hp_298
        obtain ⟨hv_306, hv_307, hv_308, hv_309, hv_310, hv_311, hv_312, hv_313, hv_314, hv_315, hv_316, hv_317, hv_318, hv_319, hv_320, hv_321, hv_322, hv_323⟩ : μ.1 111 22 ≤ μ.1 111 22 ∧ μ.1 111 22 ≤ μ.1 111 22 + 2 * (μ292.1 111 9 - μ.1 111 9) + 8 * (nn μ292 - nn μ) - 2 + -6 * wr μ292 ∧ μ.1 111 9 + 1 ≤ μ292.1 111 9 ∧ nn μ + 0 ≤ nn μ292 ∧ nn μ292 ≤ nn μ + 0 + 9 * wr μ292 ∧ nn μ292 ≤ 8 + wr μ292 ∧ 9 * wr μ292 ≤ nn μ292 ∧ nn μ292 ≤ 9 ∧ wr μ ≤ wr μ292 ∧ wr μ292 ≤ 1 ∧ wr μ292 ≤ bd μ292 ∧ bd μ292 ≤ 1 ∧ μ.1 111 29 ≤ μ.1 111 29 ∧ μ.1 111 31 ≤ μ.1 111 31 ∧ μ.1 111 31 ≤ 300 ∧ 0 ≤ μ.1 111 32 ∧ μ.1 111 32 ≤ μ292.1 111 9 ∧ μ292.1 111 9 ≤ 3000 := by (repeat' apply And.intro) <;> omega
        clear hpl_299 hw_300 vl_301 vl_302 vl_303
        refine lv_aload_n hx hb dX12_own_166 rfl (lv_at hl 0 rfl) ?_
        refine lv_aload_n hx hb dX12_own_167 rfl (lv_at hl 0 rfl) ?_
        refine lv_bipush (v := iv 19) hx hb dX12_own_168 rfl ?_
        refine lv_lconst (v := jv 0) hx hb dX12_own_170 rfl ?_
        refine lv_iconst (v := iv 0) hx hb dX12_own_171 rfl ?_
        have hq_324 : ∀ _ : Unit, q0m μ μ292 := fun _ => (q0m.fr (K := [111]) (FrM.tr FrM.rf F_293 (by decide)) (by decide) (by decide) (by decide) (hp_294 22 (by decide)) (nS.le (Int.le_of_eq (hp_294 29 (by decide)).symm) (Int.le_of_eq (hp_294 31 (by decide)).symm)))
        have hw_325 := wr_r (μ := μ292)
        have hht_326 : ∀ _ : Unit, bd μ292 = 0 → mHt μ292 0 := fun _ h0 => (hht_0 () (bd_z ((hp_297 ()).2) h0)).qm (hq_324 ())
        have e_327 : μ292.1 111 29 = μ.1 111 29 := (hp_294 29 (by decide))
        have hxt_328 : mEXT μ μ292 := (q0m.fr (K := [111]) (FrM.tr FrM.rf F_293 (by decide)) (by decide) (by decide) (by decide) (hp_294 22 (by decide)) (nS.le (Int.le_of_eq (hp_294 29 (by decide)).symm) (Int.le_of_eq (hp_294 31 (by decide)).symm))).1
        have e_329 : μ292.1 111 22 = μ.1 111 22 := (hp_294 22 (by decide))
        refine xc_iV G (b := 111) (rest := [.ref (oP ω 111)]) (As := [.int (iv 19), .long (jv 0), .int (iv 0)]) (c_X12_emit ω l μ292 19 0 0 (by unfold ir; decide) (by unfold jr; omega) (by unfold ir; decide) (by (repeat' apply And.intro) <;> omega)) (wm 9 126 rfl rfl) (wm 9 128 rfl rfl) (wm 0 144 rfl rfl) rfl rfl (by decide) rfl (wm 1 18 rfl rfl) (wm 9 129 rfl rfl) (by decide) hR ⟨nfB hF (by decide), nlB hLo (by decide)⟩ (n := 3) rfl rfl (Nat.le_of_ble_eq_true rfl) hl.1 dX12_own_172 (fun r_334 μ333 ρ d0 H locs hr_r_334 hp G => ?_)
        have hr_r_334 : -2147483648 ≤ r_334 ∧ r_334 ≤ 2147483647 := hr_r_334
        obtain ⟨F_335, hp_336, hp_337, hp_338, hp_339⟩ := hp
        have hxt_340 : mEXT μ μ333 := hxt_328.tr hp_337.1
        have hht_341 : ∀ _ : Unit, bd μ333 = 0 → mHt μ333 0 := fun _ h0 => (hht_326 () (bd_z (Int.le_of_eq (bd_cg (hp_336 15 (by decide)) (hp_336 16 (by decide)) (hp_336 17 (by decide))).symm) h0)).ad hp_337 rfl
        have hps_r_334 : μ.1 111 22 ≤ r_334 := by omega
        have vl_342 := hp_339
        replace hp_339 := fun _ : Unit => hp_339
        obtain ⟨hv_345, hv_346, hv_347, hv_348, hv_349, hv_350, hv_351, hv_352, hv_353, hv_354, hv_355, hv_356, hv_357, hv_358, hv_359, hv_360, hv_361, hv_362, hv_363⟩ : μ.1 111 22 ≤ μ333.1 111 22 ∧ μ333.1 111 22 ≤ μ.1 111 22 + 2 * (μ292.1 111 9 - μ.1 111 9) + 8 * (nn μ292 - nn μ) - 1 + -6 * wr μ292 ∧ μ.1 111 9 + 1 ≤ μ292.1 111 9 ∧ nn μ + 0 ≤ nn μ292 ∧ nn μ292 ≤ nn μ + 0 + 9 * wr μ292 ∧ nn μ292 ≤ 8 + wr μ292 ∧ 9 * wr μ292 ≤ nn μ292 ∧ nn μ292 ≤ 9 ∧ wr μ ≤ wr μ292 ∧ wr μ292 ≤ 1 ∧ wr μ292 ≤ bd μ292 ∧ bd μ292 ≤ 1 ∧ r_334 + 1 ≤ μ333.1 111 22 ∧ μ.1 111 29 ≤ μ.1 111 29 ∧ μ.1 111 31 ≤ μ.1 111 31 ∧ μ.1 111 31 ≤ 300 ∧ 0 ≤ μ.1 111 32 ∧ μ.1 111 32 ≤ μ292.1 111 9 ∧ μ292.1 111 9 ≤ 3000 := by (repeat' apply And.intro) <;> omega
        clear hv_306 hv_307 hv_308 hv_309 hv_310 hv_311 hv_312 hv_313 hv_314 hv_315 hv_316 hv_317 hv_318 hv_319 hv_320 hv_321 hv_322 hv_323 hw_325 e_327 e_329 vl_342
        refine lv_bipush (v := iv 15) hx hb dX12_own_175 rfl ?_
        have e_364 : μ333.1 111 29 = μ.1 111 29 := ((hp_336 29 (by decide)).trans (hp_294 29 (by decide)))
        have e_365 : μ333.1 111 14 = tt := ((hp_336 14 (by decide)).trans ((hp_294 14 (by decide)).trans htt.symm))
        have hPM_366 : PM μ333 := hp_295.cg ((((hp_336 4 (by decide)).trans (hp_294 4 (by decide)))).trans ((hp_294 4 (by decide))).symm) (hp_336 6 (by decide)) ((((hp_336 7 (by decide)).trans (hp_294 7 (by decide)))).trans ((hp_294 7 (by decide))).symm) (hp_336 8 (by decide)) (hp_336 9 (by decide)) (hp_336 11 (by decide)) (hp_336 12 (by decide)) ((((hp_336 14 (by decide)).trans ((hp_294 14 (by decide)).trans htt.symm))).trans (((hp_294 14 (by decide)).trans htt.symm)).symm) (hp_336 15 (by decide)) ((((hp_336 29 (by decide)).trans (hp_294 29 (by decide)))).trans ((hp_294 29 (by decide))).symm) (fun j => (F_335.1 123 (by decide) j))
        have e_367 : wr μ333 = wr μ292 := (wr_cg (hp_336 15 (by decide)))
        have hw_368 := wr_r (μ := μ292)
        have e_369 : nn μ333 = nn μ292 := (nn_cg (hp_336 15 (by decide)) (hp_336 18 (by decide)))
        have e_372 : μ333.1 111 9 = μ292.1 111 9 := (hp_336 9 (by decide))
        have e_374 : μ333.1 111 39 = μ.1 111 39 := ((hp_336 39 (by decide)).trans (hp_294 39 (by decide)))
        have e_376 : μ333.1 111 31 = μ.1 111 31 := ((hp_336 31 (by decide)).trans (hp_294 31 (by decide)))
        have e_378 : μ333.1 111 32 = μ.1 111 32 := ((hp_336 32 (by decide)).trans (hp_294 32 (by decide)))
        have e_388 : bd μ333 = bd μ292 := (bd_cg (hp_336 15 (by decide)) (hp_336 16 (by decide)) (hp_336 17 (by decide)))
        refine xc_vV G (b := 111) (rest := []) (As := [.int (iv r_334), .int (iv 15)]) (c_X12_door ω l μ333 r_334 15 F Lo kf μ292 μ tt (by unfold ir; exact ⟨by omega, by omega⟩) (by unfold ir; decide) (by (repeat' apply And.intro) <;> omega) hF hLo hK hPM_366 (by (repeat' apply And.intro) <;> omega) (by (repeat' apply And.intro) <;> omega) (by (repeat' apply And.intro) <;> omega) (by (repeat' apply And.intro) <;> omega) (by (repeat' apply And.intro) <;> omega) (by (repeat' apply And.intro) <;> omega) (by (repeat' apply And.intro) <;> omega) (fun _ h0 => (mDO.on ((hS1 () (bd_z (Int.le_trans ((hp_297 ()).2) (Int.le_of_eq (bd_cg (hp_336 15 (by decide)) (hp_336 16 (by decide)) (hp_336 17 (by decide))).symm)) h0)).qm (hq_324 ())) hp_337 (by omega) (by omega)).e (by omega)) hxt_340 (by (repeat' apply And.intro) <;> omega) (by (repeat' apply And.intro) <;> omega)) (wm 10 23 rfl rfl) (wm 10 25 rfl rfl) (wm 0 177 rfl rfl) rfl rfl (by decide) rfl (wm 1 18 rfl rfl) (wm 10 26 rfl rfl) (by decide) hR ⟨sfr (F := F) (a := 1) (by decide), slo (L := Lo) (m := 4) (a := 20) (by decide)⟩ (n := 2) rfl rfl (Nat.le_of_ble_eq_true rfl) hl.1 dX12_own_177 (fun μ392 ρ d0 H locs hp G => ?_)
        obtain ⟨F_393, hp_394, hp_395, hp_396, hp_397, hp_398, hp_399, hp_400, hp_401, hp_402, hp_403, hp_404, hp_405, hp_406⟩ := hp
        have hpl_407 := hp_395.pl
        have hw_408 := wr_r (μ := μ392)
        have hw_409 := wr_r (μ := μ333)
        have hxt_410 : mEXT μ μ392 := hp_406
        have hwk_411 : ∀ j, j < μ.1 111 39 → μ392.1 126 j = μ333.1 126 j := fun j hj => hp_402 j (by omega)
        have hey_412 : ∀ _ : Unit, bd μ392 = 0 → mEY μ292 μ392 tt (2 * (9 - nn μ)) := fun _ h0 => (hp_405 () h0).mn (by omega)
        have vl_413 := hp_396
        replace hp_396 := fun _ : Unit => hp_396
        have vl_414 := hp_397
        replace hp_397 := fun _ : Unit => hp_397
        have vl_415 := hp_398
        replace hp_398 := fun _ : Unit => hp_398
        have vl_416 := hp_399
        replace hp_399 := fun _ : Unit => hp_399
        have vl_417 := hp_400
        replace hp_400 := fun _ : Unit => hp_400
        have vl_418 := hp_401
        replace hp_401 := fun _ : Unit => hp_401
        have vl_419 := hp_403
        replace hp_403 := fun _ : Unit => hp_403
        have vl_420 := hp_404
        replace hp_404 := fun _ : Unit => hp_404
        have h39_421 : μ392.1 111 39 = μ.1 111 39 := by omega
        obtain ⟨hv_424, hv_425, hv_426, hv_427, hv_428, hv_429, hv_430, hv_431, hv_432, hv_433, hv_434, hv_435, hv_436, hv_437, hv_438, hv_439, hv_440, hv_441, hv_442⟩ : μ.1 111 22 ≤ μ392.1 111 22 ∧ μ392.1 111 22 ≤ μ.1 111 22 + 2 * (μ392.1 111 9 - μ.1 111 9) + 8 * (nn μ392 - nn μ) - 9 + 4 * wr μ392 ∧ μ.1 111 9 + 1 ≤ μ392.1 111 9 ∧ nn μ + 0 ≤ nn μ392 ∧ nn μ392 ≤ nn μ + 0 + 9 * wr μ392 ∧ nn μ392 ≤ 8 + wr μ392 ∧ 9 * wr μ392 ≤ nn μ392 ∧ nn μ392 ≤ 9 ∧ wr μ ≤ wr μ392 ∧ wr μ392 ≤ 1 ∧ wr μ392 ≤ bd μ392 ∧ bd μ392 ≤ 1 ∧ r_334 + 1 ≤ μ392.1 111 22 ∧ μ.1 111 29 ≤ μ392.1 111 29 ∧ μ.1 111 31 ≤ μ392.1 111 31 ∧ μ392.1 111 31 ≤ 300 ∧ 0 ≤ μ392.1 111 32 ∧ μ392.1 111 32 ≤ μ392.1 111 9 ∧ μ392.1 111 9 ≤ 3000 := by (repeat' apply And.intro) <;> omega
        clear hv_345 hv_346 hv_347 hv_348 hv_349 hv_350 hv_351 hv_352 hv_353 hv_354 hv_355 hv_356 hv_357 hv_358 hv_359 hv_360 hv_361 hv_362 hv_363 e_364 e_365 e_367 hw_368 e_369 e_372 e_374 e_376 e_378 e_388 hpl_407 hw_408 hw_409 vl_413 vl_414 vl_415 vl_416 vl_417 vl_418 vl_419 vl_420
        refine lv_goto (tgt := 360) hx hb dX12_own_180 (by decide) ?_
        refine lv_iconst (v := iv 1) hx hb dX12_own_360 rfl ?_
        have hw_443 := wr_r (μ := μ392)
        exact xr_i G (x := 1) hret hlk (by unfold ir; exact ⟨by omega, by omega⟩) (zr (by omega)) dX12_own_361 ⟨(FrM.tr (FrM.tr (FrM.tr FrM.rf F_293 (by decide)) F_335 (by decide)) F_393 (by decide)), (fun j hj => ((hp_394 j (fun h9 => hj ((by decide : ∀ x ∈ ([6, 8, 9, 10, 11, 12, 13, 15, 16, 17, 18, 22, 29, 31, 32, 34, 35, 36, 37, 39] : List Int), x ∈ ([6, 8, 9, 10, 11, 12, 13, 15, 16, 17, 18, 22, 29, 31, 32, 34, 35, 36, 37, 39] : List Int)) j h9))).trans ((hp_336 j (fun h9 => hj ((by decide : ∀ x ∈ ([22] : List Int), x ∈ ([6, 8, 9, 10, 11, 12, 13, 15, 16, 17, 18, 22, 29, 31, 32, 34, 35, 36, 37, 39] : List Int)) j h9))).trans (hp_294 j (fun h9 => hj ((by decide : ∀ x ∈ ([6, 8, 9, 10, 11, 12, 13, 15] : List Int), x ∈ ([6, 8, 9, 10, 11, 12, 13, 15, 16, 17, 18, 22, 29, 31, 32, 34, 35, 36, 37, 39] : List Int)) j h9)))))), hp_395, (by (repeat' apply And.intro) <;> omega), (by (repeat' apply And.intro) <;> omega), (by (repeat' apply And.intro) <;> omega), ⟨by omega, (Int.le_trans (Int.le_trans ((hp_297 ()).2) (Int.le_of_eq (bd_cg (hp_336 15 (by decide)) (hp_336 16 (by decide)) (hp_336 17 (by decide))).symm)) ((hp_399 ()).2))⟩, (by (repeat' apply And.intro) <;> omega), (by (repeat' apply And.intro) <;> omega), (fun j hj => ((hwk_411 j (by omega)).trans ((F_335.1 126 (by decide) j).trans (F_293.1 126 (by decide) j)))), (by (repeat' apply And.intro) <;> omega), (by (repeat' apply And.intro) <;> omega), (fun _ _ h0 => mEY.ql (hq_324 ()) ((hey_412 () h0))), hxt_410, (by (repeat' apply And.intro) <;> omega), (fun _ h1 => absurd h1 (by decide))⟩
    · refine lv_aload_n hx hb dX12_own_119 rfl (lv_at hl 0 rfl) ?_
      refine xc_vV G (b := 111) (rest := []) (As := []) (c_X12_next ω l μ  hPM (by (repeat' apply And.intro) <;> omega) (by (repeat' apply And.intro) <;> omega)) (wm 9 0 rfl rfl) (wm 9 2 rfl rfl) (wm 0 119 rfl rfl) rfl rfl (by decide) rfl (wm 1 18 rfl rfl) (wm 9 3 rfl rfl) (by decide) hR ⟨nfB hF (by decide), nlB hLo (by decide)⟩ (n := 0) rfl rfl (Nat.le_of_ble_eq_true rfl) hl.1 dX12_own_120 (fun μ444 ρ d0 H locs hp G => ?_)
      obtain ⟨F_445, hp_446, hp_447, hp_448, hp_449, hp_450⟩ := hp
      have hpl_451 := hp_447.pl
      have hw_452 := wr_r (μ := μ444)
      have vl_453 := hp_448
      replace hp_448 := fun _ : Unit => hp_448
      have vl_454 := hp_449
      replace hp_449 := fun _ : Unit => hp_449
      have vl_455 := hp_450
      replace hp_450 := fun _ : Unit => hp_450
      obtain ⟨hv_458, hv_459, hv_460, hv_461, hv_462, hv_463, hv_464, hv_465, hv_466, hv_467, hv_468, hv_469, hv_470, hv_471, hv_472, hv_473, hv_474, hv_475⟩ : μ.1 111 22 ≤ μ.1 111 22 ∧ μ.1 111 22 ≤ μ.1 111 22 + 2 * (μ444.1 111 9 - μ.1 111 9) + 8 * (nn μ444 - nn μ) - 2 + -6 * wr μ444 ∧ μ.1 111 9 + 1 ≤ μ444.1 111 9 ∧ nn μ + 0 ≤ nn μ444 ∧ nn μ444 ≤ nn μ + 0 + 9 * wr μ444 ∧ nn μ444 ≤ 8 + wr μ444 ∧ 9 * wr μ444 ≤ nn μ444 ∧ nn μ444 ≤ 9 ∧ wr μ ≤ wr μ444 ∧ wr μ444 ≤ 1 ∧ wr μ444 ≤ bd μ444 ∧ bd μ444 ≤ 1 ∧ μ.1 111 29 ≤ μ.1 111 29 ∧ μ.1 111 31 ≤ μ.1 111 31 ∧ μ.1 111 31 ≤ 300 ∧ 0 ≤ μ.1 111 32 ∧ μ.1 111 32 ≤ μ444.1 111 9 ∧ μ444.1 111 9 ≤ 3000 := by (repeat' apply And.intro) <;> omega
      clear hpl_451 hw_452 vl_453 vl_454 vl_455
      refine lv_aload_n hx hb dX12_own_123 rfl (lv_at hl 0 rfl) ?_
      have hq_476 : ∀ _ : Unit, q0m μ μ444 := fun _ => (q0m.fr (K := [111]) (FrM.tr FrM.rf F_445 (by decide)) (by decide) (by decide) (by decide) (hp_446 22 (by decide)) (nS.le (Int.le_of_eq (hp_446 29 (by decide)).symm) (Int.le_of_eq (hp_446 31 (by decide)).symm)))
      have hw_477 := wr_r (μ := μ444)
      have hht_478 : ∀ _ : Unit, bd μ444 = 0 → mHt μ444 0 := fun _ h0 => (hht_0 () (bd_z ((hp_449 ()).2) h0)).qm (hq_476 ())
      have e_479 : μ444.1 111 29 = μ.1 111 29 := (hp_446 29 (by decide))
      have hxt_480 : mEXT μ μ444 := (q0m.fr (K := [111]) (FrM.tr FrM.rf F_445 (by decide)) (by decide) (by decide) (by decide) (hp_446 22 (by decide)) (nS.le (Int.le_of_eq (hp_446 29 (by decide)).symm) (Int.le_of_eq (hp_446 31 (by decide)).symm))).1
      have e_481 : μ444.1 111 14 = tt := ((hp_446 14 (by decide)).trans htt.symm)
      have e_482 : μ444.1 111 22 = μ.1 111 22 := (hp_446 22 (by decide))
      have e_484 : μ444.1 111 39 = μ.1 111 39 := (hp_446 39 (by decide))
      have e_487 : μ444.1 111 31 = μ.1 111 31 := (hp_446 31 (by decide))
      refine xc_vV G (b := 111) (rest := []) (As := []) (c_X12_expr_a ω l μ444 tt (by (repeat' apply And.intro) <;> omega) hp_447 (by (repeat' apply And.intro) <;> omega) (by (repeat' apply And.intro) <;> omega) (by (repeat' apply And.intro) <;> omega) (by (repeat' apply And.intro) <;> omega) (by (repeat' apply And.intro) <;> omega) (fun _ h0 => (hht_478 () h0).p (by decide))) (wm 9 139 rfl rfl) (wm 9 141 rfl rfl) (wm 0 147 rfl rfl) rfl rfl (by decide) rfl (wm 1 18 rfl rfl) (wm 9 142 rfl rfl) (by decide) hR ⟨nfB hF (by decide), nlB hLo (by decide)⟩ (n := 0) rfl rfl (Nat.le_of_ble_eq_true rfl) hl.1 dX12_own_124 (fun μ493 ρ d0 H locs hp G => ?_)
      obtain ⟨F_494, hp_495, hp_496, hp_497, hp_498, hp_499, hp_500, hp_501, hp_502, hp_503, hp_504, hp_505⟩ := hp
      have hpl_506 := hp_496.pl
      have hw_507 := wr_r (μ := μ493)
      have hxt_508 : mEXT μ μ493 := hxt_480.tr hp_505
      have hwk_509 : ∀ j, j < μ.1 111 39 → μ493.1 126 j = μ444.1 126 j := fun j hj => hp_503 j (by omega)
      have hex_510 : ∀ _ : Unit, bd μ493 = 0 → mEX μ444 μ493 tt 1 0 99 := fun _ h0 => (hp_504 () h0).mn (Int.le_refl _) (by omega)
      have hht_511 : ∀ _ : Unit, bd μ493 = 0 → mHt μ493 1 := fun _ h0 => (hht_478 () (bd_z (hp_500.2) h0)).ex (hex_510 () h0) rfl
      have vl_512 := hp_497
      replace hp_497 := fun _ : Unit => hp_497
      have vl_513 := hp_498
      replace hp_498 := fun _ : Unit => hp_498
      have vl_514 := hp_499
      replace hp_499 := fun _ : Unit => hp_499
      have vl_515 := hp_500
      replace hp_500 := fun _ : Unit => hp_500
      have vl_516 := hp_501
      replace hp_501 := fun _ : Unit => hp_501
      have vl_517 := hp_502
      replace hp_502 := fun _ : Unit => hp_502
      have h39_518 : μ493.1 111 39 = μ.1 111 39 := by omega
      obtain ⟨hv_521, hv_522, hv_523, hv_524, hv_525, hv_526, hv_527, hv_528, hv_529, hv_530, hv_531, hv_532, hv_533, hv_534, hv_535, hv_536, hv_537, hv_538⟩ : μ.1 111 22 ≤ μ493.1 111 22 ∧ μ493.1 111 22 ≤ μ.1 111 22 + 2 * (μ493.1 111 9 - μ.1 111 9) + 8 * (nn μ493 - nn μ) - 3 + -5 * wr μ493 ∧ μ.1 111 9 + 1 ≤ μ493.1 111 9 ∧ nn μ + 0 ≤ nn μ493 ∧ nn μ493 ≤ nn μ + 0 + 9 * wr μ493 ∧ nn μ493 ≤ 8 + wr μ493 ∧ 9 * wr μ493 ≤ nn μ493 ∧ nn μ493 ≤ 9 ∧ wr μ ≤ wr μ493 ∧ wr μ493 ≤ 1 ∧ wr μ493 ≤ bd μ493 ∧ bd μ493 ≤ 1 ∧ μ.1 111 29 ≤ μ493.1 111 29 ∧ μ.1 111 31 ≤ μ.1 111 31 ∧ μ.1 111 31 ≤ 300 ∧ 0 ≤ μ.1 111 32 ∧ μ.1 111 32 ≤ μ493.1 111 9 ∧ μ493.1 111 9 ≤ 3000 := by (repeat' apply And.intro) <;> omega
      clear hv_458 hv_459 hv_460 hv_461 hv_462 hv_463 hv_464 hv_465 hv_466 hv_467 hv_468 hv_469 hv_470 hv_471 hv_472 hv_473 hv_474 hv_475 hw_477 e_479 e_481 e_482 e_484 e_487 hpl_506 hw_507 vl_512 vl_513 vl_514 vl_515 vl_516 vl_517
      refine lv_aload_n hx hb dX12_own_127 rfl (lv_at hl 0 rfl) ?_
      refine lv_bipush (v := iv 59) hx hb dX12_own_128 rfl ?_
      have hw_539 := wr_r (μ := μ493)
      refine xc_vV G (b := 111) (rest := []) (As := [.int (iv 59)]) (c_X12_wantsSign ω l μ493 59 (by unfold ir; decide) hp_496 (by (repeat' apply And.intro) <;> omega)) (wm 9 114 rfl rfl) (wm 9 116 rfl rfl) (wm 0 141 rfl rfl) rfl rfl (by decide) rfl (wm 1 18 rfl rfl) (wm 9 117 rfl rfl) (by decide) hR ⟨nfB hF (by decide), nlB hLo (by decide)⟩ (n := 1) rfl rfl (Nat.le_of_ble_eq_true rfl) hl.1 dX12_own_130 (fun μ540 ρ d0 H locs hp G => ?_)
      obtain ⟨F_541, hp_542, hp_543, hp_544, hp_545, hp_546, hp_547⟩ := hp
      have hpl_548 := hp_543.pl
      have hw_549 := wr_r (μ := μ540)
      have vl_550 := hp_544
      replace hp_544 := fun _ : Unit => hp_544
      have vl_551 := hp_545
      replace hp_545 := fun _ : Unit => hp_545
      have vl_552 := hp_546
      replace hp_546 := fun _ : Unit => hp_546
      have vl_553 := hp_547
      replace hp_547 := fun _ : Unit => hp_547
      obtain ⟨hv_556, hv_557, hv_558, hv_559, hv_560, hv_561, hv_562, hv_563, hv_564, hv_565, hv_566, hv_567, hv_568, hv_569, hv_570, hv_571, hv_572, hv_573⟩ : μ.1 111 22 ≤ μ493.1 111 22 ∧ μ493.1 111 22 ≤ μ.1 111 22 + 2 * (μ540.1 111 9 - μ.1 111 9) + 8 * (nn μ540 - nn μ) - 5 + -3 * wr μ540 ∧ μ.1 111 9 + 1 ≤ μ540.1 111 9 ∧ nn μ + 0 ≤ nn μ540 ∧ nn μ540 ≤ nn μ + 0 + 9 * wr μ540 ∧ nn μ540 ≤ 8 + wr μ540 ∧ 9 * wr μ540 ≤ nn μ540 ∧ nn μ540 ≤ 9 ∧ wr μ ≤ wr μ540 ∧ wr μ540 ≤ 1 ∧ wr μ540 ≤ bd μ540 ∧ bd μ540 ≤ 1 ∧ μ.1 111 29 ≤ μ493.1 111 29 ∧ μ.1 111 31 ≤ μ.1 111 31 ∧ μ.1 111 31 ≤ 300 ∧ 0 ≤ μ.1 111 32 ∧ μ.1 111 32 ≤ μ540.1 111 9 ∧ μ540.1 111 9 ≤ 3000 := by (repeat' apply And.intro) <;> omega
      clear hv_521 hv_522 hv_523 hv_524 hv_525 hv_526 hv_527 hv_528 hv_529 hv_530 hv_531 hv_532 hv_533 hv_534 hv_535 hv_536 hv_537 hv_538 hw_539 hpl_548 hw_549 vl_550 vl_551 vl_552 vl_553
      refine lv_aload_n hx hb dX12_own_133 rfl (lv_at hl 0 rfl) ?_
      refine lv_bipush (v := iv 18) hx hb dX12_own_134 rfl ?_
      refine lv_lconst (v := jv 0) hx hb dX12_own_136 rfl ?_
      refine lv_iconst (v := iv 0) hx hb dX12_own_137 rfl ?_
      have hq_574 : ∀ _ : Unit, q0m μ493 μ540 := fun _ => (q0m.fr (K := [111]) (FrM.tr FrM.rf F_541 (by decide)) (by decide) (by decide) (by decide) (hp_542 22 (by decide)) (nS.le (Int.le_of_eq (hp_542 29 (by decide)).symm) (Int.le_of_eq (hp_542 31 (by decide)).symm)))
      have hw_575 := wr_r (μ := μ540)
      have hht_576 : ∀ _ : Unit, bd μ540 = 0 → mHt μ540 1 := fun _ h0 => (hht_511 () (bd_z ((hp_546 ()).2) h0)).qm (hq_574 ())
      have e_577 : μ540.1 111 29 = μ493.1 111 29 := (hp_542 29 (by decide))
      have hxt_578 : mEXT μ μ540 := hxt_508.tr (q0m.fr (K := [111]) (FrM.tr FrM.rf F_541 (by decide)) (by decide) (by decide) (by decide) (hp_542 22 (by decide)) (nS.le (Int.le_of_eq (hp_542 29 (by decide)).symm) (Int.le_of_eq (hp_542 31 (by decide)).symm))).1
      have e_579 : μ540.1 111 22 = μ493.1 111 22 := (hp_542 22 (by decide))
      refine xc_iV G (b := 111) (rest := []) (As := [.int (iv 18), .long (jv 0), .int (iv 0)]) (c_X12_emit ω l μ540 18 0 0 (by unfold ir; decide) (by unfold jr; omega) (by unfold ir; decide) (by (repeat' apply And.intro) <;> omega)) (wm 9 126 rfl rfl) (wm 9 128 rfl rfl) (wm 0 144 rfl rfl) rfl rfl (by decide) rfl (wm 1 18 rfl rfl) (wm 9 129 rfl rfl) (by decide) hR ⟨nfB hF (by decide), nlB hLo (by decide)⟩ (n := 3) rfl rfl (Nat.le_of_ble_eq_true rfl) hl.1 dX12_own_138 (fun r_584 μ583 ρ d0 H locs hr_r_584 hp G => ?_)
      have hr_r_584 : -2147483648 ≤ r_584 ∧ r_584 ≤ 2147483647 := hr_r_584
      obtain ⟨F_585, hp_586, hp_587, hp_588, hp_589⟩ := hp
      have hxt_590 : mEXT μ μ583 := hxt_578.tr hp_587.1
      have hht_591 : ∀ _ : Unit, bd μ583 = 0 → mHt μ583 0 := fun _ h0 => (hht_576 () (bd_z (Int.le_of_eq (bd_cg (hp_586 15 (by decide)) (hp_586 16 (by decide)) (hp_586 17 (by decide))).symm) h0)).ad hp_587 rfl
      have vl_592 := hp_589
      replace hp_589 := fun _ : Unit => hp_589
      obtain ⟨hv_595, hv_596, hv_597, hv_598, hv_599, hv_600, hv_601, hv_602, hv_603, hv_604, hv_605, hv_606, hv_607, hv_608, hv_609, hv_610, hv_611, hv_612⟩ : μ.1 111 22 ≤ μ583.1 111 22 ∧ μ583.1 111 22 ≤ μ.1 111 22 + 2 * (μ540.1 111 9 - μ.1 111 9) + 8 * (nn μ540 - nn μ) - 4 + -3 * wr μ540 ∧ μ.1 111 9 + 1 ≤ μ540.1 111 9 ∧ nn μ + 0 ≤ nn μ540 ∧ nn μ540 ≤ nn μ + 0 + 9 * wr μ540 ∧ nn μ540 ≤ 8 + wr μ540 ∧ 9 * wr μ540 ≤ nn μ540 ∧ nn μ540 ≤ 9 ∧ wr μ ≤ wr μ540 ∧ wr μ540 ≤ 1 ∧ wr μ540 ≤ bd μ540 ∧ bd μ540 ≤ 1 ∧ μ.1 111 29 ≤ μ493.1 111 29 ∧ μ.1 111 31 ≤ μ.1 111 31 ∧ μ.1 111 31 ≤ 300 ∧ 0 ≤ μ.1 111 32 ∧ μ.1 111 32 ≤ μ540.1 111 9 ∧ μ540.1 111 9 ≤ 3000 := by (repeat' apply And.intro) <;> omega
      clear hv_556 hv_557 hv_558 hv_559 hv_560 hv_561 hv_562 hv_563 hv_564 hv_565 hv_566 hv_567 hv_568 hv_569 hv_570 hv_571 hv_572 hv_573 hw_575 e_577 e_579 vl_592
      refine lv_pop hx hb dX12_own_141 rfl ?_
      refine lv_goto (tgt := 360) hx hb dX12_own_142 (by decide) ?_
      refine lv_iconst (v := iv 1) hx hb dX12_own_360 rfl ?_
      have e_613 : μ583.1 111 9 = μ540.1 111 9 := (hp_586 9 (by decide))
      have e_614 : μ583.1 111 29 = μ493.1 111 29 := ((hp_586 29 (by decide)).trans (hp_542 29 (by decide)))
      have e_615 : μ583.1 111 39 = μ493.1 111 39 := ((hp_586 39 (by decide)).trans (hp_542 39 (by decide)))
      have e_616 : μ583.1 111 31 = μ.1 111 31 := ((hp_586 31 (by decide)).trans ((hp_542 31 (by decide)).trans ((hp_495 31 (by decide)).trans (hp_446 31 (by decide)))))
      have e_617 : μ583.1 111 32 = μ.1 111 32 := ((hp_586 32 (by decide)).trans ((hp_542 32 (by decide)).trans ((hp_495 32 (by decide)).trans (hp_446 32 (by decide)))))
      have e_618 : μ583.1 111 6 = μ540.1 111 6 := (hp_586 6 (by decide))
      have e_619 : wr μ583 = wr μ540 := (wr_cg (hp_586 15 (by decide)))
      have hw_620 := wr_r (μ := μ540)
      have e_621 : bd μ583 = bd μ540 := (bd_cg (hp_586 15 (by decide)) (hp_586 16 (by decide)) (hp_586 17 (by decide)))
      have e_622 : nn μ583 = nn μ540 := (nn_cg (hp_586 15 (by decide)) (hp_586 18 (by decide)))
      have hPM_623 : PM μ583 := hp_543.cg ((((hp_586 4 (by decide)).trans ((hp_542 4 (by decide)).trans ((hp_495 4 (by decide)).trans (hp_446 4 (by decide)))))).trans (((hp_542 4 (by decide)).trans ((hp_495 4 (by decide)).trans (hp_446 4 (by decide))))).symm) (hp_586 6 (by decide)) ((((hp_586 7 (by decide)).trans ((hp_542 7 (by decide)).trans ((hp_495 7 (by decide)).trans (hp_446 7 (by decide)))))).trans (((hp_542 7 (by decide)).trans ((hp_495 7 (by decide)).trans (hp_446 7 (by decide))))).symm) (hp_586 8 (by decide)) (hp_586 9 (by decide)) (hp_586 11 (by decide)) (hp_586 12 (by decide)) ((((hp_586 14 (by decide)).trans ((hp_542 14 (by decide)).trans ((hp_495 14 (by decide)).trans ((hp_446 14 (by decide)).trans htt.symm))))).trans (((hp_542 14 (by decide)).trans ((hp_495 14 (by decide)).trans ((hp_446 14 (by decide)).trans htt.symm)))).symm) (hp_586 15 (by decide)) ((((hp_586 29 (by decide)).trans (hp_542 29 (by decide)))).trans ((hp_542 29 (by decide))).symm) (fun j => (F_585.1 123 (by decide) j))
      exact xr_i G (x := 1) hret hlk (by unfold ir; exact ⟨by omega, by omega⟩) (zr (by omega)) dX12_own_361 ⟨(FrM.tr (FrM.tr (FrM.tr (FrM.tr FrM.rf F_445 (by decide)) F_494 (by decide)) F_541 (by decide)) F_585 (by decide)), (fun j hj => ((hp_586 j (fun h9 => hj ((by decide : ∀ x ∈ ([22] : List Int), x ∈ ([6, 8, 9, 10, 11, 12, 13, 15, 16, 17, 18, 22, 29, 31, 32, 34, 35, 36, 37, 39] : List Int)) j h9))).trans ((hp_542 j (fun h9 => hj ((by decide : ∀ x ∈ ([6, 8, 9, 10, 11, 12, 13, 15] : List Int), x ∈ ([6, 8, 9, 10, 11, 12, 13, 15, 16, 17, 18, 22, 29, 31, 32, 34, 35, 36, 37, 39] : List Int)) j h9))).trans ((hp_495 j (fun h9 => hj ((by decide : ∀ x ∈ ([6, 8, 9, 10, 11, 12, 13, 15, 16, 17, 18, 22, 29, 39] : List Int), x ∈ ([6, 8, 9, 10, 11, 12, 13, 15, 16, 17, 18, 22, 29, 31, 32, 34, 35, 36, 37, 39] : List Int)) j h9))).trans (hp_446 j (fun h9 => hj ((by decide : ∀ x ∈ ([6, 8, 9, 10, 11, 12, 13, 15] : List Int), x ∈ ([6, 8, 9, 10, 11, 12, 13, 15, 16, 17, 18, 22, 29, 31, 32, 34, 35, 36, 37, 39] : List Int)) j h9))))))), hPM_623, (by (repeat' apply And.intro) <;> omega), (by (repeat' apply And.intro) <;> omega), (by (repeat' apply And.intro) <;> omega), ⟨by omega, (Int.le_trans (Int.le_trans (Int.le_trans ((hp_449 ()).2) ((hp_500 ()).2)) ((hp_546 ()).2)) (Int.le_of_eq (bd_cg (hp_586 15 (by decide)) (hp_586 16 (by decide)) (hp_586 17 (by decide))).symm))⟩, (by (repeat' apply And.intro) <;> omega), (by (repeat' apply And.intro) <;> omega), (fun j hj => ((F_585.1 126 (by decide) j).trans ((F_541.1 126 (by decide) j).trans ((hwk_509 j (by omega)).trans (F_445.1 126 (by decide) j))))), (by (repeat' apply And.intro) <;> omega), (by (repeat' apply And.intro) <;> omega), (fun _ _ h0 => mEY.ql (hq_476 ()) (as_one (M := (2 * (9 - nn μ))) ((hS1 () (bd_z (Int.le_trans (Int.le_trans (Int.le_trans ((hp_449 ()).2) ((hp_500 ()).2)) ((hp_546 ()).2)) (Int.le_of_eq (bd_cg (hp_586 15 (by decide)) (hp_586 16 (by decide)) (hp_586 17 (by decide))).symm)) h0)).qm (hq_476 ())).s ((hex_510 () (bd_z (Int.le_trans ((hp_546 ()).2) (Int.le_of_eq (bd_cg (hp_586 15 (by decide)) (hp_586 16 (by decide)) (hp_586 17 (by decide))).symm)) h0)).qm (hq_574 ())) (by omega) (by omega) hp_587 (by unfold mpl; omega) rfl rfl (fun h1 => ⟨fun q => absurd q (by decide), ⟨fun q => absurd q (by decide), fun q => absurd q (by decide)⟩, fun q => absurd q (by decide), fun q => absurd q (by decide), fun q => absurd q (by decide), fun q => absurd q (by decide), fun q => absurd q (by decide), fun q => absurd q (by decide), fun q => absurd q (by decide), fun q => absurd q (by decide), fun q => absurd q (by decide), fun q => absurd q (by decide), fun q => absurd q (by decide), fun _ => ⟨by omega, by omega⟩, fun q => absurd q (by decide), fun q => absurd q (by decide), fun q => absurd q (by decide), fun q => absurd q (by decide), fun q => absurd q (by decide), fun q => absurd q (by decide), fun q => absurd q (by decide), ⟨fun q => absurd q (by decide), fun q => absurd q (by decide), fun q => absurd q (by decide)⟩, ⟨by decide, by decide⟩⟩))), hxt_590, (by (repeat' apply And.intro) <;> omega), (fun _ h1 => absurd h1 (by decide))⟩
  · refine lv_aload_n hx hb dX12_own_0 rfl (lv_at hl 0 rfl) ?_
    refine xa_geti G fd_X12 (a := 111) (x := tt) 14 rfl (by decide) rfl (wm 7 163 rfl rfl) ⟨rfl, rfl, rfl⟩ dX12_own_1 rfl htt.symm ?_
    have hr_637 : -2147483648 ≤ tt ∧ tt ≤ 2147483647 := by have h9 := G.hr (a := 111) (k := 14) rfl; rw [show μ.1 111 14 = tt from htt.symm] at h9; exact h9
    refine xb_if_ne (tgt := 16) hx hb (by unfold ir; exact ⟨by omega, by omega⟩) dX12_own_4 (by decide) (fun c_4 => ?_) (fun c_4 => absurd c_4 (by omega))
    refine lv_aload_n hx hb dX12_own_16 rfl (lv_at hl 0 rfl) ?_
    refine xa_geti G fd_X12 (a := 111) (x := tt) 14 rfl (by decide) rfl (wm 7 163 rfl rfl) ⟨rfl, rfl, rfl⟩ dX12_own_17 rfl htt.symm ?_
    refine lv_iconst (v := iv 3) hx hb dX12_own_20 rfl ?_
    refine xb_icmp_ne (tgt := 79) hx hb (by unfold ir; exact ⟨by omega, by omega⟩) (by unfold ir; exact ⟨by omega, by omega⟩) dX12_own_21 (by decide) (fun c_21 => ?_) (fun c_21 => absurd c_21 (by omega))
    refine lv_aload_n hx hb dX12_own_79 rfl (lv_at hl 0 rfl) ?_
    refine xa_geti G fd_X12 (a := 111) (x := tt) 14 rfl (by decide) rfl (wm 7 163 rfl rfl) ⟨rfl, rfl, rfl⟩ dX12_own_80 rfl htt.symm ?_
    refine xb_if_ne (tgt := 102) hx hb (by unfold ir; exact ⟨by omega, by omega⟩) dX12_own_83 (by decide) (fun c_83 => ?_) (fun c_83 => absurd c_83 (by omega))
    refine lv_aload_n hx hb dX12_own_102 rfl (lv_at hl 0 rfl) ?_
    refine xa_geti G fd_X12 (a := 111) (x := tt) 14 rfl (by decide) rfl (wm 7 163 rfl rfl) ⟨rfl, rfl, rfl⟩ dX12_own_103 rfl htt.symm ?_
    refine lv_iconst (v := iv 1) hx hb dX12_own_106 rfl ?_
    refine xb_icmp_ne (tgt := 145) hx hb (by unfold ir; exact ⟨by omega, by omega⟩) (by unfold ir; exact ⟨by omega, by omega⟩) dX12_own_107 (by decide) (fun c_107 => ?_) (fun c_107 => absurd c_107 (by omega))
    refine lv_aload_n hx hb dX12_own_145 rfl (lv_at hl 0 rfl) ?_
    refine xa_geti G fd_X12 (a := 111) (x := tt) 14 rfl (by decide) rfl (wm 7 163 rfl rfl) ⟨rfl, rfl, rfl⟩ dX12_own_146 rfl htt.symm ?_
    refine lv_iconst (v := iv 1) hx hb dX12_own_149 rfl ?_
    refine xb_icmp_ne (tgt := 183) hx hb (by unfold ir; exact ⟨by omega, by omega⟩) (by unfold ir; exact ⟨by omega, by omega⟩) dX12_own_150 (by decide) (fun c_150 => ?_) (fun c_150 => absurd c_150 (by omega))
    refine lv_aload_n hx hb dX12_own_183 rfl (lv_at hl 0 rfl) ?_
    refine xa_geti G fd_X12 (a := 111) (x := tt) 14 rfl (by decide) rfl (wm 7 163 rfl rfl) ⟨rfl, rfl, rfl⟩ dX12_own_184 rfl htt.symm ?_
    refine lv_iconst (v := iv 2) hx hb dX12_own_187 rfl ?_
    refine xb_icmp_ne (tgt := 253) hx hb (by unfold ir; exact ⟨by omega, by omega⟩) (by unfold ir; exact ⟨by omega, by omega⟩) dX12_own_188 (by decide) (fun c_188 => absurd c_188 (by omega)) (fun c_188 => ?_)
    refine lv_aload_n hx hb dX12_own_191 rfl (lv_at hl 0 rfl) ?_
    refine xa_geti G fd_X12 (a := 111) (x := μ.1 111 11) 11 rfl (by decide) rfl (wm 7 160 rfl rfl) ⟨rfl, rfl, rfl⟩ dX12_own_192 rfl rfl ?_
    have hr_638 : -2147483648 ≤ μ.1 111 11 ∧ μ.1 111 11 ≤ 2147483647 := by have h9 := G.hr (a := 111) (k := 11) rfl; exact h9
    refine lv_bipush (v := iv 16) hx hb dX12_own_195 rfl ?_
    refine xb_icmp_ne (tgt := 253) hx hb (by unfold ir; exact ⟨by omega, by omega⟩) (by unfold ir; exact ⟨by omega, by omega⟩) dX12_own_197 (by decide) (fun c_197 => ?_) (fun c_197 => ?_)
    · replace c_197 := fun _ : Unit => c_197
      refine lv_aload_n hx hb dX12_own_253 rfl (lv_at hl 0 rfl) ?_
      refine xa_geti G fd_X12 (a := 111) (x := tt) 14 rfl (by decide) rfl (wm 7 163 rfl rfl) ⟨rfl, rfl, rfl⟩ dX12_own_254 rfl htt.symm ?_
      refine lv_iconst (v := iv 3) hx hb dX12_own_257 rfl ?_
      refine xb_icmp_ne (tgt := 334) hx hb (by unfold ir; exact ⟨by omega, by omega⟩) (by unfold ir; exact ⟨by omega, by omega⟩) dX12_own_258 (by decide) (fun c_258 => ?_) (fun c_258 => absurd c_258 (by omega))
      refine lv_aload_n hx hb dX12_own_334 rfl (lv_at hl 0 rfl) ?_
      refine xa_geti G fd_X12 (a := 111) (x := tt) 14 rfl (by decide) rfl (wm 7 163 rfl rfl) ⟨rfl, rfl, rfl⟩ dX12_own_335 rfl htt.symm ?_
      refine lv_iconst (v := iv 3) hx hb dX12_own_338 rfl ?_
      refine xb_icmp_ne (tgt := 358) hx hb (by unfold ir; exact ⟨by omega, by omega⟩) (by unfold ir; exact ⟨by omega, by omega⟩) dX12_own_339 (by decide) (fun c_339 => ?_) (fun c_339 => absurd c_339 (by omega))
      refine lv_iconst (v := iv 0) hx hb dX12_own_358 rfl ?_
      exact xr_i G (x := 0) hret hlk (by unfold ir; exact ⟨by omega, by omega⟩) (zr (by omega)) dX12_own_359 ⟨FrM.rf, (fun j hj => rfl), hPM, (by (repeat' apply And.intro) <;> omega), (by (repeat' apply And.intro) <;> omega), (by (repeat' apply And.intro) <;> omega), ⟨Int.le_refl _, Int.le_refl _⟩, (by (repeat' apply And.intro) <;> omega), (by (repeat' apply And.intro) <;> omega), (fun _ _ => rfl), (by (repeat' apply And.intro) <;> omega), (by (repeat' apply And.intro) <;> omega), (fun _ h1 => absurd h1 (by decide)), (mEXT.rf (μ := μ)), (by (repeat' apply And.intro) <;> omega), (fun _ _ => rfl)⟩
    · refine lv_aload_n hx hb dX12_own_200 rfl (lv_at hl 0 rfl) ?_
      refine xc_vV G (b := 111) (rest := []) (As := []) (c_X12_next ω l μ  hPM (by (repeat' apply And.intro) <;> omega) (by (repeat' apply And.intro) <;> omega)) (wm 9 0 rfl rfl) (wm 9 2 rfl rfl) (wm 0 119 rfl rfl) rfl rfl (by decide) rfl (wm 1 18 rfl rfl) (wm 9 3 rfl rfl) (by decide) hR ⟨nfB hF (by decide), nlB hLo (by decide)⟩ (n := 0) rfl rfl (Nat.le_of_ble_eq_true rfl) hl.1 dX12_own_201 (fun μ639 ρ d0 H locs hp G => ?_)
      obtain ⟨F_640, hp_641, hp_642, hp_643, hp_644, hp_645⟩ := hp
      have hpl_646 := hp_642.pl
      have hw_647 := wr_r (μ := μ639)
      have vl_648 := hp_643
      replace hp_643 := fun _ : Unit => hp_643
      have vl_649 := hp_644
      replace hp_644 := fun _ : Unit => hp_644
      have vl_650 := hp_645
      replace hp_645 := fun _ : Unit => hp_645
      obtain ⟨hv_653, hv_654, hv_655, hv_656, hv_657, hv_658, hv_659, hv_660, hv_661, hv_662, hv_663, hv_664, hv_665, hv_666, hv_667, hv_668, hv_669, hv_670⟩ : μ.1 111 22 ≤ μ.1 111 22 ∧ μ.1 111 22 ≤ μ.1 111 22 + 2 * (μ639.1 111 9 - μ.1 111 9) + 8 * (nn μ639 - nn μ) - 2 + -6 * wr μ639 ∧ μ.1 111 9 + 1 ≤ μ639.1 111 9 ∧ nn μ + 0 ≤ nn μ639 ∧ nn μ639 ≤ nn μ + 0 + 9 * wr μ639 ∧ nn μ639 ≤ 8 + wr μ639 ∧ 9 * wr μ639 ≤ nn μ639 ∧ nn μ639 ≤ 9 ∧ wr μ ≤ wr μ639 ∧ wr μ639 ≤ 1 ∧ wr μ639 ≤ bd μ639 ∧ bd μ639 ≤ 1 ∧ μ.1 111 29 ≤ μ.1 111 29 ∧ μ.1 111 31 ≤ μ.1 111 31 ∧ μ.1 111 31 ≤ 300 ∧ 0 ≤ μ.1 111 32 ∧ μ.1 111 32 ≤ μ639.1 111 9 ∧ μ639.1 111 9 ≤ 3000 := by (repeat' apply And.intro) <;> omega
      clear hpl_646 hw_647 vl_648 vl_649 vl_650
      refine lv_aload_n hx hb dX12_own_204 rfl (lv_at hl 0 rfl) ?_
      refine lv_bipush (v := iv 14) hx hb dX12_own_205 rfl ?_
      refine lv_lconst (v := jv 0) hx hb dX12_own_207 rfl ?_
      refine lv_iconst (v := iv 0) hx hb dX12_own_208 rfl ?_
      have hq_671 : ∀ _ : Unit, q0m μ μ639 := fun _ => (q0m.fr (K := [111]) (FrM.tr FrM.rf F_640 (by decide)) (by decide) (by decide) (by decide) (hp_641 22 (by decide)) (nS.le (Int.le_of_eq (hp_641 29 (by decide)).symm) (Int.le_of_eq (hp_641 31 (by decide)).symm)))
      have hw_672 := wr_r (μ := μ639)
      have hht_673 : ∀ _ : Unit, bd μ639 = 0 → mHt μ639 0 := fun _ h0 => (hht_0 () (bd_z ((hp_644 ()).2) h0)).qm (hq_671 ())
      have e_674 : μ639.1 111 29 = μ.1 111 29 := (hp_641 29 (by decide))
      have hxt_675 : mEXT μ μ639 := (q0m.fr (K := [111]) (FrM.tr FrM.rf F_640 (by decide)) (by decide) (by decide) (by decide) (hp_641 22 (by decide)) (nS.le (Int.le_of_eq (hp_641 29 (by decide)).symm) (Int.le_of_eq (hp_641 31 (by decide)).symm))).1
      have e_676 : μ639.1 111 22 = μ.1 111 22 := (hp_641 22 (by decide))
      refine xc_iV G (b := 111) (rest := []) (As := [.int (iv 14), .long (jv 0), .int (iv 0)]) (c_X12_emit ω l μ639 14 0 0 (by unfold ir; decide) (by unfold jr; omega) (by unfold ir; decide) (by (repeat' apply And.intro) <;> omega)) (wm 9 126 rfl rfl) (wm 9 128 rfl rfl) (wm 0 144 rfl rfl) rfl rfl (by decide) rfl (wm 1 18 rfl rfl) (wm 9 129 rfl rfl) (by decide) hR ⟨nfB hF (by decide), nlB hLo (by decide)⟩ (n := 3) rfl rfl (Nat.le_of_ble_eq_true rfl) hl.1 dX12_own_209 (fun r_681 μ680 ρ d0 H locs hr_r_681 hp G => ?_)
      have hr_r_681 : -2147483648 ≤ r_681 ∧ r_681 ≤ 2147483647 := hr_r_681
      obtain ⟨F_682, hp_683, hp_684, hp_685, hp_686⟩ := hp
      have hxt_687 : mEXT μ μ680 := hxt_675.tr hp_684.1
      have hht_688 : ∀ _ : Unit, bd μ680 = 0 → mHt μ680 0 := fun _ h0 => (hht_673 () (bd_z (Int.le_of_eq (bd_cg (hp_683 15 (by decide)) (hp_683 16 (by decide)) (hp_683 17 (by decide))).symm) h0)).ad hp_684 rfl
      have hps_r_681 : μ.1 111 22 ≤ r_681 := by omega
      have vl_689 := hp_686
      replace hp_686 := fun _ : Unit => hp_686
      obtain ⟨hv_692, hv_693, hv_694, hv_695, hv_696, hv_697, hv_698, hv_699, hv_700, hv_701, hv_702, hv_703, hv_704, hv_705, hv_706, hv_707, hv_708, hv_709, hv_710⟩ : μ.1 111 22 ≤ μ680.1 111 22 ∧ μ680.1 111 22 ≤ μ.1 111 22 + 2 * (μ639.1 111 9 - μ.1 111 9) + 8 * (nn μ639 - nn μ) - 1 + -6 * wr μ639 ∧ μ.1 111 9 + 1 ≤ μ639.1 111 9 ∧ nn μ + 0 ≤ nn μ639 ∧ nn μ639 ≤ nn μ + 0 + 9 * wr μ639 ∧ nn μ639 ≤ 8 + wr μ639 ∧ 9 * wr μ639 ≤ nn μ639 ∧ nn μ639 ≤ 9 ∧ wr μ ≤ wr μ639 ∧ wr μ639 ≤ 1 ∧ wr μ639 ≤ bd μ639 ∧ bd μ639 ≤ 1 ∧ r_681 + 1 ≤ μ680.1 111 22 ∧ μ.1 111 29 ≤ μ.1 111 29 ∧ μ.1 111 31 ≤ μ.1 111 31 ∧ μ.1 111 31 ≤ 300 ∧ 0 ≤ μ.1 111 32 ∧ μ.1 111 32 ≤ μ639.1 111 9 ∧ μ639.1 111 9 ≤ 3000 := by (repeat' apply And.intro) <;> omega
      clear hv_653 hv_654 hv_655 hv_656 hv_657 hv_658 hv_659 hv_660 hv_661 hv_662 hv_663 hv_664 hv_665 hv_666 hv_667 hv_668 hv_669 hv_670 hw_672 e_674 e_676 vl_689
      refine lv_istore_n (lv' := [(1, .int (iv r_681)), (0, .ref (oP ω 111))]) hx hb dX12_own_212 rfl hl (by decide) rfl (fun ls hl => ?_)
      refine lv_aload_n hx hb dX12_own_213 rfl (lv_at hl 1 rfl) ?_
      have e_711 : μ680.1 111 29 = μ.1 111 29 := ((hp_683 29 (by decide)).trans (hp_641 29 (by decide)))
      have e_712 : μ680.1 111 14 = tt := ((hp_683 14 (by decide)).trans ((hp_641 14 (by decide)).trans htt.symm))
      have hPM_713 : PM μ680 := hp_642.cg ((((hp_683 4 (by decide)).trans (hp_641 4 (by decide)))).trans ((hp_641 4 (by decide))).symm) (hp_683 6 (by decide)) ((((hp_683 7 (by decide)).trans (hp_641 7 (by decide)))).trans ((hp_641 7 (by decide))).symm) (hp_683 8 (by decide)) (hp_683 9 (by decide)) (hp_683 11 (by decide)) (hp_683 12 (by decide)) ((((hp_683 14 (by decide)).trans ((hp_641 14 (by decide)).trans htt.symm))).trans (((hp_641 14 (by decide)).trans htt.symm)).symm) (hp_683 15 (by decide)) ((((hp_683 29 (by decide)).trans (hp_641 29 (by decide)))).trans ((hp_641 29 (by decide))).symm) (fun j => (F_682.1 123 (by decide) j))
      have e_714 : wr μ680 = wr μ639 := (wr_cg (hp_683 15 (by decide)))
      have hw_715 := wr_r (μ := μ639)
      have e_716 : nn μ680 = nn μ639 := (nn_cg (hp_683 15 (by decide)) (hp_683 18 (by decide)))
      have e_719 : μ680.1 111 9 = μ639.1 111 9 := (hp_683 9 (by decide))
      have e_721 : μ680.1 111 39 = μ.1 111 39 := ((hp_683 39 (by decide)).trans (hp_641 39 (by decide)))
      have e_723 : μ680.1 111 31 = μ.1 111 31 := ((hp_683 31 (by decide)).trans (hp_641 31 (by decide)))
      have e_725 : μ680.1 111 32 = μ.1 111 32 := ((hp_683 32 (by decide)).trans (hp_641 32 (by decide)))
      have e_735 : bd μ680 = bd μ639 := (bd_cg (hp_683 15 (by decide)) (hp_683 16 (by decide)) (hp_683 17 (by decide)))
      refine xc_vV G (b := 111) (rest := []) (As := []) (((fun (_ : Om) (_ : Launch) => hK)) ω l μ680 tt (by (repeat' apply And.intro) <;> omega) hPM_713 (by (repeat' apply And.intro) <;> omega) (by (repeat' apply And.intro) <;> omega) (by (repeat' apply And.intro) <;> omega) (by (repeat' apply And.intro) <;> omega) (by (repeat' apply And.intro) <;> omega) (by (repeat' apply And.intro) <;> omega) (by (repeat' apply And.intro) <;> omega) (fun _ h0 => (hht_688 () h0).s)) (wm 9 118 rfl rfl) (wm 9 120 rfl rfl) (wm 0 142 rfl rfl) rfl rfl (by decide) rfl (wm 1 18 rfl rfl) (wm 9 121 rfl rfl) (by decide) hR ⟨sfr (F := F) (a := 0) (by decide), slo (L := Lo) (m := 1) (a := 0) (by decide)⟩ (n := 0) rfl rfl (Nat.le_of_ble_eq_true rfl) hl.1 dX12_own_214 (fun μ739 ρ d0 H locs hp G => ?_)
      obtain ⟨F_740, hp_741, hp_742, hp_743, hp_744, hp_745, hp_746, hp_747, hp_748, hp_749, hp_750, hp_751, hp_752, hp_753⟩ := hp
      have hpl_754 := hp_742.pl
      have hw_755 := wr_r (μ := μ739)
      have hw_756 := wr_r (μ := μ680)
      have hxt_757 : mEXT μ μ739 := hxt_687.tr hp_753
      have hwk_758 : ∀ j, j < μ.1 111 39 → μ739.1 126 j = μ680.1 126 j := fun j hj => hp_749 j (by omega)
      have hex_759 : ∀ _ : Unit, bd μ739 = 0 → mEX μ680 μ739 tt 0 (2 * (8 - nn μ)) 101 := fun _ h0 => (hp_752 () h0).mn (by omega) (Int.le_refl _)
      have hht_760 : ∀ _ : Unit, bd μ739 = 0 → mHt μ739 0 := fun _ h0 => (hht_688 () (bd_z (hp_746.2) h0)).ex (hex_759 () h0) rfl
      have vl_761 := hp_743
      replace hp_743 := fun _ : Unit => hp_743
      have vl_762 := hp_744
      replace hp_744 := fun _ : Unit => hp_744
      have vl_763 := hp_745
      replace hp_745 := fun _ : Unit => hp_745
      have vl_764 := hp_746
      replace hp_746 := fun _ : Unit => hp_746
      have vl_765 := hp_747
      replace hp_747 := fun _ : Unit => hp_747
      have vl_766 := hp_748
      replace hp_748 := fun _ : Unit => hp_748
      have vl_767 := hp_750
      replace hp_750 := fun _ : Unit => hp_750
      have vl_768 := hp_751
      replace hp_751 := fun _ : Unit => hp_751
      have h39_769 : μ739.1 111 39 = μ.1 111 39 := by omega
      obtain ⟨hv_772, hv_773, hv_774, hv_775, hv_776, hv_777, hv_778, hv_779, hv_780, hv_781, hv_782, hv_783, hv_784, hv_785, hv_786, hv_787, hv_788, hv_789, hv_790⟩ : μ.1 111 22 ≤ μ739.1 111 22 ∧ μ739.1 111 22 ≤ μ.1 111 22 + 2 * (μ739.1 111 9 - μ.1 111 9) + 8 * (nn μ739 - nn μ) - 5 + -2 * wr μ739 ∧ μ.1 111 9 + 1 ≤ μ739.1 111 9 ∧ nn μ + 0 ≤ nn μ739 ∧ nn μ739 ≤ nn μ + 0 + 9 * wr μ739 ∧ nn μ739 ≤ 8 + wr μ739 ∧ 9 * wr μ739 ≤ nn μ739 ∧ nn μ739 ≤ 9 ∧ wr μ ≤ wr μ739 ∧ wr μ739 ≤ 1 ∧ wr μ739 ≤ bd μ739 ∧ bd μ739 ≤ 1 ∧ r_681 + 1 ≤ μ739.1 111 22 ∧ μ.1 111 29 ≤ μ739.1 111 29 ∧ μ.1 111 31 ≤ μ739.1 111 31 ∧ μ739.1 111 31 ≤ 300 ∧ 0 ≤ μ739.1 111 32 ∧ μ739.1 111 32 ≤ μ739.1 111 9 ∧ μ739.1 111 9 ≤ 3000 := by (repeat' apply And.intro) <;> omega
      clear hv_692 hv_693 hv_694 hv_695 hv_696 hv_697 hv_698 hv_699 hv_700 hv_701 hv_702 hv_703 hv_704 hv_705 hv_706 hv_707 hv_708 hv_709 hv_710 e_711 e_712 e_714 hw_715 e_716 e_719 e_721 e_723 e_725 e_735 hpl_754 hw_755 hw_756 vl_761 vl_762 vl_763 vl_764 vl_765 vl_766 vl_767 vl_768
      refine lv_aload_n hx hb dX12_own_217 rfl (lv_at hl 1 rfl) ?_
      refine lv_bipush (v := iv 16) hx hb dX12_own_218 rfl ?_
      refine lv_lconst (v := jv 0) hx hb dX12_own_220 rfl ?_
      refine lv_iconst (v := iv 0) hx hb dX12_own_221 rfl ?_
      refine xc_iV G (b := 111) (rest := []) (As := [.int (iv 16), .long (jv 0), .int (iv 0)]) (c_X12_emit ω l μ739 16 0 0 (by unfold ir; decide) (by unfold jr; omega) (by unfold ir; decide) (by (repeat' apply And.intro) <;> omega)) (wm 9 126 rfl rfl) (wm 9 128 rfl rfl) (wm 0 144 rfl rfl) rfl rfl (by decide) rfl (wm 1 18 rfl rfl) (wm 9 129 rfl rfl) (by decide) hR ⟨nfB hF (by decide), nlB hLo (by decide)⟩ (n := 3) rfl rfl (Nat.le_of_ble_eq_true rfl) hl.1 dX12_own_222 (fun r_792 μ791 ρ d0 H locs hr_r_792 hp G => ?_)
      have hr_r_792 : -2147483648 ≤ r_792 ∧ r_792 ≤ 2147483647 := hr_r_792
      obtain ⟨F_793, hp_794, hp_795, hp_796, hp_797⟩ := hp
      have hxt_798 : mEXT μ μ791 := hxt_757.tr hp_795.1
      have hht_799 : ∀ _ : Unit, bd μ791 = 0 → mHt μ791 0 := fun _ h0 => (hht_760 () (bd_z (Int.le_of_eq (bd_cg (hp_794 15 (by decide)) (hp_794 16 (by decide)) (hp_794 17 (by decide))).symm) h0)).ad hp_795 rfl
      have vl_800 := hp_797
      replace hp_797 := fun _ : Unit => hp_797
      have hw_801 := wr_r (μ := μ739)
      obtain ⟨hv_803, hv_804, hv_805, hv_806, hv_807, hv_808, hv_809, hv_810, hv_811, hv_812, hv_813, hv_814, hv_815, hv_816, hv_817, hv_818, hv_819, hv_820, hv_821⟩ : μ.1 111 22 ≤ μ791.1 111 22 ∧ μ791.1 111 22 ≤ μ.1 111 22 + 2 * (μ739.1 111 9 - μ.1 111 9) + 8 * (nn μ739 - nn μ) - 4 + -2 * wr μ739 ∧ μ.1 111 9 + 1 ≤ μ739.1 111 9 ∧ nn μ + 0 ≤ nn μ739 ∧ nn μ739 ≤ nn μ + 0 + 9 * wr μ739 ∧ nn μ739 ≤ 8 + wr μ739 ∧ 9 * wr μ739 ≤ nn μ739 ∧ nn μ739 ≤ 9 ∧ wr μ ≤ wr μ739 ∧ wr μ739 ≤ 1 ∧ wr μ739 ≤ bd μ739 ∧ bd μ739 ≤ 1 ∧ r_681 + 1 ≤ μ791.1 111 22 ∧ μ.1 111 29 ≤ μ739.1 111 29 ∧ μ.1 111 31 ≤ μ739.1 111 31 ∧ μ739.1 111 31 ≤ 300 ∧ 0 ≤ μ739.1 111 32 ∧ μ739.1 111 32 ≤ μ739.1 111 9 ∧ μ739.1 111 9 ≤ 3000 := by (repeat' apply And.intro) <;> omega
      clear hv_772 hv_773 hv_774 hv_775 hv_776 hv_777 hv_778 hv_779 hv_780 hv_781 hv_782 hv_783 hv_784 hv_785 hv_786 hv_787 hv_788 hv_789 hv_790 vl_800 hw_801
      refine lv_pop hx hb dX12_own_225 rfl ?_
      refine lv_aload_n hx hb dX12_own_226 rfl (lv_at hl 1 rfl) ?_
      refine lv_bipush (v := iv 17) hx hb dX12_own_227 rfl ?_
      have hPM_822 : PM μ791 := hp_742.cg ((((hp_794 4 (by decide)).trans ((hp_741 4 (by decide)).trans ((hp_683 4 (by decide)).trans (hp_641 4 (by decide)))))).trans (((hp_741 4 (by decide)).trans ((hp_683 4 (by decide)).trans (hp_641 4 (by decide))))).symm) (hp_794 6 (by decide)) ((((hp_794 7 (by decide)).trans ((hp_741 7 (by decide)).trans ((hp_683 7 (by decide)).trans (hp_641 7 (by decide)))))).trans (((hp_741 7 (by decide)).trans ((hp_683 7 (by decide)).trans (hp_641 7 (by decide))))).symm) (hp_794 8 (by decide)) (hp_794 9 (by decide)) (hp_794 11 (by decide)) (hp_794 12 (by decide)) ((((hp_794 14 (by decide)).trans ((hp_741 14 (by decide)).trans ((hp_683 14 (by decide)).trans ((hp_641 14 (by decide)).trans htt.symm))))).trans (((hp_741 14 (by decide)).trans ((hp_683 14 (by decide)).trans ((hp_641 14 (by decide)).trans htt.symm)))).symm) (hp_794 15 (by decide)) (hp_794 29 (by decide)) (fun j => (F_793.1 123 (by decide) j))
      have e_823 : wr μ791 = wr μ739 := (wr_cg (hp_794 15 (by decide)))
      have hw_824 := wr_r (μ := μ739)
      have e_825 : nn μ791 = nn μ739 := (nn_cg (hp_794 15 (by decide)) (hp_794 18 (by decide)))
      have e_826 : μ791.1 111 9 = μ739.1 111 9 := (hp_794 9 (by decide))
      have e_829 : bd μ791 = bd μ739 := (bd_cg (hp_794 15 (by decide)) (hp_794 16 (by decide)) (hp_794 17 (by decide)))
      refine xc_vV G (b := 111) (rest := []) (As := [.int (iv 17)]) (c_X12_wantsWord ω l μ791 17 (by unfold ir; decide) hPM_822 (by (repeat' apply And.intro) <;> omega)) (wm 10 27 rfl rfl) (wm 10 29 rfl rfl) (wm 0 178 rfl rfl) rfl rfl (by decide) rfl (wm 1 18 rfl rfl) (wm 10 30 rfl rfl) (by decide) hR ⟨nfB hF (by decide), nlB hLo (by decide)⟩ (n := 1) rfl rfl (Nat.le_of_ble_eq_true rfl) hl.1 dX12_own_229 (fun μ831 ρ d0 H locs hp G => ?_)
      obtain ⟨F_832, hp_833, hp_834, hp_835, hp_836, hp_837, hp_838⟩ := hp
      have hpl_839 := hp_834.pl
      have hw_840 := wr_r (μ := μ831)
      have hw_841 := wr_r (μ := μ791)
      have vl_842 := hp_835
      replace hp_835 := fun _ : Unit => hp_835
      have vl_843 := hp_836
      replace hp_836 := fun _ : Unit => hp_836
      have vl_844 := hp_837
      replace hp_837 := fun _ : Unit => hp_837
      have vl_845 := hp_838
      replace hp_838 := fun _ : Unit => hp_838
      obtain ⟨hv_848, hv_849, hv_850, hv_851, hv_852, hv_853, hv_854, hv_855, hv_856, hv_857, hv_858, hv_859, hv_860, hv_861, hv_862, hv_863, hv_864, hv_865, hv_866⟩ : μ.1 111 22 ≤ μ791.1 111 22 ∧ μ791.1 111 22 ≤ μ.1 111 22 + 2 * (μ831.1 111 9 - μ.1 111 9) + 8 * (nn μ831 - nn μ) - 6 + 0 * wr μ831 ∧ μ.1 111 9 + 1 ≤ μ831.1 111 9 ∧ nn μ + 0 ≤ nn μ831 ∧ nn μ831 ≤ nn μ + 0 + 9 * wr μ831 ∧ nn μ831 ≤ 8 + wr μ831 ∧ 9 * wr μ831 ≤ nn μ831 ∧ nn μ831 ≤ 9 ∧ wr μ ≤ wr μ831 ∧ wr μ831 ≤ 1 ∧ wr μ831 ≤ bd μ831 ∧ bd μ831 ≤ 1 ∧ r_681 + 1 ≤ μ791.1 111 22 ∧ μ.1 111 29 ≤ μ739.1 111 29 ∧ μ.1 111 31 ≤ μ739.1 111 31 ∧ μ739.1 111 31 ≤ 300 ∧ 0 ≤ μ739.1 111 32 ∧ μ739.1 111 32 ≤ μ831.1 111 9 ∧ μ831.1 111 9 ≤ 3000 := by (repeat' apply And.intro) <;> omega
      clear hv_803 hv_804 hv_805 hv_806 hv_807 hv_808 hv_809 hv_810 hv_811 hv_812 hv_813 hv_814 hv_815 hv_816 hv_817 hv_818 hv_819 hv_820 hv_821 e_823 hw_824 e_825 e_826 e_829 hpl_839 hw_840 hw_841 vl_842 vl_843 vl_844 vl_845
      refine lv_aload_n hx hb dX12_own_232 rfl (lv_at hl 1 rfl) ?_
      refine lv_iload_n hx hb dX12_own_233 rfl (lv_at hl 0 rfl) ?_
      have hq_867 : ∀ _ : Unit, q0m μ791 μ831 := fun _ => (q0m.fr (K := [111]) (FrM.tr FrM.rf F_832 (by decide)) (by decide) (by decide) (by decide) (hp_833 22 (by decide)) (nS.le (Int.le_of_eq (hp_833 29 (by decide)).symm) (Int.le_of_eq (hp_833 31 (by decide)).symm)))
      have hw_868 := wr_r (μ := μ831)
      have hht_869 : ∀ _ : Unit, bd μ831 = 0 → mHt μ831 0 := fun _ h0 => (hht_799 () (bd_z ((hp_837 ()).2) h0)).qm (hq_867 ())
      have e_870 : μ831.1 111 29 = μ739.1 111 29 := ((hp_833 29 (by decide)).trans (hp_794 29 (by decide)))
      have hxt_871 : mEXT μ μ831 := hxt_798.tr (q0m.fr (K := [111]) (FrM.tr FrM.rf F_832 (by decide)) (by decide) (by decide) (by decide) (hp_833 22 (by decide)) (nS.le (Int.le_of_eq (hp_833 29 (by decide)).symm) (Int.le_of_eq (hp_833 31 (by decide)).symm))).1
      have e_872 : μ831.1 111 22 = μ791.1 111 22 := (hp_833 22 (by decide))
      refine xc_vV G (b := 111) (rest := []) (As := [.int (iv r_681)]) (c_X12_lands ω l μ831 r_681 (by unfold ir; exact ⟨by omega, by omega⟩) (by (repeat' apply And.intro) <;> omega) (by (repeat' apply And.intro) <;> omega)) (wm 9 167 rfl rfl) (wm 9 169 rfl rfl) (wm 0 154 rfl rfl) rfl rfl (by decide) rfl (wm 1 18 rfl rfl) (wm 9 170 rfl rfl) (by decide) hR ⟨nfB hF (by decide), nlB hLo (by decide)⟩ (n := 1) rfl rfl (Nat.le_of_ble_eq_true rfl) hl.1 dX12_own_234 (fun μ876 ρ d0 H locs hp G => ?_)
      obtain ⟨F_877, hp_878⟩ := hp
      have hxt_879 : mEXT μ μ876 := hxt_871.mf hp_878 (by omega)
      have hht_880 : ∀ _ : Unit, bd μ876 = 0 → mHt μ876 0 := fun _ h0 => (hht_869 () (bd_z (Int.le_of_eq (bd_cg (F_877.1 111 (by decide) 15) (F_877.1 111 (by decide) 16) (F_877.1 111 (by decide) 17)).symm) h0)).mf hp_878
      obtain ⟨hv_883, hv_884, hv_885, hv_886, hv_887, hv_888, hv_889, hv_890, hv_891, hv_892, hv_893, hv_894, hv_895, hv_896, hv_897, hv_898, hv_899, hv_900, hv_901⟩ : μ.1 111 22 ≤ μ791.1 111 22 ∧ μ791.1 111 22 ≤ μ.1 111 22 + 2 * (μ831.1 111 9 - μ.1 111 9) + 8 * (nn μ831 - nn μ) - 6 + 0 * wr μ831 ∧ μ.1 111 9 + 1 ≤ μ831.1 111 9 ∧ nn μ + 0 ≤ nn μ831 ∧ nn μ831 ≤ nn μ + 0 + 9 * wr μ831 ∧ nn μ831 ≤ 8 + wr μ831 ∧ 9 * wr μ831 ≤ nn μ831 ∧ nn μ831 ≤ 9 ∧ wr μ ≤ wr μ831 ∧ wr μ831 ≤ 1 ∧ wr μ831 ≤ bd μ831 ∧ bd μ831 ≤ 1 ∧ r_681 + 1 ≤ μ791.1 111 22 ∧ μ.1 111 29 ≤ μ739.1 111 29 ∧ μ.1 111 31 ≤ μ739.1 111 31 ∧ μ739.1 111 31 ≤ 300 ∧ 0 ≤ μ739.1 111 32 ∧ μ739.1 111 32 ≤ μ831.1 111 9 ∧ μ831.1 111 9 ≤ 3000 := by (repeat' apply And.intro) <;> omega
      clear hv_848 hv_849 hv_850 hv_851 hv_852 hv_853 hv_854 hv_855 hv_856 hv_857 hv_858 hv_859 hv_860 hv_861 hv_862 hv_863 hv_864 hv_865 hv_866 hw_868 e_870 e_872
      refine lv_aload_n hx hb dX12_own_237 rfl (lv_at hl 1 rfl) ?_
      have e_902 : μ876.1 111 29 = μ739.1 111 29 := ((F_877.1 111 (by decide) 29).trans ((hp_833 29 (by decide)).trans (hp_794 29 (by decide))))
      have e_903 : μ876.1 111 14 = tt := ((F_877.1 111 (by decide) 14).trans ((hp_833 14 (by decide)).trans ((hp_794 14 (by decide)).trans ((hp_741 14 (by decide)).trans ((hp_683 14 (by decide)).trans ((hp_641 14 (by decide)).trans htt.symm))))))
      have hPM_904 : PM μ876 := hp_834.cg ((((F_877.1 111 (by decide) 4).trans ((hp_833 4 (by decide)).trans ((hp_794 4 (by decide)).trans ((hp_741 4 (by decide)).trans ((hp_683 4 (by decide)).trans (hp_641 4 (by decide)))))))).trans (((hp_833 4 (by decide)).trans ((hp_794 4 (by decide)).trans ((hp_741 4 (by decide)).trans ((hp_683 4 (by decide)).trans (hp_641 4 (by decide))))))).symm) (F_877.1 111 (by decide) 6) ((((F_877.1 111 (by decide) 7).trans ((hp_833 7 (by decide)).trans ((hp_794 7 (by decide)).trans ((hp_741 7 (by decide)).trans ((hp_683 7 (by decide)).trans (hp_641 7 (by decide)))))))).trans (((hp_833 7 (by decide)).trans ((hp_794 7 (by decide)).trans ((hp_741 7 (by decide)).trans ((hp_683 7 (by decide)).trans (hp_641 7 (by decide))))))).symm) (F_877.1 111 (by decide) 8) (F_877.1 111 (by decide) 9) (F_877.1 111 (by decide) 11) (F_877.1 111 (by decide) 12) ((((F_877.1 111 (by decide) 14).trans ((hp_833 14 (by decide)).trans ((hp_794 14 (by decide)).trans ((hp_741 14 (by decide)).trans ((hp_683 14 (by decide)).trans ((hp_641 14 (by decide)).trans htt.symm))))))).trans (((hp_833 14 (by decide)).trans ((hp_794 14 (by decide)).trans ((hp_741 14 (by decide)).trans ((hp_683 14 (by decide)).trans ((hp_641 14 (by decide)).trans htt.symm)))))).symm) (F_877.1 111 (by decide) 15) ((((F_877.1 111 (by decide) 29).trans ((hp_833 29 (by decide)).trans (hp_794 29 (by decide))))).trans (((hp_833 29 (by decide)).trans (hp_794 29 (by decide)))).symm) (fun j => (F_877.1 123 (by decide) j))
      have e_905 : wr μ876 = wr μ831 := (wr_cg (F_877.1 111 (by decide) 15))
      have hw_906 := wr_r (μ := μ831)
      have e_907 : nn μ876 = nn μ831 := (nn_cg (F_877.1 111 (by decide) 15) (F_877.1 111 (by decide) 18))
      have e_910 : μ876.1 111 22 = μ791.1 111 22 := ((F_877.1 111 (by decide) 22).trans (hp_833 22 (by decide)))
      have e_912 : μ876.1 111 9 = μ831.1 111 9 := (F_877.1 111 (by decide) 9)
      have e_914 : μ876.1 111 39 = μ739.1 111 39 := ((F_877.1 111 (by decide) 39).trans ((hp_833 39 (by decide)).trans (hp_794 39 (by decide))))
      have e_917 : μ876.1 111 31 = μ739.1 111 31 := ((F_877.1 111 (by decide) 31).trans ((hp_833 31 (by decide)).trans (hp_794 31 (by decide))))
      have e_919 : μ876.1 111 32 = μ739.1 111 32 := ((F_877.1 111 (by decide) 32).trans ((hp_833 32 (by decide)).trans (hp_794 32 (by decide))))
      have e_931 : bd μ876 = bd μ831 := (bd_cg (F_877.1 111 (by decide) 15) (F_877.1 111 (by decide) 16) (F_877.1 111 (by decide) 17))
      refine xc_vV G (b := 111) (rest := []) (As := []) (((fun (_ : Om) (_ : Launch) => hK)) ω l μ876 tt (by (repeat' apply And.intro) <;> omega) hPM_904 (by (repeat' apply And.intro) <;> omega) (by (repeat' apply And.intro) <;> omega) (by (repeat' apply And.intro) <;> omega) (by (repeat' apply And.intro) <;> omega) (by (repeat' apply And.intro) <;> omega) (by (repeat' apply And.intro) <;> omega) (by (repeat' apply And.intro) <;> omega) (fun _ h0 => (hht_880 () h0).s)) (wm 9 118 rfl rfl) (wm 9 120 rfl rfl) (wm 0 142 rfl rfl) rfl rfl (by decide) rfl (wm 1 18 rfl rfl) (wm 9 121 rfl rfl) (by decide) hR ⟨sfr (F := F) (a := 0) (by decide), slo (L := Lo) (m := 1) (a := 0) (by decide)⟩ (n := 0) rfl rfl (Nat.le_of_ble_eq_true rfl) hl.1 dX12_own_238 (fun μ935 ρ d0 H locs hp G => ?_)
      obtain ⟨F_936, hp_937, hp_938, hp_939, hp_940, hp_941, hp_942, hp_943, hp_944, hp_945, hp_946, hp_947, hp_948, hp_949⟩ := hp
      have hpl_950 := hp_938.pl
      have hw_951 := wr_r (μ := μ935)
      have hw_952 := wr_r (μ := μ876)
      have hxt_953 : mEXT μ μ935 := hxt_879.tr hp_949
      have hwk_954 : ∀ j, j < μ.1 111 39 → μ935.1 126 j = μ876.1 126 j := fun j hj => hp_945 j (by omega)
      have hex_955 : ∀ _ : Unit, bd μ935 = 0 → mEX μ876 μ935 tt 0 (2 * (8 - nn μ)) 101 := fun _ h0 => (hp_948 () h0).mn (by omega) (Int.le_refl _)
      have hht_956 : ∀ _ : Unit, bd μ935 = 0 → mHt μ935 0 := fun _ h0 => (hht_880 () (bd_z (hp_942.2) h0)).ex (hex_955 () h0) rfl
      have vl_957 := hp_939
      replace hp_939 := fun _ : Unit => hp_939
      have vl_958 := hp_940
      replace hp_940 := fun _ : Unit => hp_940
      have vl_959 := hp_941
      replace hp_941 := fun _ : Unit => hp_941
      have vl_960 := hp_942
      replace hp_942 := fun _ : Unit => hp_942
      have vl_961 := hp_943
      replace hp_943 := fun _ : Unit => hp_943
      have vl_962 := hp_944
      replace hp_944 := fun _ : Unit => hp_944
      have vl_963 := hp_946
      replace hp_946 := fun _ : Unit => hp_946
      have vl_964 := hp_947
      replace hp_947 := fun _ : Unit => hp_947
      have h39_965 : μ935.1 111 39 = μ.1 111 39 := by omega
      obtain ⟨hv_968, hv_969, hv_970, hv_971, hv_972, hv_973, hv_974, hv_975, hv_976, hv_977, hv_978, hv_979, hv_980, hv_981, hv_982, hv_983, hv_984, hv_985, hv_986⟩ : μ.1 111 22 ≤ μ935.1 111 22 ∧ μ935.1 111 22 ≤ μ.1 111 22 + 2 * (μ935.1 111 9 - μ.1 111 9) + 8 * (nn μ935 - nn μ) - 10 + 4 * wr μ935 ∧ μ.1 111 9 + 1 ≤ μ935.1 111 9 ∧ nn μ + 0 ≤ nn μ935 ∧ nn μ935 ≤ nn μ + 0 + 9 * wr μ935 ∧ nn μ935 ≤ 8 + wr μ935 ∧ 9 * wr μ935 ≤ nn μ935 ∧ nn μ935 ≤ 9 ∧ wr μ ≤ wr μ935 ∧ wr μ935 ≤ 1 ∧ wr μ935 ≤ bd μ935 ∧ bd μ935 ≤ 1 ∧ r_681 + 1 ≤ μ935.1 111 22 ∧ μ.1 111 29 ≤ μ935.1 111 29 ∧ μ.1 111 31 ≤ μ935.1 111 31 ∧ μ935.1 111 31 ≤ 300 ∧ 0 ≤ μ935.1 111 32 ∧ μ935.1 111 32 ≤ μ935.1 111 9 ∧ μ935.1 111 9 ≤ 3000 := by (repeat' apply And.intro) <;> omega
      clear hv_883 hv_884 hv_885 hv_886 hv_887 hv_888 hv_889 hv_890 hv_891 hv_892 hv_893 hv_894 hv_895 hv_896 hv_897 hv_898 hv_899 hv_900 hv_901 e_902 e_903 e_905 hw_906 e_907 e_910 e_912 e_914 e_917 e_919 e_931 hpl_950 hw_951 hw_952 vl_957 vl_958 vl_959 vl_960 vl_961 vl_962 vl_963 vl_964
      refine lv_aload_n hx hb dX12_own_241 rfl (lv_at hl 1 rfl) ?_
      refine lv_bipush (v := iv 17) hx hb dX12_own_242 rfl ?_
      refine lv_lconst (v := jv 0) hx hb dX12_own_244 rfl ?_
      refine lv_iconst (v := iv 0) hx hb dX12_own_245 rfl ?_
      refine xc_iV G (b := 111) (rest := []) (As := [.int (iv 17), .long (jv 0), .int (iv 0)]) (c_X12_emit ω l μ935 17 0 0 (by unfold ir; decide) (by unfold jr; omega) (by unfold ir; decide) (by (repeat' apply And.intro) <;> omega)) (wm 9 126 rfl rfl) (wm 9 128 rfl rfl) (wm 0 144 rfl rfl) rfl rfl (by decide) rfl (wm 1 18 rfl rfl) (wm 9 129 rfl rfl) (by decide) hR ⟨nfB hF (by decide), nlB hLo (by decide)⟩ (n := 3) rfl rfl (Nat.le_of_ble_eq_true rfl) hl.1 dX12_own_246 (fun r_988 μ987 ρ d0 H locs hr_r_988 hp G => ?_)
      have hr_r_988 : -2147483648 ≤ r_988 ∧ r_988 ≤ 2147483647 := hr_r_988
      obtain ⟨F_989, hp_990, hp_991, hp_992, hp_993⟩ := hp
      have hxt_994 : mEXT μ μ987 := hxt_953.tr hp_991.1
      have hht_995 : ∀ _ : Unit, bd μ987 = 0 → mHt μ987 0 := fun _ h0 => (hht_956 () (bd_z (Int.le_of_eq (bd_cg (hp_990 15 (by decide)) (hp_990 16 (by decide)) (hp_990 17 (by decide))).symm) h0)).ad hp_991 rfl
      have vl_996 := hp_993
      replace hp_993 := fun _ : Unit => hp_993
      have hw_997 := wr_r (μ := μ935)
      obtain ⟨hv_999, hv_1000, hv_1001, hv_1002, hv_1003, hv_1004, hv_1005, hv_1006, hv_1007, hv_1008, hv_1009, hv_1010, hv_1011, hv_1012, hv_1013, hv_1014, hv_1015, hv_1016, hv_1017⟩ : μ.1 111 22 ≤ μ987.1 111 22 ∧ μ987.1 111 22 ≤ μ.1 111 22 + 2 * (μ935.1 111 9 - μ.1 111 9) + 8 * (nn μ935 - nn μ) - 9 + 4 * wr μ935 ∧ μ.1 111 9 + 1 ≤ μ935.1 111 9 ∧ nn μ + 0 ≤ nn μ935 ∧ nn μ935 ≤ nn μ + 0 + 9 * wr μ935 ∧ nn μ935 ≤ 8 + wr μ935 ∧ 9 * wr μ935 ≤ nn μ935 ∧ nn μ935 ≤ 9 ∧ wr μ ≤ wr μ935 ∧ wr μ935 ≤ 1 ∧ wr μ935 ≤ bd μ935 ∧ bd μ935 ≤ 1 ∧ r_681 + 1 ≤ μ987.1 111 22 ∧ μ.1 111 29 ≤ μ935.1 111 29 ∧ μ.1 111 31 ≤ μ935.1 111 31 ∧ μ935.1 111 31 ≤ 300 ∧ 0 ≤ μ935.1 111 32 ∧ μ935.1 111 32 ≤ μ935.1 111 9 ∧ μ935.1 111 9 ≤ 3000 := by (repeat' apply And.intro) <;> omega
      clear hv_968 hv_969 hv_970 hv_971 hv_972 hv_973 hv_974 hv_975 hv_976 hv_977 hv_978 hv_979 hv_980 hv_981 hv_982 hv_983 hv_984 hv_985 hv_986 vl_996 hw_997
      refine lv_pop hx hb dX12_own_249 rfl ?_
      refine lv_goto (tgt := 360) hx hb dX12_own_250 (by decide) ?_
      refine lv_iconst (v := iv 1) hx hb dX12_own_360 rfl ?_
      have e_1018 : μ987.1 111 9 = μ935.1 111 9 := (hp_990 9 (by decide))
      have e_1019 : μ987.1 111 29 = μ935.1 111 29 := (hp_990 29 (by decide))
      have e_1020 : μ987.1 111 39 = μ935.1 111 39 := (hp_990 39 (by decide))
      have e_1021 : μ987.1 111 31 = μ935.1 111 31 := (hp_990 31 (by decide))
      have e_1022 : μ987.1 111 32 = μ935.1 111 32 := (hp_990 32 (by decide))
      have e_1023 : μ987.1 111 6 = μ935.1 111 6 := (hp_990 6 (by decide))
      have e_1024 : wr μ987 = wr μ935 := (wr_cg (hp_990 15 (by decide)))
      have hw_1025 := wr_r (μ := μ935)
      have e_1026 : bd μ987 = bd μ935 := (bd_cg (hp_990 15 (by decide)) (hp_990 16 (by decide)) (hp_990 17 (by decide)))
      have e_1027 : nn μ987 = nn μ935 := (nn_cg (hp_990 15 (by decide)) (hp_990 18 (by decide)))
      have hPM_1028 : PM μ987 := hp_938.cg ((((hp_990 4 (by decide)).trans ((hp_937 4 (by decide)).trans ((F_877.1 111 (by decide) 4).trans ((hp_833 4 (by decide)).trans ((hp_794 4 (by decide)).trans ((hp_741 4 (by decide)).trans ((hp_683 4 (by decide)).trans (hp_641 4 (by decide)))))))))).trans (((hp_937 4 (by decide)).trans ((F_877.1 111 (by decide) 4).trans ((hp_833 4 (by decide)).trans ((hp_794 4 (by decide)).trans ((hp_741 4 (by decide)).trans ((hp_683 4 (by decide)).trans (hp_641 4 (by decide))))))))).symm) (hp_990 6 (by decide)) ((((hp_990 7 (by decide)).trans ((hp_937 7 (by decide)).trans ((F_877.1 111 (by decide) 7).trans ((hp_833 7 (by decide)).trans ((hp_794 7 (by decide)).trans ((hp_741 7 (by decide)).trans ((hp_683 7 (by decide)).trans (hp_641 7 (by decide)))))))))).trans (((hp_937 7 (by decide)).trans ((F_877.1 111 (by decide) 7).trans ((hp_833 7 (by decide)).trans ((hp_794 7 (by decide)).trans ((hp_741 7 (by decide)).trans ((hp_683 7 (by decide)).trans (hp_641 7 (by decide))))))))).symm) (hp_990 8 (by decide)) (hp_990 9 (by decide)) (hp_990 11 (by decide)) (hp_990 12 (by decide)) ((((hp_990 14 (by decide)).trans ((hp_937 14 (by decide)).trans ((F_877.1 111 (by decide) 14).trans ((hp_833 14 (by decide)).trans ((hp_794 14 (by decide)).trans ((hp_741 14 (by decide)).trans ((hp_683 14 (by decide)).trans ((hp_641 14 (by decide)).trans htt.symm))))))))).trans (((hp_937 14 (by decide)).trans ((F_877.1 111 (by decide) 14).trans ((hp_833 14 (by decide)).trans ((hp_794 14 (by decide)).trans ((hp_741 14 (by decide)).trans ((hp_683 14 (by decide)).trans ((hp_641 14 (by decide)).trans htt.symm)))))))).symm) (hp_990 15 (by decide)) (hp_990 29 (by decide)) (fun j => (F_989.1 123 (by decide) j))
      exact xr_i G (x := 1) hret hlk (by unfold ir; exact ⟨by omega, by omega⟩) (zr (by omega)) dX12_own_361 ⟨(FrM.tr (FrM.tr (FrM.tr (FrM.tr (FrM.tr (FrM.tr (FrM.tr (FrM.tr FrM.rf F_640 (by decide)) F_682 (by decide)) F_740 (by decide)) F_793 (by decide)) F_832 (by decide)) F_877 (by decide)) F_936 (by decide)) F_989 (by decide)), (fun j hj => ((hp_990 j (fun h9 => hj ((by decide : ∀ x ∈ ([22] : List Int), x ∈ ([6, 8, 9, 10, 11, 12, 13, 15, 16, 17, 18, 22, 29, 31, 32, 34, 35, 36, 37, 39] : List Int)) j h9))).trans ((hp_937 j (fun h9 => hj ((by decide : ∀ x ∈ ([6, 8, 9, 10, 11, 12, 13, 15, 16, 17, 18, 22, 29, 31, 32, 34, 35, 36, 37, 39] : List Int), x ∈ ([6, 8, 9, 10, 11, 12, 13, 15, 16, 17, 18, 22, 29, 31, 32, 34, 35, 36, 37, 39] : List Int)) j h9))).trans ((F_877.1 111 (by decide) j).trans ((hp_833 j (fun h9 => hj ((by decide : ∀ x ∈ ([6, 8, 9, 10, 11, 12, 13, 15] : List Int), x ∈ ([6, 8, 9, 10, 11, 12, 13, 15, 16, 17, 18, 22, 29, 31, 32, 34, 35, 36, 37, 39] : List Int)) j h9))).trans ((hp_794 j (fun h9 => hj ((by decide : ∀ x ∈ ([22] : List Int), x ∈ ([6, 8, 9, 10, 11, 12, 13, 15, 16, 17, 18, 22, 29, 31, 32, 34, 35, 36, 37, 39] : List Int)) j h9))).trans ((hp_741 j (fun h9 => hj ((by decide : ∀ x ∈ ([6, 8, 9, 10, 11, 12, 13, 15, 16, 17, 18, 22, 29, 31, 32, 34, 35, 36, 37, 39] : List Int), x ∈ ([6, 8, 9, 10, 11, 12, 13, 15, 16, 17, 18, 22, 29, 31, 32, 34, 35, 36, 37, 39] : List Int)) j h9))).trans ((hp_683 j (fun h9 => hj ((by decide : ∀ x ∈ ([22] : List Int), x ∈ ([6, 8, 9, 10, 11, 12, 13, 15, 16, 17, 18, 22, 29, 31, 32, 34, 35, 36, 37, 39] : List Int)) j h9))).trans (hp_641 j (fun h9 => hj ((by decide : ∀ x ∈ ([6, 8, 9, 10, 11, 12, 13, 15] : List Int), x ∈ ([6, 8, 9, 10, 11, 12, 13, 15, 16, 17, 18, 22, 29, 31, 32, 34, 35, 36, 37, 39] : List Int)) j h9))))))))))), hPM_1028, (by (repeat' apply And.intro) <;> omega), (by (repeat' apply And.intro) <;> omega), (by (repeat' apply And.intro) <;> omega), ⟨by omega, (Int.le_trans (Int.le_trans (Int.le_trans (Int.le_trans (Int.le_trans (Int.le_trans (Int.le_trans ((hp_644 ()).2) (Int.le_of_eq (bd_cg (hp_683 15 (by decide)) (hp_683 16 (by decide)) (hp_683 17 (by decide))).symm)) ((hp_746 ()).2)) (Int.le_of_eq (bd_cg (hp_794 15 (by decide)) (hp_794 16 (by decide)) (hp_794 17 (by decide))).symm)) ((hp_837 ()).2)) (Int.le_of_eq (bd_cg (F_877.1 111 (by decide) 15) (F_877.1 111 (by decide) 16) (F_877.1 111 (by decide) 17)).symm)) ((hp_942 ()).2)) (Int.le_of_eq (bd_cg (hp_990 15 (by decide)) (hp_990 16 (by decide)) (hp_990 17 (by decide))).symm))⟩, (by (repeat' apply And.intro) <;> omega), (by (repeat' apply And.intro) <;> omega), (fun j hj => ((F_989.1 126 (by decide) j).trans ((hwk_954 j (by omega)).trans ((F_877.1 126 (by decide) j).trans ((F_832.1 126 (by decide) j).trans ((F_793.1 126 (by decide) j).trans ((hwk_758 j (by omega)).trans ((F_682.1 126 (by decide) j).trans (F_640.1 126 (by decide) j))))))))), (by (repeat' apply And.intro) <;> omega), (by (repeat' apply And.intro) <;> omega), (fun _ _ h0 => (mEY.ql (hq_671 ()) (as_mwth (M := 2 * (8 - nn μ)) ((hS1 () (bd_z (Int.le_trans (Int.le_trans (Int.le_trans (Int.le_trans (Int.le_trans (Int.le_trans (Int.le_trans ((hp_644 ()).2) (Int.le_of_eq (bd_cg (hp_683 15 (by decide)) (hp_683 16 (by decide)) (hp_683 17 (by decide))).symm)) ((hp_746 ()).2)) (Int.le_of_eq (bd_cg (hp_794 15 (by decide)) (hp_794 16 (by decide)) (hp_794 17 (by decide))).symm)) ((hp_837 ()).2)) (Int.le_of_eq (bd_cg (F_877.1 111 (by decide) 15) (F_877.1 111 (by decide) 16) (F_877.1 111 (by decide) 17)).symm)) ((hp_942 ()).2)) (Int.le_of_eq (bd_cg (hp_990 15 (by decide)) (hp_990 16 (by decide)) (hp_990 17 (by decide))).symm)) h0)).qm (hq_671 ())) (by omega) hp_684 (hex_759 () (bd_z (Int.le_trans (Int.le_trans (Int.le_trans (Int.le_trans (Int.le_of_eq (bd_cg (hp_794 15 (by decide)) (hp_794 16 (by decide)) (hp_794 17 (by decide))).symm) ((hp_837 ()).2)) (Int.le_of_eq (bd_cg (F_877.1 111 (by decide) 15) (F_877.1 111 (by decide) 16) (F_877.1 111 (by decide) 17)).symm)) ((hp_942 ()).2)) (Int.le_of_eq (bd_cg (hp_990 15 (by decide)) (hp_990 16 (by decide)) (hp_990 17 (by decide))).symm)) h0)) (hp_795.qm (hq_867 ())) hp_878 (hex_955 () (bd_z (Int.le_of_eq (bd_cg (hp_990 15 (by decide)) (hp_990 16 (by decide)) (hp_990 17 (by decide))).symm) h0)) hp_991 (by omega) rfl (by omega))).mn (by omega)), hxt_994, (by (repeat' apply And.intro) <;> omega), (fun _ h1 => absurd h1 (by decide))⟩
  · refine lv_aload_n hx hb dX12_own_0 rfl (lv_at hl 0 rfl) ?_
    refine xa_geti G fd_X12 (a := 111) (x := tt) 14 rfl (by decide) rfl (wm 7 163 rfl rfl) ⟨rfl, rfl, rfl⟩ dX12_own_1 rfl htt.symm ?_
    have hr_1042 : -2147483648 ≤ tt ∧ tt ≤ 2147483647 := by have h9 := G.hr (a := 111) (k := 14) rfl; rw [show μ.1 111 14 = tt from htt.symm] at h9; exact h9
    refine xb_if_ne (tgt := 16) hx hb (by unfold ir; exact ⟨by omega, by omega⟩) dX12_own_4 (by decide) (fun c_4 => ?_) (fun c_4 => absurd c_4 (by omega))
    refine lv_aload_n hx hb dX12_own_16 rfl (lv_at hl 0 rfl) ?_
    refine xa_geti G fd_X12 (a := 111) (x := tt) 14 rfl (by decide) rfl (wm 7 163 rfl rfl) ⟨rfl, rfl, rfl⟩ dX12_own_17 rfl htt.symm ?_
    refine lv_iconst (v := iv 3) hx hb dX12_own_20 rfl ?_
    refine xb_icmp_ne (tgt := 79) hx hb (by unfold ir; exact ⟨by omega, by omega⟩) (by unfold ir; exact ⟨by omega, by omega⟩) dX12_own_21 (by decide) (fun c_21 => absurd c_21 (by omega)) (fun c_21 => ?_)
    refine lv_aload_n hx hb dX12_own_24 rfl (lv_at hl 0 rfl) ?_
    refine xa_geti G fd_X12 (a := 111) (x := μ.1 111 11) 11 rfl (by decide) rfl (wm 7 160 rfl rfl) ⟨rfl, rfl, rfl⟩ dX12_own_25 rfl rfl ?_
    have hr_1043 : -2147483648 ≤ μ.1 111 11 ∧ μ.1 111 11 ≤ 2147483647 := by have h9 := G.hr (a := 111) (k := 11) rfl; exact h9
    refine lv_bipush (v := iv 18) hx hb dX12_own_28 rfl ?_
    refine xb_icmp_ne (tgt := 79) hx hb (by unfold ir; exact ⟨by omega, by omega⟩) (by unfold ir; exact ⟨by omega, by omega⟩) dX12_own_30 (by decide) (fun c_30 => ?_) (fun c_30 => ?_)
    · replace c_30 := fun _ : Unit => c_30
      refine lv_aload_n hx hb dX12_own_79 rfl (lv_at hl 0 rfl) ?_
      refine xa_geti G fd_X12 (a := 111) (x := tt) 14 rfl (by decide) rfl (wm 7 163 rfl rfl) ⟨rfl, rfl, rfl⟩ dX12_own_80 rfl htt.symm ?_
      refine xb_if_ne (tgt := 102) hx hb (by unfold ir; exact ⟨by omega, by omega⟩) dX12_own_83 (by decide) (fun c_83 => ?_) (fun c_83 => absurd c_83 (by omega))
      refine lv_aload_n hx hb dX12_own_102 rfl (lv_at hl 0 rfl) ?_
      refine xa_geti G fd_X12 (a := 111) (x := tt) 14 rfl (by decide) rfl (wm 7 163 rfl rfl) ⟨rfl, rfl, rfl⟩ dX12_own_103 rfl htt.symm ?_
      refine lv_iconst (v := iv 1) hx hb dX12_own_106 rfl ?_
      refine xb_icmp_ne (tgt := 145) hx hb (by unfold ir; exact ⟨by omega, by omega⟩) (by unfold ir; exact ⟨by omega, by omega⟩) dX12_own_107 (by decide) (fun c_107 => ?_) (fun c_107 => absurd c_107 (by omega))
      refine lv_aload_n hx hb dX12_own_145 rfl (lv_at hl 0 rfl) ?_
      refine xa_geti G fd_X12 (a := 111) (x := tt) 14 rfl (by decide) rfl (wm 7 163 rfl rfl) ⟨rfl, rfl, rfl⟩ dX12_own_146 rfl htt.symm ?_
      refine lv_iconst (v := iv 1) hx hb dX12_own_149 rfl ?_
      refine xb_icmp_ne (tgt := 183) hx hb (by unfold ir; exact ⟨by omega, by omega⟩) (by unfold ir; exact ⟨by omega, by omega⟩) dX12_own_150 (by decide) (fun c_150 => ?_) (fun c_150 => absurd c_150 (by omega))
      refine lv_aload_n hx hb dX12_own_183 rfl (lv_at hl 0 rfl) ?_
      refine xa_geti G fd_X12 (a := 111) (x := tt) 14 rfl (by decide) rfl (wm 7 163 rfl rfl) ⟨rfl, rfl, rfl⟩ dX12_own_184 rfl htt.symm ?_
      refine lv_iconst (v := iv 2) hx hb dX12_own_187 rfl ?_
      refine xb_icmp_ne (tgt := 253) hx hb (by unfold ir; exact ⟨by omega, by omega⟩) (by unfold ir; exact ⟨by omega, by omega⟩) dX12_own_188 (by decide) (fun c_188 => ?_) (fun c_188 => absurd c_188 (by omega))
      refine lv_aload_n hx hb dX12_own_253 rfl (lv_at hl 0 rfl) ?_
      refine xa_geti G fd_X12 (a := 111) (x := tt) 14 rfl (by decide) rfl (wm 7 163 rfl rfl) ⟨rfl, rfl, rfl⟩ dX12_own_254 rfl htt.symm ?_
      refine lv_iconst (v := iv 3) hx hb dX12_own_257 rfl ?_
      refine xb_icmp_ne (tgt := 334) hx hb (by unfold ir; exact ⟨by omega, by omega⟩) (by unfold ir; exact ⟨by omega, by omega⟩) dX12_own_258 (by decide) (fun c_258 => absurd c_258 (by omega)) (fun c_258 => ?_)
      refine lv_aload_n hx hb dX12_own_261 rfl (lv_at hl 0 rfl) ?_
      refine xa_geti G fd_X12 (a := 111) (x := μ.1 111 11) 11 rfl (by decide) rfl (wm 7 160 rfl rfl) ⟨rfl, rfl, rfl⟩ dX12_own_262 rfl rfl ?_
      refine lv_bipush (v := iv 19) hx hb dX12_own_265 rfl ?_
      refine xb_icmp_ne (tgt := 334) hx hb (by unfold ir; exact ⟨by omega, by omega⟩) (by unfold ir; exact ⟨by omega, by omega⟩) dX12_own_267 (by decide) (fun c_267 => ?_) (fun c_267 => ?_)
      · replace c_267 := fun _ : Unit => c_267
        refine lv_aload_n hx hb dX12_own_334 rfl (lv_at hl 0 rfl) ?_
        refine xa_geti G fd_X12 (a := 111) (x := tt) 14 rfl (by decide) rfl (wm 7 163 rfl rfl) ⟨rfl, rfl, rfl⟩ dX12_own_335 rfl htt.symm ?_
        refine lv_iconst (v := iv 3) hx hb dX12_own_338 rfl ?_
        refine xb_icmp_ne (tgt := 358) hx hb (by unfold ir; exact ⟨by omega, by omega⟩) (by unfold ir; exact ⟨by omega, by omega⟩) dX12_own_339 (by decide) (fun c_339 => absurd c_339 (by omega)) (fun c_339 => ?_)
        refine lv_aload_n hx hb dX12_own_342 rfl (lv_at hl 0 rfl) ?_
        refine xa_geti G fd_X12 (a := 111) (x := μ.1 111 11) 11 rfl (by decide) rfl (wm 7 160 rfl rfl) ⟨rfl, rfl, rfl⟩ dX12_own_343 rfl rfl ?_
        refine lv_bipush (v := iv 21) hx hb dX12_own_346 rfl ?_
        refine xb_icmp_ne (tgt := 358) hx hb (by unfold ir; exact ⟨by omega, by omega⟩) (by unfold ir; exact ⟨by omega, by omega⟩) dX12_own_348 (by decide) (fun c_348 => ?_) (fun c_348 => ?_)
        · replace c_348 := fun _ : Unit => c_348
          refine lv_iconst (v := iv 0) hx hb dX12_own_358 rfl ?_
          exact xr_i G (x := 0) hret hlk (by unfold ir; exact ⟨by omega, by omega⟩) (zr (by omega)) dX12_own_359 ⟨FrM.rf, (fun j hj => rfl), hPM, (by (repeat' apply And.intro) <;> omega), (by (repeat' apply And.intro) <;> omega), (by (repeat' apply And.intro) <;> omega), ⟨Int.le_refl _, Int.le_refl _⟩, (by (repeat' apply And.intro) <;> omega), (by (repeat' apply And.intro) <;> omega), (fun _ _ => rfl), (by (repeat' apply And.intro) <;> omega), (by (repeat' apply And.intro) <;> omega), (fun _ h1 => absurd h1 (by decide)), (mEXT.rf (μ := μ)), (by (repeat' apply And.intro) <;> omega), (fun _ _ => rfl)⟩
        · refine lv_aload_n hx hb dX12_own_351 rfl (lv_at hl 0 rfl) ?_
          have e_1044 : μ.1 111 14 = tt := htt.symm
          refine xc_vV G (b := 111) (rest := []) (As := []) (c_X12_cleans ω l μ F Lo kf tt (by (repeat' apply And.intro) <;> omega) hF hLo hK hPM (by (repeat' apply And.intro) <;> omega) (by (repeat' apply And.intro) <;> omega) (by (repeat' apply And.intro) <;> omega) (by (repeat' apply And.intro) <;> omega) (by (repeat' apply And.intro) <;> omega) (by (repeat' apply And.intro) <;> omega) (by (repeat' apply And.intro) <;> omega) (by (repeat' apply And.intro) <;> omega) (fun _ h0 => (hS1 () h0)) (by (repeat' apply And.intro) <;> omega) (by (repeat' apply And.intro) <;> omega)) (wm 10 31 rfl rfl) (wm 10 33 rfl rfl) (wm 0 179 rfl rfl) rfl rfl (by decide) rfl (wm 1 18 rfl rfl) (wm 10 34 rfl rfl) (by decide) hR ⟨sfr (F := F) (a := 1) (by decide), slo (L := Lo) (m := 4) (a := 20) (by decide)⟩ (n := 0) rfl rfl (Nat.le_of_ble_eq_true rfl) hl.1 dX12_own_352 (fun μ1045 ρ d0 H locs hp G => ?_)
          obtain ⟨F_1046, hp_1047, hp_1048, hp_1049, hp_1050, hp_1051, hp_1052, hp_1053, hp_1054, hp_1055, hp_1056, hp_1057, hp_1058, hp_1059⟩ := hp
          have hpl_1060 := hp_1048.pl
          have hw_1061 := wr_r (μ := μ1045)
          have hxt_1062 : mEXT μ μ1045 := (mEXT.rf (μ := μ)).tr hp_1059
          have hwk_1063 : ∀ j, j < μ.1 111 39 → μ1045.1 126 j = μ.1 126 j := fun j hj => hp_1055 j (by omega)
          have hey_1064 : ∀ _ : Unit, bd μ1045 = 0 → mEY μ μ1045 tt (2 * (9 - nn μ)) := fun _ h0 => (hp_1058 () h0).mn (by omega)
          have vl_1065 := hp_1049
          replace hp_1049 := fun _ : Unit => hp_1049
          have vl_1066 := hp_1050
          replace hp_1050 := fun _ : Unit => hp_1050
          have vl_1067 := hp_1051
          replace hp_1051 := fun _ : Unit => hp_1051
          have vl_1068 := hp_1052
          replace hp_1052 := fun _ : Unit => hp_1052
          have vl_1069 := hp_1053
          replace hp_1053 := fun _ : Unit => hp_1053
          have vl_1070 := hp_1054
          replace hp_1054 := fun _ : Unit => hp_1054
          have vl_1071 := hp_1056
          replace hp_1056 := fun _ : Unit => hp_1056
          have vl_1072 := hp_1057
          replace hp_1057 := fun _ : Unit => hp_1057
          have h39_1073 : μ1045.1 111 39 = μ.1 111 39 := by omega
          obtain ⟨hv_1076, hv_1077, hv_1078, hv_1079, hv_1080, hv_1081, hv_1082, hv_1083, hv_1084, hv_1085, hv_1086, hv_1087, hv_1088, hv_1089, hv_1090, hv_1091, hv_1092, hv_1093, hv_1094⟩ : μ.1 111 22 ≤ μ1045.1 111 22 ∧ μ1045.1 111 22 ≤ μ.1 111 22 + 2 * (μ1045.1 111 9 - μ.1 111 9) + 8 * (nn μ1045 - nn μ) - 1 + 0 * wr μ1045 ∧ μ.1 111 9 + 0 ≤ μ1045.1 111 9 ∧ μ.1 111 9 + 1 ≤ μ1045.1 111 9 + wr μ1045 ∧ nn μ + 0 ≤ nn μ1045 ∧ nn μ1045 ≤ nn μ + 0 + 9 * wr μ1045 ∧ nn μ1045 ≤ 8 + wr μ1045 ∧ 9 * wr μ1045 ≤ nn μ1045 ∧ nn μ1045 ≤ 9 ∧ wr μ ≤ wr μ1045 ∧ wr μ1045 ≤ 1 ∧ wr μ1045 ≤ bd μ1045 ∧ bd μ1045 ≤ 1 ∧ μ.1 111 29 ≤ μ1045.1 111 29 ∧ μ.1 111 31 ≤ μ1045.1 111 31 ∧ μ1045.1 111 31 ≤ 300 ∧ 0 ≤ μ1045.1 111 32 ∧ μ1045.1 111 32 ≤ μ1045.1 111 9 ∧ μ1045.1 111 9 ≤ 3000 := by (repeat' apply And.intro) <;> omega
          clear e_1044 hpl_1060 hw_1061 vl_1065 vl_1066 vl_1067 vl_1068 vl_1069 vl_1070 vl_1071 vl_1072
          refine lv_goto (tgt := 360) hx hb dX12_own_355 (by decide) ?_
          refine lv_iconst (v := iv 1) hx hb dX12_own_360 rfl ?_
          have hw_1095 := wr_r (μ := μ1045)
          exact xr_i G (x := 1) hret hlk (by unfold ir; exact ⟨by omega, by omega⟩) (zr (by omega)) dX12_own_361 ⟨(FrM.tr FrM.rf F_1046 (by decide)), (fun j hj => (hp_1047 j (fun h9 => hj ((by decide : ∀ x ∈ ([6, 8, 9, 10, 11, 12, 13, 15, 16, 17, 18, 22, 29, 31, 32, 34, 35, 36, 37, 39] : List Int), x ∈ ([6, 8, 9, 10, 11, 12, 13, 15, 16, 17, 18, 22, 29, 31, 32, 34, 35, 36, 37, 39] : List Int)) j h9)))), hp_1048, (by (repeat' apply And.intro) <;> omega), (by (repeat' apply And.intro) <;> omega), (by (repeat' apply And.intro) <;> omega), ⟨by omega, ((hp_1052 ()).2)⟩, (by (repeat' apply And.intro) <;> omega), (by (repeat' apply And.intro) <;> omega), (fun j hj => (hwk_1063 j (by omega))), (by (repeat' apply And.intro) <;> omega), (by (repeat' apply And.intro) <;> omega), (fun _ _ h0 => (hey_1064 () h0)), hxt_1062, (by (repeat' apply And.intro) <;> omega), (fun _ h1 => absurd h1 (by decide))⟩
      · refine lv_aload_n hx hb dX12_own_270 rfl (lv_at hl 0 rfl) ?_
        refine xc_vV G (b := 111) (rest := []) (As := []) (c_X12_next ω l μ  hPM (by (repeat' apply And.intro) <;> omega) (by (repeat' apply And.intro) <;> omega)) (wm 9 0 rfl rfl) (wm 9 2 rfl rfl) (wm 0 119 rfl rfl) rfl rfl (by decide) rfl (wm 1 18 rfl rfl) (wm 9 3 rfl rfl) (by decide) hR ⟨nfB hF (by decide), nlB hLo (by decide)⟩ (n := 0) rfl rfl (Nat.le_of_ble_eq_true rfl) hl.1 dX12_own_271 (fun μ1096 ρ d0 H locs hp G => ?_)
        obtain ⟨F_1097, hp_1098, hp_1099, hp_1100, hp_1101, hp_1102⟩ := hp
        have hpl_1103 := hp_1099.pl
        have hw_1104 := wr_r (μ := μ1096)
        have vl_1105 := hp_1100
        replace hp_1100 := fun _ : Unit => hp_1100
        have vl_1106 := hp_1101
        replace hp_1101 := fun _ : Unit => hp_1101
        have vl_1107 := hp_1102
        replace hp_1102 := fun _ : Unit => hp_1102
        obtain ⟨hv_1110, hv_1111, hv_1112, hv_1113, hv_1114, hv_1115, hv_1116, hv_1117, hv_1118, hv_1119, hv_1120, hv_1121, hv_1122, hv_1123, hv_1124, hv_1125, hv_1126, hv_1127⟩ : μ.1 111 22 ≤ μ.1 111 22 ∧ μ.1 111 22 ≤ μ.1 111 22 + 2 * (μ1096.1 111 9 - μ.1 111 9) + 8 * (nn μ1096 - nn μ) - 2 + -6 * wr μ1096 ∧ μ.1 111 9 + 1 ≤ μ1096.1 111 9 ∧ nn μ + 0 ≤ nn μ1096 ∧ nn μ1096 ≤ nn μ + 0 + 9 * wr μ1096 ∧ nn μ1096 ≤ 8 + wr μ1096 ∧ 9 * wr μ1096 ≤ nn μ1096 ∧ nn μ1096 ≤ 9 ∧ wr μ ≤ wr μ1096 ∧ wr μ1096 ≤ 1 ∧ wr μ1096 ≤ bd μ1096 ∧ bd μ1096 ≤ 1 ∧ μ.1 111 29 ≤ μ.1 111 29 ∧ μ.1 111 31 ≤ μ.1 111 31 ∧ μ.1 111 31 ≤ 300 ∧ 0 ≤ μ.1 111 32 ∧ μ.1 111 32 ≤ μ1096.1 111 9 ∧ μ1096.1 111 9 ≤ 3000 := by (repeat' apply And.intro) <;> omega
        clear hpl_1103 hw_1104 vl_1105 vl_1106 vl_1107
        refine lv_aload_n hx hb dX12_own_274 rfl (lv_at hl 0 rfl) ?_
        have hw_1128 := wr_r (μ := μ1096)
        have e_1129 : μ1096.1 111 29 = μ.1 111 29 := (hp_1098 29 (by decide))
        refine xc_iV G (b := 111) (rest := []) (As := []) (c_X12_takesKind ω l μ1096  hp_1099 (by (repeat' apply And.intro) <;> omega)) (wm 9 203 rfl rfl) (wm 9 205 rfl rfl) (wm 0 163 rfl rfl) rfl rfl (by decide) rfl (wm 1 18 rfl rfl) (wm 9 206 rfl rfl) (by decide) hR ⟨nfB hF (by decide), nlB hLo (by decide)⟩ (n := 0) rfl rfl (Nat.le_of_ble_eq_true rfl) hl.1 dX12_own_275 (fun r_1131 μ1130 ρ d0 H locs hr_r_1131 hp G => ?_)
        have hr_r_1131 : -2147483648 ≤ r_1131 ∧ r_1131 ≤ 2147483647 := hr_r_1131
        obtain ⟨F_1132, hp_1133, hp_1134, hp_1135, hp_1136, hp_1137, hp_1138, hp_1139, hp_1140⟩ := hp
        have hpl_1141 := hp_1134.pl
        have hw_1142 := wr_r (μ := μ1130)
        have hks_r_1131 : 1 ≤ r_1131 := by omega
        have vl_1143 := hp_1136
        replace hp_1136 := fun _ : Unit => hp_1136
        have vl_1144 := hp_1137
        replace hp_1137 := fun _ : Unit => hp_1137
        have vl_1145 := hp_1138
        replace hp_1138 := fun _ : Unit => hp_1138
        have vl_1146 := hp_1139
        replace hp_1139 := fun _ : Unit => hp_1139
        have vl_1147 := hp_1140
        replace hp_1140 := fun _ : Unit => hp_1140
        obtain ⟨hv_1150, hv_1151, hv_1152, hv_1153, hv_1154, hv_1155, hv_1156, hv_1157, hv_1158, hv_1159, hv_1160, hv_1161, hv_1162, hv_1163, hv_1164, hv_1165, hv_1166, hv_1167, hv_1168⟩ : μ.1 111 22 ≤ μ.1 111 22 ∧ μ.1 111 22 ≤ μ.1 111 22 + 2 * (μ1130.1 111 9 - μ.1 111 9) + 8 * (nn μ1130 - nn μ) - 4 + -4 * wr μ1130 ∧ μ.1 111 9 + 1 ≤ μ1130.1 111 9 ∧ nn μ + 0 ≤ nn μ1130 ∧ nn μ1130 ≤ nn μ + 0 + 9 * wr μ1130 ∧ nn μ1130 ≤ 8 + wr μ1130 ∧ 9 * wr μ1130 ≤ nn μ1130 ∧ nn μ1130 ≤ 9 ∧ wr μ ≤ wr μ1130 ∧ wr μ1130 ≤ 1 ∧ wr μ1130 ≤ bd μ1130 ∧ bd μ1130 ≤ 1 ∧ r_1131 + 1 ≤ μ1130.1 111 29 ∧ μ.1 111 29 ≤ μ1130.1 111 29 ∧ μ.1 111 31 ≤ μ.1 111 31 ∧ μ.1 111 31 ≤ 300 ∧ 0 ≤ μ.1 111 32 ∧ μ.1 111 32 ≤ μ1130.1 111 9 ∧ μ1130.1 111 9 ≤ 3000 := by (repeat' apply And.intro) <;> omega
        clear hv_1110 hv_1111 hv_1112 hv_1113 hv_1114 hv_1115 hv_1116 hv_1117 hv_1118 hv_1119 hv_1120 hv_1121 hv_1122 hv_1123 hv_1124 hv_1125 hv_1126 hv_1127 hw_1128 e_1129 hpl_1141 hw_1142 vl_1143 vl_1144 vl_1145 vl_1146 vl_1147
        refine lv_istore_n (lv' := [(1, .int (iv r_1131)), (0, .ref (oP ω 111))]) hx hb dX12_own_278 rfl hl (by decide) rfl (fun ls hl => ?_)
        refine lv_aload_n hx hb dX12_own_279 rfl (lv_at hl 1 rfl) ?_
        have hw_1169 := wr_r (μ := μ1130)
        refine xc_lV G (b := 111) (rest := []) (As := []) (c_X12_takesName ω l μ1130  hp_1134 (by (repeat' apply And.intro) <;> omega)) (wm 9 70 rfl rfl) (wm 9 72 rfl rfl) (wm 0 130 rfl rfl) rfl rfl (by decide) rfl (wm 1 18 rfl rfl) (wm 9 73 rfl rfl) (by decide) hR ⟨nfB hF (by decide), nlB hLo (by decide)⟩ (n := 0) rfl rfl (Nat.le_of_ble_eq_true rfl) hl.1 dX12_own_280 (fun r_1171 μ1170 ρ d0 H locs hr_r_1171 hp G => ?_)
        obtain ⟨F_1172, hp_1173, hp_1174, hp_1175, hp_1176, hp_1177, hp_1178⟩ := hp
        have hpl_1179 := hp_1174.pl
        have hw_1180 := wr_r (μ := μ1170)
        have vl_1181 := hp_1175
        replace hp_1175 := fun _ : Unit => hp_1175
        have vl_1182 := hp_1176
        replace hp_1176 := fun _ : Unit => hp_1176
        have vl_1183 := hp_1177
        replace hp_1177 := fun _ : Unit => hp_1177
        have vl_1184 := hp_1178
        replace hp_1178 := fun _ : Unit => hp_1178
        obtain ⟨hv_1187, hv_1188, hv_1189, hv_1190, hv_1191, hv_1192, hv_1193, hv_1194, hv_1195, hv_1196, hv_1197, hv_1198, hv_1199, hv_1200, hv_1201, hv_1202, hv_1203, hv_1204, hv_1205⟩ : μ.1 111 22 ≤ μ.1 111 22 ∧ μ.1 111 22 ≤ μ.1 111 22 + 2 * (μ1170.1 111 9 - μ.1 111 9) + 8 * (nn μ1170 - nn μ) - 6 + -2 * wr μ1170 ∧ μ.1 111 9 + 1 ≤ μ1170.1 111 9 ∧ nn μ + 0 ≤ nn μ1170 ∧ nn μ1170 ≤ nn μ + 0 + 9 * wr μ1170 ∧ nn μ1170 ≤ 8 + wr μ1170 ∧ 9 * wr μ1170 ≤ nn μ1170 ∧ nn μ1170 ≤ 9 ∧ wr μ ≤ wr μ1170 ∧ wr μ1170 ≤ 1 ∧ wr μ1170 ≤ bd μ1170 ∧ bd μ1170 ≤ 1 ∧ r_1131 + 1 ≤ μ1130.1 111 29 ∧ μ.1 111 29 ≤ μ1130.1 111 29 ∧ μ.1 111 31 ≤ μ.1 111 31 ∧ μ.1 111 31 ≤ 300 ∧ 0 ≤ μ.1 111 32 ∧ μ.1 111 32 ≤ μ1170.1 111 9 ∧ μ1170.1 111 9 ≤ 3000 := by (repeat' apply And.intro) <;> omega
        clear hv_1150 hv_1151 hv_1152 hv_1153 hv_1154 hv_1155 hv_1156 hv_1157 hv_1158 hv_1159 hv_1160 hv_1161 hv_1162 hv_1163 hv_1164 hv_1165 hv_1166 hv_1167 hv_1168 hw_1169 hpl_1179 hw_1180 vl_1181 vl_1182 vl_1183 vl_1184
        refine lv_lstore_n (lv' := [(2, .long (jv r_1171)), (1, .int (iv r_1131)), (0, .ref (oP ω 111))]) hx hb dX12_own_283 rfl hl (by decide) rfl (fun ls hl => ?_)
        refine lv_aload_n hx hb dX12_own_284 rfl (lv_at hl 2 rfl) ?_
        have hw_1206 := wr_r (μ := μ1170)
        refine xc_iV G (b := 111) (rest := []) (As := []) (c_X12_isWrong ω l μ1170  ) (wm 9 4 rfl rfl) (wm 9 6 rfl rfl) (wm 0 120 rfl rfl) rfl rfl (by decide) rfl (wm 1 18 rfl rfl) (wm 9 7 rfl rfl) (by decide) hR ⟨nfB hF (by decide), nlB hLo (by decide)⟩ (n := 0) rfl rfl (Nat.le_of_ble_eq_true rfl) hl.1 dX12_own_285 (fun r_1208 μ1207 ρ d0 H locs hr_r_1208 hp G => ?_)
        have hr_r_1208 : -2147483648 ≤ r_1208 ∧ r_1208 ≤ 2147483647 := hr_r_1208
        obtain ⟨hsm_1209, hp_1210⟩ := hp
        have hsm_1209 := Eq.symm hsm_1209
        subst hsm_1209
        refine xb_if_eq (tgt := 295) hx hb (by unfold ir; exact ⟨by omega, by omega⟩) dX12_own_288 (by decide) (fun c_288 => ?_) (fun c_288 => ?_)
        · refine lv_aload_n hx hb dX12_own_295 rfl (lv_at hl 2 rfl) ?_
          refine lv_lload_n hx hb dX12_own_296 rfl (lv_at hl 0 rfl) ?_
          have e_1211 : μ1170.1 111 31 = μ.1 111 31 := ((hp_1173 31 (by decide)).trans ((hp_1133 31 (by decide)).trans (hp_1098 31 (by decide))))
          refine xc_iV G (b := 111) (rest := []) (As := [.long (jv r_1171)]) (c_X12_anySlot ω l μ1170 r_1171 hr_r_1171 (by (repeat' apply And.intro) <;> omega)) (wm 9 135 rfl rfl) (wm 9 137 rfl rfl) (wm 0 146 rfl rfl) rfl rfl (by decide) rfl (wm 1 18 rfl rfl) (wm 9 138 rfl rfl) (by decide) hR ⟨nfB hF (by decide), nlB hLo (by decide)⟩ (n := 1) rfl rfl (Nat.le_of_ble_eq_true rfl) hl.1 dX12_own_297 (fun r_1215 μ1214 ρ d0 H locs hr_r_1215 hp G => ?_)
          have hr_r_1215 : -2147483648 ≤ r_1215 ∧ r_1215 ≤ 2147483647 := hr_r_1215
          obtain ⟨F_1216, hp_1217, hp_1218, hp_1219⟩ := hp
          have vl_1220 := hp_1219
          replace hp_1219 := fun _ : Unit => hp_1219
          obtain ⟨hv_1223, hv_1224, hv_1225, hv_1226, hv_1227, hv_1228, hv_1229, hv_1230, hv_1231, hv_1232, hv_1233, hv_1234, hv_1235, hv_1236, hv_1237, hv_1238, hv_1239, hv_1240, hv_1241⟩ : μ.1 111 22 ≤ μ.1 111 22 ∧ μ.1 111 22 ≤ μ.1 111 22 + 2 * (μ1170.1 111 9 - μ.1 111 9) + 8 * (nn μ1170 - nn μ) - 6 + -2 * wr μ1170 ∧ μ.1 111 9 + 1 ≤ μ1170.1 111 9 ∧ nn μ + 0 ≤ nn μ1170 ∧ nn μ1170 ≤ nn μ + 0 + 9 * wr μ1170 ∧ nn μ1170 ≤ 8 + wr μ1170 ∧ 9 * wr μ1170 ≤ nn μ1170 ∧ nn μ1170 ≤ 9 ∧ wr μ ≤ wr μ1170 ∧ wr μ1170 ≤ 1 ∧ wr μ1170 ≤ bd μ1170 ∧ bd μ1170 ≤ 1 ∧ r_1131 + 1 ≤ μ1130.1 111 29 ∧ μ.1 111 29 ≤ μ1130.1 111 29 ∧ μ.1 111 31 ≤ μ1214.1 111 31 ∧ μ1214.1 111 31 ≤ 300 ∧ 0 ≤ μ.1 111 32 ∧ μ.1 111 32 ≤ μ1170.1 111 9 ∧ μ1170.1 111 9 ≤ 3000 := by (repeat' apply And.intro) <;> omega
          clear hv_1187 hv_1188 hv_1189 hv_1190 hv_1191 hv_1192 hv_1193 hv_1194 hv_1195 hv_1196 hv_1197 hv_1198 hv_1199 hv_1200 hv_1201 hv_1202 hv_1203 hv_1204 hv_1205 hw_1206 e_1211 vl_1220
          refine lv_istore (lv' := [(4, .int (iv r_1215)), (2, .long (jv r_1171)), (1, .int (iv r_1131)), (0, .ref (oP ω 111))]) hx hb dX12_own_300 hl (by decide) rfl (fun ls hl => ?_)
          refine lv_aload_n hx hb dX12_own_302 rfl (lv_at hl 3 rfl) ?_
          refine lv_bipush (v := iv 21) hx hb dX12_own_303 rfl ?_
          refine lv_lconst (v := jv 0) hx hb dX12_own_305 rfl ?_
          refine lv_iload_n hx hb dX12_own_306 rfl (lv_at hl 2 rfl) ?_
          have hq_1242 : ∀ _ : Unit, q0m μ μ1214 := fun _ => (q0m.fr (K := [111, 124, 113, 123]) (FrM.tr (FrM.tr (FrM.tr (FrM.tr FrM.rf F_1097 (by decide)) F_1132 (by decide)) F_1172 (by decide)) F_1216 (by decide)) (by decide) (by decide) (by decide) ((hp_1217 22 (by decide)).trans ((hp_1173 22 (by decide)).trans ((hp_1133 22 (by decide)).trans (hp_1098 22 (by decide))))) (nS.le (Int.le_trans (Int.le_trans (Int.le_trans (Int.le_of_eq (hp_1098 29 (by decide)).symm) (hp_1136 ())) (Int.le_of_eq (hp_1173 29 (by decide)).symm)) (Int.le_of_eq (hp_1217 29 (by decide)).symm)) (Int.le_trans (Int.le_trans (Int.le_trans (Int.le_of_eq (hp_1098 31 (by decide)).symm) (Int.le_of_eq (hp_1133 31 (by decide)).symm)) (Int.le_of_eq (hp_1173 31 (by decide)).symm)) ((hp_1219 ()).1))))
          have e_1243 : wr μ1214 = wr μ1170 := (wr_cg (hp_1217 15 (by decide)))
          have hw_1244 := wr_r (μ := μ1170)
          have e_1245 : bd μ1214 = bd μ1170 := (bd_cg (hp_1217 15 (by decide)) (hp_1217 16 (by decide)) (hp_1217 17 (by decide)))
          have e_1246 : nn μ1214 = nn μ1170 := (nn_cg (hp_1217 15 (by decide)) (hp_1217 18 (by decide)))
          have hht_1247 : ∀ _ : Unit, bd μ1214 = 0 → mHt μ1214 0 := fun _ h0 => (hht_0 () (bd_z (Int.le_trans (Int.le_trans (Int.le_trans ((hp_1101 ()).2) ((hp_1139 ()).2)) ((hp_1177 ()).2)) (Int.le_of_eq (bd_cg (hp_1217 15 (by decide)) (hp_1217 16 (by decide)) (hp_1217 17 (by decide))).symm)) h0)).qm (hq_1242 ())
          have e_1248 : μ1214.1 111 29 = μ1130.1 111 29 := ((hp_1217 29 (by decide)).trans (hp_1173 29 (by decide)))
          have hxt_1249 : mEXT μ μ1214 := (q0m.fr (K := [111, 124, 113, 123]) (FrM.tr (FrM.tr (FrM.tr (FrM.tr FrM.rf F_1097 (by decide)) F_1132 (by decide)) F_1172 (by decide)) F_1216 (by decide)) (by decide) (by decide) (by decide) ((hp_1217 22 (by decide)).trans ((hp_1173 22 (by decide)).trans ((hp_1133 22 (by decide)).trans (hp_1098 22 (by decide))))) (nS.le (Int.le_trans (Int.le_trans (Int.le_trans (Int.le_of_eq (hp_1098 29 (by decide)).symm) (hp_1136 ())) (Int.le_of_eq (hp_1173 29 (by decide)).symm)) (Int.le_of_eq (hp_1217 29 (by decide)).symm)) (Int.le_trans (Int.le_trans (Int.le_trans (Int.le_of_eq (hp_1098 31 (by decide)).symm) (Int.le_of_eq (hp_1133 31 (by decide)).symm)) (Int.le_of_eq (hp_1173 31 (by decide)).symm)) ((hp_1219 ()).1)))).1
          have e_1250 : μ1214.1 111 22 = μ.1 111 22 := ((hp_1217 22 (by decide)).trans ((hp_1173 22 (by decide)).trans ((hp_1133 22 (by decide)).trans (hp_1098 22 (by decide)))))
          refine xc_iV G (b := 111) (rest := []) (As := [.int (iv 21), .long (jv 0), .int (iv r_1131)]) (c_X12_emit ω l μ1214 21 0 r_1131 (by unfold ir; decide) (by unfold jr; omega) (by unfold ir; exact ⟨by omega, by omega⟩) (by (repeat' apply And.intro) <;> omega)) (wm 9 126 rfl rfl) (wm 9 128 rfl rfl) (wm 0 144 rfl rfl) rfl rfl (by decide) rfl (wm 1 18 rfl rfl) (wm 9 129 rfl rfl) (by decide) hR ⟨nfB hF (by decide), nlB hLo (by decide)⟩ (n := 3) rfl rfl (Nat.le_of_ble_eq_true rfl) hl.1 dX12_own_307 (fun r_1255 μ1254 ρ d0 H locs hr_r_1255 hp G => ?_)
          have hr_r_1255 : -2147483648 ≤ r_1255 ∧ r_1255 ≤ 2147483647 := hr_r_1255
          obtain ⟨F_1256, hp_1257, hp_1258, hp_1259, hp_1260⟩ := hp
          have hxt_1261 : mEXT μ μ1254 := hxt_1249.tr hp_1258.1
          have hht_1262 : ∀ _ : Unit, bd μ1254 = 0 → mHt μ1254 0 := fun _ h0 => (hht_1247 () (bd_z (Int.le_of_eq (bd_cg (hp_1257 15 (by decide)) (hp_1257 16 (by decide)) (hp_1257 17 (by decide))).symm) h0)).ad hp_1258 rfl
          have hps_r_1255 : μ.1 111 22 ≤ r_1255 := by omega
          have vl_1263 := hp_1260
          replace hp_1260 := fun _ : Unit => hp_1260
          obtain ⟨hv_1266, hv_1267, hv_1268, hv_1269, hv_1270, hv_1271, hv_1272, hv_1273, hv_1274, hv_1275, hv_1276, hv_1277, hv_1278, hv_1279, hv_1280, hv_1281, hv_1282, hv_1283, hv_1284, hv_1285⟩ : μ.1 111 22 ≤ μ1254.1 111 22 ∧ μ1254.1 111 22 ≤ μ.1 111 22 + 2 * (μ1170.1 111 9 - μ.1 111 9) + 8 * (nn μ1170 - nn μ) - 5 + -2 * wr μ1170 ∧ μ.1 111 9 + 1 ≤ μ1170.1 111 9 ∧ nn μ + 0 ≤ nn μ1170 ∧ nn μ1170 ≤ nn μ + 0 + 9 * wr μ1170 ∧ nn μ1170 ≤ 8 + wr μ1170 ∧ 9 * wr μ1170 ≤ nn μ1170 ∧ nn μ1170 ≤ 9 ∧ wr μ ≤ wr μ1170 ∧ wr μ1170 ≤ 1 ∧ wr μ1170 ≤ bd μ1170 ∧ bd μ1170 ≤ 1 ∧ r_1255 + 1 ≤ μ1254.1 111 22 ∧ r_1131 + 1 ≤ μ1130.1 111 29 ∧ μ.1 111 29 ≤ μ1130.1 111 29 ∧ μ.1 111 31 ≤ μ1214.1 111 31 ∧ μ1214.1 111 31 ≤ 300 ∧ 0 ≤ μ.1 111 32 ∧ μ.1 111 32 ≤ μ1170.1 111 9 ∧ μ1170.1 111 9 ≤ 3000 := by (repeat' apply And.intro) <;> omega
          clear hv_1223 hv_1224 hv_1225 hv_1226 hv_1227 hv_1228 hv_1229 hv_1230 hv_1231 hv_1232 hv_1233 hv_1234 hv_1235 hv_1236 hv_1237 hv_1238 hv_1239 hv_1240 hv_1241 e_1243 hw_1244 e_1245 e_1246 e_1248 e_1250 vl_1263
          refine lv_istore (lv' := [(5, .int (iv r_1255)), (4, .int (iv r_1215)), (2, .long (jv r_1171)), (1, .int (iv r_1131)), (0, .ref (oP ω 111))]) hx hb dX12_own_310 hl (by decide) rfl (fun ls hl => ?_)
          refine lv_aload_n hx hb dX12_own_312 rfl (lv_at hl 4 rfl) ?_
          refine lv_bipush (v := iv 13) hx hb dX12_own_313 rfl ?_
          refine lv_iload hx hb dX12_own_315 (lv_at hl 1 rfl) ?_
          refine xb_i2l hx hb (by unfold ir; exact ⟨by omega, by omega⟩) dX12_own_317 ?_
          refine lv_iconst (v := iv 0) hx hb dX12_own_318 rfl ?_
          have e_1286 : μ1254.1 111 29 = μ1130.1 111 29 := ((hp_1257 29 (by decide)).trans ((hp_1217 29 (by decide)).trans (hp_1173 29 (by decide))))
          refine xc_iV G (b := 111) (rest := []) (As := [.int (iv 13), .long (jv r_1215), .int (iv 0)]) (c_X12_emit ω l μ1254 13 r_1215 0 (by unfold ir; decide) (by unfold jr; omega) (by unfold ir; decide) (by (repeat' apply And.intro) <;> omega)) (wm 9 126 rfl rfl) (wm 9 128 rfl rfl) (wm 0 144 rfl rfl) rfl rfl (by decide) rfl (wm 1 18 rfl rfl) (wm 9 129 rfl rfl) (by decide) hR ⟨nfB hF (by decide), nlB hLo (by decide)⟩ (n := 3) rfl rfl (Nat.le_of_ble_eq_true rfl) hl.1 dX12_own_319 (fun r_1288 μ1287 ρ d0 H locs hr_r_1288 hp G => ?_)
          have hr_r_1288 : -2147483648 ≤ r_1288 ∧ r_1288 ≤ 2147483647 := hr_r_1288
          obtain ⟨F_1289, hp_1290, hp_1291, hp_1292, hp_1293⟩ := hp
          have hxt_1294 : mEXT μ μ1287 := hxt_1261.tr hp_1291.1
          have hht_1295 : ∀ _ : Unit, bd μ1287 = 0 → mHt μ1287 0 := fun _ h0 => (hht_1262 () (bd_z (Int.le_of_eq (bd_cg (hp_1290 15 (by decide)) (hp_1290 16 (by decide)) (hp_1290 17 (by decide))).symm) h0)).ad hp_1291 rfl
          have vl_1296 := hp_1293
          replace hp_1293 := fun _ : Unit => hp_1293
          have hw_1297 := wr_r (μ := μ1170)
          obtain ⟨hv_1299, hv_1300, hv_1301, hv_1302, hv_1303, hv_1304, hv_1305, hv_1306, hv_1307, hv_1308, hv_1309, hv_1310, hv_1311, hv_1312, hv_1313, hv_1314, hv_1315, hv_1316, hv_1317, hv_1318⟩ : μ.1 111 22 ≤ μ1287.1 111 22 ∧ μ1287.1 111 22 ≤ μ.1 111 22 + 2 * (μ1170.1 111 9 - μ.1 111 9) + 8 * (nn μ1170 - nn μ) - 4 + -2 * wr μ1170 ∧ μ.1 111 9 + 1 ≤ μ1170.1 111 9 ∧ nn μ + 0 ≤ nn μ1170 ∧ nn μ1170 ≤ nn μ + 0 + 9 * wr μ1170 ∧ nn μ1170 ≤ 8 + wr μ1170 ∧ 9 * wr μ1170 ≤ nn μ1170 ∧ nn μ1170 ≤ 9 ∧ wr μ ≤ wr μ1170 ∧ wr μ1170 ≤ 1 ∧ wr μ1170 ≤ bd μ1170 ∧ bd μ1170 ≤ 1 ∧ r_1255 + 1 ≤ μ1287.1 111 22 ∧ r_1131 + 1 ≤ μ1130.1 111 29 ∧ μ.1 111 29 ≤ μ1130.1 111 29 ∧ μ.1 111 31 ≤ μ1214.1 111 31 ∧ μ1214.1 111 31 ≤ 300 ∧ 0 ≤ μ.1 111 32 ∧ μ.1 111 32 ≤ μ1170.1 111 9 ∧ μ1170.1 111 9 ≤ 3000 := by (repeat' apply And.intro) <;> omega
          clear hv_1266 hv_1267 hv_1268 hv_1269 hv_1270 hv_1271 hv_1272 hv_1273 hv_1274 hv_1275 hv_1276 hv_1277 hv_1278 hv_1279 hv_1280 hv_1281 hv_1282 hv_1283 hv_1284 hv_1285 e_1286 vl_1296 hw_1297
          refine lv_pop hx hb dX12_own_322 rfl ?_
          refine lv_aload_n hx hb dX12_own_323 rfl (lv_at hl 4 rfl) ?_
          refine lv_iload hx hb dX12_own_324 (lv_at hl 0 rfl) ?_
          refine lv_bipush (v := iv 20) hx hb dX12_own_326 rfl ?_
          have e_1319 : μ1287.1 111 29 = μ1130.1 111 29 := ((hp_1290 29 (by decide)).trans ((hp_1257 29 (by decide)).trans ((hp_1217 29 (by decide)).trans (hp_1173 29 (by decide)))))
          have e_1320 : μ1287.1 111 14 = tt := ((hp_1290 14 (by decide)).trans ((hp_1257 14 (by decide)).trans ((hp_1217 14 (by decide)).trans ((hp_1173 14 (by decide)).trans ((hp_1133 14 (by decide)).trans ((hp_1098 14 (by decide)).trans htt.symm))))))
          have hPM_1321 : PM μ1287 := hp_1174.cg ((((hp_1290 4 (by decide)).trans ((hp_1257 4 (by decide)).trans ((hp_1217 4 (by decide)).trans ((hp_1173 4 (by decide)).trans ((hp_1133 4 (by decide)).trans (hp_1098 4 (by decide)))))))).trans (((hp_1173 4 (by decide)).trans ((hp_1133 4 (by decide)).trans (hp_1098 4 (by decide))))).symm) ((hp_1290 6 (by decide)).trans ((hp_1257 6 (by decide)).trans (hp_1217 6 (by decide)))) ((((hp_1290 7 (by decide)).trans ((hp_1257 7 (by decide)).trans ((hp_1217 7 (by decide)).trans ((hp_1173 7 (by decide)).trans ((hp_1133 7 (by decide)).trans (hp_1098 7 (by decide)))))))).trans (((hp_1173 7 (by decide)).trans ((hp_1133 7 (by decide)).trans (hp_1098 7 (by decide))))).symm) ((hp_1290 8 (by decide)).trans ((hp_1257 8 (by decide)).trans (hp_1217 8 (by decide)))) ((hp_1290 9 (by decide)).trans ((hp_1257 9 (by decide)).trans (hp_1217 9 (by decide)))) ((hp_1290 11 (by decide)).trans ((hp_1257 11 (by decide)).trans (hp_1217 11 (by decide)))) ((hp_1290 12 (by decide)).trans ((hp_1257 12 (by decide)).trans (hp_1217 12 (by decide)))) ((((hp_1290 14 (by decide)).trans ((hp_1257 14 (by decide)).trans ((hp_1217 14 (by decide)).trans ((hp_1173 14 (by decide)).trans ((hp_1133 14 (by decide)).trans ((hp_1098 14 (by decide)).trans htt.symm))))))).trans (((hp_1173 14 (by decide)).trans ((hp_1133 14 (by decide)).trans ((hp_1098 14 (by decide)).trans htt.symm)))).symm) ((hp_1290 15 (by decide)).trans ((hp_1257 15 (by decide)).trans (hp_1217 15 (by decide)))) ((((hp_1290 29 (by decide)).trans ((hp_1257 29 (by decide)).trans ((hp_1217 29 (by decide)).trans (hp_1173 29 (by decide)))))).trans ((hp_1173 29 (by decide))).symm) (fun j => ((F_1289.1 123 (by decide) j).trans ((F_1256.1 123 (by decide) j).trans (F_1216.1 123 (by decide) j))))
          have e_1322 : wr μ1287 = wr μ1170 := ((wr_cg (hp_1290 15 (by decide))).trans ((wr_cg (hp_1257 15 (by decide))).trans (wr_cg (hp_1217 15 (by decide)))))
          have hw_1323 := wr_r (μ := μ1170)
          have e_1324 : nn μ1287 = nn μ1170 := ((nn_cg (hp_1290 15 (by decide)) (hp_1290 18 (by decide))).trans ((nn_cg (hp_1257 15 (by decide)) (hp_1257 18 (by decide))).trans (nn_cg (hp_1217 15 (by decide)) (hp_1217 18 (by decide)))))
          have e_1327 : μ1287.1 111 9 = μ1170.1 111 9 := ((hp_1290 9 (by decide)).trans ((hp_1257 9 (by decide)).trans (hp_1217 9 (by decide))))
          have e_1329 : μ1287.1 111 39 = μ.1 111 39 := ((hp_1290 39 (by decide)).trans ((hp_1257 39 (by decide)).trans ((hp_1217 39 (by decide)).trans ((hp_1173 39 (by decide)).trans ((hp_1133 39 (by decide)).trans (hp_1098 39 (by decide)))))))
          have e_1331 : μ1287.1 111 31 = μ1214.1 111 31 := ((hp_1290 31 (by decide)).trans (hp_1257 31 (by decide)))
          have e_1333 : μ1287.1 111 32 = μ.1 111 32 := ((hp_1290 32 (by decide)).trans ((hp_1257 32 (by decide)).trans ((hp_1217 32 (by decide)).trans ((hp_1173 32 (by decide)).trans ((hp_1133 32 (by decide)).trans (hp_1098 32 (by decide)))))))
          have e_1343 : bd μ1287 = bd μ1170 := ((bd_cg (hp_1290 15 (by decide)) (hp_1290 16 (by decide)) (hp_1290 17 (by decide))).trans ((bd_cg (hp_1257 15 (by decide)) (hp_1257 16 (by decide)) (hp_1257 17 (by decide))).trans (bd_cg (hp_1217 15 (by decide)) (hp_1217 16 (by decide)) (hp_1217 17 (by decide)))))
          refine xc_vV G (b := 111) (rest := []) (As := [.int (iv r_1255), .int (iv 20)]) (c_X12_door ω l μ1287 r_1255 20 F Lo kf μ1214 μ tt (by unfold ir; exact ⟨by omega, by omega⟩) (by unfold ir; decide) (by (repeat' apply And.intro) <;> omega) hF hLo hK hPM_1321 (by (repeat' apply And.intro) <;> omega) (by (repeat' apply And.intro) <;> omega) (by (repeat' apply And.intro) <;> omega) (by (repeat' apply And.intro) <;> omega) (by (repeat' apply And.intro) <;> omega) (by (repeat' apply And.intro) <;> omega) (by (repeat' apply And.intro) <;> omega) (fun _ h0 => (mDO.opn ((hS1 () (bd_z (Int.le_trans (Int.le_trans (Int.le_trans (Int.le_trans (Int.le_trans ((hp_1101 ()).2) ((hp_1139 ()).2)) ((hp_1177 ()).2)) (Int.le_of_eq (bd_cg (hp_1217 15 (by decide)) (hp_1217 16 (by decide)) (hp_1217 17 (by decide))).symm)) (Int.le_of_eq (bd_cg (hp_1257 15 (by decide)) (hp_1257 16 (by decide)) (hp_1257 17 (by decide))).symm)) (Int.le_of_eq (bd_cg (hp_1290 15 (by decide)) (hp_1290 16 (by decide)) (hp_1290 17 (by decide))).symm)) h0)).qm (hq_1242 ())) hp_1258 hp_1291 (by omega) ⟨by omega, by omega⟩ (by omega)).e (by omega)) hxt_1294 (by (repeat' apply And.intro) <;> omega) (by (repeat' apply And.intro) <;> omega)) (wm 10 23 rfl rfl) (wm 10 25 rfl rfl) (wm 0 177 rfl rfl) rfl rfl (by decide) rfl (wm 1 18 rfl rfl) (wm 10 26 rfl rfl) (by decide) hR ⟨sfr (F := F) (a := 1) (by decide), slo (L := Lo) (m := 4) (a := 20) (by decide)⟩ (n := 2) rfl rfl (Nat.le_of_ble_eq_true rfl) hl.1 dX12_own_328 (fun μ1347 ρ d0 H locs hp G => ?_)
          obtain ⟨F_1348, hp_1349, hp_1350, hp_1351, hp_1352, hp_1353, hp_1354, hp_1355, hp_1356, hp_1357, hp_1358, hp_1359, hp_1360, hp_1361⟩ := hp
          have hpl_1362 := hp_1350.pl
          have hw_1363 := wr_r (μ := μ1347)
          have hw_1364 := wr_r (μ := μ1287)
          have hxt_1365 : mEXT μ μ1347 := hp_1361
          have hwk_1366 : ∀ j, j < μ.1 111 39 → μ1347.1 126 j = μ1287.1 126 j := fun j hj => hp_1357 j (by omega)
          have hey_1367 : ∀ _ : Unit, bd μ1347 = 0 → mEY μ1214 μ1347 tt (2 * (9 - nn μ)) := fun _ h0 => (hp_1360 () h0).mn (by omega)
          have vl_1368 := hp_1351
          replace hp_1351 := fun _ : Unit => hp_1351
          have vl_1369 := hp_1352
          replace hp_1352 := fun _ : Unit => hp_1352
          have vl_1370 := hp_1353
          replace hp_1353 := fun _ : Unit => hp_1353
          have vl_1371 := hp_1354
          replace hp_1354 := fun _ : Unit => hp_1354
          have vl_1372 := hp_1355
          replace hp_1355 := fun _ : Unit => hp_1355
          have vl_1373 := hp_1356
          replace hp_1356 := fun _ : Unit => hp_1356
          have vl_1374 := hp_1358
          replace hp_1358 := fun _ : Unit => hp_1358
          have vl_1375 := hp_1359
          replace hp_1359 := fun _ : Unit => hp_1359
          have h39_1376 : μ1347.1 111 39 = μ.1 111 39 := by omega
          obtain ⟨hv_1379, hv_1380, hv_1381, hv_1382, hv_1383, hv_1384, hv_1385, hv_1386, hv_1387, hv_1388, hv_1389, hv_1390, hv_1391, hv_1392, hv_1393, hv_1394, hv_1395, hv_1396, hv_1397, hv_1398⟩ : μ.1 111 22 ≤ μ1347.1 111 22 ∧ μ1347.1 111 22 ≤ μ.1 111 22 + 2 * (μ1347.1 111 9 - μ.1 111 9) + 8 * (nn μ1347 - nn μ) - 12 + 8 * wr μ1347 ∧ μ.1 111 9 + 1 ≤ μ1347.1 111 9 ∧ nn μ + 0 ≤ nn μ1347 ∧ nn μ1347 ≤ nn μ + 0 + 9 * wr μ1347 ∧ nn μ1347 ≤ 8 + wr μ1347 ∧ 9 * wr μ1347 ≤ nn μ1347 ∧ nn μ1347 ≤ 9 ∧ wr μ ≤ wr μ1347 ∧ wr μ1347 ≤ 1 ∧ wr μ1347 ≤ bd μ1347 ∧ bd μ1347 ≤ 1 ∧ r_1255 + 1 ≤ μ1347.1 111 22 ∧ r_1131 + 1 ≤ μ1347.1 111 29 ∧ μ.1 111 29 ≤ μ1347.1 111 29 ∧ μ.1 111 31 ≤ μ1347.1 111 31 ∧ μ1347.1 111 31 ≤ 300 ∧ 0 ≤ μ1347.1 111 32 ∧ μ1347.1 111 32 ≤ μ1347.1 111 9 ∧ μ1347.1 111 9 ≤ 3000 := by (repeat' apply And.intro) <;> omega
          clear hv_1299 hv_1300 hv_1301 hv_1302 hv_1303 hv_1304 hv_1305 hv_1306 hv_1307 hv_1308 hv_1309 hv_1310 hv_1311 hv_1312 hv_1313 hv_1314 hv_1315 hv_1316 hv_1317 hv_1318 e_1319 e_1320 e_1322 hw_1323 e_1324 e_1327 e_1329 e_1331 e_1333 e_1343 hpl_1362 hw_1363 hw_1364 vl_1368 vl_1369 vl_1370 vl_1371 vl_1372 vl_1373 vl_1374 vl_1375
          refine lv_goto (tgt := 360) hx hb dX12_own_331 (by decide) ?_
          refine lv_iconst (v := iv 1) hx hb dX12_own_360 rfl ?_
          have hw_1399 := wr_r (μ := μ1347)
          exact xr_i G (x := 1) hret hlk (by unfold ir; exact ⟨by omega, by omega⟩) (zr (by omega)) dX12_own_361 ⟨(FrM.tr (FrM.tr (FrM.tr (FrM.tr (FrM.tr (FrM.tr (FrM.tr FrM.rf F_1097 (by decide)) F_1132 (by decide)) F_1172 (by decide)) F_1216 (by decide)) F_1256 (by decide)) F_1289 (by decide)) F_1348 (by decide)), (fun j hj => ((hp_1349 j (fun h9 => hj ((by decide : ∀ x ∈ ([6, 8, 9, 10, 11, 12, 13, 15, 16, 17, 18, 22, 29, 31, 32, 34, 35, 36, 37, 39] : List Int), x ∈ ([6, 8, 9, 10, 11, 12, 13, 15, 16, 17, 18, 22, 29, 31, 32, 34, 35, 36, 37, 39] : List Int)) j h9))).trans ((hp_1290 j (fun h9 => hj ((by decide : ∀ x ∈ ([22] : List Int), x ∈ ([6, 8, 9, 10, 11, 12, 13, 15, 16, 17, 18, 22, 29, 31, 32, 34, 35, 36, 37, 39] : List Int)) j h9))).trans ((hp_1257 j (fun h9 => hj ((by decide : ∀ x ∈ ([22] : List Int), x ∈ ([6, 8, 9, 10, 11, 12, 13, 15, 16, 17, 18, 22, 29, 31, 32, 34, 35, 36, 37, 39] : List Int)) j h9))).trans ((hp_1217 j (fun h9 => hj ((by decide : ∀ x ∈ ([31] : List Int), x ∈ ([6, 8, 9, 10, 11, 12, 13, 15, 16, 17, 18, 22, 29, 31, 32, 34, 35, 36, 37, 39] : List Int)) j h9))).trans ((hp_1173 j (fun h9 => hj ((by decide : ∀ x ∈ ([6, 8, 9, 10, 11, 12, 13, 15] : List Int), x ∈ ([6, 8, 9, 10, 11, 12, 13, 15, 16, 17, 18, 22, 29, 31, 32, 34, 35, 36, 37, 39] : List Int)) j h9))).trans ((hp_1133 j (fun h9 => hj ((by decide : ∀ x ∈ ([6, 8, 9, 10, 11, 12, 13, 15, 16, 29] : List Int), x ∈ ([6, 8, 9, 10, 11, 12, 13, 15, 16, 17, 18, 22, 29, 31, 32, 34, 35, 36, 37, 39] : List Int)) j h9))).trans (hp_1098 j (fun h9 => hj ((by decide : ∀ x ∈ ([6, 8, 9, 10, 11, 12, 13, 15] : List Int), x ∈ ([6, 8, 9, 10, 11, 12, 13, 15, 16, 17, 18, 22, 29, 31, 32, 34, 35, 36, 37, 39] : List Int)) j h9)))))))))), hp_1350, (by (repeat' apply And.intro) <;> omega), (by (repeat' apply And.intro) <;> omega), (by (repeat' apply And.intro) <;> omega), ⟨by omega, (Int.le_trans (Int.le_trans (Int.le_trans (Int.le_trans (Int.le_trans (Int.le_trans ((hp_1101 ()).2) ((hp_1139 ()).2)) ((hp_1177 ()).2)) (Int.le_of_eq (bd_cg (hp_1217 15 (by decide)) (hp_1217 16 (by decide)) (hp_1217 17 (by decide))).symm)) (Int.le_of_eq (bd_cg (hp_1257 15 (by decide)) (hp_1257 16 (by decide)) (hp_1257 17 (by decide))).symm)) (Int.le_of_eq (bd_cg (hp_1290 15 (by decide)) (hp_1290 16 (by decide)) (hp_1290 17 (by decide))).symm)) ((hp_1354 ()).2))⟩, (by (repeat' apply And.intro) <;> omega), (by (repeat' apply And.intro) <;> omega), (fun j hj => ((hwk_1366 j (by omega)).trans ((F_1289.1 126 (by decide) j).trans ((F_1256.1 126 (by decide) j).trans ((F_1216.1 126 (by decide) j).trans ((F_1172.1 126 (by decide) j).trans ((F_1132.1 126 (by decide) j).trans (F_1097.1 126 (by decide) j)))))))), (by (repeat' apply And.intro) <;> omega), (by (repeat' apply And.intro) <;> omega), (fun _ _ h0 => mEY.ql (hq_1242 ()) ((hey_1367 () h0))), hxt_1365, (by (repeat' apply And.intro) <;> omega), (fun _ h1 => absurd h1 (by decide))⟩
        · have hb1_1400 : r_1208 = 1 := by omega
          replace c_288 := fun _ : Unit => c_288
          refine lv_iconst (v := iv 0) hx hb dX12_own_291 rfl ?_
          refine lv_goto (tgt := 300) hx hb dX12_own_292 (by decide) ?_
          refine lv_istore (lv' := [(4, .int (iv 0)), (2, .long (jv r_1171)), (1, .int (iv r_1131)), (0, .ref (oP ω 111))]) hx hb dX12_own_300 hl (by decide) rfl (fun ls hl => ?_)
          refine lv_aload_n hx hb dX12_own_302 rfl (lv_at hl 3 rfl) ?_
          refine lv_bipush (v := iv 21) hx hb dX12_own_303 rfl ?_
          refine lv_lconst (v := jv 0) hx hb dX12_own_305 rfl ?_
          refine lv_iload_n hx hb dX12_own_306 rfl (lv_at hl 2 rfl) ?_
          have hq_1401 : ∀ _ : Unit, q0m μ μ1170 := fun _ => (q0m.fr (K := [111, 113, 123]) (FrM.tr (FrM.tr (FrM.tr FrM.rf F_1097 (by decide)) F_1132 (by decide)) F_1172 (by decide)) (by decide) (by decide) (by decide) ((hp_1173 22 (by decide)).trans ((hp_1133 22 (by decide)).trans (hp_1098 22 (by decide)))) (nS.le (Int.le_trans (Int.le_trans (Int.le_of_eq (hp_1098 29 (by decide)).symm) (hp_1136 ())) (Int.le_of_eq (hp_1173 29 (by decide)).symm)) (Int.le_trans (Int.le_trans (Int.le_of_eq (hp_1098 31 (by decide)).symm) (Int.le_of_eq (hp_1133 31 (by decide)).symm)) (Int.le_of_eq (hp_1173 31 (by decide)).symm))))
          have hht_1402 : ∀ _ : Unit, bd μ1170 = 0 → mHt μ1170 0 := fun _ h0 => (hht_0 () (bd_z (Int.le_trans (Int.le_trans ((hp_1101 ()).2) ((hp_1139 ()).2)) ((hp_1177 ()).2)) h0)).qm (hq_1401 ())
          have e_1403 : μ1170.1 111 29 = μ1130.1 111 29 := (hp_1173 29 (by decide))
          have hxt_1404 : mEXT μ μ1170 := (q0m.fr (K := [111, 113, 123]) (FrM.tr (FrM.tr (FrM.tr FrM.rf F_1097 (by decide)) F_1132 (by decide)) F_1172 (by decide)) (by decide) (by decide) (by decide) ((hp_1173 22 (by decide)).trans ((hp_1133 22 (by decide)).trans (hp_1098 22 (by decide)))) (nS.le (Int.le_trans (Int.le_trans (Int.le_of_eq (hp_1098 29 (by decide)).symm) (hp_1136 ())) (Int.le_of_eq (hp_1173 29 (by decide)).symm)) (Int.le_trans (Int.le_trans (Int.le_of_eq (hp_1098 31 (by decide)).symm) (Int.le_of_eq (hp_1133 31 (by decide)).symm)) (Int.le_of_eq (hp_1173 31 (by decide)).symm)))).1
          have e_1405 : μ1170.1 111 22 = μ.1 111 22 := ((hp_1173 22 (by decide)).trans ((hp_1133 22 (by decide)).trans (hp_1098 22 (by decide))))
          refine xc_iV G (b := 111) (rest := []) (As := [.int (iv 21), .long (jv 0), .int (iv r_1131)]) (c_X12_emit ω l μ1170 21 0 r_1131 (by unfold ir; decide) (by unfold jr; omega) (by unfold ir; exact ⟨by omega, by omega⟩) (by (repeat' apply And.intro) <;> omega)) (wm 9 126 rfl rfl) (wm 9 128 rfl rfl) (wm 0 144 rfl rfl) rfl rfl (by decide) rfl (wm 1 18 rfl rfl) (wm 9 129 rfl rfl) (by decide) hR ⟨nfB hF (by decide), nlB hLo (by decide)⟩ (n := 3) rfl rfl (Nat.le_of_ble_eq_true rfl) hl.1 dX12_own_307 (fun r_1410 μ1409 ρ d0 H locs hr_r_1410 hp G => ?_)
          have hr_r_1410 : -2147483648 ≤ r_1410 ∧ r_1410 ≤ 2147483647 := hr_r_1410
          obtain ⟨F_1411, hp_1412, hp_1413, hp_1414, hp_1415⟩ := hp
          have hxt_1416 : mEXT μ μ1409 := hxt_1404.tr hp_1413.1
          have hht_1417 : ∀ _ : Unit, bd μ1409 = 0 → mHt μ1409 0 := fun _ h0 => (hht_1402 () (bd_z (Int.le_of_eq (bd_cg (hp_1412 15 (by decide)) (hp_1412 16 (by decide)) (hp_1412 17 (by decide))).symm) h0)).ad hp_1413 rfl
          have hps_r_1410 : μ.1 111 22 ≤ r_1410 := by omega
          have vl_1418 := hp_1415
          replace hp_1415 := fun _ : Unit => hp_1415
          obtain ⟨hv_1421, hv_1422, hv_1423, hv_1424, hv_1425, hv_1426, hv_1427, hv_1428, hv_1429, hv_1430, hv_1431, hv_1432, hv_1433, hv_1434, hv_1435, hv_1436, hv_1437, hv_1438, hv_1439, hv_1440⟩ : μ.1 111 22 ≤ μ1409.1 111 22 ∧ μ1409.1 111 22 ≤ μ.1 111 22 + 2 * (μ1170.1 111 9 - μ.1 111 9) + 8 * (nn μ1170 - nn μ) - 5 + -2 * wr μ1170 ∧ μ.1 111 9 + 1 ≤ μ1170.1 111 9 ∧ nn μ + 0 ≤ nn μ1170 ∧ nn μ1170 ≤ nn μ + 0 + 9 * wr μ1170 ∧ nn μ1170 ≤ 8 + wr μ1170 ∧ 9 * wr μ1170 ≤ nn μ1170 ∧ nn μ1170 ≤ 9 ∧ wr μ ≤ wr μ1170 ∧ wr μ1170 ≤ 1 ∧ wr μ1170 ≤ bd μ1170 ∧ bd μ1170 ≤ 1 ∧ r_1410 + 1 ≤ μ1409.1 111 22 ∧ r_1131 + 1 ≤ μ1130.1 111 29 ∧ μ.1 111 29 ≤ μ1130.1 111 29 ∧ μ.1 111 31 ≤ μ.1 111 31 ∧ μ.1 111 31 ≤ 300 ∧ 0 ≤ μ.1 111 32 ∧ μ.1 111 32 ≤ μ1170.1 111 9 ∧ μ1170.1 111 9 ≤ 3000 := by (repeat' apply And.intro) <;> omega
          clear hv_1187 hv_1188 hv_1189 hv_1190 hv_1191 hv_1192 hv_1193 hv_1194 hv_1195 hv_1196 hv_1197 hv_1198 hv_1199 hv_1200 hv_1201 hv_1202 hv_1203 hv_1204 hv_1205 hw_1206 e_1403 e_1405 vl_1418
          refine lv_istore (lv' := [(5, .int (iv r_1410)), (4, .int (iv 0)), (2, .long (jv r_1171)), (1, .int (iv r_1131)), (0, .ref (oP ω 111))]) hx hb dX12_own_310 hl (by decide) rfl (fun ls hl => ?_)
          refine lv_aload_n hx hb dX12_own_312 rfl (lv_at hl 4 rfl) ?_
          refine lv_bipush (v := iv 13) hx hb dX12_own_313 rfl ?_
          refine lv_iload hx hb dX12_own_315 (lv_at hl 1 rfl) ?_
          refine xb_i2l hx hb (by unfold ir; exact ⟨by omega, by omega⟩) dX12_own_317 ?_
          refine lv_iconst (v := iv 0) hx hb dX12_own_318 rfl ?_
          have e_1441 : μ1409.1 111 29 = μ1130.1 111 29 := ((hp_1412 29 (by decide)).trans (hp_1173 29 (by decide)))
          refine xc_iV G (b := 111) (rest := []) (As := [.int (iv 13), .long (jv 0), .int (iv 0)]) (c_X12_emit ω l μ1409 13 0 0 (by unfold ir; decide) (by unfold jr; omega) (by unfold ir; decide) (by (repeat' apply And.intro) <;> omega)) (wm 9 126 rfl rfl) (wm 9 128 rfl rfl) (wm 0 144 rfl rfl) rfl rfl (by decide) rfl (wm 1 18 rfl rfl) (wm 9 129 rfl rfl) (by decide) hR ⟨nfB hF (by decide), nlB hLo (by decide)⟩ (n := 3) rfl rfl (Nat.le_of_ble_eq_true rfl) hl.1 dX12_own_319 (fun r_1443 μ1442 ρ d0 H locs hr_r_1443 hp G => ?_)
          have hr_r_1443 : -2147483648 ≤ r_1443 ∧ r_1443 ≤ 2147483647 := hr_r_1443
          obtain ⟨F_1444, hp_1445, hp_1446, hp_1447, hp_1448⟩ := hp
          have hxt_1449 : mEXT μ μ1442 := hxt_1416.tr hp_1446.1
          have hht_1450 : ∀ _ : Unit, bd μ1442 = 0 → mHt μ1442 0 := fun _ h0 => (hht_1417 () (bd_z (Int.le_of_eq (bd_cg (hp_1445 15 (by decide)) (hp_1445 16 (by decide)) (hp_1445 17 (by decide))).symm) h0)).ad hp_1446 rfl
          have vl_1451 := hp_1448
          replace hp_1448 := fun _ : Unit => hp_1448
          have hw_1452 := wr_r (μ := μ1170)
          obtain ⟨hv_1454, hv_1455, hv_1456, hv_1457, hv_1458, hv_1459, hv_1460, hv_1461, hv_1462, hv_1463, hv_1464, hv_1465, hv_1466, hv_1467, hv_1468, hv_1469, hv_1470, hv_1471, hv_1472, hv_1473⟩ : μ.1 111 22 ≤ μ1442.1 111 22 ∧ μ1442.1 111 22 ≤ μ.1 111 22 + 2 * (μ1170.1 111 9 - μ.1 111 9) + 8 * (nn μ1170 - nn μ) - 4 + -2 * wr μ1170 ∧ μ.1 111 9 + 1 ≤ μ1170.1 111 9 ∧ nn μ + 0 ≤ nn μ1170 ∧ nn μ1170 ≤ nn μ + 0 + 9 * wr μ1170 ∧ nn μ1170 ≤ 8 + wr μ1170 ∧ 9 * wr μ1170 ≤ nn μ1170 ∧ nn μ1170 ≤ 9 ∧ wr μ ≤ wr μ1170 ∧ wr μ1170 ≤ 1 ∧ wr μ1170 ≤ bd μ1170 ∧ bd μ1170 ≤ 1 ∧ r_1410 + 1 ≤ μ1442.1 111 22 ∧ r_1131 + 1 ≤ μ1130.1 111 29 ∧ μ.1 111 29 ≤ μ1130.1 111 29 ∧ μ.1 111 31 ≤ μ.1 111 31 ∧ μ.1 111 31 ≤ 300 ∧ 0 ≤ μ.1 111 32 ∧ μ.1 111 32 ≤ μ1170.1 111 9 ∧ μ1170.1 111 9 ≤ 3000 := by (repeat' apply And.intro) <;> omega
          clear hv_1421 hv_1422 hv_1423 hv_1424 hv_1425 hv_1426 hv_1427 hv_1428 hv_1429 hv_1430 hv_1431 hv_1432 hv_1433 hv_1434 hv_1435 hv_1436 hv_1437 hv_1438 hv_1439 hv_1440 e_1441 vl_1451 hw_1452
          refine lv_pop hx hb dX12_own_322 rfl ?_
          refine lv_aload_n hx hb dX12_own_323 rfl (lv_at hl 4 rfl) ?_
          refine lv_iload hx hb dX12_own_324 (lv_at hl 0 rfl) ?_
          refine lv_bipush (v := iv 20) hx hb dX12_own_326 rfl ?_
          have e_1474 : μ1442.1 111 29 = μ1130.1 111 29 := ((hp_1445 29 (by decide)).trans ((hp_1412 29 (by decide)).trans (hp_1173 29 (by decide))))
          have e_1475 : μ1442.1 111 14 = tt := ((hp_1445 14 (by decide)).trans ((hp_1412 14 (by decide)).trans ((hp_1173 14 (by decide)).trans ((hp_1133 14 (by decide)).trans ((hp_1098 14 (by decide)).trans htt.symm)))))
          have hPM_1476 : PM μ1442 := hp_1174.cg ((((hp_1445 4 (by decide)).trans ((hp_1412 4 (by decide)).trans ((hp_1173 4 (by decide)).trans ((hp_1133 4 (by decide)).trans (hp_1098 4 (by decide))))))).trans (((hp_1173 4 (by decide)).trans ((hp_1133 4 (by decide)).trans (hp_1098 4 (by decide))))).symm) ((hp_1445 6 (by decide)).trans (hp_1412 6 (by decide))) ((((hp_1445 7 (by decide)).trans ((hp_1412 7 (by decide)).trans ((hp_1173 7 (by decide)).trans ((hp_1133 7 (by decide)).trans (hp_1098 7 (by decide))))))).trans (((hp_1173 7 (by decide)).trans ((hp_1133 7 (by decide)).trans (hp_1098 7 (by decide))))).symm) ((hp_1445 8 (by decide)).trans (hp_1412 8 (by decide))) ((hp_1445 9 (by decide)).trans (hp_1412 9 (by decide))) ((hp_1445 11 (by decide)).trans (hp_1412 11 (by decide))) ((hp_1445 12 (by decide)).trans (hp_1412 12 (by decide))) ((((hp_1445 14 (by decide)).trans ((hp_1412 14 (by decide)).trans ((hp_1173 14 (by decide)).trans ((hp_1133 14 (by decide)).trans ((hp_1098 14 (by decide)).trans htt.symm)))))).trans (((hp_1173 14 (by decide)).trans ((hp_1133 14 (by decide)).trans ((hp_1098 14 (by decide)).trans htt.symm)))).symm) ((hp_1445 15 (by decide)).trans (hp_1412 15 (by decide))) ((((hp_1445 29 (by decide)).trans ((hp_1412 29 (by decide)).trans (hp_1173 29 (by decide))))).trans ((hp_1173 29 (by decide))).symm) (fun j => ((F_1444.1 123 (by decide) j).trans (F_1411.1 123 (by decide) j)))
          have e_1477 : wr μ1442 = wr μ1170 := ((wr_cg (hp_1445 15 (by decide))).trans (wr_cg (hp_1412 15 (by decide))))
          have hw_1478 := wr_r (μ := μ1170)
          have e_1479 : nn μ1442 = nn μ1170 := ((nn_cg (hp_1445 15 (by decide)) (hp_1445 18 (by decide))).trans (nn_cg (hp_1412 15 (by decide)) (hp_1412 18 (by decide))))
          have e_1482 : μ1442.1 111 9 = μ1170.1 111 9 := ((hp_1445 9 (by decide)).trans (hp_1412 9 (by decide)))
          have e_1484 : μ1442.1 111 39 = μ.1 111 39 := ((hp_1445 39 (by decide)).trans ((hp_1412 39 (by decide)).trans ((hp_1173 39 (by decide)).trans ((hp_1133 39 (by decide)).trans (hp_1098 39 (by decide))))))
          have e_1486 : μ1442.1 111 31 = μ.1 111 31 := ((hp_1445 31 (by decide)).trans ((hp_1412 31 (by decide)).trans ((hp_1173 31 (by decide)).trans ((hp_1133 31 (by decide)).trans (hp_1098 31 (by decide))))))
          have e_1488 : μ1442.1 111 32 = μ.1 111 32 := ((hp_1445 32 (by decide)).trans ((hp_1412 32 (by decide)).trans ((hp_1173 32 (by decide)).trans ((hp_1133 32 (by decide)).trans (hp_1098 32 (by decide))))))
          have e_1498 : bd μ1442 = bd μ1170 := ((bd_cg (hp_1445 15 (by decide)) (hp_1445 16 (by decide)) (hp_1445 17 (by decide))).trans (bd_cg (hp_1412 15 (by decide)) (hp_1412 16 (by decide)) (hp_1412 17 (by decide))))
          refine xc_vV G (b := 111) (rest := []) (As := [.int (iv r_1410), .int (iv 20)]) (c_X12_door ω l μ1442 r_1410 20 F Lo kf μ1170 μ tt (by unfold ir; exact ⟨by omega, by omega⟩) (by unfold ir; decide) (by (repeat' apply And.intro) <;> omega) hF hLo hK hPM_1476 (by (repeat' apply And.intro) <;> omega) (by (repeat' apply And.intro) <;> omega) (by (repeat' apply And.intro) <;> omega) (by (repeat' apply And.intro) <;> omega) (by (repeat' apply And.intro) <;> omega) (by (repeat' apply And.intro) <;> omega) (by (repeat' apply And.intro) <;> omega) (fun _ h0 => (mDO.opn ((hS1 () (bd_z (Int.le_trans (Int.le_trans (Int.le_trans (Int.le_trans ((hp_1101 ()).2) ((hp_1139 ()).2)) ((hp_1177 ()).2)) (Int.le_of_eq (bd_cg (hp_1412 15 (by decide)) (hp_1412 16 (by decide)) (hp_1412 17 (by decide))).symm)) (Int.le_of_eq (bd_cg (hp_1445 15 (by decide)) (hp_1445 16 (by decide)) (hp_1445 17 (by decide))).symm)) h0)).qm (hq_1401 ())) hp_1413 hp_1446 (by omega) ⟨by omega, by omega⟩ (by omega)).e (by omega)) hxt_1449 (by (repeat' apply And.intro) <;> omega) (by (repeat' apply And.intro) <;> omega)) (wm 10 23 rfl rfl) (wm 10 25 rfl rfl) (wm 0 177 rfl rfl) rfl rfl (by decide) rfl (wm 1 18 rfl rfl) (wm 10 26 rfl rfl) (by decide) hR ⟨sfr (F := F) (a := 1) (by decide), slo (L := Lo) (m := 4) (a := 20) (by decide)⟩ (n := 2) rfl rfl (Nat.le_of_ble_eq_true rfl) hl.1 dX12_own_328 (fun μ1502 ρ d0 H locs hp G => ?_)
          obtain ⟨F_1503, hp_1504, hp_1505, hp_1506, hp_1507, hp_1508, hp_1509, hp_1510, hp_1511, hp_1512, hp_1513, hp_1514, hp_1515, hp_1516⟩ := hp
          have hpl_1517 := hp_1505.pl
          have hw_1518 := wr_r (μ := μ1502)
          have hw_1519 := wr_r (μ := μ1442)
          have hxt_1520 : mEXT μ μ1502 := hp_1516
          have hwk_1521 : ∀ j, j < μ.1 111 39 → μ1502.1 126 j = μ1442.1 126 j := fun j hj => hp_1512 j (by omega)
          have hey_1522 : ∀ _ : Unit, bd μ1502 = 0 → mEY μ1170 μ1502 tt (2 * (9 - nn μ)) := fun _ h0 => (hp_1515 () h0).mn (by omega)
          have vl_1523 := hp_1506
          replace hp_1506 := fun _ : Unit => hp_1506
          have vl_1524 := hp_1507
          replace hp_1507 := fun _ : Unit => hp_1507
          have vl_1525 := hp_1508
          replace hp_1508 := fun _ : Unit => hp_1508
          have vl_1526 := hp_1509
          replace hp_1509 := fun _ : Unit => hp_1509
          have vl_1527 := hp_1510
          replace hp_1510 := fun _ : Unit => hp_1510
          have vl_1528 := hp_1511
          replace hp_1511 := fun _ : Unit => hp_1511
          have vl_1529 := hp_1513
          replace hp_1513 := fun _ : Unit => hp_1513
          have vl_1530 := hp_1514
          replace hp_1514 := fun _ : Unit => hp_1514
          have h39_1531 : μ1502.1 111 39 = μ.1 111 39 := by omega
          obtain ⟨hv_1534, hv_1535, hv_1536, hv_1537, hv_1538, hv_1539, hv_1540, hv_1541, hv_1542, hv_1543, hv_1544, hv_1545, hv_1546, hv_1547, hv_1548, hv_1549, hv_1550, hv_1551, hv_1552, hv_1553⟩ : μ.1 111 22 ≤ μ1502.1 111 22 ∧ μ1502.1 111 22 ≤ μ.1 111 22 + 2 * (μ1502.1 111 9 - μ.1 111 9) + 8 * (nn μ1502 - nn μ) - 12 + 8 * wr μ1502 ∧ μ.1 111 9 + 1 ≤ μ1502.1 111 9 ∧ nn μ + 0 ≤ nn μ1502 ∧ nn μ1502 ≤ nn μ + 0 + 9 * wr μ1502 ∧ nn μ1502 ≤ 8 + wr μ1502 ∧ 9 * wr μ1502 ≤ nn μ1502 ∧ nn μ1502 ≤ 9 ∧ wr μ ≤ wr μ1502 ∧ wr μ1502 ≤ 1 ∧ wr μ1502 ≤ bd μ1502 ∧ bd μ1502 ≤ 1 ∧ r_1410 + 1 ≤ μ1502.1 111 22 ∧ r_1131 + 1 ≤ μ1502.1 111 29 ∧ μ.1 111 29 ≤ μ1502.1 111 29 ∧ μ.1 111 31 ≤ μ1502.1 111 31 ∧ μ1502.1 111 31 ≤ 300 ∧ 0 ≤ μ1502.1 111 32 ∧ μ1502.1 111 32 ≤ μ1502.1 111 9 ∧ μ1502.1 111 9 ≤ 3000 := by (repeat' apply And.intro) <;> omega
          clear hv_1454 hv_1455 hv_1456 hv_1457 hv_1458 hv_1459 hv_1460 hv_1461 hv_1462 hv_1463 hv_1464 hv_1465 hv_1466 hv_1467 hv_1468 hv_1469 hv_1470 hv_1471 hv_1472 hv_1473 e_1474 e_1475 e_1477 hw_1478 e_1479 e_1482 e_1484 e_1486 e_1488 e_1498 hpl_1517 hw_1518 hw_1519 vl_1523 vl_1524 vl_1525 vl_1526 vl_1527 vl_1528 vl_1529 vl_1530
          refine lv_goto (tgt := 360) hx hb dX12_own_331 (by decide) ?_
          refine lv_iconst (v := iv 1) hx hb dX12_own_360 rfl ?_
          have hw_1554 := wr_r (μ := μ1502)
          exact xr_i G (x := 1) hret hlk (by unfold ir; exact ⟨by omega, by omega⟩) (zr (by omega)) dX12_own_361 ⟨(FrM.tr (FrM.tr (FrM.tr (FrM.tr (FrM.tr (FrM.tr FrM.rf F_1097 (by decide)) F_1132 (by decide)) F_1172 (by decide)) F_1411 (by decide)) F_1444 (by decide)) F_1503 (by decide)), (fun j hj => ((hp_1504 j (fun h9 => hj ((by decide : ∀ x ∈ ([6, 8, 9, 10, 11, 12, 13, 15, 16, 17, 18, 22, 29, 31, 32, 34, 35, 36, 37, 39] : List Int), x ∈ ([6, 8, 9, 10, 11, 12, 13, 15, 16, 17, 18, 22, 29, 31, 32, 34, 35, 36, 37, 39] : List Int)) j h9))).trans ((hp_1445 j (fun h9 => hj ((by decide : ∀ x ∈ ([22] : List Int), x ∈ ([6, 8, 9, 10, 11, 12, 13, 15, 16, 17, 18, 22, 29, 31, 32, 34, 35, 36, 37, 39] : List Int)) j h9))).trans ((hp_1412 j (fun h9 => hj ((by decide : ∀ x ∈ ([22] : List Int), x ∈ ([6, 8, 9, 10, 11, 12, 13, 15, 16, 17, 18, 22, 29, 31, 32, 34, 35, 36, 37, 39] : List Int)) j h9))).trans ((hp_1173 j (fun h9 => hj ((by decide : ∀ x ∈ ([6, 8, 9, 10, 11, 12, 13, 15] : List Int), x ∈ ([6, 8, 9, 10, 11, 12, 13, 15, 16, 17, 18, 22, 29, 31, 32, 34, 35, 36, 37, 39] : List Int)) j h9))).trans ((hp_1133 j (fun h9 => hj ((by decide : ∀ x ∈ ([6, 8, 9, 10, 11, 12, 13, 15, 16, 29] : List Int), x ∈ ([6, 8, 9, 10, 11, 12, 13, 15, 16, 17, 18, 22, 29, 31, 32, 34, 35, 36, 37, 39] : List Int)) j h9))).trans (hp_1098 j (fun h9 => hj ((by decide : ∀ x ∈ ([6, 8, 9, 10, 11, 12, 13, 15] : List Int), x ∈ ([6, 8, 9, 10, 11, 12, 13, 15, 16, 17, 18, 22, 29, 31, 32, 34, 35, 36, 37, 39] : List Int)) j h9))))))))), hp_1505, (by (repeat' apply And.intro) <;> omega), (by (repeat' apply And.intro) <;> omega), (by (repeat' apply And.intro) <;> omega), ⟨by omega, (Int.le_trans (Int.le_trans (Int.le_trans (Int.le_trans (Int.le_trans ((hp_1101 ()).2) ((hp_1139 ()).2)) ((hp_1177 ()).2)) (Int.le_of_eq (bd_cg (hp_1412 15 (by decide)) (hp_1412 16 (by decide)) (hp_1412 17 (by decide))).symm)) (Int.le_of_eq (bd_cg (hp_1445 15 (by decide)) (hp_1445 16 (by decide)) (hp_1445 17 (by decide))).symm)) ((hp_1509 ()).2))⟩, (by (repeat' apply And.intro) <;> omega), (by (repeat' apply And.intro) <;> omega), (fun j hj => ((hwk_1521 j (by omega)).trans ((F_1444.1 126 (by decide) j).trans ((F_1411.1 126 (by decide) j).trans ((F_1172.1 126 (by decide) j).trans ((F_1132.1 126 (by decide) j).trans (F_1097.1 126 (by decide) j))))))), (by (repeat' apply And.intro) <;> omega), (by (repeat' apply And.intro) <;> omega), (fun _ _ h0 => mEY.ql (hq_1401 ()) ((hey_1522 () h0))), hxt_1520, (by (repeat' apply And.intro) <;> omega), (fun _ h1 => absurd h1 (by decide))⟩
    · refine lv_aload_n hx hb dX12_own_33 rfl (lv_at hl 0 rfl) ?_
      refine xa_geti G fd_X12 (a := 111) (x := tt) 14 rfl (by decide) rfl (wm 7 163 rfl rfl) ⟨rfl, rfl, rfl⟩ dX12_own_34 rfl htt.symm ?_
      refine xb_if_ne (tgt := 45) hx hb (by unfold ir; exact ⟨by omega, by omega⟩) dX12_own_37 (by decide) (fun c_37 => ?_) (fun c_37 => absurd c_37 (by omega))
      refine lv_bipush (v := iv 20) hx hb dX12_own_45 rfl ?_
      refine lv_istore_n (lv' := [(1, .int (iv 20)), (0, .ref (oP ω 111))]) hx hb dX12_own_47 rfl hl (by decide) rfl (fun ls hl => ?_)
      refine lv_aload_n hx hb dX12_own_48 rfl (lv_at hl 1 rfl) ?_
      refine xc_vV G (b := 111) (rest := []) (As := []) (c_X12_next ω l μ  hPM (by (repeat' apply And.intro) <;> omega) (by (repeat' apply And.intro) <;> omega)) (wm 9 0 rfl rfl) (wm 9 2 rfl rfl) (wm 0 119 rfl rfl) rfl rfl (by decide) rfl (wm 1 18 rfl rfl) (wm 9 3 rfl rfl) (by decide) hR ⟨nfB hF (by decide), nlB hLo (by decide)⟩ (n := 0) rfl rfl (Nat.le_of_ble_eq_true rfl) hl.1 dX12_own_49 (fun μ1555 ρ d0 H locs hp G => ?_)
      obtain ⟨F_1556, hp_1557, hp_1558, hp_1559, hp_1560, hp_1561⟩ := hp
      have hpl_1562 := hp_1558.pl
      have hw_1563 := wr_r (μ := μ1555)
      have vl_1564 := hp_1559
      replace hp_1559 := fun _ : Unit => hp_1559
      have vl_1565 := hp_1560
      replace hp_1560 := fun _ : Unit => hp_1560
      have vl_1566 := hp_1561
      replace hp_1561 := fun _ : Unit => hp_1561
      obtain ⟨hv_1569, hv_1570, hv_1571, hv_1572, hv_1573, hv_1574, hv_1575, hv_1576, hv_1577, hv_1578, hv_1579, hv_1580, hv_1581, hv_1582, hv_1583, hv_1584, hv_1585, hv_1586⟩ : μ.1 111 22 ≤ μ.1 111 22 ∧ μ.1 111 22 ≤ μ.1 111 22 + 2 * (μ1555.1 111 9 - μ.1 111 9) + 8 * (nn μ1555 - nn μ) - 2 + -6 * wr μ1555 ∧ μ.1 111 9 + 1 ≤ μ1555.1 111 9 ∧ nn μ + 0 ≤ nn μ1555 ∧ nn μ1555 ≤ nn μ + 0 + 9 * wr μ1555 ∧ nn μ1555 ≤ 8 + wr μ1555 ∧ 9 * wr μ1555 ≤ nn μ1555 ∧ nn μ1555 ≤ 9 ∧ wr μ ≤ wr μ1555 ∧ wr μ1555 ≤ 1 ∧ wr μ1555 ≤ bd μ1555 ∧ bd μ1555 ≤ 1 ∧ μ.1 111 29 ≤ μ.1 111 29 ∧ μ.1 111 31 ≤ μ.1 111 31 ∧ μ.1 111 31 ≤ 300 ∧ 0 ≤ μ.1 111 32 ∧ μ.1 111 32 ≤ μ1555.1 111 9 ∧ μ1555.1 111 9 ≤ 3000 := by (repeat' apply And.intro) <;> omega
      clear hpl_1562 hw_1563 vl_1564 vl_1565 vl_1566
      refine lv_aload_n hx hb dX12_own_52 rfl (lv_at hl 1 rfl) ?_
      have hw_1587 := wr_r (μ := μ1555)
      have e_1588 : μ1555.1 111 29 = μ.1 111 29 := (hp_1557 29 (by decide))
      refine xc_iV G (b := 111) (rest := []) (As := []) (c_X12_takesKind ω l μ1555  hp_1558 (by (repeat' apply And.intro) <;> omega)) (wm 9 203 rfl rfl) (wm 9 205 rfl rfl) (wm 0 163 rfl rfl) rfl rfl (by decide) rfl (wm 1 18 rfl rfl) (wm 9 206 rfl rfl) (by decide) hR ⟨nfB hF (by decide), nlB hLo (by decide)⟩ (n := 0) rfl rfl (Nat.le_of_ble_eq_true rfl) hl.1 dX12_own_53 (fun r_1590 μ1589 ρ d0 H locs hr_r_1590 hp G => ?_)
      have hr_r_1590 : -2147483648 ≤ r_1590 ∧ r_1590 ≤ 2147483647 := hr_r_1590
      obtain ⟨F_1591, hp_1592, hp_1593, hp_1594, hp_1595, hp_1596, hp_1597, hp_1598, hp_1599⟩ := hp
      have hpl_1600 := hp_1593.pl
      have hw_1601 := wr_r (μ := μ1589)
      have hks_r_1590 : 1 ≤ r_1590 := by omega
      have vl_1602 := hp_1595
      replace hp_1595 := fun _ : Unit => hp_1595
      have vl_1603 := hp_1596
      replace hp_1596 := fun _ : Unit => hp_1596
      have vl_1604 := hp_1597
      replace hp_1597 := fun _ : Unit => hp_1597
      have vl_1605 := hp_1598
      replace hp_1598 := fun _ : Unit => hp_1598
      have vl_1606 := hp_1599
      replace hp_1599 := fun _ : Unit => hp_1599
      obtain ⟨hv_1609, hv_1610, hv_1611, hv_1612, hv_1613, hv_1614, hv_1615, hv_1616, hv_1617, hv_1618, hv_1619, hv_1620, hv_1621, hv_1622, hv_1623, hv_1624, hv_1625, hv_1626, hv_1627⟩ : μ.1 111 22 ≤ μ.1 111 22 ∧ μ.1 111 22 ≤ μ.1 111 22 + 2 * (μ1589.1 111 9 - μ.1 111 9) + 8 * (nn μ1589 - nn μ) - 4 + -4 * wr μ1589 ∧ μ.1 111 9 + 1 ≤ μ1589.1 111 9 ∧ nn μ + 0 ≤ nn μ1589 ∧ nn μ1589 ≤ nn μ + 0 + 9 * wr μ1589 ∧ nn μ1589 ≤ 8 + wr μ1589 ∧ 9 * wr μ1589 ≤ nn μ1589 ∧ nn μ1589 ≤ 9 ∧ wr μ ≤ wr μ1589 ∧ wr μ1589 ≤ 1 ∧ wr μ1589 ≤ bd μ1589 ∧ bd μ1589 ≤ 1 ∧ r_1590 + 1 ≤ μ1589.1 111 29 ∧ μ.1 111 29 ≤ μ1589.1 111 29 ∧ μ.1 111 31 ≤ μ.1 111 31 ∧ μ.1 111 31 ≤ 300 ∧ 0 ≤ μ.1 111 32 ∧ μ.1 111 32 ≤ μ1589.1 111 9 ∧ μ1589.1 111 9 ≤ 3000 := by (repeat' apply And.intro) <;> omega
      clear hv_1569 hv_1570 hv_1571 hv_1572 hv_1573 hv_1574 hv_1575 hv_1576 hv_1577 hv_1578 hv_1579 hv_1580 hv_1581 hv_1582 hv_1583 hv_1584 hv_1585 hv_1586 hw_1587 e_1588 hpl_1600 hw_1601 vl_1602 vl_1603 vl_1604 vl_1605 vl_1606
      refine lv_istore_n (lv' := [(2, .int (iv r_1590)), (1, .int (iv 20)), (0, .ref (oP ω 111))]) hx hb dX12_own_56 rfl hl (by decide) rfl (fun ls hl => ?_)
      refine lv_aload_n hx hb dX12_own_57 rfl (lv_at hl 2 rfl) ?_
      have hq_1628 : ∀ _ : Unit, q0m μ μ1589 := fun _ => (q0m.fr (K := [111, 113, 123]) (FrM.tr (FrM.tr FrM.rf F_1556 (by decide)) F_1591 (by decide)) (by decide) (by decide) (by decide) ((hp_1592 22 (by decide)).trans (hp_1557 22 (by decide))) (nS.le (Int.le_trans (Int.le_of_eq (hp_1557 29 (by decide)).symm) (hp_1595 ())) (Int.le_trans (Int.le_of_eq (hp_1557 31 (by decide)).symm) (Int.le_of_eq (hp_1592 31 (by decide)).symm))))
      have hw_1629 := wr_r (μ := μ1589)
      have hht_1630 : ∀ _ : Unit, bd μ1589 = 0 → mHt μ1589 0 := fun _ h0 => (hht_0 () (bd_z (Int.le_trans ((hp_1560 ()).2) ((hp_1598 ()).2)) h0)).qm (hq_1628 ())
      have hxt_1631 : mEXT μ μ1589 := (q0m.fr (K := [111, 113, 123]) (FrM.tr (FrM.tr FrM.rf F_1556 (by decide)) F_1591 (by decide)) (by decide) (by decide) (by decide) ((hp_1592 22 (by decide)).trans (hp_1557 22 (by decide))) (nS.le (Int.le_trans (Int.le_of_eq (hp_1557 29 (by decide)).symm) (hp_1595 ())) (Int.le_trans (Int.le_of_eq (hp_1557 31 (by decide)).symm) (Int.le_of_eq (hp_1592 31 (by decide)).symm)))).1
      have e_1632 : μ1589.1 111 14 = tt := ((hp_1592 14 (by decide)).trans ((hp_1557 14 (by decide)).trans htt.symm))
      have e_1633 : μ1589.1 111 22 = μ.1 111 22 := ((hp_1592 22 (by decide)).trans (hp_1557 22 (by decide)))
      have e_1635 : μ1589.1 111 39 = μ.1 111 39 := ((hp_1592 39 (by decide)).trans (hp_1557 39 (by decide)))
      have e_1638 : μ1589.1 111 31 = μ.1 111 31 := ((hp_1592 31 (by decide)).trans (hp_1557 31 (by decide)))
      refine xc_vV G (b := 111) (rest := []) (As := []) (c_X12_expr_a ω l μ1589 tt (by (repeat' apply And.intro) <;> omega) hp_1593 (by (repeat' apply And.intro) <;> omega) (by (repeat' apply And.intro) <;> omega) (by (repeat' apply And.intro) <;> omega) (by (repeat' apply And.intro) <;> omega) (by (repeat' apply And.intro) <;> omega) (fun _ h0 => (hht_1630 () h0).p (by decide))) (wm 9 139 rfl rfl) (wm 9 141 rfl rfl) (wm 0 147 rfl rfl) rfl rfl (by decide) rfl (wm 1 18 rfl rfl) (wm 9 142 rfl rfl) (by decide) hR ⟨nfB hF (by decide), nlB hLo (by decide)⟩ (n := 0) rfl rfl (Nat.le_of_ble_eq_true rfl) hl.1 dX12_own_58 (fun μ1643 ρ d0 H locs hp G => ?_)
      obtain ⟨F_1644, hp_1645, hp_1646, hp_1647, hp_1648, hp_1649, hp_1650, hp_1651, hp_1652, hp_1653, hp_1654, hp_1655⟩ := hp
      have hpl_1656 := hp_1646.pl
      have hw_1657 := wr_r (μ := μ1643)
      have hxt_1658 : mEXT μ μ1643 := hxt_1631.tr hp_1655
      have hwk_1659 : ∀ j, j < μ.1 111 39 → μ1643.1 126 j = μ1589.1 126 j := fun j hj => hp_1653 j (by omega)
      have hex_1660 : ∀ _ : Unit, bd μ1643 = 0 → mEX μ1589 μ1643 tt 1 0 99 := fun _ h0 => (hp_1654 () h0).mn (Int.le_refl _) (by omega)
      have hht_1661 : ∀ _ : Unit, bd μ1643 = 0 → mHt μ1643 1 := fun _ h0 => (hht_1630 () (bd_z (hp_1650.2) h0)).ex (hex_1660 () h0) rfl
      have vl_1662 := hp_1647
      replace hp_1647 := fun _ : Unit => hp_1647
      have vl_1663 := hp_1648
      replace hp_1648 := fun _ : Unit => hp_1648
      have vl_1664 := hp_1649
      replace hp_1649 := fun _ : Unit => hp_1649
      have vl_1665 := hp_1650
      replace hp_1650 := fun _ : Unit => hp_1650
      have vl_1666 := hp_1651
      replace hp_1651 := fun _ : Unit => hp_1651
      have vl_1667 := hp_1652
      replace hp_1652 := fun _ : Unit => hp_1652
      have h39_1668 : μ1643.1 111 39 = μ.1 111 39 := by omega
      obtain ⟨hv_1671, hv_1672, hv_1673, hv_1674, hv_1675, hv_1676, hv_1677, hv_1678, hv_1679, hv_1680, hv_1681, hv_1682, hv_1683, hv_1684, hv_1685, hv_1686, hv_1687, hv_1688, hv_1689⟩ : μ.1 111 22 ≤ μ1643.1 111 22 ∧ μ1643.1 111 22 ≤ μ.1 111 22 + 2 * (μ1643.1 111 9 - μ.1 111 9) + 8 * (nn μ1643 - nn μ) - 5 + -3 * wr μ1643 ∧ μ.1 111 9 + 1 ≤ μ1643.1 111 9 ∧ nn μ + 0 ≤ nn μ1643 ∧ nn μ1643 ≤ nn μ + 0 + 9 * wr μ1643 ∧ nn μ1643 ≤ 8 + wr μ1643 ∧ 9 * wr μ1643 ≤ nn μ1643 ∧ nn μ1643 ≤ 9 ∧ wr μ ≤ wr μ1643 ∧ wr μ1643 ≤ 1 ∧ wr μ1643 ≤ bd μ1643 ∧ bd μ1643 ≤ 1 ∧ r_1590 + 1 ≤ μ1643.1 111 29 ∧ μ.1 111 29 ≤ μ1643.1 111 29 ∧ μ.1 111 31 ≤ μ.1 111 31 ∧ μ.1 111 31 ≤ 300 ∧ 0 ≤ μ.1 111 32 ∧ μ.1 111 32 ≤ μ1643.1 111 9 ∧ μ1643.1 111 9 ≤ 3000 := by (repeat' apply And.intro) <;> omega
      clear hv_1609 hv_1610 hv_1611 hv_1612 hv_1613 hv_1614 hv_1615 hv_1616 hv_1617 hv_1618 hv_1619 hv_1620 hv_1621 hv_1622 hv_1623 hv_1624 hv_1625 hv_1626 hv_1627 hw_1629 e_1632 e_1633 e_1635 e_1638 hpl_1656 hw_1657 vl_1662 vl_1663 vl_1664 vl_1665 vl_1666 vl_1667
      refine lv_aload_n hx hb dX12_own_61 rfl (lv_at hl 2 rfl) ?_
      refine lv_bipush (v := iv 59) hx hb dX12_own_62 rfl ?_
      have hw_1690 := wr_r (μ := μ1643)
      refine xc_vV G (b := 111) (rest := []) (As := [.int (iv 59)]) (c_X12_wantsSign ω l μ1643 59 (by unfold ir; decide) hp_1646 (by (repeat' apply And.intro) <;> omega)) (wm 9 114 rfl rfl) (wm 9 116 rfl rfl) (wm 0 141 rfl rfl) rfl rfl (by decide) rfl (wm 1 18 rfl rfl) (wm 9 117 rfl rfl) (by decide) hR ⟨nfB hF (by decide), nlB hLo (by decide)⟩ (n := 1) rfl rfl (Nat.le_of_ble_eq_true rfl) hl.1 dX12_own_64 (fun μ1691 ρ d0 H locs hp G => ?_)
      obtain ⟨F_1692, hp_1693, hp_1694, hp_1695, hp_1696, hp_1697, hp_1698⟩ := hp
      have hpl_1699 := hp_1694.pl
      have hw_1700 := wr_r (μ := μ1691)
      have vl_1701 := hp_1695
      replace hp_1695 := fun _ : Unit => hp_1695
      have vl_1702 := hp_1696
      replace hp_1696 := fun _ : Unit => hp_1696
      have vl_1703 := hp_1697
      replace hp_1697 := fun _ : Unit => hp_1697
      have vl_1704 := hp_1698
      replace hp_1698 := fun _ : Unit => hp_1698
      obtain ⟨hv_1707, hv_1708, hv_1709, hv_1710, hv_1711, hv_1712, hv_1713, hv_1714, hv_1715, hv_1716, hv_1717, hv_1718, hv_1719, hv_1720, hv_1721, hv_1722, hv_1723, hv_1724, hv_1725⟩ : μ.1 111 22 ≤ μ1643.1 111 22 ∧ μ1643.1 111 22 ≤ μ.1 111 22 + 2 * (μ1691.1 111 9 - μ.1 111 9) + 8 * (nn μ1691 - nn μ) - 7 + -1 * wr μ1691 ∧ μ.1 111 9 + 1 ≤ μ1691.1 111 9 ∧ nn μ + 0 ≤ nn μ1691 ∧ nn μ1691 ≤ nn μ + 0 + 9 * wr μ1691 ∧ nn μ1691 ≤ 8 + wr μ1691 ∧ 9 * wr μ1691 ≤ nn μ1691 ∧ nn μ1691 ≤ 9 ∧ wr μ ≤ wr μ1691 ∧ wr μ1691 ≤ 1 ∧ wr μ1691 ≤ bd μ1691 ∧ bd μ1691 ≤ 1 ∧ r_1590 + 1 ≤ μ1643.1 111 29 ∧ μ.1 111 29 ≤ μ1643.1 111 29 ∧ μ.1 111 31 ≤ μ.1 111 31 ∧ μ.1 111 31 ≤ 300 ∧ 0 ≤ μ.1 111 32 ∧ μ.1 111 32 ≤ μ1691.1 111 9 ∧ μ1691.1 111 9 ≤ 3000 := by (repeat' apply And.intro) <;> omega
      clear hv_1671 hv_1672 hv_1673 hv_1674 hv_1675 hv_1676 hv_1677 hv_1678 hv_1679 hv_1680 hv_1681 hv_1682 hv_1683 hv_1684 hv_1685 hv_1686 hv_1687 hv_1688 hv_1689 hw_1690 hpl_1699 hw_1700 vl_1701 vl_1702 vl_1703 vl_1704
      refine lv_aload_n hx hb dX12_own_67 rfl (lv_at hl 2 rfl) ?_
      refine lv_iload_n hx hb dX12_own_68 rfl (lv_at hl 1 rfl) ?_
      refine lv_iload_n hx hb dX12_own_69 rfl (lv_at hl 0 rfl) ?_
      refine xb_i2l hx hb (by unfold ir; exact ⟨by omega, by omega⟩) dX12_own_70 ?_
      refine lv_iconst (v := iv 0) hx hb dX12_own_71 rfl ?_
      have hq_1726 : ∀ _ : Unit, q0m μ1643 μ1691 := fun _ => (q0m.fr (K := [111]) (FrM.tr FrM.rf F_1692 (by decide)) (by decide) (by decide) (by decide) (hp_1693 22 (by decide)) (nS.le (Int.le_of_eq (hp_1693 29 (by decide)).symm) (Int.le_of_eq (hp_1693 31 (by decide)).symm)))
      have hw_1727 := wr_r (μ := μ1691)
      have hht_1728 : ∀ _ : Unit, bd μ1691 = 0 → mHt μ1691 1 := fun _ h0 => (hht_1661 () (bd_z ((hp_1697 ()).2) h0)).qm (hq_1726 ())
      have e_1729 : μ1691.1 111 29 = μ1643.1 111 29 := (hp_1693 29 (by decide))
      have hxt_1730 : mEXT μ μ1691 := hxt_1658.tr (q0m.fr (K := [111]) (FrM.tr FrM.rf F_1692 (by decide)) (by decide) (by decide) (by decide) (hp_1693 22 (by decide)) (nS.le (Int.le_of_eq (hp_1693 29 (by decide)).symm) (Int.le_of_eq (hp_1693 31 (by decide)).symm))).1
      have e_1731 : μ1691.1 111 22 = μ1643.1 111 22 := (hp_1693 22 (by decide))
      refine xc_iV G (b := 111) (rest := []) (As := [.int (iv 20), .long (jv r_1590), .int (iv 0)]) (c_X12_emit ω l μ1691 20 r_1590 0 (by unfold ir; decide) (by unfold jr; omega) (by unfold ir; decide) (by (repeat' apply And.intro) <;> omega)) (wm 9 126 rfl rfl) (wm 9 128 rfl rfl) (wm 0 144 rfl rfl) rfl rfl (by decide) rfl (wm 1 18 rfl rfl) (wm 9 129 rfl rfl) (by decide) hR ⟨nfB hF (by decide), nlB hLo (by decide)⟩ (n := 3) rfl rfl (Nat.le_of_ble_eq_true rfl) hl.1 dX12_own_72 (fun r_1736 μ1735 ρ d0 H locs hr_r_1736 hp G => ?_)
      have hr_r_1736 : -2147483648 ≤ r_1736 ∧ r_1736 ≤ 2147483647 := hr_r_1736
      obtain ⟨F_1737, hp_1738, hp_1739, hp_1740, hp_1741⟩ := hp
      have hxt_1742 : mEXT μ μ1735 := hxt_1730.tr hp_1739.1
      have hht_1743 : ∀ _ : Unit, bd μ1735 = 0 → mHt μ1735 0 := fun _ h0 => (hht_1728 () (bd_z (Int.le_of_eq (bd_cg (hp_1738 15 (by decide)) (hp_1738 16 (by decide)) (hp_1738 17 (by decide))).symm) h0)).ad hp_1739 rfl
      have vl_1744 := hp_1741
      replace hp_1741 := fun _ : Unit => hp_1741
      obtain ⟨hv_1747, hv_1748, hv_1749, hv_1750, hv_1751, hv_1752, hv_1753, hv_1754, hv_1755, hv_1756, hv_1757, hv_1758, hv_1759, hv_1760, hv_1761, hv_1762, hv_1763, hv_1764, hv_1765⟩ : μ.1 111 22 ≤ μ1735.1 111 22 ∧ μ1735.1 111 22 ≤ μ.1 111 22 + 2 * (μ1691.1 111 9 - μ.1 111 9) + 8 * (nn μ1691 - nn μ) - 6 + -1 * wr μ1691 ∧ μ.1 111 9 + 1 ≤ μ1691.1 111 9 ∧ nn μ + 0 ≤ nn μ1691 ∧ nn μ1691 ≤ nn μ + 0 + 9 * wr μ1691 ∧ nn μ1691 ≤ 8 + wr μ1691 ∧ 9 * wr μ1691 ≤ nn μ1691 ∧ nn μ1691 ≤ 9 ∧ wr μ ≤ wr μ1691 ∧ wr μ1691 ≤ 1 ∧ wr μ1691 ≤ bd μ1691 ∧ bd μ1691 ≤ 1 ∧ r_1590 + 1 ≤ μ1643.1 111 29 ∧ μ.1 111 29 ≤ μ1643.1 111 29 ∧ μ.1 111 31 ≤ μ.1 111 31 ∧ μ.1 111 31 ≤ 300 ∧ 0 ≤ μ.1 111 32 ∧ μ.1 111 32 ≤ μ1691.1 111 9 ∧ μ1691.1 111 9 ≤ 3000 := by (repeat' apply And.intro) <;> omega
      clear hv_1707 hv_1708 hv_1709 hv_1710 hv_1711 hv_1712 hv_1713 hv_1714 hv_1715 hv_1716 hv_1717 hv_1718 hv_1719 hv_1720 hv_1721 hv_1722 hv_1723 hv_1724 hv_1725 hw_1727 e_1729 e_1731 vl_1744
      refine lv_pop hx hb dX12_own_75 rfl ?_
      refine lv_goto (tgt := 360) hx hb dX12_own_76 (by decide) ?_
      refine lv_iconst (v := iv 1) hx hb dX12_own_360 rfl ?_
      have e_1766 : μ1735.1 111 9 = μ1691.1 111 9 := (hp_1738 9 (by decide))
      have e_1767 : μ1735.1 111 29 = μ1643.1 111 29 := ((hp_1738 29 (by decide)).trans (hp_1693 29 (by decide)))
      have e_1768 : μ1735.1 111 39 = μ1643.1 111 39 := ((hp_1738 39 (by decide)).trans (hp_1693 39 (by decide)))
      have e_1769 : μ1735.1 111 31 = μ.1 111 31 := ((hp_1738 31 (by decide)).trans ((hp_1693 31 (by decide)).trans ((hp_1645 31 (by decide)).trans ((hp_1592 31 (by decide)).trans (hp_1557 31 (by decide))))))
      have e_1770 : μ1735.1 111 32 = μ.1 111 32 := ((hp_1738 32 (by decide)).trans ((hp_1693 32 (by decide)).trans ((hp_1645 32 (by decide)).trans ((hp_1592 32 (by decide)).trans (hp_1557 32 (by decide))))))
      have e_1771 : μ1735.1 111 6 = μ1691.1 111 6 := (hp_1738 6 (by decide))
      have e_1772 : wr μ1735 = wr μ1691 := (wr_cg (hp_1738 15 (by decide)))
      have hw_1773 := wr_r (μ := μ1691)
      have e_1774 : bd μ1735 = bd μ1691 := (bd_cg (hp_1738 15 (by decide)) (hp_1738 16 (by decide)) (hp_1738 17 (by decide)))
      have e_1775 : nn μ1735 = nn μ1691 := (nn_cg (hp_1738 15 (by decide)) (hp_1738 18 (by decide)))
      have hPM_1776 : PM μ1735 := hp_1694.cg ((((hp_1738 4 (by decide)).trans ((hp_1693 4 (by decide)).trans ((hp_1645 4 (by decide)).trans ((hp_1592 4 (by decide)).trans (hp_1557 4 (by decide))))))).trans (((hp_1693 4 (by decide)).trans ((hp_1645 4 (by decide)).trans ((hp_1592 4 (by decide)).trans (hp_1557 4 (by decide)))))).symm) (hp_1738 6 (by decide)) ((((hp_1738 7 (by decide)).trans ((hp_1693 7 (by decide)).trans ((hp_1645 7 (by decide)).trans ((hp_1592 7 (by decide)).trans (hp_1557 7 (by decide))))))).trans (((hp_1693 7 (by decide)).trans ((hp_1645 7 (by decide)).trans ((hp_1592 7 (by decide)).trans (hp_1557 7 (by decide)))))).symm) (hp_1738 8 (by decide)) (hp_1738 9 (by decide)) (hp_1738 11 (by decide)) (hp_1738 12 (by decide)) ((((hp_1738 14 (by decide)).trans ((hp_1693 14 (by decide)).trans ((hp_1645 14 (by decide)).trans ((hp_1592 14 (by decide)).trans ((hp_1557 14 (by decide)).trans htt.symm)))))).trans (((hp_1693 14 (by decide)).trans ((hp_1645 14 (by decide)).trans ((hp_1592 14 (by decide)).trans ((hp_1557 14 (by decide)).trans htt.symm))))).symm) (hp_1738 15 (by decide)) ((((hp_1738 29 (by decide)).trans (hp_1693 29 (by decide)))).trans ((hp_1693 29 (by decide))).symm) (fun j => (F_1737.1 123 (by decide) j))
      exact xr_i G (x := 1) hret hlk (by unfold ir; exact ⟨by omega, by omega⟩) (zr (by omega)) dX12_own_361 ⟨(FrM.tr (FrM.tr (FrM.tr (FrM.tr (FrM.tr FrM.rf F_1556 (by decide)) F_1591 (by decide)) F_1644 (by decide)) F_1692 (by decide)) F_1737 (by decide)), (fun j hj => ((hp_1738 j (fun h9 => hj ((by decide : ∀ x ∈ ([22] : List Int), x ∈ ([6, 8, 9, 10, 11, 12, 13, 15, 16, 17, 18, 22, 29, 31, 32, 34, 35, 36, 37, 39] : List Int)) j h9))).trans ((hp_1693 j (fun h9 => hj ((by decide : ∀ x ∈ ([6, 8, 9, 10, 11, 12, 13, 15] : List Int), x ∈ ([6, 8, 9, 10, 11, 12, 13, 15, 16, 17, 18, 22, 29, 31, 32, 34, 35, 36, 37, 39] : List Int)) j h9))).trans ((hp_1645 j (fun h9 => hj ((by decide : ∀ x ∈ ([6, 8, 9, 10, 11, 12, 13, 15, 16, 17, 18, 22, 29, 39] : List Int), x ∈ ([6, 8, 9, 10, 11, 12, 13, 15, 16, 17, 18, 22, 29, 31, 32, 34, 35, 36, 37, 39] : List Int)) j h9))).trans ((hp_1592 j (fun h9 => hj ((by decide : ∀ x ∈ ([6, 8, 9, 10, 11, 12, 13, 15, 16, 29] : List Int), x ∈ ([6, 8, 9, 10, 11, 12, 13, 15, 16, 17, 18, 22, 29, 31, 32, 34, 35, 36, 37, 39] : List Int)) j h9))).trans (hp_1557 j (fun h9 => hj ((by decide : ∀ x ∈ ([6, 8, 9, 10, 11, 12, 13, 15] : List Int), x ∈ ([6, 8, 9, 10, 11, 12, 13, 15, 16, 17, 18, 22, 29, 31, 32, 34, 35, 36, 37, 39] : List Int)) j h9)))))))), hPM_1776, (by (repeat' apply And.intro) <;> omega), (by (repeat' apply And.intro) <;> omega), (by (repeat' apply And.intro) <;> omega), ⟨by omega, (Int.le_trans (Int.le_trans (Int.le_trans (Int.le_trans ((hp_1560 ()).2) ((hp_1598 ()).2)) ((hp_1650 ()).2)) ((hp_1697 ()).2)) (Int.le_of_eq (bd_cg (hp_1738 15 (by decide)) (hp_1738 16 (by decide)) (hp_1738 17 (by decide))).symm))⟩, (by (repeat' apply And.intro) <;> omega), (by (repeat' apply And.intro) <;> omega), (fun j hj => ((F_1737.1 126 (by decide) j).trans ((F_1692.1 126 (by decide) j).trans ((hwk_1659 j (by omega)).trans ((F_1591.1 126 (by decide) j).trans (F_1556.1 126 (by decide) j)))))), (by (repeat' apply And.intro) <;> omega), (by (repeat' apply And.intro) <;> omega), (fun _ _ h0 => mEY.ql (hq_1628 ()) (as_one (M := (2 * (9 - nn μ))) ((hS1 () (bd_z (Int.le_trans (Int.le_trans (Int.le_trans (Int.le_trans ((hp_1560 ()).2) ((hp_1598 ()).2)) ((hp_1650 ()).2)) ((hp_1697 ()).2)) (Int.le_of_eq (bd_cg (hp_1738 15 (by decide)) (hp_1738 16 (by decide)) (hp_1738 17 (by decide))).symm)) h0)).qm (hq_1628 ())).s ((hex_1660 () (bd_z (Int.le_trans ((hp_1697 ()).2) (Int.le_of_eq (bd_cg (hp_1738 15 (by decide)) (hp_1738 16 (by decide)) (hp_1738 17 (by decide))).symm)) h0)).qm (hq_1726 ())) (by omega) (by omega) hp_1739 (by unfold mpl; omega) rfl rfl (fun h1 => ⟨fun q => absurd q (by decide), ⟨fun q => absurd q (by decide), fun q => absurd q (by decide)⟩, fun q => absurd q (by decide), fun q => absurd q (by decide), fun q => absurd q (by decide), fun q => absurd q (by decide), fun _ => ⟨by omega, by omega, by omega, by unfold nS; dsimp only; omega⟩, fun q => absurd q (by decide), fun q => absurd q (by decide), fun q => absurd q (by decide), fun q => absurd q (by decide), fun q => absurd q (by decide), fun q => absurd q (by decide), fun q => absurd q (by decide), fun q => absurd q (by decide), fun q => absurd q (by decide), fun q => absurd q (by decide), fun q => absurd q (by decide), fun q => absurd q (by decide), fun q => absurd q (by decide), fun q => absurd q (by decide), ⟨fun q => absurd q (by decide), fun q => absurd q (by decide), fun q => absurd q (by decide)⟩, ⟨by decide, by decide⟩⟩))), hxt_1742, (by (repeat' apply And.intro) <;> omega), (fun _ h1 => absurd h1 (by decide))⟩

set_option maxHeartbeats 4000000 in
set_option maxRecDepth 100000 in
theorem c_X12_statement (ω : Om) (l : Launch) (μ : M3) (F : Nat) (Lo : Nat) (kf : Int) (tt : Int) (htt : tt = μ.1 111 14) (hF : 200 ≤ F) (hLo : 6000 ≤ Lo) (hK : ∀ (μ : M3) (tt : Int) (htt : tt = μ.1 111 14) (hPM : PM μ) (hnn : 0 ≤ nn μ ∧ nn μ ≤ 9 ∧ 9 * wr μ ≤ nn μ) (hn8 : nn μ ≤ 8 + wr μ) (hcd : 0 ≤ μ.1 111 22 ∧ μ.1 111 22 ≤ 2 * μ.1 111 9 + 8 * nn μ + 60) (hW : 0 ≤ μ.1 111 39 ∧ μ.1 111 39 ≤ μ.1 111 22) (hsl : 0 ≤ μ.1 111 31 ∧ μ.1 111 31 ≤ 300) (hvr : 0 ≤ μ.1 111 32 ∧ μ.1 111 32 ≤ μ.1 111 9) (hfu : 0 ≤ (kf - 1) ∧ 8 ≤ nn μ + (kf - 1)) (hS0 : ∀ _ : Unit, bd μ = 0 → mS0 μ), CtV ω l yX12_block cX12_block 1 (F + 0) (Lo + 0) [.ref (oP ω 111)] μ (fun (μ' : M3) => (FrM [111, 113, 115, 116, 117, 123, 124, 126] μ μ') ∧ (∀ j, j ∉ ([6, 8, 9, 10, 11, 12, 13, 15, 16, 17, 18, 22, 29, 31, 32, 34, 35, 36, 37, 39] : List Int) → μ'.1 111 j = μ.1 111 j) ∧ (PM μ') ∧ (μ.1 111 22 ≤ μ'.1 111 22 ∧ μ'.1 111 22 ≤ μ.1 111 22 + 2 * (μ'.1 111 9 - μ.1 111 9) + 8 * (nn μ' - nn μ) + (- 4 - 4 * wr μ' + 8 * wr μ)) ∧ (μ.1 111 9 + 1 ≤ μ'.1 111 9 + wr μ') ∧ (μ.1 111 29 ≤ μ'.1 111 29) ∧ (wr μ ≤ wr μ' ∧ bd μ ≤ bd μ') ∧ (nn μ ≤ nn μ' ∧ nn μ' ≤ nn μ + 9 * wr μ' ∧ nn μ' ≤ 9 ∧ 9 * wr μ' ≤ nn μ') ∧ (μ'.1 111 39 = μ.1 111 39) ∧ (∀ j, j < μ.1 111 39 → μ'.1 126 j = μ.1 126 j) ∧ (μ.1 111 31 ≤ μ'.1 111 31 ∧ μ'.1 111 31 ≤ 300) ∧ (0 ≤ μ'.1 111 32 ∧ μ'.1 111 32 ≤ μ'.1 111 9) ∧ (∀ _ : Unit, bd μ' = 0 → mEX μ μ' tt 0 (2 * (8 - nn μ)) 101) ∧ (mEXT μ μ'))) (hPM : PM μ) (hnn : 0 ≤ nn μ ∧ nn μ ≤ 9 ∧ 9 * wr μ ≤ nn μ) (hn8 : nn μ ≤ 8 + wr μ) (hcd : 0 ≤ μ.1 111 22 ∧ μ.1 111 22 ≤ 2 * μ.1 111 9 + 8 * nn μ + 52) (hW : 0 ≤ μ.1 111 39 ∧ μ.1 111 39 ≤ μ.1 111 22) (hsl : 0 ≤ μ.1 111 31 ∧ μ.1 111 31 ≤ 300) (hvr : 0 ≤ μ.1 111 32 ∧ μ.1 111 32 ≤ μ.1 111 9) (hw0 : wr μ = 0) (hfu : 1 ≤ kf ∧ 9 ≤ nn μ + kf) (hS0 : ∀ _ : Unit, bd μ = 0 → mS0 μ) : CtV ω l yX12_statement cX12_statement 3 (F + 3) (Lo + 76) [.ref (oP ω 111)] μ (fun (μ' : M3) => (FrM [111, 113, 115, 116, 117, 123, 124, 126] μ μ') ∧ (∀ j, j ∉ ([6, 8, 9, 10, 11, 12, 13, 15, 16, 17, 18, 22, 29, 31, 32, 34, 35, 36, 37, 39] : List Int) → μ'.1 111 j = μ.1 111 j) ∧ (PM μ') ∧ (μ.1 111 22 ≤ μ'.1 111 22 ∧ μ'.1 111 22 ≤ μ.1 111 22 + 2 * (μ'.1 111 9 - μ.1 111 9) + 8 * (nn μ' - nn μ) + (0)) ∧ (μ.1 111 9 + 1 ≤ μ'.1 111 9 + wr μ') ∧ (μ.1 111 29 ≤ μ'.1 111 29) ∧ (wr μ ≤ wr μ' ∧ bd μ ≤ bd μ') ∧ (nn μ ≤ nn μ' ∧ nn μ' ≤ nn μ + 9 * wr μ' ∧ nn μ' ≤ 9 ∧ 9 * wr μ' ≤ nn μ') ∧ (μ'.1 111 39 = μ.1 111 39) ∧ (∀ j, j < μ.1 111 39 → μ'.1 126 j = μ.1 126 j) ∧ (μ.1 111 31 ≤ μ'.1 111 31 ∧ μ'.1 111 31 ≤ 300) ∧ (0 ≤ μ'.1 111 32 ∧ μ'.1 111 32 ≤ μ'.1 111 9) ∧ (∀ _ : Unit, bd μ' = 0 → mEX μ μ' tt 0 (2 * (9 - nn μ)) 101) ∧ (mEXT μ μ')) := by
  refine CtV.go (by decide) (Nat.le_of_ble_eq_true rfl) (fun ρ p e s m below meth c R ls G hR hret hlk hl => ?_)
  have hx := G.1.1
  have hb := G.1.2.1
  have hl : lv_has ls 3 [(0, .ref (oP ω 111))] := hl
  generalize s.drawn = d0 at G ⊢
  have hw_0 := wr_r (μ := μ)
  have hpp_ := hPM.1.2.1
  have hpn_ := hPM.2.1
  have hpt_ := hPM.1.2.2.2.1
  have hpw_ := hPM.1.2.2.2.2.1
  have hpa_ := hPM.1.1
  have hht_0 : ∀ _ : Unit, bd μ = 0 → mHt μ 0 := fun _ h0 => (hS0 () h0).ht
  refine lv_aload_n hx hb dX12_statement_0 rfl (lv_at hl 0 rfl) ?_
  refine xa_geti G fd_X12 (a := 111) (x := μ.1 111 9) 9 rfl (by decide) rfl (wm 7 158 rfl rfl) ⟨rfl, rfl, rfl⟩ dX12_statement_1 rfl rfl ?_
  have hr_1 : -2147483648 ≤ μ.1 111 9 ∧ μ.1 111 9 ≤ 2147483647 := by have h9 := G.hr (a := 111) (k := 9) rfl; exact h9
  have hpg_2 : 0 ≤ μ.1 111 9 := by omega
  refine lv_istore_n (lv' := [(1, .int (iv (μ.1 111 9))), (0, .ref (oP ω 111))]) hx hb dX12_statement_4 rfl hl (by decide) rfl (fun ls hl => ?_)
  refine lv_aload_n hx hb dX12_statement_5 rfl (lv_at hl 1 rfl) ?_
  refine lv_iconst (v := iv 0) hx hb dX12_statement_6 rfl ?_
  refine lv_iload_n hx hb dX12_statement_7 rfl (lv_at hl 0 rfl) ?_
  refine xb_i2l hx hb (by unfold ir; exact ⟨by omega, by omega⟩) dX12_statement_8 ?_
  refine lv_iconst (v := iv 0) hx hb dX12_statement_9 rfl ?_
  refine xc_iV G (b := 111) (rest := []) (As := [.int (iv 0), .long (jv (μ.1 111 9)), .int (iv 0)]) (c_X12_emit ω l μ 0 (μ.1 111 9) 0 (by unfold ir; decide) (by unfold jr; omega) (by unfold ir; decide) (by (repeat' apply And.intro) <;> omega)) (wm 9 126 rfl rfl) (wm 9 128 rfl rfl) (wm 0 144 rfl rfl) rfl rfl (by decide) rfl (wm 1 18 rfl rfl) (wm 9 129 rfl rfl) (by decide) hR ⟨nfB hF (by decide), nlB hLo (by decide)⟩ (n := 3) rfl rfl (Nat.le_of_ble_eq_true rfl) hl.1 dX12_statement_10 (fun r_4 μ3 ρ d0 H locs hr_r_4 hp G => ?_)
  have hr_r_4 : -2147483648 ≤ r_4 ∧ r_4 ≤ 2147483647 := hr_r_4
  obtain ⟨F_5, hp_6, hp_7, hp_8, hp_9⟩ := hp
  have hxt_10 : mEXT μ μ3 := (mEXT.rf (μ := μ)).tr hp_7.1
  have hht_11 : ∀ _ : Unit, bd μ3 = 0 → mHt μ3 0 := fun _ h0 => (hht_0 () (bd_z (Int.le_of_eq (bd_cg (hp_6 15 (by decide)) (hp_6 16 (by decide)) (hp_6 17 (by decide))).symm) h0)).ad hp_7 rfl
  have vl_12 := hp_9
  replace hp_9 := fun _ : Unit => hp_9
  obtain ⟨hv_15, hv_16, hv_17, hv_18, hv_19, hv_20, hv_21, hv_22, hv_23, hv_24, hv_25, hv_26, hv_27, hv_28, hv_29, hv_30, hv_31, hv_32⟩ : μ.1 111 22 ≤ μ3.1 111 22 ∧ μ3.1 111 22 ≤ μ.1 111 22 + 2 * (μ.1 111 9 - μ.1 111 9) + 8 * (nn μ - nn μ) + 1 + -100 * wr μ ∧ μ.1 111 9 + 0 ≤ μ.1 111 9 ∧ nn μ + 0 ≤ nn μ ∧ nn μ ≤ nn μ + 0 + 9 * wr μ ∧ nn μ ≤ 8 + wr μ ∧ 9 * wr μ ≤ nn μ ∧ nn μ ≤ 9 ∧ wr μ ≤ wr μ ∧ wr μ ≤ 1 ∧ wr μ ≤ bd μ ∧ bd μ ≤ 1 ∧ μ.1 111 29 ≤ μ.1 111 29 ∧ μ.1 111 31 ≤ μ.1 111 31 ∧ μ.1 111 31 ≤ 300 ∧ 0 ≤ μ.1 111 32 ∧ μ.1 111 32 ≤ μ.1 111 9 ∧ μ.1 111 9 ≤ 3000 := by (repeat' apply And.intro) <;> omega
  clear vl_12
  refine lv_pop hx hb dX12_statement_13 rfl ?_
  refine lv_aload_n hx hb dX12_statement_14 rfl (lv_at hl 1 rfl) ?_
  refine xa_geti G fd_X12 (a := 111) (x := μ3.1 111 22) 22 rfl (by decide) rfl (wm 7 171 rfl rfl) ⟨rfl, rfl, rfl⟩ dX12_statement_15 rfl rfl ?_
  have hr_33 : -2147483648 ≤ μ3.1 111 22 ∧ μ3.1 111 22 ≤ 2147483647 := by have h9 := G.hr (a := 111) (k := 22) rfl; exact h9
  refine lv_sipush (v := iv 8000) hx hb dX12_statement_18 rfl ?_
  refine xb_icmp_le (tgt := 31) hx hb (by unfold ir; exact ⟨by omega, by omega⟩) (by unfold ir; exact ⟨by omega, by omega⟩) dX12_statement_21 (by decide) (fun c_21 => ?_) (fun c_21 => absurd (by omega) c_21)
  refine lv_aload_n hx hb dX12_statement_31 rfl (lv_at hl 1 rfl) ?_
  refine xa_geti G fd_X12 (a := 111) (x := μ.1 111 8) 8 rfl (by decide) rfl (wm 7 157 rfl rfl) ⟨rfl, rfl, rfl⟩ dX12_statement_32 rfl (hp_6 8 (by decide)) ?_
  have hr_34 : -2147483648 ≤ μ.1 111 8 ∧ μ.1 111 8 ≤ 2147483647 := by have h9 := G.hr (a := 111) (k := 8) rfl; rw [show μ3.1 111 8 = μ.1 111 8 from (hp_6 8 (by decide))] at h9; exact h9
  refine lv_iconst (v := iv 1) hx hb dX12_statement_35 rfl ?_
  refine xb_icmp_ne (tgt := 160) hx hb (by unfold ir; exact ⟨by omega, by omega⟩) (by unfold ir; exact ⟨by omega, by omega⟩) dX12_statement_36 (by decide) (fun c_36 => ?_) (fun c_36 => ?_)
  · replace c_36 := fun _ : Unit => c_36
    refine lv_aload_n hx hb dX12_statement_160 rfl (lv_at hl 1 rfl) ?_
    refine xa_geti G fd_X12 (a := 111) (x := μ.1 111 8) 8 rfl (by decide) rfl (wm 7 157 rfl rfl) ⟨rfl, rfl, rfl⟩ dX12_statement_161 rfl (hp_6 8 (by decide)) ?_
    refine xb_if_ne (tgt := 174) hx hb (by unfold ir; exact ⟨by omega, by omega⟩) dX12_statement_164 (by decide) (fun c_164 => ?_) (fun c_164 => ?_)
    · replace c_164 := fun _ : Unit => c_164
      refine lv_aload_n hx hb dX12_statement_174 rfl (lv_at hl 1 rfl) ?_
      have e_35 : μ3.1 111 29 = μ.1 111 29 := (hp_6 29 (by decide))
      have e_36 : μ3.1 111 14 = tt := ((hp_6 14 (by decide)).trans htt.symm)
      have hPM_37 : PM μ3 := hPM.cg (hp_6 4 (by decide)) (hp_6 6 (by decide)) (hp_6 7 (by decide)) (hp_6 8 (by decide)) (hp_6 9 (by decide)) (hp_6 11 (by decide)) (hp_6 12 (by decide)) ((((hp_6 14 (by decide)).trans htt.symm)).trans (htt.symm).symm) (hp_6 15 (by decide)) (hp_6 29 (by decide)) (fun j => (F_5.1 123 (by decide) j))
      have e_38 : wr μ3 = wr μ := (wr_cg (hp_6 15 (by decide)))
      have hw_39 := wr_r (μ := μ)
      have e_40 : nn μ3 = nn μ := (nn_cg (hp_6 15 (by decide)) (hp_6 18 (by decide)))
      have e_43 : μ3.1 111 9 = μ.1 111 9 := (hp_6 9 (by decide))
      have e_45 : μ3.1 111 39 = μ.1 111 39 := (hp_6 39 (by decide))
      have e_47 : μ3.1 111 31 = μ.1 111 31 := (hp_6 31 (by decide))
      have e_49 : μ3.1 111 32 = μ.1 111 32 := (hp_6 32 (by decide))
      have e_59 : bd μ3 = bd μ := (bd_cg (hp_6 15 (by decide)) (hp_6 16 (by decide)) (hp_6 17 (by decide)))
      refine xc_vV G (b := 111) (rest := []) (As := []) (c_X12_plain ω l μ3 F Lo kf tt (by (repeat' apply And.intro) <;> omega) hF hLo hK hPM_37 (by (repeat' apply And.intro) <;> omega) (by (repeat' apply And.intro) <;> omega) (by (repeat' apply And.intro) <;> omega) (by (repeat' apply And.intro) <;> omega) (by (repeat' apply And.intro) <;> omega) (by (repeat' apply And.intro) <;> omega) (by (repeat' apply And.intro) <;> omega) (by (repeat' apply And.intro) <;> omega) (fun _ h0 => ((hS0 () (bd_z (Int.le_of_eq (bd_cg (hp_6 15 (by decide)) (hp_6 16 (by decide)) (hp_6 17 (by decide))).symm) h0)).stp (t := tt) hp_7))) (wm 10 35 rfl rfl) (wm 10 37 rfl rfl) (wm 0 180 rfl rfl) rfl rfl (by decide) rfl (wm 1 18 rfl rfl) (wm 10 38 rfl rfl) (by decide) hR ⟨sfr (F := F) (a := 0) (by decide), slo (L := Lo) (m := 1) (a := 0) (by decide)⟩ (n := 0) rfl rfl (Nat.le_of_ble_eq_true rfl) hl.1 dX12_statement_175 (fun μ63 ρ d0 H locs hp G => ?_)
      obtain ⟨F_64, hp_65, hp_66, hp_67, hp_68, hp_69, hp_70, hp_71, hp_72, hp_73, hp_74, hp_75, hp_76, hp_77⟩ := hp
      have hpl_78 := hp_66.pl
      have hw_79 := wr_r (μ := μ63)
      have hw_80 := wr_r (μ := μ3)
      have hxt_81 : mEXT μ μ63 := hxt_10.tr hp_77
      have hwk_82 : ∀ j, j < μ.1 111 39 → μ63.1 126 j = μ3.1 126 j := fun j hj => hp_73 j (by omega)
      have hey_83 : ∀ _ : Unit, bd μ63 = 0 → mEY μ3 μ63 tt (2 * (9 - nn μ)) := fun _ h0 => (hp_76 () h0).mn (by omega)
      have vl_84 := hp_67
      replace hp_67 := fun _ : Unit => hp_67
      have vl_85 := hp_68
      replace hp_68 := fun _ : Unit => hp_68
      have vl_86 := hp_69
      replace hp_69 := fun _ : Unit => hp_69
      have vl_87 := hp_70
      replace hp_70 := fun _ : Unit => hp_70
      have vl_88 := hp_71
      replace hp_71 := fun _ : Unit => hp_71
      have vl_89 := hp_72
      replace hp_72 := fun _ : Unit => hp_72
      have vl_90 := hp_74
      replace hp_74 := fun _ : Unit => hp_74
      have vl_91 := hp_75
      replace hp_75 := fun _ : Unit => hp_75
      have h39_92 : μ63.1 111 39 = μ.1 111 39 := by omega
      obtain ⟨hv_95, hv_96, hv_97, hv_98, hv_99, hv_100, hv_101, hv_102, hv_103, hv_104, hv_105, hv_106, hv_107, hv_108, hv_109, hv_110, hv_111, hv_112, hv_113⟩ : μ.1 111 22 ≤ μ63.1 111 22 ∧ μ63.1 111 22 ≤ μ.1 111 22 + 2 * (μ63.1 111 9 - μ.1 111 9) + 8 * (nn μ63 - nn μ) + 0 + 0 * wr μ63 ∧ μ.1 111 9 + 0 ≤ μ63.1 111 9 ∧ μ.1 111 9 + 1 ≤ μ63.1 111 9 + wr μ63 ∧ nn μ + 0 ≤ nn μ63 ∧ nn μ63 ≤ nn μ + 0 + 9 * wr μ63 ∧ nn μ63 ≤ 8 + wr μ63 ∧ 9 * wr μ63 ≤ nn μ63 ∧ nn μ63 ≤ 9 ∧ wr μ ≤ wr μ63 ∧ wr μ63 ≤ 1 ∧ wr μ63 ≤ bd μ63 ∧ bd μ63 ≤ 1 ∧ μ.1 111 29 ≤ μ63.1 111 29 ∧ μ.1 111 31 ≤ μ63.1 111 31 ∧ μ63.1 111 31 ≤ 300 ∧ 0 ≤ μ63.1 111 32 ∧ μ63.1 111 32 ≤ μ63.1 111 9 ∧ μ63.1 111 9 ≤ 3000 := by (repeat' apply And.intro) <;> omega
      clear hv_15 hv_16 hv_17 hv_18 hv_19 hv_20 hv_21 hv_22 hv_23 hv_24 hv_25 hv_26 hv_27 hv_28 hv_29 hv_30 hv_31 hv_32 e_35 e_36 e_38 hw_39 e_40 e_43 e_45 e_47 e_49 e_59 hpl_78 hw_79 hw_80 vl_84 vl_85 vl_86 vl_87 vl_88 vl_89 vl_90 vl_91
      have hw_114 := wr_r (μ := μ63)
      exact xr_v G hret hlk dX12_statement_178 ⟨(FrM.tr (FrM.tr FrM.rf F_5 (by decide)) F_64 (by decide)), (fun j hj => ((hp_65 j (fun h9 => hj ((by decide : ∀ x ∈ ([6, 8, 9, 10, 11, 12, 13, 15, 16, 17, 18, 22, 29, 31, 32, 34, 35, 36, 37, 39] : List Int), x ∈ ([6, 8, 9, 10, 11, 12, 13, 15, 16, 17, 18, 22, 29, 31, 32, 34, 35, 36, 37, 39] : List Int)) j h9))).trans (hp_6 j (fun h9 => hj ((by decide : ∀ x ∈ ([22] : List Int), x ∈ ([6, 8, 9, 10, 11, 12, 13, 15, 16, 17, 18, 22, 29, 31, 32, 34, 35, 36, 37, 39] : List Int)) j h9))))), hp_66, (by (repeat' apply And.intro) <;> omega), (by (repeat' apply And.intro) <;> omega), (by (repeat' apply And.intro) <;> omega), ⟨by omega, (Int.le_trans (Int.le_of_eq (bd_cg (hp_6 15 (by decide)) (hp_6 16 (by decide)) (hp_6 17 (by decide))).symm) ((hp_70 ()).2))⟩, (by (repeat' apply And.intro) <;> omega), (by (repeat' apply And.intro) <;> omega), (fun j hj => ((hwk_82 j (by omega)).trans (F_5.1 126 (by decide) j))), (by (repeat' apply And.intro) <;> omega), (by (repeat' apply And.intro) <;> omega), (fun _ h0 => mEY.stp (hS0 () (bd_z (Int.le_trans (Int.le_of_eq (bd_cg (hp_6 15 (by decide)) (hp_6 16 (by decide)) (hp_6 17 (by decide))).symm) ((hp_70 ()).2)) h0)) hp_7 (hey_83 () h0)), hxt_81⟩
    · refine lv_aload_n hx hb dX12_statement_167 rfl (lv_at hl 1 rfl) ?_
      have e_115 : μ3.1 111 29 = μ.1 111 29 := (hp_6 29 (by decide))
      have e_116 : μ3.1 111 14 = tt := ((hp_6 14 (by decide)).trans htt.symm)
      have hPM_117 : PM μ3 := hPM.cg (hp_6 4 (by decide)) (hp_6 6 (by decide)) (hp_6 7 (by decide)) (hp_6 8 (by decide)) (hp_6 9 (by decide)) (hp_6 11 (by decide)) (hp_6 12 (by decide)) ((((hp_6 14 (by decide)).trans htt.symm)).trans (htt.symm).symm) (hp_6 15 (by decide)) (hp_6 29 (by decide)) (fun j => (F_5.1 123 (by decide) j))
      have e_118 : wr μ3 = wr μ := (wr_cg (hp_6 15 (by decide)))
      have hw_119 := wr_r (μ := μ)
      have e_120 : nn μ3 = nn μ := (nn_cg (hp_6 15 (by decide)) (hp_6 18 (by decide)))
      have e_123 : μ3.1 111 9 = μ.1 111 9 := (hp_6 9 (by decide))
      have e_125 : μ3.1 111 39 = μ.1 111 39 := (hp_6 39 (by decide))
      have e_127 : μ3.1 111 31 = μ.1 111 31 := (hp_6 31 (by decide))
      have e_129 : μ3.1 111 32 = μ.1 111 32 := (hp_6 32 (by decide))
      have e_134 : μ3.1 111 8 = μ.1 111 8 := (hp_6 8 (by decide))
      have e_140 : bd μ3 = bd μ := (bd_cg (hp_6 15 (by decide)) (hp_6 16 (by decide)) (hp_6 17 (by decide)))
      refine xc_vV G (b := 111) (rest := []) (As := []) (c_X12_named ω l μ3 F Lo kf tt (by (repeat' apply And.intro) <;> omega) hF hLo hK hPM_117 (by (repeat' apply And.intro) <;> omega) (by (repeat' apply And.intro) <;> omega) (by (repeat' apply And.intro) <;> omega) (by (repeat' apply And.intro) <;> omega) (by (repeat' apply And.intro) <;> omega) (by (repeat' apply And.intro) <;> omega) (by (repeat' apply And.intro) <;> omega) (by (repeat' apply And.intro) <;> omega) (fun _ h0 => ((hS0 () (bd_z (Int.le_of_eq (bd_cg (hp_6 15 (by decide)) (hp_6 16 (by decide)) (hp_6 17 (by decide))).symm) h0)).stp (t := tt) hp_7)) (by (repeat' apply And.intro) <;> omega)) (wm 10 39 rfl rfl) (wm 10 41 rfl rfl) (wm 0 181 rfl rfl) rfl rfl (by decide) rfl (wm 1 18 rfl rfl) (wm 10 42 rfl rfl) (by decide) hR ⟨sfr (F := F) (a := 1) (by decide), slo (L := Lo) (m := 5) (a := 20) (by decide)⟩ (n := 0) rfl rfl (Nat.le_of_ble_eq_true rfl) hl.1 dX12_statement_168 (fun μ144 ρ d0 H locs hp G => ?_)
      obtain ⟨F_145, hp_146, hp_147, hp_148, hp_149, hp_150, hp_151, hp_152, hp_153, hp_154, hp_155, hp_156, hp_157, hp_158⟩ := hp
      have hpl_159 := hp_147.pl
      have hw_160 := wr_r (μ := μ144)
      have hw_161 := wr_r (μ := μ3)
      have hxt_162 : mEXT μ μ144 := hxt_10.tr hp_158
      have hwk_163 : ∀ j, j < μ.1 111 39 → μ144.1 126 j = μ3.1 126 j := fun j hj => hp_154 j (by omega)
      have hey_164 : ∀ _ : Unit, bd μ144 = 0 → mEY μ3 μ144 tt (2 * (9 - nn μ)) := fun _ h0 => (hp_157 () h0).mn (by omega)
      have vl_165 := hp_148
      replace hp_148 := fun _ : Unit => hp_148
      have vl_166 := hp_149
      replace hp_149 := fun _ : Unit => hp_149
      have vl_167 := hp_150
      replace hp_150 := fun _ : Unit => hp_150
      have vl_168 := hp_151
      replace hp_151 := fun _ : Unit => hp_151
      have vl_169 := hp_152
      replace hp_152 := fun _ : Unit => hp_152
      have vl_170 := hp_153
      replace hp_153 := fun _ : Unit => hp_153
      have vl_171 := hp_155
      replace hp_155 := fun _ : Unit => hp_155
      have vl_172 := hp_156
      replace hp_156 := fun _ : Unit => hp_156
      have h39_173 : μ144.1 111 39 = μ.1 111 39 := by omega
      obtain ⟨hv_176, hv_177, hv_178, hv_179, hv_180, hv_181, hv_182, hv_183, hv_184, hv_185, hv_186, hv_187, hv_188, hv_189, hv_190, hv_191, hv_192, hv_193, hv_194⟩ : μ.1 111 22 ≤ μ144.1 111 22 ∧ μ144.1 111 22 ≤ μ.1 111 22 + 2 * (μ144.1 111 9 - μ.1 111 9) + 8 * (nn μ144 - nn μ) + 0 + 0 * wr μ144 ∧ μ.1 111 9 + 0 ≤ μ144.1 111 9 ∧ μ.1 111 9 + 1 ≤ μ144.1 111 9 + wr μ144 ∧ nn μ + 0 ≤ nn μ144 ∧ nn μ144 ≤ nn μ + 0 + 9 * wr μ144 ∧ nn μ144 ≤ 8 + wr μ144 ∧ 9 * wr μ144 ≤ nn μ144 ∧ nn μ144 ≤ 9 ∧ wr μ ≤ wr μ144 ∧ wr μ144 ≤ 1 ∧ wr μ144 ≤ bd μ144 ∧ bd μ144 ≤ 1 ∧ μ.1 111 29 ≤ μ144.1 111 29 ∧ μ.1 111 31 ≤ μ144.1 111 31 ∧ μ144.1 111 31 ≤ 300 ∧ 0 ≤ μ144.1 111 32 ∧ μ144.1 111 32 ≤ μ144.1 111 9 ∧ μ144.1 111 9 ≤ 3000 := by (repeat' apply And.intro) <;> omega
      clear hv_15 hv_16 hv_17 hv_18 hv_19 hv_20 hv_21 hv_22 hv_23 hv_24 hv_25 hv_26 hv_27 hv_28 hv_29 hv_30 hv_31 hv_32 e_115 e_116 e_118 hw_119 e_120 e_123 e_125 e_127 e_129 e_134 e_140 hpl_159 hw_160 hw_161 vl_165 vl_166 vl_167 vl_168 vl_169 vl_170 vl_171 vl_172
      refine lv_goto (tgt := 178) hx hb dX12_statement_171 (by decide) ?_
      have hw_195 := wr_r (μ := μ144)
      exact xr_v G hret hlk dX12_statement_178 ⟨(FrM.tr (FrM.tr FrM.rf F_5 (by decide)) F_145 (by decide)), (fun j hj => ((hp_146 j (fun h9 => hj ((by decide : ∀ x ∈ ([6, 8, 9, 10, 11, 12, 13, 15, 16, 17, 18, 22, 29, 31, 32, 34, 35, 36, 37, 39] : List Int), x ∈ ([6, 8, 9, 10, 11, 12, 13, 15, 16, 17, 18, 22, 29, 31, 32, 34, 35, 36, 37, 39] : List Int)) j h9))).trans (hp_6 j (fun h9 => hj ((by decide : ∀ x ∈ ([22] : List Int), x ∈ ([6, 8, 9, 10, 11, 12, 13, 15, 16, 17, 18, 22, 29, 31, 32, 34, 35, 36, 37, 39] : List Int)) j h9))))), hp_147, (by (repeat' apply And.intro) <;> omega), (by (repeat' apply And.intro) <;> omega), (by (repeat' apply And.intro) <;> omega), ⟨by omega, (Int.le_trans (Int.le_of_eq (bd_cg (hp_6 15 (by decide)) (hp_6 16 (by decide)) (hp_6 17 (by decide))).symm) ((hp_151 ()).2))⟩, (by (repeat' apply And.intro) <;> omega), (by (repeat' apply And.intro) <;> omega), (fun j hj => ((hwk_163 j (by omega)).trans (F_5.1 126 (by decide) j))), (by (repeat' apply And.intro) <;> omega), (by (repeat' apply And.intro) <;> omega), (fun _ h0 => mEY.stp (hS0 () (bd_z (Int.le_trans (Int.le_of_eq (bd_cg (hp_6 15 (by decide)) (hp_6 16 (by decide)) (hp_6 17 (by decide))).symm) ((hp_151 ()).2)) h0)) hp_7 (hey_164 () h0)), hxt_162⟩
  · refine lv_aload_n hx hb dX12_statement_39 rfl (lv_at hl 1 rfl) ?_
    refine xa_geti G fd_X12 (a := 111) (x := μ.1 111 11) 11 rfl (by decide) rfl (wm 7 160 rfl rfl) ⟨rfl, rfl, rfl⟩ dX12_statement_40 rfl (hp_6 11 (by decide)) ?_
    have hr_196 : -2147483648 ≤ μ.1 111 11 ∧ μ.1 111 11 ≤ 2147483647 := by have h9 := G.hr (a := 111) (k := 11) rfl; rw [show μ3.1 111 11 = μ.1 111 11 from (hp_6 11 (by decide))] at h9; exact h9
    refine lv_iconst (v := iv 3) hx hb dX12_statement_43 rfl ?_
    refine xb_icmp_ne (tgt := 54) hx hb (by unfold ir; exact ⟨by omega, by omega⟩) (by unfold ir; exact ⟨by omega, by omega⟩) dX12_statement_44 (by decide) (fun c_44 => ?_) (fun c_44 => ?_)
    · replace c_44 := fun _ : Unit => c_44
      refine lv_aload_n hx hb dX12_statement_54 rfl (lv_at hl 1 rfl) ?_
      refine xa_geti G fd_X12 (a := 111) (x := μ.1 111 11) 11 rfl (by decide) rfl (wm 7 160 rfl rfl) ⟨rfl, rfl, rfl⟩ dX12_statement_55 rfl (hp_6 11 (by decide)) ?_
      refine lv_iconst (v := iv 4) hx hb dX12_statement_58 rfl ?_
      refine xb_icmp_ne (tgt := 69) hx hb (by unfold ir; exact ⟨by omega, by omega⟩) (by unfold ir; exact ⟨by omega, by omega⟩) dX12_statement_59 (by decide) (fun c_59 => ?_) (fun c_59 => ?_)
      · replace c_59 := fun _ : Unit => c_59
        refine lv_aload_n hx hb dX12_statement_69 rfl (lv_at hl 1 rfl) ?_
        refine xa_geti G fd_X12 (a := 111) (x := μ.1 111 11) 11 rfl (by decide) rfl (wm 7 160 rfl rfl) ⟨rfl, rfl, rfl⟩ dX12_statement_70 rfl (hp_6 11 (by decide)) ?_
        refine lv_bipush (v := iv 6) hx hb dX12_statement_73 rfl ?_
        refine xb_icmp_ne (tgt := 86) hx hb (by unfold ir; exact ⟨by omega, by omega⟩) (by unfold ir; exact ⟨by omega, by omega⟩) dX12_statement_75 (by decide) (fun c_75 => ?_) (fun c_75 => ?_)
        · replace c_75 := fun _ : Unit => c_75
          refine lv_aload_n hx hb dX12_statement_86 rfl (lv_at hl 1 rfl) ?_
          refine xa_geti G fd_X12 (a := 111) (x := μ.1 111 11) 11 rfl (by decide) rfl (wm 7 160 rfl rfl) ⟨rfl, rfl, rfl⟩ dX12_statement_87 rfl (hp_6 11 (by decide)) ?_
          refine lv_bipush (v := iv 7) hx hb dX12_statement_90 rfl ?_
          refine xb_icmp_eq (tgt := 104) hx hb (by unfold ir; exact ⟨by omega, by omega⟩) (by unfold ir; exact ⟨by omega, by omega⟩) dX12_statement_92 (by decide) (fun c_92 => ?_) (fun c_92 => ?_)
          · refine lv_aload_n hx hb dX12_statement_104 rfl (lv_at hl 1 rfl) ?_
            refine xa_geti G fd_X12 (a := 111) (x := μ.1 111 11) 11 rfl (by decide) rfl (wm 7 160 rfl rfl) ⟨rfl, rfl, rfl⟩ dX12_statement_105 rfl (hp_6 11 (by decide)) ?_
            refine lv_bipush (v := iv 7) hx hb dX12_statement_108 rfl ?_
            refine xb_icmp_ne (tgt := 118) hx hb (by unfold ir; exact ⟨by omega, by omega⟩) (by unfold ir; exact ⟨by omega, by omega⟩) dX12_statement_110 (by decide) (fun c_110 => ?_) (fun c_110 => ?_)
            · replace c_110 := fun _ : Unit => c_110
              refine lv_bipush (v := iv 10) hx hb dX12_statement_118 rfl ?_
              refine lv_istore_n (lv' := [(2, .int (iv 10)), (1, .int (iv (μ.1 111 9))), (0, .ref (oP ω 111))]) hx hb dX12_statement_120 rfl hl (by decide) rfl (fun ls hl => ?_)
              refine lv_aload_n hx hb dX12_statement_121 rfl (lv_at hl 2 rfl) ?_
              have hPM_197 : PM μ3 := hPM.cg (hp_6 4 (by decide)) (hp_6 6 (by decide)) (hp_6 7 (by decide)) (hp_6 8 (by decide)) (hp_6 9 (by decide)) (hp_6 11 (by decide)) (hp_6 12 (by decide)) ((((hp_6 14 (by decide)).trans htt.symm)).trans (htt.symm).symm) (hp_6 15 (by decide)) (hp_6 29 (by decide)) (fun j => (F_5.1 123 (by decide) j))
              have e_198 : wr μ3 = wr μ := (wr_cg (hp_6 15 (by decide)))
              have hw_199 := wr_r (μ := μ)
              have e_200 : nn μ3 = nn μ := (nn_cg (hp_6 15 (by decide)) (hp_6 18 (by decide)))
              have e_201 : μ3.1 111 8 = μ.1 111 8 := (hp_6 8 (by decide))
              have e_203 : μ3.1 111 9 = μ.1 111 9 := (hp_6 9 (by decide))
              have e_206 : bd μ3 = bd μ := (bd_cg (hp_6 15 (by decide)) (hp_6 16 (by decide)) (hp_6 17 (by decide)))
              refine xc_vV G (b := 111) (rest := []) (As := []) (c_X12_next ω l μ3  hPM_197 (by (repeat' apply And.intro) <;> omega) (by (repeat' apply And.intro) <;> omega)) (wm 9 0 rfl rfl) (wm 9 2 rfl rfl) (wm 0 119 rfl rfl) rfl rfl (by decide) rfl (wm 1 18 rfl rfl) (wm 9 3 rfl rfl) (by decide) hR ⟨nfB hF (by decide), nlB hLo (by decide)⟩ (n := 0) rfl rfl (Nat.le_of_ble_eq_true rfl) hl.1 dX12_statement_122 (fun μ208 ρ d0 H locs hp G => ?_)
              obtain ⟨F_209, hp_210, hp_211, hp_212, hp_213, hp_214⟩ := hp
              have hpl_215 := hp_211.pl
              have hw_216 := wr_r (μ := μ3)
              have hw_217 := wr_r (μ := μ208)
              have vl_218 := hp_212
              replace hp_212 := fun _ : Unit => hp_212
              have vl_219 := hp_213
              replace hp_213 := fun _ : Unit => hp_213
              have vl_220 := hp_214
              replace hp_214 := fun _ : Unit => hp_214
              obtain ⟨hv_223, hv_224, hv_225, hv_226, hv_227, hv_228, hv_229, hv_230, hv_231, hv_232, hv_233, hv_234, hv_235, hv_236, hv_237, hv_238, hv_239, hv_240⟩ : μ.1 111 22 ≤ μ3.1 111 22 ∧ μ3.1 111 22 ≤ μ.1 111 22 + 2 * (μ208.1 111 9 - μ.1 111 9) + 8 * (nn μ208 - nn μ) - 1 + -6 * wr μ208 ∧ μ.1 111 9 + 1 ≤ μ208.1 111 9 ∧ nn μ + 0 ≤ nn μ208 ∧ nn μ208 ≤ nn μ + 0 + 9 * wr μ208 ∧ nn μ208 ≤ 8 + wr μ208 ∧ 9 * wr μ208 ≤ nn μ208 ∧ nn μ208 ≤ 9 ∧ wr μ ≤ wr μ208 ∧ wr μ208 ≤ 1 ∧ wr μ208 ≤ bd μ208 ∧ bd μ208 ≤ 1 ∧ μ.1 111 29 ≤ μ.1 111 29 ∧ μ.1 111 31 ≤ μ.1 111 31 ∧ μ.1 111 31 ≤ 300 ∧ 0 ≤ μ.1 111 32 ∧ μ.1 111 32 ≤ μ208.1 111 9 ∧ μ208.1 111 9 ≤ 3000 := by (repeat' apply And.intro) <;> omega
              clear hv_15 hv_16 hv_17 hv_18 hv_19 hv_20 hv_21 hv_22 hv_23 hv_24 hv_25 hv_26 hv_27 hv_28 hv_29 hv_30 hv_31 hv_32 e_198 hw_199 e_200 e_201 e_203 e_206 hpl_215 hw_216 hw_217 vl_218 vl_219 vl_220
              refine lv_aload_n hx hb dX12_statement_125 rfl (lv_at hl 2 rfl) ?_
              have hq_241 : ∀ _ : Unit, q0m μ3 μ208 := fun _ => (q0m.fr (K := [111]) (FrM.tr FrM.rf F_209 (by decide)) (by decide) (by decide) (by decide) (hp_210 22 (by decide)) (nS.le (Int.le_of_eq (hp_210 29 (by decide)).symm) (Int.le_of_eq (hp_210 31 (by decide)).symm)))
              have hw_242 := wr_r (μ := μ208)
              have hht_243 : ∀ _ : Unit, bd μ208 = 0 → mHt μ208 0 := fun _ h0 => (hht_11 () (bd_z ((hp_213 ()).2) h0)).qm (hq_241 ())
              have e_244 : μ208.1 111 29 = μ.1 111 29 := ((hp_210 29 (by decide)).trans (hp_6 29 (by decide)))
              have hxt_245 : mEXT μ μ208 := hxt_10.tr (q0m.fr (K := [111]) (FrM.tr FrM.rf F_209 (by decide)) (by decide) (by decide) (by decide) (hp_210 22 (by decide)) (nS.le (Int.le_of_eq (hp_210 29 (by decide)).symm) (Int.le_of_eq (hp_210 31 (by decide)).symm))).1
              have e_246 : μ208.1 111 14 = tt := ((hp_210 14 (by decide)).trans ((hp_6 14 (by decide)).trans htt.symm))
              have e_247 : μ208.1 111 22 = μ3.1 111 22 := (hp_210 22 (by decide))
              have e_249 : μ208.1 111 39 = μ.1 111 39 := ((hp_210 39 (by decide)).trans (hp_6 39 (by decide)))
              have e_252 : μ208.1 111 31 = μ.1 111 31 := ((hp_210 31 (by decide)).trans (hp_6 31 (by decide)))
              refine xc_vV G (b := 111) (rest := []) (As := []) (c_X12_expr_a ω l μ208 tt (by (repeat' apply And.intro) <;> omega) hp_211 (by (repeat' apply And.intro) <;> omega) (by (repeat' apply And.intro) <;> omega) (by (repeat' apply And.intro) <;> omega) (by (repeat' apply And.intro) <;> omega) (by (repeat' apply And.intro) <;> omega) (fun _ h0 => (hht_243 () h0).p (by decide))) (wm 9 139 rfl rfl) (wm 9 141 rfl rfl) (wm 0 147 rfl rfl) rfl rfl (by decide) rfl (wm 1 18 rfl rfl) (wm 9 142 rfl rfl) (by decide) hR ⟨nfB hF (by decide), nlB hLo (by decide)⟩ (n := 0) rfl rfl (Nat.le_of_ble_eq_true rfl) hl.1 dX12_statement_126 (fun μ258 ρ d0 H locs hp G => ?_)
              obtain ⟨F_259, hp_260, hp_261, hp_262, hp_263, hp_264, hp_265, hp_266, hp_267, hp_268, hp_269, hp_270⟩ := hp
              have hpl_271 := hp_261.pl
              have hw_272 := wr_r (μ := μ258)
              have hxt_273 : mEXT μ μ258 := hxt_245.tr hp_270
              have hwk_274 : ∀ j, j < μ.1 111 39 → μ258.1 126 j = μ208.1 126 j := fun j hj => hp_268 j (by omega)
              have hex_275 : ∀ _ : Unit, bd μ258 = 0 → mEX μ208 μ258 tt 1 0 99 := fun _ h0 => (hp_269 () h0).mn (Int.le_refl _) (by omega)
              have hht_276 : ∀ _ : Unit, bd μ258 = 0 → mHt μ258 1 := fun _ h0 => (hht_243 () (bd_z (hp_265.2) h0)).ex (hex_275 () h0) rfl
              have vl_277 := hp_262
              replace hp_262 := fun _ : Unit => hp_262
              have vl_278 := hp_263
              replace hp_263 := fun _ : Unit => hp_263
              have vl_279 := hp_264
              replace hp_264 := fun _ : Unit => hp_264
              have vl_280 := hp_265
              replace hp_265 := fun _ : Unit => hp_265
              have vl_281 := hp_266
              replace hp_266 := fun _ : Unit => hp_266
              have vl_282 := hp_267
              replace hp_267 := fun _ : Unit => hp_267
              have h39_283 : μ258.1 111 39 = μ.1 111 39 := by omega
              obtain ⟨hv_286, hv_287, hv_288, hv_289, hv_290, hv_291, hv_292, hv_293, hv_294, hv_295, hv_296, hv_297, hv_298, hv_299, hv_300, hv_301, hv_302, hv_303⟩ : μ.1 111 22 ≤ μ258.1 111 22 ∧ μ258.1 111 22 ≤ μ.1 111 22 + 2 * (μ258.1 111 9 - μ.1 111 9) + 8 * (nn μ258 - nn μ) - 2 + -5 * wr μ258 ∧ μ.1 111 9 + 1 ≤ μ258.1 111 9 ∧ nn μ + 0 ≤ nn μ258 ∧ nn μ258 ≤ nn μ + 0 + 9 * wr μ258 ∧ nn μ258 ≤ 8 + wr μ258 ∧ 9 * wr μ258 ≤ nn μ258 ∧ nn μ258 ≤ 9 ∧ wr μ ≤ wr μ258 ∧ wr μ258 ≤ 1 ∧ wr μ258 ≤ bd μ258 ∧ bd μ258 ≤ 1 ∧ μ.1 111 29 ≤ μ258.1 111 29 ∧ μ.1 111 31 ≤ μ.1 111 31 ∧ μ.1 111 31 ≤ 300 ∧ 0 ≤ μ.1 111 32 ∧ μ.1 111 32 ≤ μ258.1 111 9 ∧ μ258.1 111 9 ≤ 3000 := by (repeat' apply And.intro) <;> omega
              clear hv_223 hv_224 hv_225 hv_226 hv_227 hv_228 hv_229 hv_230 hv_231 hv_232 hv_233 hv_234 hv_235 hv_236 hv_237 hv_238 hv_239 hv_240 hw_242 e_244 e_246 e_247 e_249 e_252 hpl_271 hw_272 vl_277 vl_278 vl_279 vl_280 vl_281 vl_282
              refine lv_aload_n hx hb dX12_statement_129 rfl (lv_at hl 2 rfl) ?_
              refine lv_bipush (v := iv 59) hx hb dX12_statement_130 rfl ?_
              have hw_304 := wr_r (μ := μ258)
              refine xc_vV G (b := 111) (rest := []) (As := [.int (iv 59)]) (c_X12_wantsSign ω l μ258 59 (by unfold ir; decide) hp_261 (by (repeat' apply And.intro) <;> omega)) (wm 9 114 rfl rfl) (wm 9 116 rfl rfl) (wm 0 141 rfl rfl) rfl rfl (by decide) rfl (wm 1 18 rfl rfl) (wm 9 117 rfl rfl) (by decide) hR ⟨nfB hF (by decide), nlB hLo (by decide)⟩ (n := 1) rfl rfl (Nat.le_of_ble_eq_true rfl) hl.1 dX12_statement_132 (fun μ305 ρ d0 H locs hp G => ?_)
              obtain ⟨F_306, hp_307, hp_308, hp_309, hp_310, hp_311, hp_312⟩ := hp
              have hpl_313 := hp_308.pl
              have hw_314 := wr_r (μ := μ305)
              have vl_315 := hp_309
              replace hp_309 := fun _ : Unit => hp_309
              have vl_316 := hp_310
              replace hp_310 := fun _ : Unit => hp_310
              have vl_317 := hp_311
              replace hp_311 := fun _ : Unit => hp_311
              have vl_318 := hp_312
              replace hp_312 := fun _ : Unit => hp_312
              obtain ⟨hv_321, hv_322, hv_323, hv_324, hv_325, hv_326, hv_327, hv_328, hv_329, hv_330, hv_331, hv_332, hv_333, hv_334, hv_335, hv_336, hv_337, hv_338⟩ : μ.1 111 22 ≤ μ258.1 111 22 ∧ μ258.1 111 22 ≤ μ.1 111 22 + 2 * (μ305.1 111 9 - μ.1 111 9) + 8 * (nn μ305 - nn μ) - 4 + -3 * wr μ305 ∧ μ.1 111 9 + 1 ≤ μ305.1 111 9 ∧ nn μ + 0 ≤ nn μ305 ∧ nn μ305 ≤ nn μ + 0 + 9 * wr μ305 ∧ nn μ305 ≤ 8 + wr μ305 ∧ 9 * wr μ305 ≤ nn μ305 ∧ nn μ305 ≤ 9 ∧ wr μ ≤ wr μ305 ∧ wr μ305 ≤ 1 ∧ wr μ305 ≤ bd μ305 ∧ bd μ305 ≤ 1 ∧ μ.1 111 29 ≤ μ258.1 111 29 ∧ μ.1 111 31 ≤ μ.1 111 31 ∧ μ.1 111 31 ≤ 300 ∧ 0 ≤ μ.1 111 32 ∧ μ.1 111 32 ≤ μ305.1 111 9 ∧ μ305.1 111 9 ≤ 3000 := by (repeat' apply And.intro) <;> omega
              clear hv_286 hv_287 hv_288 hv_289 hv_290 hv_291 hv_292 hv_293 hv_294 hv_295 hv_296 hv_297 hv_298 hv_299 hv_300 hv_301 hv_302 hv_303 hw_304 hpl_313 hw_314 vl_315 vl_316 vl_317 vl_318
              refine lv_aload_n hx hb dX12_statement_135 rfl (lv_at hl 2 rfl) ?_
              refine lv_iload_n hx hb dX12_statement_136 rfl (lv_at hl 0 rfl) ?_
              refine lv_lconst (v := jv 0) hx hb dX12_statement_137 rfl ?_
              refine lv_iconst (v := iv 0) hx hb dX12_statement_138 rfl ?_
              have hq_339 : ∀ _ : Unit, q0m μ258 μ305 := fun _ => (q0m.fr (K := [111]) (FrM.tr FrM.rf F_306 (by decide)) (by decide) (by decide) (by decide) (hp_307 22 (by decide)) (nS.le (Int.le_of_eq (hp_307 29 (by decide)).symm) (Int.le_of_eq (hp_307 31 (by decide)).symm)))
              have hw_340 := wr_r (μ := μ305)
              have hht_341 : ∀ _ : Unit, bd μ305 = 0 → mHt μ305 1 := fun _ h0 => (hht_276 () (bd_z ((hp_311 ()).2) h0)).qm (hq_339 ())
              have e_342 : μ305.1 111 29 = μ258.1 111 29 := (hp_307 29 (by decide))
              have hxt_343 : mEXT μ μ305 := hxt_273.tr (q0m.fr (K := [111]) (FrM.tr FrM.rf F_306 (by decide)) (by decide) (by decide) (by decide) (hp_307 22 (by decide)) (nS.le (Int.le_of_eq (hp_307 29 (by decide)).symm) (Int.le_of_eq (hp_307 31 (by decide)).symm))).1
              have e_344 : μ305.1 111 22 = μ258.1 111 22 := (hp_307 22 (by decide))
              refine xc_iV G (b := 111) (rest := []) (As := [.int (iv 10), .long (jv 0), .int (iv 0)]) (c_X12_emit ω l μ305 10 0 0 (by unfold ir; decide) (by unfold jr; omega) (by unfold ir; decide) (by (repeat' apply And.intro) <;> omega)) (wm 9 126 rfl rfl) (wm 9 128 rfl rfl) (wm 0 144 rfl rfl) rfl rfl (by decide) rfl (wm 1 18 rfl rfl) (wm 9 129 rfl rfl) (by decide) hR ⟨nfB hF (by decide), nlB hLo (by decide)⟩ (n := 3) rfl rfl (Nat.le_of_ble_eq_true rfl) hl.1 dX12_statement_139 (fun r_349 μ348 ρ d0 H locs hr_r_349 hp G => ?_)
              have hr_r_349 : -2147483648 ≤ r_349 ∧ r_349 ≤ 2147483647 := hr_r_349
              obtain ⟨F_350, hp_351, hp_352, hp_353, hp_354⟩ := hp
              have hxt_355 : mEXT μ μ348 := hxt_343.tr hp_352.1
              have hht_356 : ∀ _ : Unit, bd μ348 = 0 → mHt μ348 0 := fun _ h0 => (hht_341 () (bd_z (Int.le_of_eq (bd_cg (hp_351 15 (by decide)) (hp_351 16 (by decide)) (hp_351 17 (by decide))).symm) h0)).ad hp_352 rfl
              have vl_357 := hp_354
              replace hp_354 := fun _ : Unit => hp_354
              obtain ⟨hv_360, hv_361, hv_362, hv_363, hv_364, hv_365, hv_366, hv_367, hv_368, hv_369, hv_370, hv_371, hv_372, hv_373, hv_374, hv_375, hv_376, hv_377⟩ : μ.1 111 22 ≤ μ348.1 111 22 ∧ μ348.1 111 22 ≤ μ.1 111 22 + 2 * (μ305.1 111 9 - μ.1 111 9) + 8 * (nn μ305 - nn μ) - 3 + -3 * wr μ305 ∧ μ.1 111 9 + 1 ≤ μ305.1 111 9 ∧ nn μ + 0 ≤ nn μ305 ∧ nn μ305 ≤ nn μ + 0 + 9 * wr μ305 ∧ nn μ305 ≤ 8 + wr μ305 ∧ 9 * wr μ305 ≤ nn μ305 ∧ nn μ305 ≤ 9 ∧ wr μ ≤ wr μ305 ∧ wr μ305 ≤ 1 ∧ wr μ305 ≤ bd μ305 ∧ bd μ305 ≤ 1 ∧ μ.1 111 29 ≤ μ258.1 111 29 ∧ μ.1 111 31 ≤ μ.1 111 31 ∧ μ.1 111 31 ≤ 300 ∧ 0 ≤ μ.1 111 32 ∧ μ.1 111 32 ≤ μ305.1 111 9 ∧ μ305.1 111 9 ≤ 3000 := by (repeat' apply And.intro) <;> omega
              clear hv_321 hv_322 hv_323 hv_324 hv_325 hv_326 hv_327 hv_328 hv_329 hv_330 hv_331 hv_332 hv_333 hv_334 hv_335 hv_336 hv_337 hv_338 hw_340 e_342 e_344 vl_357
              refine lv_pop hx hb dX12_statement_142 rfl ?_
              refine lv_goto (tgt := 178) hx hb dX12_statement_143 (by decide) ?_
              have e_378 : μ348.1 111 9 = μ305.1 111 9 := (hp_351 9 (by decide))
              have e_379 : μ348.1 111 29 = μ258.1 111 29 := ((hp_351 29 (by decide)).trans (hp_307 29 (by decide)))
              have e_380 : μ348.1 111 39 = μ258.1 111 39 := ((hp_351 39 (by decide)).trans (hp_307 39 (by decide)))
              have e_381 : μ348.1 111 31 = μ.1 111 31 := ((hp_351 31 (by decide)).trans ((hp_307 31 (by decide)).trans ((hp_260 31 (by decide)).trans ((hp_210 31 (by decide)).trans (hp_6 31 (by decide))))))
              have e_382 : μ348.1 111 32 = μ.1 111 32 := ((hp_351 32 (by decide)).trans ((hp_307 32 (by decide)).trans ((hp_260 32 (by decide)).trans ((hp_210 32 (by decide)).trans (hp_6 32 (by decide))))))
              have e_383 : μ348.1 111 6 = μ305.1 111 6 := (hp_351 6 (by decide))
              have e_384 : wr μ348 = wr μ305 := (wr_cg (hp_351 15 (by decide)))
              have hw_385 := wr_r (μ := μ305)
              have e_386 : bd μ348 = bd μ305 := (bd_cg (hp_351 15 (by decide)) (hp_351 16 (by decide)) (hp_351 17 (by decide)))
              have e_387 : nn μ348 = nn μ305 := (nn_cg (hp_351 15 (by decide)) (hp_351 18 (by decide)))
              have hPM_388 : PM μ348 := hp_308.cg ((((hp_351 4 (by decide)).trans ((hp_307 4 (by decide)).trans ((hp_260 4 (by decide)).trans ((hp_210 4 (by decide)).trans (hp_6 4 (by decide))))))).trans (((hp_307 4 (by decide)).trans ((hp_260 4 (by decide)).trans ((hp_210 4 (by decide)).trans (hp_6 4 (by decide)))))).symm) (hp_351 6 (by decide)) ((((hp_351 7 (by decide)).trans ((hp_307 7 (by decide)).trans ((hp_260 7 (by decide)).trans ((hp_210 7 (by decide)).trans (hp_6 7 (by decide))))))).trans (((hp_307 7 (by decide)).trans ((hp_260 7 (by decide)).trans ((hp_210 7 (by decide)).trans (hp_6 7 (by decide)))))).symm) (hp_351 8 (by decide)) (hp_351 9 (by decide)) (hp_351 11 (by decide)) (hp_351 12 (by decide)) ((((hp_351 14 (by decide)).trans ((hp_307 14 (by decide)).trans ((hp_260 14 (by decide)).trans ((hp_210 14 (by decide)).trans ((hp_6 14 (by decide)).trans htt.symm)))))).trans (((hp_307 14 (by decide)).trans ((hp_260 14 (by decide)).trans ((hp_210 14 (by decide)).trans ((hp_6 14 (by decide)).trans htt.symm))))).symm) (hp_351 15 (by decide)) ((((hp_351 29 (by decide)).trans (hp_307 29 (by decide)))).trans ((hp_307 29 (by decide))).symm) (fun j => (F_350.1 123 (by decide) j))
              exact xr_v G hret hlk dX12_statement_178 ⟨(FrM.tr (FrM.tr (FrM.tr (FrM.tr (FrM.tr FrM.rf F_5 (by decide)) F_209 (by decide)) F_259 (by decide)) F_306 (by decide)) F_350 (by decide)), (fun j hj => ((hp_351 j (fun h9 => hj ((by decide : ∀ x ∈ ([22] : List Int), x ∈ ([6, 8, 9, 10, 11, 12, 13, 15, 16, 17, 18, 22, 29, 31, 32, 34, 35, 36, 37, 39] : List Int)) j h9))).trans ((hp_307 j (fun h9 => hj ((by decide : ∀ x ∈ ([6, 8, 9, 10, 11, 12, 13, 15] : List Int), x ∈ ([6, 8, 9, 10, 11, 12, 13, 15, 16, 17, 18, 22, 29, 31, 32, 34, 35, 36, 37, 39] : List Int)) j h9))).trans ((hp_260 j (fun h9 => hj ((by decide : ∀ x ∈ ([6, 8, 9, 10, 11, 12, 13, 15, 16, 17, 18, 22, 29, 39] : List Int), x ∈ ([6, 8, 9, 10, 11, 12, 13, 15, 16, 17, 18, 22, 29, 31, 32, 34, 35, 36, 37, 39] : List Int)) j h9))).trans ((hp_210 j (fun h9 => hj ((by decide : ∀ x ∈ ([6, 8, 9, 10, 11, 12, 13, 15] : List Int), x ∈ ([6, 8, 9, 10, 11, 12, 13, 15, 16, 17, 18, 22, 29, 31, 32, 34, 35, 36, 37, 39] : List Int)) j h9))).trans (hp_6 j (fun h9 => hj ((by decide : ∀ x ∈ ([22] : List Int), x ∈ ([6, 8, 9, 10, 11, 12, 13, 15, 16, 17, 18, 22, 29, 31, 32, 34, 35, 36, 37, 39] : List Int)) j h9)))))))), hPM_388, (by (repeat' apply And.intro) <;> omega), (by (repeat' apply And.intro) <;> omega), (by (repeat' apply And.intro) <;> omega), ⟨by omega, (Int.le_trans (Int.le_trans (Int.le_trans (Int.le_trans (Int.le_of_eq (bd_cg (hp_6 15 (by decide)) (hp_6 16 (by decide)) (hp_6 17 (by decide))).symm) ((hp_213 ()).2)) ((hp_265 ()).2)) ((hp_311 ()).2)) (Int.le_of_eq (bd_cg (hp_351 15 (by decide)) (hp_351 16 (by decide)) (hp_351 17 (by decide))).symm))⟩, (by (repeat' apply And.intro) <;> omega), (by (repeat' apply And.intro) <;> omega), (fun j hj => ((F_350.1 126 (by decide) j).trans ((F_306.1 126 (by decide) j).trans ((hwk_274 j (by omega)).trans ((F_209.1 126 (by decide) j).trans (F_5.1 126 (by decide) j)))))), (by (repeat' apply And.intro) <;> omega), (by (repeat' apply And.intro) <;> omega), (fun _ h0 => mEY.stp (hS0 () (bd_z (Int.le_trans (Int.le_trans (Int.le_trans (Int.le_trans (Int.le_of_eq (bd_cg (hp_6 15 (by decide)) (hp_6 16 (by decide)) (hp_6 17 (by decide))).symm) ((hp_213 ()).2)) ((hp_265 ()).2)) ((hp_311 ()).2)) (Int.le_of_eq (bd_cg (hp_351 15 (by decide)) (hp_351 16 (by decide)) (hp_351 17 (by decide))).symm)) h0)) (hp_7.qm (hq_241 ())) (as_one (M := (2 * (9 - nn μ))) ((hS0 () (bd_z (Int.le_trans (Int.le_trans (Int.le_trans (Int.le_trans (Int.le_of_eq (bd_cg (hp_6 15 (by decide)) (hp_6 16 (by decide)) (hp_6 17 (by decide))).symm) ((hp_213 ()).2)) ((hp_265 ()).2)) ((hp_311 ()).2)) (Int.le_of_eq (bd_cg (hp_351 15 (by decide)) (hp_351 16 (by decide)) (hp_351 17 (by decide))).symm)) h0)).stp (t := tt) (hp_7.qm (hq_241 ()))).s ((hex_275 () (bd_z (Int.le_trans ((hp_311 ()).2) (Int.le_of_eq (bd_cg (hp_351 15 (by decide)) (hp_351 16 (by decide)) (hp_351 17 (by decide))).symm)) h0)).qm (hq_339 ())) (by omega) (by omega) hp_352 (by unfold mpl; omega) rfl rfl (fun h1 => ⟨fun q => absurd q (by decide), ⟨fun q => absurd q (by decide), fun q => absurd q (by decide)⟩, fun _ => by omega, fun q => absurd q (by decide), fun q => absurd q (by decide), fun q => absurd q (by decide), fun q => absurd q (by decide), fun q => absurd q (by decide), fun q => absurd q (by decide), fun q => absurd q (by decide), fun q => absurd q (by decide), fun q => absurd q (by decide), fun q => absurd q (by decide), fun q => absurd q (by decide), fun q => absurd q (by decide), fun q => absurd q (by decide), fun q => absurd q (by decide), fun q => absurd q (by decide), fun q => absurd q (by decide), fun q => absurd q (by decide), fun q => absurd q (by decide), ⟨fun q => absurd q (by decide), fun q => absurd q (by decide), fun q => absurd q (by decide)⟩, ⟨by decide, by decide⟩⟩))), hxt_355⟩
            · refine lv_bipush (v := iv 9) hx hb dX12_statement_113 rfl ?_
              refine lv_goto (tgt := 120) hx hb dX12_statement_115 (by decide) ?_
              refine lv_istore_n (lv' := [(2, .int (iv 9)), (1, .int (iv (μ.1 111 9))), (0, .ref (oP ω 111))]) hx hb dX12_statement_120 rfl hl (by decide) rfl (fun ls hl => ?_)
              refine lv_aload_n hx hb dX12_statement_121 rfl (lv_at hl 2 rfl) ?_
              have hPM_402 : PM μ3 := hPM.cg (hp_6 4 (by decide)) (hp_6 6 (by decide)) (hp_6 7 (by decide)) (hp_6 8 (by decide)) (hp_6 9 (by decide)) (hp_6 11 (by decide)) (hp_6 12 (by decide)) ((((hp_6 14 (by decide)).trans htt.symm)).trans (htt.symm).symm) (hp_6 15 (by decide)) (hp_6 29 (by decide)) (fun j => (F_5.1 123 (by decide) j))
              have e_403 : wr μ3 = wr μ := (wr_cg (hp_6 15 (by decide)))
              have hw_404 := wr_r (μ := μ)
              have e_405 : nn μ3 = nn μ := (nn_cg (hp_6 15 (by decide)) (hp_6 18 (by decide)))
              have e_406 : μ3.1 111 8 = μ.1 111 8 := (hp_6 8 (by decide))
              have e_408 : μ3.1 111 9 = μ.1 111 9 := (hp_6 9 (by decide))
              have e_411 : bd μ3 = bd μ := (bd_cg (hp_6 15 (by decide)) (hp_6 16 (by decide)) (hp_6 17 (by decide)))
              refine xc_vV G (b := 111) (rest := []) (As := []) (c_X12_next ω l μ3  hPM_402 (by (repeat' apply And.intro) <;> omega) (by (repeat' apply And.intro) <;> omega)) (wm 9 0 rfl rfl) (wm 9 2 rfl rfl) (wm 0 119 rfl rfl) rfl rfl (by decide) rfl (wm 1 18 rfl rfl) (wm 9 3 rfl rfl) (by decide) hR ⟨nfB hF (by decide), nlB hLo (by decide)⟩ (n := 0) rfl rfl (Nat.le_of_ble_eq_true rfl) hl.1 dX12_statement_122 (fun μ413 ρ d0 H locs hp G => ?_)
              obtain ⟨F_414, hp_415, hp_416, hp_417, hp_418, hp_419⟩ := hp
              have hpl_420 := hp_416.pl
              have hw_421 := wr_r (μ := μ3)
              have hw_422 := wr_r (μ := μ413)
              have vl_423 := hp_417
              replace hp_417 := fun _ : Unit => hp_417
              have vl_424 := hp_418
              replace hp_418 := fun _ : Unit => hp_418
              have vl_425 := hp_419
              replace hp_419 := fun _ : Unit => hp_419
              obtain ⟨hv_428, hv_429, hv_430, hv_431, hv_432, hv_433, hv_434, hv_435, hv_436, hv_437, hv_438, hv_439, hv_440, hv_441, hv_442, hv_443, hv_444, hv_445⟩ : μ.1 111 22 ≤ μ3.1 111 22 ∧ μ3.1 111 22 ≤ μ.1 111 22 + 2 * (μ413.1 111 9 - μ.1 111 9) + 8 * (nn μ413 - nn μ) - 1 + -6 * wr μ413 ∧ μ.1 111 9 + 1 ≤ μ413.1 111 9 ∧ nn μ + 0 ≤ nn μ413 ∧ nn μ413 ≤ nn μ + 0 + 9 * wr μ413 ∧ nn μ413 ≤ 8 + wr μ413 ∧ 9 * wr μ413 ≤ nn μ413 ∧ nn μ413 ≤ 9 ∧ wr μ ≤ wr μ413 ∧ wr μ413 ≤ 1 ∧ wr μ413 ≤ bd μ413 ∧ bd μ413 ≤ 1 ∧ μ.1 111 29 ≤ μ.1 111 29 ∧ μ.1 111 31 ≤ μ.1 111 31 ∧ μ.1 111 31 ≤ 300 ∧ 0 ≤ μ.1 111 32 ∧ μ.1 111 32 ≤ μ413.1 111 9 ∧ μ413.1 111 9 ≤ 3000 := by (repeat' apply And.intro) <;> omega
              clear hv_15 hv_16 hv_17 hv_18 hv_19 hv_20 hv_21 hv_22 hv_23 hv_24 hv_25 hv_26 hv_27 hv_28 hv_29 hv_30 hv_31 hv_32 e_403 hw_404 e_405 e_406 e_408 e_411 hpl_420 hw_421 hw_422 vl_423 vl_424 vl_425
              refine lv_aload_n hx hb dX12_statement_125 rfl (lv_at hl 2 rfl) ?_
              have hq_446 : ∀ _ : Unit, q0m μ3 μ413 := fun _ => (q0m.fr (K := [111]) (FrM.tr FrM.rf F_414 (by decide)) (by decide) (by decide) (by decide) (hp_415 22 (by decide)) (nS.le (Int.le_of_eq (hp_415 29 (by decide)).symm) (Int.le_of_eq (hp_415 31 (by decide)).symm)))
              have hw_447 := wr_r (μ := μ413)
              have hht_448 : ∀ _ : Unit, bd μ413 = 0 → mHt μ413 0 := fun _ h0 => (hht_11 () (bd_z ((hp_418 ()).2) h0)).qm (hq_446 ())
              have e_449 : μ413.1 111 29 = μ.1 111 29 := ((hp_415 29 (by decide)).trans (hp_6 29 (by decide)))
              have hxt_450 : mEXT μ μ413 := hxt_10.tr (q0m.fr (K := [111]) (FrM.tr FrM.rf F_414 (by decide)) (by decide) (by decide) (by decide) (hp_415 22 (by decide)) (nS.le (Int.le_of_eq (hp_415 29 (by decide)).symm) (Int.le_of_eq (hp_415 31 (by decide)).symm))).1
              have e_451 : μ413.1 111 14 = tt := ((hp_415 14 (by decide)).trans ((hp_6 14 (by decide)).trans htt.symm))
              have e_452 : μ413.1 111 22 = μ3.1 111 22 := (hp_415 22 (by decide))
              have e_454 : μ413.1 111 39 = μ.1 111 39 := ((hp_415 39 (by decide)).trans (hp_6 39 (by decide)))
              have e_457 : μ413.1 111 31 = μ.1 111 31 := ((hp_415 31 (by decide)).trans (hp_6 31 (by decide)))
              refine xc_vV G (b := 111) (rest := []) (As := []) (c_X12_expr_a ω l μ413 tt (by (repeat' apply And.intro) <;> omega) hp_416 (by (repeat' apply And.intro) <;> omega) (by (repeat' apply And.intro) <;> omega) (by (repeat' apply And.intro) <;> omega) (by (repeat' apply And.intro) <;> omega) (by (repeat' apply And.intro) <;> omega) (fun _ h0 => (hht_448 () h0).p (by decide))) (wm 9 139 rfl rfl) (wm 9 141 rfl rfl) (wm 0 147 rfl rfl) rfl rfl (by decide) rfl (wm 1 18 rfl rfl) (wm 9 142 rfl rfl) (by decide) hR ⟨nfB hF (by decide), nlB hLo (by decide)⟩ (n := 0) rfl rfl (Nat.le_of_ble_eq_true rfl) hl.1 dX12_statement_126 (fun μ463 ρ d0 H locs hp G => ?_)
              obtain ⟨F_464, hp_465, hp_466, hp_467, hp_468, hp_469, hp_470, hp_471, hp_472, hp_473, hp_474, hp_475⟩ := hp
              have hpl_476 := hp_466.pl
              have hw_477 := wr_r (μ := μ463)
              have hxt_478 : mEXT μ μ463 := hxt_450.tr hp_475
              have hwk_479 : ∀ j, j < μ.1 111 39 → μ463.1 126 j = μ413.1 126 j := fun j hj => hp_473 j (by omega)
              have hex_480 : ∀ _ : Unit, bd μ463 = 0 → mEX μ413 μ463 tt 1 0 99 := fun _ h0 => (hp_474 () h0).mn (Int.le_refl _) (by omega)
              have hht_481 : ∀ _ : Unit, bd μ463 = 0 → mHt μ463 1 := fun _ h0 => (hht_448 () (bd_z (hp_470.2) h0)).ex (hex_480 () h0) rfl
              have vl_482 := hp_467
              replace hp_467 := fun _ : Unit => hp_467
              have vl_483 := hp_468
              replace hp_468 := fun _ : Unit => hp_468
              have vl_484 := hp_469
              replace hp_469 := fun _ : Unit => hp_469
              have vl_485 := hp_470
              replace hp_470 := fun _ : Unit => hp_470
              have vl_486 := hp_471
              replace hp_471 := fun _ : Unit => hp_471
              have vl_487 := hp_472
              replace hp_472 := fun _ : Unit => hp_472
              have h39_488 : μ463.1 111 39 = μ.1 111 39 := by omega
              obtain ⟨hv_491, hv_492, hv_493, hv_494, hv_495, hv_496, hv_497, hv_498, hv_499, hv_500, hv_501, hv_502, hv_503, hv_504, hv_505, hv_506, hv_507, hv_508⟩ : μ.1 111 22 ≤ μ463.1 111 22 ∧ μ463.1 111 22 ≤ μ.1 111 22 + 2 * (μ463.1 111 9 - μ.1 111 9) + 8 * (nn μ463 - nn μ) - 2 + -5 * wr μ463 ∧ μ.1 111 9 + 1 ≤ μ463.1 111 9 ∧ nn μ + 0 ≤ nn μ463 ∧ nn μ463 ≤ nn μ + 0 + 9 * wr μ463 ∧ nn μ463 ≤ 8 + wr μ463 ∧ 9 * wr μ463 ≤ nn μ463 ∧ nn μ463 ≤ 9 ∧ wr μ ≤ wr μ463 ∧ wr μ463 ≤ 1 ∧ wr μ463 ≤ bd μ463 ∧ bd μ463 ≤ 1 ∧ μ.1 111 29 ≤ μ463.1 111 29 ∧ μ.1 111 31 ≤ μ.1 111 31 ∧ μ.1 111 31 ≤ 300 ∧ 0 ≤ μ.1 111 32 ∧ μ.1 111 32 ≤ μ463.1 111 9 ∧ μ463.1 111 9 ≤ 3000 := by (repeat' apply And.intro) <;> omega
              clear hv_428 hv_429 hv_430 hv_431 hv_432 hv_433 hv_434 hv_435 hv_436 hv_437 hv_438 hv_439 hv_440 hv_441 hv_442 hv_443 hv_444 hv_445 hw_447 e_449 e_451 e_452 e_454 e_457 hpl_476 hw_477 vl_482 vl_483 vl_484 vl_485 vl_486 vl_487
              refine lv_aload_n hx hb dX12_statement_129 rfl (lv_at hl 2 rfl) ?_
              refine lv_bipush (v := iv 59) hx hb dX12_statement_130 rfl ?_
              have hw_509 := wr_r (μ := μ463)
              refine xc_vV G (b := 111) (rest := []) (As := [.int (iv 59)]) (c_X12_wantsSign ω l μ463 59 (by unfold ir; decide) hp_466 (by (repeat' apply And.intro) <;> omega)) (wm 9 114 rfl rfl) (wm 9 116 rfl rfl) (wm 0 141 rfl rfl) rfl rfl (by decide) rfl (wm 1 18 rfl rfl) (wm 9 117 rfl rfl) (by decide) hR ⟨nfB hF (by decide), nlB hLo (by decide)⟩ (n := 1) rfl rfl (Nat.le_of_ble_eq_true rfl) hl.1 dX12_statement_132 (fun μ510 ρ d0 H locs hp G => ?_)
              obtain ⟨F_511, hp_512, hp_513, hp_514, hp_515, hp_516, hp_517⟩ := hp
              have hpl_518 := hp_513.pl
              have hw_519 := wr_r (μ := μ510)
              have vl_520 := hp_514
              replace hp_514 := fun _ : Unit => hp_514
              have vl_521 := hp_515
              replace hp_515 := fun _ : Unit => hp_515
              have vl_522 := hp_516
              replace hp_516 := fun _ : Unit => hp_516
              have vl_523 := hp_517
              replace hp_517 := fun _ : Unit => hp_517
              obtain ⟨hv_526, hv_527, hv_528, hv_529, hv_530, hv_531, hv_532, hv_533, hv_534, hv_535, hv_536, hv_537, hv_538, hv_539, hv_540, hv_541, hv_542, hv_543⟩ : μ.1 111 22 ≤ μ463.1 111 22 ∧ μ463.1 111 22 ≤ μ.1 111 22 + 2 * (μ510.1 111 9 - μ.1 111 9) + 8 * (nn μ510 - nn μ) - 4 + -3 * wr μ510 ∧ μ.1 111 9 + 1 ≤ μ510.1 111 9 ∧ nn μ + 0 ≤ nn μ510 ∧ nn μ510 ≤ nn μ + 0 + 9 * wr μ510 ∧ nn μ510 ≤ 8 + wr μ510 ∧ 9 * wr μ510 ≤ nn μ510 ∧ nn μ510 ≤ 9 ∧ wr μ ≤ wr μ510 ∧ wr μ510 ≤ 1 ∧ wr μ510 ≤ bd μ510 ∧ bd μ510 ≤ 1 ∧ μ.1 111 29 ≤ μ463.1 111 29 ∧ μ.1 111 31 ≤ μ.1 111 31 ∧ μ.1 111 31 ≤ 300 ∧ 0 ≤ μ.1 111 32 ∧ μ.1 111 32 ≤ μ510.1 111 9 ∧ μ510.1 111 9 ≤ 3000 := by (repeat' apply And.intro) <;> omega
              clear hv_491 hv_492 hv_493 hv_494 hv_495 hv_496 hv_497 hv_498 hv_499 hv_500 hv_501 hv_502 hv_503 hv_504 hv_505 hv_506 hv_507 hv_508 hw_509 hpl_518 hw_519 vl_520 vl_521 vl_522 vl_523
              refine lv_aload_n hx hb dX12_statement_135 rfl (lv_at hl 2 rfl) ?_
              refine lv_iload_n hx hb dX12_statement_136 rfl (lv_at hl 0 rfl) ?_
              refine lv_lconst (v := jv 0) hx hb dX12_statement_137 rfl ?_
              refine lv_iconst (v := iv 0) hx hb dX12_statement_138 rfl ?_
              have hq_544 : ∀ _ : Unit, q0m μ463 μ510 := fun _ => (q0m.fr (K := [111]) (FrM.tr FrM.rf F_511 (by decide)) (by decide) (by decide) (by decide) (hp_512 22 (by decide)) (nS.le (Int.le_of_eq (hp_512 29 (by decide)).symm) (Int.le_of_eq (hp_512 31 (by decide)).symm)))
              have hw_545 := wr_r (μ := μ510)
              have hht_546 : ∀ _ : Unit, bd μ510 = 0 → mHt μ510 1 := fun _ h0 => (hht_481 () (bd_z ((hp_516 ()).2) h0)).qm (hq_544 ())
              have e_547 : μ510.1 111 29 = μ463.1 111 29 := (hp_512 29 (by decide))
              have hxt_548 : mEXT μ μ510 := hxt_478.tr (q0m.fr (K := [111]) (FrM.tr FrM.rf F_511 (by decide)) (by decide) (by decide) (by decide) (hp_512 22 (by decide)) (nS.le (Int.le_of_eq (hp_512 29 (by decide)).symm) (Int.le_of_eq (hp_512 31 (by decide)).symm))).1
              have e_549 : μ510.1 111 22 = μ463.1 111 22 := (hp_512 22 (by decide))
              refine xc_iV G (b := 111) (rest := []) (As := [.int (iv 9), .long (jv 0), .int (iv 0)]) (c_X12_emit ω l μ510 9 0 0 (by unfold ir; decide) (by unfold jr; omega) (by unfold ir; decide) (by (repeat' apply And.intro) <;> omega)) (wm 9 126 rfl rfl) (wm 9 128 rfl rfl) (wm 0 144 rfl rfl) rfl rfl (by decide) rfl (wm 1 18 rfl rfl) (wm 9 129 rfl rfl) (by decide) hR ⟨nfB hF (by decide), nlB hLo (by decide)⟩ (n := 3) rfl rfl (Nat.le_of_ble_eq_true rfl) hl.1 dX12_statement_139 (fun r_554 μ553 ρ d0 H locs hr_r_554 hp G => ?_)
              have hr_r_554 : -2147483648 ≤ r_554 ∧ r_554 ≤ 2147483647 := hr_r_554
              obtain ⟨F_555, hp_556, hp_557, hp_558, hp_559⟩ := hp
              have hxt_560 : mEXT μ μ553 := hxt_548.tr hp_557.1
              have hht_561 : ∀ _ : Unit, bd μ553 = 0 → mHt μ553 0 := fun _ h0 => (hht_546 () (bd_z (Int.le_of_eq (bd_cg (hp_556 15 (by decide)) (hp_556 16 (by decide)) (hp_556 17 (by decide))).symm) h0)).ad hp_557 rfl
              have vl_562 := hp_559
              replace hp_559 := fun _ : Unit => hp_559
              obtain ⟨hv_565, hv_566, hv_567, hv_568, hv_569, hv_570, hv_571, hv_572, hv_573, hv_574, hv_575, hv_576, hv_577, hv_578, hv_579, hv_580, hv_581, hv_582⟩ : μ.1 111 22 ≤ μ553.1 111 22 ∧ μ553.1 111 22 ≤ μ.1 111 22 + 2 * (μ510.1 111 9 - μ.1 111 9) + 8 * (nn μ510 - nn μ) - 3 + -3 * wr μ510 ∧ μ.1 111 9 + 1 ≤ μ510.1 111 9 ∧ nn μ + 0 ≤ nn μ510 ∧ nn μ510 ≤ nn μ + 0 + 9 * wr μ510 ∧ nn μ510 ≤ 8 + wr μ510 ∧ 9 * wr μ510 ≤ nn μ510 ∧ nn μ510 ≤ 9 ∧ wr μ ≤ wr μ510 ∧ wr μ510 ≤ 1 ∧ wr μ510 ≤ bd μ510 ∧ bd μ510 ≤ 1 ∧ μ.1 111 29 ≤ μ463.1 111 29 ∧ μ.1 111 31 ≤ μ.1 111 31 ∧ μ.1 111 31 ≤ 300 ∧ 0 ≤ μ.1 111 32 ∧ μ.1 111 32 ≤ μ510.1 111 9 ∧ μ510.1 111 9 ≤ 3000 := by (repeat' apply And.intro) <;> omega
              clear hv_526 hv_527 hv_528 hv_529 hv_530 hv_531 hv_532 hv_533 hv_534 hv_535 hv_536 hv_537 hv_538 hv_539 hv_540 hv_541 hv_542 hv_543 hw_545 e_547 e_549 vl_562
              refine lv_pop hx hb dX12_statement_142 rfl ?_
              refine lv_goto (tgt := 178) hx hb dX12_statement_143 (by decide) ?_
              have e_583 : μ553.1 111 9 = μ510.1 111 9 := (hp_556 9 (by decide))
              have e_584 : μ553.1 111 29 = μ463.1 111 29 := ((hp_556 29 (by decide)).trans (hp_512 29 (by decide)))
              have e_585 : μ553.1 111 39 = μ463.1 111 39 := ((hp_556 39 (by decide)).trans (hp_512 39 (by decide)))
              have e_586 : μ553.1 111 31 = μ.1 111 31 := ((hp_556 31 (by decide)).trans ((hp_512 31 (by decide)).trans ((hp_465 31 (by decide)).trans ((hp_415 31 (by decide)).trans (hp_6 31 (by decide))))))
              have e_587 : μ553.1 111 32 = μ.1 111 32 := ((hp_556 32 (by decide)).trans ((hp_512 32 (by decide)).trans ((hp_465 32 (by decide)).trans ((hp_415 32 (by decide)).trans (hp_6 32 (by decide))))))
              have e_588 : μ553.1 111 6 = μ510.1 111 6 := (hp_556 6 (by decide))
              have e_589 : wr μ553 = wr μ510 := (wr_cg (hp_556 15 (by decide)))
              have hw_590 := wr_r (μ := μ510)
              have e_591 : bd μ553 = bd μ510 := (bd_cg (hp_556 15 (by decide)) (hp_556 16 (by decide)) (hp_556 17 (by decide)))
              have e_592 : nn μ553 = nn μ510 := (nn_cg (hp_556 15 (by decide)) (hp_556 18 (by decide)))
              have hPM_593 : PM μ553 := hp_513.cg ((((hp_556 4 (by decide)).trans ((hp_512 4 (by decide)).trans ((hp_465 4 (by decide)).trans ((hp_415 4 (by decide)).trans (hp_6 4 (by decide))))))).trans (((hp_512 4 (by decide)).trans ((hp_465 4 (by decide)).trans ((hp_415 4 (by decide)).trans (hp_6 4 (by decide)))))).symm) (hp_556 6 (by decide)) ((((hp_556 7 (by decide)).trans ((hp_512 7 (by decide)).trans ((hp_465 7 (by decide)).trans ((hp_415 7 (by decide)).trans (hp_6 7 (by decide))))))).trans (((hp_512 7 (by decide)).trans ((hp_465 7 (by decide)).trans ((hp_415 7 (by decide)).trans (hp_6 7 (by decide)))))).symm) (hp_556 8 (by decide)) (hp_556 9 (by decide)) (hp_556 11 (by decide)) (hp_556 12 (by decide)) ((((hp_556 14 (by decide)).trans ((hp_512 14 (by decide)).trans ((hp_465 14 (by decide)).trans ((hp_415 14 (by decide)).trans ((hp_6 14 (by decide)).trans htt.symm)))))).trans (((hp_512 14 (by decide)).trans ((hp_465 14 (by decide)).trans ((hp_415 14 (by decide)).trans ((hp_6 14 (by decide)).trans htt.symm))))).symm) (hp_556 15 (by decide)) ((((hp_556 29 (by decide)).trans (hp_512 29 (by decide)))).trans ((hp_512 29 (by decide))).symm) (fun j => (F_555.1 123 (by decide) j))
              exact xr_v G hret hlk dX12_statement_178 ⟨(FrM.tr (FrM.tr (FrM.tr (FrM.tr (FrM.tr FrM.rf F_5 (by decide)) F_414 (by decide)) F_464 (by decide)) F_511 (by decide)) F_555 (by decide)), (fun j hj => ((hp_556 j (fun h9 => hj ((by decide : ∀ x ∈ ([22] : List Int), x ∈ ([6, 8, 9, 10, 11, 12, 13, 15, 16, 17, 18, 22, 29, 31, 32, 34, 35, 36, 37, 39] : List Int)) j h9))).trans ((hp_512 j (fun h9 => hj ((by decide : ∀ x ∈ ([6, 8, 9, 10, 11, 12, 13, 15] : List Int), x ∈ ([6, 8, 9, 10, 11, 12, 13, 15, 16, 17, 18, 22, 29, 31, 32, 34, 35, 36, 37, 39] : List Int)) j h9))).trans ((hp_465 j (fun h9 => hj ((by decide : ∀ x ∈ ([6, 8, 9, 10, 11, 12, 13, 15, 16, 17, 18, 22, 29, 39] : List Int), x ∈ ([6, 8, 9, 10, 11, 12, 13, 15, 16, 17, 18, 22, 29, 31, 32, 34, 35, 36, 37, 39] : List Int)) j h9))).trans ((hp_415 j (fun h9 => hj ((by decide : ∀ x ∈ ([6, 8, 9, 10, 11, 12, 13, 15] : List Int), x ∈ ([6, 8, 9, 10, 11, 12, 13, 15, 16, 17, 18, 22, 29, 31, 32, 34, 35, 36, 37, 39] : List Int)) j h9))).trans (hp_6 j (fun h9 => hj ((by decide : ∀ x ∈ ([22] : List Int), x ∈ ([6, 8, 9, 10, 11, 12, 13, 15, 16, 17, 18, 22, 29, 31, 32, 34, 35, 36, 37, 39] : List Int)) j h9)))))))), hPM_593, (by (repeat' apply And.intro) <;> omega), (by (repeat' apply And.intro) <;> omega), (by (repeat' apply And.intro) <;> omega), ⟨by omega, (Int.le_trans (Int.le_trans (Int.le_trans (Int.le_trans (Int.le_of_eq (bd_cg (hp_6 15 (by decide)) (hp_6 16 (by decide)) (hp_6 17 (by decide))).symm) ((hp_418 ()).2)) ((hp_470 ()).2)) ((hp_516 ()).2)) (Int.le_of_eq (bd_cg (hp_556 15 (by decide)) (hp_556 16 (by decide)) (hp_556 17 (by decide))).symm))⟩, (by (repeat' apply And.intro) <;> omega), (by (repeat' apply And.intro) <;> omega), (fun j hj => ((F_555.1 126 (by decide) j).trans ((F_511.1 126 (by decide) j).trans ((hwk_479 j (by omega)).trans ((F_414.1 126 (by decide) j).trans (F_5.1 126 (by decide) j)))))), (by (repeat' apply And.intro) <;> omega), (by (repeat' apply And.intro) <;> omega), (fun _ h0 => mEY.stp (hS0 () (bd_z (Int.le_trans (Int.le_trans (Int.le_trans (Int.le_trans (Int.le_of_eq (bd_cg (hp_6 15 (by decide)) (hp_6 16 (by decide)) (hp_6 17 (by decide))).symm) ((hp_418 ()).2)) ((hp_470 ()).2)) ((hp_516 ()).2)) (Int.le_of_eq (bd_cg (hp_556 15 (by decide)) (hp_556 16 (by decide)) (hp_556 17 (by decide))).symm)) h0)) (hp_7.qm (hq_446 ())) (as_one (M := (2 * (9 - nn μ))) ((hS0 () (bd_z (Int.le_trans (Int.le_trans (Int.le_trans (Int.le_trans (Int.le_of_eq (bd_cg (hp_6 15 (by decide)) (hp_6 16 (by decide)) (hp_6 17 (by decide))).symm) ((hp_418 ()).2)) ((hp_470 ()).2)) ((hp_516 ()).2)) (Int.le_of_eq (bd_cg (hp_556 15 (by decide)) (hp_556 16 (by decide)) (hp_556 17 (by decide))).symm)) h0)).stp (t := tt) (hp_7.qm (hq_446 ()))).s ((hex_480 () (bd_z (Int.le_trans ((hp_516 ()).2) (Int.le_of_eq (bd_cg (hp_556 15 (by decide)) (hp_556 16 (by decide)) (hp_556 17 (by decide))).symm)) h0)).qm (hq_544 ())) (by omega) (by omega) hp_557 (by unfold mpl; omega) rfl rfl (fun h1 => ⟨fun q => absurd q (by decide), ⟨fun q => absurd q (by decide), fun q => absurd q (by decide)⟩, fun _ => by omega, fun q => absurd q (by decide), fun q => absurd q (by decide), fun q => absurd q (by decide), fun q => absurd q (by decide), fun q => absurd q (by decide), fun q => absurd q (by decide), fun q => absurd q (by decide), fun q => absurd q (by decide), fun q => absurd q (by decide), fun q => absurd q (by decide), fun q => absurd q (by decide), fun q => absurd q (by decide), fun q => absurd q (by decide), fun q => absurd q (by decide), fun q => absurd q (by decide), fun q => absurd q (by decide), fun q => absurd q (by decide), fun q => absurd q (by decide), ⟨fun q => absurd q (by decide), fun q => absurd q (by decide), fun q => absurd q (by decide)⟩, ⟨by decide, by decide⟩⟩))), hxt_560⟩
          · replace c_92 := fun _ : Unit => c_92
            refine lv_aload_n hx hb dX12_statement_95 rfl (lv_at hl 1 rfl) ?_
            refine xa_geti G fd_X12 (a := 111) (x := μ.1 111 11) 11 rfl (by decide) rfl (wm 7 160 rfl rfl) ⟨rfl, rfl, rfl⟩ dX12_statement_96 rfl (hp_6 11 (by decide)) ?_
            refine lv_bipush (v := iv 8) hx hb dX12_statement_99 rfl ?_
            refine xb_icmp_ne (tgt := 146) hx hb (by unfold ir; exact ⟨by omega, by omega⟩) (by unfold ir; exact ⟨by omega, by omega⟩) dX12_statement_101 (by decide) (fun c_101 => ?_) (fun c_101 => ?_)
            · replace c_101 := fun _ : Unit => c_101
              refine lv_aload_n hx hb dX12_statement_146 rfl (lv_at hl 1 rfl) ?_
              have e_607 : μ3.1 111 29 = μ.1 111 29 := (hp_6 29 (by decide))
              have e_608 : μ3.1 111 14 = tt := ((hp_6 14 (by decide)).trans htt.symm)
              have hPM_609 : PM μ3 := hPM.cg (hp_6 4 (by decide)) (hp_6 6 (by decide)) (hp_6 7 (by decide)) (hp_6 8 (by decide)) (hp_6 9 (by decide)) (hp_6 11 (by decide)) (hp_6 12 (by decide)) ((((hp_6 14 (by decide)).trans htt.symm)).trans (htt.symm).symm) (hp_6 15 (by decide)) (hp_6 29 (by decide)) (fun j => (F_5.1 123 (by decide) j))
              have e_610 : wr μ3 = wr μ := (wr_cg (hp_6 15 (by decide)))
              have hw_611 := wr_r (μ := μ)
              have e_612 : nn μ3 = nn μ := (nn_cg (hp_6 15 (by decide)) (hp_6 18 (by decide)))
              have e_615 : μ3.1 111 9 = μ.1 111 9 := (hp_6 9 (by decide))
              have e_617 : μ3.1 111 39 = μ.1 111 39 := (hp_6 39 (by decide))
              have e_619 : μ3.1 111 31 = μ.1 111 31 := (hp_6 31 (by decide))
              have e_621 : μ3.1 111 32 = μ.1 111 32 := (hp_6 32 (by decide))
              have e_626 : μ3.1 111 8 = μ.1 111 8 := (hp_6 8 (by decide))
              have e_632 : bd μ3 = bd μ := (bd_cg (hp_6 15 (by decide)) (hp_6 16 (by decide)) (hp_6 17 (by decide)))
              refine xc_iV G (b := 111) (rest := []) (As := []) (c_X12_own ω l μ3 F Lo kf tt (by (repeat' apply And.intro) <;> omega) hF hLo hK hPM_609 (by (repeat' apply And.intro) <;> omega) (by (repeat' apply And.intro) <;> omega) (by (repeat' apply And.intro) <;> omega) (by (repeat' apply And.intro) <;> omega) (by (repeat' apply And.intro) <;> omega) (by (repeat' apply And.intro) <;> omega) (by (repeat' apply And.intro) <;> omega) (by (repeat' apply And.intro) <;> omega) (fun _ h0 => ((hS0 () (bd_z (Int.le_of_eq (bd_cg (hp_6 15 (by decide)) (hp_6 16 (by decide)) (hp_6 17 (by decide))).symm) h0)).stp (t := tt) hp_7)) (by (repeat' apply And.intro) <;> omega)) (wm 10 10 rfl rfl) (wm 10 12 rfl rfl) (wm 0 174 rfl rfl) rfl rfl (by decide) rfl (wm 1 18 rfl rfl) (wm 10 13 rfl rfl) (by decide) hR ⟨sfr (F := F) (a := 2) (by decide), slo (L := Lo) (m := 6) (a := 51) (by decide)⟩ (n := 0) rfl rfl (Nat.le_of_ble_eq_true rfl) hl.1 dX12_statement_147 (fun r_637 μ636 ρ d0 H locs hr_r_637 hp G => ?_)
              have hr_r_637 : -2147483648 ≤ r_637 ∧ r_637 ≤ 2147483647 := hr_r_637
              obtain ⟨F_638, hp_639, hp_640, hp_641, hp_642, hp_643, hp_644, hp_645, hp_646, hp_647, hp_648, hp_649, hp_650, hp_651, hp_652, hp_653⟩ := hp
              have hpl_654 := hp_640.pl
              have hw_655 := wr_r (μ := μ636)
              have hw_656 := wr_r (μ := μ3)
              have hxt_657 : mEXT μ μ636 := hxt_10.tr hp_651
              have hwk_658 : ∀ j, j < μ.1 111 39 → μ636.1 126 j = μ3.1 126 j := fun j hj => hp_647 j (by omega)
              refine xb_if_ne (tgt := 178) hx hb (by unfold ir; exact ⟨by omega, by omega⟩) dX12_statement_150 (by decide) (fun c_150 => ?_) (fun c_150 => ?_)
              · have hb1_659 : r_637 = 1 := by omega
                replace c_150 := fun _ : Unit => c_150
                have vl_660 := hp_641
                replace hp_641 := fun _ : Unit => hp_641
                have vl_661 := hp_642
                replace hp_642 := fun _ : Unit => hp_642
                have vl_662 := hp_643
                replace hp_643 := fun _ : Unit => hp_643
                have vl_663 := hp_644
                replace hp_644 := fun _ : Unit => hp_644
                have vl_664 := hp_645
                replace hp_645 := fun _ : Unit => hp_645
                have vl_665 := hp_646
                replace hp_646 := fun _ : Unit => hp_646
                have vl_666 := hp_648
                replace hp_648 := fun _ : Unit => hp_648
                have vl_667 := hp_649
                replace hp_649 := fun _ : Unit => hp_649
                have vl_668 := hp_652
                replace hp_652 := fun _ : Unit => hp_652
                have h39_669 : μ636.1 111 39 = μ.1 111 39 := by omega
                obtain ⟨hv_672, hv_673, hv_674, hv_675, hv_676, hv_677, hv_678, hv_679, hv_680, hv_681, hv_682, hv_683, hv_684, hv_685, hv_686, hv_687, hv_688, hv_689, hv_690⟩ : μ.1 111 22 ≤ μ636.1 111 22 ∧ μ636.1 111 22 ≤ μ.1 111 22 + 2 * (μ636.1 111 9 - μ.1 111 9) + 8 * (nn μ636 - nn μ) + 0 + 0 * wr μ636 ∧ μ.1 111 9 + 0 ≤ μ636.1 111 9 ∧ μ.1 111 9 + 1 ≤ μ636.1 111 9 + wr μ636 ∧ nn μ + 0 ≤ nn μ636 ∧ nn μ636 ≤ nn μ + 0 + 9 * wr μ636 ∧ nn μ636 ≤ 8 + wr μ636 ∧ 9 * wr μ636 ≤ nn μ636 ∧ nn μ636 ≤ 9 ∧ wr μ ≤ wr μ636 ∧ wr μ636 ≤ 1 ∧ wr μ636 ≤ bd μ636 ∧ bd μ636 ≤ 1 ∧ μ.1 111 29 ≤ μ636.1 111 29 ∧ μ.1 111 31 ≤ μ636.1 111 31 ∧ μ636.1 111 31 ≤ 300 ∧ 0 ≤ μ636.1 111 32 ∧ μ636.1 111 32 ≤ μ636.1 111 9 ∧ μ636.1 111 9 ≤ 3000 := by (repeat' apply And.intro) <;> omega
                clear hv_15 hv_16 hv_17 hv_18 hv_19 hv_20 hv_21 hv_22 hv_23 hv_24 hv_25 hv_26 hv_27 hv_28 hv_29 hv_30 hv_31 hv_32 e_607 e_608 e_610 hw_611 e_612 e_615 e_617 e_619 e_621 e_626 e_632 hpl_654 hw_655 hw_656 vl_660 vl_661 vl_662 vl_663 vl_664 vl_665 vl_666 vl_667 vl_668
                have hw_691 := wr_r (μ := μ636)
                exact xr_v G hret hlk dX12_statement_178 ⟨(FrM.tr (FrM.tr FrM.rf F_5 (by decide)) F_638 (by decide)), (fun j hj => ((hp_639 j (fun h9 => hj ((by decide : ∀ x ∈ ([6, 8, 9, 10, 11, 12, 13, 15, 16, 17, 18, 22, 29, 31, 32, 34, 35, 36, 37, 39] : List Int), x ∈ ([6, 8, 9, 10, 11, 12, 13, 15, 16, 17, 18, 22, 29, 31, 32, 34, 35, 36, 37, 39] : List Int)) j h9))).trans (hp_6 j (fun h9 => hj ((by decide : ∀ x ∈ ([22] : List Int), x ∈ ([6, 8, 9, 10, 11, 12, 13, 15, 16, 17, 18, 22, 29, 31, 32, 34, 35, 36, 37, 39] : List Int)) j h9))))), hp_640, (by (repeat' apply And.intro) <;> omega), (by (repeat' apply And.intro) <;> omega), (by (repeat' apply And.intro) <;> omega), ⟨by omega, (Int.le_trans (Int.le_of_eq (bd_cg (hp_6 15 (by decide)) (hp_6 16 (by decide)) (hp_6 17 (by decide))).symm) ((hp_644 ()).2))⟩, (by (repeat' apply And.intro) <;> omega), (by (repeat' apply And.intro) <;> omega), (fun j hj => ((hwk_658 j (by omega)).trans (F_5.1 126 (by decide) j))), (by (repeat' apply And.intro) <;> omega), (by (repeat' apply And.intro) <;> omega), (fun _ h0 => mEY.stp (hS0 () (bd_z (Int.le_trans (Int.le_of_eq (bd_cg (hp_6 15 (by decide)) (hp_6 16 (by decide)) (hp_6 17 (by decide))).symm) ((hp_644 ()).2)) h0)) hp_7 ((hp_650 () (by omega) h0).mn (by have e9 : nn μ3 = nn μ := (nn_cg (hp_6 15 (by decide)) (hp_6 18 (by decide))); omega))), hxt_657⟩
              · replace hp_643 := fun _ : Unit => hp_643
                replace hp_644 := fun _ : Unit => hp_644
                replace hp_645 := fun _ : Unit => hp_645
                replace hp_646 := fun _ : Unit => hp_646
                replace hp_648 := fun _ : Unit => hp_648
                replace hp_649 := fun _ : Unit => hp_649
                have hown_ := Eq.symm (hp_653 () c_150)
                subst hown_
                refine lv_aload_n hx hb dX12_statement_153 rfl (lv_at hl 1 rfl) ?_
                have hPM_702 : PM μ3 := hPM.cg (hp_6 4 (by decide)) (hp_6 6 (by decide)) (hp_6 7 (by decide)) (hp_6 8 (by decide)) (hp_6 9 (by decide)) (hp_6 11 (by decide)) (hp_6 12 (by decide)) ((((hp_6 14 (by decide)).trans htt.symm)).trans (htt.symm).symm) (hp_6 15 (by decide)) (hp_6 29 (by decide)) (fun j => (F_5.1 123 (by decide) j))
                refine xc_vV G (b := 111) (rest := []) (As := []) (c_X12_plain ω l μ3 F Lo kf tt (by (repeat' apply And.intro) <;> omega) hF hLo hK hPM_702 (by (repeat' apply And.intro) <;> omega) (by (repeat' apply And.intro) <;> omega) (by (repeat' apply And.intro) <;> omega) (by (repeat' apply And.intro) <;> omega) (by (repeat' apply And.intro) <;> omega) (by (repeat' apply And.intro) <;> omega) (by (repeat' apply And.intro) <;> omega) (by (repeat' apply And.intro) <;> omega) (fun _ h0 => ((hS0 () (bd_z (Int.le_of_eq (bd_cg (hp_6 15 (by decide)) (hp_6 16 (by decide)) (hp_6 17 (by decide))).symm) h0)).stp (t := tt) hp_7))) (wm 10 35 rfl rfl) (wm 10 37 rfl rfl) (wm 0 180 rfl rfl) rfl rfl (by decide) rfl (wm 1 18 rfl rfl) (wm 10 38 rfl rfl) (by decide) hR ⟨sfr (F := F) (a := 0) (by decide), slo (L := Lo) (m := 1) (a := 0) (by decide)⟩ (n := 0) rfl rfl (Nat.le_of_ble_eq_true rfl) hl.1 dX12_statement_154 (fun μ727 ρ d0 H locs hp G => ?_)
                obtain ⟨F_728, hp_729, hp_730, hp_731, hp_732, hp_733, hp_734, hp_735, hp_736, hp_737, hp_738, hp_739, hp_740, hp_741⟩ := hp
                have hpl_742 := hp_730.pl
                have hw_743 := wr_r (μ := μ727)
                have hxt_744 : mEXT μ μ727 := hxt_10.tr hp_741
                have hwk_745 : ∀ j, j < μ.1 111 39 → μ727.1 126 j = μ3.1 126 j := fun j hj => hp_737 j (by omega)
                have hey_746 : ∀ _ : Unit, bd μ727 = 0 → mEY μ3 μ727 tt (2 * (9 - nn μ)) := fun _ h0 => (hp_740 () h0).mn (by omega)
                have vl_747 := hp_731
                replace hp_731 := fun _ : Unit => hp_731
                have vl_748 := hp_732
                replace hp_732 := fun _ : Unit => hp_732
                have vl_749 := hp_733
                replace hp_733 := fun _ : Unit => hp_733
                have vl_750 := hp_734
                replace hp_734 := fun _ : Unit => hp_734
                have vl_751 := hp_735
                replace hp_735 := fun _ : Unit => hp_735
                have vl_752 := hp_736
                replace hp_736 := fun _ : Unit => hp_736
                have vl_753 := hp_738
                replace hp_738 := fun _ : Unit => hp_738
                have vl_754 := hp_739
                replace hp_739 := fun _ : Unit => hp_739
                have h39_755 : μ727.1 111 39 = μ.1 111 39 := by omega
                obtain ⟨hv_758, hv_759, hv_760, hv_761, hv_762, hv_763, hv_764, hv_765, hv_766, hv_767, hv_768, hv_769, hv_770, hv_771, hv_772, hv_773, hv_774, hv_775, hv_776⟩ : μ.1 111 22 ≤ μ727.1 111 22 ∧ μ727.1 111 22 ≤ μ.1 111 22 + 2 * (μ727.1 111 9 - μ.1 111 9) + 8 * (nn μ727 - nn μ) + 0 + 0 * wr μ727 ∧ μ.1 111 9 + 0 ≤ μ727.1 111 9 ∧ μ.1 111 9 + 1 ≤ μ727.1 111 9 + wr μ727 ∧ nn μ + 0 ≤ nn μ727 ∧ nn μ727 ≤ nn μ + 0 + 9 * wr μ727 ∧ nn μ727 ≤ 8 + wr μ727 ∧ 9 * wr μ727 ≤ nn μ727 ∧ nn μ727 ≤ 9 ∧ wr μ ≤ wr μ727 ∧ wr μ727 ≤ 1 ∧ wr μ727 ≤ bd μ727 ∧ bd μ727 ≤ 1 ∧ μ.1 111 29 ≤ μ727.1 111 29 ∧ μ.1 111 31 ≤ μ727.1 111 31 ∧ μ727.1 111 31 ≤ 300 ∧ 0 ≤ μ727.1 111 32 ∧ μ727.1 111 32 ≤ μ727.1 111 9 ∧ μ727.1 111 9 ≤ 3000 := by (repeat' apply And.intro) <;> omega
                clear hv_15 hv_16 hv_17 hv_18 hv_19 hv_20 hv_21 hv_22 hv_23 hv_24 hv_25 hv_26 hv_27 hv_28 hv_29 hv_30 hv_31 hv_32 e_607 e_608 e_610 hw_611 e_612 e_615 e_617 e_619 e_621 e_626 e_632 hpl_654 hw_655 hw_656 hpl_742 hw_743 vl_747 vl_748 vl_749 vl_750 vl_751 vl_752 vl_753 vl_754
                refine lv_goto (tgt := 178) hx hb dX12_statement_157 (by decide) ?_
                have hw_777 := wr_r (μ := μ727)
                exact xr_v G hret hlk dX12_statement_178 ⟨(FrM.tr (FrM.tr FrM.rf F_5 (by decide)) F_728 (by decide)), (fun j hj => ((hp_729 j (fun h9 => hj ((by decide : ∀ x ∈ ([6, 8, 9, 10, 11, 12, 13, 15, 16, 17, 18, 22, 29, 31, 32, 34, 35, 36, 37, 39] : List Int), x ∈ ([6, 8, 9, 10, 11, 12, 13, 15, 16, 17, 18, 22, 29, 31, 32, 34, 35, 36, 37, 39] : List Int)) j h9))).trans (hp_6 j (fun h9 => hj ((by decide : ∀ x ∈ ([22] : List Int), x ∈ ([6, 8, 9, 10, 11, 12, 13, 15, 16, 17, 18, 22, 29, 31, 32, 34, 35, 36, 37, 39] : List Int)) j h9))))), hp_730, (by (repeat' apply And.intro) <;> omega), (by (repeat' apply And.intro) <;> omega), (by (repeat' apply And.intro) <;> omega), ⟨by omega, (Int.le_trans (Int.le_of_eq (bd_cg (hp_6 15 (by decide)) (hp_6 16 (by decide)) (hp_6 17 (by decide))).symm) ((hp_734 ()).2))⟩, (by (repeat' apply And.intro) <;> omega), (by (repeat' apply And.intro) <;> omega), (fun j hj => ((hwk_745 j (by omega)).trans (F_5.1 126 (by decide) j))), (by (repeat' apply And.intro) <;> omega), (by (repeat' apply And.intro) <;> omega), (fun _ h0 => mEY.stp (hS0 () (bd_z (Int.le_trans (Int.le_of_eq (bd_cg (hp_6 15 (by decide)) (hp_6 16 (by decide)) (hp_6 17 (by decide))).symm) ((hp_734 ()).2)) h0)) hp_7 (hey_746 () h0)), hxt_744⟩
            · refine lv_aload_n hx hb dX12_statement_104 rfl (lv_at hl 1 rfl) ?_
              refine xa_geti G fd_X12 (a := 111) (x := μ.1 111 11) 11 rfl (by decide) rfl (wm 7 160 rfl rfl) ⟨rfl, rfl, rfl⟩ dX12_statement_105 rfl (hp_6 11 (by decide)) ?_
              refine lv_bipush (v := iv 7) hx hb dX12_statement_108 rfl ?_
              refine xb_icmp_ne (tgt := 118) hx hb (by unfold ir; exact ⟨by omega, by omega⟩) (by unfold ir; exact ⟨by omega, by omega⟩) dX12_statement_110 (by decide) (fun c_110 => ?_) (fun c_110 => ?_)
              · replace c_110 := fun _ : Unit => c_110
                refine lv_bipush (v := iv 10) hx hb dX12_statement_118 rfl ?_
                refine lv_istore_n (lv' := [(2, .int (iv 10)), (1, .int (iv (μ.1 111 9))), (0, .ref (oP ω 111))]) hx hb dX12_statement_120 rfl hl (by decide) rfl (fun ls hl => ?_)
                refine lv_aload_n hx hb dX12_statement_121 rfl (lv_at hl 2 rfl) ?_
                have hPM_778 : PM μ3 := hPM.cg (hp_6 4 (by decide)) (hp_6 6 (by decide)) (hp_6 7 (by decide)) (hp_6 8 (by decide)) (hp_6 9 (by decide)) (hp_6 11 (by decide)) (hp_6 12 (by decide)) ((((hp_6 14 (by decide)).trans htt.symm)).trans (htt.symm).symm) (hp_6 15 (by decide)) (hp_6 29 (by decide)) (fun j => (F_5.1 123 (by decide) j))
                have e_779 : wr μ3 = wr μ := (wr_cg (hp_6 15 (by decide)))
                have hw_780 := wr_r (μ := μ)
                have e_781 : nn μ3 = nn μ := (nn_cg (hp_6 15 (by decide)) (hp_6 18 (by decide)))
                have e_782 : μ3.1 111 8 = μ.1 111 8 := (hp_6 8 (by decide))
                have e_784 : μ3.1 111 9 = μ.1 111 9 := (hp_6 9 (by decide))
                have e_787 : bd μ3 = bd μ := (bd_cg (hp_6 15 (by decide)) (hp_6 16 (by decide)) (hp_6 17 (by decide)))
                refine xc_vV G (b := 111) (rest := []) (As := []) (c_X12_next ω l μ3  hPM_778 (by (repeat' apply And.intro) <;> omega) (by (repeat' apply And.intro) <;> omega)) (wm 9 0 rfl rfl) (wm 9 2 rfl rfl) (wm 0 119 rfl rfl) rfl rfl (by decide) rfl (wm 1 18 rfl rfl) (wm 9 3 rfl rfl) (by decide) hR ⟨nfB hF (by decide), nlB hLo (by decide)⟩ (n := 0) rfl rfl (Nat.le_of_ble_eq_true rfl) hl.1 dX12_statement_122 (fun μ789 ρ d0 H locs hp G => ?_)
                obtain ⟨F_790, hp_791, hp_792, hp_793, hp_794, hp_795⟩ := hp
                have hpl_796 := hp_792.pl
                have hw_797 := wr_r (μ := μ3)
                have hw_798 := wr_r (μ := μ789)
                have vl_799 := hp_793
                replace hp_793 := fun _ : Unit => hp_793
                have vl_800 := hp_794
                replace hp_794 := fun _ : Unit => hp_794
                have vl_801 := hp_795
                replace hp_795 := fun _ : Unit => hp_795
                obtain ⟨hv_804, hv_805, hv_806, hv_807, hv_808, hv_809, hv_810, hv_811, hv_812, hv_813, hv_814, hv_815, hv_816, hv_817, hv_818, hv_819, hv_820, hv_821⟩ : μ.1 111 22 ≤ μ3.1 111 22 ∧ μ3.1 111 22 ≤ μ.1 111 22 + 2 * (μ789.1 111 9 - μ.1 111 9) + 8 * (nn μ789 - nn μ) - 1 + -6 * wr μ789 ∧ μ.1 111 9 + 1 ≤ μ789.1 111 9 ∧ nn μ + 0 ≤ nn μ789 ∧ nn μ789 ≤ nn μ + 0 + 9 * wr μ789 ∧ nn μ789 ≤ 8 + wr μ789 ∧ 9 * wr μ789 ≤ nn μ789 ∧ nn μ789 ≤ 9 ∧ wr μ ≤ wr μ789 ∧ wr μ789 ≤ 1 ∧ wr μ789 ≤ bd μ789 ∧ bd μ789 ≤ 1 ∧ μ.1 111 29 ≤ μ.1 111 29 ∧ μ.1 111 31 ≤ μ.1 111 31 ∧ μ.1 111 31 ≤ 300 ∧ 0 ≤ μ.1 111 32 ∧ μ.1 111 32 ≤ μ789.1 111 9 ∧ μ789.1 111 9 ≤ 3000 := by (repeat' apply And.intro) <;> omega
                clear hv_15 hv_16 hv_17 hv_18 hv_19 hv_20 hv_21 hv_22 hv_23 hv_24 hv_25 hv_26 hv_27 hv_28 hv_29 hv_30 hv_31 hv_32 e_779 hw_780 e_781 e_782 e_784 e_787 hpl_796 hw_797 hw_798 vl_799 vl_800 vl_801
                refine lv_aload_n hx hb dX12_statement_125 rfl (lv_at hl 2 rfl) ?_
                have hq_822 : ∀ _ : Unit, q0m μ3 μ789 := fun _ => (q0m.fr (K := [111]) (FrM.tr FrM.rf F_790 (by decide)) (by decide) (by decide) (by decide) (hp_791 22 (by decide)) (nS.le (Int.le_of_eq (hp_791 29 (by decide)).symm) (Int.le_of_eq (hp_791 31 (by decide)).symm)))
                have hw_823 := wr_r (μ := μ789)
                have hht_824 : ∀ _ : Unit, bd μ789 = 0 → mHt μ789 0 := fun _ h0 => (hht_11 () (bd_z ((hp_794 ()).2) h0)).qm (hq_822 ())
                have e_825 : μ789.1 111 29 = μ.1 111 29 := ((hp_791 29 (by decide)).trans (hp_6 29 (by decide)))
                have hxt_826 : mEXT μ μ789 := hxt_10.tr (q0m.fr (K := [111]) (FrM.tr FrM.rf F_790 (by decide)) (by decide) (by decide) (by decide) (hp_791 22 (by decide)) (nS.le (Int.le_of_eq (hp_791 29 (by decide)).symm) (Int.le_of_eq (hp_791 31 (by decide)).symm))).1
                have e_827 : μ789.1 111 14 = tt := ((hp_791 14 (by decide)).trans ((hp_6 14 (by decide)).trans htt.symm))
                have e_828 : μ789.1 111 22 = μ3.1 111 22 := (hp_791 22 (by decide))
                have e_830 : μ789.1 111 39 = μ.1 111 39 := ((hp_791 39 (by decide)).trans (hp_6 39 (by decide)))
                have e_833 : μ789.1 111 31 = μ.1 111 31 := ((hp_791 31 (by decide)).trans (hp_6 31 (by decide)))
                refine xc_vV G (b := 111) (rest := []) (As := []) (c_X12_expr_a ω l μ789 tt (by (repeat' apply And.intro) <;> omega) hp_792 (by (repeat' apply And.intro) <;> omega) (by (repeat' apply And.intro) <;> omega) (by (repeat' apply And.intro) <;> omega) (by (repeat' apply And.intro) <;> omega) (by (repeat' apply And.intro) <;> omega) (fun _ h0 => (hht_824 () h0).p (by decide))) (wm 9 139 rfl rfl) (wm 9 141 rfl rfl) (wm 0 147 rfl rfl) rfl rfl (by decide) rfl (wm 1 18 rfl rfl) (wm 9 142 rfl rfl) (by decide) hR ⟨nfB hF (by decide), nlB hLo (by decide)⟩ (n := 0) rfl rfl (Nat.le_of_ble_eq_true rfl) hl.1 dX12_statement_126 (fun μ839 ρ d0 H locs hp G => ?_)
                obtain ⟨F_840, hp_841, hp_842, hp_843, hp_844, hp_845, hp_846, hp_847, hp_848, hp_849, hp_850, hp_851⟩ := hp
                have hpl_852 := hp_842.pl
                have hw_853 := wr_r (μ := μ839)
                have hxt_854 : mEXT μ μ839 := hxt_826.tr hp_851
                have hwk_855 : ∀ j, j < μ.1 111 39 → μ839.1 126 j = μ789.1 126 j := fun j hj => hp_849 j (by omega)
                have hex_856 : ∀ _ : Unit, bd μ839 = 0 → mEX μ789 μ839 tt 1 0 99 := fun _ h0 => (hp_850 () h0).mn (Int.le_refl _) (by omega)
                have hht_857 : ∀ _ : Unit, bd μ839 = 0 → mHt μ839 1 := fun _ h0 => (hht_824 () (bd_z (hp_846.2) h0)).ex (hex_856 () h0) rfl
                have vl_858 := hp_843
                replace hp_843 := fun _ : Unit => hp_843
                have vl_859 := hp_844
                replace hp_844 := fun _ : Unit => hp_844
                have vl_860 := hp_845
                replace hp_845 := fun _ : Unit => hp_845
                have vl_861 := hp_846
                replace hp_846 := fun _ : Unit => hp_846
                have vl_862 := hp_847
                replace hp_847 := fun _ : Unit => hp_847
                have vl_863 := hp_848
                replace hp_848 := fun _ : Unit => hp_848
                have h39_864 : μ839.1 111 39 = μ.1 111 39 := by omega
                obtain ⟨hv_867, hv_868, hv_869, hv_870, hv_871, hv_872, hv_873, hv_874, hv_875, hv_876, hv_877, hv_878, hv_879, hv_880, hv_881, hv_882, hv_883, hv_884⟩ : μ.1 111 22 ≤ μ839.1 111 22 ∧ μ839.1 111 22 ≤ μ.1 111 22 + 2 * (μ839.1 111 9 - μ.1 111 9) + 8 * (nn μ839 - nn μ) - 2 + -5 * wr μ839 ∧ μ.1 111 9 + 1 ≤ μ839.1 111 9 ∧ nn μ + 0 ≤ nn μ839 ∧ nn μ839 ≤ nn μ + 0 + 9 * wr μ839 ∧ nn μ839 ≤ 8 + wr μ839 ∧ 9 * wr μ839 ≤ nn μ839 ∧ nn μ839 ≤ 9 ∧ wr μ ≤ wr μ839 ∧ wr μ839 ≤ 1 ∧ wr μ839 ≤ bd μ839 ∧ bd μ839 ≤ 1 ∧ μ.1 111 29 ≤ μ839.1 111 29 ∧ μ.1 111 31 ≤ μ.1 111 31 ∧ μ.1 111 31 ≤ 300 ∧ 0 ≤ μ.1 111 32 ∧ μ.1 111 32 ≤ μ839.1 111 9 ∧ μ839.1 111 9 ≤ 3000 := by (repeat' apply And.intro) <;> omega
                clear hv_804 hv_805 hv_806 hv_807 hv_808 hv_809 hv_810 hv_811 hv_812 hv_813 hv_814 hv_815 hv_816 hv_817 hv_818 hv_819 hv_820 hv_821 hw_823 e_825 e_827 e_828 e_830 e_833 hpl_852 hw_853 vl_858 vl_859 vl_860 vl_861 vl_862 vl_863
                refine lv_aload_n hx hb dX12_statement_129 rfl (lv_at hl 2 rfl) ?_
                refine lv_bipush (v := iv 59) hx hb dX12_statement_130 rfl ?_
                have hw_885 := wr_r (μ := μ839)
                refine xc_vV G (b := 111) (rest := []) (As := [.int (iv 59)]) (c_X12_wantsSign ω l μ839 59 (by unfold ir; decide) hp_842 (by (repeat' apply And.intro) <;> omega)) (wm 9 114 rfl rfl) (wm 9 116 rfl rfl) (wm 0 141 rfl rfl) rfl rfl (by decide) rfl (wm 1 18 rfl rfl) (wm 9 117 rfl rfl) (by decide) hR ⟨nfB hF (by decide), nlB hLo (by decide)⟩ (n := 1) rfl rfl (Nat.le_of_ble_eq_true rfl) hl.1 dX12_statement_132 (fun μ886 ρ d0 H locs hp G => ?_)
                obtain ⟨F_887, hp_888, hp_889, hp_890, hp_891, hp_892, hp_893⟩ := hp
                have hpl_894 := hp_889.pl
                have hw_895 := wr_r (μ := μ886)
                have vl_896 := hp_890
                replace hp_890 := fun _ : Unit => hp_890
                have vl_897 := hp_891
                replace hp_891 := fun _ : Unit => hp_891
                have vl_898 := hp_892
                replace hp_892 := fun _ : Unit => hp_892
                have vl_899 := hp_893
                replace hp_893 := fun _ : Unit => hp_893
                obtain ⟨hv_902, hv_903, hv_904, hv_905, hv_906, hv_907, hv_908, hv_909, hv_910, hv_911, hv_912, hv_913, hv_914, hv_915, hv_916, hv_917, hv_918, hv_919⟩ : μ.1 111 22 ≤ μ839.1 111 22 ∧ μ839.1 111 22 ≤ μ.1 111 22 + 2 * (μ886.1 111 9 - μ.1 111 9) + 8 * (nn μ886 - nn μ) - 4 + -3 * wr μ886 ∧ μ.1 111 9 + 1 ≤ μ886.1 111 9 ∧ nn μ + 0 ≤ nn μ886 ∧ nn μ886 ≤ nn μ + 0 + 9 * wr μ886 ∧ nn μ886 ≤ 8 + wr μ886 ∧ 9 * wr μ886 ≤ nn μ886 ∧ nn μ886 ≤ 9 ∧ wr μ ≤ wr μ886 ∧ wr μ886 ≤ 1 ∧ wr μ886 ≤ bd μ886 ∧ bd μ886 ≤ 1 ∧ μ.1 111 29 ≤ μ839.1 111 29 ∧ μ.1 111 31 ≤ μ.1 111 31 ∧ μ.1 111 31 ≤ 300 ∧ 0 ≤ μ.1 111 32 ∧ μ.1 111 32 ≤ μ886.1 111 9 ∧ μ886.1 111 9 ≤ 3000 := by (repeat' apply And.intro) <;> omega
                clear hv_867 hv_868 hv_869 hv_870 hv_871 hv_872 hv_873 hv_874 hv_875 hv_876 hv_877 hv_878 hv_879 hv_880 hv_881 hv_882 hv_883 hv_884 hw_885 hpl_894 hw_895 vl_896 vl_897 vl_898 vl_899
                refine lv_aload_n hx hb dX12_statement_135 rfl (lv_at hl 2 rfl) ?_
                refine lv_iload_n hx hb dX12_statement_136 rfl (lv_at hl 0 rfl) ?_
                refine lv_lconst (v := jv 0) hx hb dX12_statement_137 rfl ?_
                refine lv_iconst (v := iv 0) hx hb dX12_statement_138 rfl ?_
                have hq_920 : ∀ _ : Unit, q0m μ839 μ886 := fun _ => (q0m.fr (K := [111]) (FrM.tr FrM.rf F_887 (by decide)) (by decide) (by decide) (by decide) (hp_888 22 (by decide)) (nS.le (Int.le_of_eq (hp_888 29 (by decide)).symm) (Int.le_of_eq (hp_888 31 (by decide)).symm)))
                have hw_921 := wr_r (μ := μ886)
                have hht_922 : ∀ _ : Unit, bd μ886 = 0 → mHt μ886 1 := fun _ h0 => (hht_857 () (bd_z ((hp_892 ()).2) h0)).qm (hq_920 ())
                have e_923 : μ886.1 111 29 = μ839.1 111 29 := (hp_888 29 (by decide))
                have hxt_924 : mEXT μ μ886 := hxt_854.tr (q0m.fr (K := [111]) (FrM.tr FrM.rf F_887 (by decide)) (by decide) (by decide) (by decide) (hp_888 22 (by decide)) (nS.le (Int.le_of_eq (hp_888 29 (by decide)).symm) (Int.le_of_eq (hp_888 31 (by decide)).symm))).1
                have e_925 : μ886.1 111 22 = μ839.1 111 22 := (hp_888 22 (by decide))
                refine xc_iV G (b := 111) (rest := []) (As := [.int (iv 10), .long (jv 0), .int (iv 0)]) (c_X12_emit ω l μ886 10 0 0 (by unfold ir; decide) (by unfold jr; omega) (by unfold ir; decide) (by (repeat' apply And.intro) <;> omega)) (wm 9 126 rfl rfl) (wm 9 128 rfl rfl) (wm 0 144 rfl rfl) rfl rfl (by decide) rfl (wm 1 18 rfl rfl) (wm 9 129 rfl rfl) (by decide) hR ⟨nfB hF (by decide), nlB hLo (by decide)⟩ (n := 3) rfl rfl (Nat.le_of_ble_eq_true rfl) hl.1 dX12_statement_139 (fun r_930 μ929 ρ d0 H locs hr_r_930 hp G => ?_)
                have hr_r_930 : -2147483648 ≤ r_930 ∧ r_930 ≤ 2147483647 := hr_r_930
                obtain ⟨F_931, hp_932, hp_933, hp_934, hp_935⟩ := hp
                have hxt_936 : mEXT μ μ929 := hxt_924.tr hp_933.1
                have hht_937 : ∀ _ : Unit, bd μ929 = 0 → mHt μ929 0 := fun _ h0 => (hht_922 () (bd_z (Int.le_of_eq (bd_cg (hp_932 15 (by decide)) (hp_932 16 (by decide)) (hp_932 17 (by decide))).symm) h0)).ad hp_933 rfl
                have vl_938 := hp_935
                replace hp_935 := fun _ : Unit => hp_935
                obtain ⟨hv_941, hv_942, hv_943, hv_944, hv_945, hv_946, hv_947, hv_948, hv_949, hv_950, hv_951, hv_952, hv_953, hv_954, hv_955, hv_956, hv_957, hv_958⟩ : μ.1 111 22 ≤ μ929.1 111 22 ∧ μ929.1 111 22 ≤ μ.1 111 22 + 2 * (μ886.1 111 9 - μ.1 111 9) + 8 * (nn μ886 - nn μ) - 3 + -3 * wr μ886 ∧ μ.1 111 9 + 1 ≤ μ886.1 111 9 ∧ nn μ + 0 ≤ nn μ886 ∧ nn μ886 ≤ nn μ + 0 + 9 * wr μ886 ∧ nn μ886 ≤ 8 + wr μ886 ∧ 9 * wr μ886 ≤ nn μ886 ∧ nn μ886 ≤ 9 ∧ wr μ ≤ wr μ886 ∧ wr μ886 ≤ 1 ∧ wr μ886 ≤ bd μ886 ∧ bd μ886 ≤ 1 ∧ μ.1 111 29 ≤ μ839.1 111 29 ∧ μ.1 111 31 ≤ μ.1 111 31 ∧ μ.1 111 31 ≤ 300 ∧ 0 ≤ μ.1 111 32 ∧ μ.1 111 32 ≤ μ886.1 111 9 ∧ μ886.1 111 9 ≤ 3000 := by (repeat' apply And.intro) <;> omega
                clear hv_902 hv_903 hv_904 hv_905 hv_906 hv_907 hv_908 hv_909 hv_910 hv_911 hv_912 hv_913 hv_914 hv_915 hv_916 hv_917 hv_918 hv_919 hw_921 e_923 e_925 vl_938
                refine lv_pop hx hb dX12_statement_142 rfl ?_
                refine lv_goto (tgt := 178) hx hb dX12_statement_143 (by decide) ?_
                have e_959 : μ929.1 111 9 = μ886.1 111 9 := (hp_932 9 (by decide))
                have e_960 : μ929.1 111 29 = μ839.1 111 29 := ((hp_932 29 (by decide)).trans (hp_888 29 (by decide)))
                have e_961 : μ929.1 111 39 = μ839.1 111 39 := ((hp_932 39 (by decide)).trans (hp_888 39 (by decide)))
                have e_962 : μ929.1 111 31 = μ.1 111 31 := ((hp_932 31 (by decide)).trans ((hp_888 31 (by decide)).trans ((hp_841 31 (by decide)).trans ((hp_791 31 (by decide)).trans (hp_6 31 (by decide))))))
                have e_963 : μ929.1 111 32 = μ.1 111 32 := ((hp_932 32 (by decide)).trans ((hp_888 32 (by decide)).trans ((hp_841 32 (by decide)).trans ((hp_791 32 (by decide)).trans (hp_6 32 (by decide))))))
                have e_964 : μ929.1 111 6 = μ886.1 111 6 := (hp_932 6 (by decide))
                have e_965 : wr μ929 = wr μ886 := (wr_cg (hp_932 15 (by decide)))
                have hw_966 := wr_r (μ := μ886)
                have e_967 : bd μ929 = bd μ886 := (bd_cg (hp_932 15 (by decide)) (hp_932 16 (by decide)) (hp_932 17 (by decide)))
                have e_968 : nn μ929 = nn μ886 := (nn_cg (hp_932 15 (by decide)) (hp_932 18 (by decide)))
                have hPM_969 : PM μ929 := hp_889.cg ((((hp_932 4 (by decide)).trans ((hp_888 4 (by decide)).trans ((hp_841 4 (by decide)).trans ((hp_791 4 (by decide)).trans (hp_6 4 (by decide))))))).trans (((hp_888 4 (by decide)).trans ((hp_841 4 (by decide)).trans ((hp_791 4 (by decide)).trans (hp_6 4 (by decide)))))).symm) (hp_932 6 (by decide)) ((((hp_932 7 (by decide)).trans ((hp_888 7 (by decide)).trans ((hp_841 7 (by decide)).trans ((hp_791 7 (by decide)).trans (hp_6 7 (by decide))))))).trans (((hp_888 7 (by decide)).trans ((hp_841 7 (by decide)).trans ((hp_791 7 (by decide)).trans (hp_6 7 (by decide)))))).symm) (hp_932 8 (by decide)) (hp_932 9 (by decide)) (hp_932 11 (by decide)) (hp_932 12 (by decide)) ((((hp_932 14 (by decide)).trans ((hp_888 14 (by decide)).trans ((hp_841 14 (by decide)).trans ((hp_791 14 (by decide)).trans ((hp_6 14 (by decide)).trans htt.symm)))))).trans (((hp_888 14 (by decide)).trans ((hp_841 14 (by decide)).trans ((hp_791 14 (by decide)).trans ((hp_6 14 (by decide)).trans htt.symm))))).symm) (hp_932 15 (by decide)) ((((hp_932 29 (by decide)).trans (hp_888 29 (by decide)))).trans ((hp_888 29 (by decide))).symm) (fun j => (F_931.1 123 (by decide) j))
                exact xr_v G hret hlk dX12_statement_178 ⟨(FrM.tr (FrM.tr (FrM.tr (FrM.tr (FrM.tr FrM.rf F_5 (by decide)) F_790 (by decide)) F_840 (by decide)) F_887 (by decide)) F_931 (by decide)), (fun j hj => ((hp_932 j (fun h9 => hj ((by decide : ∀ x ∈ ([22] : List Int), x ∈ ([6, 8, 9, 10, 11, 12, 13, 15, 16, 17, 18, 22, 29, 31, 32, 34, 35, 36, 37, 39] : List Int)) j h9))).trans ((hp_888 j (fun h9 => hj ((by decide : ∀ x ∈ ([6, 8, 9, 10, 11, 12, 13, 15] : List Int), x ∈ ([6, 8, 9, 10, 11, 12, 13, 15, 16, 17, 18, 22, 29, 31, 32, 34, 35, 36, 37, 39] : List Int)) j h9))).trans ((hp_841 j (fun h9 => hj ((by decide : ∀ x ∈ ([6, 8, 9, 10, 11, 12, 13, 15, 16, 17, 18, 22, 29, 39] : List Int), x ∈ ([6, 8, 9, 10, 11, 12, 13, 15, 16, 17, 18, 22, 29, 31, 32, 34, 35, 36, 37, 39] : List Int)) j h9))).trans ((hp_791 j (fun h9 => hj ((by decide : ∀ x ∈ ([6, 8, 9, 10, 11, 12, 13, 15] : List Int), x ∈ ([6, 8, 9, 10, 11, 12, 13, 15, 16, 17, 18, 22, 29, 31, 32, 34, 35, 36, 37, 39] : List Int)) j h9))).trans (hp_6 j (fun h9 => hj ((by decide : ∀ x ∈ ([22] : List Int), x ∈ ([6, 8, 9, 10, 11, 12, 13, 15, 16, 17, 18, 22, 29, 31, 32, 34, 35, 36, 37, 39] : List Int)) j h9)))))))), hPM_969, (by (repeat' apply And.intro) <;> omega), (by (repeat' apply And.intro) <;> omega), (by (repeat' apply And.intro) <;> omega), ⟨by omega, (Int.le_trans (Int.le_trans (Int.le_trans (Int.le_trans (Int.le_of_eq (bd_cg (hp_6 15 (by decide)) (hp_6 16 (by decide)) (hp_6 17 (by decide))).symm) ((hp_794 ()).2)) ((hp_846 ()).2)) ((hp_892 ()).2)) (Int.le_of_eq (bd_cg (hp_932 15 (by decide)) (hp_932 16 (by decide)) (hp_932 17 (by decide))).symm))⟩, (by (repeat' apply And.intro) <;> omega), (by (repeat' apply And.intro) <;> omega), (fun j hj => ((F_931.1 126 (by decide) j).trans ((F_887.1 126 (by decide) j).trans ((hwk_855 j (by omega)).trans ((F_790.1 126 (by decide) j).trans (F_5.1 126 (by decide) j)))))), (by (repeat' apply And.intro) <;> omega), (by (repeat' apply And.intro) <;> omega), (fun _ h0 => mEY.stp (hS0 () (bd_z (Int.le_trans (Int.le_trans (Int.le_trans (Int.le_trans (Int.le_of_eq (bd_cg (hp_6 15 (by decide)) (hp_6 16 (by decide)) (hp_6 17 (by decide))).symm) ((hp_794 ()).2)) ((hp_846 ()).2)) ((hp_892 ()).2)) (Int.le_of_eq (bd_cg (hp_932 15 (by decide)) (hp_932 16 (by decide)) (hp_932 17 (by decide))).symm)) h0)) (hp_7.qm (hq_822 ())) (as_one (M := (2 * (9 - nn μ))) ((hS0 () (bd_z (Int.le_trans (Int.le_trans (Int.le_trans (Int.le_trans (Int.le_of_eq (bd_cg (hp_6 15 (by decide)) (hp_6 16 (by decide)) (hp_6 17 (by decide))).symm) ((hp_794 ()).2)) ((hp_846 ()).2)) ((hp_892 ()).2)) (Int.le_of_eq (bd_cg (hp_932 15 (by decide)) (hp_932 16 (by decide)) (hp_932 17 (by decide))).symm)) h0)).stp (t := tt) (hp_7.qm (hq_822 ()))).s ((hex_856 () (bd_z (Int.le_trans ((hp_892 ()).2) (Int.le_of_eq (bd_cg (hp_932 15 (by decide)) (hp_932 16 (by decide)) (hp_932 17 (by decide))).symm)) h0)).qm (hq_920 ())) (by omega) (by omega) hp_933 (by unfold mpl; omega) rfl rfl (fun h1 => ⟨fun q => absurd q (by decide), ⟨fun q => absurd q (by decide), fun q => absurd q (by decide)⟩, fun _ => by omega, fun q => absurd q (by decide), fun q => absurd q (by decide), fun q => absurd q (by decide), fun q => absurd q (by decide), fun q => absurd q (by decide), fun q => absurd q (by decide), fun q => absurd q (by decide), fun q => absurd q (by decide), fun q => absurd q (by decide), fun q => absurd q (by decide), fun q => absurd q (by decide), fun q => absurd q (by decide), fun q => absurd q (by decide), fun q => absurd q (by decide), fun q => absurd q (by decide), fun q => absurd q (by decide), fun q => absurd q (by decide), fun q => absurd q (by decide), ⟨fun q => absurd q (by decide), fun q => absurd q (by decide), fun q => absurd q (by decide)⟩, ⟨by decide, by decide⟩⟩))), hxt_936⟩
              · refine lv_bipush (v := iv 9) hx hb dX12_statement_113 rfl ?_
                refine lv_goto (tgt := 120) hx hb dX12_statement_115 (by decide) ?_
                refine lv_istore_n (lv' := [(2, .int (iv 9)), (1, .int (iv (μ.1 111 9))), (0, .ref (oP ω 111))]) hx hb dX12_statement_120 rfl hl (by decide) rfl (fun ls hl => ?_)
                refine lv_aload_n hx hb dX12_statement_121 rfl (lv_at hl 2 rfl) ?_
                have hPM_983 : PM μ3 := hPM.cg (hp_6 4 (by decide)) (hp_6 6 (by decide)) (hp_6 7 (by decide)) (hp_6 8 (by decide)) (hp_6 9 (by decide)) (hp_6 11 (by decide)) (hp_6 12 (by decide)) ((((hp_6 14 (by decide)).trans htt.symm)).trans (htt.symm).symm) (hp_6 15 (by decide)) (hp_6 29 (by decide)) (fun j => (F_5.1 123 (by decide) j))
                have e_984 : wr μ3 = wr μ := (wr_cg (hp_6 15 (by decide)))
                have hw_985 := wr_r (μ := μ)
                have e_986 : nn μ3 = nn μ := (nn_cg (hp_6 15 (by decide)) (hp_6 18 (by decide)))
                have e_987 : μ3.1 111 8 = μ.1 111 8 := (hp_6 8 (by decide))
                have e_989 : μ3.1 111 9 = μ.1 111 9 := (hp_6 9 (by decide))
                have e_992 : bd μ3 = bd μ := (bd_cg (hp_6 15 (by decide)) (hp_6 16 (by decide)) (hp_6 17 (by decide)))
                refine xc_vV G (b := 111) (rest := []) (As := []) (c_X12_next ω l μ3  hPM_983 (by (repeat' apply And.intro) <;> omega) (by (repeat' apply And.intro) <;> omega)) (wm 9 0 rfl rfl) (wm 9 2 rfl rfl) (wm 0 119 rfl rfl) rfl rfl (by decide) rfl (wm 1 18 rfl rfl) (wm 9 3 rfl rfl) (by decide) hR ⟨nfB hF (by decide), nlB hLo (by decide)⟩ (n := 0) rfl rfl (Nat.le_of_ble_eq_true rfl) hl.1 dX12_statement_122 (fun μ994 ρ d0 H locs hp G => ?_)
                obtain ⟨F_995, hp_996, hp_997, hp_998, hp_999, hp_1000⟩ := hp
                have hpl_1001 := hp_997.pl
                have hw_1002 := wr_r (μ := μ3)
                have hw_1003 := wr_r (μ := μ994)
                have vl_1004 := hp_998
                replace hp_998 := fun _ : Unit => hp_998
                have vl_1005 := hp_999
                replace hp_999 := fun _ : Unit => hp_999
                have vl_1006 := hp_1000
                replace hp_1000 := fun _ : Unit => hp_1000
                obtain ⟨hv_1009, hv_1010, hv_1011, hv_1012, hv_1013, hv_1014, hv_1015, hv_1016, hv_1017, hv_1018, hv_1019, hv_1020, hv_1021, hv_1022, hv_1023, hv_1024, hv_1025, hv_1026⟩ : μ.1 111 22 ≤ μ3.1 111 22 ∧ μ3.1 111 22 ≤ μ.1 111 22 + 2 * (μ994.1 111 9 - μ.1 111 9) + 8 * (nn μ994 - nn μ) - 1 + -6 * wr μ994 ∧ μ.1 111 9 + 1 ≤ μ994.1 111 9 ∧ nn μ + 0 ≤ nn μ994 ∧ nn μ994 ≤ nn μ + 0 + 9 * wr μ994 ∧ nn μ994 ≤ 8 + wr μ994 ∧ 9 * wr μ994 ≤ nn μ994 ∧ nn μ994 ≤ 9 ∧ wr μ ≤ wr μ994 ∧ wr μ994 ≤ 1 ∧ wr μ994 ≤ bd μ994 ∧ bd μ994 ≤ 1 ∧ μ.1 111 29 ≤ μ.1 111 29 ∧ μ.1 111 31 ≤ μ.1 111 31 ∧ μ.1 111 31 ≤ 300 ∧ 0 ≤ μ.1 111 32 ∧ μ.1 111 32 ≤ μ994.1 111 9 ∧ μ994.1 111 9 ≤ 3000 := by (repeat' apply And.intro) <;> omega
                clear hv_15 hv_16 hv_17 hv_18 hv_19 hv_20 hv_21 hv_22 hv_23 hv_24 hv_25 hv_26 hv_27 hv_28 hv_29 hv_30 hv_31 hv_32 e_984 hw_985 e_986 e_987 e_989 e_992 hpl_1001 hw_1002 hw_1003 vl_1004 vl_1005 vl_1006
                refine lv_aload_n hx hb dX12_statement_125 rfl (lv_at hl 2 rfl) ?_
                have hq_1027 : ∀ _ : Unit, q0m μ3 μ994 := fun _ => (q0m.fr (K := [111]) (FrM.tr FrM.rf F_995 (by decide)) (by decide) (by decide) (by decide) (hp_996 22 (by decide)) (nS.le (Int.le_of_eq (hp_996 29 (by decide)).symm) (Int.le_of_eq (hp_996 31 (by decide)).symm)))
                have hw_1028 := wr_r (μ := μ994)
                have hht_1029 : ∀ _ : Unit, bd μ994 = 0 → mHt μ994 0 := fun _ h0 => (hht_11 () (bd_z ((hp_999 ()).2) h0)).qm (hq_1027 ())
                have e_1030 : μ994.1 111 29 = μ.1 111 29 := ((hp_996 29 (by decide)).trans (hp_6 29 (by decide)))
                have hxt_1031 : mEXT μ μ994 := hxt_10.tr (q0m.fr (K := [111]) (FrM.tr FrM.rf F_995 (by decide)) (by decide) (by decide) (by decide) (hp_996 22 (by decide)) (nS.le (Int.le_of_eq (hp_996 29 (by decide)).symm) (Int.le_of_eq (hp_996 31 (by decide)).symm))).1
                have e_1032 : μ994.1 111 14 = tt := ((hp_996 14 (by decide)).trans ((hp_6 14 (by decide)).trans htt.symm))
                have e_1033 : μ994.1 111 22 = μ3.1 111 22 := (hp_996 22 (by decide))
                have e_1035 : μ994.1 111 39 = μ.1 111 39 := ((hp_996 39 (by decide)).trans (hp_6 39 (by decide)))
                have e_1038 : μ994.1 111 31 = μ.1 111 31 := ((hp_996 31 (by decide)).trans (hp_6 31 (by decide)))
                refine xc_vV G (b := 111) (rest := []) (As := []) (c_X12_expr_a ω l μ994 tt (by (repeat' apply And.intro) <;> omega) hp_997 (by (repeat' apply And.intro) <;> omega) (by (repeat' apply And.intro) <;> omega) (by (repeat' apply And.intro) <;> omega) (by (repeat' apply And.intro) <;> omega) (by (repeat' apply And.intro) <;> omega) (fun _ h0 => (hht_1029 () h0).p (by decide))) (wm 9 139 rfl rfl) (wm 9 141 rfl rfl) (wm 0 147 rfl rfl) rfl rfl (by decide) rfl (wm 1 18 rfl rfl) (wm 9 142 rfl rfl) (by decide) hR ⟨nfB hF (by decide), nlB hLo (by decide)⟩ (n := 0) rfl rfl (Nat.le_of_ble_eq_true rfl) hl.1 dX12_statement_126 (fun μ1044 ρ d0 H locs hp G => ?_)
                obtain ⟨F_1045, hp_1046, hp_1047, hp_1048, hp_1049, hp_1050, hp_1051, hp_1052, hp_1053, hp_1054, hp_1055, hp_1056⟩ := hp
                have hpl_1057 := hp_1047.pl
                have hw_1058 := wr_r (μ := μ1044)
                have hxt_1059 : mEXT μ μ1044 := hxt_1031.tr hp_1056
                have hwk_1060 : ∀ j, j < μ.1 111 39 → μ1044.1 126 j = μ994.1 126 j := fun j hj => hp_1054 j (by omega)
                have hex_1061 : ∀ _ : Unit, bd μ1044 = 0 → mEX μ994 μ1044 tt 1 0 99 := fun _ h0 => (hp_1055 () h0).mn (Int.le_refl _) (by omega)
                have hht_1062 : ∀ _ : Unit, bd μ1044 = 0 → mHt μ1044 1 := fun _ h0 => (hht_1029 () (bd_z (hp_1051.2) h0)).ex (hex_1061 () h0) rfl
                have vl_1063 := hp_1048
                replace hp_1048 := fun _ : Unit => hp_1048
                have vl_1064 := hp_1049
                replace hp_1049 := fun _ : Unit => hp_1049
                have vl_1065 := hp_1050
                replace hp_1050 := fun _ : Unit => hp_1050
                have vl_1066 := hp_1051
                replace hp_1051 := fun _ : Unit => hp_1051
                have vl_1067 := hp_1052
                replace hp_1052 := fun _ : Unit => hp_1052
                have vl_1068 := hp_1053
                replace hp_1053 := fun _ : Unit => hp_1053
                have h39_1069 : μ1044.1 111 39 = μ.1 111 39 := by omega
                obtain ⟨hv_1072, hv_1073, hv_1074, hv_1075, hv_1076, hv_1077, hv_1078, hv_1079, hv_1080, hv_1081, hv_1082, hv_1083, hv_1084, hv_1085, hv_1086, hv_1087, hv_1088, hv_1089⟩ : μ.1 111 22 ≤ μ1044.1 111 22 ∧ μ1044.1 111 22 ≤ μ.1 111 22 + 2 * (μ1044.1 111 9 - μ.1 111 9) + 8 * (nn μ1044 - nn μ) - 2 + -5 * wr μ1044 ∧ μ.1 111 9 + 1 ≤ μ1044.1 111 9 ∧ nn μ + 0 ≤ nn μ1044 ∧ nn μ1044 ≤ nn μ + 0 + 9 * wr μ1044 ∧ nn μ1044 ≤ 8 + wr μ1044 ∧ 9 * wr μ1044 ≤ nn μ1044 ∧ nn μ1044 ≤ 9 ∧ wr μ ≤ wr μ1044 ∧ wr μ1044 ≤ 1 ∧ wr μ1044 ≤ bd μ1044 ∧ bd μ1044 ≤ 1 ∧ μ.1 111 29 ≤ μ1044.1 111 29 ∧ μ.1 111 31 ≤ μ.1 111 31 ∧ μ.1 111 31 ≤ 300 ∧ 0 ≤ μ.1 111 32 ∧ μ.1 111 32 ≤ μ1044.1 111 9 ∧ μ1044.1 111 9 ≤ 3000 := by (repeat' apply And.intro) <;> omega
                clear hv_1009 hv_1010 hv_1011 hv_1012 hv_1013 hv_1014 hv_1015 hv_1016 hv_1017 hv_1018 hv_1019 hv_1020 hv_1021 hv_1022 hv_1023 hv_1024 hv_1025 hv_1026 hw_1028 e_1030 e_1032 e_1033 e_1035 e_1038 hpl_1057 hw_1058 vl_1063 vl_1064 vl_1065 vl_1066 vl_1067 vl_1068
                refine lv_aload_n hx hb dX12_statement_129 rfl (lv_at hl 2 rfl) ?_
                refine lv_bipush (v := iv 59) hx hb dX12_statement_130 rfl ?_
                have hw_1090 := wr_r (μ := μ1044)
                refine xc_vV G (b := 111) (rest := []) (As := [.int (iv 59)]) (c_X12_wantsSign ω l μ1044 59 (by unfold ir; decide) hp_1047 (by (repeat' apply And.intro) <;> omega)) (wm 9 114 rfl rfl) (wm 9 116 rfl rfl) (wm 0 141 rfl rfl) rfl rfl (by decide) rfl (wm 1 18 rfl rfl) (wm 9 117 rfl rfl) (by decide) hR ⟨nfB hF (by decide), nlB hLo (by decide)⟩ (n := 1) rfl rfl (Nat.le_of_ble_eq_true rfl) hl.1 dX12_statement_132 (fun μ1091 ρ d0 H locs hp G => ?_)
                obtain ⟨F_1092, hp_1093, hp_1094, hp_1095, hp_1096, hp_1097, hp_1098⟩ := hp
                have hpl_1099 := hp_1094.pl
                have hw_1100 := wr_r (μ := μ1091)
                have vl_1101 := hp_1095
                replace hp_1095 := fun _ : Unit => hp_1095
                have vl_1102 := hp_1096
                replace hp_1096 := fun _ : Unit => hp_1096
                have vl_1103 := hp_1097
                replace hp_1097 := fun _ : Unit => hp_1097
                have vl_1104 := hp_1098
                replace hp_1098 := fun _ : Unit => hp_1098
                obtain ⟨hv_1107, hv_1108, hv_1109, hv_1110, hv_1111, hv_1112, hv_1113, hv_1114, hv_1115, hv_1116, hv_1117, hv_1118, hv_1119, hv_1120, hv_1121, hv_1122, hv_1123, hv_1124⟩ : μ.1 111 22 ≤ μ1044.1 111 22 ∧ μ1044.1 111 22 ≤ μ.1 111 22 + 2 * (μ1091.1 111 9 - μ.1 111 9) + 8 * (nn μ1091 - nn μ) - 4 + -3 * wr μ1091 ∧ μ.1 111 9 + 1 ≤ μ1091.1 111 9 ∧ nn μ + 0 ≤ nn μ1091 ∧ nn μ1091 ≤ nn μ + 0 + 9 * wr μ1091 ∧ nn μ1091 ≤ 8 + wr μ1091 ∧ 9 * wr μ1091 ≤ nn μ1091 ∧ nn μ1091 ≤ 9 ∧ wr μ ≤ wr μ1091 ∧ wr μ1091 ≤ 1 ∧ wr μ1091 ≤ bd μ1091 ∧ bd μ1091 ≤ 1 ∧ μ.1 111 29 ≤ μ1044.1 111 29 ∧ μ.1 111 31 ≤ μ.1 111 31 ∧ μ.1 111 31 ≤ 300 ∧ 0 ≤ μ.1 111 32 ∧ μ.1 111 32 ≤ μ1091.1 111 9 ∧ μ1091.1 111 9 ≤ 3000 := by (repeat' apply And.intro) <;> omega
                clear hv_1072 hv_1073 hv_1074 hv_1075 hv_1076 hv_1077 hv_1078 hv_1079 hv_1080 hv_1081 hv_1082 hv_1083 hv_1084 hv_1085 hv_1086 hv_1087 hv_1088 hv_1089 hw_1090 hpl_1099 hw_1100 vl_1101 vl_1102 vl_1103 vl_1104
                refine lv_aload_n hx hb dX12_statement_135 rfl (lv_at hl 2 rfl) ?_
                refine lv_iload_n hx hb dX12_statement_136 rfl (lv_at hl 0 rfl) ?_
                refine lv_lconst (v := jv 0) hx hb dX12_statement_137 rfl ?_
                refine lv_iconst (v := iv 0) hx hb dX12_statement_138 rfl ?_
                have hq_1125 : ∀ _ : Unit, q0m μ1044 μ1091 := fun _ => (q0m.fr (K := [111]) (FrM.tr FrM.rf F_1092 (by decide)) (by decide) (by decide) (by decide) (hp_1093 22 (by decide)) (nS.le (Int.le_of_eq (hp_1093 29 (by decide)).symm) (Int.le_of_eq (hp_1093 31 (by decide)).symm)))
                have hw_1126 := wr_r (μ := μ1091)
                have hht_1127 : ∀ _ : Unit, bd μ1091 = 0 → mHt μ1091 1 := fun _ h0 => (hht_1062 () (bd_z ((hp_1097 ()).2) h0)).qm (hq_1125 ())
                have e_1128 : μ1091.1 111 29 = μ1044.1 111 29 := (hp_1093 29 (by decide))
                have hxt_1129 : mEXT μ μ1091 := hxt_1059.tr (q0m.fr (K := [111]) (FrM.tr FrM.rf F_1092 (by decide)) (by decide) (by decide) (by decide) (hp_1093 22 (by decide)) (nS.le (Int.le_of_eq (hp_1093 29 (by decide)).symm) (Int.le_of_eq (hp_1093 31 (by decide)).symm))).1
                have e_1130 : μ1091.1 111 22 = μ1044.1 111 22 := (hp_1093 22 (by decide))
                refine xc_iV G (b := 111) (rest := []) (As := [.int (iv 9), .long (jv 0), .int (iv 0)]) (c_X12_emit ω l μ1091 9 0 0 (by unfold ir; decide) (by unfold jr; omega) (by unfold ir; decide) (by (repeat' apply And.intro) <;> omega)) (wm 9 126 rfl rfl) (wm 9 128 rfl rfl) (wm 0 144 rfl rfl) rfl rfl (by decide) rfl (wm 1 18 rfl rfl) (wm 9 129 rfl rfl) (by decide) hR ⟨nfB hF (by decide), nlB hLo (by decide)⟩ (n := 3) rfl rfl (Nat.le_of_ble_eq_true rfl) hl.1 dX12_statement_139 (fun r_1135 μ1134 ρ d0 H locs hr_r_1135 hp G => ?_)
                have hr_r_1135 : -2147483648 ≤ r_1135 ∧ r_1135 ≤ 2147483647 := hr_r_1135
                obtain ⟨F_1136, hp_1137, hp_1138, hp_1139, hp_1140⟩ := hp
                have hxt_1141 : mEXT μ μ1134 := hxt_1129.tr hp_1138.1
                have hht_1142 : ∀ _ : Unit, bd μ1134 = 0 → mHt μ1134 0 := fun _ h0 => (hht_1127 () (bd_z (Int.le_of_eq (bd_cg (hp_1137 15 (by decide)) (hp_1137 16 (by decide)) (hp_1137 17 (by decide))).symm) h0)).ad hp_1138 rfl
                have vl_1143 := hp_1140
                replace hp_1140 := fun _ : Unit => hp_1140
                obtain ⟨hv_1146, hv_1147, hv_1148, hv_1149, hv_1150, hv_1151, hv_1152, hv_1153, hv_1154, hv_1155, hv_1156, hv_1157, hv_1158, hv_1159, hv_1160, hv_1161, hv_1162, hv_1163⟩ : μ.1 111 22 ≤ μ1134.1 111 22 ∧ μ1134.1 111 22 ≤ μ.1 111 22 + 2 * (μ1091.1 111 9 - μ.1 111 9) + 8 * (nn μ1091 - nn μ) - 3 + -3 * wr μ1091 ∧ μ.1 111 9 + 1 ≤ μ1091.1 111 9 ∧ nn μ + 0 ≤ nn μ1091 ∧ nn μ1091 ≤ nn μ + 0 + 9 * wr μ1091 ∧ nn μ1091 ≤ 8 + wr μ1091 ∧ 9 * wr μ1091 ≤ nn μ1091 ∧ nn μ1091 ≤ 9 ∧ wr μ ≤ wr μ1091 ∧ wr μ1091 ≤ 1 ∧ wr μ1091 ≤ bd μ1091 ∧ bd μ1091 ≤ 1 ∧ μ.1 111 29 ≤ μ1044.1 111 29 ∧ μ.1 111 31 ≤ μ.1 111 31 ∧ μ.1 111 31 ≤ 300 ∧ 0 ≤ μ.1 111 32 ∧ μ.1 111 32 ≤ μ1091.1 111 9 ∧ μ1091.1 111 9 ≤ 3000 := by (repeat' apply And.intro) <;> omega
                clear hv_1107 hv_1108 hv_1109 hv_1110 hv_1111 hv_1112 hv_1113 hv_1114 hv_1115 hv_1116 hv_1117 hv_1118 hv_1119 hv_1120 hv_1121 hv_1122 hv_1123 hv_1124 hw_1126 e_1128 e_1130 vl_1143
                refine lv_pop hx hb dX12_statement_142 rfl ?_
                refine lv_goto (tgt := 178) hx hb dX12_statement_143 (by decide) ?_
                have e_1164 : μ1134.1 111 9 = μ1091.1 111 9 := (hp_1137 9 (by decide))
                have e_1165 : μ1134.1 111 29 = μ1044.1 111 29 := ((hp_1137 29 (by decide)).trans (hp_1093 29 (by decide)))
                have e_1166 : μ1134.1 111 39 = μ1044.1 111 39 := ((hp_1137 39 (by decide)).trans (hp_1093 39 (by decide)))
                have e_1167 : μ1134.1 111 31 = μ.1 111 31 := ((hp_1137 31 (by decide)).trans ((hp_1093 31 (by decide)).trans ((hp_1046 31 (by decide)).trans ((hp_996 31 (by decide)).trans (hp_6 31 (by decide))))))
                have e_1168 : μ1134.1 111 32 = μ.1 111 32 := ((hp_1137 32 (by decide)).trans ((hp_1093 32 (by decide)).trans ((hp_1046 32 (by decide)).trans ((hp_996 32 (by decide)).trans (hp_6 32 (by decide))))))
                have e_1169 : μ1134.1 111 6 = μ1091.1 111 6 := (hp_1137 6 (by decide))
                have e_1170 : wr μ1134 = wr μ1091 := (wr_cg (hp_1137 15 (by decide)))
                have hw_1171 := wr_r (μ := μ1091)
                have e_1172 : bd μ1134 = bd μ1091 := (bd_cg (hp_1137 15 (by decide)) (hp_1137 16 (by decide)) (hp_1137 17 (by decide)))
                have e_1173 : nn μ1134 = nn μ1091 := (nn_cg (hp_1137 15 (by decide)) (hp_1137 18 (by decide)))
                have hPM_1174 : PM μ1134 := hp_1094.cg ((((hp_1137 4 (by decide)).trans ((hp_1093 4 (by decide)).trans ((hp_1046 4 (by decide)).trans ((hp_996 4 (by decide)).trans (hp_6 4 (by decide))))))).trans (((hp_1093 4 (by decide)).trans ((hp_1046 4 (by decide)).trans ((hp_996 4 (by decide)).trans (hp_6 4 (by decide)))))).symm) (hp_1137 6 (by decide)) ((((hp_1137 7 (by decide)).trans ((hp_1093 7 (by decide)).trans ((hp_1046 7 (by decide)).trans ((hp_996 7 (by decide)).trans (hp_6 7 (by decide))))))).trans (((hp_1093 7 (by decide)).trans ((hp_1046 7 (by decide)).trans ((hp_996 7 (by decide)).trans (hp_6 7 (by decide)))))).symm) (hp_1137 8 (by decide)) (hp_1137 9 (by decide)) (hp_1137 11 (by decide)) (hp_1137 12 (by decide)) ((((hp_1137 14 (by decide)).trans ((hp_1093 14 (by decide)).trans ((hp_1046 14 (by decide)).trans ((hp_996 14 (by decide)).trans ((hp_6 14 (by decide)).trans htt.symm)))))).trans (((hp_1093 14 (by decide)).trans ((hp_1046 14 (by decide)).trans ((hp_996 14 (by decide)).trans ((hp_6 14 (by decide)).trans htt.symm))))).symm) (hp_1137 15 (by decide)) ((((hp_1137 29 (by decide)).trans (hp_1093 29 (by decide)))).trans ((hp_1093 29 (by decide))).symm) (fun j => (F_1136.1 123 (by decide) j))
                exact xr_v G hret hlk dX12_statement_178 ⟨(FrM.tr (FrM.tr (FrM.tr (FrM.tr (FrM.tr FrM.rf F_5 (by decide)) F_995 (by decide)) F_1045 (by decide)) F_1092 (by decide)) F_1136 (by decide)), (fun j hj => ((hp_1137 j (fun h9 => hj ((by decide : ∀ x ∈ ([22] : List Int), x ∈ ([6, 8, 9, 10, 11, 12, 13, 15, 16, 17, 18, 22, 29, 31, 32, 34, 35, 36, 37, 39] : List Int)) j h9))).trans ((hp_1093 j (fun h9 => hj ((by decide : ∀ x ∈ ([6, 8, 9, 10, 11, 12, 13, 15] : List Int), x ∈ ([6, 8, 9, 10, 11, 12, 13, 15, 16, 17, 18, 22, 29, 31, 32, 34, 35, 36, 37, 39] : List Int)) j h9))).trans ((hp_1046 j (fun h9 => hj ((by decide : ∀ x ∈ ([6, 8, 9, 10, 11, 12, 13, 15, 16, 17, 18, 22, 29, 39] : List Int), x ∈ ([6, 8, 9, 10, 11, 12, 13, 15, 16, 17, 18, 22, 29, 31, 32, 34, 35, 36, 37, 39] : List Int)) j h9))).trans ((hp_996 j (fun h9 => hj ((by decide : ∀ x ∈ ([6, 8, 9, 10, 11, 12, 13, 15] : List Int), x ∈ ([6, 8, 9, 10, 11, 12, 13, 15, 16, 17, 18, 22, 29, 31, 32, 34, 35, 36, 37, 39] : List Int)) j h9))).trans (hp_6 j (fun h9 => hj ((by decide : ∀ x ∈ ([22] : List Int), x ∈ ([6, 8, 9, 10, 11, 12, 13, 15, 16, 17, 18, 22, 29, 31, 32, 34, 35, 36, 37, 39] : List Int)) j h9)))))))), hPM_1174, (by (repeat' apply And.intro) <;> omega), (by (repeat' apply And.intro) <;> omega), (by (repeat' apply And.intro) <;> omega), ⟨by omega, (Int.le_trans (Int.le_trans (Int.le_trans (Int.le_trans (Int.le_of_eq (bd_cg (hp_6 15 (by decide)) (hp_6 16 (by decide)) (hp_6 17 (by decide))).symm) ((hp_999 ()).2)) ((hp_1051 ()).2)) ((hp_1097 ()).2)) (Int.le_of_eq (bd_cg (hp_1137 15 (by decide)) (hp_1137 16 (by decide)) (hp_1137 17 (by decide))).symm))⟩, (by (repeat' apply And.intro) <;> omega), (by (repeat' apply And.intro) <;> omega), (fun j hj => ((F_1136.1 126 (by decide) j).trans ((F_1092.1 126 (by decide) j).trans ((hwk_1060 j (by omega)).trans ((F_995.1 126 (by decide) j).trans (F_5.1 126 (by decide) j)))))), (by (repeat' apply And.intro) <;> omega), (by (repeat' apply And.intro) <;> omega), (fun _ h0 => mEY.stp (hS0 () (bd_z (Int.le_trans (Int.le_trans (Int.le_trans (Int.le_trans (Int.le_of_eq (bd_cg (hp_6 15 (by decide)) (hp_6 16 (by decide)) (hp_6 17 (by decide))).symm) ((hp_999 ()).2)) ((hp_1051 ()).2)) ((hp_1097 ()).2)) (Int.le_of_eq (bd_cg (hp_1137 15 (by decide)) (hp_1137 16 (by decide)) (hp_1137 17 (by decide))).symm)) h0)) (hp_7.qm (hq_1027 ())) (as_one (M := (2 * (9 - nn μ))) ((hS0 () (bd_z (Int.le_trans (Int.le_trans (Int.le_trans (Int.le_trans (Int.le_of_eq (bd_cg (hp_6 15 (by decide)) (hp_6 16 (by decide)) (hp_6 17 (by decide))).symm) ((hp_999 ()).2)) ((hp_1051 ()).2)) ((hp_1097 ()).2)) (Int.le_of_eq (bd_cg (hp_1137 15 (by decide)) (hp_1137 16 (by decide)) (hp_1137 17 (by decide))).symm)) h0)).stp (t := tt) (hp_7.qm (hq_1027 ()))).s ((hex_1061 () (bd_z (Int.le_trans ((hp_1097 ()).2) (Int.le_of_eq (bd_cg (hp_1137 15 (by decide)) (hp_1137 16 (by decide)) (hp_1137 17 (by decide))).symm)) h0)).qm (hq_1125 ())) (by omega) (by omega) hp_1138 (by unfold mpl; omega) rfl rfl (fun h1 => ⟨fun q => absurd q (by decide), ⟨fun q => absurd q (by decide), fun q => absurd q (by decide)⟩, fun _ => by omega, fun q => absurd q (by decide), fun q => absurd q (by decide), fun q => absurd q (by decide), fun q => absurd q (by decide), fun q => absurd q (by decide), fun q => absurd q (by decide), fun q => absurd q (by decide), fun q => absurd q (by decide), fun q => absurd q (by decide), fun q => absurd q (by decide), fun q => absurd q (by decide), fun q => absurd q (by decide), fun q => absurd q (by decide), fun q => absurd q (by decide), fun q => absurd q (by decide), fun q => absurd q (by decide), fun q => absurd q (by decide), fun q => absurd q (by decide), ⟨fun q => absurd q (by decide), fun q => absurd q (by decide), fun q => absurd q (by decide)⟩, ⟨by decide, by decide⟩⟩))), hxt_1141⟩
        · refine lv_aload_n hx hb dX12_statement_78 rfl (lv_at hl 1 rfl) ?_
          refine lv_iload_n hx hb dX12_statement_79 rfl (lv_at hl 0 rfl) ?_
          have e_1188 : μ3.1 111 29 = μ.1 111 29 := (hp_6 29 (by decide))
          have e_1189 : μ3.1 111 14 = tt := ((hp_6 14 (by decide)).trans htt.symm)
          have hPM_1190 : PM μ3 := hPM.cg (hp_6 4 (by decide)) (hp_6 6 (by decide)) (hp_6 7 (by decide)) (hp_6 8 (by decide)) (hp_6 9 (by decide)) (hp_6 11 (by decide)) (hp_6 12 (by decide)) ((((hp_6 14 (by decide)).trans htt.symm)).trans (htt.symm).symm) (hp_6 15 (by decide)) (hp_6 29 (by decide)) (fun j => (F_5.1 123 (by decide) j))
          have e_1191 : wr μ3 = wr μ := (wr_cg (hp_6 15 (by decide)))
          have hw_1192 := wr_r (μ := μ)
          have e_1193 : nn μ3 = nn μ := (nn_cg (hp_6 15 (by decide)) (hp_6 18 (by decide)))
          have e_1196 : μ3.1 111 9 = μ.1 111 9 := (hp_6 9 (by decide))
          have e_1198 : μ3.1 111 39 = μ.1 111 39 := (hp_6 39 (by decide))
          have e_1200 : μ3.1 111 31 = μ.1 111 31 := (hp_6 31 (by decide))
          have e_1202 : μ3.1 111 32 = μ.1 111 32 := (hp_6 32 (by decide))
          have e_1207 : μ3.1 111 8 = μ.1 111 8 := (hp_6 8 (by decide))
          have e_1214 : bd μ3 = bd μ := (bd_cg (hp_6 15 (by decide)) (hp_6 16 (by decide)) (hp_6 17 (by decide)))
          refine xc_vV G (b := 111) (rest := []) (As := [.int (iv (μ.1 111 9))]) (c_X12_whiles ω l μ3 (μ.1 111 9) F Lo kf tt (by unfold ir; exact ⟨by omega, by omega⟩) (by (repeat' apply And.intro) <;> omega) hF hLo hK hPM_1190 (by (repeat' apply And.intro) <;> omega) (by (repeat' apply And.intro) <;> omega) (by (repeat' apply And.intro) <;> omega) (by (repeat' apply And.intro) <;> omega) (by (repeat' apply And.intro) <;> omega) (by (repeat' apply And.intro) <;> omega) (by (repeat' apply And.intro) <;> omega) (by (repeat' apply And.intro) <;> omega) (fun _ h0 => ((hS0 () (bd_z (Int.le_of_eq (bd_cg (hp_6 15 (by decide)) (hp_6 16 (by decide)) (hp_6 17 (by decide))).symm) h0)).stp (t := tt) hp_7)) (by (repeat' apply And.intro) <;> omega) (by (repeat' apply And.intro) <;> omega)) (wm 10 6 rfl rfl) (wm 10 8 rfl rfl) (wm 0 173 rfl rfl) rfl rfl (by decide) rfl (wm 1 18 rfl rfl) (wm 10 9 rfl rfl) (by decide) hR ⟨sfr (F := F) (a := 1) (by decide), slo (L := Lo) (m := 4) (a := 20) (by decide)⟩ (n := 1) rfl rfl (Nat.le_of_ble_eq_true rfl) hl.1 dX12_statement_80 (fun μ1218 ρ d0 H locs hp G => ?_)
          obtain ⟨F_1219, hp_1220, hp_1221, hp_1222, hp_1223, hp_1224, hp_1225, hp_1226, hp_1227, hp_1228, hp_1229, hp_1230, hp_1231, hp_1232⟩ := hp
          have hpl_1233 := hp_1221.pl
          have hw_1234 := wr_r (μ := μ1218)
          have hw_1235 := wr_r (μ := μ3)
          have hxt_1236 : mEXT μ μ1218 := hxt_10.tr hp_1232
          have hwk_1237 : ∀ j, j < μ.1 111 39 → μ1218.1 126 j = μ3.1 126 j := fun j hj => hp_1228 j (by omega)
          have hey_1238 : ∀ _ : Unit, bd μ1218 = 0 → mEY μ3 μ1218 tt (2 * (9 - nn μ)) := fun _ h0 => (hp_1231 () h0).mn (by omega)
          have vl_1239 := hp_1222
          replace hp_1222 := fun _ : Unit => hp_1222
          have vl_1240 := hp_1223
          replace hp_1223 := fun _ : Unit => hp_1223
          have vl_1241 := hp_1224
          replace hp_1224 := fun _ : Unit => hp_1224
          have vl_1242 := hp_1225
          replace hp_1225 := fun _ : Unit => hp_1225
          have vl_1243 := hp_1226
          replace hp_1226 := fun _ : Unit => hp_1226
          have vl_1244 := hp_1227
          replace hp_1227 := fun _ : Unit => hp_1227
          have vl_1245 := hp_1229
          replace hp_1229 := fun _ : Unit => hp_1229
          have vl_1246 := hp_1230
          replace hp_1230 := fun _ : Unit => hp_1230
          have h39_1247 : μ1218.1 111 39 = μ.1 111 39 := by omega
          obtain ⟨hv_1250, hv_1251, hv_1252, hv_1253, hv_1254, hv_1255, hv_1256, hv_1257, hv_1258, hv_1259, hv_1260, hv_1261, hv_1262, hv_1263, hv_1264, hv_1265, hv_1266, hv_1267, hv_1268⟩ : μ.1 111 22 ≤ μ1218.1 111 22 ∧ μ1218.1 111 22 ≤ μ.1 111 22 + 2 * (μ1218.1 111 9 - μ.1 111 9) + 8 * (nn μ1218 - nn μ) + 0 + 0 * wr μ1218 ∧ μ.1 111 9 + 0 ≤ μ1218.1 111 9 ∧ μ.1 111 9 + 1 ≤ μ1218.1 111 9 + wr μ1218 ∧ nn μ + 0 ≤ nn μ1218 ∧ nn μ1218 ≤ nn μ + 0 + 9 * wr μ1218 ∧ nn μ1218 ≤ 8 + wr μ1218 ∧ 9 * wr μ1218 ≤ nn μ1218 ∧ nn μ1218 ≤ 9 ∧ wr μ ≤ wr μ1218 ∧ wr μ1218 ≤ 1 ∧ wr μ1218 ≤ bd μ1218 ∧ bd μ1218 ≤ 1 ∧ μ.1 111 29 ≤ μ1218.1 111 29 ∧ μ.1 111 31 ≤ μ1218.1 111 31 ∧ μ1218.1 111 31 ≤ 300 ∧ 0 ≤ μ1218.1 111 32 ∧ μ1218.1 111 32 ≤ μ1218.1 111 9 ∧ μ1218.1 111 9 ≤ 3000 := by (repeat' apply And.intro) <;> omega
          clear hv_15 hv_16 hv_17 hv_18 hv_19 hv_20 hv_21 hv_22 hv_23 hv_24 hv_25 hv_26 hv_27 hv_28 hv_29 hv_30 hv_31 hv_32 e_1188 e_1189 e_1191 hw_1192 e_1193 e_1196 e_1198 e_1200 e_1202 e_1207 e_1214 hpl_1233 hw_1234 hw_1235 vl_1239 vl_1240 vl_1241 vl_1242 vl_1243 vl_1244 vl_1245 vl_1246
          refine lv_goto (tgt := 178) hx hb dX12_statement_83 (by decide) ?_
          have hw_1269 := wr_r (μ := μ1218)
          exact xr_v G hret hlk dX12_statement_178 ⟨(FrM.tr (FrM.tr FrM.rf F_5 (by decide)) F_1219 (by decide)), (fun j hj => ((hp_1220 j (fun h9 => hj ((by decide : ∀ x ∈ ([6, 8, 9, 10, 11, 12, 13, 15, 16, 17, 18, 22, 29, 31, 32, 34, 35, 36, 37, 39] : List Int), x ∈ ([6, 8, 9, 10, 11, 12, 13, 15, 16, 17, 18, 22, 29, 31, 32, 34, 35, 36, 37, 39] : List Int)) j h9))).trans (hp_6 j (fun h9 => hj ((by decide : ∀ x ∈ ([22] : List Int), x ∈ ([6, 8, 9, 10, 11, 12, 13, 15, 16, 17, 18, 22, 29, 31, 32, 34, 35, 36, 37, 39] : List Int)) j h9))))), hp_1221, (by (repeat' apply And.intro) <;> omega), (by (repeat' apply And.intro) <;> omega), (by (repeat' apply And.intro) <;> omega), ⟨by omega, (Int.le_trans (Int.le_of_eq (bd_cg (hp_6 15 (by decide)) (hp_6 16 (by decide)) (hp_6 17 (by decide))).symm) ((hp_1225 ()).2))⟩, (by (repeat' apply And.intro) <;> omega), (by (repeat' apply And.intro) <;> omega), (fun j hj => ((hwk_1237 j (by omega)).trans (F_5.1 126 (by decide) j))), (by (repeat' apply And.intro) <;> omega), (by (repeat' apply And.intro) <;> omega), (fun _ h0 => mEY.stp (hS0 () (bd_z (Int.le_trans (Int.le_of_eq (bd_cg (hp_6 15 (by decide)) (hp_6 16 (by decide)) (hp_6 17 (by decide))).symm) ((hp_1225 ()).2)) h0)) hp_7 (hey_1238 () h0)), hxt_1236⟩
      · refine lv_aload_n hx hb dX12_statement_62 rfl (lv_at hl 1 rfl) ?_
        have e_1270 : μ3.1 111 29 = μ.1 111 29 := (hp_6 29 (by decide))
        have e_1271 : μ3.1 111 14 = tt := ((hp_6 14 (by decide)).trans htt.symm)
        have hPM_1272 : PM μ3 := hPM.cg (hp_6 4 (by decide)) (hp_6 6 (by decide)) (hp_6 7 (by decide)) (hp_6 8 (by decide)) (hp_6 9 (by decide)) (hp_6 11 (by decide)) (hp_6 12 (by decide)) ((((hp_6 14 (by decide)).trans htt.symm)).trans (htt.symm).symm) (hp_6 15 (by decide)) (hp_6 29 (by decide)) (fun j => (F_5.1 123 (by decide) j))
        have e_1273 : wr μ3 = wr μ := (wr_cg (hp_6 15 (by decide)))
        have hw_1274 := wr_r (μ := μ)
        have e_1275 : nn μ3 = nn μ := (nn_cg (hp_6 15 (by decide)) (hp_6 18 (by decide)))
        have e_1278 : μ3.1 111 9 = μ.1 111 9 := (hp_6 9 (by decide))
        have e_1280 : μ3.1 111 39 = μ.1 111 39 := (hp_6 39 (by decide))
        have e_1282 : μ3.1 111 31 = μ.1 111 31 := (hp_6 31 (by decide))
        have e_1284 : μ3.1 111 32 = μ.1 111 32 := (hp_6 32 (by decide))
        have e_1289 : μ3.1 111 8 = μ.1 111 8 := (hp_6 8 (by decide))
        have e_1295 : bd μ3 = bd μ := (bd_cg (hp_6 15 (by decide)) (hp_6 16 (by decide)) (hp_6 17 (by decide)))
        refine xc_vV G (b := 111) (rest := []) (As := []) (c_X12_ifs ω l μ3 F Lo kf tt (by (repeat' apply And.intro) <;> omega) hF hLo hK hPM_1272 (by (repeat' apply And.intro) <;> omega) (by (repeat' apply And.intro) <;> omega) (by (repeat' apply And.intro) <;> omega) (by (repeat' apply And.intro) <;> omega) (by (repeat' apply And.intro) <;> omega) (by (repeat' apply And.intro) <;> omega) (by (repeat' apply And.intro) <;> omega) (by (repeat' apply And.intro) <;> omega) (fun _ h0 => ((hS0 () (bd_z (Int.le_of_eq (bd_cg (hp_6 15 (by decide)) (hp_6 16 (by decide)) (hp_6 17 (by decide))).symm) h0)).stp (t := tt) hp_7)) (by (repeat' apply And.intro) <;> omega)) (wm 10 2 rfl rfl) (wm 10 4 rfl rfl) (wm 0 172 rfl rfl) rfl rfl (by decide) rfl (wm 1 18 rfl rfl) (wm 10 5 rfl rfl) (by decide) hR ⟨sfr (F := F) (a := 1) (by decide), slo (L := Lo) (m := 3) (a := 20) (by decide)⟩ (n := 0) rfl rfl (Nat.le_of_ble_eq_true rfl) hl.1 dX12_statement_63 (fun μ1299 ρ d0 H locs hp G => ?_)
        obtain ⟨F_1300, hp_1301, hp_1302, hp_1303, hp_1304, hp_1305, hp_1306, hp_1307, hp_1308, hp_1309, hp_1310, hp_1311, hp_1312, hp_1313⟩ := hp
        have hpl_1314 := hp_1302.pl
        have hw_1315 := wr_r (μ := μ1299)
        have hw_1316 := wr_r (μ := μ3)
        have hxt_1317 : mEXT μ μ1299 := hxt_10.tr hp_1313
        have hwk_1318 : ∀ j, j < μ.1 111 39 → μ1299.1 126 j = μ3.1 126 j := fun j hj => hp_1309 j (by omega)
        have hey_1319 : ∀ _ : Unit, bd μ1299 = 0 → mEY μ3 μ1299 tt (2 * (9 - nn μ)) := fun _ h0 => (hp_1312 () h0).mn (by omega)
        have vl_1320 := hp_1303
        replace hp_1303 := fun _ : Unit => hp_1303
        have vl_1321 := hp_1304
        replace hp_1304 := fun _ : Unit => hp_1304
        have vl_1322 := hp_1305
        replace hp_1305 := fun _ : Unit => hp_1305
        have vl_1323 := hp_1306
        replace hp_1306 := fun _ : Unit => hp_1306
        have vl_1324 := hp_1307
        replace hp_1307 := fun _ : Unit => hp_1307
        have vl_1325 := hp_1308
        replace hp_1308 := fun _ : Unit => hp_1308
        have vl_1326 := hp_1310
        replace hp_1310 := fun _ : Unit => hp_1310
        have vl_1327 := hp_1311
        replace hp_1311 := fun _ : Unit => hp_1311
        have h39_1328 : μ1299.1 111 39 = μ.1 111 39 := by omega
        obtain ⟨hv_1331, hv_1332, hv_1333, hv_1334, hv_1335, hv_1336, hv_1337, hv_1338, hv_1339, hv_1340, hv_1341, hv_1342, hv_1343, hv_1344, hv_1345, hv_1346, hv_1347, hv_1348, hv_1349⟩ : μ.1 111 22 ≤ μ1299.1 111 22 ∧ μ1299.1 111 22 ≤ μ.1 111 22 + 2 * (μ1299.1 111 9 - μ.1 111 9) + 8 * (nn μ1299 - nn μ) + 0 + 0 * wr μ1299 ∧ μ.1 111 9 + 0 ≤ μ1299.1 111 9 ∧ μ.1 111 9 + 1 ≤ μ1299.1 111 9 + wr μ1299 ∧ nn μ + 0 ≤ nn μ1299 ∧ nn μ1299 ≤ nn μ + 0 + 9 * wr μ1299 ∧ nn μ1299 ≤ 8 + wr μ1299 ∧ 9 * wr μ1299 ≤ nn μ1299 ∧ nn μ1299 ≤ 9 ∧ wr μ ≤ wr μ1299 ∧ wr μ1299 ≤ 1 ∧ wr μ1299 ≤ bd μ1299 ∧ bd μ1299 ≤ 1 ∧ μ.1 111 29 ≤ μ1299.1 111 29 ∧ μ.1 111 31 ≤ μ1299.1 111 31 ∧ μ1299.1 111 31 ≤ 300 ∧ 0 ≤ μ1299.1 111 32 ∧ μ1299.1 111 32 ≤ μ1299.1 111 9 ∧ μ1299.1 111 9 ≤ 3000 := by (repeat' apply And.intro) <;> omega
        clear hv_15 hv_16 hv_17 hv_18 hv_19 hv_20 hv_21 hv_22 hv_23 hv_24 hv_25 hv_26 hv_27 hv_28 hv_29 hv_30 hv_31 hv_32 e_1270 e_1271 e_1273 hw_1274 e_1275 e_1278 e_1280 e_1282 e_1284 e_1289 e_1295 hpl_1314 hw_1315 hw_1316 vl_1320 vl_1321 vl_1322 vl_1323 vl_1324 vl_1325 vl_1326 vl_1327
        refine lv_goto (tgt := 178) hx hb dX12_statement_66 (by decide) ?_
        have hw_1350 := wr_r (μ := μ1299)
        exact xr_v G hret hlk dX12_statement_178 ⟨(FrM.tr (FrM.tr FrM.rf F_5 (by decide)) F_1300 (by decide)), (fun j hj => ((hp_1301 j (fun h9 => hj ((by decide : ∀ x ∈ ([6, 8, 9, 10, 11, 12, 13, 15, 16, 17, 18, 22, 29, 31, 32, 34, 35, 36, 37, 39] : List Int), x ∈ ([6, 8, 9, 10, 11, 12, 13, 15, 16, 17, 18, 22, 29, 31, 32, 34, 35, 36, 37, 39] : List Int)) j h9))).trans (hp_6 j (fun h9 => hj ((by decide : ∀ x ∈ ([22] : List Int), x ∈ ([6, 8, 9, 10, 11, 12, 13, 15, 16, 17, 18, 22, 29, 31, 32, 34, 35, 36, 37, 39] : List Int)) j h9))))), hp_1302, (by (repeat' apply And.intro) <;> omega), (by (repeat' apply And.intro) <;> omega), (by (repeat' apply And.intro) <;> omega), ⟨by omega, (Int.le_trans (Int.le_of_eq (bd_cg (hp_6 15 (by decide)) (hp_6 16 (by decide)) (hp_6 17 (by decide))).symm) ((hp_1306 ()).2))⟩, (by (repeat' apply And.intro) <;> omega), (by (repeat' apply And.intro) <;> omega), (fun j hj => ((hwk_1318 j (by omega)).trans (F_5.1 126 (by decide) j))), (by (repeat' apply And.intro) <;> omega), (by (repeat' apply And.intro) <;> omega), (fun _ h0 => mEY.stp (hS0 () (bd_z (Int.le_trans (Int.le_of_eq (bd_cg (hp_6 15 (by decide)) (hp_6 16 (by decide)) (hp_6 17 (by decide))).symm) ((hp_1306 ()).2)) h0)) hp_7 (hey_1319 () h0)), hxt_1317⟩
    · refine lv_aload_n hx hb dX12_statement_47 rfl (lv_at hl 1 rfl) ?_
      have e_1351 : μ3.1 111 29 = μ.1 111 29 := (hp_6 29 (by decide))
      have e_1352 : μ3.1 111 14 = tt := ((hp_6 14 (by decide)).trans htt.symm)
      have hPM_1353 : PM μ3 := hPM.cg (hp_6 4 (by decide)) (hp_6 6 (by decide)) (hp_6 7 (by decide)) (hp_6 8 (by decide)) (hp_6 9 (by decide)) (hp_6 11 (by decide)) (hp_6 12 (by decide)) ((((hp_6 14 (by decide)).trans htt.symm)).trans (htt.symm).symm) (hp_6 15 (by decide)) (hp_6 29 (by decide)) (fun j => (F_5.1 123 (by decide) j))
      have e_1354 : wr μ3 = wr μ := (wr_cg (hp_6 15 (by decide)))
      have hw_1355 := wr_r (μ := μ)
      have e_1356 : nn μ3 = nn μ := (nn_cg (hp_6 15 (by decide)) (hp_6 18 (by decide)))
      have e_1359 : μ3.1 111 9 = μ.1 111 9 := (hp_6 9 (by decide))
      have e_1361 : μ3.1 111 39 = μ.1 111 39 := (hp_6 39 (by decide))
      have e_1363 : μ3.1 111 31 = μ.1 111 31 := (hp_6 31 (by decide))
      have e_1365 : μ3.1 111 32 = μ.1 111 32 := (hp_6 32 (by decide))
      have e_1370 : μ3.1 111 8 = μ.1 111 8 := (hp_6 8 (by decide))
      have e_1376 : bd μ3 = bd μ := (bd_cg (hp_6 15 (by decide)) (hp_6 16 (by decide)) (hp_6 17 (by decide)))
      refine xc_vV G (b := 111) (rest := []) (As := []) (c_X12_lets ω l μ3 F Lo kf tt (by (repeat' apply And.intro) <;> omega) hF hLo hK hPM_1353 (by (repeat' apply And.intro) <;> omega) (by (repeat' apply And.intro) <;> omega) (by (repeat' apply And.intro) <;> omega) (by (repeat' apply And.intro) <;> omega) (by (repeat' apply And.intro) <;> omega) (by (repeat' apply And.intro) <;> omega) (by (repeat' apply And.intro) <;> omega) (by (repeat' apply And.intro) <;> omega) (fun _ h0 => ((hS0 () (bd_z (Int.le_of_eq (bd_cg (hp_6 15 (by decide)) (hp_6 16 (by decide)) (hp_6 17 (by decide))).symm) h0)).stp (t := tt) hp_7)) (by (repeat' apply And.intro) <;> omega)) (wm 9 131 rfl rfl) (wm 9 133 rfl rfl) (wm 0 145 rfl rfl) rfl rfl (by decide) rfl (wm 1 18 rfl rfl) (wm 9 134 rfl rfl) (by decide) hR ⟨sfr (F := F) (a := 0) (by decide), slo (L := Lo) (m := 5) (a := 0) (by decide)⟩ (n := 0) rfl rfl (Nat.le_of_ble_eq_true rfl) hl.1 dX12_statement_48 (fun μ1380 ρ d0 H locs hp G => ?_)
      obtain ⟨F_1381, hp_1382, hp_1383, hp_1384, hp_1385, hp_1386, hp_1387, hp_1388, hp_1389, hp_1390, hp_1391, hp_1392, hp_1393, hp_1394⟩ := hp
      have hpl_1395 := hp_1383.pl
      have hw_1396 := wr_r (μ := μ1380)
      have hw_1397 := wr_r (μ := μ3)
      have hxt_1398 : mEXT μ μ1380 := hxt_10.tr hp_1394
      have hwk_1399 : ∀ j, j < μ.1 111 39 → μ1380.1 126 j = μ3.1 126 j := fun j hj => hp_1390 j (by omega)
      have hey_1400 : ∀ _ : Unit, bd μ1380 = 0 → mEY μ3 μ1380 tt (2 * (9 - nn μ)) := fun _ h0 => (hp_1393 () h0).mn (by omega)
      have vl_1401 := hp_1384
      replace hp_1384 := fun _ : Unit => hp_1384
      have vl_1402 := hp_1385
      replace hp_1385 := fun _ : Unit => hp_1385
      have vl_1403 := hp_1386
      replace hp_1386 := fun _ : Unit => hp_1386
      have vl_1404 := hp_1387
      replace hp_1387 := fun _ : Unit => hp_1387
      have vl_1405 := hp_1388
      replace hp_1388 := fun _ : Unit => hp_1388
      have vl_1406 := hp_1389
      replace hp_1389 := fun _ : Unit => hp_1389
      have vl_1407 := hp_1391
      replace hp_1391 := fun _ : Unit => hp_1391
      have vl_1408 := hp_1392
      replace hp_1392 := fun _ : Unit => hp_1392
      have h39_1409 : μ1380.1 111 39 = μ.1 111 39 := by omega
      obtain ⟨hv_1412, hv_1413, hv_1414, hv_1415, hv_1416, hv_1417, hv_1418, hv_1419, hv_1420, hv_1421, hv_1422, hv_1423, hv_1424, hv_1425, hv_1426, hv_1427, hv_1428, hv_1429, hv_1430⟩ : μ.1 111 22 ≤ μ1380.1 111 22 ∧ μ1380.1 111 22 ≤ μ.1 111 22 + 2 * (μ1380.1 111 9 - μ.1 111 9) + 8 * (nn μ1380 - nn μ) + 0 + 0 * wr μ1380 ∧ μ.1 111 9 + 0 ≤ μ1380.1 111 9 ∧ μ.1 111 9 + 1 ≤ μ1380.1 111 9 + wr μ1380 ∧ nn μ + 0 ≤ nn μ1380 ∧ nn μ1380 ≤ nn μ + 0 + 9 * wr μ1380 ∧ nn μ1380 ≤ 8 + wr μ1380 ∧ 9 * wr μ1380 ≤ nn μ1380 ∧ nn μ1380 ≤ 9 ∧ wr μ ≤ wr μ1380 ∧ wr μ1380 ≤ 1 ∧ wr μ1380 ≤ bd μ1380 ∧ bd μ1380 ≤ 1 ∧ μ.1 111 29 ≤ μ1380.1 111 29 ∧ μ.1 111 31 ≤ μ1380.1 111 31 ∧ μ1380.1 111 31 ≤ 300 ∧ 0 ≤ μ1380.1 111 32 ∧ μ1380.1 111 32 ≤ μ1380.1 111 9 ∧ μ1380.1 111 9 ≤ 3000 := by (repeat' apply And.intro) <;> omega
      clear hv_15 hv_16 hv_17 hv_18 hv_19 hv_20 hv_21 hv_22 hv_23 hv_24 hv_25 hv_26 hv_27 hv_28 hv_29 hv_30 hv_31 hv_32 e_1351 e_1352 e_1354 hw_1355 e_1356 e_1359 e_1361 e_1363 e_1365 e_1370 e_1376 hpl_1395 hw_1396 hw_1397 vl_1401 vl_1402 vl_1403 vl_1404 vl_1405 vl_1406 vl_1407 vl_1408
      refine lv_goto (tgt := 178) hx hb dX12_statement_51 (by decide) ?_
      have hw_1431 := wr_r (μ := μ1380)
      exact xr_v G hret hlk dX12_statement_178 ⟨(FrM.tr (FrM.tr FrM.rf F_5 (by decide)) F_1381 (by decide)), (fun j hj => ((hp_1382 j (fun h9 => hj ((by decide : ∀ x ∈ ([6, 8, 9, 10, 11, 12, 13, 15, 16, 17, 18, 22, 29, 31, 32, 34, 35, 36, 37, 39] : List Int), x ∈ ([6, 8, 9, 10, 11, 12, 13, 15, 16, 17, 18, 22, 29, 31, 32, 34, 35, 36, 37, 39] : List Int)) j h9))).trans (hp_6 j (fun h9 => hj ((by decide : ∀ x ∈ ([22] : List Int), x ∈ ([6, 8, 9, 10, 11, 12, 13, 15, 16, 17, 18, 22, 29, 31, 32, 34, 35, 36, 37, 39] : List Int)) j h9))))), hp_1383, (by (repeat' apply And.intro) <;> omega), (by (repeat' apply And.intro) <;> omega), (by (repeat' apply And.intro) <;> omega), ⟨by omega, (Int.le_trans (Int.le_of_eq (bd_cg (hp_6 15 (by decide)) (hp_6 16 (by decide)) (hp_6 17 (by decide))).symm) ((hp_1387 ()).2))⟩, (by (repeat' apply And.intro) <;> omega), (by (repeat' apply And.intro) <;> omega), (fun j hj => ((hwk_1399 j (by omega)).trans (F_5.1 126 (by decide) j))), (by (repeat' apply And.intro) <;> omega), (by (repeat' apply And.intro) <;> omega), (fun _ h0 => mEY.stp (hS0 () (bd_z (Int.le_trans (Int.le_of_eq (bd_cg (hp_6 15 (by decide)) (hp_6 16 (by decide)) (hp_6 17 (by decide))).symm) ((hp_1387 ()).2)) h0)) hp_7 (hey_1400 () h0)), hxt_1398⟩
